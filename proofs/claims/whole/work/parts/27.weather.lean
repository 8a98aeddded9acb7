theorem l0 : (0 : Int32) = nI 0 := rfl
def vO (o : Option Nat) : Nat := match o with
  | none => 0
  | some v => v
def cO (o : Option Nat) : Nat := match o with
  | none => 0
  | some _ => 1
def pS (SN : Nat → Option Nat) : Nat → Nat
  | 0 => 0
  | i + 1 => pS SN i + vO (SN i)
def pC (SN : Nat → Option Nat) : Nat → Nat
  | 0 => 0
  | i + 1 => pC SN i + cO (SN i)
def mn (SN : Nat → Option Nat) : Nat := if pC SN 3 = 0 then 0 else pS SN 3 / pC SN 3
/-- SNOW of a HEIGHT -/
def sno (SN : Nat → Option Nat) (h : Nat) : Nat := match SN h with
  | none => mn SN
  | some v => v
def rS (μ : ab_M) (p : Nat) (SN : Nat → Option Nat) : Prop := ∀ h, h < 3 → μ p h = oi (SN h) ∧ vO (SN h) ≤ 200
theorem oi_m {o : Option Nat} (h : vO o ≤ 200) : (oi o = -1) = (o = none) := by
  cases o with
  | none => simp [oi]
  | some v =>
    have hv : v ≤ 200 := h
    simp (disch := omega) only [oi, q_nm]
    simp
theorem cO_le (o : Option Nat) : cO o ≤ 1 := by cases o <;> simp [cO]
theorem mn_le {SN : Nat → Option Nat} (hs : ∀ h, h < 3 → vO (SN h) ≤ 200) : mn SN ≤ 600 := by
  unfold mn
  split
  · omega
  · refine Nat.le_trans (Nat.div_le_self _ _) ?_
    have h0 := hs 0 (by decide)
    have h1 := hs 1 (by decide)
    have h2 := hs 2 (by decide)
    simp only [pS]
    omega
section WEA
variable {d : Nat} {μ : ab_M} {Q : ab_Q} {SN : Nat → Option Nat}
theorem C68 {v : Int32} (h : Q (some (if v < 0 then 0 else if 3 ≤ v then 0 else 1)) μ) : ab_Cl (d + 1) 68 [.int v] μ Q := by
  refine n68 fun J run => run 20 _ _ _ _ ?_
  simp only [e68_0, e68_1, e68_4, e68_5, e68_6, e68_9, e68_10, e68_13, e68_14, true_or, or_true, true_and, and_true, ab_pus, ab_pun, ab_len0, ab_len1, ab_len2, ab_len3, ab_len4, Nat.zero_add]
  refine ⟨fun h1 => ?_, fun h1 => ⟨fun h2 => ?_, fun h2 => ?_⟩⟩ <;> simp_all
theorem C69 {v : Int32} (h : Q (some (if v < 0 then 0 else if 12 ≤ v then 0 else 1)) μ) : ab_Cl (d + 1) 69 [.int v] μ Q := by
  refine n69 fun J run => run 20 _ _ _ _ ?_
  simp only [e69_0, e69_1, e69_4, e69_5, e69_7, e69_10, e69_11, e69_14, e69_15, true_or, or_true, true_and, and_true, ab_pus, ab_pun, ab_len0, ab_len1, ab_len2, ab_len3, ab_len4, Nat.zero_add]
  refine ⟨fun h1 => ?_, fun h1 => ⟨fun h2 => ?_, fun h2 => ?_⟩⟩ <;> simp_all
theorem C68n {k : Nat} (hk : k < 3) (h : Q (some 1) μ) : ab_Cl (d + 1) 68 [.int (nI k)] μ Q := by
  refine C68 ?_
  rw [if_neg (nI_pos (by omega)), if_neg (by rw [l3, q_le (by omega) (by omega)]; omega)]
  exact h
theorem C69n {k : Nat} (hk : k < 12) (h : Q (some 1) μ) : ab_Cl (d + 1) 69 [.int (nI k)] μ Q := by
  refine C69 ?_
  rw [if_neg (nI_pos (by omega)), if_neg (by rw [l12, q_le (by omega) (by omega)]; omega)]
  exact h
theorem C49 (hs : rS μ 3 SN) (h : Q (some (nI (mn SN))) μ) : ab_Cl (d + 1) 49 [.ref 2] μ Q := by
  refine n49 fun J run => ?_
  have bnd : ∀ i, i ≤ 3 → pS SN i ≤ 200 * i ∧ pC SN i ≤ i := by
    intro i
    induction i with
    | zero => intro _; exact ⟨Nat.le_refl _, Nat.le_refl _⟩
    | succ i ih =>
      intro hi
      have := ih (by omega)
      have h2 := (hs i (by omega)).2
      have h3 := cO_le (SN i)
      simp only [pS, pC]
      omega
  have loop : ∀ f i, 3 - i ≤ f → i ≤ 3 → J 6 μ [.ref 2, .int (nI (pS SN i)), .int (nI (pC SN i)), .int (nI i)] [] := by
    intro f
    induction f with
    | zero =>
      intro i h1 h2
      obtain rfl : i = 3 := by omega
      obtain ⟨b1, b2⟩ := bnd 3 (Nat.le_refl _)
      refine run 30 _ _ _ _ ?_
      simp (disch := omega) only [e49_0, e49_1, e49_2, e49_3, e49_4, e49_5, e49_6, e49_7, e49_8, e49_11, e49_12, e49_15, e49_16, e49_17, e49_18, e49_21, e49_22, e49_23, e49_26, e49_27, e49_28, e49_29, e49_30, e49_33, e49_36, e49_39, e49_40, e49_43, e49_44, e49_47, e49_48, e49_49, e49_50, ab_li1, true_or, or_true, true_and, and_true, ab_pus, ab_pun, ab_len0, ab_len1, ab_len2, ab_len3, ab_len4, Nat.zero_add, l3, q_le, Nat.le_refl, q_eq0, true_imp_iff, not_true_eq_false, false_imp_iff]
      unfold mn at h
      refine ⟨fun g => ⟨g, ?_⟩, fun g => ?_⟩
      · rw [if_neg g] at h
        rw [q_dv (by omega) (by omega) (by omega)]
        exact h
      · rw [if_pos (by omega)] at h
        exact h
    | succ f ih =>
      intro i h1 h2
      by_cases hi : i = 3
      · exact ih i (by omega) h2
      · obtain ⟨s1, s2⟩ := hs i (by omega)
        refine run 30 _ _ _ _ ?_
        simp (disch := omega) only [e49_0, e49_1, e49_2, e49_3, e49_4, e49_5, e49_6, e49_7, e49_8, e49_11, e49_12, e49_15, e49_16, e49_17, e49_18, e49_21, e49_22, e49_23, e49_26, e49_27, e49_28, e49_29, e49_30, e49_33, e49_36, e49_39, e49_40, e49_43, e49_44, e49_47, e49_48, e49_49, e49_50, ab_li1, true_or, or_true, true_and, and_true, ab_pus, ab_pun, ab_len0, ab_len1, ab_len2, ab_len3, ab_len4, Nat.zero_add, l3, q_le, q_in, q_cl, s1, oi_m s2, q_p1]
        refine ⟨fun z => absurd z (by omega), fun _ => ⟨fun g => ?_, fun g => ?_⟩⟩
        · have := ih (i + 1) (by omega) (by omega)
          simp only [pS, pC, g, vO, cO, Nat.add_zero] at this
          exact this
        · cases ho : SN i with
          | none => exact absurd ho g
          | some v =>
            have := ih (i + 1) (by omega) (by omega)
            simp only [pS, pC, ho, vO, cO] at this
            simp only [oi, q_ad]
            exact this
  refine run 6 _ _ _ _ ?_
  simp only [e49_0, e49_1, e49_2, e49_3, e49_4, e49_5, e49_6, e49_7, e49_8, e49_11, e49_12, e49_15, e49_16, e49_17, e49_18, e49_21, e49_22, e49_23, e49_26, e49_27, e49_28, e49_29, e49_30, e49_33, e49_36, e49_39, e49_40, e49_43, e49_44, e49_47, e49_48, e49_49, e49_50, ab_li1, true_or, or_true, true_and, and_true, ab_pus, ab_pun, ab_len0, ab_len1, ab_len2, ab_len3, ab_len4, Nat.zero_add, ab_rn0]
  exact loop 3 0 (by decide) (by decide)
theorem C43 (hs : rS μ 3 SN) {k : Nat} (hk : k < 3) (h : Q (some (nI (10 * sno SN k))) μ) : ab_Cl (d + 2) 43 [.ref 2, .int (nI k)] μ Q := by
  refine n43 fun J run => run 30 _ _ _ _ ?_
  simp only [e43_0, e43_1, e43_4, e43_7, e43_8, e43_9, e43_11, e43_12, e43_15, e43_16, e43_17, e43_18, e43_21, e43_22, e43_25, e43_28, e43_29, e43_32, e43_33, e43_34, e43_35, ab_li1, true_or, or_true, true_and, and_true, ab_pus, ab_pun, ab_len0, ab_len1, ab_len2, ab_len3, ab_len4, Nat.zero_add]
  refine C68n hk ?_
  have h10 : ¬ (1 : Int32) = 0 := by decide
  obtain ⟨s1, s2⟩ := hs k hk
  simp (disch := omega) only [e43_0, e43_1, e43_4, e43_7, e43_8, e43_9, e43_11, e43_12, e43_15, e43_16, e43_17, e43_18, e43_21, e43_22, e43_25, e43_28, e43_29, e43_32, e43_33, e43_34, e43_35, ab_li1, true_or, or_true, true_and, and_true, ab_pus, ab_pun, ab_len0, ab_len1, ab_len2, ab_len3, ab_len4, Nat.zero_add, h10, q_in, q_cl, s1, oi_m s2, not_true_eq_false, false_imp_iff, not_false_eq_true, true_imp_iff]
  refine ⟨fun g => ?_, fun g => ?_⟩
  · unfold sno at h
    cases ho : SN k with
    | none => exact absurd ho g
    | some v =>
      rw [ho] at h
      simp only [oi, l10, q_mu]
      exact h
  · have g : SN k = none := Classical.not_not.mp g
    refine C49 hs ?_
    simp only [e43_0, e43_1, e43_4, e43_7, e43_8, e43_9, e43_11, e43_12, e43_15, e43_16, e43_17, e43_18, e43_21, e43_22, e43_25, e43_28, e43_29, e43_32, e43_33, e43_34, e43_35, ab_li1, true_or, or_true, true_and, and_true, ab_pus, ab_pun, ab_len0, ab_len1, ab_len2, ab_len3, ab_len4, Nat.zero_add, l10, q_mu]
    unfold sno at h
    rw [g] at h
    exact h
def wA (μ : ab_M) (h : Nat) : Int32 := if μ 4 h = -100 then μ 5 h else μ 4 h
theorem C44 {k : Nat} (hk : k < 3) (h : Q (some (wA μ k)) μ) : ab_Cl (d + 2) 44 [.ref 2, .int (nI k)] μ Q := by
  refine n44 fun J run => run 30 _ _ _ _ ?_
  simp only [e44_0, e44_1, e44_4, e44_7, e44_9, e44_10, e44_11, e44_14, e44_15, e44_16, e44_18, e44_21, e44_22, e44_25, e44_26, e44_27, e44_30, e44_31, e44_34, e44_35, e44_36, ab_li1, true_or, or_true, true_and, and_true, ab_pus, ab_pun, ab_len0, ab_len1, ab_len2, ab_len3, ab_len4, Nat.zero_add]
  refine C68n hk ?_
  have h10 : ¬ (1 : Int32) = 0 := by decide
  simp (disch := omega) only [e44_0, e44_1, e44_4, e44_7, e44_9, e44_10, e44_11, e44_14, e44_15, e44_16, e44_18, e44_21, e44_22, e44_25, e44_26, e44_27, e44_30, e44_31, e44_34, e44_35, e44_36, ab_li1, true_or, or_true, true_and, and_true, ab_pus, ab_pun, ab_len0, ab_len1, ab_len2, ab_len3, ab_len4, Nat.zero_add, h10, q_in, q_cl, not_true_eq_false, false_imp_iff, not_false_eq_true, true_imp_iff]
  unfold wA at h
  refine ⟨fun g => ?_, fun g => ?_⟩
  · rw [if_neg g] at h; exact h
  · rw [if_pos (Classical.not_not.mp g)] at h; exact h
theorem C85 (hs : rS μ 70 SN) {k : Nat} (hk : k < 3) (h : Q (some (nI (sno SN k))) μ) : ab_Cl (d + 1) 85 [.ref 65, .int (nI k)] μ Q := by
  refine n85 fun J run => ?_
  obtain ⟨k1, k2⟩ := hs k hk
  have bnd : ∀ i, i ≤ 3 → pS SN i ≤ 200 * i ∧ pC SN i ≤ i := by
    intro i
    induction i with
    | zero => intro _; exact ⟨Nat.le_refl _, Nat.le_refl _⟩
    | succ i ih =>
      intro hi
      have := ih (by omega)
      have h2 := (hs i (by omega)).2
      have h3 := cO_le (SN i)
      simp only [pS, pC]
      omega
  cases hk0 : SN k with
  | some v =>
    refine run 12 _ _ _ _ ?_
    rw [hk0] at k1 k2
    have hv : v ≤ 200 := k2
    simp (disch := omega) only [e85_0, e85_1, e85_4, e85_5, e85_6, e85_7, e85_10, e85_11, e85_14, e85_15, e85_16, e85_17, e85_18, e85_19, e85_20, e85_21, e85_22, e85_24, e85_26, e85_27, e85_30, e85_31, e85_34, e85_36, e85_37, e85_38, e85_41, e85_44, e85_47, e85_48, e85_49, e85_52, e85_54, e85_55, e85_56, e85_57, e85_60, e85_63, e85_64, e85_67, e85_68, e85_71, e85_72, e85_73, e85_74, ab_li2, true_or, or_true, true_and, and_true, ab_pus, ab_pun, ab_len0, ab_len1, ab_len2, ab_len3, ab_len4, Nat.zero_add, q_in, q_cl, k1, oi, q_nm, false_imp_iff, not_false_eq_true, true_imp_iff]
    unfold sno at h
    rw [hk0] at h
    exact h
  | none =>
    have loop : ∀ f i, 3 - i ≤ f → i ≤ 3 → J 24 μ [.ref 65, .int (nI k), .int (nI (pC SN i)), .int (nI (pS SN i)), .int (nI i)] [] := by
      intro f
      induction f with
      | zero =>
        intro i h1 h2
        obtain rfl : i = 3 := by omega
        obtain ⟨b1, b2⟩ := bnd 3 (Nat.le_refl _)
        refine run 30 _ _ _ _ ?_
        simp (disch := omega) only [e85_0, e85_1, e85_4, e85_5, e85_6, e85_7, e85_10, e85_11, e85_14, e85_15, e85_16, e85_17, e85_18, e85_19, e85_20, e85_21, e85_22, e85_24, e85_26, e85_27, e85_30, e85_31, e85_34, e85_36, e85_37, e85_38, e85_41, e85_44, e85_47, e85_48, e85_49, e85_52, e85_54, e85_55, e85_56, e85_57, e85_60, e85_63, e85_64, e85_67, e85_68, e85_71, e85_72, e85_73, e85_74, ab_li2, true_or, or_true, true_and, and_true, ab_pus, ab_pun, ab_len0, ab_len1, ab_len2, ab_len3, ab_len4, Nat.zero_add, l3, q_le, Nat.le_refl, q_eq0, true_imp_iff, not_true_eq_false, false_imp_iff]
        unfold sno at h
        rw [hk0] at h
        dsimp only at h
        unfold mn at h
        refine ⟨fun g => ⟨g, ?_⟩, fun g => ?_⟩
        · rw [if_neg g] at h
          rw [q_dv (by omega) (by omega) (by omega)]
          exact h
        · rw [if_pos (by omega)] at h
          exact h
      | succ f ih =>
        intro i h1 h2
        by_cases hi : i = 3
        · exact ih i (by omega) h2
        · obtain ⟨s1, s2⟩ := hs i (by omega)
          refine run 30 _ _ _ _ ?_
          simp (disch := omega) only [e85_0, e85_1, e85_4, e85_5, e85_6, e85_7, e85_10, e85_11, e85_14, e85_15, e85_16, e85_17, e85_18, e85_19, e85_20, e85_21, e85_22, e85_24, e85_26, e85_27, e85_30, e85_31, e85_34, e85_36, e85_37, e85_38, e85_41, e85_44, e85_47, e85_48, e85_49, e85_52, e85_54, e85_55, e85_56, e85_57, e85_60, e85_63, e85_64, e85_67, e85_68, e85_71, e85_72, e85_73, e85_74, ab_li2, true_or, or_true, true_and, and_true, ab_pus, ab_pun, ab_len0, ab_len1, ab_len2, ab_len3, ab_len4, Nat.zero_add, l3, q_le, q_in, q_cl, s1, oi_m s2, q_p1]
          refine ⟨fun z => absurd z (by omega), fun _ => ⟨fun g => ?_, fun g => ?_⟩⟩
          · cases ho : SN i with
            | none => exact absurd ho g
            | some v =>
              have := ih (i + 1) (by omega) (by omega)
              simp only [pS, pC, ho, vO, cO] at this
              simp only [oi, q_ad]
              exact this
          · have g : SN i = none := Classical.not_not.mp g
            have := ih (i + 1) (by omega) (by omega)
            simp only [pS, pC, g, vO, cO, Nat.add_zero] at this
            exact this
    refine run 12 _ _ _ _ ?_
    rw [hk0] at k1
    simp (disch := omega) only [e85_0, e85_1, e85_4, e85_5, e85_6, e85_7, e85_10, e85_11, e85_14, e85_15, e85_16, e85_17, e85_18, e85_19, e85_20, e85_21, e85_22, e85_24, e85_26, e85_27, e85_30, e85_31, e85_34, e85_36, e85_37, e85_38, e85_41, e85_44, e85_47, e85_48, e85_49, e85_52, e85_54, e85_55, e85_56, e85_57, e85_60, e85_63, e85_64, e85_67, e85_68, e85_71, e85_72, e85_73, e85_74, ab_li2, true_or, or_true, true_and, and_true, ab_pus, ab_pun, ab_len0, ab_len1, ab_len2, ab_len3, ab_len4, Nat.zero_add, ab_rn0, q_in, q_cl, k1, oi, eq_self, not_true_eq_false, false_imp_iff, true_imp_iff]
    exact loop 3 0 (by decide) (by decide)
end WEA
