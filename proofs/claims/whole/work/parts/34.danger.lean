def spc (X : Nat → List ly) (h : Nat) : Nat → Nat
  | 0 => 0
  | i + 1 => spc X h i + (if 2 ≤ lk (X (4 * h + i)) then 1 else 0)
def dgr (l p z : Nat) : Nat := if l = 0 then 1 else max 1 (min 5 (1 + l + (if 2 ≤ p then 1 else 0) + z - 1))
def dg (X : Nat → List ly) (c : Nat) : Nat := dgr (lk (X c)) (spc X (c / 4) 4) (sz (X c))
def gdm (X : Nat → List ly) : Nat → Nat
  | 0 => 1
  | n + 1 => max (gdm X n) (dg X n)
def gm (X : Nat → List ly) : Nat → Nat
  | 0 => 0
  | n + 1 => max (gm X n) (dg X n)
def tot (X : Nat → List ly) : Nat → Nat
  | 0 => 0
  | n + 1 => tot X n + sm (X n)
theorem spc_le (X : Nat → List ly) (h i : Nat) : spc X h i ≤ i := by
  induction i with
  | zero => exact Nat.le_refl _
  | succ i ih => simp only [spc]; split <;> omega
theorem dg_in (X : Nat → List ly) (c : Nat) : 1 ≤ dg X c ∧ dg X c ≤ 5 := by unfold dg dgr; split <;> omega
theorem gdm_gm (X : Nat → List ly) (n : Nat) : gdm X n = max 1 (gm X n) := by
  induction n with
  | zero => rfl
  | succ n ih => simp only [gdm, gm, ih]; omega
theorem gdm_le (X : Nat → List ly) (n : Nat) : gdm X n ≤ 5 := by
  induction n with
  | zero => show 1 ≤ 5; decide
  | succ n ih => have := dg_in X n; simp only [gdm]; omega
theorem gm_le (X : Nat → List ly) (n : Nat) : gm X n ≤ 5 := by
  induction n with
  | zero => show 0 ≤ 5; decide
  | succ n ih => have := dg_in X n; simp only [gm]; omega
theorem gdm12 (X : Nat → List ly) : gdm X 12 = gm X 12 := by
  have h1 := gdm_gm X 12
  have h2 := (dg_in X 11).1
  have h3 : gm X 12 = max (gm X 11) (dg X 11) := rfl
  omega
section DAN
variable {d : Nat} {μ : ab_M} {Q : ab_Q} {X : Nat → List ly}
theorem C18f {c : Nat} {L : List ly} (hc : c < 12) (hL : rC μ c L) (ho : okL L) (h : Q (some (nI (lk L))) μ) : ab_Cl (d + 3) 18 [.ref (17 + 4 * c), .int (nI L.length)] μ Q := C18 hc hL ho (Nat.le_refl _) (by rw [List.take_length]; exact h)
theorem C19f {c : Nat} {L : List ly} (hc : c < 12) (hL : rC μ c L) (ho : okL L) (h : Q (some (nI (sz L))) μ) : ab_Cl (d + 3) 19 [.ref (17 + 4 * c), .int (nI L.length)] μ Q := C19 hc hL ho (Nat.le_refl _) (by rw [List.take_length]; exact h)
theorem C17f {c : Nat} {L : List ly} (hc : c < 12) (hL : rC μ c L) (ho : okL L) (h : Q (some (wI (whyL L) 0)) μ) : ab_Cl (d + 2) 17 [.ref (17 + 4 * c), .int (nI L.length)] μ Q := C17 hc hL ho (Nat.le_refl _) (by rw [List.take_length]; exact h)
theorem C76 {k : Nat} (hk : k < 3) (hX : aC μ X) (ho : ∀ c, c < 12 → okL (X c)) (h : Q (some (if 2 ≤ spc X k 4 then 1 else 0)) μ) : ab_Cl (d + 4) 76 [.ref 0, .int (nI k)] μ Q := by
  refine n76 fun J run => ?_
  have loop : ∀ f i x, 4 - i ≤ f → i ≤ 4 → J 4 μ [.ref 0, .int (nI k), .int (nI (spc X k i)), .int (nI i), x] [] := by
    intro f
    induction f with
    | zero =>
      intro i x h1 h2
      obtain rfl : i = 4 := by omega
      have := spc_le X k 4
      refine run 20 _ _ _ _ ?_
      simp (disch := omega) only [e76_0, e76_1, e76_2, e76_3, e76_4, e76_5, e76_6, e76_9, e76_10, e76_13, e76_14, e76_15, e76_16, e76_17, e76_18, e76_19, e76_21, e76_23, e76_25, e76_28, e76_31, e76_32, e76_35, e76_38, e76_41, e76_44, e76_45, e76_46, e76_49, e76_50, e76_53, e76_54, ab_li1, true_or, or_true, true_and, and_true, ab_pus, ab_pun, ab_len0, ab_len1, ab_len2, ab_len3, ab_len4, Nat.zero_add, l4, l2, q_le, q_lt, Nat.le_refl, true_imp_iff, not_true_eq_false, false_imp_iff]
      refine ⟨fun g => ?_, fun g => ?_⟩
      · rw [if_neg (by omega)] at h; exact h
      · rw [if_pos (by omega)] at h; exact h
    | succ f ih =>
      intro i x h1 h2
      by_cases hi : i = 4
      · exact ih i x (by omega) h2
      · have hc : 4 * k + i < 12 := by omega
        have := spc_le X k i
        have hl := lk_le (X (4 * k + i))
        have cm : k * 4 + i = 4 * k + i := by omega
        refine run 40 _ _ _ _ ?_
        simp (disch := omega) only [e76_0, e76_1, e76_2, e76_3, e76_4, e76_5, e76_6, e76_9, e76_10, e76_13, e76_14, e76_15, e76_16, e76_17, e76_18, e76_19, e76_21, e76_23, e76_25, e76_28, e76_31, e76_32, e76_35, e76_38, e76_41, e76_44, e76_45, e76_46, e76_49, e76_50, e76_53, e76_54, ab_li1, true_or, or_true, true_and, and_true, ab_pus, ab_pun, ab_len0, ab_len1, ab_len2, ab_len3, ab_len4, Nat.zero_add, l4, q_le, q_mu, q_ad, cm, q_in, q_cl, ab_sl hc]
        refine ⟨fun z => absurd z (by omega), fun _ => ?_⟩
        refine C10 hc (hX _ hc) ?_
        simp (disch := omega) only [e76_0, e76_1, e76_2, e76_3, e76_4, e76_5, e76_6, e76_9, e76_10, e76_13, e76_14, e76_15, e76_16, e76_17, e76_18, e76_19, e76_21, e76_23, e76_25, e76_28, e76_31, e76_32, e76_35, e76_38, e76_41, e76_44, e76_45, e76_46, e76_49, e76_50, e76_53, e76_54, ab_li1, true_or, or_true, true_and, and_true, ab_pus, ab_pun, ab_len0, ab_len1, ab_len2, ab_len3, ab_len4, Nat.zero_add, ab_sl hc]
        refine C18f hc (hX _ hc) (ho _ hc) ?_
        simp (disch := omega) only [e76_0, e76_1, e76_2, e76_3, e76_4, e76_5, e76_6, e76_9, e76_10, e76_13, e76_14, e76_15, e76_16, e76_17, e76_18, e76_19, e76_21, e76_23, e76_25, e76_28, e76_31, e76_32, e76_35, e76_38, e76_41, e76_44, e76_45, e76_46, e76_49, e76_50, e76_53, e76_54, ab_li1, true_or, or_true, true_and, and_true, ab_pus, ab_pun, ab_len0, ab_len1, ab_len2, ab_len3, ab_len4, Nat.zero_add, l2, q_lt, q_p1]
        refine ⟨fun g => ?_, fun g => ?_⟩
        · have := ih (i + 1) (.ref (17 + 4 * (4 * k + i))) (by omega) (by omega)
          simp only [spc] at this
          rw [if_neg (by omega), Nat.add_zero] at this
          exact this
        · have := ih (i + 1) (.ref (17 + 4 * (4 * k + i))) (by omega) (by omega)
          simp only [spc] at this
          rw [if_pos (by omega)] at this
          exact this
  refine run 4 _ _ _ _ ?_
  simp only [e76_0, e76_1, e76_2, e76_3, e76_4, e76_5, e76_6, e76_9, e76_10, e76_13, e76_14, e76_15, e76_16, e76_17, e76_18, e76_19, e76_21, e76_23, e76_25, e76_28, e76_31, e76_32, e76_35, e76_38, e76_41, e76_44, e76_45, e76_46, e76_49, e76_50, e76_53, e76_54, ab_li1, true_or, or_true, true_and, and_true, ab_pus, ab_pun, ab_len0, ab_len1, ab_len2, ab_len3, ab_len4, Nat.zero_add, ab_rn0]
  exact loop 4 0 _ (by decide) (by decide)
theorem C75 {c : Nat} (hc : c < 12) (hX : aC μ X) (ho : ∀ c, c < 12 → okL (X c)) (h : Q (some (nI (dg X c))) μ) : ab_Cl (d + 5) 75 [.ref 0, .int (nI c)] μ Q := by
  have hl := lk_le (X c)
  have hz := sz_le (X c)
  have e4 : ¬ (nI 4 = 0) := by decide
  refine n75 fun J run => run 60 _ _ _ _ ?_
  simp (disch := omega) only [e75_0, e75_1, e75_4, e75_5, e75_6, e75_7, e75_8, e75_9, e75_12, e75_15, e75_16, e75_17, e75_20, e75_21, e75_22, e75_23, e75_24, e75_25, e75_26, e75_27, e75_28, e75_29, e75_32, e75_33, e75_34, e75_35, e75_38, e75_41, e75_42, e75_43, e75_44, e75_46, e75_47, e75_48, e75_50, e75_53, e75_56, ab_li1, true_or, or_true, true_and, and_true, ab_pus, ab_pun, ab_len0, ab_len1, ab_len2, ab_len3, ab_len4, Nat.zero_add, q_in, q_cl, ab_sl hc]
  refine C10 hc (hX _ hc) ?_
  simp (disch := omega) only [e75_0, e75_1, e75_4, e75_5, e75_6, e75_7, e75_8, e75_9, e75_12, e75_15, e75_16, e75_17, e75_20, e75_21, e75_22, e75_23, e75_24, e75_25, e75_26, e75_27, e75_28, e75_29, e75_32, e75_33, e75_34, e75_35, e75_38, e75_41, e75_42, e75_43, e75_44, e75_46, e75_47, e75_48, e75_50, e75_53, e75_56, ab_li1, true_or, or_true, true_and, and_true, ab_pus, ab_pun, ab_len0, ab_len1, ab_len2, ab_len3, ab_len4, Nat.zero_add, ab_sl hc]
  refine C18f hc (hX _ hc) (ho _ hc) ?_
  simp (disch := omega) only [e75_0, e75_1, e75_4, e75_5, e75_6, e75_7, e75_8, e75_9, e75_12, e75_15, e75_16, e75_17, e75_20, e75_21, e75_22, e75_23, e75_24, e75_25, e75_26, e75_27, e75_28, e75_29, e75_32, e75_33, e75_34, e75_35, e75_38, e75_41, e75_42, e75_43, e75_44, e75_46, e75_47, e75_48, e75_50, e75_53, e75_56, ab_li1, true_or, or_true, true_and, and_true, ab_pus, ab_pun, ab_len0, ab_len1, ab_len2, ab_len3, ab_len4, Nat.zero_add, q_eq0, l4, e4, q_dv, not_false_eq_true]
  unfold dg dgr at h
  refine ⟨fun g => ?_, fun g => ?_⟩
  · rw [if_neg g] at h
    refine C76 (by omega) hX ho ?_
    simp (disch := omega) only [e75_0, e75_1, e75_4, e75_5, e75_6, e75_7, e75_8, e75_9, e75_12, e75_15, e75_16, e75_17, e75_20, e75_21, e75_22, e75_23, e75_24, e75_25, e75_26, e75_27, e75_28, e75_29, e75_32, e75_33, e75_34, e75_35, e75_38, e75_41, e75_42, e75_43, e75_44, e75_46, e75_47, e75_48, e75_50, e75_53, e75_56, ab_li1, true_or, or_true, true_and, and_true, ab_pus, ab_pun, ab_len0, ab_len1, ab_len2, ab_len3, ab_len4, Nat.zero_add, ab_sl hc]
    refine C10 hc (hX _ hc) ?_
    simp (disch := omega) only [e75_0, e75_1, e75_4, e75_5, e75_6, e75_7, e75_8, e75_9, e75_12, e75_15, e75_16, e75_17, e75_20, e75_21, e75_22, e75_23, e75_24, e75_25, e75_26, e75_27, e75_28, e75_29, e75_32, e75_33, e75_34, e75_35, e75_38, e75_41, e75_42, e75_43, e75_44, e75_46, e75_47, e75_48, e75_50, e75_53, e75_56, ab_li1, true_or, or_true, true_and, and_true, ab_pus, ab_pun, ab_len0, ab_len1, ab_len2, ab_len3, ab_len4, Nat.zero_add, ab_sl hc]
    refine C19f hc (hX _ hc) (ho _ hc) ?_
    generalize hp : (if 2 ≤ spc X (c / 4) 4 then (1 : Nat) else 0) = p at h
    have hp1 : p ≤ 1 := by rw [← hp]; split <;> omega
    have hpI : (if 2 ≤ spc X (c / 4) 4 then (1 : Int32) else 0) = nI p := by rw [← hp]; split <;> rfl
    simp only [e75_0, e75_1, e75_4, e75_5, e75_6, e75_7, e75_8, e75_9, e75_12, e75_15, e75_16, e75_17, e75_20, e75_21, e75_22, e75_23, e75_24, e75_25, e75_26, e75_27, e75_28, e75_29, e75_32, e75_33, e75_34, e75_35, e75_38, e75_41, e75_42, e75_43, e75_44, e75_46, e75_47, e75_48, e75_50, e75_53, e75_56, ab_li1, true_or, or_true, true_and, and_true, ab_pus, ab_pun, ab_len0, ab_len1, ab_len2, ab_len3, ab_len4, Nat.zero_add, hpI]
    simp (disch := omega) only [l1, l5, q_ad, q_su, q_min, q_max]
    exact h
  · rw [if_pos (by omega)] at h
    exact h
theorem C77 (hX : aC μ X) (ho : ∀ c, c < 12 → okL (X c)) (h : Q (some (nI (gdm X 12))) μ) : ab_Cl (d + 6) 77 [.ref 0] μ Q := by
  refine n77 fun J run => ?_
  have loop : ∀ f i, 12 - i ≤ f → i ≤ 12 → J 4 μ [.ref 0, .int (nI (gdm X i)), .int (nI i)] [] := by
    intro f
    induction f with
    | zero =>
      intro i h1 h2
      obtain rfl : i = 12 := by omega
      refine run 20 _ _ _ _ ?_
      simp (disch := omega) only [e77_0, e77_1, e77_2, e77_3, e77_4, e77_5, e77_7, e77_10, e77_11, e77_12, e77_13, e77_16, e77_19, e77_20, e77_23, e77_26, e77_27, ab_li1, true_or, or_true, true_and, and_true, ab_pus, ab_pun, ab_len0, ab_len1, ab_len2, ab_len3, ab_len4, Nat.zero_add, l12, q_le, Nat.le_refl, true_imp_iff, not_true_eq_false, false_imp_iff]
      exact h
    | succ f ih =>
      intro i h1 h2
      by_cases hi : i = 12
      · exact ih i (by omega) h2
      · have a1 := dg_in X i
        have a2 := gdm_le X i
        refine run 40 _ _ _ _ ?_
        simp (disch := omega) only [e77_0, e77_1, e77_2, e77_3, e77_4, e77_5, e77_7, e77_10, e77_11, e77_12, e77_13, e77_16, e77_19, e77_20, e77_23, e77_26, e77_27, ab_li1, true_or, or_true, true_and, and_true, ab_pus, ab_pun, ab_len0, ab_len1, ab_len2, ab_len3, ab_len4, Nat.zero_add, l12, q_le]
        refine ⟨fun z => absurd z (by omega), fun _ => ?_⟩
        refine C75 (by omega) hX ho ?_
        simp (disch := omega) only [e77_0, e77_1, e77_2, e77_3, e77_4, e77_5, e77_7, e77_10, e77_11, e77_12, e77_13, e77_16, e77_19, e77_20, e77_23, e77_26, e77_27, ab_li1, true_or, or_true, true_and, and_true, ab_pus, ab_pun, ab_len0, ab_len1, ab_len2, ab_len3, ab_len4, Nat.zero_add, q_max, q_p1]
        exact ih (i + 1) (by omega) (by omega)
  refine run 4 _ _ _ _ ?_
  simp only [e77_0, e77_1, e77_2, e77_3, e77_4, e77_5, e77_7, e77_10, e77_11, e77_12, e77_13, e77_16, e77_19, e77_20, e77_23, e77_26, e77_27, ab_li1, true_or, or_true, true_and, and_true, ab_pus, ab_pun, ab_len0, ab_len1, ab_len2, ab_len3, ab_len4, Nat.zero_add, ab_rn0]
  exact loop 12 0 (by decide) (by decide)
theorem C78 (hX : aC μ X) (h : Q (some (nI (tot X 12))) μ) : ab_Cl (d + 3) 78 [.ref 0] μ Q := by
  refine n78 fun J run => ?_
  have loop : ∀ f i, 12 - i ≤ f → i ≤ 12 → J 4 μ [.ref 0, .int (nI (tot X i)), .int (nI i)] [] := by
    intro f
    induction f with
    | zero =>
      intro i h1 h2
      obtain rfl : i = 12 := by omega
      refine run 20 _ _ _ _ ?_
      simp (disch := omega) only [e78_0, e78_1, e78_2, e78_3, e78_4, e78_5, e78_7, e78_10, e78_11, e78_12, e78_15, e78_16, e78_17, e78_18, e78_21, e78_22, e78_23, e78_26, e78_29, e78_30, ab_li1, true_or, or_true, true_and, and_true, ab_pus, ab_pun, ab_len0, ab_len1, ab_len2, ab_len3, ab_len4, Nat.zero_add, l12, q_le, Nat.le_refl, true_imp_iff, not_true_eq_false, false_imp_iff]
      exact h
    | succ f ih =>
      intro i h1 h2
      by_cases hi : i = 12
      · exact ih i (by omega) h2
      · have hc : i < 12 := by omega
        refine run 40 _ _ _ _ ?_
        simp (disch := omega) only [e78_0, e78_1, e78_2, e78_3, e78_4, e78_5, e78_7, e78_10, e78_11, e78_12, e78_15, e78_16, e78_17, e78_18, e78_21, e78_22, e78_23, e78_26, e78_29, e78_30, ab_li1, true_or, or_true, true_and, and_true, ab_pus, ab_pun, ab_len0, ab_len1, ab_len2, ab_len3, ab_len4, Nat.zero_add, l12, q_le, q_in, q_cl, ab_sl hc]
        refine ⟨fun z => absurd z (by omega), fun _ => ?_⟩
        refine C16a hc (hX i hc) ?_
        simp (disch := omega) only [e78_0, e78_1, e78_2, e78_3, e78_4, e78_5, e78_7, e78_10, e78_11, e78_12, e78_15, e78_16, e78_17, e78_18, e78_21, e78_22, e78_23, e78_26, e78_29, e78_30, ab_li1, true_or, or_true, true_and, and_true, ab_pus, ab_pun, ab_len0, ab_len1, ab_len2, ab_len3, ab_len4, Nat.zero_add, q_ad, q_p1]
        exact ih (i + 1) (by omega) (by omega)
  refine run 4 _ _ _ _ ?_
  simp only [e78_0, e78_1, e78_2, e78_3, e78_4, e78_5, e78_7, e78_10, e78_11, e78_12, e78_15, e78_16, e78_17, e78_18, e78_21, e78_22, e78_23, e78_26, e78_29, e78_30, ab_li1, true_or, or_true, true_and, and_true, ab_pus, ab_pun, ab_len0, ab_len1, ab_len2, ab_len3, ab_len4, Nat.zero_add, ab_rn0]
  exact loop 12 0 (by decide) (by decide)
theorem C100 {c : Nat} (hc : c < 12) (hX : aM μ X) (ho : ∀ c, c < 12 → okL (X c)) (h : Q (some (nI (dg X c))) μ) : ab_Cl (d + 5) 100 [.ref 65, .int (nI c)] μ Q := by
  have hl := lk_le (X c)
  have hz := sz_le (X c)
  have e4 : ¬ (nI 4 = 0) := by decide
  refine n100 fun J run => ?_
  unfold dg dgr at h
  have fin : ∀ x, ¬ lk (X c) = 0 → J 48 μ [.ref 65, .int (nI c), .int (nI (spc X (c / 4) 4)), x] [] := by
    intro x hnz
    rw [if_neg hnz] at h
    have := spc_le X (c / 4) 4
    refine run 60 _ _ _ _ ?_
    simp (disch := omega) only [e100_0, e100_1, e100_2, e100_5, e100_8, e100_9, e100_10, e100_11, e100_12, e100_13, e100_14, e100_15, e100_16, e100_19, e100_20, e100_21, e100_22, e100_23, e100_24, e100_25, e100_26, e100_27, e100_28, e100_31, e100_32, e100_35, e100_36, e100_39, e100_40, e100_41, e100_42, e100_45, e100_48, e100_49, e100_50, e100_51, e100_54, e100_55, e100_56, e100_57, e100_60, e100_61, e100_64, e100_65, e100_66, e100_67, e100_68, e100_71, e100_72, e100_73, e100_74, e100_75, e100_76, e100_77, e100_80, e100_81, e100_84, e100_85, e100_86, e100_89, e100_90, e100_93, e100_94, ab_li2, true_or, or_true, true_and, and_true, ab_pus, ab_pun, ab_len0, ab_len1, ab_len2, ab_len3, ab_len4, Nat.zero_add]
    refine C98 hc (hX _ hc) (ho _ hc) ?_
    simp (disch := omega) only [e100_0, e100_1, e100_2, e100_5, e100_8, e100_9, e100_10, e100_11, e100_12, e100_13, e100_14, e100_15, e100_16, e100_19, e100_20, e100_21, e100_22, e100_23, e100_24, e100_25, e100_26, e100_27, e100_28, e100_31, e100_32, e100_35, e100_36, e100_39, e100_40, e100_41, e100_42, e100_45, e100_48, e100_49, e100_50, e100_51, e100_54, e100_55, e100_56, e100_57, e100_60, e100_61, e100_64, e100_65, e100_66, e100_67, e100_68, e100_71, e100_72, e100_73, e100_74, e100_75, e100_76, e100_77, e100_80, e100_81, e100_84, e100_85, e100_86, e100_89, e100_90, e100_93, e100_94, ab_li2, true_or, or_true, true_and, and_true, ab_pus, ab_pun, ab_len0, ab_len1, ab_len2, ab_len3, ab_len4, Nat.zero_add, l2, q_lt]
    have key : ∀ p, p = (if 2 ≤ spc X (c / 4) 4 then 1 else 0) → ∀ v : Nat, v = 1 + lk (X c) + p + sz (X c) - 1 → (nI v ≤ 5 → (1 ≤ nI v → Q (some (nI v)) μ) ∧ (¬ 1 ≤ nI v → Q (some 1) μ)) ∧ (¬ nI v ≤ 5 → Q (some 5) μ) := by
      intro p hp v hv
      have hp1 : p ≤ 1 := by rw [hp]; split <;> omega
      rw [← hp] at h
      simp (disch := omega) only [l1, l5, q_le]
      refine ⟨fun g => ⟨fun g2 => ?_, fun g2 => ?_⟩, fun g => ?_⟩
      · rw [← hv, Nat.min_eq_right g, Nat.max_eq_right g2] at h; exact h
      · rw [← hv, Nat.min_eq_right g, Nat.max_eq_left (by omega)] at h; exact h
      · rw [← hv, Nat.min_eq_left (by omega)] at h; exact h
    refine ⟨fun g => ?_, fun g => ?_⟩
    · refine C99 hc (hX _ hc) (ho _ hc) ?_
      have k2 := key 0 (by rw [if_neg (by omega)]) _ rfl
      simp (disch := omega) only [e100_0, e100_1, e100_2, e100_5, e100_8, e100_9, e100_10, e100_11, e100_12, e100_13, e100_14, e100_15, e100_16, e100_19, e100_20, e100_21, e100_22, e100_23, e100_24, e100_25, e100_26, e100_27, e100_28, e100_31, e100_32, e100_35, e100_36, e100_39, e100_40, e100_41, e100_42, e100_45, e100_48, e100_49, e100_50, e100_51, e100_54, e100_55, e100_56, e100_57, e100_60, e100_61, e100_64, e100_65, e100_66, e100_67, e100_68, e100_71, e100_72, e100_73, e100_74, e100_75, e100_76, e100_77, e100_80, e100_81, e100_84, e100_85, e100_86, e100_89, e100_90, e100_93, e100_94, ab_li2, true_or, or_true, true_and, and_true, ab_pus, ab_pun, ab_len0, ab_len1, ab_len2, ab_len3, ab_len4, Nat.zero_add]
      have e1 : (1 : Int32) + nI (lk (X c)) + 0 + nI (sz (X c)) - 1 = nI (1 + lk (X c) + 0 + sz (X c) - 1) := by
        rw [l1, l0, q_ad, q_ad, q_ad, q_su (by omega)]
      rw [e1]
      exact k2
    · refine C99 hc (hX _ hc) (ho _ hc) ?_
      have k2 := key 1 (by rw [if_pos (by omega)]) _ rfl
      simp (disch := omega) only [e100_0, e100_1, e100_2, e100_5, e100_8, e100_9, e100_10, e100_11, e100_12, e100_13, e100_14, e100_15, e100_16, e100_19, e100_20, e100_21, e100_22, e100_23, e100_24, e100_25, e100_26, e100_27, e100_28, e100_31, e100_32, e100_35, e100_36, e100_39, e100_40, e100_41, e100_42, e100_45, e100_48, e100_49, e100_50, e100_51, e100_54, e100_55, e100_56, e100_57, e100_60, e100_61, e100_64, e100_65, e100_66, e100_67, e100_68, e100_71, e100_72, e100_73, e100_74, e100_75, e100_76, e100_77, e100_80, e100_81, e100_84, e100_85, e100_86, e100_89, e100_90, e100_93, e100_94, ab_li2, true_or, or_true, true_and, and_true, ab_pus, ab_pun, ab_len0, ab_len1, ab_len2, ab_len3, ab_len4, Nat.zero_add]
      have e1 : (1 : Int32) + nI (lk (X c)) + 1 + nI (sz (X c)) - 1 = nI (1 + lk (X c) + 1 + sz (X c) - 1) := by
        rw [l1, q_ad, q_ad, q_ad, q_su (by omega)]
      rw [e1]
      exact k2
  have loop : ∀ f i, ¬ lk (X c) = 0 → 4 - i ≤ f → i ≤ 4 → J 14 μ [.ref 65, .int (nI c), .int (nI (spc X (c / 4) i)), .int (nI i)] [] := by
    intro f
    induction f with
    | zero =>
      intro i hnz h1 h2
      obtain rfl : i = 4 := by omega
      refine run 3 _ _ _ _ ?_
      simp (disch := omega) only [e100_0, e100_1, e100_2, e100_5, e100_8, e100_9, e100_10, e100_11, e100_12, e100_13, e100_14, e100_15, e100_16, e100_19, e100_20, e100_21, e100_22, e100_23, e100_24, e100_25, e100_26, e100_27, e100_28, e100_31, e100_32, e100_35, e100_36, e100_39, e100_40, e100_41, e100_42, e100_45, e100_48, e100_49, e100_50, e100_51, e100_54, e100_55, e100_56, e100_57, e100_60, e100_61, e100_64, e100_65, e100_66, e100_67, e100_68, e100_71, e100_72, e100_73, e100_74, e100_75, e100_76, e100_77, e100_80, e100_81, e100_84, e100_85, e100_86, e100_89, e100_90, e100_93, e100_94, ab_li2, true_or, or_true, true_and, and_true, ab_pus, ab_pun, ab_len0, ab_len1, ab_len2, ab_len3, ab_len4, Nat.zero_add, ab_rn0, l4, q_le, Nat.le_refl, true_imp_iff, not_true_eq_false, false_imp_iff]
      exact fin _ hnz
    | succ f ih =>
      intro i hnz h1 h2
      by_cases hi : i = 4
      · exact ih i hnz (by omega) h2
      · have hc2 : 4 * (c / 4) + i < 12 := by omega
        have hl2 := lk_le (X (4 * (c / 4) + i))
        have cm : c / 4 * 4 + i = 4 * (c / 4) + i := by omega
        refine run 40 _ _ _ _ ?_
        simp (disch := omega) only [e100_0, e100_1, e100_2, e100_5, e100_8, e100_9, e100_10, e100_11, e100_12, e100_13, e100_14, e100_15, e100_16, e100_19, e100_20, e100_21, e100_22, e100_23, e100_24, e100_25, e100_26, e100_27, e100_28, e100_31, e100_32, e100_35, e100_36, e100_39, e100_40, e100_41, e100_42, e100_45, e100_48, e100_49, e100_50, e100_51, e100_54, e100_55, e100_56, e100_57, e100_60, e100_61, e100_64, e100_65, e100_66, e100_67, e100_68, e100_71, e100_72, e100_73, e100_74, e100_75, e100_76, e100_77, e100_80, e100_81, e100_84, e100_85, e100_86, e100_89, e100_90, e100_93, e100_94, ab_li2, true_or, or_true, true_and, and_true, ab_pus, ab_pun, ab_len0, ab_len1, ab_len2, ab_len3, ab_len4, Nat.zero_add, l4, e4, q_dv, q_mu, q_ad, cm, q_le, not_false_eq_true]
        refine ⟨fun z => absurd z (by omega), fun _ => ?_⟩
        refine C98 hc2 (hX _ hc2) (ho _ hc2) ?_
        simp (disch := omega) only [e100_0, e100_1, e100_2, e100_5, e100_8, e100_9, e100_10, e100_11, e100_12, e100_13, e100_14, e100_15, e100_16, e100_19, e100_20, e100_21, e100_22, e100_23, e100_24, e100_25, e100_26, e100_27, e100_28, e100_31, e100_32, e100_35, e100_36, e100_39, e100_40, e100_41, e100_42, e100_45, e100_48, e100_49, e100_50, e100_51, e100_54, e100_55, e100_56, e100_57, e100_60, e100_61, e100_64, e100_65, e100_66, e100_67, e100_68, e100_71, e100_72, e100_73, e100_74, e100_75, e100_76, e100_77, e100_80, e100_81, e100_84, e100_85, e100_86, e100_89, e100_90, e100_93, e100_94, ab_li2, true_or, or_true, true_and, and_true, ab_pus, ab_pun, ab_len0, ab_len1, ab_len2, ab_len3, ab_len4, Nat.zero_add, l2, q_lt, q_p1]
        refine ⟨fun g => ?_, fun g => ?_⟩
        · have := ih (i + 1) hnz (by omega) (by omega)
          simp only [spc] at this
          rw [if_neg (by omega)] at this
          rw [l0, q_ad]
          exact this
        · have := ih (i + 1) hnz (by omega) (by omega)
          simp only [spc] at this
          rw [if_pos (by omega)] at this
          exact this
  refine run 3 _ _ _ _ ?_
  simp only [e100_0, e100_1, e100_2, e100_5, e100_8, e100_9, e100_10, e100_11, e100_12, e100_13, e100_14, e100_15, e100_16, e100_19, e100_20, e100_21, e100_22, e100_23, e100_24, e100_25, e100_26, e100_27, e100_28, e100_31, e100_32, e100_35, e100_36, e100_39, e100_40, e100_41, e100_42, e100_45, e100_48, e100_49, e100_50, e100_51, e100_54, e100_55, e100_56, e100_57, e100_60, e100_61, e100_64, e100_65, e100_66, e100_67, e100_68, e100_71, e100_72, e100_73, e100_74, e100_75, e100_76, e100_77, e100_80, e100_81, e100_84, e100_85, e100_86, e100_89, e100_90, e100_93, e100_94, ab_li2, true_or, or_true, true_and, and_true, ab_pus, ab_pun, ab_len0, ab_len1, ab_len2, ab_len3, ab_len4, Nat.zero_add, ab_rn0]
  refine C98 hc (hX _ hc) (ho _ hc) ?_
  simp only [e100_0, e100_1, e100_2, e100_5, e100_8, e100_9, e100_10, e100_11, e100_12, e100_13, e100_14, e100_15, e100_16, e100_19, e100_20, e100_21, e100_22, e100_23, e100_24, e100_25, e100_26, e100_27, e100_28, e100_31, e100_32, e100_35, e100_36, e100_39, e100_40, e100_41, e100_42, e100_45, e100_48, e100_49, e100_50, e100_51, e100_54, e100_55, e100_56, e100_57, e100_60, e100_61, e100_64, e100_65, e100_66, e100_67, e100_68, e100_71, e100_72, e100_73, e100_74, e100_75, e100_76, e100_77, e100_80, e100_81, e100_84, e100_85, e100_86, e100_89, e100_90, e100_93, e100_94, ab_li2, true_or, or_true, true_and, and_true, ab_pus, ab_pun, ab_len0, ab_len1, ab_len2, ab_len3, ab_len4, Nat.zero_add, ab_rn0]
  by_cases hnz : lk (X c) = 0
  · rw [if_pos hnz] at h
    refine run 10 _ _ _ _ ?_
    rw [hnz]
    have z0 : nI 0 = 0 := rfl
    simp (disch := omega) only [e100_0, e100_1, e100_2, e100_5, e100_8, e100_9, e100_10, e100_11, e100_12, e100_13, e100_14, e100_15, e100_16, e100_19, e100_20, e100_21, e100_22, e100_23, e100_24, e100_25, e100_26, e100_27, e100_28, e100_31, e100_32, e100_35, e100_36, e100_39, e100_40, e100_41, e100_42, e100_45, e100_48, e100_49, e100_50, e100_51, e100_54, e100_55, e100_56, e100_57, e100_60, e100_61, e100_64, e100_65, e100_66, e100_67, e100_68, e100_71, e100_72, e100_73, e100_74, e100_75, e100_76, e100_77, e100_80, e100_81, e100_84, e100_85, e100_86, e100_89, e100_90, e100_93, e100_94, ab_li2, true_or, or_true, true_and, and_true, ab_pus, ab_pun, ab_len0, ab_len1, ab_len2, ab_len3, ab_len4, Nat.zero_add, z0, not_true_eq_false, false_imp_iff, not_false_eq_true, true_imp_iff]
    exact h
  · refine run 5 _ _ _ _ ?_
    simp (disch := omega) only [e100_0, e100_1, e100_2, e100_5, e100_8, e100_9, e100_10, e100_11, e100_12, e100_13, e100_14, e100_15, e100_16, e100_19, e100_20, e100_21, e100_22, e100_23, e100_24, e100_25, e100_26, e100_27, e100_28, e100_31, e100_32, e100_35, e100_36, e100_39, e100_40, e100_41, e100_42, e100_45, e100_48, e100_49, e100_50, e100_51, e100_54, e100_55, e100_56, e100_57, e100_60, e100_61, e100_64, e100_65, e100_66, e100_67, e100_68, e100_71, e100_72, e100_73, e100_74, e100_75, e100_76, e100_77, e100_80, e100_81, e100_84, e100_85, e100_86, e100_89, e100_90, e100_93, e100_94, ab_li2, true_or, or_true, true_and, and_true, ab_pus, ab_pun, ab_len0, ab_len1, ab_len2, ab_len3, ab_len4, Nat.zero_add, ab_rn0, q_eq0, hnz, not_true_eq_false, false_imp_iff, not_false_eq_true, true_imp_iff]
    exact loop 4 0 hnz (by decide) (by decide)
end DAN
