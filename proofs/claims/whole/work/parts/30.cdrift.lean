def drfL (f s : Nat) (X : Nat → List ly) : Nat → List ly := fun c => if c % 4 = s then giv (4 * f) (X c) else if c % 4 = (s + 2) % 4 then tak (givA (4 * f) (X (4 * (c / 4) + s))) (X c) else X c
def mlW (w : Int32) (L : List ly) : List ly := if 0 < w then mlt (6 * w.toNatClampNeg) L else L
def mlV (w : Int32) (L : List ly) : Nat := if 0 < w then mlA (6 * w.toNatClampNeg) L else 0
def cgL (W : Nat → Int32) (X : Nat → List ly) (c : Nat) : List ly := chg (decide (W (c / 4) ≤ -8)) (X c)
def chgL (W : Nat → Int32) (X : Nat → List ly) : Nat → List ly := fun c => mlW (W (c / 4)) (cgL W X c)
def msum (W : Nat → Int32) (X : Nat → List ly) : Nat → Nat
  | 0 => 0
  | n + 1 => msum W X n + mlV (W (n / 4)) (cgL W X n)
theorem givA_le {p : Nat} {L : List ly} (hp : p ≤ 100) : givA p L ≤ sm L := by
  unfold givA
  split
  · next h =>
    have h1 := ms_le (L := L) (i := L.length - 1) (by have := (topN_t h).1; omega)
    refine Nat.le_trans (Nat.div_le_of_le_mul ?_) h1
    rw [Nat.mul_comm 100]
    exact Nat.mul_le_mul (Nat.le_refl _) hp
  · omega
theorem rem4 {a : Nat} (h : a < 1000) : nI a - nI a / nI 4 * nI 4 = nI (a % 4) := pk_rem (by omega) (by decide) (by decide)
theorem pos_nI {w : Int32} (h : 0 < w) (h2 : w ≤ 10) : ∃ g, 0 < g ∧ g ≤ 10 ∧ w = nI g := by
  obtain ⟨j, hj, e⟩ := nI_of (x := w) (fun z => Int32.lt_irrefl (Int32.lt_trans h z))
  subst e
  rw [q_gt0 hj] at h
  rw [l10, q_le hj (by decide)] at h2
  exact ⟨j, h, h2, rfl⟩
section CDB
variable {d : Nat} {μ : ab_M} {Q : ab_Q} {X : Nat → List ly}
theorem C47 {f : Nat} (hf : μ 2 4 = nI f) (h : Q (some (nI (4 * f))) μ) : ab_Cl (d + 1) 47 [.ref 2] μ Q := by
  refine n47 fun J run => run 10 _ _ _ _ ?_
  simp only [e47_0, e47_1, e47_2, e47_5, e47_6, ab_li1, true_or, or_true, true_and, and_true, ab_pus, ab_pun, ab_len0, ab_len1, ab_len2, ab_len3, ab_len4, Nat.zero_add, hf, l4, q_mu]
  exact h
theorem C46 (h : Q (some (μ 2 3)) μ) : ab_Cl (d + 1) 46 [.ref 2] μ Q := by
  refine n46 fun J run => run 10 _ _ _ _ ?_
  simp only [e46_0, e46_1, e46_4, ab_li1, true_or, or_true, true_and, and_true, ab_pus, ab_pun, ab_len0, ab_len1, ab_len2, ab_len3, ab_len4, Nat.zero_add]
  exact h
theorem C45 {f : Nat} (hf9 : f ≤ 9) (hf : μ 2 4 = nI f) (h : Q (some (if f ≤ 3 then 0 else 1)) μ) : ab_Cl (d + 1) 45 [.ref 2] μ Q := by
  refine n45 fun J run => run 10 _ _ _ _ ?_
  simp (disch := omega) only [e45_0, e45_1, e45_4, e45_5, e45_8, e45_9, e45_12, e45_13, ab_li1, true_or, or_true, true_and, and_true, ab_pus, ab_pun, ab_len0, ab_len1, ab_len2, ab_len3, ab_len4, Nat.zero_add, hf, l3, q_le]
  refine ⟨fun g => ?_, fun g => ?_⟩
  · rw [if_pos g] at h; exact h
  · rw [if_neg g] at h; exact h
theorem C72 {f s : Nat} (hX : aC μ X) (ho : ∀ c, c < 12 → okL (X c)) (hf9 : f ≤ 9) (hs4 : s < 4) (hs : μ 2 3 = nI s) (hf : μ 2 4 = nI f) (h : ∀ μ', aC μ' (drfL f s X) → kC μ μ' 99 → Q none μ') : ab_Cl (d + 4) 72 [.ref 0] μ Q := by
  refine n72 fun J run => ?_
  have e4 : ¬ (nI 4 = 0) := by decide
  have loop : ∀ g i ν x, 3 - i ≤ g → i ≤ 3 → aC ν (fun c => if c / 4 < i then drfL f s X c else X c) → kC μ ν 99 → J 16 ν [.ref 0, .int (nI s), .int (nI ((s + 2) % 4)), .int (nI i), x] [] := by
    intro g
    induction g with
    | zero =>
      intro i ν x h1 h2 h3 h5
      obtain rfl : i = 3 := by omega
      refine run 10 _ _ _ _ ?_
      simp (disch := omega) only [e72_0, e72_1, e72_4, e72_7, e72_8, e72_9, e72_10, e72_11, e72_12, e72_13, e72_14, e72_15, e72_16, e72_17, e72_18, e72_21, e72_22, e72_25, e72_26, e72_27, e72_28, e72_29, e72_30, e72_31, e72_32, e72_35, e72_38, e72_41, e72_43, e72_44, e72_47, e72_48, e72_49, e72_50, e72_51, e72_52, e72_53, e72_55, e72_58, e72_61, e72_64, ab_li1, true_or, or_true, true_and, and_true, ab_pus, ab_pun, ab_len0, ab_len1, ab_len2, ab_len3, ab_len4, Nat.zero_add, l3, q_le, Nat.le_refl, true_imp_iff, not_true_eq_false, false_imp_iff]
      exact h ν (aC_c h3 (fun c hc => if_pos (by omega))) h5
    | succ g ih =>
      intro i ν x h1 h2 h3 h5
      by_cases hi : i = 3
      · exact ih i ν x (by omega) h2 h3 h5
      · have hi3 : i < 3 := by omega
        have ha : 4 * i + s < 12 := by omega
        have hb : 4 * i + (s + 2) % 4 < 12 := by omega
        have hab : 4 * i + (s + 2) % 4 ≠ 4 * i + s := by omega
        have hXa := h3 (4 * i + s) ha
        simp only [show ¬ (4 * i + s) / 4 < i by omega, if_false] at hXa
        have hXb := h3 (4 * i + (s + 2) % 4) hb
        simp only [show ¬ (4 * i + (s + 2) % 4) / 4 < i by omega, if_false] at hXb
        have hf2 : ν 2 4 = nI f := by rw [h5 2 4 (by omega) (by omega)]; exact hf
        have hga := givA_le (p := 4 * f) (L := X (4 * i + s)) (by omega)
        have hoa := (ho (4 * i + s) ha).2
        have cm : ∀ z, i * 4 + z = 4 * i + z := fun z => by omega
        refine run 60 _ _ _ _ ?_
        simp (disch := omega) only [e72_0, e72_1, e72_4, e72_7, e72_8, e72_9, e72_10, e72_11, e72_12, e72_13, e72_14, e72_15, e72_16, e72_17, e72_18, e72_21, e72_22, e72_25, e72_26, e72_27, e72_28, e72_29, e72_30, e72_31, e72_32, e72_35, e72_38, e72_41, e72_43, e72_44, e72_47, e72_48, e72_49, e72_50, e72_51, e72_52, e72_53, e72_55, e72_58, e72_61, e72_64, ab_li1, true_or, or_true, true_and, and_true, ab_pus, ab_pun, ab_len0, ab_len1, ab_len2, ab_len3, ab_len4, Nat.zero_add, l3, q_le, l4, q_mu, q_ad, cm, q_in, q_cl, ab_sl ha]
        refine ⟨fun z => absurd z (by omega), fun _ => ?_⟩
        refine C47 hf2 ?_
        simp (disch := omega) only [e72_0, e72_1, e72_4, e72_7, e72_8, e72_9, e72_10, e72_11, e72_12, e72_13, e72_14, e72_15, e72_16, e72_17, e72_18, e72_21, e72_22, e72_25, e72_26, e72_27, e72_28, e72_29, e72_30, e72_31, e72_32, e72_35, e72_38, e72_41, e72_43, e72_44, e72_47, e72_48, e72_49, e72_50, e72_51, e72_52, e72_53, e72_55, e72_58, e72_61, e72_64, ab_li1, true_or, or_true, true_and, and_true, ab_pus, ab_pun, ab_len0, ab_len1, ab_len2, ab_len3, ab_len4, Nat.zero_add, ab_sl ha]
        refine C23 ha hXa (ho _ ha) (by omega) (fun ρ r1 f1 => ?_)
        have hXb2 := rC_fr hXb f1 hab
        simp (disch := omega) only [e72_0, e72_1, e72_4, e72_7, e72_8, e72_9, e72_10, e72_11, e72_12, e72_13, e72_14, e72_15, e72_16, e72_17, e72_18, e72_21, e72_22, e72_25, e72_26, e72_27, e72_28, e72_29, e72_30, e72_31, e72_32, e72_35, e72_38, e72_41, e72_43, e72_44, e72_47, e72_48, e72_49, e72_50, e72_51, e72_52, e72_53, e72_55, e72_58, e72_61, e72_64, ab_li1, true_or, or_true, true_and, and_true, ab_pus, ab_pun, ab_len0, ab_len1, ab_len2, ab_len3, ab_len4, Nat.zero_add, l4, q_mu, q_ad, cm, q_in, q_cl, ab_sl hb]
        refine C24 hb hXb2 (ho _ hb) (by omega) (fun τ r2 f2 => ?_)
        simp (disch := omega) only [e72_0, e72_1, e72_4, e72_7, e72_8, e72_9, e72_10, e72_11, e72_12, e72_13, e72_14, e72_15, e72_16, e72_17, e72_18, e72_21, e72_22, e72_25, e72_26, e72_27, e72_28, e72_29, e72_30, e72_31, e72_32, e72_35, e72_38, e72_41, e72_43, e72_44, e72_47, e72_48, e72_49, e72_50, e72_51, e72_52, e72_53, e72_55, e72_58, e72_61, e72_64, ab_li1, true_or, or_true, true_and, and_true, ab_pus, ab_pun, ab_len0, ab_len1, ab_len2, ab_len3, ab_len4, Nat.zero_add, q_p1]
        refine ih (i + 1) _ _ (by omega) (by omega) (aC_c (aC_st (aC_st h3 r1 f1) r2 f2) (fun c hc => ?_)) ?_
        · by_cases e : c = 4 * i + (s + 2) % 4
          · subst e
            rw [if_pos rfl, if_pos (by omega)]
            unfold drfL
            rw [if_neg (by omega), if_pos (by omega), show (4 * i + (s + 2) % 4) / 4 = i by omega]
          · rw [if_neg e]
            by_cases e1 : c = 4 * i + s
            · subst e1
              rw [if_pos rfl, if_pos (by omega)]
              unfold drfL
              rw [if_pos (by omega)]
            · rw [if_neg e1]
              by_cases e2 : c / 4 < i
              · rw [if_pos e2, if_pos (by omega)]
              · rw [if_neg e2]
                by_cases e3 : c / 4 < i + 1
                · rw [if_pos e3]
                  unfold drfL
                  rw [if_neg (by omega), if_neg (by omega)]
                · rw [if_neg e3]
        · intro p j p1 p2
          rw [f2 p j (by omega), f1 p j (by omega), h5 p j p1 p2]
  refine run 2 _ _ _ _ ?_
  simp only [e72_0, e72_1, e72_4, e72_7, e72_8, e72_9, e72_10, e72_11, e72_12, e72_13, e72_14, e72_15, e72_16, e72_17, e72_18, e72_21, e72_22, e72_25, e72_26, e72_27, e72_28, e72_29, e72_30, e72_31, e72_32, e72_35, e72_38, e72_41, e72_43, e72_44, e72_47, e72_48, e72_49, e72_50, e72_51, e72_52, e72_53, e72_55, e72_58, e72_61, e72_64, ab_li1, true_or, or_true, true_and, and_true, ab_pus, ab_pun, ab_len0, ab_len1, ab_len2, ab_len3, ab_len4, Nat.zero_add, ab_rn0]
  refine run 10 _ _ _ _ ?_
  simp only [e72_0, e72_1, e72_4, e72_7, e72_8, e72_9, e72_10, e72_11, e72_12, e72_13, e72_14, e72_15, e72_16, e72_17, e72_18, e72_21, e72_22, e72_25, e72_26, e72_27, e72_28, e72_29, e72_30, e72_31, e72_32, e72_35, e72_38, e72_41, e72_43, e72_44, e72_47, e72_48, e72_49, e72_50, e72_51, e72_52, e72_53, e72_55, e72_58, e72_61, e72_64, ab_li1, true_or, or_true, true_and, and_true, ab_pus, ab_pun, ab_len0, ab_len1, ab_len2, ab_len3, ab_len4, Nat.zero_add, ab_rn0]
  refine C46 ?_
  simp (disch := omega) only [e72_0, e72_1, e72_4, e72_7, e72_8, e72_9, e72_10, e72_11, e72_12, e72_13, e72_14, e72_15, e72_16, e72_17, e72_18, e72_21, e72_22, e72_25, e72_26, e72_27, e72_28, e72_29, e72_30, e72_31, e72_32, e72_35, e72_38, e72_41, e72_43, e72_44, e72_47, e72_48, e72_49, e72_50, e72_51, e72_52, e72_53, e72_55, e72_58, e72_61, e72_64, ab_li1, true_or, or_true, true_and, and_true, ab_pus, ab_pun, ab_len0, ab_len1, ab_len2, ab_len3, ab_len4, Nat.zero_add, ab_rn0, hs, l2, l4, q_ad, e4, rem4, not_false_eq_true]
  exact loop 3 0 μ _ (by decide) (by decide) (aC_c hX (fun c hc => (if_neg (by omega)).symm)) (fun _ _ _ _ => rfl)
theorem C73 (hX : aC μ X) (ho : ∀ c, c < 12 → okL (X c)) (ho2 : ∀ c, c < 12 → okL (cgL (wA μ) X c)) (hw : ∀ k, k < 3 → wA μ k ≤ 10) (h : ∀ μ', aC μ' (chgL (wA μ) X) → μ' 0 7 = μ 0 7 + nI (msum (wA μ) X 12) → kC μ μ' 7 → Q none μ') : ab_Cl (d + 3) 73 [.ref 0] μ Q := by
  refine n73 fun J run => ?_
  have loop : ∀ f i ν x, 12 - i ≤ f → i ≤ 12 → aC ν (fun c => if c < i then chgL (wA μ) X c else X c) → ν 0 7 = μ 0 7 + nI (msum (wA μ) X i) → kC μ ν 7 → J 2 ν [.ref 0, .int (nI i), x] [] := by
    intro f
    induction f with
    | zero =>
      intro i ν x h1 h2 h3 h4 h5
      obtain rfl : i = 12 := by omega
      refine run 10 _ _ _ _ ?_
      simp (disch := omega) only [e73_0, e73_1, e73_2, e73_3, e73_5, e73_8, e73_9, e73_12, e73_13, e73_14, e73_15, e73_18, e73_19, e73_20, e73_23, e73_24, e73_25, e73_26, e73_29, e73_30i, e73_30r, e73_31, e73_34, e73_35, e73_38, e73_39, e73_40, e73_41, e73_44, e73_45, e73_48, e73_51, e73_54, ab_li1, true_or, or_true, true_and, and_true, ab_pus, ab_pun, ab_len0, ab_len1, ab_len2, ab_len3, ab_len4, Nat.zero_add, l12, q_le, Nat.le_refl, true_imp_iff, not_true_eq_false, false_imp_iff]
      exact h ν (aC_c h3 (fun c hc => if_pos hc)) h4 h5
    | succ f ih =>
      intro i ν x h1 h2 h3 h4 h5
      by_cases hi : i = 12
      · exact ih i ν x (by omega) h2 h3 h4 h5
      · have hi2 : i < 12 := by omega
        have hi4 : i / 4 < 3 := by omega
        have e4 : ¬ (nI 4 = 0) := by decide
        have hXi := h3 i hi2
        simp only [Nat.lt_irrefl, if_false] at hXi
        have hwn : wA ν (i / 4) = wA μ (i / 4) := by
          unfold wA
          rw [h5 4 _ (by omega) (by omega), h5 5 _ (by omega) (by omega)]
        refine run 60 _ _ _ _ ?_
        simp (disch := omega) only [e73_0, e73_1, e73_2, e73_3, e73_5, e73_8, e73_9, e73_12, e73_13, e73_14, e73_15, e73_18, e73_19, e73_20, e73_23, e73_24, e73_25, e73_26, e73_29, e73_30i, e73_30r, e73_31, e73_34, e73_35, e73_38, e73_39, e73_40, e73_41, e73_44, e73_45, e73_48, e73_51, e73_54, ab_li1, true_or, or_true, true_and, and_true, ab_pus, ab_pun, ab_len0, ab_len1, ab_len2, ab_len3, ab_len4, Nat.zero_add, l12, q_le, l4, e4, q_dv, not_false_eq_true]
        refine ⟨fun z => absurd z (by omega), fun _ => ?_⟩
        refine C44 hi4 ?_
        rw [hwn]
        simp (disch := omega) only [e73_0, e73_1, e73_2, e73_3, e73_5, e73_8, e73_9, e73_12, e73_13, e73_14, e73_15, e73_18, e73_19, e73_20, e73_23, e73_24, e73_25, e73_26, e73_29, e73_30i, e73_30r, e73_31, e73_34, e73_35, e73_38, e73_39, e73_40, e73_41, e73_44, e73_45, e73_48, e73_51, e73_54, ab_li1, true_or, or_true, true_and, and_true, ab_pus, ab_pun, ab_len0, ab_len1, ab_len2, ab_len3, ab_len4, Nat.zero_add, q_in, q_cl, ab_sl hi2]
        refine C25 hi2 hXi (ho i hi2) (fun ρ r1 f1 => ?_)
        simp (disch := omega) only [e73_0, e73_1, e73_2, e73_3, e73_5, e73_8, e73_9, e73_12, e73_13, e73_14, e73_15, e73_18, e73_19, e73_20, e73_23, e73_24, e73_25, e73_26, e73_29, e73_30i, e73_30r, e73_31, e73_34, e73_35, e73_38, e73_39, e73_40, e73_41, e73_44, e73_45, e73_48, e73_51, e73_54, ab_li1, true_or, or_true, true_and, and_true, ab_pus, ab_pun, ab_len0, ab_len1, ab_len2, ab_len3, ab_len4, Nat.zero_add, q_in, q_cl, ab_sl hi2]
        have nxt : ∀ τ, rC τ i (chgL (wA μ) X i) → fC i ρ τ → ∀ v, v = ρ 0 7 + nI (mlV (wA μ (i / 4)) (cgL (wA μ) X i)) → J 2 (ab_up τ 0 7 v) [.ref 0, .int (nI (i + 1)), .int (wA μ (i / 4))] [] := by
          intro τ r2 f2 v hv
          have f12 := fC_tr f1 f2
          refine ih (i + 1) _ _ (by omega) (by omega) (aC_o (aC_c (aC_st h3 r2 f12) (fun c hc => ?_)) (by decide)) ?_ ?_
          · by_cases e : c = i
            · subst e; rw [if_pos rfl, if_pos (by omega)]
            · rw [if_neg e]
              by_cases e2 : c < i
              · rw [if_pos e2, if_pos (by omega)]
              · rw [if_neg e2, if_neg (by omega)]
          · rw [ab_up_eq, hv, f1 0 7 (by omega), h4, Int32.add_assoc, q_ad]
            rfl
          · intro p j p1 p2
            rw [ab_up_ne (by omega), f12 p j (by omega), h5 p j p1 p2]
        by_cases hp : 0 < wA μ (i / 4)
        · obtain ⟨g, g0, g10, eg⟩ := pos_nI hp (hw _ hi4)
          have eL : chgL (wA μ) X i = mlt (6 * g) (cgL (wA μ) X i) := by
            unfold chgL mlW
            rw [if_pos hp, eg, q_cl (by omega)]
          have eV : mlV (wA μ (i / 4)) (cgL (wA μ) X i) = mlA (6 * g) (cgL (wA μ) X i) := by
            unfold mlV
            rw [if_pos hp, eg, q_cl (by omega)]
          rw [eg]
          refine C26 hi2 r1 (ho2 i hi2) g0 g10 (fun τ r2 f2 => ?_)
          simp (disch := omega) only [e73_0, e73_1, e73_2, e73_3, e73_5, e73_8, e73_9, e73_12, e73_13, e73_14, e73_15, e73_18, e73_19, e73_20, e73_23, e73_24, e73_25, e73_26, e73_29, e73_30i, e73_30r, e73_31, e73_34, e73_35, e73_38, e73_39, e73_40, e73_41, e73_44, e73_45, e73_48, e73_51, e73_54, ab_li1, true_or, or_true, true_and, and_true, ab_pus, ab_pun, ab_len0, ab_len1, ab_len2, ab_len3, ab_len4, Nat.zero_add, q_p1]
          rw [← eg]
          exact nxt τ (by rw [eL]; exact r2) f2 _ (by rw [eV]; rfl)
        · have eL : chgL (wA μ) X i = cgL (wA μ) X i := by
            unfold chgL mlW
            rw [if_neg hp]
          have eV : mlV (wA μ (i / 4)) (cgL (wA μ) X i) = 0 := by
            unfold mlV
            rw [if_neg hp]
          refine C26z hi2 hp ?_
          simp (disch := omega) only [e73_0, e73_1, e73_2, e73_3, e73_5, e73_8, e73_9, e73_12, e73_13, e73_14, e73_15, e73_18, e73_19, e73_20, e73_23, e73_24, e73_25, e73_26, e73_29, e73_30i, e73_30r, e73_31, e73_34, e73_35, e73_38, e73_39, e73_40, e73_41, e73_44, e73_45, e73_48, e73_51, e73_54, ab_li1, true_or, or_true, true_and, and_true, ab_pus, ab_pun, ab_len0, ab_len1, ab_len2, ab_len3, ab_len4, Nat.zero_add, q_p1]
          exact nxt ρ (by rw [eL]; exact r1) fC_rf _ (by rw [eV]; rfl)
  refine run 2 _ _ _ _ ?_
  simp only [e73_0, e73_1, e73_2, e73_3, e73_5, e73_8, e73_9, e73_12, e73_13, e73_14, e73_15, e73_18, e73_19, e73_20, e73_23, e73_24, e73_25, e73_26, e73_29, e73_30i, e73_30r, e73_31, e73_34, e73_35, e73_38, e73_39, e73_40, e73_41, e73_44, e73_45, e73_48, e73_51, e73_54, ab_li1, true_or, or_true, true_and, and_true, ab_pus, ab_pun, ab_len0, ab_len1, ab_len2, ab_len3, ab_len4, Nat.zero_add, ab_rn0]
  exact loop 12 0 μ _ (by decide) (by decide) (aC_c hX (fun c hc => (if_neg (by omega)).symm)) (by rw [show nI (msum (wA μ) X 0) = 0 from rfl, Int32.add_zero]) (fun _ _ _ _ => rfl)
end CDB
