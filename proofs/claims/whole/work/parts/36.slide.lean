theorem lk_why {L : List ly} (h : 2 ≤ lk L) : ∃ q, whyL L = some q ∧ q.1 < L.length := by
  cases hw : whyL L with
  | none =>
    unfold lk at h
    rw [hw] at h
    exact absurd h (by show ¬ 2 ≤ 0; decide)
  | some q => exact ⟨q, rfl, (whyL_at _ q hw).1⟩
def cW (a0 a1 a2 a3 a4 a5 a6 a7 w : Int32) : Int32 := if w = 0 then a0 else if w = 1 then a1 else if w = 2 then a2 else if w = 3 then a3 else if w = 4 then a4 else if w = 5 then a5 else if w = 6 then a6 else if w = 7 then a7 else -1
section SLI
variable {d : Nat} {μ : ab_M} {Q : ab_Q} {X : Nat → List ly}
theorem C33 {c : Nat} (hc : c < 12) (h : Q none (ab_up μ 15 c 1)) : ab_Cl (d + 2) 33 [.ref 13, .int (nI c)] μ Q := by
  refine n33 fun J run => run 20 _ _ _ _ ?_
  simp only [e33_0, e33_1, e33_4, e33_7, e33_8, e33_11, e33_12, e33_13, e33_14, ab_li1, true_or, or_true, true_and, and_true, ab_pus, ab_pun, ab_len0, ab_len1, ab_len2, ab_len3, ab_len4, Nat.zero_add]
  refine C69n hc ?_
  simp (disch := omega) only [e33_0, e33_1, e33_4, e33_7, e33_8, e33_11, e33_12, e33_13, e33_14, ab_li1, true_or, or_true, true_and, and_true, ab_pus, ab_pun, ab_len0, ab_len1, ab_len2, ab_len3, ab_len4, Nat.zero_add, z01, false_imp_iff, not_false_eq_true, true_imp_iff, q_in, q_cl]
  exact h
theorem C34 {c : Nat} {v : Int32} (hc : c < 12) (h1 : μ 14 c = 0 → Q none (ab_up μ 14 c v)) (h0 : ¬ μ 14 c = 0 → Q none μ) : ab_Cl (d + 2) 34 [.ref 13, .int (nI c), .int v] μ Q := by
  refine n34 fun J run => run 20 _ _ _ _ ?_
  simp only [e34_0, e34_1, e34_4, e34_7, e34_8, e34_11, e34_12, e34_13, e34_16, e34_17, e34_20, e34_21, e34_22, e34_23, ab_li1, true_or, or_true, true_and, and_true, ab_pus, ab_pun, ab_len0, ab_len1, ab_len2, ab_len3, ab_len4, Nat.zero_add]
  refine C69n hc ?_
  simp (disch := omega) only [e34_0, e34_1, e34_4, e34_7, e34_8, e34_11, e34_12, e34_13, e34_16, e34_17, e34_20, e34_21, e34_22, e34_23, ab_li1, true_or, or_true, true_and, and_true, ab_pus, ab_pun, ab_len0, ab_len1, ab_len2, ab_len3, ab_len4, Nat.zero_add, z01, false_imp_iff, not_false_eq_true, true_imp_iff, q_in, q_cl]
  exact ⟨fun g => h0 g, fun g => h1 (Classical.not_not.mp g)⟩
theorem C74 {c k : Nat} {L : List ly} (hc : c < 12) (hL : rC μ c L) (hk : k < L.length) (h : ∀ ρ, rC ρ c (L.take (k + 1)) → fC c μ ρ → Q (some (nI (sm (L.drop (k + 1))))) (ab_up ρ 0 8 (ρ 0 8 + nI (sm (L.drop (k + 1)))))) : ab_Cl (d + 4) 74 [.ref 0, .int (nI c), .int (nI k)] μ Q := by
  refine n74 fun J run => run 40 _ _ _ _ ?_
  simp (disch := omega) only [e74_0, e74_1, e74_4, e74_5, e74_6, e74_7, e74_10, e74_11, e74_12i, e74_12r, e74_13, e74_16, e74_17, e74_18, e74_21, e74_22, ab_li1, true_or, or_true, true_and, and_true, ab_pus, ab_pun, ab_len0, ab_len1, ab_len2, ab_len3, ab_len4, Nat.zero_add, q_in, q_cl, ab_sl hc]
  refine C27 hc hL hk (fun ρ r1 f1 => ?_)
  simp (disch := omega) only [e74_0, e74_1, e74_4, e74_5, e74_6, e74_7, e74_10, e74_11, e74_12i, e74_12r, e74_13, e74_16, e74_17, e74_18, e74_21, e74_22, ab_li1, true_or, or_true, true_and, and_true, ab_pus, ab_pun, ab_len0, ab_len1, ab_len2, ab_len3, ab_len4, Nat.zero_add]
  exact h ρ r1 f1
theorem C56 {k i : Int32} (hX : aC μ X) (h1 : ∀ c j, c < 12 → k = nI c → i = nI j → j + 1 < (X c).length → ∀ ρ, rC ρ c ((X c).take (j + 1)) → fC c (ab_up μ 15 c 1) ρ → Q (some (nI (sm ((X c).drop (j + 1))))) (ab_up ρ 0 8 (ρ 0 8 + nI (sm ((X c).drop (j + 1)))))) (h0 : ¬ ((0 ≤ k.toInt ∧ k.toInt < 12) ∧ 0 ≤ i.toInt ∧ i.toInt + 1 < (X k.toNatClampNeg).length) → Q (some (-1)) μ) : ab_Cl (d + 5) 56 [.ref 0, .int k, .int i] μ Q := by
  refine n56 fun J run => run 60 _ _ _ _ ?_
  simp only [e56_0, e56_1, e56_4, e56_7, e56_8, e56_11, e56_12, e56_13, e56_14, e56_17, e56_20, e56_21, e56_24, e56_25, e56_26, e56_27, e56_28, e56_29, e56_32, e56_35, e56_36, e56_37, e56_38, e56_41, e56_42, e56_45, e56_46, e56_47, e56_48, e56_51, ab_li1, true_or, or_true, true_and, and_true, ab_pus, ab_pun, ab_len0, ab_len1, ab_len2, ab_len3, ab_len4, Nat.zero_add]
  refine C69i ?_
  by_cases hk : 0 ≤ k.toInt ∧ k.toInt < 12
  · rw [if_pos hk]
    obtain ⟨c, hc, rfl⟩ := toK (n := 12) (by decide) hk
    rw [q_cl (by omega)] at h0
    have hn := (hX c hc).2.1
    simp (disch := omega) only [e56_0, e56_1, e56_4, e56_7, e56_8, e56_11, e56_12, e56_13, e56_14, e56_17, e56_20, e56_21, e56_24, e56_25, e56_26, e56_27, e56_28, e56_29, e56_32, e56_35, e56_36, e56_37, e56_38, e56_41, e56_42, e56_45, e56_46, e56_47, e56_48, e56_51, ab_li1, true_or, or_true, true_and, and_true, ab_pus, ab_pun, ab_len0, ab_len1, ab_len2, ab_len3, ab_len4, Nat.zero_add, z01, false_imp_iff, not_false_eq_true, true_imp_iff, q_in, q_cl, ab_sl hc]
    refine C11i hc (hX c hc) ?_
    by_cases hi : 0 ≤ i.toInt ∧ i.toInt < (X c).length
    · rw [if_pos hi]
      obtain ⟨j, hj, rfl⟩ := toK (by omega) hi
      simp (disch := omega) only [e56_0, e56_1, e56_4, e56_7, e56_8, e56_11, e56_12, e56_13, e56_14, e56_17, e56_20, e56_21, e56_24, e56_25, e56_26, e56_27, e56_28, e56_29, e56_32, e56_35, e56_36, e56_37, e56_38, e56_41, e56_42, e56_45, e56_46, e56_47, e56_48, e56_51, ab_li1, true_or, or_true, true_and, and_true, ab_pus, ab_pun, ab_len0, ab_len1, ab_len2, ab_len3, ab_len4, Nat.zero_add, z01, false_imp_iff, not_false_eq_true, true_imp_iff, q_in, q_cl, ab_sl hc, q_p1]
      refine C11i hc (hX c hc) ?_
      rw [nI_ti (show j < 2147483648 by omega)] at h0
      rw [nI_ti (show j + 1 < 2147483648 by omega)]
      by_cases hj2 : j + 1 < (X c).length
      · rw [if_pos (by omega)]
        simp (disch := omega) only [e56_0, e56_1, e56_4, e56_7, e56_8, e56_11, e56_12, e56_13, e56_14, e56_17, e56_20, e56_21, e56_24, e56_25, e56_26, e56_27, e56_28, e56_29, e56_32, e56_35, e56_36, e56_37, e56_38, e56_41, e56_42, e56_45, e56_46, e56_47, e56_48, e56_51, ab_li1, true_or, or_true, true_and, and_true, ab_pus, ab_pun, ab_len0, ab_len1, ab_len2, ab_len3, ab_len4, Nat.zero_add, z01, not_true_eq_false, false_imp_iff, not_false_eq_true, true_imp_iff]
        refine C33 hc ?_
        simp (disch := omega) only [e56_0, e56_1, e56_4, e56_7, e56_8, e56_11, e56_12, e56_13, e56_14, e56_17, e56_20, e56_21, e56_24, e56_25, e56_26, e56_27, e56_28, e56_29, e56_32, e56_35, e56_36, e56_37, e56_38, e56_41, e56_42, e56_45, e56_46, e56_47, e56_48, e56_51, ab_li1, true_or, or_true, true_and, and_true, ab_pus, ab_pun, ab_len0, ab_len1, ab_len2, ab_len3, ab_len4, Nat.zero_add]
        refine C74 hc (rC_o (hX c hc) (by decide)) hj (fun ρ r1 f1 => ?_)
        simp (disch := omega) only [e56_0, e56_1, e56_4, e56_7, e56_8, e56_11, e56_12, e56_13, e56_14, e56_17, e56_20, e56_21, e56_24, e56_25, e56_26, e56_27, e56_28, e56_29, e56_32, e56_35, e56_36, e56_37, e56_38, e56_41, e56_42, e56_45, e56_46, e56_47, e56_48, e56_51, ab_li1, true_or, or_true, true_and, and_true, ab_pus, ab_pun, ab_len0, ab_len1, ab_len2, ab_len3, ab_len4, Nat.zero_add]
        exact h1 c j hc rfl rfl hj2 ρ r1 f1
      · rw [if_neg (by omega)]
        simp only [e56_0, e56_1, e56_4, e56_7, e56_8, e56_11, e56_12, e56_13, e56_14, e56_17, e56_20, e56_21, e56_24, e56_25, e56_26, e56_27, e56_28, e56_29, e56_32, e56_35, e56_36, e56_37, e56_38, e56_41, e56_42, e56_45, e56_46, e56_47, e56_48, e56_51, ab_li1, true_or, or_true, true_and, and_true, ab_pus, ab_pun, ab_len0, ab_len1, ab_len2, ab_len3, ab_len4, Nat.zero_add, not_true_eq_false, false_imp_iff, not_false_eq_true, true_imp_iff]
        exact h0 (by omega)
    · rw [if_neg hi]
      simp only [e56_0, e56_1, e56_4, e56_7, e56_8, e56_11, e56_12, e56_13, e56_14, e56_17, e56_20, e56_21, e56_24, e56_25, e56_26, e56_27, e56_28, e56_29, e56_32, e56_35, e56_36, e56_37, e56_38, e56_41, e56_42, e56_45, e56_46, e56_47, e56_48, e56_51, ab_li1, true_or, or_true, true_and, and_true, ab_pus, ab_pun, ab_len0, ab_len1, ab_len2, ab_len3, ab_len4, Nat.zero_add, not_true_eq_false, false_imp_iff, not_false_eq_true, true_imp_iff]
      exact h0 (by omega)
  · rw [if_neg hk]
    simp only [e56_0, e56_1, e56_4, e56_7, e56_8, e56_11, e56_12, e56_13, e56_14, e56_17, e56_20, e56_21, e56_24, e56_25, e56_26, e56_27, e56_28, e56_29, e56_32, e56_35, e56_36, e56_37, e56_38, e56_41, e56_42, e56_45, e56_46, e56_47, e56_48, e56_51, ab_li1, true_or, or_true, true_and, and_true, ab_pus, ab_pun, ab_len0, ab_len1, ab_len2, ab_len3, ab_len4, Nat.zero_add, not_true_eq_false, false_imp_iff, not_false_eq_true, true_imp_iff]
    exact h0 (fun z => hk z.1)
theorem C104 {k i : Int32} (hX : aM μ X) (h1 : ∀ c j, c < 12 → k = nI c → i = nI j → j + 1 < (X c).length → ∀ ρ, rM ρ c ((X c).take (j + 1)) → ρ 65 12 = μ 65 12 + nI (sm ((X c).drop (j + 1))) → gM c 12 (ab_up μ 73 c 1) ρ → Q (some (nI (sm ((X c).drop (j + 1))))) ρ) (h0 : ¬ ((0 ≤ k.toInt ∧ k.toInt < 12) ∧ 0 ≤ i.toInt ∧ i.toInt + 1 < (X k.toNatClampNeg).length) → Q (some (-1)) μ) : ab_Cl (d + 3) 104 [.ref 65, .int k, .int i] μ Q := by
  refine n104 fun J run => run 60 _ _ _ _ ?_
  simp only [e104_0, e104_1, e104_4, e104_7, e104_8, e104_9, e104_10, e104_13, e104_14, e104_15, e104_16, e104_17, e104_20, e104_23, e104_24, e104_25, e104_26, e104_29, e104_30, e104_31, e104_32, e104_33, e104_34, e104_35, e104_38, ab_li2, true_or, or_true, true_and, and_true, ab_pus, ab_pun, ab_len0, ab_len1, ab_len2, ab_len3, ab_len4, Nat.zero_add]
  refine C80i ?_
  by_cases hk : 0 ≤ k.toInt ∧ k.toInt < 12
  · rw [if_pos hk]
    obtain ⟨c, hc, rfl⟩ := toK (n := 12) (by decide) hk
    rw [q_cl (by omega)] at h0
    have hL := hX c hc
    have hn := hL.2.1
    simp (disch := omega) only [e104_0, e104_1, e104_4, e104_7, e104_8, e104_9, e104_10, e104_13, e104_14, e104_15, e104_16, e104_17, e104_20, e104_23, e104_24, e104_25, e104_26, e104_29, e104_30, e104_31, e104_32, e104_33, e104_34, e104_35, e104_38, ab_li2, true_or, or_true, true_and, and_true, ab_pus, ab_pun, ab_len0, ab_len1, ab_len2, ab_len3, ab_len4, Nat.zero_add, z01, false_imp_iff, not_false_eq_true, true_imp_iff, q_in, q_cl, hL.1]
    refine C79i ?_
    rw [t_0, ti_m2 hn]
    by_cases hi : 0 ≤ i.toInt ∧ i.toInt + 1 < (X c).length
    · rw [if_pos (by omega)]
      obtain ⟨j, hj, rfl⟩ := toK (n := (X c).length) (by omega) (x := i) (by omega)
      rw [nI_ti (show j < 2147483648 by omega)] at hi
      simp (disch := omega) only [e104_0, e104_1, e104_4, e104_7, e104_8, e104_9, e104_10, e104_13, e104_14, e104_15, e104_16, e104_17, e104_20, e104_23, e104_24, e104_25, e104_26, e104_29, e104_30, e104_31, e104_32, e104_33, e104_34, e104_35, e104_38, ab_li2, true_or, or_true, true_and, and_true, ab_pus, ab_pun, ab_len0, ab_len1, ab_len2, ab_len3, ab_len4, Nat.zero_add, z01, not_true_eq_false, false_imp_iff, not_false_eq_true, true_imp_iff, q_in, q_cl]
      refine C103 hc (rM_e hL (fun p j hp => ab_ud (by omega))) hj (fun ρ r1 r2 f1 => ?_)
      simp (disch := omega) only [e104_0, e104_1, e104_4, e104_7, e104_8, e104_9, e104_10, e104_13, e104_14, e104_15, e104_16, e104_17, e104_20, e104_23, e104_24, e104_25, e104_26, e104_29, e104_30, e104_31, e104_32, e104_33, e104_34, e104_35, e104_38, ab_li2, true_or, or_true, true_and, and_true, ab_pus, ab_pun, ab_len0, ab_len1, ab_len2, ab_len3, ab_len4, Nat.zero_add]
      rw [ab_ud (by decide)] at r2
      exact h1 c j hc rfl rfl (by omega) ρ r1 r2 f1
    · rw [if_neg (by omega)]
      simp only [e104_0, e104_1, e104_4, e104_7, e104_8, e104_9, e104_10, e104_13, e104_14, e104_15, e104_16, e104_17, e104_20, e104_23, e104_24, e104_25, e104_26, e104_29, e104_30, e104_31, e104_32, e104_33, e104_34, e104_35, e104_38, ab_li2, true_or, or_true, true_and, and_true, ab_pus, ab_pun, ab_len0, ab_len1, ab_len2, ab_len3, ab_len4, Nat.zero_add, not_true_eq_false, false_imp_iff, not_false_eq_true, true_imp_iff]
      exact h0 (by omega)
  · rw [if_neg hk]
    simp only [e104_0, e104_1, e104_4, e104_7, e104_8, e104_9, e104_10, e104_13, e104_14, e104_15, e104_16, e104_17, e104_20, e104_23, e104_24, e104_25, e104_26, e104_29, e104_30, e104_31, e104_32, e104_33, e104_34, e104_35, e104_38, ab_li2, true_or, or_true, true_and, and_true, ab_pus, ab_pun, ab_len0, ab_len1, ab_len2, ab_len3, ab_len4, Nat.zero_add, not_true_eq_false, false_imp_iff, not_false_eq_true, true_imp_iff]
    exact h0 (fun z => hk z.1)
theorem C57 {k : Int32} (hX : aC μ X) (ho : ∀ c, c < 12 → okL (X c)) (h1 : ∀ c q, c < 12 → k = nI c → whyL (X c) = some q → 2 ≤ lk (X c) → ∀ ρ, rC ρ c ((X c).take (q.1 + 1)) → fC c μ ρ → Q (some (nI (sm ((X c).drop (q.1 + 1))))) (ab_up ρ 0 8 (ρ 0 8 + nI (sm ((X c).drop (q.1 + 1)))))) (h2 : ∀ c, c < 12 → k = nI c → ¬ 2 ≤ lk (X c) → Q (some 0) μ) (h0 : ¬ (0 ≤ k.toInt ∧ k.toInt < 12) → Q (some (-1)) μ) : ab_Cl (d + 5) 57 [.ref 0, .int k] μ Q := by
  refine n57 fun J run => run 60 _ _ _ _ ?_
  simp only [e57_0, e57_1, e57_4, e57_7, e57_8, e57_9, e57_10, e57_13, e57_14, e57_15, e57_16, e57_17, e57_20, e57_21, e57_22, e57_23, e57_26, e57_27, e57_30, e57_31, e57_32, e57_33, e57_34, e57_35, e57_36, e57_39, e57_42, ab_li1, true_or, or_true, true_and, and_true, ab_pus, ab_pun, ab_len0, ab_len1, ab_len2, ab_len3, ab_len4, Nat.zero_add]
  refine C69i ?_
  by_cases hk : 0 ≤ k.toInt ∧ k.toInt < 12
  · rw [if_pos hk]
    obtain ⟨c, hc, rfl⟩ := toK (n := 12) (by decide) hk
    have hl := lk_le (X c)
    simp (disch := omega) only [e57_0, e57_1, e57_4, e57_7, e57_8, e57_9, e57_10, e57_13, e57_14, e57_15, e57_16, e57_17, e57_20, e57_21, e57_22, e57_23, e57_26, e57_27, e57_30, e57_31, e57_32, e57_33, e57_34, e57_35, e57_36, e57_39, e57_42, ab_li1, true_or, or_true, true_and, and_true, ab_pus, ab_pun, ab_len0, ab_len1, ab_len2, ab_len3, ab_len4, Nat.zero_add, z01, not_true_eq_false, false_imp_iff, not_false_eq_true, true_imp_iff, q_in, q_cl, ab_sl hc]
    refine C10 hc (hX c hc) ?_
    simp (disch := omega) only [e57_0, e57_1, e57_4, e57_7, e57_8, e57_9, e57_10, e57_13, e57_14, e57_15, e57_16, e57_17, e57_20, e57_21, e57_22, e57_23, e57_26, e57_27, e57_30, e57_31, e57_32, e57_33, e57_34, e57_35, e57_36, e57_39, e57_42, ab_li1, true_or, or_true, true_and, and_true, ab_pus, ab_pun, ab_len0, ab_len1, ab_len2, ab_len3, ab_len4, Nat.zero_add, ab_sl hc]
    refine C18f hc (hX c hc) (ho c hc) ?_
    simp (disch := omega) only [e57_0, e57_1, e57_4, e57_7, e57_8, e57_9, e57_10, e57_13, e57_14, e57_15, e57_16, e57_17, e57_20, e57_21, e57_22, e57_23, e57_26, e57_27, e57_30, e57_31, e57_32, e57_33, e57_34, e57_35, e57_36, e57_39, e57_42, ab_li1, true_or, or_true, true_and, and_true, ab_pus, ab_pun, ab_len0, ab_len1, ab_len2, ab_len3, ab_len4, Nat.zero_add, ab_sl hc, l2, q_le]
    refine ⟨fun g => ?_, fun g => h2 c hc rfl g⟩
    obtain ⟨q, hq, hq1⟩ := lk_why g
    refine C17f hc (hX c hc) (ho c hc) ?_
    rw [hq, show wI (some q) 0 = nI q.1 by simp [wI]]
    simp (disch := omega) only [e57_0, e57_1, e57_4, e57_7, e57_8, e57_9, e57_10, e57_13, e57_14, e57_15, e57_16, e57_17, e57_20, e57_21, e57_22, e57_23, e57_26, e57_27, e57_30, e57_31, e57_32, e57_33, e57_34, e57_35, e57_36, e57_39, e57_42, ab_li1, true_or, or_true, true_and, and_true, ab_pus, ab_pun, ab_len0, ab_len1, ab_len2, ab_len3, ab_len4, Nat.zero_add]
    refine C74 hc (hX c hc) hq1 (fun ρ r1 f1 => ?_)
    simp (disch := omega) only [e57_0, e57_1, e57_4, e57_7, e57_8, e57_9, e57_10, e57_13, e57_14, e57_15, e57_16, e57_17, e57_20, e57_21, e57_22, e57_23, e57_26, e57_27, e57_30, e57_31, e57_32, e57_33, e57_34, e57_35, e57_36, e57_39, e57_42, ab_li1, true_or, or_true, true_and, and_true, ab_pus, ab_pun, ab_len0, ab_len1, ab_len2, ab_len3, ab_len4, Nat.zero_add]
    exact h1 c q hc rfl hq g ρ r1 f1
  · rw [if_neg hk]
    simp only [e57_0, e57_1, e57_4, e57_7, e57_8, e57_9, e57_10, e57_13, e57_14, e57_15, e57_16, e57_17, e57_20, e57_21, e57_22, e57_23, e57_26, e57_27, e57_30, e57_31, e57_32, e57_33, e57_34, e57_35, e57_36, e57_39, e57_42, ab_li1, true_or, or_true, true_and, and_true, ab_pus, ab_pun, ab_len0, ab_len1, ab_len2, ab_len3, ab_len4, Nat.zero_add, not_true_eq_false, false_imp_iff, not_false_eq_true, true_imp_iff]
    exact h0 hk
theorem C105 {k : Int32} (hX : aM μ X) (ho : ∀ c, c < 12 → okL (X c)) (h1 : ∀ c q, c < 12 → k = nI c → whyL (X c) = some q → 2 ≤ lk (X c) → ∀ ρ, rM ρ c ((X c).take (q.1 + 1)) → ρ 65 12 = μ 65 12 + nI (sm ((X c).drop (q.1 + 1))) → gM c 12 μ ρ → Q (some (nI (sm ((X c).drop (q.1 + 1))))) ρ) (h2 : ∀ c, c < 12 → k = nI c → ¬ 2 ≤ lk (X c) → Q (some 0) μ) (h0 : ¬ (0 ≤ k.toInt ∧ k.toInt < 12) → Q (some (-1)) μ) : ab_Cl (d + 5) 105 [.ref 65, .int k] μ Q := by
  refine n105 fun J run => run 60 _ _ _ _ ?_
  simp only [e105_0, e105_1, e105_4, e105_7, e105_8, e105_9, e105_10, e105_11, e105_14, e105_15, e105_18, e105_19, e105_20, e105_21, e105_22, e105_25, e105_28, e105_31, e105_32, ab_li2, true_or, or_true, true_and, and_true, ab_pus, ab_pun, ab_len0, ab_len1, ab_len2, ab_len3, ab_len4, Nat.zero_add]
  refine C80i ?_
  by_cases hk : 0 ≤ k.toInt ∧ k.toInt < 12
  · rw [if_pos hk]
    obtain ⟨c, hc, rfl⟩ := toK (n := 12) (by decide) hk
    have hl := lk_le (X c)
    simp (disch := omega) only [e105_0, e105_1, e105_4, e105_7, e105_8, e105_9, e105_10, e105_11, e105_14, e105_15, e105_18, e105_19, e105_20, e105_21, e105_22, e105_25, e105_28, e105_31, e105_32, ab_li2, true_or, or_true, true_and, and_true, ab_pus, ab_pun, ab_len0, ab_len1, ab_len2, ab_len3, ab_len4, Nat.zero_add, z01, not_true_eq_false, false_imp_iff, not_false_eq_true, true_imp_iff]
    refine C98 hc (hX c hc) (ho c hc) ?_
    simp (disch := omega) only [e105_0, e105_1, e105_4, e105_7, e105_8, e105_9, e105_10, e105_11, e105_14, e105_15, e105_18, e105_19, e105_20, e105_21, e105_22, e105_25, e105_28, e105_31, e105_32, ab_li2, true_or, or_true, true_and, and_true, ab_pus, ab_pun, ab_len0, ab_len1, ab_len2, ab_len3, ab_len4, Nat.zero_add, l2, q_lt]
    refine ⟨fun g => h2 c hc rfl (by omega), fun g => ?_⟩
    obtain ⟨q, hq, hq1⟩ := lk_why (L := X c) (by omega)
    refine C97 hc (hX c hc) (ho c hc) ?_
    rw [hq, show wI (some q) 0 = nI q.1 by simp [wI]]
    simp (disch := omega) only [e105_0, e105_1, e105_4, e105_7, e105_8, e105_9, e105_10, e105_11, e105_14, e105_15, e105_18, e105_19, e105_20, e105_21, e105_22, e105_25, e105_28, e105_31, e105_32, ab_li2, true_or, or_true, true_and, and_true, ab_pus, ab_pun, ab_len0, ab_len1, ab_len2, ab_len3, ab_len4, Nat.zero_add]
    refine C103 hc (hX c hc) hq1 (fun ρ r1 r2 f1 => ?_)
    simp (disch := omega) only [e105_0, e105_1, e105_4, e105_7, e105_8, e105_9, e105_10, e105_11, e105_14, e105_15, e105_18, e105_19, e105_20, e105_21, e105_22, e105_25, e105_28, e105_31, e105_32, ab_li2, true_or, or_true, true_and, and_true, ab_pus, ab_pun, ab_len0, ab_len1, ab_len2, ab_len3, ab_len4, Nat.zero_add]
    exact h1 c q hc rfl hq (by omega) ρ r1 r2 f1
  · rw [if_neg hk]
    simp only [e105_0, e105_1, e105_4, e105_7, e105_8, e105_9, e105_10, e105_11, e105_14, e105_15, e105_18, e105_19, e105_20, e105_21, e105_22, e105_25, e105_28, e105_31, e105_32, ab_li2, true_or, or_true, true_and, and_true, ab_pus, ab_pun, ab_len0, ab_len1, ab_len2, ab_len3, ab_len4, Nat.zero_add, not_true_eq_false, false_imp_iff, not_false_eq_true, true_imp_iff]
    exact h0 hk
theorem C65 {k : Int32} {n : Nat} (hn : n ≤ 400) (hnow : μ 0 5 = nI n) (hX : aC μ X) (ho : ∀ c, c < 12 → okL (X c)) (h1 : ∀ c, c < 12 → k = nI c → n < 400 → Q (some (nI (dg X c))) (if μ 14 c = 0 then ab_up μ 14 c (nI (dg X c)) else μ)) (h0 : ¬ ((0 ≤ k.toInt ∧ k.toInt < 12) ∧ n < 400) → Q (some (-1)) μ) : ab_Cl (d + 6) 65 [.ref 0, .int k] μ Q := by
  refine n65 fun J run => run 60 _ _ _ _ ?_
  simp only [e65_0, e65_1, e65_4, e65_7, e65_8, e65_11, e65_14, e65_17, e65_18, e65_19, e65_20, e65_21, e65_24, e65_25, e65_26, e65_29, e65_30, e65_31, e65_34, e65_35, ab_li1, true_or, or_true, true_and, and_true, ab_pus, ab_pun, ab_len0, ab_len1, ab_len2, ab_len3, ab_len4, Nat.zero_add]
  refine C69i ?_
  by_cases hk : 0 ≤ k.toInt ∧ k.toInt < 12
  · rw [if_pos hk]
    obtain ⟨c, hc, rfl⟩ := toK (n := 12) (by decide) hk
    simp (disch := omega) only [e65_0, e65_1, e65_4, e65_7, e65_8, e65_11, e65_14, e65_17, e65_18, e65_19, e65_20, e65_21, e65_24, e65_25, e65_26, e65_29, e65_30, e65_31, e65_34, e65_35, ab_li1, true_or, or_true, true_and, and_true, ab_pus, ab_pun, ab_len0, ab_len1, ab_len2, ab_len3, ab_len4, Nat.zero_add, z01, false_imp_iff, not_false_eq_true, true_imp_iff, hnow, l400, q_lt]
    refine ⟨fun g => ?_, fun g => h0 (by omega)⟩
    refine C75 hc hX ho ?_
    simp (disch := omega) only [e65_0, e65_1, e65_4, e65_7, e65_8, e65_11, e65_14, e65_17, e65_18, e65_19, e65_20, e65_21, e65_24, e65_25, e65_26, e65_29, e65_30, e65_31, e65_34, e65_35, ab_li1, true_or, or_true, true_and, and_true, ab_pus, ab_pun, ab_len0, ab_len1, ab_len2, ab_len3, ab_len4, Nat.zero_add]
    have h1 := h1 c hc rfl g
    refine C34 hc (fun z => ?_) (fun z => ?_)
    · simp (disch := omega) only [e65_0, e65_1, e65_4, e65_7, e65_8, e65_11, e65_14, e65_17, e65_18, e65_19, e65_20, e65_21, e65_24, e65_25, e65_26, e65_29, e65_30, e65_31, e65_34, e65_35, ab_li1, true_or, or_true, true_and, and_true, ab_pus, ab_pun, ab_len0, ab_len1, ab_len2, ab_len3, ab_len4, Nat.zero_add]
      rw [if_pos z] at h1; exact h1
    · simp (disch := omega) only [e65_0, e65_1, e65_4, e65_7, e65_8, e65_11, e65_14, e65_17, e65_18, e65_19, e65_20, e65_21, e65_24, e65_25, e65_26, e65_29, e65_30, e65_31, e65_34, e65_35, ab_li1, true_or, or_true, true_and, and_true, ab_pus, ab_pun, ab_len0, ab_len1, ab_len2, ab_len3, ab_len4, Nat.zero_add]
      rw [if_neg z] at h1; exact h1
  · rw [if_neg hk]
    simp only [e65_0, e65_1, e65_4, e65_7, e65_8, e65_11, e65_14, e65_17, e65_18, e65_19, e65_20, e65_21, e65_24, e65_25, e65_26, e65_29, e65_30, e65_31, e65_34, e65_35, ab_li1, true_or, or_true, true_and, and_true, ab_pus, ab_pun, ab_len0, ab_len1, ab_len2, ab_len3, ab_len4, Nat.zero_add, not_true_eq_false, false_imp_iff, not_false_eq_true, true_imp_iff]
    exact h0 (fun z => hk z.1)
theorem C115 {k : Int32} {n : Nat} (hn : n ≤ 400) (hnow : μ 65 0 = nI n) (hX : aM μ X) (ho : ∀ c, c < 12 → okL (X c)) (h1 : ∀ c, c < 12 → k = nI c → n < 400 → Q (some (nI (dg X c))) (if μ 74 c = 0 then ab_up μ 74 c (nI (dg X c)) else μ)) (h0 : ¬ ((0 ≤ k.toInt ∧ k.toInt < 12) ∧ n < 400) → Q (some (-1)) μ) : ab_Cl (d + 6) 115 [.ref 65, .int k] μ Q := by
  refine n115 fun J run => run 60 _ _ _ _ ?_
  simp only [e115_0, e115_1, e115_4, e115_7, e115_8, e115_11, e115_14, e115_17, e115_18, e115_19, e115_20, e115_21, e115_24, e115_25, e115_26, e115_29, e115_30, e115_31, e115_34, e115_35, e115_38, e115_39, e115_40, e115_41, e115_42, ab_li2, true_or, or_true, true_and, and_true, ab_pus, ab_pun, ab_len0, ab_len1, ab_len2, ab_len3, ab_len4, Nat.zero_add]
  refine C80i ?_
  by_cases hk : 0 ≤ k.toInt ∧ k.toInt < 12
  · rw [if_pos hk]
    obtain ⟨c, hc, rfl⟩ := toK (n := 12) (by decide) hk
    simp (disch := omega) only [e115_0, e115_1, e115_4, e115_7, e115_8, e115_11, e115_14, e115_17, e115_18, e115_19, e115_20, e115_21, e115_24, e115_25, e115_26, e115_29, e115_30, e115_31, e115_34, e115_35, e115_38, e115_39, e115_40, e115_41, e115_42, ab_li2, true_or, or_true, true_and, and_true, ab_pus, ab_pun, ab_len0, ab_len1, ab_len2, ab_len3, ab_len4, Nat.zero_add, z01, false_imp_iff, not_false_eq_true, true_imp_iff, hnow, l400, q_eq]
    refine ⟨fun g => ?_, fun g => h0 (by omega)⟩
    refine C100 hc hX ho ?_
    have h1 := h1 c hc rfl (by omega)
    simp (disch := omega) only [e115_0, e115_1, e115_4, e115_7, e115_8, e115_11, e115_14, e115_17, e115_18, e115_19, e115_20, e115_21, e115_24, e115_25, e115_26, e115_29, e115_30, e115_31, e115_34, e115_35, e115_38, e115_39, e115_40, e115_41, e115_42, ab_li2, true_or, or_true, true_and, and_true, ab_pus, ab_pun, ab_len0, ab_len1, ab_len2, ab_len3, ab_len4, Nat.zero_add, q_in, q_cl]
    refine ⟨fun z => ?_, fun z => ?_⟩
    · rw [if_neg z] at h1; exact h1
    · rw [if_pos (Classical.not_not.mp z)] at h1; exact h1
  · rw [if_neg hk]
    simp only [e115_0, e115_1, e115_4, e115_7, e115_8, e115_11, e115_14, e115_17, e115_18, e115_19, e115_20, e115_21, e115_24, e115_25, e115_26, e115_29, e115_30, e115_31, e115_34, e115_35, e115_38, e115_39, e115_40, e115_41, e115_42, ab_li2, true_or, or_true, true_and, and_true, ab_pus, ab_pun, ab_len0, ab_len1, ab_len2, ab_len3, ab_len4, Nat.zero_add, not_true_eq_false, false_imp_iff, not_false_eq_true, true_imp_iff]
    exact h0 (fun z => hk z.1)
theorem C67 {w : Int32} (hX : aC μ X) (ho : ∀ c, c < 12 → okL (X c)) (h : Q (some (cW (μ 0 5) (nI (tot X 12)) (μ 0 6) (μ 0 7) (μ 0 8) (nI (gm X 12)) (μ 6 2) (μ 9 3) w)) μ) : ab_Cl (d + 7) 67 [.ref 0, .int w] μ Q := by
  refine n67 fun J run => run 30 _ _ _ _ ?_
  unfold cW at h
  rcases cs8 w with rfl | rfl | rfl | rfl | rfl | rfl | rfl | rfl | hw
  · simp only [e67_0, e67_1_0, e67_1_1, e67_1_2, e67_1_3, e67_1_4, e67_1_5, e67_1_6, e67_1_7, e67_48, e67_49, e67_52, e67_53, e67_54, e67_57, e67_58, e67_59, e67_62, e67_63, e67_64, e67_67, e67_68, e67_69, e67_72, e67_73, e67_74, e67_77, e67_78, e67_79, e67_82, e67_85, e67_86, e67_87, e67_90, e67_93, e67_94, e67_95, ab_li1, true_or, or_true, true_and, and_true, ab_pus, ab_pun, ab_len0, ab_len1, ab_len2, ab_len3, ab_len4, Nat.zero_add]
    exact h
  · simp only [e67_0, e67_1_0, e67_1_1, e67_1_2, e67_1_3, e67_1_4, e67_1_5, e67_1_6, e67_1_7, e67_48, e67_49, e67_52, e67_53, e67_54, e67_57, e67_58, e67_59, e67_62, e67_63, e67_64, e67_67, e67_68, e67_69, e67_72, e67_73, e67_74, e67_77, e67_78, e67_79, e67_82, e67_85, e67_86, e67_87, e67_90, e67_93, e67_94, e67_95, ab_li1, true_or, or_true, true_and, and_true, ab_pus, ab_pun, ab_len0, ab_len1, ab_len2, ab_len3, ab_len4, Nat.zero_add]
    refine C78 hX ?_
    simp only [e67_0, e67_1_0, e67_1_1, e67_1_2, e67_1_3, e67_1_4, e67_1_5, e67_1_6, e67_1_7, e67_48, e67_49, e67_52, e67_53, e67_54, e67_57, e67_58, e67_59, e67_62, e67_63, e67_64, e67_67, e67_68, e67_69, e67_72, e67_73, e67_74, e67_77, e67_78, e67_79, e67_82, e67_85, e67_86, e67_87, e67_90, e67_93, e67_94, e67_95, ab_li1, true_or, or_true, true_and, and_true, ab_pus, ab_pun, ab_len0, ab_len1, ab_len2, ab_len3, ab_len4, Nat.zero_add]
    exact h
  · simp only [e67_0, e67_1_0, e67_1_1, e67_1_2, e67_1_3, e67_1_4, e67_1_5, e67_1_6, e67_1_7, e67_48, e67_49, e67_52, e67_53, e67_54, e67_57, e67_58, e67_59, e67_62, e67_63, e67_64, e67_67, e67_68, e67_69, e67_72, e67_73, e67_74, e67_77, e67_78, e67_79, e67_82, e67_85, e67_86, e67_87, e67_90, e67_93, e67_94, e67_95, ab_li1, true_or, or_true, true_and, and_true, ab_pus, ab_pun, ab_len0, ab_len1, ab_len2, ab_len3, ab_len4, Nat.zero_add]
    exact h
  · simp only [e67_0, e67_1_0, e67_1_1, e67_1_2, e67_1_3, e67_1_4, e67_1_5, e67_1_6, e67_1_7, e67_48, e67_49, e67_52, e67_53, e67_54, e67_57, e67_58, e67_59, e67_62, e67_63, e67_64, e67_67, e67_68, e67_69, e67_72, e67_73, e67_74, e67_77, e67_78, e67_79, e67_82, e67_85, e67_86, e67_87, e67_90, e67_93, e67_94, e67_95, ab_li1, true_or, or_true, true_and, and_true, ab_pus, ab_pun, ab_len0, ab_len1, ab_len2, ab_len3, ab_len4, Nat.zero_add]
    exact h
  · simp only [e67_0, e67_1_0, e67_1_1, e67_1_2, e67_1_3, e67_1_4, e67_1_5, e67_1_6, e67_1_7, e67_48, e67_49, e67_52, e67_53, e67_54, e67_57, e67_58, e67_59, e67_62, e67_63, e67_64, e67_67, e67_68, e67_69, e67_72, e67_73, e67_74, e67_77, e67_78, e67_79, e67_82, e67_85, e67_86, e67_87, e67_90, e67_93, e67_94, e67_95, ab_li1, true_or, or_true, true_and, and_true, ab_pus, ab_pun, ab_len0, ab_len1, ab_len2, ab_len3, ab_len4, Nat.zero_add]
    exact h
  · simp only [e67_0, e67_1_0, e67_1_1, e67_1_2, e67_1_3, e67_1_4, e67_1_5, e67_1_6, e67_1_7, e67_48, e67_49, e67_52, e67_53, e67_54, e67_57, e67_58, e67_59, e67_62, e67_63, e67_64, e67_67, e67_68, e67_69, e67_72, e67_73, e67_74, e67_77, e67_78, e67_79, e67_82, e67_85, e67_86, e67_87, e67_90, e67_93, e67_94, e67_95, ab_li1, true_or, or_true, true_and, and_true, ab_pus, ab_pun, ab_len0, ab_len1, ab_len2, ab_len3, ab_len4, Nat.zero_add]
    refine C77 hX ho ?_
    rw [gdm12]
    simp only [e67_0, e67_1_0, e67_1_1, e67_1_2, e67_1_3, e67_1_4, e67_1_5, e67_1_6, e67_1_7, e67_48, e67_49, e67_52, e67_53, e67_54, e67_57, e67_58, e67_59, e67_62, e67_63, e67_64, e67_67, e67_68, e67_69, e67_72, e67_73, e67_74, e67_77, e67_78, e67_79, e67_82, e67_85, e67_86, e67_87, e67_90, e67_93, e67_94, e67_95, ab_li1, true_or, or_true, true_and, and_true, ab_pus, ab_pun, ab_len0, ab_len1, ab_len2, ab_len3, ab_len4, Nat.zero_add]
    exact h
  · simp only [e67_0, e67_1_0, e67_1_1, e67_1_2, e67_1_3, e67_1_4, e67_1_5, e67_1_6, e67_1_7, e67_48, e67_49, e67_52, e67_53, e67_54, e67_57, e67_58, e67_59, e67_62, e67_63, e67_64, e67_67, e67_68, e67_69, e67_72, e67_73, e67_74, e67_77, e67_78, e67_79, e67_82, e67_85, e67_86, e67_87, e67_90, e67_93, e67_94, e67_95, ab_li1, true_or, or_true, true_and, and_true, ab_pus, ab_pun, ab_len0, ab_len1, ab_len2, ab_len3, ab_len4, Nat.zero_add]
    refine n5 fun J run => run 20 _ _ _ _ ?_
    simp only [e5_0, e5_1, e5_4, e67_0, e67_1_0, e67_1_1, e67_1_2, e67_1_3, e67_1_4, e67_1_5, e67_1_6, e67_1_7, e67_48, e67_49, e67_52, e67_53, e67_54, e67_57, e67_58, e67_59, e67_62, e67_63, e67_64, e67_67, e67_68, e67_69, e67_72, e67_73, e67_74, e67_77, e67_78, e67_79, e67_82, e67_85, e67_86, e67_87, e67_90, e67_93, e67_94, e67_95, ab_li1, true_or, or_true, true_and, and_true, ab_pus, ab_pun, ab_len0, ab_len1, ab_len2, ab_len3, ab_len4, Nat.zero_add]
    exact h
  · simp only [e67_0, e67_1_0, e67_1_1, e67_1_2, e67_1_3, e67_1_4, e67_1_5, e67_1_6, e67_1_7, e67_48, e67_49, e67_52, e67_53, e67_54, e67_57, e67_58, e67_59, e67_62, e67_63, e67_64, e67_67, e67_68, e67_69, e67_72, e67_73, e67_74, e67_77, e67_78, e67_79, e67_82, e67_85, e67_86, e67_87, e67_90, e67_93, e67_94, e67_95, ab_li1, true_or, or_true, true_and, and_true, ab_pus, ab_pun, ab_len0, ab_len1, ab_len2, ab_len3, ab_len4, Nat.zero_add]
    refine n0 fun J run => run 20 _ _ _ _ ?_
    simp only [e0_0, e0_1, e0_4, e67_0, e67_1_0, e67_1_1, e67_1_2, e67_1_3, e67_1_4, e67_1_5, e67_1_6, e67_1_7, e67_48, e67_49, e67_52, e67_53, e67_54, e67_57, e67_58, e67_59, e67_62, e67_63, e67_64, e67_67, e67_68, e67_69, e67_72, e67_73, e67_74, e67_77, e67_78, e67_79, e67_82, e67_85, e67_86, e67_87, e67_90, e67_93, e67_94, e67_95, ab_li1, true_or, or_true, true_and, and_true, ab_pus, ab_pun, ab_len0, ab_len1, ab_len2, ab_len3, ab_len4, Nat.zero_add]
    exact h
  · have hw2 := hw
    simp only [z_lt, t_0, t_7] at hw2
    simp only [e67_0, e67_1_0, e67_1_1, e67_1_2, e67_1_3, e67_1_4, e67_1_5, e67_1_6, e67_1_7, e67_48, e67_49, e67_52, e67_53, e67_54, e67_57, e67_58, e67_59, e67_62, e67_63, e67_64, e67_67, e67_68, e67_69, e67_72, e67_73, e67_74, e67_77, e67_78, e67_79, e67_82, e67_85, e67_86, e67_87, e67_90, e67_93, e67_94, e67_95, e67_1d hw, ab_li1, true_or, or_true, true_and, and_true, ab_pus, ab_pun, ab_len0, ab_len1, ab_len2, ab_len3, ab_len4, Nat.zero_add]
    simp only [z_eq, t_0, t_1, t_2, t_3, t_4, t_5, t_6, t_7] at h
    rw [if_neg (by omega), if_neg (by omega), if_neg (by omega), if_neg (by omega), if_neg (by omega), if_neg (by omega), if_neg (by omega), if_neg (by omega)] at h
    exact h
theorem C117 {w : Int32} (hX : aM μ X) (ho : ∀ c, c < 12 → okL (X c)) (h : Q (some (cW (μ 65 0) (nI (tot X 12)) (μ 65 10) (μ 65 11) (μ 65 12) (nI (gm X 12)) (μ 65 16) (μ 65 19) w)) μ) : ab_Cl (d + 6) 117 [.ref 65, .int w] μ Q := by
  refine n117 fun J run => ?_
  unfold cW at h
  rcases cs8 w with rfl | rfl | rfl | rfl | rfl | rfl | rfl | rfl | hw
  · refine run 30 _ _ _ _ ?_
    simp only [e117_0, e117_1, e117_2, e117_3_0, e117_3_1, e117_3_2, e117_3_3, e117_3_4, e117_3_5, e117_3_6, e117_3_7, e117_48, e117_49, e117_52, e117_53, e117_54, e117_55, e117_56, e117_58, e117_61, e117_62, e117_63, e117_64, e117_67, e117_68, e117_69, e117_72, e117_75, e117_76, e117_77, e117_78, e117_81, e117_82, e117_83, e117_86, e117_87, e117_88, e117_91, e117_92, e117_93, e117_94, e117_95, e117_97, e117_100, e117_101, e117_102, e117_105, e117_106, e117_109, e117_110, e117_111, e117_114, e117_117, e117_118, e117_119, e117_122, e117_125, e117_126, e117_127, e117_128, e117_131, e117_132, e117_133, e117_136, e117_137, e117_138, ab_li2, true_or, or_true, true_and, and_true, ab_pus, ab_pun, ab_len0, ab_len1, ab_len2, ab_len3, ab_len4, Nat.zero_add]
    exact h
  · have loop : ∀ f i, 12 - i ≤ f → i ≤ 12 → J 55 μ [.ref 65, .int 1, .int (nI (tot X i)), .int (nI i)] [] := by
      intro f
      induction f with
      | zero =>
        intro i h1 h2
        obtain rfl : i = 12 := by omega
        refine run 20 _ _ _ _ ?_
        simp (disch := omega) only [e117_0, e117_1, e117_2, e117_3_0, e117_3_1, e117_3_2, e117_3_3, e117_3_4, e117_3_5, e117_3_6, e117_3_7, e117_48, e117_49, e117_52, e117_53, e117_54, e117_55, e117_56, e117_58, e117_61, e117_62, e117_63, e117_64, e117_67, e117_68, e117_69, e117_72, e117_75, e117_76, e117_77, e117_78, e117_81, e117_82, e117_83, e117_86, e117_87, e117_88, e117_91, e117_92, e117_93, e117_94, e117_95, e117_97, e117_100, e117_101, e117_102, e117_105, e117_106, e117_109, e117_110, e117_111, e117_114, e117_117, e117_118, e117_119, e117_122, e117_125, e117_126, e117_127, e117_128, e117_131, e117_132, e117_133, e117_136, e117_137, e117_138, ab_li2, true_or, or_true, true_and, and_true, ab_pus, ab_pun, ab_len0, ab_len1, ab_len2, ab_len3, ab_len4, Nat.zero_add, l12, q_le, Nat.le_refl, true_imp_iff, not_true_eq_false, false_imp_iff]
        exact h
      | succ f ih =>
        intro i h1 h2
        by_cases hi : i = 12
        · exact ih i (by omega) h2
        · have hc : i < 12 := by omega
          refine run 40 _ _ _ _ ?_
          simp (disch := omega) only [e117_0, e117_1, e117_2, e117_3_0, e117_3_1, e117_3_2, e117_3_3, e117_3_4, e117_3_5, e117_3_6, e117_3_7, e117_48, e117_49, e117_52, e117_53, e117_54, e117_55, e117_56, e117_58, e117_61, e117_62, e117_63, e117_64, e117_67, e117_68, e117_69, e117_72, e117_75, e117_76, e117_77, e117_78, e117_81, e117_82, e117_83, e117_86, e117_87, e117_88, e117_91, e117_92, e117_93, e117_94, e117_95, e117_97, e117_100, e117_101, e117_102, e117_105, e117_106, e117_109, e117_110, e117_111, e117_114, e117_117, e117_118, e117_119, e117_122, e117_125, e117_126, e117_127, e117_128, e117_131, e117_132, e117_133, e117_136, e117_137, e117_138, ab_li2, true_or, or_true, true_and, and_true, ab_pus, ab_pun, ab_len0, ab_len1, ab_len2, ab_len3, ab_len4, Nat.zero_add, l12, q_le]
          refine ⟨fun z => absurd z (by omega), fun _ => ?_⟩
          refine C101 hc (hX i hc) ?_
          simp (disch := omega) only [e117_0, e117_1, e117_2, e117_3_0, e117_3_1, e117_3_2, e117_3_3, e117_3_4, e117_3_5, e117_3_6, e117_3_7, e117_48, e117_49, e117_52, e117_53, e117_54, e117_55, e117_56, e117_58, e117_61, e117_62, e117_63, e117_64, e117_67, e117_68, e117_69, e117_72, e117_75, e117_76, e117_77, e117_78, e117_81, e117_82, e117_83, e117_86, e117_87, e117_88, e117_91, e117_92, e117_93, e117_94, e117_95, e117_97, e117_100, e117_101, e117_102, e117_105, e117_106, e117_109, e117_110, e117_111, e117_114, e117_117, e117_118, e117_119, e117_122, e117_125, e117_126, e117_127, e117_128, e117_131, e117_132, e117_133, e117_136, e117_137, e117_138, ab_li2, true_or, or_true, true_and, and_true, ab_pus, ab_pun, ab_len0, ab_len1, ab_len2, ab_len3, ab_len4, Nat.zero_add, q_ad, q_p1]
          exact ih (i + 1) (by omega) (by omega)
    refine run 6 _ _ _ _ ?_
    simp only [e117_0, e117_1, e117_2, e117_3_0, e117_3_1, e117_3_2, e117_3_3, e117_3_4, e117_3_5, e117_3_6, e117_3_7, e117_48, e117_49, e117_52, e117_53, e117_54, e117_55, e117_56, e117_58, e117_61, e117_62, e117_63, e117_64, e117_67, e117_68, e117_69, e117_72, e117_75, e117_76, e117_77, e117_78, e117_81, e117_82, e117_83, e117_86, e117_87, e117_88, e117_91, e117_92, e117_93, e117_94, e117_95, e117_97, e117_100, e117_101, e117_102, e117_105, e117_106, e117_109, e117_110, e117_111, e117_114, e117_117, e117_118, e117_119, e117_122, e117_125, e117_126, e117_127, e117_128, e117_131, e117_132, e117_133, e117_136, e117_137, e117_138, ab_li2, true_or, or_true, true_and, and_true, ab_pus, ab_pun, ab_len0, ab_len1, ab_len2, ab_len3, ab_len4, Nat.zero_add, ab_rn0]
    exact loop 12 0 (by decide) (by decide)
  · refine run 30 _ _ _ _ ?_
    simp only [e117_0, e117_1, e117_2, e117_3_0, e117_3_1, e117_3_2, e117_3_3, e117_3_4, e117_3_5, e117_3_6, e117_3_7, e117_48, e117_49, e117_52, e117_53, e117_54, e117_55, e117_56, e117_58, e117_61, e117_62, e117_63, e117_64, e117_67, e117_68, e117_69, e117_72, e117_75, e117_76, e117_77, e117_78, e117_81, e117_82, e117_83, e117_86, e117_87, e117_88, e117_91, e117_92, e117_93, e117_94, e117_95, e117_97, e117_100, e117_101, e117_102, e117_105, e117_106, e117_109, e117_110, e117_111, e117_114, e117_117, e117_118, e117_119, e117_122, e117_125, e117_126, e117_127, e117_128, e117_131, e117_132, e117_133, e117_136, e117_137, e117_138, ab_li2, true_or, or_true, true_and, and_true, ab_pus, ab_pun, ab_len0, ab_len1, ab_len2, ab_len3, ab_len4, Nat.zero_add]
    exact h
  · refine run 30 _ _ _ _ ?_
    simp only [e117_0, e117_1, e117_2, e117_3_0, e117_3_1, e117_3_2, e117_3_3, e117_3_4, e117_3_5, e117_3_6, e117_3_7, e117_48, e117_49, e117_52, e117_53, e117_54, e117_55, e117_56, e117_58, e117_61, e117_62, e117_63, e117_64, e117_67, e117_68, e117_69, e117_72, e117_75, e117_76, e117_77, e117_78, e117_81, e117_82, e117_83, e117_86, e117_87, e117_88, e117_91, e117_92, e117_93, e117_94, e117_95, e117_97, e117_100, e117_101, e117_102, e117_105, e117_106, e117_109, e117_110, e117_111, e117_114, e117_117, e117_118, e117_119, e117_122, e117_125, e117_126, e117_127, e117_128, e117_131, e117_132, e117_133, e117_136, e117_137, e117_138, ab_li2, true_or, or_true, true_and, and_true, ab_pus, ab_pun, ab_len0, ab_len1, ab_len2, ab_len3, ab_len4, Nat.zero_add]
    exact h
  · refine run 30 _ _ _ _ ?_
    simp only [e117_0, e117_1, e117_2, e117_3_0, e117_3_1, e117_3_2, e117_3_3, e117_3_4, e117_3_5, e117_3_6, e117_3_7, e117_48, e117_49, e117_52, e117_53, e117_54, e117_55, e117_56, e117_58, e117_61, e117_62, e117_63, e117_64, e117_67, e117_68, e117_69, e117_72, e117_75, e117_76, e117_77, e117_78, e117_81, e117_82, e117_83, e117_86, e117_87, e117_88, e117_91, e117_92, e117_93, e117_94, e117_95, e117_97, e117_100, e117_101, e117_102, e117_105, e117_106, e117_109, e117_110, e117_111, e117_114, e117_117, e117_118, e117_119, e117_122, e117_125, e117_126, e117_127, e117_128, e117_131, e117_132, e117_133, e117_136, e117_137, e117_138, ab_li2, true_or, or_true, true_and, and_true, ab_pus, ab_pun, ab_len0, ab_len1, ab_len2, ab_len3, ab_len4, Nat.zero_add]
    exact h
  · have loop : ∀ f i, 12 - i ≤ f → i ≤ 12 → J 94 μ [.ref 65, .int 5, .int (nI (gm X i)), .int (nI i)] [] := by
      intro f
      induction f with
      | zero =>
        intro i h1 h2
        obtain rfl : i = 12 := by omega
        refine run 20 _ _ _ _ ?_
        simp (disch := omega) only [e117_0, e117_1, e117_2, e117_3_0, e117_3_1, e117_3_2, e117_3_3, e117_3_4, e117_3_5, e117_3_6, e117_3_7, e117_48, e117_49, e117_52, e117_53, e117_54, e117_55, e117_56, e117_58, e117_61, e117_62, e117_63, e117_64, e117_67, e117_68, e117_69, e117_72, e117_75, e117_76, e117_77, e117_78, e117_81, e117_82, e117_83, e117_86, e117_87, e117_88, e117_91, e117_92, e117_93, e117_94, e117_95, e117_97, e117_100, e117_101, e117_102, e117_105, e117_106, e117_109, e117_110, e117_111, e117_114, e117_117, e117_118, e117_119, e117_122, e117_125, e117_126, e117_127, e117_128, e117_131, e117_132, e117_133, e117_136, e117_137, e117_138, ab_li2, true_or, or_true, true_and, and_true, ab_pus, ab_pun, ab_len0, ab_len1, ab_len2, ab_len3, ab_len4, Nat.zero_add, l12, q_le, Nat.le_refl, true_imp_iff, not_true_eq_false, false_imp_iff]
        exact h
      | succ f ih =>
        intro i h1 h2
        by_cases hi : i = 12
        · exact ih i (by omega) h2
        · have hc : i < 12 := by omega
          have a1 := dg_in X i
          have a2 := gm_le X i
          refine run 40 _ _ _ _ ?_
          simp (disch := omega) only [e117_0, e117_1, e117_2, e117_3_0, e117_3_1, e117_3_2, e117_3_3, e117_3_4, e117_3_5, e117_3_6, e117_3_7, e117_48, e117_49, e117_52, e117_53, e117_54, e117_55, e117_56, e117_58, e117_61, e117_62, e117_63, e117_64, e117_67, e117_68, e117_69, e117_72, e117_75, e117_76, e117_77, e117_78, e117_81, e117_82, e117_83, e117_86, e117_87, e117_88, e117_91, e117_92, e117_93, e117_94, e117_95, e117_97, e117_100, e117_101, e117_102, e117_105, e117_106, e117_109, e117_110, e117_111, e117_114, e117_117, e117_118, e117_119, e117_122, e117_125, e117_126, e117_127, e117_128, e117_131, e117_132, e117_133, e117_136, e117_137, e117_138, ab_li2, true_or, or_true, true_and, and_true, ab_pus, ab_pun, ab_len0, ab_len1, ab_len2, ab_len3, ab_len4, Nat.zero_add, l12, q_le]
          refine ⟨fun z => absurd z (by omega), fun _ => ?_⟩
          refine C100 hc hX ho ?_
          simp (disch := omega) only [e117_0, e117_1, e117_2, e117_3_0, e117_3_1, e117_3_2, e117_3_3, e117_3_4, e117_3_5, e117_3_6, e117_3_7, e117_48, e117_49, e117_52, e117_53, e117_54, e117_55, e117_56, e117_58, e117_61, e117_62, e117_63, e117_64, e117_67, e117_68, e117_69, e117_72, e117_75, e117_76, e117_77, e117_78, e117_81, e117_82, e117_83, e117_86, e117_87, e117_88, e117_91, e117_92, e117_93, e117_94, e117_95, e117_97, e117_100, e117_101, e117_102, e117_105, e117_106, e117_109, e117_110, e117_111, e117_114, e117_117, e117_118, e117_119, e117_122, e117_125, e117_126, e117_127, e117_128, e117_131, e117_132, e117_133, e117_136, e117_137, e117_138, ab_li2, true_or, or_true, true_and, and_true, ab_pus, ab_pun, ab_len0, ab_len1, ab_len2, ab_len3, ab_len4, Nat.zero_add, q_le, q_p1]
          have nx := ih (i + 1) (by omega) (by omega)
          simp only [gm] at nx
          refine ⟨fun g => ?_, fun g => ?_⟩
          · rw [Nat.max_eq_left g] at nx; exact nx
          · refine C100 hc hX ho ?_
            simp (disch := omega) only [e117_0, e117_1, e117_2, e117_3_0, e117_3_1, e117_3_2, e117_3_3, e117_3_4, e117_3_5, e117_3_6, e117_3_7, e117_48, e117_49, e117_52, e117_53, e117_54, e117_55, e117_56, e117_58, e117_61, e117_62, e117_63, e117_64, e117_67, e117_68, e117_69, e117_72, e117_75, e117_76, e117_77, e117_78, e117_81, e117_82, e117_83, e117_86, e117_87, e117_88, e117_91, e117_92, e117_93, e117_94, e117_95, e117_97, e117_100, e117_101, e117_102, e117_105, e117_106, e117_109, e117_110, e117_111, e117_114, e117_117, e117_118, e117_119, e117_122, e117_125, e117_126, e117_127, e117_128, e117_131, e117_132, e117_133, e117_136, e117_137, e117_138, ab_li2, true_or, or_true, true_and, and_true, ab_pus, ab_pun, ab_len0, ab_len1, ab_len2, ab_len3, ab_len4, Nat.zero_add, q_p1]
            rw [Nat.max_eq_right (by omega)] at nx; exact nx
    refine run 6 _ _ _ _ ?_
    simp only [e117_0, e117_1, e117_2, e117_3_0, e117_3_1, e117_3_2, e117_3_3, e117_3_4, e117_3_5, e117_3_6, e117_3_7, e117_48, e117_49, e117_52, e117_53, e117_54, e117_55, e117_56, e117_58, e117_61, e117_62, e117_63, e117_64, e117_67, e117_68, e117_69, e117_72, e117_75, e117_76, e117_77, e117_78, e117_81, e117_82, e117_83, e117_86, e117_87, e117_88, e117_91, e117_92, e117_93, e117_94, e117_95, e117_97, e117_100, e117_101, e117_102, e117_105, e117_106, e117_109, e117_110, e117_111, e117_114, e117_117, e117_118, e117_119, e117_122, e117_125, e117_126, e117_127, e117_128, e117_131, e117_132, e117_133, e117_136, e117_137, e117_138, ab_li2, true_or, or_true, true_and, and_true, ab_pus, ab_pun, ab_len0, ab_len1, ab_len2, ab_len3, ab_len4, Nat.zero_add, ab_rn0]
    exact loop 12 0 (by decide) (by decide)
  · refine run 30 _ _ _ _ ?_
    simp only [e117_0, e117_1, e117_2, e117_3_0, e117_3_1, e117_3_2, e117_3_3, e117_3_4, e117_3_5, e117_3_6, e117_3_7, e117_48, e117_49, e117_52, e117_53, e117_54, e117_55, e117_56, e117_58, e117_61, e117_62, e117_63, e117_64, e117_67, e117_68, e117_69, e117_72, e117_75, e117_76, e117_77, e117_78, e117_81, e117_82, e117_83, e117_86, e117_87, e117_88, e117_91, e117_92, e117_93, e117_94, e117_95, e117_97, e117_100, e117_101, e117_102, e117_105, e117_106, e117_109, e117_110, e117_111, e117_114, e117_117, e117_118, e117_119, e117_122, e117_125, e117_126, e117_127, e117_128, e117_131, e117_132, e117_133, e117_136, e117_137, e117_138, ab_li2, true_or, or_true, true_and, and_true, ab_pus, ab_pun, ab_len0, ab_len1, ab_len2, ab_len3, ab_len4, Nat.zero_add]
    exact h
  · refine run 30 _ _ _ _ ?_
    simp only [e117_0, e117_1, e117_2, e117_3_0, e117_3_1, e117_3_2, e117_3_3, e117_3_4, e117_3_5, e117_3_6, e117_3_7, e117_48, e117_49, e117_52, e117_53, e117_54, e117_55, e117_56, e117_58, e117_61, e117_62, e117_63, e117_64, e117_67, e117_68, e117_69, e117_72, e117_75, e117_76, e117_77, e117_78, e117_81, e117_82, e117_83, e117_86, e117_87, e117_88, e117_91, e117_92, e117_93, e117_94, e117_95, e117_97, e117_100, e117_101, e117_102, e117_105, e117_106, e117_109, e117_110, e117_111, e117_114, e117_117, e117_118, e117_119, e117_122, e117_125, e117_126, e117_127, e117_128, e117_131, e117_132, e117_133, e117_136, e117_137, e117_138, ab_li2, true_or, or_true, true_and, and_true, ab_pus, ab_pun, ab_len0, ab_len1, ab_len2, ab_len3, ab_len4, Nat.zero_add]
    exact h
  · refine run 30 _ _ _ _ ?_
    have hw2 := hw
    simp only [z_lt, t_0, t_7] at hw2
    simp only [e117_0, e117_1, e117_2, e117_3_0, e117_3_1, e117_3_2, e117_3_3, e117_3_4, e117_3_5, e117_3_6, e117_3_7, e117_48, e117_49, e117_52, e117_53, e117_54, e117_55, e117_56, e117_58, e117_61, e117_62, e117_63, e117_64, e117_67, e117_68, e117_69, e117_72, e117_75, e117_76, e117_77, e117_78, e117_81, e117_82, e117_83, e117_86, e117_87, e117_88, e117_91, e117_92, e117_93, e117_94, e117_95, e117_97, e117_100, e117_101, e117_102, e117_105, e117_106, e117_109, e117_110, e117_111, e117_114, e117_117, e117_118, e117_119, e117_122, e117_125, e117_126, e117_127, e117_128, e117_131, e117_132, e117_133, e117_136, e117_137, e117_138, e117_3d hw, ab_li2, true_or, or_true, true_and, and_true, ab_pus, ab_pun, ab_len0, ab_len1, ab_len2, ab_len3, ab_len4, Nat.zero_add]
    simp only [z_eq, t_0, t_1, t_2, t_3, t_4, t_5, t_6, t_7] at h
    rw [if_neg (by omega), if_neg (by omega), if_neg (by omega), if_neg (by omega), if_neg (by omega), if_neg (by omega), if_neg (by omega), if_neg (by omega)] at h
    exact h
end SLI
