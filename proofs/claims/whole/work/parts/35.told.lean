theorem cs5 (w : Int32) : w = 0 ∨ w = 1 ∨ w = 2 ∨ w = 3 ∨ w = 4 ∨ (w < 0 ∨ 4 < w) := by
  simp only [z_lt, z_eq, t_0, t_1, t_2, t_3, t_4]; omega
theorem t_5 : (5 : Int32).toInt = 5 := by decide
theorem t_7 : (7 : Int32).toInt = 7 := by decide
theorem cs6 (w : Int32) : w = 0 ∨ w = 1 ∨ w = 2 ∨ w = 3 ∨ w = 4 ∨ w = 5 ∨ (w < 0 ∨ 5 < w) := by
  simp only [z_lt, z_eq, t_0, t_1, t_2, t_3, t_4, t_5]; omega
theorem cs8 (w : Int32) : w = 0 ∨ w = 1 ∨ w = 2 ∨ w = 3 ∨ w = 4 ∨ w = 5 ∨ w = 6 ∨ w = 7 ∨ (w < 0 ∨ 7 < w) := by
  simp only [z_lt, z_eq, t_0, t_1, t_2, t_3, t_4, t_5, t_6, t_7]; omega
theorem toK {x : Int32} {n : Nat} (hn : n < 2147483648) (h : 0 ≤ x.toInt ∧ x.toInt < n) : ∃ j, j < n ∧ x = nI j := vp_in_of (vp_in_iff.mpr h) hn
theorem nI_ti {j : Nat} (h : j < 2147483648) : (nI j).toInt = j := nI_toInt h
def layW (L : List ly) (j : Nat) (w : Int32) : Int32 := if w = 0 then nI (kd L j) else if w = 1 then nI (ms L j) else if w = 2 then nI (ag L j) else if w = 3 then nI (sm (L.drop (j + 1))) else if w = 4 then oi (Iv L j) else -1
def layR (X : Nat → List ly) (k i w : Int32) : Int32 := if 0 ≤ k.toInt ∧ k.toInt < 12 then (if 0 ≤ i.toInt ∧ i.toInt < (X k.toNatClampNeg).length then layW (X k.toNatClampNeg) i.toNatClampNeg w else -1) else -1
def tolW (X : Nat → List ly) (c : Nat) (w : Int32) : Int32 := if w = 0 then nI (X c).length else if w = 1 then nI (sm (X c)) else if w = 2 then nI (lk (X c)) else if w = 3 then nI (sz (X c)) else if w = 4 then nI (dg X c) else if w = 5 then wI (whyL (X c)) 0 else -1
def tolR (X : Nat → List ly) (k w : Int32) : Int32 := if 0 ≤ k.toInt ∧ k.toInt < 12 then tolW X k.toNatClampNeg w else -1
section TOL
variable {d : Nat} {μ : ab_M} {Q : ab_Q} {X : Nat → List ly}
theorem C11i {c : Nat} {L : List ly} (hc : c < 12) (hL : rC μ c L) {k : Int32} (h : Q (some (if 0 ≤ k.toInt ∧ k.toInt < L.length then 1 else 0)) μ) : ab_Cl (d + 1) 11 [.ref (17 + 4 * c), .int k] μ Q := by
  have hn := hL.2.1
  refine C11 hc hL ?_
  simp only [z_lt, z_le, t_0, nI_ti (show L.length < 2147483648 by omega)]
  split
  · rw [if_neg (by omega)] at h; exact h
  · split
    · rw [if_neg (by omega)] at h; exact h
    · rw [if_pos (by omega)] at h; exact h
theorem C54 {k i w : Int32} (hX : aC μ X) (ho : ∀ c, c < 12 → okL (X c)) (h : Q (some (layR X k i w)) μ) : ab_Cl (d + 4) 54 [.ref 0, .int k, .int i, .int w] μ Q := by
  refine n54 fun J run => run 60 _ _ _ _ ?_
  simp only [e54_0, e54_1, e54_4, e54_7, e54_8, e54_11, e54_12, e54_13, e54_14, e54_17, e54_20, e54_21, e54_22, e54_23, e54_26, e54_27, e54_28, e54_30, e54_31_0, e54_31_1, e54_31_2, e54_31_3, e54_31_4, e54_64, e54_66, e54_67, e54_70, e54_71, e54_73, e54_74, e54_77, e54_78, e54_80, e54_81, e54_84, e54_85, e54_87, e54_88, e54_91, e54_92, e54_94, e54_95, e54_98, e54_99, e54_100, ab_li1, true_or, or_true, true_and, and_true, ab_pus, ab_pun, ab_len0, ab_len1, ab_len2, ab_len3, ab_len4, Nat.zero_add]
  refine C69i ?_
  unfold layR at h
  by_cases hk : 0 ≤ k.toInt ∧ k.toInt < 12
  · rw [if_pos hk] at h ⊢
    obtain ⟨c, hc, rfl⟩ := toK (n := 12) (by decide) hk
    rw [q_cl (by omega)] at h
    have hn := (hX c hc).2.1
    simp (disch := omega) only [e54_0, e54_1, e54_4, e54_7, e54_8, e54_11, e54_12, e54_13, e54_14, e54_17, e54_20, e54_21, e54_22, e54_23, e54_26, e54_27, e54_28, e54_30, e54_31_0, e54_31_1, e54_31_2, e54_31_3, e54_31_4, e54_64, e54_66, e54_67, e54_70, e54_71, e54_73, e54_74, e54_77, e54_78, e54_80, e54_81, e54_84, e54_85, e54_87, e54_88, e54_91, e54_92, e54_94, e54_95, e54_98, e54_99, e54_100, ab_li1, true_or, or_true, true_and, and_true, ab_pus, ab_pun, ab_len0, ab_len1, ab_len2, ab_len3, ab_len4, Nat.zero_add, z01, false_imp_iff, not_false_eq_true, true_imp_iff, q_in, q_cl, ab_sl hc]
    refine C11i hc (hX c hc) ?_
    by_cases hi : 0 ≤ i.toInt ∧ i.toInt < (X c).length
    · rw [if_pos hi] at h ⊢
      obtain ⟨j, hj, rfl⟩ := toK (by omega) hi
      rw [q_cl (by omega)] at h
      unfold layW at h
      rcases cs5 w with rfl | rfl | rfl | rfl | rfl | hw
      · simp (disch := omega) only [e54_0, e54_1, e54_4, e54_7, e54_8, e54_11, e54_12, e54_13, e54_14, e54_17, e54_20, e54_21, e54_22, e54_23, e54_26, e54_27, e54_28, e54_30, e54_31_0, e54_31_1, e54_31_2, e54_31_3, e54_31_4, e54_64, e54_66, e54_67, e54_70, e54_71, e54_73, e54_74, e54_77, e54_78, e54_80, e54_81, e54_84, e54_85, e54_87, e54_88, e54_91, e54_92, e54_94, e54_95, e54_98, e54_99, e54_100, ab_li1, true_or, or_true, true_and, and_true, ab_pus, ab_pun, ab_len0, ab_len1, ab_len2, ab_len3, ab_len4, Nat.zero_add, z01, not_true_eq_false, false_imp_iff, not_false_eq_true, true_imp_iff, q_in, q_cl, ab_sl hc]
        refine C12 hc (hX c hc) hj ?_
        simp only [e54_0, e54_1, e54_4, e54_7, e54_8, e54_11, e54_12, e54_13, e54_14, e54_17, e54_20, e54_21, e54_22, e54_23, e54_26, e54_27, e54_28, e54_30, e54_31_0, e54_31_1, e54_31_2, e54_31_3, e54_31_4, e54_64, e54_66, e54_67, e54_70, e54_71, e54_73, e54_74, e54_77, e54_78, e54_80, e54_81, e54_84, e54_85, e54_87, e54_88, e54_91, e54_92, e54_94, e54_95, e54_98, e54_99, e54_100, ab_li1, true_or, or_true, true_and, and_true, ab_pus, ab_pun, ab_len0, ab_len1, ab_len2, ab_len3, ab_len4, Nat.zero_add]
        exact h
      · simp (disch := omega) only [e54_0, e54_1, e54_4, e54_7, e54_8, e54_11, e54_12, e54_13, e54_14, e54_17, e54_20, e54_21, e54_22, e54_23, e54_26, e54_27, e54_28, e54_30, e54_31_0, e54_31_1, e54_31_2, e54_31_3, e54_31_4, e54_64, e54_66, e54_67, e54_70, e54_71, e54_73, e54_74, e54_77, e54_78, e54_80, e54_81, e54_84, e54_85, e54_87, e54_88, e54_91, e54_92, e54_94, e54_95, e54_98, e54_99, e54_100, ab_li1, true_or, or_true, true_and, and_true, ab_pus, ab_pun, ab_len0, ab_len1, ab_len2, ab_len3, ab_len4, Nat.zero_add, z01, not_true_eq_false, false_imp_iff, not_false_eq_true, true_imp_iff, q_in, q_cl, ab_sl hc]
        refine C13 hc (hX c hc) hj ?_
        simp only [e54_0, e54_1, e54_4, e54_7, e54_8, e54_11, e54_12, e54_13, e54_14, e54_17, e54_20, e54_21, e54_22, e54_23, e54_26, e54_27, e54_28, e54_30, e54_31_0, e54_31_1, e54_31_2, e54_31_3, e54_31_4, e54_64, e54_66, e54_67, e54_70, e54_71, e54_73, e54_74, e54_77, e54_78, e54_80, e54_81, e54_84, e54_85, e54_87, e54_88, e54_91, e54_92, e54_94, e54_95, e54_98, e54_99, e54_100, ab_li1, true_or, or_true, true_and, and_true, ab_pus, ab_pun, ab_len0, ab_len1, ab_len2, ab_len3, ab_len4, Nat.zero_add]
        exact h
      · simp (disch := omega) only [e54_0, e54_1, e54_4, e54_7, e54_8, e54_11, e54_12, e54_13, e54_14, e54_17, e54_20, e54_21, e54_22, e54_23, e54_26, e54_27, e54_28, e54_30, e54_31_0, e54_31_1, e54_31_2, e54_31_3, e54_31_4, e54_64, e54_66, e54_67, e54_70, e54_71, e54_73, e54_74, e54_77, e54_78, e54_80, e54_81, e54_84, e54_85, e54_87, e54_88, e54_91, e54_92, e54_94, e54_95, e54_98, e54_99, e54_100, ab_li1, true_or, or_true, true_and, and_true, ab_pus, ab_pun, ab_len0, ab_len1, ab_len2, ab_len3, ab_len4, Nat.zero_add, z01, not_true_eq_false, false_imp_iff, not_false_eq_true, true_imp_iff, q_in, q_cl, ab_sl hc]
        refine C14 hc (hX c hc) hj ?_
        simp only [e54_0, e54_1, e54_4, e54_7, e54_8, e54_11, e54_12, e54_13, e54_14, e54_17, e54_20, e54_21, e54_22, e54_23, e54_26, e54_27, e54_28, e54_30, e54_31_0, e54_31_1, e54_31_2, e54_31_3, e54_31_4, e54_64, e54_66, e54_67, e54_70, e54_71, e54_73, e54_74, e54_77, e54_78, e54_80, e54_81, e54_84, e54_85, e54_87, e54_88, e54_91, e54_92, e54_94, e54_95, e54_98, e54_99, e54_100, ab_li1, true_or, or_true, true_and, and_true, ab_pus, ab_pun, ab_len0, ab_len1, ab_len2, ab_len3, ab_len4, Nat.zero_add]
        exact h
      · simp (disch := omega) only [e54_0, e54_1, e54_4, e54_7, e54_8, e54_11, e54_12, e54_13, e54_14, e54_17, e54_20, e54_21, e54_22, e54_23, e54_26, e54_27, e54_28, e54_30, e54_31_0, e54_31_1, e54_31_2, e54_31_3, e54_31_4, e54_64, e54_66, e54_67, e54_70, e54_71, e54_73, e54_74, e54_77, e54_78, e54_80, e54_81, e54_84, e54_85, e54_87, e54_88, e54_91, e54_92, e54_94, e54_95, e54_98, e54_99, e54_100, ab_li1, true_or, or_true, true_and, and_true, ab_pus, ab_pun, ab_len0, ab_len1, ab_len2, ab_len3, ab_len4, Nat.zero_add, z01, not_true_eq_false, false_imp_iff, not_false_eq_true, true_imp_iff, q_in, q_cl, ab_sl hc]
        refine C16 hc (hX c hc) hj ?_
        simp only [e54_0, e54_1, e54_4, e54_7, e54_8, e54_11, e54_12, e54_13, e54_14, e54_17, e54_20, e54_21, e54_22, e54_23, e54_26, e54_27, e54_28, e54_30, e54_31_0, e54_31_1, e54_31_2, e54_31_3, e54_31_4, e54_64, e54_66, e54_67, e54_70, e54_71, e54_73, e54_74, e54_77, e54_78, e54_80, e54_81, e54_84, e54_85, e54_87, e54_88, e54_91, e54_92, e54_94, e54_95, e54_98, e54_99, e54_100, ab_li1, true_or, or_true, true_and, and_true, ab_pus, ab_pun, ab_len0, ab_len1, ab_len2, ab_len3, ab_len4, Nat.zero_add]
        exact h
      · simp (disch := omega) only [e54_0, e54_1, e54_4, e54_7, e54_8, e54_11, e54_12, e54_13, e54_14, e54_17, e54_20, e54_21, e54_22, e54_23, e54_26, e54_27, e54_28, e54_30, e54_31_0, e54_31_1, e54_31_2, e54_31_3, e54_31_4, e54_64, e54_66, e54_67, e54_70, e54_71, e54_73, e54_74, e54_77, e54_78, e54_80, e54_81, e54_84, e54_85, e54_87, e54_88, e54_91, e54_92, e54_94, e54_95, e54_98, e54_99, e54_100, ab_li1, true_or, or_true, true_and, and_true, ab_pus, ab_pun, ab_len0, ab_len1, ab_len2, ab_len3, ab_len4, Nat.zero_add, z01, not_true_eq_false, false_imp_iff, not_false_eq_true, true_imp_iff, q_in, q_cl, ab_sl hc]
        refine C15 hc (hX c hc) (ho c hc) hj ?_
        simp only [e54_0, e54_1, e54_4, e54_7, e54_8, e54_11, e54_12, e54_13, e54_14, e54_17, e54_20, e54_21, e54_22, e54_23, e54_26, e54_27, e54_28, e54_30, e54_31_0, e54_31_1, e54_31_2, e54_31_3, e54_31_4, e54_64, e54_66, e54_67, e54_70, e54_71, e54_73, e54_74, e54_77, e54_78, e54_80, e54_81, e54_84, e54_85, e54_87, e54_88, e54_91, e54_92, e54_94, e54_95, e54_98, e54_99, e54_100, ab_li1, true_or, or_true, true_and, and_true, ab_pus, ab_pun, ab_len0, ab_len1, ab_len2, ab_len3, ab_len4, Nat.zero_add]
        exact h
      · have hw2 := hw
        simp only [z_lt, t_0, t_4] at hw2
        simp (disch := omega) only [e54_0, e54_1, e54_4, e54_7, e54_8, e54_11, e54_12, e54_13, e54_14, e54_17, e54_20, e54_21, e54_22, e54_23, e54_26, e54_27, e54_28, e54_30, e54_31_0, e54_31_1, e54_31_2, e54_31_3, e54_31_4, e54_64, e54_66, e54_67, e54_70, e54_71, e54_73, e54_74, e54_77, e54_78, e54_80, e54_81, e54_84, e54_85, e54_87, e54_88, e54_91, e54_92, e54_94, e54_95, e54_98, e54_99, e54_100, e54_31d hw, ab_li1, true_or, or_true, true_and, and_true, ab_pus, ab_pun, ab_len0, ab_len1, ab_len2, ab_len3, ab_len4, Nat.zero_add, z01, not_true_eq_false, false_imp_iff, not_false_eq_true, true_imp_iff, q_in, q_cl, ab_sl hc]
        simp only [z_eq, t_0, t_1, t_2, t_3, t_4] at h
        rw [if_neg (by omega), if_neg (by omega), if_neg (by omega), if_neg (by omega), if_neg (by omega)] at h
        exact h
    · rw [if_neg hi] at h ⊢
      simp only [e54_0, e54_1, e54_4, e54_7, e54_8, e54_11, e54_12, e54_13, e54_14, e54_17, e54_20, e54_21, e54_22, e54_23, e54_26, e54_27, e54_28, e54_30, e54_31_0, e54_31_1, e54_31_2, e54_31_3, e54_31_4, e54_64, e54_66, e54_67, e54_70, e54_71, e54_73, e54_74, e54_77, e54_78, e54_80, e54_81, e54_84, e54_85, e54_87, e54_88, e54_91, e54_92, e54_94, e54_95, e54_98, e54_99, e54_100, ab_li1, true_or, or_true, true_and, and_true, ab_pus, ab_pun, ab_len0, ab_len1, ab_len2, ab_len3, ab_len4, Nat.zero_add, not_true_eq_false, false_imp_iff, not_false_eq_true, true_imp_iff]
      exact h
  · rw [if_neg hk] at h ⊢
    simp only [e54_0, e54_1, e54_4, e54_7, e54_8, e54_11, e54_12, e54_13, e54_14, e54_17, e54_20, e54_21, e54_22, e54_23, e54_26, e54_27, e54_28, e54_30, e54_31_0, e54_31_1, e54_31_2, e54_31_3, e54_31_4, e54_64, e54_66, e54_67, e54_70, e54_71, e54_73, e54_74, e54_77, e54_78, e54_80, e54_81, e54_84, e54_85, e54_87, e54_88, e54_91, e54_92, e54_94, e54_95, e54_98, e54_99, e54_100, ab_li1, true_or, or_true, true_and, and_true, ab_pus, ab_pun, ab_len0, ab_len1, ab_len2, ab_len3, ab_len4, Nat.zero_add, not_true_eq_false, false_imp_iff, not_false_eq_true, true_imp_iff]
    exact h
theorem ti_m1 {n : Nat} (h : n ≤ 10) : (nI n - 1).toInt = (n : Int) - 1 := by
  cases n with
  | zero => decide
  | succ j => rw [nI_pred, nI_ti (by omega)]; omega
theorem ti_m2 {n : Nat} (h : n ≤ 10) : (nI n - 2).toInt = (n : Int) - 2 := by
  have key : ∀ n : Nat, n < 11 → (nI n - 2).toInt = (n : Int) - 2 := by decide
  exact key n (by omega)
theorem C96 {k i w : Int32} (hX : aM μ X) (ho : ∀ c, c < 12 → okL (X c)) (h : Q (some (layR X k i w)) μ) : ab_Cl (d + 4) 96 [.ref 65, .int k, .int i, .int w] μ Q := by
  refine n96 fun J run => run 60 _ _ _ _ ?_
  simp only [e96_0, e96_1, e96_4, e96_7, e96_8, e96_9, e96_10, e96_13, e96_14, e96_15, e96_16, e96_17, e96_20, e96_23, e96_24, e96_25, e96_27, e96_28, e96_29, e96_30, e96_31, e96_33, e96_34_0, e96_34_1, e96_34_2, e96_34_3, e96_34_4, e96_68, e96_69, e96_72, e96_74, e96_75, e96_76, e96_77, e96_80, e96_82, e96_83, e96_84, e96_85, e96_88, e96_90, e96_91, e96_92, e96_93, e96_94, e96_95, e96_98, e96_99, e96_100, e96_101, e96_102, e96_105, e96_106, e96_107, ab_li2, true_or, or_true, true_and, and_true, ab_pus, ab_pun, ab_len0, ab_len1, ab_len2, ab_len3, ab_len4, Nat.zero_add]
  refine C80i ?_
  unfold layR at h
  by_cases hk : 0 ≤ k.toInt ∧ k.toInt < 12
  · rw [if_pos hk] at h ⊢
    obtain ⟨c, hc, rfl⟩ := toK (n := 12) (by decide) hk
    rw [q_cl (by omega)] at h
    have hL := hX c hc
    have hn := hL.2.1
    simp (disch := omega) only [e96_0, e96_1, e96_4, e96_7, e96_8, e96_9, e96_10, e96_13, e96_14, e96_15, e96_16, e96_17, e96_20, e96_23, e96_24, e96_25, e96_27, e96_28, e96_29, e96_30, e96_31, e96_33, e96_34_0, e96_34_1, e96_34_2, e96_34_3, e96_34_4, e96_68, e96_69, e96_72, e96_74, e96_75, e96_76, e96_77, e96_80, e96_82, e96_83, e96_84, e96_85, e96_88, e96_90, e96_91, e96_92, e96_93, e96_94, e96_95, e96_98, e96_99, e96_100, e96_101, e96_102, e96_105, e96_106, e96_107, ab_li2, true_or, or_true, true_and, and_true, ab_pus, ab_pun, ab_len0, ab_len1, ab_len2, ab_len3, ab_len4, Nat.zero_add, z01, false_imp_iff, not_false_eq_true, true_imp_iff, q_in, q_cl, hL.1]
    refine C79i ?_
    rw [t_0, ti_m1 hn]
    by_cases hi : 0 ≤ i.toInt ∧ i.toInt < (X c).length
    · rw [if_pos hi] at h
      rw [if_pos (by omega)]
      obtain ⟨j, hj, rfl⟩ := toK (by omega) hi
      rw [q_cl (by omega)] at h
      unfold layW at h
      rcases cs5 w with rfl | rfl | rfl | rfl | rfl | hw
      · simp (disch := omega) only [e96_0, e96_1, e96_4, e96_7, e96_8, e96_9, e96_10, e96_13, e96_14, e96_15, e96_16, e96_17, e96_20, e96_23, e96_24, e96_25, e96_27, e96_28, e96_29, e96_30, e96_31, e96_33, e96_34_0, e96_34_1, e96_34_2, e96_34_3, e96_34_4, e96_68, e96_69, e96_72, e96_74, e96_75, e96_76, e96_77, e96_80, e96_82, e96_83, e96_84, e96_85, e96_88, e96_90, e96_91, e96_92, e96_93, e96_94, e96_95, e96_98, e96_99, e96_100, e96_101, e96_102, e96_105, e96_106, e96_107, ab_li2, true_or, or_true, true_and, and_true, ab_pus, ab_pun, ab_len0, ab_len1, ab_len2, ab_len3, ab_len4, Nat.zero_add, z01, not_true_eq_false, false_imp_iff, not_false_eq_true, true_imp_iff, q_in, q_cl, l10, q_mu, q_ad, hL.2.2.1 j hj]
        exact h
      · simp (disch := omega) only [e96_0, e96_1, e96_4, e96_7, e96_8, e96_9, e96_10, e96_13, e96_14, e96_15, e96_16, e96_17, e96_20, e96_23, e96_24, e96_25, e96_27, e96_28, e96_29, e96_30, e96_31, e96_33, e96_34_0, e96_34_1, e96_34_2, e96_34_3, e96_34_4, e96_68, e96_69, e96_72, e96_74, e96_75, e96_76, e96_77, e96_80, e96_82, e96_83, e96_84, e96_85, e96_88, e96_90, e96_91, e96_92, e96_93, e96_94, e96_95, e96_98, e96_99, e96_100, e96_101, e96_102, e96_105, e96_106, e96_107, ab_li2, true_or, or_true, true_and, and_true, ab_pus, ab_pun, ab_len0, ab_len1, ab_len2, ab_len3, ab_len4, Nat.zero_add, z01, not_true_eq_false, false_imp_iff, not_false_eq_true, true_imp_iff, q_in, q_cl, l10, q_mu, q_ad, hL.2.2.2.1 j hj]
        exact h
      · simp (disch := omega) only [e96_0, e96_1, e96_4, e96_7, e96_8, e96_9, e96_10, e96_13, e96_14, e96_15, e96_16, e96_17, e96_20, e96_23, e96_24, e96_25, e96_27, e96_28, e96_29, e96_30, e96_31, e96_33, e96_34_0, e96_34_1, e96_34_2, e96_34_3, e96_34_4, e96_68, e96_69, e96_72, e96_74, e96_75, e96_76, e96_77, e96_80, e96_82, e96_83, e96_84, e96_85, e96_88, e96_90, e96_91, e96_92, e96_93, e96_94, e96_95, e96_98, e96_99, e96_100, e96_101, e96_102, e96_105, e96_106, e96_107, ab_li2, true_or, or_true, true_and, and_true, ab_pus, ab_pun, ab_len0, ab_len1, ab_len2, ab_len3, ab_len4, Nat.zero_add, z01, not_true_eq_false, false_imp_iff, not_false_eq_true, true_imp_iff, q_in, q_cl, l10, q_mu, q_ad, hL.2.2.2.2 j hj]
        exact h
      · simp (disch := omega) only [e96_0, e96_1, e96_4, e96_7, e96_8, e96_9, e96_10, e96_13, e96_14, e96_15, e96_16, e96_17, e96_20, e96_23, e96_24, e96_25, e96_27, e96_28, e96_29, e96_30, e96_31, e96_33, e96_34_0, e96_34_1, e96_34_2, e96_34_3, e96_34_4, e96_68, e96_69, e96_72, e96_74, e96_75, e96_76, e96_77, e96_80, e96_82, e96_83, e96_84, e96_85, e96_88, e96_90, e96_91, e96_92, e96_93, e96_94, e96_95, e96_98, e96_99, e96_100, e96_101, e96_102, e96_105, e96_106, e96_107, ab_li2, true_or, or_true, true_and, and_true, ab_pus, ab_pun, ab_len0, ab_len1, ab_len2, ab_len3, ab_len4, Nat.zero_add, z01, not_true_eq_false, false_imp_iff, not_false_eq_true, true_imp_iff, l10, q_mu, q_ad]
        refine C94 hc hL (by omega) ?_
        simp only [e96_0, e96_1, e96_4, e96_7, e96_8, e96_9, e96_10, e96_13, e96_14, e96_15, e96_16, e96_17, e96_20, e96_23, e96_24, e96_25, e96_27, e96_28, e96_29, e96_30, e96_31, e96_33, e96_34_0, e96_34_1, e96_34_2, e96_34_3, e96_34_4, e96_68, e96_69, e96_72, e96_74, e96_75, e96_76, e96_77, e96_80, e96_82, e96_83, e96_84, e96_85, e96_88, e96_90, e96_91, e96_92, e96_93, e96_94, e96_95, e96_98, e96_99, e96_100, e96_101, e96_102, e96_105, e96_106, e96_107, ab_li2, true_or, or_true, true_and, and_true, ab_pus, ab_pun, ab_len0, ab_len1, ab_len2, ab_len3, ab_len4, Nat.zero_add]
        exact h
      · simp (disch := omega) only [e96_0, e96_1, e96_4, e96_7, e96_8, e96_9, e96_10, e96_13, e96_14, e96_15, e96_16, e96_17, e96_20, e96_23, e96_24, e96_25, e96_27, e96_28, e96_29, e96_30, e96_31, e96_33, e96_34_0, e96_34_1, e96_34_2, e96_34_3, e96_34_4, e96_68, e96_69, e96_72, e96_74, e96_75, e96_76, e96_77, e96_80, e96_82, e96_83, e96_84, e96_85, e96_88, e96_90, e96_91, e96_92, e96_93, e96_94, e96_95, e96_98, e96_99, e96_100, e96_101, e96_102, e96_105, e96_106, e96_107, ab_li2, true_or, or_true, true_and, and_true, ab_pus, ab_pun, ab_len0, ab_len1, ab_len2, ab_len3, ab_len4, Nat.zero_add, z01, not_true_eq_false, false_imp_iff, not_false_eq_true, true_imp_iff, l10, q_mu, q_ad]
        refine C95 hc hL (ho c hc) hj ?_
        simp only [e96_0, e96_1, e96_4, e96_7, e96_8, e96_9, e96_10, e96_13, e96_14, e96_15, e96_16, e96_17, e96_20, e96_23, e96_24, e96_25, e96_27, e96_28, e96_29, e96_30, e96_31, e96_33, e96_34_0, e96_34_1, e96_34_2, e96_34_3, e96_34_4, e96_68, e96_69, e96_72, e96_74, e96_75, e96_76, e96_77, e96_80, e96_82, e96_83, e96_84, e96_85, e96_88, e96_90, e96_91, e96_92, e96_93, e96_94, e96_95, e96_98, e96_99, e96_100, e96_101, e96_102, e96_105, e96_106, e96_107, ab_li2, true_or, or_true, true_and, and_true, ab_pus, ab_pun, ab_len0, ab_len1, ab_len2, ab_len3, ab_len4, Nat.zero_add]
        exact h
      · have hw2 := hw
        simp only [z_lt, t_0, t_4] at hw2
        simp (disch := omega) only [e96_0, e96_1, e96_4, e96_7, e96_8, e96_9, e96_10, e96_13, e96_14, e96_15, e96_16, e96_17, e96_20, e96_23, e96_24, e96_25, e96_27, e96_28, e96_29, e96_30, e96_31, e96_33, e96_34_0, e96_34_1, e96_34_2, e96_34_3, e96_34_4, e96_68, e96_69, e96_72, e96_74, e96_75, e96_76, e96_77, e96_80, e96_82, e96_83, e96_84, e96_85, e96_88, e96_90, e96_91, e96_92, e96_93, e96_94, e96_95, e96_98, e96_99, e96_100, e96_101, e96_102, e96_105, e96_106, e96_107, e96_34d hw, ab_li2, true_or, or_true, true_and, and_true, ab_pus, ab_pun, ab_len0, ab_len1, ab_len2, ab_len3, ab_len4, Nat.zero_add, z01, not_true_eq_false, false_imp_iff, not_false_eq_true, true_imp_iff, l10, q_mu, q_ad]
        simp only [z_eq, t_0, t_1, t_2, t_3, t_4] at h
        rw [if_neg (by omega), if_neg (by omega), if_neg (by omega), if_neg (by omega), if_neg (by omega)] at h
        exact h
    · rw [if_neg hi] at h
      rw [if_neg (by omega)]
      simp only [e96_0, e96_1, e96_4, e96_7, e96_8, e96_9, e96_10, e96_13, e96_14, e96_15, e96_16, e96_17, e96_20, e96_23, e96_24, e96_25, e96_27, e96_28, e96_29, e96_30, e96_31, e96_33, e96_34_0, e96_34_1, e96_34_2, e96_34_3, e96_34_4, e96_68, e96_69, e96_72, e96_74, e96_75, e96_76, e96_77, e96_80, e96_82, e96_83, e96_84, e96_85, e96_88, e96_90, e96_91, e96_92, e96_93, e96_94, e96_95, e96_98, e96_99, e96_100, e96_101, e96_102, e96_105, e96_106, e96_107, ab_li2, true_or, or_true, true_and, and_true, ab_pus, ab_pun, ab_len0, ab_len1, ab_len2, ab_len3, ab_len4, Nat.zero_add, not_true_eq_false, false_imp_iff, not_false_eq_true, true_imp_iff]
      exact h
  · rw [if_neg hk] at h ⊢
    simp only [e96_0, e96_1, e96_4, e96_7, e96_8, e96_9, e96_10, e96_13, e96_14, e96_15, e96_16, e96_17, e96_20, e96_23, e96_24, e96_25, e96_27, e96_28, e96_29, e96_30, e96_31, e96_33, e96_34_0, e96_34_1, e96_34_2, e96_34_3, e96_34_4, e96_68, e96_69, e96_72, e96_74, e96_75, e96_76, e96_77, e96_80, e96_82, e96_83, e96_84, e96_85, e96_88, e96_90, e96_91, e96_92, e96_93, e96_94, e96_95, e96_98, e96_99, e96_100, e96_101, e96_102, e96_105, e96_106, e96_107, ab_li2, true_or, or_true, true_and, and_true, ab_pus, ab_pun, ab_len0, ab_len1, ab_len2, ab_len3, ab_len4, Nat.zero_add, not_true_eq_false, false_imp_iff, not_false_eq_true, true_imp_iff]
    exact h
theorem C55 {k w : Int32} (hX : aC μ X) (ho : ∀ c, c < 12 → okL (X c)) (h : Q (some (tolR X k w)) μ) : ab_Cl (d + 6) 55 [.ref 0, .int k, .int w] μ Q := by
  refine n55 fun J run => run 60 _ _ _ _ ?_
  simp only [e55_0, e55_1, e55_4, e55_7, e55_8, e55_9, e55_10, e55_13, e55_14, e55_15, e55_16, e55_17, e55_20, e55_22, e55_23_0, e55_23_1, e55_23_2, e55_23_3, e55_23_4, e55_23_5, e55_60, e55_62, e55_63, e55_64, e55_65, e55_68, e55_69, e55_70, e55_72, e55_75, e55_76, e55_77, e55_79, e55_82, e55_83, e55_84, e55_85, e55_88, e55_89, e55_90, e55_92, e55_95, e55_96, e55_97, ab_li1, true_or, or_true, true_and, and_true, ab_pus, ab_pun, ab_len0, ab_len1, ab_len2, ab_len3, ab_len4, Nat.zero_add]
  refine C69i ?_
  unfold tolR at h
  by_cases hk : 0 ≤ k.toInt ∧ k.toInt < 12
  · rw [if_pos hk] at h ⊢
    obtain ⟨c, hc, rfl⟩ := toK (n := 12) (by decide) hk
    rw [q_cl (by omega)] at h
    simp (disch := omega) only [e55_0, e55_1, e55_4, e55_7, e55_8, e55_9, e55_10, e55_13, e55_14, e55_15, e55_16, e55_17, e55_20, e55_22, e55_23_0, e55_23_1, e55_23_2, e55_23_3, e55_23_4, e55_23_5, e55_60, e55_62, e55_63, e55_64, e55_65, e55_68, e55_69, e55_70, e55_72, e55_75, e55_76, e55_77, e55_79, e55_82, e55_83, e55_84, e55_85, e55_88, e55_89, e55_90, e55_92, e55_95, e55_96, e55_97, ab_li1, true_or, or_true, true_and, and_true, ab_pus, ab_pun, ab_len0, ab_len1, ab_len2, ab_len3, ab_len4, Nat.zero_add, z01, not_true_eq_false, false_imp_iff, not_false_eq_true, true_imp_iff, q_in, q_cl, ab_sl hc]
    refine C10 hc (hX c hc) ?_
    unfold tolW at h
    rcases cs6 w with rfl | rfl | rfl | rfl | rfl | rfl | hw
    · simp (disch := omega) only [e55_0, e55_1, e55_4, e55_7, e55_8, e55_9, e55_10, e55_13, e55_14, e55_15, e55_16, e55_17, e55_20, e55_22, e55_23_0, e55_23_1, e55_23_2, e55_23_3, e55_23_4, e55_23_5, e55_60, e55_62, e55_63, e55_64, e55_65, e55_68, e55_69, e55_70, e55_72, e55_75, e55_76, e55_77, e55_79, e55_82, e55_83, e55_84, e55_85, e55_88, e55_89, e55_90, e55_92, e55_95, e55_96, e55_97, ab_li1, true_or, or_true, true_and, and_true, ab_pus, ab_pun, ab_len0, ab_len1, ab_len2, ab_len3, ab_len4, Nat.zero_add, ab_sl hc]
      exact h
    · simp (disch := omega) only [e55_0, e55_1, e55_4, e55_7, e55_8, e55_9, e55_10, e55_13, e55_14, e55_15, e55_16, e55_17, e55_20, e55_22, e55_23_0, e55_23_1, e55_23_2, e55_23_3, e55_23_4, e55_23_5, e55_60, e55_62, e55_63, e55_64, e55_65, e55_68, e55_69, e55_70, e55_72, e55_75, e55_76, e55_77, e55_79, e55_82, e55_83, e55_84, e55_85, e55_88, e55_89, e55_90, e55_92, e55_95, e55_96, e55_97, ab_li1, true_or, or_true, true_and, and_true, ab_pus, ab_pun, ab_len0, ab_len1, ab_len2, ab_len3, ab_len4, Nat.zero_add, ab_sl hc]
      refine C16a hc (hX c hc) ?_
      simp only [e55_0, e55_1, e55_4, e55_7, e55_8, e55_9, e55_10, e55_13, e55_14, e55_15, e55_16, e55_17, e55_20, e55_22, e55_23_0, e55_23_1, e55_23_2, e55_23_3, e55_23_4, e55_23_5, e55_60, e55_62, e55_63, e55_64, e55_65, e55_68, e55_69, e55_70, e55_72, e55_75, e55_76, e55_77, e55_79, e55_82, e55_83, e55_84, e55_85, e55_88, e55_89, e55_90, e55_92, e55_95, e55_96, e55_97, ab_li1, true_or, or_true, true_and, and_true, ab_pus, ab_pun, ab_len0, ab_len1, ab_len2, ab_len3, ab_len4, Nat.zero_add]
      exact h
    · simp (disch := omega) only [e55_0, e55_1, e55_4, e55_7, e55_8, e55_9, e55_10, e55_13, e55_14, e55_15, e55_16, e55_17, e55_20, e55_22, e55_23_0, e55_23_1, e55_23_2, e55_23_3, e55_23_4, e55_23_5, e55_60, e55_62, e55_63, e55_64, e55_65, e55_68, e55_69, e55_70, e55_72, e55_75, e55_76, e55_77, e55_79, e55_82, e55_83, e55_84, e55_85, e55_88, e55_89, e55_90, e55_92, e55_95, e55_96, e55_97, ab_li1, true_or, or_true, true_and, and_true, ab_pus, ab_pun, ab_len0, ab_len1, ab_len2, ab_len3, ab_len4, Nat.zero_add, ab_sl hc]
      refine C18f hc (hX c hc) (ho c hc) ?_
      simp only [e55_0, e55_1, e55_4, e55_7, e55_8, e55_9, e55_10, e55_13, e55_14, e55_15, e55_16, e55_17, e55_20, e55_22, e55_23_0, e55_23_1, e55_23_2, e55_23_3, e55_23_4, e55_23_5, e55_60, e55_62, e55_63, e55_64, e55_65, e55_68, e55_69, e55_70, e55_72, e55_75, e55_76, e55_77, e55_79, e55_82, e55_83, e55_84, e55_85, e55_88, e55_89, e55_90, e55_92, e55_95, e55_96, e55_97, ab_li1, true_or, or_true, true_and, and_true, ab_pus, ab_pun, ab_len0, ab_len1, ab_len2, ab_len3, ab_len4, Nat.zero_add]
      exact h
    · simp (disch := omega) only [e55_0, e55_1, e55_4, e55_7, e55_8, e55_9, e55_10, e55_13, e55_14, e55_15, e55_16, e55_17, e55_20, e55_22, e55_23_0, e55_23_1, e55_23_2, e55_23_3, e55_23_4, e55_23_5, e55_60, e55_62, e55_63, e55_64, e55_65, e55_68, e55_69, e55_70, e55_72, e55_75, e55_76, e55_77, e55_79, e55_82, e55_83, e55_84, e55_85, e55_88, e55_89, e55_90, e55_92, e55_95, e55_96, e55_97, ab_li1, true_or, or_true, true_and, and_true, ab_pus, ab_pun, ab_len0, ab_len1, ab_len2, ab_len3, ab_len4, Nat.zero_add, ab_sl hc]
      refine C19f hc (hX c hc) (ho c hc) ?_
      simp only [e55_0, e55_1, e55_4, e55_7, e55_8, e55_9, e55_10, e55_13, e55_14, e55_15, e55_16, e55_17, e55_20, e55_22, e55_23_0, e55_23_1, e55_23_2, e55_23_3, e55_23_4, e55_23_5, e55_60, e55_62, e55_63, e55_64, e55_65, e55_68, e55_69, e55_70, e55_72, e55_75, e55_76, e55_77, e55_79, e55_82, e55_83, e55_84, e55_85, e55_88, e55_89, e55_90, e55_92, e55_95, e55_96, e55_97, ab_li1, true_or, or_true, true_and, and_true, ab_pus, ab_pun, ab_len0, ab_len1, ab_len2, ab_len3, ab_len4, Nat.zero_add]
      exact h
    · simp (disch := omega) only [e55_0, e55_1, e55_4, e55_7, e55_8, e55_9, e55_10, e55_13, e55_14, e55_15, e55_16, e55_17, e55_20, e55_22, e55_23_0, e55_23_1, e55_23_2, e55_23_3, e55_23_4, e55_23_5, e55_60, e55_62, e55_63, e55_64, e55_65, e55_68, e55_69, e55_70, e55_72, e55_75, e55_76, e55_77, e55_79, e55_82, e55_83, e55_84, e55_85, e55_88, e55_89, e55_90, e55_92, e55_95, e55_96, e55_97, ab_li1, true_or, or_true, true_and, and_true, ab_pus, ab_pun, ab_len0, ab_len1, ab_len2, ab_len3, ab_len4, Nat.zero_add, ab_sl hc]
      refine C75 hc hX ho ?_
      simp only [e55_0, e55_1, e55_4, e55_7, e55_8, e55_9, e55_10, e55_13, e55_14, e55_15, e55_16, e55_17, e55_20, e55_22, e55_23_0, e55_23_1, e55_23_2, e55_23_3, e55_23_4, e55_23_5, e55_60, e55_62, e55_63, e55_64, e55_65, e55_68, e55_69, e55_70, e55_72, e55_75, e55_76, e55_77, e55_79, e55_82, e55_83, e55_84, e55_85, e55_88, e55_89, e55_90, e55_92, e55_95, e55_96, e55_97, ab_li1, true_or, or_true, true_and, and_true, ab_pus, ab_pun, ab_len0, ab_len1, ab_len2, ab_len3, ab_len4, Nat.zero_add]
      exact h
    · simp (disch := omega) only [e55_0, e55_1, e55_4, e55_7, e55_8, e55_9, e55_10, e55_13, e55_14, e55_15, e55_16, e55_17, e55_20, e55_22, e55_23_0, e55_23_1, e55_23_2, e55_23_3, e55_23_4, e55_23_5, e55_60, e55_62, e55_63, e55_64, e55_65, e55_68, e55_69, e55_70, e55_72, e55_75, e55_76, e55_77, e55_79, e55_82, e55_83, e55_84, e55_85, e55_88, e55_89, e55_90, e55_92, e55_95, e55_96, e55_97, ab_li1, true_or, or_true, true_and, and_true, ab_pus, ab_pun, ab_len0, ab_len1, ab_len2, ab_len3, ab_len4, Nat.zero_add, ab_sl hc]
      refine C17f hc (hX c hc) (ho c hc) ?_
      simp only [e55_0, e55_1, e55_4, e55_7, e55_8, e55_9, e55_10, e55_13, e55_14, e55_15, e55_16, e55_17, e55_20, e55_22, e55_23_0, e55_23_1, e55_23_2, e55_23_3, e55_23_4, e55_23_5, e55_60, e55_62, e55_63, e55_64, e55_65, e55_68, e55_69, e55_70, e55_72, e55_75, e55_76, e55_77, e55_79, e55_82, e55_83, e55_84, e55_85, e55_88, e55_89, e55_90, e55_92, e55_95, e55_96, e55_97, ab_li1, true_or, or_true, true_and, and_true, ab_pus, ab_pun, ab_len0, ab_len1, ab_len2, ab_len3, ab_len4, Nat.zero_add]
      exact h
    · have hw2 := hw
      simp only [z_lt, t_0, t_5] at hw2
      simp (disch := omega) only [e55_0, e55_1, e55_4, e55_7, e55_8, e55_9, e55_10, e55_13, e55_14, e55_15, e55_16, e55_17, e55_20, e55_22, e55_23_0, e55_23_1, e55_23_2, e55_23_3, e55_23_4, e55_23_5, e55_60, e55_62, e55_63, e55_64, e55_65, e55_68, e55_69, e55_70, e55_72, e55_75, e55_76, e55_77, e55_79, e55_82, e55_83, e55_84, e55_85, e55_88, e55_89, e55_90, e55_92, e55_95, e55_96, e55_97, e55_23d hw, ab_li1, true_or, or_true, true_and, and_true, ab_pus, ab_pun, ab_len0, ab_len1, ab_len2, ab_len3, ab_len4, Nat.zero_add, ab_sl hc]
      simp only [z_eq, t_0, t_1, t_2, t_3, t_4, t_5] at h
      rw [if_neg (by omega), if_neg (by omega), if_neg (by omega), if_neg (by omega), if_neg (by omega), if_neg (by omega)] at h
      exact h
  · rw [if_neg hk] at h ⊢
    simp only [e55_0, e55_1, e55_4, e55_7, e55_8, e55_9, e55_10, e55_13, e55_14, e55_15, e55_16, e55_17, e55_20, e55_22, e55_23_0, e55_23_1, e55_23_2, e55_23_3, e55_23_4, e55_23_5, e55_60, e55_62, e55_63, e55_64, e55_65, e55_68, e55_69, e55_70, e55_72, e55_75, e55_76, e55_77, e55_79, e55_82, e55_83, e55_84, e55_85, e55_88, e55_89, e55_90, e55_92, e55_95, e55_96, e55_97, ab_li1, true_or, or_true, true_and, and_true, ab_pus, ab_pun, ab_len0, ab_len1, ab_len2, ab_len3, ab_len4, Nat.zero_add, not_true_eq_false, false_imp_iff, not_false_eq_true, true_imp_iff]
    exact h
theorem C102 {k w : Int32} (hX : aM μ X) (ho : ∀ c, c < 12 → okL (X c)) (h : Q (some (tolR X k w)) μ) : ab_Cl (d + 6) 102 [.ref 65, .int k, .int w] μ Q := by
  refine n102 fun J run => run 60 _ _ _ _ ?_
  simp only [e102_0, e102_1, e102_4, e102_7, e102_8, e102_9, e102_10_0, e102_10_1, e102_10_2, e102_10_3, e102_10_4, e102_10_5, e102_48, e102_49, e102_52, e102_53, e102_54, e102_55, e102_56, e102_57, e102_60, e102_61, e102_62, e102_63, e102_66, e102_67, e102_68, e102_69, e102_72, e102_73, e102_74, e102_75, e102_78, e102_79, e102_80, e102_81, e102_84, e102_85, e102_86, ab_li2, true_or, or_true, true_and, and_true, ab_pus, ab_pun, ab_len0, ab_len1, ab_len2, ab_len3, ab_len4, Nat.zero_add]
  refine C80i ?_
  unfold tolR at h
  by_cases hk : 0 ≤ k.toInt ∧ k.toInt < 12
  · rw [if_pos hk] at h ⊢
    obtain ⟨c, hc, rfl⟩ := toK (n := 12) (by decide) hk
    rw [q_cl (by omega)] at h
    have hL := hX c hc
    have hn := hL.2.1
    unfold tolW at h
    rcases cs6 w with rfl | rfl | rfl | rfl | rfl | rfl | hw
    · simp (disch := omega) only [e102_0, e102_1, e102_4, e102_7, e102_8, e102_9, e102_10_0, e102_10_1, e102_10_2, e102_10_3, e102_10_4, e102_10_5, e102_48, e102_49, e102_52, e102_53, e102_54, e102_55, e102_56, e102_57, e102_60, e102_61, e102_62, e102_63, e102_66, e102_67, e102_68, e102_69, e102_72, e102_73, e102_74, e102_75, e102_78, e102_79, e102_80, e102_81, e102_84, e102_85, e102_86, ab_li2, true_or, or_true, true_and, and_true, ab_pus, ab_pun, ab_len0, ab_len1, ab_len2, ab_len3, ab_len4, Nat.zero_add, z01, not_true_eq_false, false_imp_iff, not_false_eq_true, true_imp_iff, q_in, q_cl, hL.1]
      exact h
    · simp (disch := omega) only [e102_0, e102_1, e102_4, e102_7, e102_8, e102_9, e102_10_0, e102_10_1, e102_10_2, e102_10_3, e102_10_4, e102_10_5, e102_48, e102_49, e102_52, e102_53, e102_54, e102_55, e102_56, e102_57, e102_60, e102_61, e102_62, e102_63, e102_66, e102_67, e102_68, e102_69, e102_72, e102_73, e102_74, e102_75, e102_78, e102_79, e102_80, e102_81, e102_84, e102_85, e102_86, ab_li2, true_or, or_true, true_and, and_true, ab_pus, ab_pun, ab_len0, ab_len1, ab_len2, ab_len3, ab_len4, Nat.zero_add, z01, not_true_eq_false, false_imp_iff, not_false_eq_true, true_imp_iff]
      refine C101 hc hL ?_
      simp only [e102_0, e102_1, e102_4, e102_7, e102_8, e102_9, e102_10_0, e102_10_1, e102_10_2, e102_10_3, e102_10_4, e102_10_5, e102_48, e102_49, e102_52, e102_53, e102_54, e102_55, e102_56, e102_57, e102_60, e102_61, e102_62, e102_63, e102_66, e102_67, e102_68, e102_69, e102_72, e102_73, e102_74, e102_75, e102_78, e102_79, e102_80, e102_81, e102_84, e102_85, e102_86, ab_li2, true_or, or_true, true_and, and_true, ab_pus, ab_pun, ab_len0, ab_len1, ab_len2, ab_len3, ab_len4, Nat.zero_add]
      exact h
    · simp (disch := omega) only [e102_0, e102_1, e102_4, e102_7, e102_8, e102_9, e102_10_0, e102_10_1, e102_10_2, e102_10_3, e102_10_4, e102_10_5, e102_48, e102_49, e102_52, e102_53, e102_54, e102_55, e102_56, e102_57, e102_60, e102_61, e102_62, e102_63, e102_66, e102_67, e102_68, e102_69, e102_72, e102_73, e102_74, e102_75, e102_78, e102_79, e102_80, e102_81, e102_84, e102_85, e102_86, ab_li2, true_or, or_true, true_and, and_true, ab_pus, ab_pun, ab_len0, ab_len1, ab_len2, ab_len3, ab_len4, Nat.zero_add, z01, not_true_eq_false, false_imp_iff, not_false_eq_true, true_imp_iff]
      refine C98 hc hL (ho c hc) ?_
      simp only [e102_0, e102_1, e102_4, e102_7, e102_8, e102_9, e102_10_0, e102_10_1, e102_10_2, e102_10_3, e102_10_4, e102_10_5, e102_48, e102_49, e102_52, e102_53, e102_54, e102_55, e102_56, e102_57, e102_60, e102_61, e102_62, e102_63, e102_66, e102_67, e102_68, e102_69, e102_72, e102_73, e102_74, e102_75, e102_78, e102_79, e102_80, e102_81, e102_84, e102_85, e102_86, ab_li2, true_or, or_true, true_and, and_true, ab_pus, ab_pun, ab_len0, ab_len1, ab_len2, ab_len3, ab_len4, Nat.zero_add]
      exact h
    · simp (disch := omega) only [e102_0, e102_1, e102_4, e102_7, e102_8, e102_9, e102_10_0, e102_10_1, e102_10_2, e102_10_3, e102_10_4, e102_10_5, e102_48, e102_49, e102_52, e102_53, e102_54, e102_55, e102_56, e102_57, e102_60, e102_61, e102_62, e102_63, e102_66, e102_67, e102_68, e102_69, e102_72, e102_73, e102_74, e102_75, e102_78, e102_79, e102_80, e102_81, e102_84, e102_85, e102_86, ab_li2, true_or, or_true, true_and, and_true, ab_pus, ab_pun, ab_len0, ab_len1, ab_len2, ab_len3, ab_len4, Nat.zero_add, z01, not_true_eq_false, false_imp_iff, not_false_eq_true, true_imp_iff]
      refine C99 hc hL (ho c hc) ?_
      simp only [e102_0, e102_1, e102_4, e102_7, e102_8, e102_9, e102_10_0, e102_10_1, e102_10_2, e102_10_3, e102_10_4, e102_10_5, e102_48, e102_49, e102_52, e102_53, e102_54, e102_55, e102_56, e102_57, e102_60, e102_61, e102_62, e102_63, e102_66, e102_67, e102_68, e102_69, e102_72, e102_73, e102_74, e102_75, e102_78, e102_79, e102_80, e102_81, e102_84, e102_85, e102_86, ab_li2, true_or, or_true, true_and, and_true, ab_pus, ab_pun, ab_len0, ab_len1, ab_len2, ab_len3, ab_len4, Nat.zero_add]
      exact h
    · simp (disch := omega) only [e102_0, e102_1, e102_4, e102_7, e102_8, e102_9, e102_10_0, e102_10_1, e102_10_2, e102_10_3, e102_10_4, e102_10_5, e102_48, e102_49, e102_52, e102_53, e102_54, e102_55, e102_56, e102_57, e102_60, e102_61, e102_62, e102_63, e102_66, e102_67, e102_68, e102_69, e102_72, e102_73, e102_74, e102_75, e102_78, e102_79, e102_80, e102_81, e102_84, e102_85, e102_86, ab_li2, true_or, or_true, true_and, and_true, ab_pus, ab_pun, ab_len0, ab_len1, ab_len2, ab_len3, ab_len4, Nat.zero_add, z01, not_true_eq_false, false_imp_iff, not_false_eq_true, true_imp_iff]
      refine C100 hc hX ho ?_
      simp only [e102_0, e102_1, e102_4, e102_7, e102_8, e102_9, e102_10_0, e102_10_1, e102_10_2, e102_10_3, e102_10_4, e102_10_5, e102_48, e102_49, e102_52, e102_53, e102_54, e102_55, e102_56, e102_57, e102_60, e102_61, e102_62, e102_63, e102_66, e102_67, e102_68, e102_69, e102_72, e102_73, e102_74, e102_75, e102_78, e102_79, e102_80, e102_81, e102_84, e102_85, e102_86, ab_li2, true_or, or_true, true_and, and_true, ab_pus, ab_pun, ab_len0, ab_len1, ab_len2, ab_len3, ab_len4, Nat.zero_add]
      exact h
    · simp (disch := omega) only [e102_0, e102_1, e102_4, e102_7, e102_8, e102_9, e102_10_0, e102_10_1, e102_10_2, e102_10_3, e102_10_4, e102_10_5, e102_48, e102_49, e102_52, e102_53, e102_54, e102_55, e102_56, e102_57, e102_60, e102_61, e102_62, e102_63, e102_66, e102_67, e102_68, e102_69, e102_72, e102_73, e102_74, e102_75, e102_78, e102_79, e102_80, e102_81, e102_84, e102_85, e102_86, ab_li2, true_or, or_true, true_and, and_true, ab_pus, ab_pun, ab_len0, ab_len1, ab_len2, ab_len3, ab_len4, Nat.zero_add, z01, not_true_eq_false, false_imp_iff, not_false_eq_true, true_imp_iff]
      refine C97 hc hL (ho c hc) ?_
      simp only [e102_0, e102_1, e102_4, e102_7, e102_8, e102_9, e102_10_0, e102_10_1, e102_10_2, e102_10_3, e102_10_4, e102_10_5, e102_48, e102_49, e102_52, e102_53, e102_54, e102_55, e102_56, e102_57, e102_60, e102_61, e102_62, e102_63, e102_66, e102_67, e102_68, e102_69, e102_72, e102_73, e102_74, e102_75, e102_78, e102_79, e102_80, e102_81, e102_84, e102_85, e102_86, ab_li2, true_or, or_true, true_and, and_true, ab_pus, ab_pun, ab_len0, ab_len1, ab_len2, ab_len3, ab_len4, Nat.zero_add]
      exact h
    · have hw2 := hw
      simp only [z_lt, t_0, t_5] at hw2
      simp (disch := omega) only [e102_0, e102_1, e102_4, e102_7, e102_8, e102_9, e102_10_0, e102_10_1, e102_10_2, e102_10_3, e102_10_4, e102_10_5, e102_48, e102_49, e102_52, e102_53, e102_54, e102_55, e102_56, e102_57, e102_60, e102_61, e102_62, e102_63, e102_66, e102_67, e102_68, e102_69, e102_72, e102_73, e102_74, e102_75, e102_78, e102_79, e102_80, e102_81, e102_84, e102_85, e102_86, e102_10d hw, ab_li2, true_or, or_true, true_and, and_true, ab_pus, ab_pun, ab_len0, ab_len1, ab_len2, ab_len3, ab_len4, Nat.zero_add, z01, not_true_eq_false, false_imp_iff, not_false_eq_true, true_imp_iff]
      simp only [z_eq, t_0, t_1, t_2, t_3, t_4, t_5] at h
      rw [if_neg (by omega), if_neg (by omega), if_neg (by omega), if_neg (by omega), if_neg (by omega), if_neg (by omega)] at h
      exact h
  · rw [if_neg hk] at h ⊢
    simp only [e102_0, e102_1, e102_4, e102_7, e102_8, e102_9, e102_10_0, e102_10_1, e102_10_2, e102_10_3, e102_10_4, e102_10_5, e102_48, e102_49, e102_52, e102_53, e102_54, e102_55, e102_56, e102_57, e102_60, e102_61, e102_62, e102_63, e102_66, e102_67, e102_68, e102_69, e102_72, e102_73, e102_74, e102_75, e102_78, e102_79, e102_80, e102_81, e102_84, e102_85, e102_86, ab_li2, true_or, or_true, true_and, and_true, ab_pus, ab_pun, ab_len0, ab_len1, ab_len2, ab_len3, ab_len4, Nat.zero_add, not_true_eq_false, false_imp_iff, not_false_eq_true, true_imp_iff]
    exact h
end TOL
