section SIN
variable {d : Nat} {μ : ab_M} {Q : ab_Q}
theorem C6 {k z : Int32} {n : Nat} (hn : n ≤ 10) (hnum : μ 6 2 = nI n) (h1 : n < 10 → Q (some (nI n)) (ab_up (ab_up (ab_up μ 7 n k) 8 n z) 6 2 (nI (n + 1)))) (h0 : ¬ n < 10 → Q (some (-1)) μ) : ab_Cl (d + 1) 6 [.ref 6, .int k, .int z] μ Q := by
  refine n6 fun J run => run 40 _ _ _ _ ?_
  simp (disch := omega) only [e6_0, e6_1, e6_4, e6_6, e6_9, e6_10, e6_11, e6_12, e6_15, e6_16, e6_19, e6_20, e6_21, e6_22, e6_25, e6_26, e6_29, e6_30, e6_31, e6_32i, e6_32r, e6_33, e6_36, e6_37, e6_38, e6_41, e6_42, e6_45, e6_46, e6_47, ab_li1, true_or, or_true, true_and, and_true, ab_pus, ab_pun, ab_len0, ab_len1, ab_len2, ab_len3, ab_len4, Nat.zero_add, hnum, l10, q_lt]
  refine ⟨fun g => ?_, fun g => h0 g⟩
  simp (disch := omega) only [q_in, q_cl, true_and, ab_ud, hnum, q_p1, ab_up_eq, q_m1, Nat.add_sub_cancel]
  exact h1 g
theorem C58 {k z : Int32} {n : Nat} (hn : n ≤ 10) (hnum : μ 6 2 = nI n) (h1 : (n < 10 ∧ 0 ≤ k.toInt ∧ k.toInt < 12 ∧ 0 ≤ z.toInt ∧ z.toInt ≤ 2) → Q (some (nI n)) (ab_up (ab_up (ab_up μ 7 n k) 8 n z) 6 2 (nI (n + 1)))) (h0 : ¬ (n < 10 ∧ 0 ≤ k.toInt ∧ k.toInt < 12 ∧ 0 ≤ z.toInt ∧ z.toInt ≤ 2) → Q (some (-1)) μ) : ab_Cl (d + 2) 58 [.ref 0, .int k, .int z] μ Q := by
  refine n58 fun J run => run 40 _ _ _ _ ?_
  simp only [e58_0, e58_1, e58_4, e58_7, e58_8, e58_11, e58_12, e58_13, e58_16, e58_17, e58_18, e58_19, e58_22, e58_23, e58_24, e58_27, ab_li1, true_or, or_true, true_and, and_true, ab_pus, ab_pun, ab_len0, ab_len1, ab_len2, ab_len3, ab_len4, Nat.zero_add]
  refine C69i ?_
  by_cases hh : 0 ≤ k.toInt ∧ k.toInt < 12
  · rw [if_pos hh]
    simp only [e58_0, e58_1, e58_4, e58_7, e58_8, e58_11, e58_12, e58_13, e58_16, e58_17, e58_18, e58_19, e58_22, e58_23, e58_24, e58_27, ab_li1, true_or, or_true, true_and, and_true, ab_pus, ab_pun, ab_len0, ab_len1, ab_len2, ab_len3, ab_len4, Nat.zero_add, z01, false_imp_iff, not_false_eq_true, true_imp_iff]
    simp only [z_lt, z_le, t_0, t_2]
    refine ⟨fun g => h0 (by omega), fun g => ⟨fun g2 => C6 hn hnum (fun g3 => ?_) (fun g3 => ?_), fun g2 => h0 (by omega)⟩⟩
    · simp only [e58_0, e58_1, e58_4, e58_7, e58_8, e58_11, e58_12, e58_13, e58_16, e58_17, e58_18, e58_19, e58_22, e58_23, e58_24, e58_27, ab_li1, true_or, or_true, true_and, and_true, ab_pus, ab_pun, ab_len0, ab_len1, ab_len2, ab_len3, ab_len4, Nat.zero_add]
      exact h1 (by omega)
    · simp only [e58_0, e58_1, e58_4, e58_7, e58_8, e58_11, e58_12, e58_13, e58_16, e58_17, e58_18, e58_19, e58_22, e58_23, e58_24, e58_27, ab_li1, true_or, or_true, true_and, and_true, ab_pus, ab_pun, ab_len0, ab_len1, ab_len2, ab_len3, ab_len4, Nat.zero_add]
      exact h0 (by omega)
  · rw [if_neg hh]
    simp only [e58_0, e58_1, e58_4, e58_7, e58_8, e58_11, e58_12, e58_13, e58_16, e58_17, e58_18, e58_19, e58_22, e58_23, e58_24, e58_27, ab_li1, true_or, or_true, true_and, and_true, ab_pus, ab_pun, ab_len0, ab_len1, ab_len2, ab_len3, ab_len4, Nat.zero_add, not_true_eq_false, false_imp_iff, not_false_eq_true, true_imp_iff]
    exact h0 (by omega)
theorem C106 {k z : Int32} {n : Nat} (hn : n ≤ 10) (hnum : μ 65 16 = nI n) (h1 : (n < 10 ∧ 0 ≤ k.toInt ∧ k.toInt < 12 ∧ 0 ≤ z.toInt ∧ z.toInt ≤ 2) → Q (some (nI n)) (ab_up (ab_up (ab_up μ 76 n k) 77 n z) 65 16 (nI (n + 1)))) (h0 : ¬ (n < 10 ∧ 0 ≤ k.toInt ∧ k.toInt < 12 ∧ 0 ≤ z.toInt ∧ z.toInt ≤ 2) → Q (some (-1)) μ) : ab_Cl (d + 3) 106 [.ref 65, .int k, .int z] μ Q := by
  refine n106 fun J run => run 40 _ _ _ _ ?_
  simp only [e106_0, e106_1, e106_4, e106_7, e106_8, e106_9, e106_10, e106_13, e106_16, e106_17, e106_20, e106_22, e106_25, e106_26, e106_27, e106_28, e106_31, e106_32, e106_35, e106_36, e106_37, e106_38, e106_41, e106_42, e106_45, e106_46, e106_47, e106_48i, e106_48r, e106_49, e106_52, e106_53, e106_54, e106_57, e106_58, e106_61, e106_62, e106_63, ab_li2, true_or, or_true, true_and, and_true, ab_pus, ab_pun, ab_len0, ab_len1, ab_len2, ab_len3, ab_len4, Nat.zero_add]
  refine C80i ?_
  by_cases hh : 0 ≤ k.toInt ∧ k.toInt < 12
  · rw [if_pos hh]
    simp only [e106_0, e106_1, e106_4, e106_7, e106_8, e106_9, e106_10, e106_13, e106_16, e106_17, e106_20, e106_22, e106_25, e106_26, e106_27, e106_28, e106_31, e106_32, e106_35, e106_36, e106_37, e106_38, e106_41, e106_42, e106_45, e106_46, e106_47, e106_48i, e106_48r, e106_49, e106_52, e106_53, e106_54, e106_57, e106_58, e106_61, e106_62, e106_63, ab_li2, true_or, or_true, true_and, and_true, ab_pus, ab_pun, ab_len0, ab_len1, ab_len2, ab_len3, ab_len4, Nat.zero_add, z01, false_imp_iff, not_false_eq_true, true_imp_iff]
    refine C79i ?_
    rw [t_0, t_2]
    by_cases hz : 0 ≤ z.toInt ∧ z.toInt ≤ 2
    · rw [if_pos hz]
      simp (disch := omega) only [e106_0, e106_1, e106_4, e106_7, e106_8, e106_9, e106_10, e106_13, e106_16, e106_17, e106_20, e106_22, e106_25, e106_26, e106_27, e106_28, e106_31, e106_32, e106_35, e106_36, e106_37, e106_38, e106_41, e106_42, e106_45, e106_46, e106_47, e106_48i, e106_48r, e106_49, e106_52, e106_53, e106_54, e106_57, e106_58, e106_61, e106_62, e106_63, ab_li2, true_or, or_true, true_and, and_true, ab_pus, ab_pun, ab_len0, ab_len1, ab_len2, ab_len3, ab_len4, Nat.zero_add, z01, not_true_eq_false, false_imp_iff, not_false_eq_true, true_imp_iff, hnum, l10, q_eq]
      refine ⟨fun g => ?_, fun g => h0 (by omega)⟩
      simp (disch := omega) only [q_in, q_cl, true_and, ab_ud, hnum, q_p1, ab_up_eq, q_m1, Nat.add_sub_cancel]
      exact h1 (by omega)
    · rw [if_neg hz]
      simp only [e106_0, e106_1, e106_4, e106_7, e106_8, e106_9, e106_10, e106_13, e106_16, e106_17, e106_20, e106_22, e106_25, e106_26, e106_27, e106_28, e106_31, e106_32, e106_35, e106_36, e106_37, e106_38, e106_41, e106_42, e106_45, e106_46, e106_47, e106_48i, e106_48r, e106_49, e106_52, e106_53, e106_54, e106_57, e106_58, e106_61, e106_62, e106_63, ab_li2, true_or, or_true, true_and, and_true, ab_pus, ab_pun, ab_len0, ab_len1, ab_len2, ab_len3, ab_len4, Nat.zero_add, not_true_eq_false, false_imp_iff, not_false_eq_true, true_imp_iff]
      exact h0 (by omega)
  · rw [if_neg hh]
    simp only [e106_0, e106_1, e106_4, e106_7, e106_8, e106_9, e106_10, e106_13, e106_16, e106_17, e106_20, e106_22, e106_25, e106_26, e106_27, e106_28, e106_31, e106_32, e106_35, e106_36, e106_37, e106_38, e106_41, e106_42, e106_45, e106_46, e106_47, e106_48i, e106_48r, e106_49, e106_52, e106_53, e106_54, e106_57, e106_58, e106_61, e106_62, e106_63, ab_li2, true_or, or_true, true_and, and_true, ab_pus, ab_pun, ab_len0, ab_len1, ab_len2, ab_len3, ab_len4, Nat.zero_add, not_true_eq_false, false_imp_iff, not_false_eq_true, true_imp_iff]
    exact h0 (by omega)
theorem C2 {k m : Int32} {n : Nat} (hn : n ≤ 6) (hnum : μ 9 3 = nI n) (h1 : (n < 6 ∧ 0 ≤ k.toInt ∧ k.toInt ≤ 3 ∧ 1 ≤ m.toInt ∧ m.toInt ≤ 9999) → Q (some (nI (n + 1))) (ab_up (ab_up (ab_up μ 10 n k) 11 n m) 9 3 (nI (n + 1)))) (h0 : ¬ (n < 6 ∧ 0 ≤ k.toInt ∧ k.toInt ≤ 3 ∧ 1 ≤ m.toInt ∧ m.toInt ≤ 9999) → Q (some (-1)) μ) : ab_Cl (d + 1) 2 [.ref 9, .int k, .int m] μ Q := by
  refine n2 fun J run => run 60 _ _ _ _ ?_
  simp (disch := omega) only [e2_0, e2_1, e2_4, e2_6, e2_9, e2_10, e2_13, e2_14, e2_15, e2_18, e2_19, e2_20, e2_23, e2_24, e2_27, e2_30, e2_31, e2_32, e2_33, e2_36, e2_37, e2_40, e2_41, e2_42, e2_43, e2_46, e2_47, e2_50, e2_51, e2_52, e2_53i, e2_53r, e2_54, e2_57, e2_58, e2_59, e2_62, e2_63, e2_66, ab_li1, true_or, or_true, true_and, and_true, ab_pus, ab_pun, ab_len0, ab_len1, ab_len2, ab_len3, ab_len4, Nat.zero_add, hnum, l6, q_le]
  simp only [z_lt, z_le, t_0, t_3, t_1, t_9999]
  refine ⟨fun g => h0 (by omega), fun g => ⟨fun g2 => h0 (by omega), fun g2 => ⟨fun g3 => h0 (by omega), fun g3 => ⟨fun g4 => h0 (by omega), fun g4 => ⟨fun g5 => ?_, fun g5 => h0 (by omega)⟩⟩⟩⟩⟩
  simp (disch := omega) only [q_in, q_cl, true_and, ab_ud, hnum, q_p1, ab_up_eq]
  exact h1 (by omega)
theorem C62 {k m : Int32} {n : Nat} (hn : n ≤ 6) (hnum : μ 9 3 = nI n) (h1 : (n < 6 ∧ 0 ≤ k.toInt ∧ k.toInt ≤ 3 ∧ 1 ≤ m.toInt ∧ m.toInt ≤ 9999) → Q (some (nI (n + 1))) (ab_up (ab_up (ab_up μ 10 n k) 11 n m) 9 3 (nI (n + 1)))) (h0 : ¬ (n < 6 ∧ 0 ≤ k.toInt ∧ k.toInt ≤ 3 ∧ 1 ≤ m.toInt ∧ m.toInt ≤ 9999) → Q (some (-1)) μ) : ab_Cl (d + 2) 62 [.ref 0, .int k, .int m] μ Q := by
  refine n62 fun J run => run 20 _ _ _ _ ?_
  simp only [e62_0, e62_1, e62_4, e62_5, e62_6, e62_9, ab_li1, true_or, or_true, true_and, and_true, ab_pus, ab_pun, ab_len0, ab_len1, ab_len2, ab_len3, ab_len4, Nat.zero_add]
  refine C2 hn hnum (fun g => ?_) (fun g => ?_)
  · simp only [e62_0, e62_1, e62_4, e62_5, e62_6, e62_9, ab_li1, true_or, or_true, true_and, and_true, ab_pus, ab_pun, ab_len0, ab_len1, ab_len2, ab_len3, ab_len4, Nat.zero_add]
    exact h1 g
  · simp only [e62_0, e62_1, e62_4, e62_5, e62_6, e62_9, ab_li1, true_or, or_true, true_and, and_true, ab_pus, ab_pun, ab_len0, ab_len1, ab_len2, ab_len3, ab_len4, Nat.zero_add]
    exact h0 g
theorem C111 {k m : Int32} {n : Nat} (hn : n ≤ 6) (hnum : μ 65 19 = nI n) (h1 : (n < 6 ∧ 0 ≤ k.toInt ∧ k.toInt ≤ 3 ∧ 1 ≤ m.toInt ∧ m.toInt ≤ 9999) → Q (some (nI (n + 1))) (ab_up (ab_up (ab_up μ 78 n k) 79 n m) 65 19 (nI (n + 1)))) (h0 : ¬ (n < 6 ∧ 0 ≤ k.toInt ∧ k.toInt ≤ 3 ∧ 1 ≤ m.toInt ∧ m.toInt ≤ 9999) → Q (some (-1)) μ) : ab_Cl (d + 2) 111 [.ref 65, .int k, .int m] μ Q := by
  refine n111 fun J run => run 60 _ _ _ _ ?_
  simp only [e111_0, e111_1, e111_2, e111_3, e111_6, e111_9, e111_10, e111_11, e111_14, e111_17, e111_20, e111_21, e111_24, e111_26, e111_29, e111_30, e111_31, e111_32, e111_35, e111_36, e111_39, e111_40, e111_41, e111_42, e111_45, e111_46, e111_49, e111_50, e111_51, e111_52i, e111_52r, e111_53, e111_56, e111_57, e111_58, e111_61, e111_62, e111_65, ab_li2, true_or, or_true, true_and, and_true, ab_pus, ab_pun, ab_len0, ab_len1, ab_len2, ab_len3, ab_len4, Nat.zero_add]
  refine C79i ?_
  rw [t_0, t_3]
  by_cases hh : 0 ≤ k.toInt ∧ k.toInt ≤ 3
  · rw [if_pos hh]
    simp only [e111_0, e111_1, e111_2, e111_3, e111_6, e111_9, e111_10, e111_11, e111_14, e111_17, e111_20, e111_21, e111_24, e111_26, e111_29, e111_30, e111_31, e111_32, e111_35, e111_36, e111_39, e111_40, e111_41, e111_42, e111_45, e111_46, e111_49, e111_50, e111_51, e111_52i, e111_52r, e111_53, e111_56, e111_57, e111_58, e111_61, e111_62, e111_65, ab_li2, true_or, or_true, true_and, and_true, ab_pus, ab_pun, ab_len0, ab_len1, ab_len2, ab_len3, ab_len4, Nat.zero_add, z01, false_imp_iff, not_false_eq_true, true_imp_iff]
    refine C79i ?_
    rw [t_1, t_9999]
    by_cases hz : 1 ≤ m.toInt ∧ m.toInt ≤ 9999
    · rw [if_pos hz]
      simp (disch := omega) only [e111_0, e111_1, e111_2, e111_3, e111_6, e111_9, e111_10, e111_11, e111_14, e111_17, e111_20, e111_21, e111_24, e111_26, e111_29, e111_30, e111_31, e111_32, e111_35, e111_36, e111_39, e111_40, e111_41, e111_42, e111_45, e111_46, e111_49, e111_50, e111_51, e111_52i, e111_52r, e111_53, e111_56, e111_57, e111_58, e111_61, e111_62, e111_65, ab_li2, true_or, or_true, true_and, and_true, ab_pus, ab_pun, ab_len0, ab_len1, ab_len2, ab_len3, ab_len4, Nat.zero_add, z01, not_true_eq_false, false_imp_iff, not_false_eq_true, true_imp_iff, hnum, l6, q_eq]
      refine ⟨fun g => ?_, fun g => h0 (by omega)⟩
      simp (disch := omega) only [q_in, q_cl, true_and, ab_ud, hnum, q_p1, ab_up_eq]
      exact h1 (by omega)
    · rw [if_neg hz]
      simp only [e111_0, e111_1, e111_2, e111_3, e111_6, e111_9, e111_10, e111_11, e111_14, e111_17, e111_20, e111_21, e111_24, e111_26, e111_29, e111_30, e111_31, e111_32, e111_35, e111_36, e111_39, e111_40, e111_41, e111_42, e111_45, e111_46, e111_49, e111_50, e111_51, e111_52i, e111_52r, e111_53, e111_56, e111_57, e111_58, e111_61, e111_62, e111_65, ab_li2, true_or, or_true, true_and, and_true, ab_pus, ab_pun, ab_len0, ab_len1, ab_len2, ab_len3, ab_len4, Nat.zero_add, not_true_eq_false, false_imp_iff, not_false_eq_true, true_imp_iff]
      exact h0 (by omega)
  · rw [if_neg hh]
    simp only [e111_0, e111_1, e111_2, e111_3, e111_6, e111_9, e111_10, e111_11, e111_14, e111_17, e111_20, e111_21, e111_24, e111_26, e111_29, e111_30, e111_31, e111_32, e111_35, e111_36, e111_39, e111_40, e111_41, e111_42, e111_45, e111_46, e111_49, e111_50, e111_51, e111_52i, e111_52r, e111_53, e111_56, e111_57, e111_58, e111_61, e111_62, e111_65, ab_li2, true_or, or_true, true_and, and_true, ab_pus, ab_pun, ab_len0, ab_len1, ab_len2, ab_len3, ab_len4, Nat.zero_add, not_true_eq_false, false_imp_iff, not_false_eq_true, true_imp_iff]
    exact h0 (by omega)
theorem C61 (h : Q (some (μ 9 3)) (ab_up μ 9 3 0)) : ab_Cl (d + 2) 61 [.ref 0] μ Q := by
  refine n61 fun J run => run 20 _ _ _ _ ?_
  simp only [e61_0, e61_1, e61_4, e61_7, ab_li1, true_or, or_true, true_and, and_true, ab_pus, ab_pun, ab_len0, ab_len1, ab_len2, ab_len3, ab_len4, Nat.zero_add]
  refine n1 fun J run => run 20 _ _ _ _ ?_
  simp only [e1_0, e1_1, e1_4, e1_5, e1_6, e1_7, e1_10, e1_11, e61_0, e61_1, e61_4, e61_7, ab_li1, true_or, or_true, true_and, and_true, ab_pus, ab_pun, ab_len0, ab_len1, ab_len2, ab_len3, ab_len4, Nat.zero_add]
  exact h
theorem C110 (h : Q (some (μ 65 19)) (ab_up μ 65 19 0)) : ab_Cl (d + 1) 110 [.ref 65] μ Q := by
  refine n110 fun J run => run 20 _ _ _ _ ?_
  simp only [e110_0, e110_1, e110_4, e110_5, e110_6, e110_7, e110_10, e110_11, ab_li2, true_or, or_true, true_and, and_true, ab_pus, ab_pun, ab_len0, ab_len1, ab_len2, ab_len3, ab_len4, Nat.zero_add]
  exact h
theorem C66 {w : Int32} (h : Q (some (if 0 ≤ w.toInt ∧ w.toInt < 4 then μ 16 w.toNatClampNeg else -1)) μ) : ab_Cl (d + 2) 66 [.ref 0, .int w] μ Q := by
  refine n66 fun J run => run 20 _ _ _ _ ?_
  simp only [e66_0, e66_1, e66_4, e66_5, e66_8, ab_li1, true_or, or_true, true_and, and_true, ab_pus, ab_pun, ab_len0, ab_len1, ab_len2, ab_len3, ab_len4, Nat.zero_add]
  refine n35 fun J run => run 20 _ _ _ _ ?_
  simp only [e35_0, e35_1, e35_4, e35_5, e35_6, e35_9, e35_10, e35_13, e35_14, e35_15, e35_18, e35_19, e66_0, e66_1, e66_4, e66_5, e66_8, ab_li1, true_or, or_true, true_and, and_true, ab_pus, ab_pun, ab_len0, ab_len1, ab_len2, ab_len3, ab_len4, Nat.zero_add]
  simp only [z_lt, z_le, t_0, t_4]
  refine ⟨fun g => ?_, fun g => ⟨fun g2 => ?_, fun g2 => ⟨vp_in_iff.mpr ⟨by omega, by omega⟩, ?_⟩⟩⟩
  · rw [if_neg (by omega)] at h; exact h
  · rw [if_neg (by omega)] at h; exact h
  · rw [if_pos (by omega)] at h; exact h
theorem C116 {w : Int32} (h : Q (some (if 0 ≤ w.toInt ∧ w.toInt < 4 then μ 75 w.toNatClampNeg else -1)) μ) : ab_Cl (d + 2) 116 [.ref 65, .int w] μ Q := by
  refine n116 fun J run => run 20 _ _ _ _ ?_
  simp only [e116_0, e116_1, e116_2, e116_3, e116_6, e116_9, e116_10, e116_13, e116_14, e116_15, e116_18, e116_19, ab_li2, true_or, or_true, true_and, and_true, ab_pus, ab_pun, ab_len0, ab_len1, ab_len2, ab_len3, ab_len4, Nat.zero_add]
  refine C79i ?_
  rw [t_0, t_3]
  by_cases hh : 0 ≤ w.toInt ∧ w.toInt ≤ 3
  · rw [if_pos hh]
    have h4 : 0 ≤ w.toInt ∧ w.toInt < 4 := by omega
    rw [if_pos h4] at h
    simp only [e116_0, e116_1, e116_2, e116_3, e116_6, e116_9, e116_10, e116_13, e116_14, e116_15, e116_18, e116_19, ab_li2, true_or, or_true, true_and, and_true, ab_pus, ab_pun, ab_len0, ab_len1, ab_len2, ab_len3, ab_len4, Nat.zero_add, z01, false_imp_iff, not_false_eq_true, true_imp_iff, q_vin h4]
    exact h
  · rw [if_neg hh]
    rw [if_neg (by omega)] at h
    simp only [e116_0, e116_1, e116_2, e116_3, e116_6, e116_9, e116_10, e116_13, e116_14, e116_15, e116_18, e116_19, ab_li2, true_or, or_true, true_and, and_true, ab_pus, ab_pun, ab_len0, ab_len1, ab_len2, ab_len3, ab_len4, Nat.zero_add, not_true_eq_false, false_imp_iff, not_false_eq_true, true_imp_iff]
    exact h
end SIN
