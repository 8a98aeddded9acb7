theorem z_lt {a b : Int32} : (a < b) = (a.toInt < b.toInt) := propext Int32.lt_iff_toInt_lt
theorem z_le {a b : Int32} : (a ≤ b) = (a.toInt ≤ b.toInt) := propext Int32.le_iff_toInt_le
theorem z_eq {a b : Int32} : (a = b) = (a.toInt = b.toInt) := propext Int32.toInt_inj.symm
theorem t_m1 : (-1 : Int32).toInt = -1 := by decide
theorem t_m100 : (-100 : Int32).toInt = -100 := by decide
theorem t_m30 : (-30 : Int32).toInt = -30 := by decide
theorem t_0 : (0 : Int32).toInt = 0 := by decide
theorem t_1 : (1 : Int32).toInt = 1 := by decide
theorem t_2 : (2 : Int32).toInt = 2 := by decide
theorem t_3 : (3 : Int32).toInt = 3 := by decide
theorem t_4 : (4 : Int32).toInt = 4 := by decide
theorem t_6 : (6 : Int32).toInt = 6 := by decide
theorem t_9 : (9 : Int32).toInt = 9 := by decide
theorem t_10 : (10 : Int32).toInt = 10 := by decide
theorem t_11 : (11 : Int32).toInt = 11 := by decide
theorem t_12 : (12 : Int32).toInt = 12 := by decide
theorem t_30 : (30 : Int32).toInt = 30 := by decide
theorem t_200 : (200 : Int32).toInt = 200 := by decide
theorem t_400 : (400 : Int32).toInt = 400 := by decide
theorem t_9999 : (9999 : Int32).toInt = 9999 := by decide
theorem q_vin {x : Int32} {n : Nat} (h : 0 ≤ x.toInt ∧ x.toInt < n) : vp_in x n = True := eq_true (vp_in_iff.mpr h)
theorem z01 : ((1 : Int32) = 0) = False := eq_false (by decide)
section SIM
variable {d : Nat} {μ : ab_M} {Q : ab_Q}
theorem C68i {v : Int32} (h : Q (some (if 0 ≤ v.toInt ∧ v.toInt < 3 then 1 else 0)) μ) : ab_Cl (d + 1) 68 [.int v] μ Q := by
  refine C68 ?_
  simp only [z_lt, z_le, t_0, t_3]
  split
  · rw [if_neg (by omega)] at h; exact h
  · split
    · rw [if_neg (by omega)] at h; exact h
    · rw [if_pos (by omega)] at h; exact h
theorem C69i {v : Int32} (h : Q (some (if 0 ≤ v.toInt ∧ v.toInt < 12 then 1 else 0)) μ) : ab_Cl (d + 1) 69 [.int v] μ Q := by
  refine C69 ?_
  simp only [z_lt, z_le, t_0, t_12]
  split
  · rw [if_neg (by omega)] at h; exact h
  · split
    · rw [if_neg (by omega)] at h; exact h
    · rw [if_pos (by omega)] at h; exact h
theorem C79i {v a b : Int32} (h : Q (some (if a.toInt ≤ v.toInt ∧ v.toInt ≤ b.toInt then 1 else 0)) μ) : ab_Cl (d + 1) 79 [.int v, .int a, .int b] μ Q := by
  refine C79 ?_
  simp only [z_lt]
  split
  · rw [if_neg (by omega)] at h; exact h
  · split
    · rw [if_neg (by omega)] at h; exact h
    · rw [if_pos (by omega)] at h; exact h
theorem C80i {v : Int32} (h : Q (some (if 0 ≤ v.toInt ∧ v.toInt < 12 then 1 else 0)) μ) : ab_Cl (d + 2) 80 [.int v] μ Q := by
  refine C80 ?_
  simp only [z_lt, t_0, t_11]
  split
  · rw [if_neg (by omega)] at h; exact h
  · split
    · rw [if_neg (by omega)] at h; exact h
    · rw [if_pos (by omega)] at h; exact h
theorem C37 {v : Int32} (h : Q (some (if -1 ≤ v.toInt ∧ v.toInt ≤ 200 then 1 else 0)) μ) : ab_Cl (d + 1) 37 [.int v] μ Q := by
  refine n37 fun J run => run 20 _ _ _ _ ?_
  simp only [e37_0, e37_1, e37_2, e37_5, e37_6, e37_9, e37_10, e37_13, e37_16, e37_17, e37_20, e37_21, true_or, or_true, true_and, and_true, ab_pus, ab_pun, ab_len0, ab_len1, ab_len2, ab_len3, ab_len4, Nat.zero_add, z_lt, z_le, z_eq, t_m1, t_0, t_200]
  refine ⟨fun a => ?_, fun a => ⟨fun b => ?_, fun b => ⟨fun c => ?_, fun c => ?_⟩⟩⟩
  · rw [if_pos (by omega)] at h; exact h
  · rw [if_neg (by omega)] at h; exact h
  · rw [if_neg (by omega)] at h; exact h
  · rw [if_pos (by omega)] at h; exact h
theorem C38 {v : Int32} (h : Q (some (if v.toInt = -100 ∨ (-30 ≤ v.toInt ∧ v.toInt ≤ 10) then 1 else 0)) μ) : ab_Cl (d + 1) 38 [.int v] μ Q := by
  refine n38 fun J run => run 20 _ _ _ _ ?_
  simp only [e38_0, e38_1, e38_3, e38_6, e38_7, e38_9, e38_12, e38_13, e38_15, e38_18, e38_19, e38_22, e38_23, true_or, or_true, true_and, and_true, ab_pus, ab_pun, ab_len0, ab_len1, ab_len2, ab_len3, ab_len4, Nat.zero_add, z_lt, z_le, z_eq, t_m100, t_m30, t_10]
  refine ⟨fun a => ?_, fun a => ⟨fun b => ?_, fun b => ⟨fun c => ?_, fun c => ?_⟩⟩⟩
  · rw [if_pos (by omega)] at h; exact h
  · rw [if_neg (by omega)] at h; exact h
  · rw [if_neg (by omega)] at h; exact h
  · rw [if_pos (by omega)] at h; exact h
theorem C39 {v : Int32} (h : Q (some (if 0 ≤ v.toInt ∧ v.toInt ≤ 9 then 1 else 0)) μ) : ab_Cl (d + 1) 39 [.int v] μ Q := by
  refine n39 fun J run => run 20 _ _ _ _ ?_
  simp only [e39_0, e39_1, e39_4, e39_5, e39_7, e39_10, e39_11, e39_14, e39_15, true_or, or_true, true_and, and_true, ab_pus, ab_pun, ab_len0, ab_len1, ab_len2, ab_len3, ab_len4, Nat.zero_add, z_lt, z_le, z_eq, t_0, t_9]
  refine ⟨fun a => ?_, fun a => ⟨fun b => ?_, fun b => ?_⟩⟩
  · rw [if_neg (by omega)] at h; exact h
  · rw [if_neg (by omega)] at h; exact h
  · rw [if_pos (by omega)] at h; exact h
theorem C40 {h v : Int32} (hh : 0 ≤ h.toInt ∧ h.toInt < 3) (hq : Q none (ab_up μ 3 h.toNatClampNeg v)) : ab_Cl (d + 2) 40 [.ref 2, .int h, .int v] μ Q := by
  refine n40 fun J run => run 20 _ _ _ _ ?_
  simp only [e40_0, e40_1, e40_4, e40_7, e40_8, e40_11, e40_12, e40_13, e40_14, ab_li1, true_or, or_true, true_and, and_true, ab_pus, ab_pun, ab_len0, ab_len1, ab_len2, ab_len3, ab_len4, Nat.zero_add]
  refine C68i ?_
  rw [if_pos hh]
  simp only [e40_0, e40_1, e40_4, e40_7, e40_8, e40_11, e40_12, e40_13, e40_14, ab_li1, true_or, or_true, true_and, and_true, ab_pus, ab_pun, ab_len0, ab_len1, ab_len2, ab_len3, ab_len4, Nat.zero_add, z01, false_imp_iff, not_false_eq_true, true_imp_iff, q_vin hh]
  exact hq
theorem C41 {h v : Int32} (hh : 0 ≤ h.toInt ∧ h.toInt < 3) (hq : Q none (ab_up μ 4 h.toNatClampNeg v)) : ab_Cl (d + 2) 41 [.ref 2, .int h, .int v] μ Q := by
  refine n41 fun J run => run 20 _ _ _ _ ?_
  simp only [e41_0, e41_1, e41_4, e41_7, e41_8, e41_11, e41_12, e41_13, e41_14, ab_li1, true_or, or_true, true_and, and_true, ab_pus, ab_pun, ab_len0, ab_len1, ab_len2, ab_len3, ab_len4, Nat.zero_add]
  refine C68i ?_
  rw [if_pos hh]
  simp only [e41_0, e41_1, e41_4, e41_7, e41_8, e41_11, e41_12, e41_13, e41_14, ab_li1, true_or, or_true, true_and, and_true, ab_pus, ab_pun, ab_len0, ab_len1, ab_len2, ab_len3, ab_len4, Nat.zero_add, z01, false_imp_iff, not_false_eq_true, true_imp_iff, q_vin hh]
  exact hq
theorem C42 {a b : Int32} (hq : Q none (ab_up (ab_up μ 2 3 a) 2 4 b)) : ab_Cl (d + 1) 42 [.ref 2, .int a, .int b] μ Q := by
  refine n42 fun J run => run 20 _ _ _ _ ?_
  simp only [e42_0, e42_1, e42_2, e42_5, e42_6, e42_7, e42_10, ab_li1, true_or, or_true, true_and, and_true, ab_pus, ab_pun, ab_len0, ab_len1, ab_len2, ab_len3, ab_len4, Nat.zero_add]
  exact hq
theorem C50 {h v : Int32} {n : Nat} (hn : n ≤ 400) (hnow : μ 0 5 = nI n) (h1 : (n < 400 ∧ 0 ≤ h.toInt ∧ h.toInt < 3 ∧ -1 ≤ v.toInt ∧ v.toInt ≤ 200) → Q (some 1) (ab_up μ 3 h.toNatClampNeg v)) (h0 : ¬ (n < 400 ∧ 0 ≤ h.toInt ∧ h.toInt < 3 ∧ -1 ≤ v.toInt ∧ v.toInt ≤ 200) → Q (some 0) μ) : ab_Cl (d + 3) 50 [.ref 0, .int h, .int v] μ Q := by
  refine n50 fun J run => run 40 _ _ _ _ ?_
  simp (disch := omega) only [e50_0, e50_1, e50_4, e50_7, e50_10, e50_11, e50_14, e50_17, e50_18, e50_21, e50_24, e50_25, e50_26, e50_27, e50_30, e50_31, e50_32, e50_35, e50_36, ab_li1, true_or, or_true, true_and, and_true, ab_pus, ab_pun, ab_len0, ab_len1, ab_len2, ab_len3, ab_len4, Nat.zero_add, hnow, l400, q_le]
  refine ⟨fun a => h0 (by omega), fun a => C68i ?_⟩
  by_cases hh : 0 ≤ h.toInt ∧ h.toInt < 3
  · rw [if_pos hh]
    simp only [e50_0, e50_1, e50_4, e50_7, e50_10, e50_11, e50_14, e50_17, e50_18, e50_21, e50_24, e50_25, e50_26, e50_27, e50_30, e50_31, e50_32, e50_35, e50_36, ab_li1, true_or, or_true, true_and, and_true, ab_pus, ab_pun, ab_len0, ab_len1, ab_len2, ab_len3, ab_len4, Nat.zero_add, z01, false_imp_iff, not_false_eq_true, true_imp_iff]
    refine C37 ?_
    by_cases hv : -1 ≤ v.toInt ∧ v.toInt ≤ 200
    · rw [if_pos hv]
      simp only [e50_0, e50_1, e50_4, e50_7, e50_10, e50_11, e50_14, e50_17, e50_18, e50_21, e50_24, e50_25, e50_26, e50_27, e50_30, e50_31, e50_32, e50_35, e50_36, ab_li1, true_or, or_true, true_and, and_true, ab_pus, ab_pun, ab_len0, ab_len1, ab_len2, ab_len3, ab_len4, Nat.zero_add, z01, not_true_eq_false, false_imp_iff, not_false_eq_true, true_imp_iff]
      refine C40 hh ?_
      simp only [e50_0, e50_1, e50_4, e50_7, e50_10, e50_11, e50_14, e50_17, e50_18, e50_21, e50_24, e50_25, e50_26, e50_27, e50_30, e50_31, e50_32, e50_35, e50_36, ab_li1, true_or, or_true, true_and, and_true, ab_pus, ab_pun, ab_len0, ab_len1, ab_len2, ab_len3, ab_len4, Nat.zero_add]
      exact h1 (by omega)
    · rw [if_neg hv]
      simp only [e50_0, e50_1, e50_4, e50_7, e50_10, e50_11, e50_14, e50_17, e50_18, e50_21, e50_24, e50_25, e50_26, e50_27, e50_30, e50_31, e50_32, e50_35, e50_36, ab_li1, true_or, or_true, true_and, and_true, ab_pus, ab_pun, ab_len0, ab_len1, ab_len2, ab_len3, ab_len4, Nat.zero_add, not_true_eq_false, false_imp_iff, not_false_eq_true, true_imp_iff]
      exact h0 (by omega)
  · rw [if_neg hh]
    simp only [e50_0, e50_1, e50_4, e50_7, e50_10, e50_11, e50_14, e50_17, e50_18, e50_21, e50_24, e50_25, e50_26, e50_27, e50_30, e50_31, e50_32, e50_35, e50_36, ab_li1, true_or, or_true, true_and, and_true, ab_pus, ab_pun, ab_len0, ab_len1, ab_len2, ab_len3, ab_len4, Nat.zero_add, not_true_eq_false, false_imp_iff, not_false_eq_true, true_imp_iff]
    exact h0 (by omega)
theorem C51 {h v : Int32} {n : Nat} (hn : n ≤ 400) (hnow : μ 0 5 = nI n) (h1 : (n < 400 ∧ 0 ≤ h.toInt ∧ h.toInt < 3 ∧ (v.toInt = -100 ∨ (-30 ≤ v.toInt ∧ v.toInt ≤ 10))) → Q (some 1) (ab_up μ 4 h.toNatClampNeg v)) (h0 : ¬ (n < 400 ∧ 0 ≤ h.toInt ∧ h.toInt < 3 ∧ (v.toInt = -100 ∨ (-30 ≤ v.toInt ∧ v.toInt ≤ 10))) → Q (some 0) μ) : ab_Cl (d + 3) 51 [.ref 0, .int h, .int v] μ Q := by
  refine n51 fun J run => run 40 _ _ _ _ ?_
  simp (disch := omega) only [e51_0, e51_1, e51_4, e51_7, e51_10, e51_11, e51_14, e51_17, e51_18, e51_21, e51_24, e51_25, e51_26, e51_27, e51_30, e51_31, e51_32, e51_35, e51_36, ab_li1, true_or, or_true, true_and, and_true, ab_pus, ab_pun, ab_len0, ab_len1, ab_len2, ab_len3, ab_len4, Nat.zero_add, hnow, l400, q_le]
  refine ⟨fun a => h0 (by omega), fun a => C68i ?_⟩
  by_cases hh : 0 ≤ h.toInt ∧ h.toInt < 3
  · rw [if_pos hh]
    simp only [e51_0, e51_1, e51_4, e51_7, e51_10, e51_11, e51_14, e51_17, e51_18, e51_21, e51_24, e51_25, e51_26, e51_27, e51_30, e51_31, e51_32, e51_35, e51_36, ab_li1, true_or, or_true, true_and, and_true, ab_pus, ab_pun, ab_len0, ab_len1, ab_len2, ab_len3, ab_len4, Nat.zero_add, z01, false_imp_iff, not_false_eq_true, true_imp_iff]
    refine C38 ?_
    by_cases hv : v.toInt = -100 ∨ (-30 ≤ v.toInt ∧ v.toInt ≤ 10)
    · rw [if_pos hv]
      simp only [e51_0, e51_1, e51_4, e51_7, e51_10, e51_11, e51_14, e51_17, e51_18, e51_21, e51_24, e51_25, e51_26, e51_27, e51_30, e51_31, e51_32, e51_35, e51_36, ab_li1, true_or, or_true, true_and, and_true, ab_pus, ab_pun, ab_len0, ab_len1, ab_len2, ab_len3, ab_len4, Nat.zero_add, z01, not_true_eq_false, false_imp_iff, not_false_eq_true, true_imp_iff]
      refine C41 hh ?_
      simp only [e51_0, e51_1, e51_4, e51_7, e51_10, e51_11, e51_14, e51_17, e51_18, e51_21, e51_24, e51_25, e51_26, e51_27, e51_30, e51_31, e51_32, e51_35, e51_36, ab_li1, true_or, or_true, true_and, and_true, ab_pus, ab_pun, ab_len0, ab_len1, ab_len2, ab_len3, ab_len4, Nat.zero_add]
      exact h1 (by omega)
    · rw [if_neg hv]
      simp only [e51_0, e51_1, e51_4, e51_7, e51_10, e51_11, e51_14, e51_17, e51_18, e51_21, e51_24, e51_25, e51_26, e51_27, e51_30, e51_31, e51_32, e51_35, e51_36, ab_li1, true_or, or_true, true_and, and_true, ab_pus, ab_pun, ab_len0, ab_len1, ab_len2, ab_len3, ab_len4, Nat.zero_add, not_true_eq_false, false_imp_iff, not_false_eq_true, true_imp_iff]
      exact h0 (by omega)
  · rw [if_neg hh]
    simp only [e51_0, e51_1, e51_4, e51_7, e51_10, e51_11, e51_14, e51_17, e51_18, e51_21, e51_24, e51_25, e51_26, e51_27, e51_30, e51_31, e51_32, e51_35, e51_36, ab_li1, true_or, or_true, true_and, and_true, ab_pus, ab_pun, ab_len0, ab_len1, ab_len2, ab_len3, ab_len4, Nat.zero_add, not_true_eq_false, false_imp_iff, not_false_eq_true, true_imp_iff]
    exact h0 (by omega)
theorem C52 {a b : Int32} {n : Nat} (hn : n ≤ 400) (hnow : μ 0 5 = nI n) (h1 : (n < 400 ∧ 0 ≤ a.toInt ∧ a.toInt < 4 ∧ 0 ≤ b.toInt ∧ b.toInt ≤ 9) → Q (some 1) (ab_up (ab_up μ 2 3 a) 2 4 b)) (h0 : ¬ (n < 400 ∧ 0 ≤ a.toInt ∧ a.toInt < 4 ∧ 0 ≤ b.toInt ∧ b.toInt ≤ 9) → Q (some 0) μ) : ab_Cl (d + 2) 52 [.ref 0, .int a, .int b] μ Q := by
  refine n52 fun J run => run 40 _ _ _ _ ?_
  simp (disch := omega) only [e52_0, e52_1, e52_4, e52_7, e52_10, e52_11, e52_14, e52_15, e52_16, e52_19, e52_20, e52_23, e52_26, e52_27, e52_28, e52_29, e52_32, e52_33, e52_34, e52_37, e52_38, ab_li1, true_or, or_true, true_and, and_true, ab_pus, ab_pun, ab_len0, ab_len1, ab_len2, ab_len3, ab_len4, Nat.zero_add, hnow, l400, q_le]
  simp only [z_lt, z_le, t_0, t_4]
  refine ⟨fun g => h0 (by omega), fun g => ⟨fun g2 => h0 (by omega), fun g2 => ⟨fun g3 => h0 (by omega), fun g3 => C39 ?_⟩⟩⟩
  by_cases hv : 0 ≤ b.toInt ∧ b.toInt ≤ 9
  · rw [if_pos hv]
    simp only [e52_0, e52_1, e52_4, e52_7, e52_10, e52_11, e52_14, e52_15, e52_16, e52_19, e52_20, e52_23, e52_26, e52_27, e52_28, e52_29, e52_32, e52_33, e52_34, e52_37, e52_38, ab_li1, true_or, or_true, true_and, and_true, ab_pus, ab_pun, ab_len0, ab_len1, ab_len2, ab_len3, ab_len4, Nat.zero_add, z01, not_true_eq_false, false_imp_iff, not_false_eq_true, true_imp_iff]
    refine C42 ?_
    simp only [e52_0, e52_1, e52_4, e52_7, e52_10, e52_11, e52_14, e52_15, e52_16, e52_19, e52_20, e52_23, e52_26, e52_27, e52_28, e52_29, e52_32, e52_33, e52_34, e52_37, e52_38, ab_li1, true_or, or_true, true_and, and_true, ab_pus, ab_pun, ab_len0, ab_len1, ab_len2, ab_len3, ab_len4, Nat.zero_add]
    exact h1 (by omega)
  · rw [if_neg hv]
    simp only [e52_0, e52_1, e52_4, e52_7, e52_10, e52_11, e52_14, e52_15, e52_16, e52_19, e52_20, e52_23, e52_26, e52_27, e52_28, e52_29, e52_32, e52_33, e52_34, e52_37, e52_38, ab_li1, true_or, or_true, true_and, and_true, ab_pus, ab_pun, ab_len0, ab_len1, ab_len2, ab_len3, ab_len4, Nat.zero_add, not_true_eq_false, false_imp_iff, not_false_eq_true, true_imp_iff]
    exact h0 (by omega)
theorem C81 {h v : Int32} {n : Nat} (hn : n ≤ 400) (hnow : μ 65 0 = nI n) (h1 : (n < 400 ∧ 0 ≤ h.toInt ∧ h.toInt < 3 ∧ -1 ≤ v.toInt ∧ v.toInt ≤ 200) → Q (some 1) (ab_up μ 70 h.toNatClampNeg v)) (h0 : ¬ (n < 400 ∧ 0 ≤ h.toInt ∧ h.toInt < 3 ∧ -1 ≤ v.toInt ∧ v.toInt ≤ 200) → Q (some 0) μ) : ab_Cl (d + 2) 81 [.ref 65, .int h, .int v] μ Q := by
  refine n81 fun J run => run 40 _ _ _ _ ?_
  simp only [e81_0, e81_1, e81_2, e81_3, e81_6, e81_9, e81_10, e81_11, e81_14, e81_17, e81_20, e81_21, e81_24, e81_27, e81_30, e81_31, e81_32, e81_33, e81_36, e81_37, e81_38, e81_39, e81_40, ab_li2, true_or, or_true, true_and, and_true, ab_pus, ab_pun, ab_len0, ab_len1, ab_len2, ab_len3, ab_len4, Nat.zero_add]
  refine C79i ?_
  rw [t_0, t_2]
  by_cases hh : 0 ≤ h.toInt ∧ h.toInt ≤ 2
  · rw [if_pos hh]
    have hh3 : 0 ≤ h.toInt ∧ h.toInt < 3 := by omega
    simp only [e81_0, e81_1, e81_2, e81_3, e81_6, e81_9, e81_10, e81_11, e81_14, e81_17, e81_20, e81_21, e81_24, e81_27, e81_30, e81_31, e81_32, e81_33, e81_36, e81_37, e81_38, e81_39, e81_40, ab_li2, true_or, or_true, true_and, and_true, ab_pus, ab_pun, ab_len0, ab_len1, ab_len2, ab_len3, ab_len4, Nat.zero_add, z01, false_imp_iff, not_false_eq_true, true_imp_iff]
    refine C79i ?_
    rw [t_m1, t_200]
    by_cases hv : -1 ≤ v.toInt ∧ v.toInt ≤ 200
    · rw [if_pos hv]
      simp (disch := omega) only [e81_0, e81_1, e81_2, e81_3, e81_6, e81_9, e81_10, e81_11, e81_14, e81_17, e81_20, e81_21, e81_24, e81_27, e81_30, e81_31, e81_32, e81_33, e81_36, e81_37, e81_38, e81_39, e81_40, ab_li2, true_or, or_true, true_and, and_true, ab_pus, ab_pun, ab_len0, ab_len1, ab_len2, ab_len3, ab_len4, Nat.zero_add, z01, not_true_eq_false, false_imp_iff, not_false_eq_true, true_imp_iff, hnow, l400, q_eq, q_vin hh3]
      exact ⟨fun g => h1 (by omega), fun g => h0 (by omega)⟩
    · rw [if_neg hv]
      simp only [e81_0, e81_1, e81_2, e81_3, e81_6, e81_9, e81_10, e81_11, e81_14, e81_17, e81_20, e81_21, e81_24, e81_27, e81_30, e81_31, e81_32, e81_33, e81_36, e81_37, e81_38, e81_39, e81_40, ab_li2, true_or, or_true, true_and, and_true, ab_pus, ab_pun, ab_len0, ab_len1, ab_len2, ab_len3, ab_len4, Nat.zero_add, not_true_eq_false, false_imp_iff, not_false_eq_true, true_imp_iff]
      exact h0 (by omega)
  · rw [if_neg hh]
    simp only [e81_0, e81_1, e81_2, e81_3, e81_6, e81_9, e81_10, e81_11, e81_14, e81_17, e81_20, e81_21, e81_24, e81_27, e81_30, e81_31, e81_32, e81_33, e81_36, e81_37, e81_38, e81_39, e81_40, ab_li2, true_or, or_true, true_and, and_true, ab_pus, ab_pun, ab_len0, ab_len1, ab_len2, ab_len3, ab_len4, Nat.zero_add, not_true_eq_false, false_imp_iff, not_false_eq_true, true_imp_iff]
    exact h0 (by omega)
theorem C82 {h v : Int32} {n : Nat} (hn : n ≤ 400) (hnow : μ 65 0 = nI n) (h1 : (n < 400 ∧ 0 ≤ h.toInt ∧ h.toInt < 3 ∧ (v.toInt = -100 ∨ (-30 ≤ v.toInt ∧ v.toInt ≤ 10))) → Q (some 1) (ab_up μ 71 h.toNatClampNeg v)) (h0 : ¬ (n < 400 ∧ 0 ≤ h.toInt ∧ h.toInt < 3 ∧ (v.toInt = -100 ∨ (-30 ≤ v.toInt ∧ v.toInt ≤ 10))) → Q (some 0) μ) : ab_Cl (d + 2) 82 [.ref 65, .int h, .int v] μ Q := by
  refine n82 fun J run => run 40 _ _ _ _ ?_
  simp only [e82_0, e82_1, e82_2, e82_3, e82_6, e82_9, e82_10, e82_12, e82_15, e82_16, e82_18, e82_20, e82_23, e82_26, e82_27, e82_30, e82_33, e82_36, e82_37, e82_38, e82_39, e82_42, e82_43, e82_44, e82_45, e82_46, ab_li2, true_or, or_true, true_and, and_true, ab_pus, ab_pun, ab_len0, ab_len1, ab_len2, ab_len3, ab_len4, Nat.zero_add]
  refine C79i ?_
  rw [t_0, t_2]
  by_cases hh : 0 ≤ h.toInt ∧ h.toInt ≤ 2
  · rw [if_pos hh]
    have hh3 : 0 ≤ h.toInt ∧ h.toInt < 3 := by omega
    have hz : (v = -100) = (v.toInt = -100) := by rw [z_eq, t_m100]
    simp (disch := omega) only [e82_0, e82_1, e82_2, e82_3, e82_6, e82_9, e82_10, e82_12, e82_15, e82_16, e82_18, e82_20, e82_23, e82_26, e82_27, e82_30, e82_33, e82_36, e82_37, e82_38, e82_39, e82_42, e82_43, e82_44, e82_45, e82_46, ab_li2, true_or, or_true, true_and, and_true, ab_pus, ab_pun, ab_len0, ab_len1, ab_len2, ab_len3, ab_len4, Nat.zero_add, z01, false_imp_iff, not_false_eq_true, true_imp_iff, hnow, l400, q_eq, q_vin hh3, hz]
    refine ⟨fun g => ⟨fun g2 => h1 (by omega), fun g2 => h0 (by omega)⟩, fun g => C79i ?_⟩
    rw [t_m30, t_10]
    by_cases hv : -30 ≤ v.toInt ∧ v.toInt ≤ 10
    · rw [if_pos hv]
      simp (disch := omega) only [e82_0, e82_1, e82_2, e82_3, e82_6, e82_9, e82_10, e82_12, e82_15, e82_16, e82_18, e82_20, e82_23, e82_26, e82_27, e82_30, e82_33, e82_36, e82_37, e82_38, e82_39, e82_42, e82_43, e82_44, e82_45, e82_46, ab_li2, true_or, or_true, true_and, and_true, ab_pus, ab_pun, ab_len0, ab_len1, ab_len2, ab_len3, ab_len4, Nat.zero_add, z01, not_true_eq_false, false_imp_iff, not_false_eq_true, true_imp_iff, hnow, l400, q_eq, q_vin hh3]
      exact ⟨fun g => h1 (by omega), fun g => h0 (by omega)⟩
    · rw [if_neg hv]
      simp only [e82_0, e82_1, e82_2, e82_3, e82_6, e82_9, e82_10, e82_12, e82_15, e82_16, e82_18, e82_20, e82_23, e82_26, e82_27, e82_30, e82_33, e82_36, e82_37, e82_38, e82_39, e82_42, e82_43, e82_44, e82_45, e82_46, ab_li2, true_or, or_true, true_and, and_true, ab_pus, ab_pun, ab_len0, ab_len1, ab_len2, ab_len3, ab_len4, Nat.zero_add, not_true_eq_false, false_imp_iff, not_false_eq_true, true_imp_iff]
      exact h0 (by omega)
  · rw [if_neg hh]
    simp only [e82_0, e82_1, e82_2, e82_3, e82_6, e82_9, e82_10, e82_12, e82_15, e82_16, e82_18, e82_20, e82_23, e82_26, e82_27, e82_30, e82_33, e82_36, e82_37, e82_38, e82_39, e82_42, e82_43, e82_44, e82_45, e82_46, ab_li2, true_or, or_true, true_and, and_true, ab_pus, ab_pun, ab_len0, ab_len1, ab_len2, ab_len3, ab_len4, Nat.zero_add, not_true_eq_false, false_imp_iff, not_false_eq_true, true_imp_iff]
    exact h0 (by omega)
theorem C83 {a b : Int32} {n : Nat} (hn : n ≤ 400) (hnow : μ 65 0 = nI n) (h1 : (n < 400 ∧ 0 ≤ a.toInt ∧ a.toInt < 4 ∧ 0 ≤ b.toInt ∧ b.toInt ≤ 9) → Q (some 1) (ab_up (ab_up μ 65 8 a) 65 9 b)) (h0 : ¬ (n < 400 ∧ 0 ≤ a.toInt ∧ a.toInt < 4 ∧ 0 ≤ b.toInt ∧ b.toInt ≤ 9) → Q (some 0) μ) : ab_Cl (d + 2) 83 [.ref 65, .int a, .int b] μ Q := by
  refine n83 fun J run => run 40 _ _ _ _ ?_
  simp only [e83_0, e83_1, e83_2, e83_3, e83_6, e83_9, e83_10, e83_11, e83_13, e83_16, e83_19, e83_20, e83_23, e83_26, e83_29, e83_30, e83_31, e83_32, e83_33, e83_36, e83_37, e83_38, e83_41, e83_42, ab_li2, true_or, or_true, true_and, and_true, ab_pus, ab_pun, ab_len0, ab_len1, ab_len2, ab_len3, ab_len4, Nat.zero_add]
  refine C79i ?_
  rw [t_0, t_3]
  by_cases hh : 0 ≤ a.toInt ∧ a.toInt ≤ 3
  · rw [if_pos hh]
    simp only [e83_0, e83_1, e83_2, e83_3, e83_6, e83_9, e83_10, e83_11, e83_13, e83_16, e83_19, e83_20, e83_23, e83_26, e83_29, e83_30, e83_31, e83_32, e83_33, e83_36, e83_37, e83_38, e83_41, e83_42, ab_li2, true_or, or_true, true_and, and_true, ab_pus, ab_pun, ab_len0, ab_len1, ab_len2, ab_len3, ab_len4, Nat.zero_add, z01, false_imp_iff, not_false_eq_true, true_imp_iff]
    refine C79i ?_
    rw [t_0, t_9]
    by_cases hv : 0 ≤ b.toInt ∧ b.toInt ≤ 9
    · rw [if_pos hv]
      simp (disch := omega) only [e83_0, e83_1, e83_2, e83_3, e83_6, e83_9, e83_10, e83_11, e83_13, e83_16, e83_19, e83_20, e83_23, e83_26, e83_29, e83_30, e83_31, e83_32, e83_33, e83_36, e83_37, e83_38, e83_41, e83_42, ab_li2, true_or, or_true, true_and, and_true, ab_pus, ab_pun, ab_len0, ab_len1, ab_len2, ab_len3, ab_len4, Nat.zero_add, z01, not_true_eq_false, false_imp_iff, not_false_eq_true, true_imp_iff, hnow, l400, q_eq]
      exact ⟨fun g => h1 (by omega), fun g => h0 (by omega)⟩
    · rw [if_neg hv]
      simp only [e83_0, e83_1, e83_2, e83_3, e83_6, e83_9, e83_10, e83_11, e83_13, e83_16, e83_19, e83_20, e83_23, e83_26, e83_29, e83_30, e83_31, e83_32, e83_33, e83_36, e83_37, e83_38, e83_41, e83_42, ab_li2, true_or, or_true, true_and, and_true, ab_pus, ab_pun, ab_len0, ab_len1, ab_len2, ab_len3, ab_len4, Nat.zero_add, not_true_eq_false, false_imp_iff, not_false_eq_true, true_imp_iff]
      exact h0 (by omega)
  · rw [if_neg hh]
    simp only [e83_0, e83_1, e83_2, e83_3, e83_6, e83_9, e83_10, e83_11, e83_13, e83_16, e83_19, e83_20, e83_23, e83_26, e83_29, e83_30, e83_31, e83_32, e83_33, e83_36, e83_37, e83_38, e83_41, e83_42, ab_li2, true_or, or_true, true_and, and_true, ab_pus, ab_pun, ab_len0, ab_len1, ab_len2, ab_len3, ab_len4, Nat.zero_add, not_true_eq_false, false_imp_iff, not_false_eq_true, true_imp_iff]
    exact h0 (by omega)
end SIM
