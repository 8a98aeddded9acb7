theorem lk_le (T : List ly) : lk T ≤ 3 := by
  unfold lk lkl
  split
  · omega
  · split <;> (try split) <;> (try split) <;> omega
theorem sz_le (T : List ly) : sz T ≤ 2 := by
  unfold sz szl
  split
  · omega
  · split <;> (try split) <;> omega
section SLC
variable {d c : Nat} {μ : ab_M} {Q : ab_Q} {L : List ly}
theorem C11m (hc : c < 12) (hL : rC μ c L) (h : Q (some 0) μ) : ab_Cl (d + 1) 11 [.ref (17 + 4 * c), .int (-1)] μ Q := by
  refine C11 hc hL ?_
  rw [if_pos (by decide)]
  exact h
theorem C18 (hc : c < 12) (hL : rC μ c L) (ho : okL L) {e : Nat} (he : e ≤ L.length) (h : Q (some (nI (lk (L.take e)))) μ) : ab_Cl (d + 3) 18 [.ref (17 + 4 * c), .int (nI e)] μ Q := by
  have hn := hL.2.1
  refine n18 fun J run => run 60 _ _ _ _ ?_
  simp only [e18_0, e18_1, e18_2, e18_5, e18_6, e18_7, e18_8, e18_11, e18_14, e18_15, e18_16, e18_17, e18_20, e18_21, e18_22, e18_23, e18_26, e18_27, e18_28, e18_31, e18_32, e18_33, e18_34, e18_37, e18_40, e18_41, e18_42, e18_44, e18_47, e18_48, e18_49, e18_50, e18_53, e18_56, e18_57, e18_58, e18_59, e18_62, e18_65, e18_66, e18_69, e18_70, ab_sl hc, true_or, or_true, true_and, and_true, ab_pus, ab_pun, ab_len0, ab_len1, ab_len2, ab_len3, ab_len4, Nat.zero_add]
  refine C17 hc hL ho he ?_
  simp only [e18_0, e18_1, e18_2, e18_5, e18_6, e18_7, e18_8, e18_11, e18_14, e18_15, e18_16, e18_17, e18_20, e18_21, e18_22, e18_23, e18_26, e18_27, e18_28, e18_31, e18_32, e18_33, e18_34, e18_37, e18_40, e18_41, e18_42, e18_44, e18_47, e18_48, e18_49, e18_50, e18_53, e18_56, e18_57, e18_58, e18_59, e18_62, e18_65, e18_66, e18_69, e18_70, ab_sl hc, true_or, or_true, true_and, and_true, ab_pus, ab_pun, ab_len0, ab_len1, ab_len2, ab_len3, ab_len4, Nat.zero_add]
  unfold lk at h
  cases hw : whyL (L.take e) with
  | none =>
    rw [hw] at h
    refine C11m hc hL ?_
    simp only [e18_0, e18_1, e18_2, e18_5, e18_6, e18_7, e18_8, e18_11, e18_14, e18_15, e18_16, e18_17, e18_20, e18_21, e18_22, e18_23, e18_26, e18_27, e18_28, e18_31, e18_32, e18_33, e18_34, e18_37, e18_40, e18_41, e18_42, e18_44, e18_47, e18_48, e18_49, e18_50, e18_53, e18_56, e18_57, e18_58, e18_59, e18_62, e18_65, e18_66, e18_69, e18_70, ab_sl hc, true_or, or_true, true_and, and_true, ab_pus, ab_pun, ab_len0, ab_len1, ab_len2, ab_len3, ab_len4, Nat.zero_add, not_true_eq_false, false_imp_iff, not_false_eq_true, true_imp_iff]
    exact h
  | some q =>
    rw [hw] at h
    obtain ⟨h1, h2⟩ := whyL_at _ q hw
    have h1 : q.1 < e := by rw [List.length_take] at h1; omega
    rw [kd_take h1, ag_take h1] at h2
    obtain ⟨o1, o2, o3⟩ := ho.1 q.1 (by omega)
    have hv := (ixo_some h2).1
    have hwi : wI (some q) 0 = nI q.1 := by simp [wI]
    rw [hwi]
    refine C11n hc hL (by omega) ?_
    have h10 : ¬ (1 : Int32) = 0 := by decide
    simp (disch := omega) only [e18_0, e18_1, e18_2, e18_5, e18_6, e18_7, e18_8, e18_11, e18_14, e18_15, e18_16, e18_17, e18_20, e18_21, e18_22, e18_23, e18_26, e18_27, e18_28, e18_31, e18_32, e18_33, e18_34, e18_37, e18_40, e18_41, e18_42, e18_44, e18_47, e18_48, e18_49, e18_50, e18_53, e18_56, e18_57, e18_58, e18_59, e18_62, e18_65, e18_66, e18_69, e18_70, ab_sl hc, true_or, or_true, true_and, and_true, ab_pus, ab_pun, ab_len0, ab_len1, ab_len2, ab_len3, ab_len4, Nat.zero_add, h10, not_true_eq_false, false_imp_iff, not_false_eq_true, true_imp_iff, q_in, q_cl, hL.2.2.1 q.1 (by omega), hL.2.2.2.2 q.1 (by omega)]
    refine C31 o1 ?_
    simp only [e18_0, e18_1, e18_2, e18_5, e18_6, e18_7, e18_8, e18_11, e18_14, e18_15, e18_16, e18_17, e18_20, e18_21, e18_22, e18_23, e18_26, e18_27, e18_28, e18_31, e18_32, e18_33, e18_34, e18_37, e18_40, e18_41, e18_42, e18_44, e18_47, e18_48, e18_49, e18_50, e18_53, e18_56, e18_57, e18_58, e18_59, e18_62, e18_65, e18_66, e18_69, e18_70, ab_sl hc, true_or, or_true, true_and, and_true, ab_pus, ab_pun, ab_len0, ab_len1, ab_len2, ab_len3, ab_len4, Nat.zero_add]
    refine C29 (j := q.1 + 1) hc hL (by rw [q_p1, q_mx (by omega)]) (by omega) he ?_
    simp only [e18_0, e18_1, e18_2, e18_5, e18_6, e18_7, e18_8, e18_11, e18_14, e18_15, e18_16, e18_17, e18_20, e18_21, e18_22, e18_23, e18_26, e18_27, e18_28, e18_31, e18_32, e18_33, e18_34, e18_37, e18_40, e18_41, e18_42, e18_44, e18_47, e18_48, e18_49, e18_50, e18_53, e18_56, e18_57, e18_58, e18_59, e18_62, e18_65, e18_66, e18_69, e18_70, ab_sl hc, true_or, or_true, true_and, and_true, ab_pus, ab_pun, ab_len0, ab_len1, ab_len2, ab_len3, ab_len4, Nat.zero_add]
    have hs : sm ((L.take e).drop (q.1 + 1)) ≤ 9600000 := Nat.le_trans (sm_drop_le _ _) (Nat.le_trans (sm_take_le _ _) ho.2)
    refine C30 (Nat.le_trans (brg_le o3) (by decide)) (by omega) ?_
    rw [h2]
    simp (disch := omega) only [e18_0, e18_1, e18_2, e18_5, e18_6, e18_7, e18_8, e18_11, e18_14, e18_15, e18_16, e18_17, e18_20, e18_21, e18_22, e18_23, e18_26, e18_27, e18_28, e18_31, e18_32, e18_33, e18_34, e18_37, e18_40, e18_41, e18_42, e18_44, e18_47, e18_48, e18_49, e18_50, e18_53, e18_56, e18_57, e18_58, e18_59, e18_62, e18_65, e18_66, e18_69, e18_70, ab_sl hc, true_or, or_true, true_and, and_true, ab_pus, ab_pun, ab_len0, ab_len1, ab_len2, ab_len3, ab_len4, Nat.zero_add, oi, l100, l150, l300, q_le]
    simp only [lkl] at h
    refine ⟨fun g1 => ⟨fun g2 => ⟨fun g3 => ?_, fun g3 => ?_⟩, fun g2 => ?_⟩, fun g1 => ?_⟩
    · rw [if_neg (by omega), if_neg (by omega), if_neg (by omega)] at h; exact h
    · rw [if_neg (by omega), if_neg (by omega), if_pos (by omega)] at h; exact h
    · rw [if_neg (by omega), if_pos (by omega)] at h; exact h
    · rw [if_pos (by omega)] at h; exact h
theorem C19 (hc : c < 12) (hL : rC μ c L) (ho : okL L) {e : Nat} (he : e ≤ L.length) (h : Q (some (nI (sz (L.take e)))) μ) : ab_Cl (d + 3) 19 [.ref (17 + 4 * c), .int (nI e)] μ Q := by
  have hn := hL.2.1
  refine n19 fun J run => run 60 _ _ _ _ ?_
  simp only [e19_0, e19_1, e19_2, e19_5, e19_6, e19_7, e19_8, e19_11, e19_12, e19_15, e19_16, e19_17, e19_18, e19_21, e19_22, e19_23, e19_26, e19_29, e19_30, e19_31, e19_32, e19_35, e19_38, e19_39, e19_42, e19_43, ab_sl hc, true_or, or_true, true_and, and_true, ab_pus, ab_pun, ab_len0, ab_len1, ab_len2, ab_len3, ab_len4, Nat.zero_add]
  refine C17 hc hL ho he ?_
  simp only [e19_0, e19_1, e19_2, e19_5, e19_6, e19_7, e19_8, e19_11, e19_12, e19_15, e19_16, e19_17, e19_18, e19_21, e19_22, e19_23, e19_26, e19_29, e19_30, e19_31, e19_32, e19_35, e19_38, e19_39, e19_42, e19_43, ab_sl hc, true_or, or_true, true_and, and_true, ab_pus, ab_pun, ab_len0, ab_len1, ab_len2, ab_len3, ab_len4, Nat.zero_add]
  unfold sz at h
  cases hw : whyL (L.take e) with
  | none =>
    rw [hw] at h
    have g1 : ¬ (500 : Int32) ≤ 0 := by decide
    have g2 : (0 : Int32) < 500 := by decide
    have g3 : (0 : Int32) < 200 := by decide
    simp only [wI, not_true_eq_false, false_imp_iff, not_false_eq_true, true_imp_iff, true_and, and_true, g1, g2, g3]
    exact h
  | some q =>
    rw [hw] at h
    obtain ⟨h1, h2⟩ := whyL_at _ q hw
    have h1 : q.1 < e := by rw [List.length_take] at h1; omega
    have hwi : wI (some q) 0 = nI q.1 := by simp [wI]
    rw [hwi]
    simp (disch := omega) only [q_nm, not_false_eq_true, true_imp_iff, not_true_eq_false, false_imp_iff, and_true]
    refine C29 (j := q.1 + 1) hc hL (by rw [q_p1, q_mx (by omega)]) (by omega) he ?_
    have hs : sm ((L.take e).drop (q.1 + 1)) ≤ 9600000 := Nat.le_trans (sm_drop_le _ _) (Nat.le_trans (sm_take_le _ _) ho.2)
    simp only [szl] at h
    generalize sm ((L.take e).drop (q.1 + 1)) = s at *
    simp (disch := omega) only [e19_0, e19_1, e19_2, e19_5, e19_6, e19_7, e19_8, e19_11, e19_12, e19_15, e19_16, e19_17, e19_18, e19_21, e19_22, e19_23, e19_26, e19_29, e19_30, e19_31, e19_32, e19_35, e19_38, e19_39, e19_42, e19_43, ab_sl hc, true_or, or_true, true_and, and_true, ab_pus, ab_pun, ab_len0, ab_len1, ab_len2, ab_len3, ab_len4, Nat.zero_add, l500, l200, q_lt]
    refine ⟨fun g1 => ⟨fun g2 => ?_, fun g2 => ?_⟩, fun g1 => ?_⟩
    · rw [if_neg (by omega), if_neg (by omega)] at h; exact h
    · rw [if_neg (by omega), if_pos (by omega)] at h; exact h
    · rw [if_pos (by omega)] at h; exact h
theorem C20 (hc : c < 12) (hL : rC μ c L) (ho : okL L) {e n : Nat} (he : e ≤ L.length) (hn3 : n ≤ 3) (h : Q (some (if 2 ≤ lk (L.take e) ∧ n ≤ sz (L.take e) then 1 else 0)) μ) : ab_Cl (d + 4) 20 [.ref (17 + 4 * c), .int (nI n), .int (nI e)] μ Q := by
  have h1 := lk_le (L.take e)
  have h2 := sz_le (L.take e)
  refine n20 fun J run => run 60 _ _ _ _ ?_
  simp only [e20_0, e20_1, e20_2, e20_5, e20_6, e20_9, e20_10, e20_11, e20_14, e20_15, e20_18, e20_19, e20_22, e20_23, ab_sl hc, true_or, or_true, true_and, and_true, ab_pus, ab_pun, ab_len0, ab_len1, ab_len2, ab_len3, ab_len4, Nat.zero_add]
  refine C18 hc hL ho he ?_
  simp (disch := omega) only [e20_0, e20_1, e20_2, e20_5, e20_6, e20_9, e20_10, e20_11, e20_14, e20_15, e20_18, e20_19, e20_22, e20_23, ab_sl hc, true_or, or_true, true_and, and_true, ab_pus, ab_pun, ab_len0, ab_len1, ab_len2, ab_len3, ab_len4, Nat.zero_add, l2, q_lt]
  refine ⟨fun g => ?_, fun g => ?_⟩
  · rw [if_neg (by omega)] at h
    exact h
  · refine C19 hc hL ho he ?_
    simp (disch := omega) only [e20_0, e20_1, e20_2, e20_5, e20_6, e20_9, e20_10, e20_11, e20_14, e20_15, e20_18, e20_19, e20_22, e20_23, ab_sl hc, true_or, or_true, true_and, and_true, ab_pus, ab_pun, ab_len0, ab_len1, ab_len2, ab_len3, ab_len4, Nat.zero_add, q_lt]
    refine ⟨fun g => ?_, fun g => ?_⟩
    · rw [if_neg (by omega)] at h
      exact h
    · rw [if_pos (by omega)] at h
      exact h
end SLC
