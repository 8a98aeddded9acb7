/-- is the top layer new? -/
def topN (L : List ly) : Bool := decide (0 < L.length) && decide (kd L (L.length - 1) = 0)
theorem topN_t {L : List ly} (h : topN L = true) : 0 < L.length ∧ kd L (L.length - 1) = 0 := by simpa [topN] using h
theorem topN_f {L : List ly} (h : ¬ topN L = true) (h0 : 0 < L.length) : ¬ kd L (L.length - 1) = 0 := fun e => h (by simp [topN, h0, e])
/-- another mass for the top layer -/
def setT (L : List ly) (m : Nat) : List ly := L.set (L.length - 1) (kd L (L.length - 1), m, ag L (L.length - 1))
theorem kd_set {L : List ly} {i j : Nat} {x : ly} (h : i < L.length) : kd (L.set i x) j = if j = i then x.1 else kd L j := by
  simp only [kd, List.getD_eq_getElem?_getD, List.getElem?_set]
  by_cases e : i = j
  · subst e; simp [h]
  · simp [e, Ne.symm e]
theorem ms_set {L : List ly} {i j : Nat} {x : ly} (h : i < L.length) : ms (L.set i x) j = if j = i then x.2.1 else ms L j := by
  simp only [ms, List.getD_eq_getElem?_getD, List.getElem?_set]
  by_cases e : i = j
  · subst e; simp [h]
  · simp [e, Ne.symm e]
theorem ag_set {L : List ly} {i j : Nat} {x : ly} (h : i < L.length) : ag (L.set i x) j = if j = i then x.2.2 else ag L j := by
  simp only [ag, List.getD_eq_getElem?_getD, List.getElem?_set]
  by_cases e : i = j
  · subst e; simp [h]
  · simp [e, Ne.symm e]
theorem setT_len (L : List ly) (m : Nat) : (setT L m).length = L.length := by simp [setT]
theorem setT_kd {L : List ly} {m i : Nat} (h : 0 < L.length) : kd (setT L m) i = kd L i := by
  rw [setT, kd_set (by omega)]
  split
  · next e => rw [e]
  · rfl
theorem setT_ag {L : List ly} {m i : Nat} (h : 0 < L.length) : ag (setT L m) i = ag L i := by
  rw [setT, ag_set (by omega)]
  split
  · next e => rw [e]
  · rfl
theorem setT_ms {L : List ly} {m i : Nat} (h : 0 < L.length) : ms (setT L m) i = if i = L.length - 1 then m else ms L i := by
  rw [setT, ms_set (by omega)]
def givA (p : Nat) (L : List ly) : Nat := if topN L = true then ms L (L.length - 1) * p / 100 else 0
def giv (p : Nat) (L : List ly) : List ly := if topN L = true then setT L (ms L (L.length - 1) - ms L (L.length - 1) * p / 100) else L
def tak (m : Nat) (L : List ly) : List ly := if topN L = true then setT L (ms L (L.length - 1) + m) else addN m L
theorem ms_le {L : List ly} {i : Nat} (h : i < L.length) : ms L i ≤ sm L := by
  have h1 := sm_td (L := L) (e := L.length) h (Nat.le_refl _)
  have h2 := sm_drop_le (L.take L.length) i
  rw [List.take_length] at h1 h2
  omega
section SLF
variable {d c : Nat} {μ : ab_M} {Q : ab_Q} {L : List ly}
theorem C28 (hc : c < 12) (hL : rC μ c L) (ho : okL L) (h : Q (some (if topN L = true then 1 else 0)) μ) : ab_Cl (d + 1) 28 [.ref (17 + 4 * c)] μ Q := by
  have hn := hL.2.1
  refine n28 fun J run => run 30 _ _ _ _ ?_
  simp (disch := omega) only [e28_0, e28_1, e28_4, e28_7, e28_8, e28_11, e28_12, e28_15, e28_16, e28_17, e28_18, e28_21, e28_22, e28_25, e28_26, ab_sl hc, true_or, or_true, true_and, and_true, ab_pus, ab_pun, ab_len0, ab_len1, ab_len2, ab_len3, ab_len4, Nat.zero_add, hL.1, q_le0]
  refine ⟨fun g => ?_, fun g => ?_⟩
  · rw [if_neg (fun z => by have := (topN_t z).1; omega)] at h
    exact h
  · obtain ⟨o1, o2, o3⟩ := ho.1 (L.length - 1) (by omega)
    simp (disch := omega) only [q_m1, q_in, q_cl, true_and, hL.2.2.1 (L.length - 1) (by omega), q_eq0]
    refine ⟨fun g2 => ?_, fun g2 => ?_⟩
    · rw [if_neg (fun z => g2 (topN_t z).2)] at h
      exact h
    · rw [if_pos (by simp only [topN, Bool.and_eq_true, decide_eq_true_eq]; omega)] at h
      exact h
theorem rC_setT {v : Nat} (hL : rC μ c L) (h0 : 0 < L.length) : rC (ab_up μ 19 (10 * c + (L.length - 1)) (nI v)) c (setT L v) :=
  rP_to (rP_m (rP_of hL)) (setT_len L v) (fun i hi => setT_kd h0) (fun i hi => setT_ms h0) (fun i hi => setT_ag h0)
theorem C23 (hc : c < 12) (hL : rC μ c L) (ho : okL L) {p : Nat} (hp : p ≤ 36) (h : ∀ μ', rC μ' c (giv p L) → fC c μ μ' → Q (some (nI (givA p L))) μ') : ab_Cl (d + 2) 23 [.ref (17 + 4 * c), .int (nI p)] μ Q := by
  have hn := hL.2.1
  refine n23 fun J run => run 60 _ _ _ _ ?_
  simp only [e23_0, e23_1, e23_4, e23_7, e23_8, e23_9, e23_10, e23_13, e23_14, e23_17, e23_18, e23_19, e23_20, e23_21, e23_22, e23_24, e23_25, e23_26, e23_27, e23_30, e23_31, e23_34, e23_35, e23_36, e23_37, e23_38, e23_39, e23_40, e23_41, e23_42, ab_sl hc, true_or, or_true, true_and, and_true, ab_pus, ab_pun, ab_len0, ab_len1, ab_len2, ab_len3, ab_len4, Nat.zero_add]
  refine C28 hc hL ho ?_
  have h10 : ¬ (1 : Int32) = 0 := by decide
  by_cases ht : topN L = true
  · obtain ⟨t1, t2⟩ := topN_t ht
    have hb := ms_le (L := L) (i := L.length - 1) (by omega)
    have hb2 := ho.2
    have hmul : ms L (L.length - 1) * p ≤ 9600000 * 36 := Nat.mul_le_mul (by omega) hp
    have hdiv : ms L (L.length - 1) * p / 100 ≤ ms L (L.length - 1) := by
      apply Nat.div_le_of_le_mul
      rw [Nat.mul_comm 100]
      exact Nat.mul_le_mul (Nat.le_refl _) (by omega)
    have n100 : ¬ (nI 100 : Int32) = 0 := by decide
    rw [if_pos ht]
    simp (disch := omega) only [e23_0, e23_1, e23_4, e23_7, e23_8, e23_9, e23_10, e23_13, e23_14, e23_17, e23_18, e23_19, e23_20, e23_21, e23_22, e23_24, e23_25, e23_26, e23_27, e23_30, e23_31, e23_34, e23_35, e23_36, e23_37, e23_38, e23_39, e23_40, e23_41, e23_42, ab_sl hc, true_or, or_true, true_and, and_true, ab_pus, ab_pun, ab_len0, ab_len1, ab_len2, ab_len3, ab_len4, Nat.zero_add, h10, not_true_eq_false, false_imp_iff, not_false_eq_true, true_imp_iff, hL.1, q_m1, q_in, q_cl, hL.2.2.2.1 (L.length - 1) (by omega), q_mu, l100, n100, q_dv, q_su]
    have e1 : giv p L = setT L (ms L (L.length - 1) - ms L (L.length - 1) * p / 100) := by unfold giv; rw [if_pos ht]
    have e2 : givA p L = ms L (L.length - 1) * p / 100 := by unfold givA; rw [if_pos ht]
    rw [e1, e2] at h
    exact h _ (rC_setT hL t1) (fC_up fC_rf (by decide) (by decide) (by omega))
  · rw [if_neg ht]
    simp only [e23_0, e23_1, e23_4, e23_7, e23_8, e23_9, e23_10, e23_13, e23_14, e23_17, e23_18, e23_19, e23_20, e23_21, e23_22, e23_24, e23_25, e23_26, e23_27, e23_30, e23_31, e23_34, e23_35, e23_36, e23_37, e23_38, e23_39, e23_40, e23_41, e23_42, ab_sl hc, true_or, or_true, true_and, and_true, ab_pus, ab_pun, ab_len0, ab_len1, ab_len2, ab_len3, ab_len4, Nat.zero_add, not_true_eq_false, false_imp_iff, not_false_eq_true, true_imp_iff]
    have e1 : giv p L = L := by unfold giv; rw [if_neg ht]
    have e2 : givA p L = 0 := by unfold givA; rw [if_neg ht]
    rw [e1, e2] at h
    exact h μ hL fC_rf
theorem C24 (hc : c < 12) (hL : rC μ c L) (ho : okL L) {m : Nat} (hm : m < 2147483648) (h : ∀ μ', rC μ' c (tak m L) → fC c μ μ' → Q none μ') : ab_Cl (d + 3) 24 [.ref (17 + 4 * c), .int (nI m)] μ Q := by
  have hn := hL.2.1
  refine n24 fun J run => run 60 _ _ _ _ ?_
  simp only [e24_0, e24_1, e24_4, e24_7, e24_8, e24_11, e24_12, e24_15, e24_16, e24_17, e24_18, e24_19, e24_20, e24_21, e24_22, e24_25, e24_26, e24_27, e24_30, ab_sl hc, true_or, or_true, true_and, and_true, ab_pus, ab_pun, ab_len0, ab_len1, ab_len2, ab_len3, ab_len4, Nat.zero_add]
  refine C28 hc hL ho ?_
  have h10 : ¬ (1 : Int32) = 0 := by decide
  by_cases ht : topN L = true
  · obtain ⟨t1, t2⟩ := topN_t ht
    rw [if_pos ht]
    simp (disch := omega) only [e24_0, e24_1, e24_4, e24_7, e24_8, e24_11, e24_12, e24_15, e24_16, e24_17, e24_18, e24_19, e24_20, e24_21, e24_22, e24_25, e24_26, e24_27, e24_30, ab_sl hc, true_or, or_true, true_and, and_true, ab_pus, ab_pun, ab_len0, ab_len1, ab_len2, ab_len3, ab_len4, Nat.zero_add, h10, not_true_eq_false, false_imp_iff, not_false_eq_true, true_imp_iff, hL.1, q_m1, q_in, q_cl, hL.2.2.2.1 (L.length - 1) (by omega), q_ad]
    have e1 : tak m L = setT L (ms L (L.length - 1) + m) := by unfold tak; rw [if_pos ht]
    rw [e1] at h
    exact h _ (rC_setT hL t1) (fC_up fC_rf (by decide) (by decide) (by omega))
  · rw [if_neg ht]
    simp only [e24_0, e24_1, e24_4, e24_7, e24_8, e24_11, e24_12, e24_15, e24_16, e24_17, e24_18, e24_19, e24_20, e24_21, e24_22, e24_25, e24_26, e24_27, e24_30, ab_sl hc, true_or, or_true, true_and, and_true, ab_pus, ab_pun, ab_len0, ab_len1, ab_len2, ab_len3, ab_len4, Nat.zero_add, not_true_eq_false, false_imp_iff, not_false_eq_true, true_imp_iff]
    have e1 : tak m L = addN m L := by unfold tak; rw [if_neg ht]
    rw [e1] at h
    refine C22 hc hL ho hm (fun ν h1 h2 => ?_)
    simp only [e24_0, e24_1, e24_4, e24_7, e24_8, e24_11, e24_12, e24_15, e24_16, e24_17, e24_18, e24_19, e24_20, e24_21, e24_22, e24_25, e24_26, e24_27, e24_30, ab_sl hc, true_or, or_true, true_and, and_true, ab_pus, ab_pun, ab_len0, ab_len1, ab_len2, ab_len3, ab_len4, Nat.zero_add]
    exact h ν h1 h2
theorem C27 (hc : c < 12) (hL : rC μ c L) {k : Nat} (hk : k < L.length) (h : ∀ μ', rC μ' c (L.take (k + 1)) → fC c μ μ' → Q (some (nI (sm (L.drop (k + 1))))) μ') : ab_Cl (d + 3) 27 [.ref (17 + 4 * c), .int (nI k)] μ Q := by
  have hn := hL.2.1
  refine n27 fun J run => run 60 _ _ _ _ ?_
  simp only [e27_0, e27_1, e27_2, e27_5, e27_8, e27_9, e27_10, e27_11, e27_12, e27_15, e27_16, e27_17, e27_18, e27_19, e27_20, e27_23, e27_24, ab_sl hc, true_or, or_true, true_and, and_true, ab_pus, ab_pun, ab_len0, ab_len1, ab_len2, ab_len3, ab_len4, Nat.zero_add]
  refine C11n hc hL hk ?_
  have h10 : ¬ (1 : Int32) = 0 := by decide
  simp only [e27_0, e27_1, e27_2, e27_5, e27_8, e27_9, e27_10, e27_11, e27_12, e27_15, e27_16, e27_17, e27_18, e27_19, e27_20, e27_23, e27_24, ab_sl hc, true_or, or_true, true_and, and_true, ab_pus, ab_pun, ab_len0, ab_len1, ab_len2, ab_len3, ab_len4, Nat.zero_add, h10, not_true_eq_false, false_imp_iff, not_false_eq_true, true_imp_iff]
  refine C16 hc hL hk ?_
  simp only [e27_0, e27_1, e27_2, e27_5, e27_8, e27_9, e27_10, e27_11, e27_12, e27_15, e27_16, e27_17, e27_18, e27_19, e27_20, e27_23, e27_24, ab_sl hc, true_or, or_true, true_and, and_true, ab_pus, ab_pun, ab_len0, ab_len1, ab_len2, ab_len3, ab_len4, Nat.zero_add, q_p1]
  exact h _ (rP_to (rP_n (rP_of hL) (v := k + 1) (by omega)) (by rw [List.length_take]; omega) (fun i hi => kd_take hi) (fun i hi => ms_take hi) (fun i hi => ag_take hi)) (fC_up fC_rf (by decide) (by decide) (by decide))
end SLF
