theorem rC_fr {μ μ' : ab_M} {c c' : Nat} {L : List ly} (h : rC μ c L) (hf : fC c' μ μ') (hne : c ≠ c') : rC μ' c L := by
  obtain ⟨h1, h2, h3, h4, h5⟩ := h
  exact ⟨by rw [hf _ _ (by omega)]; exact h1, h2, fun i hi => by rw [hf _ _ (by omega)]; exact h3 i hi, fun i hi => by rw [hf _ _ (by omega)]; exact h4 i hi, fun i hi => by rw [hf _ _ (by omega)]; exact h5 i hi⟩
theorem rM_fr {μ μ' : ab_M} {c c' : Nat} {L : List ly} (h : rM μ c L) (hf : fM c' μ μ') (hne : c ≠ c') : rM μ' c L := by
  obtain ⟨h1, h2, h3, h4, h5⟩ := h
  exact ⟨by rw [hf _ _ (by omega)]; exact h1, h2, fun i hi => by rw [hf _ _ (by omega)]; exact h3 i hi, fun i hi => by rw [hf _ _ (by omega)]; exact h4 i hi, fun i hi => by rw [hf _ _ (by omega)]; exact h5 i hi⟩
theorem rM_setT {μ : ab_M} {c v : Nat} {L : List ly} (hL : rM μ c L) (h0 : 0 < L.length) : rM (ab_up μ 68 (10 * c + (L.length - 1)) (nI v)) c (setT L v) :=
  rQ_to (rQ_m (rQ_of hL)) (setT_len L v) (fun i hi => setT_kd h0) (fun i hi => setT_ms h0) (fun i hi => setT_ag h0)
theorem rM_same {μ : ab_M} {c : Nat} {L : List ly} (hL : rM μ c L) (h0 : 0 < L.length) : rM μ c (setT L (ms L (L.length - 1))) :=
  rQ_to (rQ_of hL) (setT_len L _) (fun i hi => setT_kd h0) (fun i hi => by rw [setT_ms h0]; split <;> simp_all) (fun i hi => setT_ag h0)
theorem rM_tak0 {μ : ab_M} {c : Nat} {L : List ly} (hL : rM μ c L) : rM μ c (tak 0 L) := by
  unfold tak
  split
  · next h => exact rM_same hL (topN_t h).1
  · unfold addN
    rw [if_pos rfl]
    exact hL
section MDC
variable {d c : Nat} {μ : ab_M} {Q : ab_Q} {L : List ly}
theorem C86 (hc : c < 12) (hL : rM μ c L) (h0 : 0 < L.length) (h : Q (some (nI (10 * c + (L.length - 1)))) μ) : ab_Cl (d + 1) 86 [.ref 65, .int (nI c)] μ Q := by
  have hn := hL.2.1
  refine n86 fun J run => run 20 _ _ _ _ ?_
  simp (disch := omega) only [e86_0, e86_2, e86_3, e86_4, e86_5, e86_8, e86_9, e86_10, e86_11, e86_12, e86_13, ab_li2, true_or, or_true, true_and, and_true, ab_pus, ab_pun, ab_len0, ab_len1, ab_len2, ab_len3, ab_len4, Nat.zero_add, q_in, q_cl, hL.1, l10, q_mu, q_ad, q_m1]
  rw [show 10 * c + L.length - 1 = 10 * c + (L.length - 1) by omega]
  exact h
theorem C87 (hc : c < 12) (hL : rM μ c L) (ho : okL L) (h : Q (some (if topN L = true then 1 else 0)) μ) : ab_Cl (d + 2) 87 [.ref 65, .int (nI c)] μ Q := by
  have hn := hL.2.1
  refine n87 fun J run => run 30 _ _ _ _ ?_
  simp (disch := omega) only [e87_0, e87_1, e87_4, e87_5, e87_6, e87_9, e87_10, e87_13, e87_14, e87_15, e87_18, e87_19, e87_22, e87_23, e87_26, e87_27, ab_li2, true_or, or_true, true_and, and_true, ab_pus, ab_pun, ab_len0, ab_len1, ab_len2, ab_len3, ab_len4, Nat.zero_add, q_in, q_cl, hL.1, q_le0]
  refine ⟨fun g => ?_, fun g => ?_⟩
  · rw [if_neg (fun z => by have := (topN_t z).1; omega)] at h
    exact h
  · obtain ⟨o1, o2, o3⟩ := ho.1 (L.length - 1) (by omega)
    refine C86 hc hL (by omega) ?_
    simp (disch := omega) only [e87_0, e87_1, e87_4, e87_5, e87_6, e87_9, e87_10, e87_13, e87_14, e87_15, e87_18, e87_19, e87_22, e87_23, e87_26, e87_27, ab_li2, true_or, or_true, true_and, and_true, ab_pus, ab_pun, ab_len0, ab_len1, ab_len2, ab_len3, ab_len4, Nat.zero_add, q_in, q_cl, hL.2.2.1 (L.length - 1) (by omega), q_eq0]
    refine ⟨fun g2 => ?_, fun g2 => ?_⟩
    · rw [if_neg (fun z => g2 (topN_t z).2)] at h
      exact h
    · rw [if_pos (by simp only [topN, Bool.and_eq_true, decide_eq_true_eq]; omega)] at h
      exact h
theorem C88 {a b f : Nat} {A B : List ly} (ha : a < 12) (hb : b < 12) (hab : a ≠ b) (hA : rM μ a A) (oA : okL A) (hB : rM μ b B) (oB : okL B) (hf : f ≤ 9) (hfo : μ 65 9 = nI f)
    (h : ∀ μ', rM μ' a (giv (4 * f) A) → rM μ' b (tak (givA (4 * f) A) B) → (∃ ν, fM a μ ν ∧ fM b ν μ') → Q none μ') : ab_Cl (d + 3) 88 [.ref 65, .int (nI a), .int (nI b)] μ Q := by
  have hn := hA.2.1
  have hnB := hB.2.1
  refine n88 fun J run => run 80 _ _ _ _ ?_
  simp only [e88_0, e88_1, e88_2, e88_5, e88_8, e88_9, e88_10, e88_13, e88_14, e88_15, e88_18, e88_19, e88_20, e88_23, e88_24, e88_25, e88_26, e88_28, e88_29, e88_30, e88_31, e88_34, e88_35, e88_36, e88_39, e88_40, e88_41, e88_44, e88_45, e88_46, e88_47, e88_48, e88_49, e88_50, e88_51, e88_54, e88_57, e88_58, e88_61, e88_62, e88_63, e88_66, e88_67, e88_68, e88_69, e88_70, e88_71, e88_74, e88_75, e88_76, e88_77, e88_80, ab_li2, true_or, or_true, true_and, and_true, ab_pus, ab_pun, ab_len0, ab_len1, ab_len2, ab_len3, ab_len4, Nat.zero_add]
  refine C87 ha hA oA ?_
  have h10 : ¬ (1 : Int32) = 0 := by decide
  by_cases ht : topN A = true
  · obtain ⟨t1, t2⟩ := topN_t ht
    have hb1 := ms_le (L := A) (i := A.length - 1) (by omega)
    have hb2 := oA.2
    have eA : givA (4 * f) A = ms A (A.length - 1) * f * 4 / 100 := by unfold givA; rw [if_pos ht, Nat.mul_assoc, Nat.mul_comm f 4]
    have eG : giv (4 * f) A = setT A (ms A (A.length - 1) - givA (4 * f) A) := by unfold giv givA; rw [if_pos ht, if_pos ht]
    have hmul : ms A (A.length - 1) * f * 4 ≤ 9600000 * 36 := by
      rw [Nat.mul_assoc]
      exact Nat.mul_le_mul (by omega) (by omega)
    have hdiv : ms A (A.length - 1) * f * 4 / 100 ≤ ms A (A.length - 1) := by
      apply Nat.div_le_of_le_mul
      rw [Nat.mul_assoc, Nat.mul_comm 100]
      exact Nat.mul_le_mul (Nat.le_refl _) (by omega)
    have n100 : ¬ (nI 100 : Int32) = 0 := by decide
    rw [if_pos ht]
    simp (disch := omega) only [e88_0, e88_1, e88_2, e88_5, e88_8, e88_9, e88_10, e88_13, e88_14, e88_15, e88_18, e88_19, e88_20, e88_23, e88_24, e88_25, e88_26, e88_28, e88_29, e88_30, e88_31, e88_34, e88_35, e88_36, e88_39, e88_40, e88_41, e88_44, e88_45, e88_46, e88_47, e88_48, e88_49, e88_50, e88_51, e88_54, e88_57, e88_58, e88_61, e88_62, e88_63, e88_66, e88_67, e88_68, e88_69, e88_70, e88_71, e88_74, e88_75, e88_76, e88_77, e88_80, ab_li2, true_or, or_true, true_and, and_true, ab_pus, ab_pun, ab_len0, ab_len1, ab_len2, ab_len3, ab_len4, Nat.zero_add, h10, not_true_eq_false, false_imp_iff, not_false_eq_true, true_imp_iff]
    refine C86 ha hA t1 ?_
    simp (disch := omega) only [e88_0, e88_1, e88_2, e88_5, e88_8, e88_9, e88_10, e88_13, e88_14, e88_15, e88_18, e88_19, e88_20, e88_23, e88_24, e88_25, e88_26, e88_28, e88_29, e88_30, e88_31, e88_34, e88_35, e88_36, e88_39, e88_40, e88_41, e88_44, e88_45, e88_46, e88_47, e88_48, e88_49, e88_50, e88_51, e88_54, e88_57, e88_58, e88_61, e88_62, e88_63, e88_66, e88_67, e88_68, e88_69, e88_70, e88_71, e88_74, e88_75, e88_76, e88_77, e88_80, ab_li2, true_or, or_true, true_and, and_true, ab_pus, ab_pun, ab_len0, ab_len1, ab_len2, ab_len3, ab_len4, Nat.zero_add, q_in, q_cl, hA.2.2.2.1 (A.length - 1) (by omega), hfo, q_mu, l4, l100, n100, q_dv, not_false_eq_true]
    rw [← eA] at hdiv ⊢
    generalize givA (4 * f) A = g at *
    simp (disch := omega) only [q_eq0]
    refine ⟨fun g0 => ?_, fun g0 => ?_⟩
    · refine C86 ha hA t1 ?_
      simp (disch := omega) only [e88_0, e88_1, e88_2, e88_5, e88_8, e88_9, e88_10, e88_13, e88_14, e88_15, e88_18, e88_19, e88_20, e88_23, e88_24, e88_25, e88_26, e88_28, e88_29, e88_30, e88_31, e88_34, e88_35, e88_36, e88_39, e88_40, e88_41, e88_44, e88_45, e88_46, e88_47, e88_48, e88_49, e88_50, e88_51, e88_54, e88_57, e88_58, e88_61, e88_62, e88_63, e88_66, e88_67, e88_68, e88_69, e88_70, e88_71, e88_74, e88_75, e88_76, e88_77, e88_80, ab_li2, true_or, or_true, true_and, and_true, ab_pus, ab_pun, ab_len0, ab_len1, ab_len2, ab_len3, ab_len4, Nat.zero_add, q_in, q_cl, hA.2.2.2.1 (A.length - 1) (by omega), q_su]
      have hA1 := rM_setT (v := ms A (A.length - 1) - g) hA t1
      have f1 : fM a μ (ab_up μ 68 (10 * a + (A.length - 1)) (nI (ms A (A.length - 1) - g))) := fM_up fM_rf (by decide) (by decide) (by omega)
      rw [← eG] at hA1
      generalize ab_up μ 68 (10 * a + (A.length - 1)) (nI (ms A (A.length - 1) - g)) = ν at *
      have hB1 := rM_fr hB f1 (Ne.symm hab)
      refine C87 hb hB1 oB ?_
      by_cases hu : topN B = true
      · obtain ⟨u1, u2⟩ := topN_t hu
        rw [if_pos hu]
        simp (disch := omega) only [e88_0, e88_1, e88_2, e88_5, e88_8, e88_9, e88_10, e88_13, e88_14, e88_15, e88_18, e88_19, e88_20, e88_23, e88_24, e88_25, e88_26, e88_28, e88_29, e88_30, e88_31, e88_34, e88_35, e88_36, e88_39, e88_40, e88_41, e88_44, e88_45, e88_46, e88_47, e88_48, e88_49, e88_50, e88_51, e88_54, e88_57, e88_58, e88_61, e88_62, e88_63, e88_66, e88_67, e88_68, e88_69, e88_70, e88_71, e88_74, e88_75, e88_76, e88_77, e88_80, ab_li2, true_or, or_true, true_and, and_true, ab_pus, ab_pun, ab_len0, ab_len1, ab_len2, ab_len3, ab_len4, Nat.zero_add, h10, not_true_eq_false, false_imp_iff, not_false_eq_true, true_imp_iff]
        refine C86 hb hB1 u1 ?_
        simp (disch := omega) only [e88_0, e88_1, e88_2, e88_5, e88_8, e88_9, e88_10, e88_13, e88_14, e88_15, e88_18, e88_19, e88_20, e88_23, e88_24, e88_25, e88_26, e88_28, e88_29, e88_30, e88_31, e88_34, e88_35, e88_36, e88_39, e88_40, e88_41, e88_44, e88_45, e88_46, e88_47, e88_48, e88_49, e88_50, e88_51, e88_54, e88_57, e88_58, e88_61, e88_62, e88_63, e88_66, e88_67, e88_68, e88_69, e88_70, e88_71, e88_74, e88_75, e88_76, e88_77, e88_80, ab_li2, true_or, or_true, true_and, and_true, ab_pus, ab_pun, ab_len0, ab_len1, ab_len2, ab_len3, ab_len4, Nat.zero_add, q_in, q_cl, hB1.2.2.2.1 (B.length - 1) (by omega), q_ad]
        have f2 : fM b ν (ab_up ν 68 (10 * b + (B.length - 1)) (nI (ms B (B.length - 1) + g))) := fM_up fM_rf (by decide) (by decide) (by omega)
        refine h _ (rM_fr hA1 f2 hab) ?_ ⟨ν, f1, f2⟩
        unfold tak
        rw [if_pos hu]
        exact rM_setT hB1 u1
      · rw [if_neg hu]
        simp only [e88_0, e88_1, e88_2, e88_5, e88_8, e88_9, e88_10, e88_13, e88_14, e88_15, e88_18, e88_19, e88_20, e88_23, e88_24, e88_25, e88_26, e88_28, e88_29, e88_30, e88_31, e88_34, e88_35, e88_36, e88_39, e88_40, e88_41, e88_44, e88_45, e88_46, e88_47, e88_48, e88_49, e88_50, e88_51, e88_54, e88_57, e88_58, e88_61, e88_62, e88_63, e88_66, e88_67, e88_68, e88_69, e88_70, e88_71, e88_74, e88_75, e88_76, e88_77, e88_80, ab_li2, true_or, or_true, true_and, and_true, ab_pus, ab_pun, ab_len0, ab_len1, ab_len2, ab_len3, ab_len4, Nat.zero_add, not_true_eq_false, false_imp_iff, not_false_eq_true, true_imp_iff]
        refine C84 hb hB1 oB (by omega) (by omega) (fun ρ h1 f2 => ?_)
        simp only [e88_0, e88_1, e88_2, e88_5, e88_8, e88_9, e88_10, e88_13, e88_14, e88_15, e88_18, e88_19, e88_20, e88_23, e88_24, e88_25, e88_26, e88_28, e88_29, e88_30, e88_31, e88_34, e88_35, e88_36, e88_39, e88_40, e88_41, e88_44, e88_45, e88_46, e88_47, e88_48, e88_49, e88_50, e88_51, e88_54, e88_57, e88_58, e88_61, e88_62, e88_63, e88_66, e88_67, e88_68, e88_69, e88_70, e88_71, e88_74, e88_75, e88_76, e88_77, e88_80, ab_li2, true_or, or_true, true_and, and_true, ab_pus, ab_pun, ab_len0, ab_len1, ab_len2, ab_len3, ab_len4, Nat.zero_add]
        refine h _ (rM_fr hA1 f2 hab) ?_ ⟨ν, f1, f2⟩
        unfold tak
        rw [if_neg hu]
        exact h1
    · have g0 : g = 0 := by omega
      subst g0
      rw [eG] at h
      exact h μ (rM_same hA t1) (rM_tak0 hB) ⟨μ, fM_rf, fM_rf⟩
  · rw [if_neg ht]
    simp only [e88_0, e88_1, e88_2, e88_5, e88_8, e88_9, e88_10, e88_13, e88_14, e88_15, e88_18, e88_19, e88_20, e88_23, e88_24, e88_25, e88_26, e88_28, e88_29, e88_30, e88_31, e88_34, e88_35, e88_36, e88_39, e88_40, e88_41, e88_44, e88_45, e88_46, e88_47, e88_48, e88_49, e88_50, e88_51, e88_54, e88_57, e88_58, e88_61, e88_62, e88_63, e88_66, e88_67, e88_68, e88_69, e88_70, e88_71, e88_74, e88_75, e88_76, e88_77, e88_80, ab_li2, true_or, or_true, true_and, and_true, ab_pus, ab_pun, ab_len0, ab_len1, ab_len2, ab_len3, ab_len4, Nat.zero_add, not_true_eq_false, false_imp_iff, not_false_eq_true, true_imp_iff]
    have e1 : giv (4 * f) A = A := by unfold giv; rw [if_neg ht]
    have e2 : givA (4 * f) A = 0 := by unfold givA; rw [if_neg ht]
    rw [e1, e2] at h
    exact h μ hA (rM_tak0 hB) ⟨μ, fM_rf, fM_rf⟩
theorem C89 (hc : c < 12) (hL : rM μ c L) (ho : okL L) (h : ∀ μ', rM μ' c (chg (decide (μ 72 (c / 4) ≤ -8)) L) → fM c μ μ' → Q none μ') : ab_Cl (d + 1) 89 [.ref 65, .int (nI c)] μ Q := by
  have hn := hL.2.1
  generalize hcold : decide (μ 72 (c / 4) ≤ -8) = cold at h
  have hg : ∀ ν, fM c μ ν → ((-8 < ν 72 (c / 4)) ↔ cold = false) := by
    intro ν hν
    rw [hν 72 (c / 4) (by omega), ← hcold, decide_eq_false_iff_not]
    simp only [Int32.lt_iff_toInt_lt, Int32.le_iff_toInt_le]
    omega
  have o20 := ho.2
  have hc4 : c / 4 < 3 := by omega
  refine n89 fun J run => ?_
  have fin : ∀ ν, rQ ν c L.length (fun k => if k < L.length then (chF cold (kd L k, ms L k, ag L k)).1 else kd L k) (ms L) (ag L) → fM c μ ν → Q none ν := by
    intro ν h3 h4
    refine h ν (rQ_to h3 (by simp [chg]) (fun k hk => ?_) (fun k hk => ?_) (fun k hk => ?_)) h4
    · rw [chg, kd_map hk, if_pos hk]
    · rw [chg, ms_map hk, chF]
    · rw [chg, ag_map hk, chF]
  have loop : ∀ f i ν, L.length - i ≤ f → i ≤ L.length → rQ ν c L.length (fun k => if k < i then (chF cold (kd L k, ms L k, ag L k)).1 else kd L k) (ms L) (ag L) → fM c μ ν → J 5 ν [.ref 65, .int (nI c), .int (nI (10 * c + i))] [] := by
    intro f
    induction f with
    | zero =>
      intro i ν h1 h2 h3 h4
      obtain rfl : i = L.length := by omega
      refine run 20 _ _ _ _ ?_
      simp (disch := omega) only [e89_0, e89_2, e89_3, e89_4, e89_5, e89_6, e89_8, e89_9, e89_10, e89_11, e89_14, e89_15, e89_16, e89_17, e89_20, e89_21, e89_24, e89_25, e89_26, e89_29, e89_30, e89_33, e89_34, e89_35, e89_36, e89_39, e89_40, e89_43, e89_44, e89_45, e89_48, e89_49, e89_50, e89_51, e89_52, e89_54, e89_57, e89_58, e89_61, e89_62, e89_63, e89_66, e89_69, e89_70, e89_73, e89_74, e89_75, e89_76, e89_79, e89_80, e89_81, e89_82, e89_85, e89_86, e89_89, e89_90, e89_91, e89_93, e89_96, e89_97, e89_100, e89_101, e89_102, e89_103, e89_106, e89_109, ab_li2, true_or, or_true, true_and, and_true, ab_pus, ab_pun, ab_len0, ab_len1, ab_len2, ab_len3, ab_len4, Nat.zero_add, q_in, q_cl, h3.1, l10, q_mu, q_ad, q_le, Nat.le_refl, true_imp_iff, not_true_eq_false, false_imp_iff]
      exact fin ν h3 h4
    | succ f ih =>
      intro i ν h1 h2 h3 h4
      by_cases hi : i = L.length
      · subst hi
        refine run 20 _ _ _ _ ?_
        simp (disch := omega) only [e89_0, e89_2, e89_3, e89_4, e89_5, e89_6, e89_8, e89_9, e89_10, e89_11, e89_14, e89_15, e89_16, e89_17, e89_20, e89_21, e89_24, e89_25, e89_26, e89_29, e89_30, e89_33, e89_34, e89_35, e89_36, e89_39, e89_40, e89_43, e89_44, e89_45, e89_48, e89_49, e89_50, e89_51, e89_52, e89_54, e89_57, e89_58, e89_61, e89_62, e89_63, e89_66, e89_69, e89_70, e89_73, e89_74, e89_75, e89_76, e89_79, e89_80, e89_81, e89_82, e89_85, e89_86, e89_89, e89_90, e89_91, e89_93, e89_96, e89_97, e89_100, e89_101, e89_102, e89_103, e89_106, e89_109, ab_li2, true_or, or_true, true_and, and_true, ab_pus, ab_pun, ab_len0, ab_len1, ab_len2, ab_len3, ab_len4, Nat.zero_add, q_in, q_cl, h3.1, l10, q_mu, q_ad, q_le, Nat.le_refl, true_imp_iff, not_true_eq_false, false_imp_iff]
        exact fin ν h3 h4
      · have hi2 : i < L.length := by omega
        obtain ⟨o1, o2, o3⟩ := ho.1 i hi2
        have o4 := ms_le hi2
        have nxt : ∀ (ρ : ab_M) (K : Nat → Nat), rQ ρ c L.length K (ms L) (ag L) → fM c μ ρ → K i = (chF cold (kd L i, ms L i, ag L i)).1 → (∀ k, k ≠ i → K k = if k < i then (chF cold (kd L k, ms L k, ag L k)).1 else kd L k) → J 5 ρ [.ref 65, .int (nI c), .int (nI (10 * c + i + 1))] [] := by
          intro ρ K g1 g2 g3 g4
          refine ih (i + 1) ρ (by omega) (by omega) (rQ_c g1 (fun k hk => ?_) (fun _ _ => rfl) (fun _ _ => rfl)) g2
          by_cases e : k = i
          · subst e; rw [g3, if_pos (by omega)]
          · rw [g4 k e]
            by_cases e2 : k < i
            · rw [if_pos e2, if_pos (by omega)]
            · rw [if_neg e2, if_neg (by omega)]
        have hk : ν 67 (10 * c + i) = nI (kd L i) := by
          have := h3.2.2.1 i hi2
          simp only [Nat.lt_irrefl, if_false] at this
          exact this
        have nx0 : (chF cold (kd L i, ms L i, ag L i)).1 = kd L i → J 5 ν [.ref 65, .int (nI c), .int (nI (10 * c + i + 1))] [] := fun e => nxt ν _ h3 h4 (by rw [if_neg (by omega), e]) (fun k hk => rfl)
        have nx1 : ∀ v, (chF cold (kd L i, ms L i, ag L i)).1 = v → J 5 (ab_up ν 67 (10 * c + i) (nI v)) [.ref 65, .int (nI c), .int (nI (10 * c + i + 1))] [] := fun v e => nxt _ _ (rQ_k h3) (fM_up h4 (by decide) (by decide) (by omega)) (by rw [if_pos rfl, e]) (fun k hk => by rw [if_neg hk])
        have nx2 : ∀ u v, (chF cold (kd L i, ms L i, ag L i)).1 = v → J 5 (ab_up (ab_up ν 67 (10 * c + i) (nI u)) 67 (10 * c + i) (nI v)) [.ref 65, .int (nI c), .int (nI (10 * c + i + 1))] [] := fun u v e => nxt _ _ (rQ_k (rQ_k h3)) (fM_up (fM_up h4 (by decide) (by decide) (by omega)) (by decide) (by decide) (by omega)) (by rw [if_pos rfl, e]) (fun k hk => by rw [if_neg hk, if_neg hk])
        refine run 80 _ _ _ _ ?_
        have e12 : ¬ nI 1 = nI 2 := by decide
        have e10 : ¬ (nI 1 = 0) := by decide
        have e40 : ¬ (nI 4 = 0) := by decide
        simp (disch := omega) only [e89_0, e89_2, e89_3, e89_4, e89_5, e89_6, e89_8, e89_9, e89_10, e89_11, e89_14, e89_15, e89_16, e89_17, e89_20, e89_21, e89_24, e89_25, e89_26, e89_29, e89_30, e89_33, e89_34, e89_35, e89_36, e89_39, e89_40, e89_43, e89_44, e89_45, e89_48, e89_49, e89_50, e89_51, e89_52, e89_54, e89_57, e89_58, e89_61, e89_62, e89_63, e89_66, e89_69, e89_70, e89_73, e89_74, e89_75, e89_76, e89_79, e89_80, e89_81, e89_82, e89_85, e89_86, e89_89, e89_90, e89_91, e89_93, e89_96, e89_97, e89_100, e89_101, e89_102, e89_103, e89_106, e89_109, ab_li2, true_or, or_true, true_and, and_true, ab_pus, ab_pun, ab_len0, ab_len1, ab_len2, ab_len3, ab_len4, Nat.zero_add, h3.1, l10, q_mu, q_le, q_in, q_cl, hk, h3.2.2.2.1 i hi2, h3.2.2.2.2 i hi2, ab_ud, ab_up_eq, l1, l2, l3, l4, l20, l300, e40, q_dv, q_eq0, q_eq, q_lt, q_ad, e12, e10, hg ν h4, not_true_eq_false, false_imp_iff, not_false_eq_true, true_imp_iff, Classical.not_not]
        simp only [chF] at nx0 nx1 nx2
        generalize kd L i = K at *
        generalize ms L i = Mm at *
        generalize ag L i = Aa at *
        refine ⟨fun z => absurd z (by omega), fun _ => ?_⟩
        repeat' (first | apply And.intro | intro _)
        all_goals first
          | exact nx0 (by (repeat' split) <;> simp_all <;> omega)
          | exact nx1 _ (by (repeat' split) <;> simp_all <;> omega)
          | exact nx2 _ _ (by (repeat' split) <;> simp_all <;> omega)
          | (exfalso; omega)
  refine run 4 _ _ _ _ ?_
  simp (disch := omega) only [e89_0, e89_2, e89_3, e89_4, e89_5, e89_6, e89_8, e89_9, e89_10, e89_11, e89_14, e89_15, e89_16, e89_17, e89_20, e89_21, e89_24, e89_25, e89_26, e89_29, e89_30, e89_33, e89_34, e89_35, e89_36, e89_39, e89_40, e89_43, e89_44, e89_45, e89_48, e89_49, e89_50, e89_51, e89_52, e89_54, e89_57, e89_58, e89_61, e89_62, e89_63, e89_66, e89_69, e89_70, e89_73, e89_74, e89_75, e89_76, e89_79, e89_80, e89_81, e89_82, e89_85, e89_86, e89_89, e89_90, e89_91, e89_93, e89_96, e89_97, e89_100, e89_101, e89_102, e89_103, e89_106, e89_109, ab_li2, true_or, or_true, true_and, and_true, ab_pus, ab_pun, ab_len0, ab_len1, ab_len2, ab_len3, ab_len4, Nat.zero_add, ab_rn0, l10, q_mu]
  exact loop _ 0 μ (Nat.le_refl _) (Nat.zero_le _) (rQ_c (rQ_of hL) (fun k hk => by simp) (fun _ _ => rfl) (fun _ _ => rfl)) fM_rf
end MDC
