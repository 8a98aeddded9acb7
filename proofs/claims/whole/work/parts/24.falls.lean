def fM (c : Nat) (μ μ' : ab_M) : Prop := ∀ p i, ¬ ((p = 66 ∧ i = c) ∨ (67 ≤ p ∧ p ≤ 69 ∧ 10 * c ≤ i ∧ i < 10 * c + 10)) → μ' p i = μ p i
theorem fM_rf {c : Nat} {μ : ab_M} : fM c μ μ := fun _ _ _ => rfl
theorem fM_up {c p i : Nat} {μ ν : ab_M} {v : Int32} (h : fM c μ ν) (h1 : 67 ≤ p) (h2 : p ≤ 69) (hi : i < 10) : fM c μ (ab_up ν p (10 * c + i) v) := by
  intro q j hq
  rw [ab_up_ne]
  · exact h q j hq
  · by_cases e : q = p
    · right; omega
    · exact Or.inl e
theorem fM_un {c : Nat} {μ ν : ab_M} {v : Int32} (h : fM c μ ν) : fM c μ (ab_up ν 66 c v) := by
  intro q j hq
  rw [ab_up_ne]
  · exact h q j hq
  · by_cases e : q = 66
    · right; intro z; exact hq (Or.inl ⟨e, z⟩)
    · exact Or.inl e
theorem fM_tr {c : Nat} {μ ν ρ : ab_M} (h1 : fM c μ ν) (h2 : fM c ν ρ) : fM c μ ρ := fun p i h => (h2 p i h).trans (h1 p i h)
/-- the layers of a class, place by place -/
def rQ (μ : ab_M) (c n : Nat) (K M A : Nat → Nat) : Prop := μ 66 c = nI n ∧ n ≤ 10 ∧ (∀ i, i < n → μ 67 (10 * c + i) = nI (K i)) ∧ (∀ i, i < n → μ 68 (10 * c + i) = nI (M i)) ∧ (∀ i, i < n → μ 69 (10 * c + i) = nI (A i))
theorem rQ_of {μ : ab_M} {c : Nat} {L : List ly} (h : rM μ c L) : rQ μ c L.length (kd L) (ms L) (ag L) := h
theorem rQ_to {μ : ab_M} {c n : Nat} {K M A : Nat → Nat} {L : List ly} (h : rQ μ c n K M A) (hl : L.length = n) (hK : ∀ i, i < n → kd L i = K i) (hM : ∀ i, i < n → ms L i = M i) (hA : ∀ i, i < n → ag L i = A i) : rM μ c L := by
  obtain ⟨h1, h2, h3, h4, h5⟩ := h
  subst hl
  exact ⟨h1, h2, fun i hi => by rw [h3 i hi, hK i hi], fun i hi => by rw [h4 i hi, hM i hi], fun i hi => by rw [h5 i hi, hA i hi]⟩
theorem rQ_k {μ : ab_M} {c n i v : Nat} {K M A : Nat → Nat} (h : rQ μ c n K M A) : rQ (ab_up μ 67 (10 * c + i) (nI v)) c n (fun j => if j = i then v else K j) M A := by
  obtain ⟨h1, h2, h3, h4, h5⟩ := h
  refine ⟨by rw [ab_up_ne (Or.inl (by decide))]; exact h1, h2, fun j hj => ?_, fun j hj => by rw [ab_up_ne (Or.inl (by decide))]; exact h4 j hj, fun j hj => by rw [ab_up_ne (Or.inl (by decide))]; exact h5 j hj⟩
  by_cases e : j = i
  · subst e; rw [ab_up_eq]; simp
  · rw [ab_up_ne (Or.inr (by omega)), h3 j hj]; simp [e]
theorem rQ_m {μ : ab_M} {c n i v : Nat} {K M A : Nat → Nat} (h : rQ μ c n K M A) : rQ (ab_up μ 68 (10 * c + i) (nI v)) c n K (fun j => if j = i then v else M j) A := by
  obtain ⟨h1, h2, h3, h4, h5⟩ := h
  refine ⟨by rw [ab_up_ne (Or.inl (by decide))]; exact h1, h2, fun j hj => by rw [ab_up_ne (Or.inl (by decide))]; exact h3 j hj, fun j hj => ?_, fun j hj => by rw [ab_up_ne (Or.inl (by decide))]; exact h5 j hj⟩
  by_cases e : j = i
  · subst e; rw [ab_up_eq]; simp
  · rw [ab_up_ne (Or.inr (by omega)), h4 j hj]; simp [e]
theorem rQ_a {μ : ab_M} {c n i v : Nat} {K M A : Nat → Nat} (h : rQ μ c n K M A) : rQ (ab_up μ 69 (10 * c + i) (nI v)) c n K M (fun j => if j = i then v else A j) := by
  obtain ⟨h1, h2, h3, h4, h5⟩ := h
  refine ⟨by rw [ab_up_ne (Or.inl (by decide))]; exact h1, h2, fun j hj => by rw [ab_up_ne (Or.inl (by decide))]; exact h3 j hj, fun j hj => by rw [ab_up_ne (Or.inl (by decide))]; exact h4 j hj, fun j hj => ?_⟩
  by_cases e : j = i
  · subst e; rw [ab_up_eq]; simp
  · rw [ab_up_ne (Or.inr (by omega)), h5 j hj]; simp [e]
/-- fewer layers -/
theorem rQ_n {μ : ab_M} {c n v : Nat} {K M A : Nat → Nat} (h : rQ μ c n K M A) (hv : v ≤ n) : rQ (ab_up μ 66 c (nI v)) c v K M A := by
  obtain ⟨h1, h2, h3, h4, h5⟩ := h
  exact ⟨by rw [ab_up_eq], by omega, fun j hj => by rw [ab_up_ne (Or.inl (by decide))]; exact h3 j (by omega), fun j hj => by rw [ab_up_ne (Or.inl (by decide))]; exact h4 j (by omega), fun j hj => by rw [ab_up_ne (Or.inl (by decide))]; exact h5 j (by omega)⟩
theorem rQ_c {μ : ab_M} {c n : Nat} {K M A K' M' A' : Nat → Nat} (h : rQ μ c n K M A) (hK : ∀ i, i < n → K i = K' i) (hM : ∀ i, i < n → M i = M' i) (hA : ∀ i, i < n → A i = A' i) : rQ μ c n K' M' A' := by
  obtain ⟨h1, h2, h3, h4, h5⟩ := h
  exact ⟨h1, h2, fun i hi => by rw [h3 i hi, hK i hi], fun i hi => by rw [h4 i hi, hM i hi], fun i hi => by rw [h5 i hi, hA i hi]⟩
section MDB
variable {d c : Nat} {μ : ab_M} {Q : ab_Q} {L : List ly}
theorem rM_push {ρ : ab_M} {m : Nat} {A : List ly} (h : rM ρ c A) (hn : A.length < 10) : rM (ab_up (ab_up (ab_up (ab_up ρ 67 (10 * c + A.length) 0) 68 (10 * c + A.length) (nI m)) 69 (10 * c + A.length) 0) 66 c (nI (A.length + 1))) c (A ++ [(0, m, 0)]) := by
  obtain ⟨h1, h2, h3, h4, h5⟩ := h
  refine ⟨by rw [ab_up_eq]; simp, by simp; omega, fun i hi => ?_, fun i hi => ?_, fun i hi => ?_⟩
  · simp (disch := omega) only [ab_ud]
    by_cases e : i = A.length
    · subst e; rw [ab_ue rfl]; simp [kd]; rfl
    · have hi : i < A.length := by simp at hi; omega
      rw [ab_uo (by omega), h3 i hi, kd_app hi]
  · simp (disch := omega) only [ab_ud]
    by_cases e : i = A.length
    · subst e; rw [ab_ue rfl]; simp [ms]
    · have hi : i < A.length := by simp at hi; omega
      rw [ab_uo (by omega)]
      simp (disch := omega) only [ab_ud]
      rw [h4 i hi, ms_app hi]
  · simp (disch := omega) only [ab_ud]
    by_cases e : i = A.length
    · subst e; rw [ab_ue rfl]; simp [ag]; rfl
    · have hi : i < A.length := by simp at hi; omega
      rw [ab_uo (by omega)]
      simp (disch := omega) only [ab_ud]
      rw [h5 i hi, ag_app hi]
theorem C84 (hc : c < 12) (hL : rM μ c L) (ho : okL L) {m : Nat} (hm0 : 0 < m) (hm : m < 2147483648) (h : ∀ μ', rM μ' c (addN m L) → fM c μ μ' → Q none μ') : ab_Cl (d + 1) 84 [.ref 65, .int (nI c), .int (nI m)] μ Q := by
  have hn := hL.2.1
  refine n84 fun J run => ?_
  have fin : ∀ (A : List ly) (ν : ab_M) (x : Value), rM ν c A → A.length < 10 → fM c μ ν → addN m L = A ++ [(0, m, 0)] → J 152 ν [.ref 65, .int (nI c), .int (nI m), .int (nI (10 * c)), x] [] := by
    intro A ν x h1 h2 h3 h4
    refine run 60 _ _ _ _ ?_
    simp (disch := omega) only [e84_0, e84_2, e84_3, e84_4, e84_5, e84_6, e84_9, e84_10, e84_11, e84_13, e84_16, e84_17, e84_20, e84_21, e84_22, e84_23, e84_24, e84_25, e84_26, e84_29, e84_30, e84_31, e84_32, e84_33, e84_34, e84_37, e84_38, e84_39, e84_40, e84_43, e84_44, e84_45, e84_46, e84_47, e84_50, e84_51, e84_54, e84_55, e84_56, e84_57, e84_58, e84_61, e84_62, e84_63, e84_64, e84_65, e84_67, e84_69, e84_70, e84_71, e84_73, e84_76, e84_77, e84_80, e84_81, e84_83, e84_84, e84_85, e84_88, e84_89, e84_91, e84_92, e84_93, e84_94, e84_95, e84_96, e84_97, e84_100, e84_101, e84_103, e84_104, e84_105, e84_108, e84_109, e84_111, e84_112, e84_113, e84_114, e84_115, e84_116, e84_117, e84_120, e84_121, e84_123, e84_124, e84_125, e84_128, e84_129, e84_131, e84_132, e84_133, e84_134, e84_135, e84_136, e84_139, e84_142, e84_143, e84_146, e84_147, e84_148, e84_149, e84_150, e84_151, e84_152, e84_153, e84_156, e84_157, e84_158, e84_161, e84_162, e84_163, e84_164, e84_165, e84_166, e84_167, e84_170, e84_171, e84_172, e84_175, e84_176, e84_177, e84_178, e84_179, e84_180, e84_181, e84_184, e84_185, e84_186, e84_189, e84_190, e84_191, e84_192, e84_193, e84_194, e84_195, e84_198, e84_199, e84_200, e84_201, e84_202, e84_203, e84_204, ab_li2, true_or, or_true, true_and, and_true, ab_pus, ab_pun, ab_len0, ab_len1, ab_len2, ab_len3, ab_len4, Nat.zero_add, q_in, q_cl, h1.1, q_ad, ab_ud, q_p1]
    rw [h4] at h
    exact h _ (rM_push h1 h2) (fM_un (fM_up (fM_up (fM_up h3 (by decide) (by decide) (by omega)) (by decide) (by decide) (by omega)) (by decide) (by decide) (by omega)))
  by_cases h10 : L.length = 10
  · have hP := rQ_of hL
    rw [h10] at hP
    obtain ⟨-, -, o0⟩ := ho.1 0 (by omega)
    obtain ⟨-, -, o1⟩ := ho.1 1 (by omega)
    have ha : addN m L = join L ++ [(0, m, 0)] := by unfold addN; rw [if_neg (by omega), if_neg (by omega)]
    have loop : ∀ f i ν, 9 - i ≤ f → i ≤ 9 → rQ ν c 10 (fun j => if j < i then kd L (j + 1) else kd L j) (fun j => if j < i then (if j = 0 then ms L 0 + ms L 1 else ms L (j + 1)) else (if j = 1 then ms L 0 + ms L 1 else ms L j)) (fun j => if j < i then (if j = 0 then max (ag L 0) (ag L 1) else ag L (j + 1)) else (if j = 1 then max (ag L 0) (ag L 1) else ag L j)) → fM c μ ν → J 67 ν [.ref 65, .int (nI c), .int (nI m), .int (nI (10 * c)), .int (nI i)] [] := by
      intro f
      induction f with
      | zero =>
        intro i ν h1 h2 h3 h4
        obtain rfl : i = 9 := by omega
        refine run 13 _ _ _ _ ?_
        simp (disch := omega) only [e84_0, e84_2, e84_3, e84_4, e84_5, e84_6, e84_9, e84_10, e84_11, e84_13, e84_16, e84_17, e84_20, e84_21, e84_22, e84_23, e84_24, e84_25, e84_26, e84_29, e84_30, e84_31, e84_32, e84_33, e84_34, e84_37, e84_38, e84_39, e84_40, e84_43, e84_44, e84_45, e84_46, e84_47, e84_50, e84_51, e84_54, e84_55, e84_56, e84_57, e84_58, e84_61, e84_62, e84_63, e84_64, e84_65, e84_67, e84_69, e84_70, e84_71, e84_73, e84_76, e84_77, e84_80, e84_81, e84_83, e84_84, e84_85, e84_88, e84_89, e84_91, e84_92, e84_93, e84_94, e84_95, e84_96, e84_97, e84_100, e84_101, e84_103, e84_104, e84_105, e84_108, e84_109, e84_111, e84_112, e84_113, e84_114, e84_115, e84_116, e84_117, e84_120, e84_121, e84_123, e84_124, e84_125, e84_128, e84_129, e84_131, e84_132, e84_133, e84_134, e84_135, e84_136, e84_139, e84_142, e84_143, e84_146, e84_147, e84_148, e84_149, e84_150, e84_151, e84_152, e84_153, e84_156, e84_157, e84_158, e84_161, e84_162, e84_163, e84_164, e84_165, e84_166, e84_167, e84_170, e84_171, e84_172, e84_175, e84_176, e84_177, e84_178, e84_179, e84_180, e84_181, e84_184, e84_185, e84_186, e84_189, e84_190, e84_191, e84_192, e84_193, e84_194, e84_195, e84_198, e84_199, e84_200, e84_201, e84_202, e84_203, e84_204, ab_li2, true_or, or_true, true_and, and_true, ab_pus, ab_pun, ab_len0, ab_len1, ab_len2, ab_len3, ab_len4, Nat.zero_add, ab_rn0, q_in, q_cl, h3.1, q_p1, l10, q_le, q_m1, Nat.le_refl, true_imp_iff, not_true_eq_false, false_imp_iff, Nat.reduceAdd]
        refine fin (join L) _ _ (rQ_to (rQ_n h3 (v := 9) (by decide)) (by rw [join_len (by omega), h10]) (fun k hk => ?_) (fun k hk => ?_) (fun k hk => ?_)) (by rw [join_len (by omega), h10]; decide) (fM_un h4) ha
        · rw [join_kd (by omega)]; (try dsimp only); ((repeat' split) <;> first | rfl | omega | (congr 1; omega))
        · rw [join_ms (by omega)]; (try dsimp only); ((repeat' split) <;> first | rfl | omega | (congr 1; omega))
        · rw [join_ag (by omega)]; (try dsimp only); ((repeat' split) <;> first | rfl | omega | (congr 1; omega))
      | succ f ih =>
        intro i ν h1 h2 h3 h4
        by_cases hi : i = 9
        · subst hi
          refine run 13 _ _ _ _ ?_
          simp (disch := omega) only [e84_0, e84_2, e84_3, e84_4, e84_5, e84_6, e84_9, e84_10, e84_11, e84_13, e84_16, e84_17, e84_20, e84_21, e84_22, e84_23, e84_24, e84_25, e84_26, e84_29, e84_30, e84_31, e84_32, e84_33, e84_34, e84_37, e84_38, e84_39, e84_40, e84_43, e84_44, e84_45, e84_46, e84_47, e84_50, e84_51, e84_54, e84_55, e84_56, e84_57, e84_58, e84_61, e84_62, e84_63, e84_64, e84_65, e84_67, e84_69, e84_70, e84_71, e84_73, e84_76, e84_77, e84_80, e84_81, e84_83, e84_84, e84_85, e84_88, e84_89, e84_91, e84_92, e84_93, e84_94, e84_95, e84_96, e84_97, e84_100, e84_101, e84_103, e84_104, e84_105, e84_108, e84_109, e84_111, e84_112, e84_113, e84_114, e84_115, e84_116, e84_117, e84_120, e84_121, e84_123, e84_124, e84_125, e84_128, e84_129, e84_131, e84_132, e84_133, e84_134, e84_135, e84_136, e84_139, e84_142, e84_143, e84_146, e84_147, e84_148, e84_149, e84_150, e84_151, e84_152, e84_153, e84_156, e84_157, e84_158, e84_161, e84_162, e84_163, e84_164, e84_165, e84_166, e84_167, e84_170, e84_171, e84_172, e84_175, e84_176, e84_177, e84_178, e84_179, e84_180, e84_181, e84_184, e84_185, e84_186, e84_189, e84_190, e84_191, e84_192, e84_193, e84_194, e84_195, e84_198, e84_199, e84_200, e84_201, e84_202, e84_203, e84_204, ab_li2, true_or, or_true, true_and, and_true, ab_pus, ab_pun, ab_len0, ab_len1, ab_len2, ab_len3, ab_len4, Nat.zero_add, ab_rn0, q_in, q_cl, h3.1, q_p1, l10, q_le, q_m1, Nat.le_refl, true_imp_iff, not_true_eq_false, false_imp_iff, Nat.reduceAdd]
          refine fin (join L) _ _ (rQ_to (rQ_n h3 (v := 9) (by decide)) (by rw [join_len (by omega), h10]) (fun k hk => ?_) (fun k hk => ?_) (fun k hk => ?_)) (by rw [join_len (by omega), h10]; decide) (fM_un h4) ha
          · rw [join_kd (by omega)]; (try dsimp only); ((repeat' split) <;> first | rfl | omega | (congr 1; omega))
          · rw [join_ms (by omega)]; (try dsimp only); ((repeat' split) <;> first | rfl | omega | (congr 1; omega))
          · rw [join_ag (by omega)]; (try dsimp only); ((repeat' split) <;> first | rfl | omega | (congr 1; omega))
        · refine run 70 _ _ _ _ ?_
          have ea : ∀ z : Nat, 10 * c + i + z = 10 * c + (i + z) := fun z => Nat.add_assoc _ _ _
          simp (disch := omega) only [e84_0, e84_2, e84_3, e84_4, e84_5, e84_6, e84_9, e84_10, e84_11, e84_13, e84_16, e84_17, e84_20, e84_21, e84_22, e84_23, e84_24, e84_25, e84_26, e84_29, e84_30, e84_31, e84_32, e84_33, e84_34, e84_37, e84_38, e84_39, e84_40, e84_43, e84_44, e84_45, e84_46, e84_47, e84_50, e84_51, e84_54, e84_55, e84_56, e84_57, e84_58, e84_61, e84_62, e84_63, e84_64, e84_65, e84_67, e84_69, e84_70, e84_71, e84_73, e84_76, e84_77, e84_80, e84_81, e84_83, e84_84, e84_85, e84_88, e84_89, e84_91, e84_92, e84_93, e84_94, e84_95, e84_96, e84_97, e84_100, e84_101, e84_103, e84_104, e84_105, e84_108, e84_109, e84_111, e84_112, e84_113, e84_114, e84_115, e84_116, e84_117, e84_120, e84_121, e84_123, e84_124, e84_125, e84_128, e84_129, e84_131, e84_132, e84_133, e84_134, e84_135, e84_136, e84_139, e84_142, e84_143, e84_146, e84_147, e84_148, e84_149, e84_150, e84_151, e84_152, e84_153, e84_156, e84_157, e84_158, e84_161, e84_162, e84_163, e84_164, e84_165, e84_166, e84_167, e84_170, e84_171, e84_172, e84_175, e84_176, e84_177, e84_178, e84_179, e84_180, e84_181, e84_184, e84_185, e84_186, e84_189, e84_190, e84_191, e84_192, e84_193, e84_194, e84_195, e84_198, e84_199, e84_200, e84_201, e84_202, e84_203, e84_204, ab_li2, true_or, or_true, true_and, and_true, ab_pus, ab_pun, ab_len0, ab_len1, ab_len2, ab_len3, ab_len4, Nat.zero_add, q_in, q_cl, q_p1, l10, q_le, q_ad, ab_ud, ea, h3.2.2.1 (i + 1) (by omega), h3.2.2.2.1 (i + 1) (by omega), h3.2.2.2.2 (i + 1) (by omega)]
          refine ⟨fun z => absurd z (by omega), fun _ => ?_⟩
          refine ih (i + 1) _ (by omega) (by omega) (rQ_c (rQ_a (rQ_m (rQ_k h3))) (fun k hk => ?_) (fun k hk => ?_) (fun k hk => ?_)) (fM_up (fM_up (fM_up h4 (by decide) (by decide) (by omega)) (by decide) (by decide) (by omega)) (by decide) (by decide) (by omega))
          · (try dsimp only); ((repeat' split) <;> first | rfl | omega | (congr 1; omega))
          · (try dsimp only); ((repeat' split) <;> first | rfl | omega | (congr 1; omega))
          · (try dsimp only); ((repeat' split) <;> first | rfl | omega | (congr 1; omega))
    refine run 33 _ _ _ _ ?_
    have k10 : nI 10 = nI 10 ↔ True := by simp
    simp (disch := omega) only [e84_0, e84_2, e84_3, e84_4, e84_5, e84_6, e84_9, e84_10, e84_11, e84_13, e84_16, e84_17, e84_20, e84_21, e84_22, e84_23, e84_24, e84_25, e84_26, e84_29, e84_30, e84_31, e84_32, e84_33, e84_34, e84_37, e84_38, e84_39, e84_40, e84_43, e84_44, e84_45, e84_46, e84_47, e84_50, e84_51, e84_54, e84_55, e84_56, e84_57, e84_58, e84_61, e84_62, e84_63, e84_64, e84_65, e84_67, e84_69, e84_70, e84_71, e84_73, e84_76, e84_77, e84_80, e84_81, e84_83, e84_84, e84_85, e84_88, e84_89, e84_91, e84_92, e84_93, e84_94, e84_95, e84_96, e84_97, e84_100, e84_101, e84_103, e84_104, e84_105, e84_108, e84_109, e84_111, e84_112, e84_113, e84_114, e84_115, e84_116, e84_117, e84_120, e84_121, e84_123, e84_124, e84_125, e84_128, e84_129, e84_131, e84_132, e84_133, e84_134, e84_135, e84_136, e84_139, e84_142, e84_143, e84_146, e84_147, e84_148, e84_149, e84_150, e84_151, e84_152, e84_153, e84_156, e84_157, e84_158, e84_161, e84_162, e84_163, e84_164, e84_165, e84_166, e84_167, e84_170, e84_171, e84_172, e84_175, e84_176, e84_177, e84_178, e84_179, e84_180, e84_181, e84_184, e84_185, e84_186, e84_189, e84_190, e84_191, e84_192, e84_193, e84_194, e84_195, e84_198, e84_199, e84_200, e84_201, e84_202, e84_203, e84_204, ab_li2, true_or, or_true, true_and, and_true, ab_pus, ab_pun, ab_len0, ab_len1, ab_len2, ab_len3, ab_len4, Nat.zero_add, ab_rn0, q_in, q_cl, hL.1, h10, l10, q_mu, q_p1, q_ad, ab_ud, eq_self, not_true_eq_false, false_imp_iff, not_false_eq_true, true_imp_iff, hP.2.2.2.1 1 (by decide), hP.2.2.2.2 1 (by decide)]
    have m0 := hP.2.2.2.1 0 (by decide)
    have a0 := hP.2.2.2.2 0 (by decide)
    rw [Nat.add_zero] at m0 a0
    simp only [m0, a0, q_ad]
    have hQ1 := rQ_m (v := ms L 1 + ms L 0) (i := 1) hP
    by_cases hage : ag L 0 ≤ ag L 1
    · refine run 3 _ _ _ _ ?_
      simp (disch := omega) only [e84_0, e84_2, e84_3, e84_4, e84_5, e84_6, e84_9, e84_10, e84_11, e84_13, e84_16, e84_17, e84_20, e84_21, e84_22, e84_23, e84_24, e84_25, e84_26, e84_29, e84_30, e84_31, e84_32, e84_33, e84_34, e84_37, e84_38, e84_39, e84_40, e84_43, e84_44, e84_45, e84_46, e84_47, e84_50, e84_51, e84_54, e84_55, e84_56, e84_57, e84_58, e84_61, e84_62, e84_63, e84_64, e84_65, e84_67, e84_69, e84_70, e84_71, e84_73, e84_76, e84_77, e84_80, e84_81, e84_83, e84_84, e84_85, e84_88, e84_89, e84_91, e84_92, e84_93, e84_94, e84_95, e84_96, e84_97, e84_100, e84_101, e84_103, e84_104, e84_105, e84_108, e84_109, e84_111, e84_112, e84_113, e84_114, e84_115, e84_116, e84_117, e84_120, e84_121, e84_123, e84_124, e84_125, e84_128, e84_129, e84_131, e84_132, e84_133, e84_134, e84_135, e84_136, e84_139, e84_142, e84_143, e84_146, e84_147, e84_148, e84_149, e84_150, e84_151, e84_152, e84_153, e84_156, e84_157, e84_158, e84_161, e84_162, e84_163, e84_164, e84_165, e84_166, e84_167, e84_170, e84_171, e84_172, e84_175, e84_176, e84_177, e84_178, e84_179, e84_180, e84_181, e84_184, e84_185, e84_186, e84_189, e84_190, e84_191, e84_192, e84_193, e84_194, e84_195, e84_198, e84_199, e84_200, e84_201, e84_202, e84_203, e84_204, ab_li2, true_or, or_true, true_and, and_true, ab_pus, ab_pun, ab_len0, ab_len1, ab_len2, ab_len3, ab_len4, Nat.zero_add, ab_rn0, q_le, hage, not_true_eq_false, false_imp_iff, not_false_eq_true, true_imp_iff]
      refine loop _ 0 _ (Nat.le_refl _) (by decide) (rQ_c hQ1 (fun k hk => ?_) (fun k hk => ?_) (fun k hk => ?_)) (fM_up fM_rf (by decide) (by decide) (by decide))
      · (try dsimp only); ((repeat' split) <;> first | rfl | omega | (congr 1; omega))
      · (try dsimp only); ((repeat' split) <;> first | rfl | omega | (congr 1; omega))
      · (try dsimp only); ((repeat' split) <;> first | rfl | omega | (next e => subst e; omega) | (congr 1; omega))
    · refine run 13 _ _ _ _ ?_
      simp (disch := omega) only [e84_0, e84_2, e84_3, e84_4, e84_5, e84_6, e84_9, e84_10, e84_11, e84_13, e84_16, e84_17, e84_20, e84_21, e84_22, e84_23, e84_24, e84_25, e84_26, e84_29, e84_30, e84_31, e84_32, e84_33, e84_34, e84_37, e84_38, e84_39, e84_40, e84_43, e84_44, e84_45, e84_46, e84_47, e84_50, e84_51, e84_54, e84_55, e84_56, e84_57, e84_58, e84_61, e84_62, e84_63, e84_64, e84_65, e84_67, e84_69, e84_70, e84_71, e84_73, e84_76, e84_77, e84_80, e84_81, e84_83, e84_84, e84_85, e84_88, e84_89, e84_91, e84_92, e84_93, e84_94, e84_95, e84_96, e84_97, e84_100, e84_101, e84_103, e84_104, e84_105, e84_108, e84_109, e84_111, e84_112, e84_113, e84_114, e84_115, e84_116, e84_117, e84_120, e84_121, e84_123, e84_124, e84_125, e84_128, e84_129, e84_131, e84_132, e84_133, e84_134, e84_135, e84_136, e84_139, e84_142, e84_143, e84_146, e84_147, e84_148, e84_149, e84_150, e84_151, e84_152, e84_153, e84_156, e84_157, e84_158, e84_161, e84_162, e84_163, e84_164, e84_165, e84_166, e84_167, e84_170, e84_171, e84_172, e84_175, e84_176, e84_177, e84_178, e84_179, e84_180, e84_181, e84_184, e84_185, e84_186, e84_189, e84_190, e84_191, e84_192, e84_193, e84_194, e84_195, e84_198, e84_199, e84_200, e84_201, e84_202, e84_203, e84_204, ab_li2, true_or, or_true, true_and, and_true, ab_pus, ab_pun, ab_len0, ab_len1, ab_len2, ab_len3, ab_len4, Nat.zero_add, ab_rn0, q_le, hage, not_true_eq_false, false_imp_iff, not_false_eq_true, true_imp_iff, q_p1, q_in, q_cl, ab_ud, a0]
      refine loop _ 0 _ (Nat.le_refl _) (by decide) (rQ_c (rQ_a (v := ag L 0) (i := 1) hQ1) (fun k hk => ?_) (fun k hk => ?_) (fun k hk => ?_)) (fM_up (fM_up fM_rf (by decide) (by decide) (by decide)) (by decide) (by decide) (by decide))
      · (try dsimp only); ((repeat' split) <;> first | rfl | omega | (congr 1; omega))
      · (try dsimp only); ((repeat' split) <;> first | rfl | omega | (congr 1; omega))
      · (try dsimp only); ((repeat' split) <;> first | rfl | omega | (next e => subst e; omega) | (congr 1; omega))
  · refine run 10 _ _ _ _ ?_
    simp (disch := omega) only [e84_0, e84_2, e84_3, e84_4, e84_5, e84_6, e84_9, e84_10, e84_11, e84_13, e84_16, e84_17, e84_20, e84_21, e84_22, e84_23, e84_24, e84_25, e84_26, e84_29, e84_30, e84_31, e84_32, e84_33, e84_34, e84_37, e84_38, e84_39, e84_40, e84_43, e84_44, e84_45, e84_46, e84_47, e84_50, e84_51, e84_54, e84_55, e84_56, e84_57, e84_58, e84_61, e84_62, e84_63, e84_64, e84_65, e84_67, e84_69, e84_70, e84_71, e84_73, e84_76, e84_77, e84_80, e84_81, e84_83, e84_84, e84_85, e84_88, e84_89, e84_91, e84_92, e84_93, e84_94, e84_95, e84_96, e84_97, e84_100, e84_101, e84_103, e84_104, e84_105, e84_108, e84_109, e84_111, e84_112, e84_113, e84_114, e84_115, e84_116, e84_117, e84_120, e84_121, e84_123, e84_124, e84_125, e84_128, e84_129, e84_131, e84_132, e84_133, e84_134, e84_135, e84_136, e84_139, e84_142, e84_143, e84_146, e84_147, e84_148, e84_149, e84_150, e84_151, e84_152, e84_153, e84_156, e84_157, e84_158, e84_161, e84_162, e84_163, e84_164, e84_165, e84_166, e84_167, e84_170, e84_171, e84_172, e84_175, e84_176, e84_177, e84_178, e84_179, e84_180, e84_181, e84_184, e84_185, e84_186, e84_189, e84_190, e84_191, e84_192, e84_193, e84_194, e84_195, e84_198, e84_199, e84_200, e84_201, e84_202, e84_203, e84_204, ab_li2, true_or, or_true, true_and, and_true, ab_pus, ab_pun, ab_len0, ab_len1, ab_len2, ab_len3, ab_len4, Nat.zero_add, ab_rn0, q_in, q_cl, hL.1, h10, l10, q_mu, q_eq, not_true_eq_false, false_imp_iff, not_false_eq_true, true_imp_iff]
    exact fin L μ _ hL (by omega) fM_rf (by unfold addN; rw [if_neg (by omega), if_pos (by omega)])
end MDB
