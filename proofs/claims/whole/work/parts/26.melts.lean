/-- what melts may change: the layers of a class, and what has melted -/
def gM (c q : Nat) (μ μ' : ab_M) : Prop := ∀ p i, ¬ ((p = 65 ∧ i = q) ∨ (p = 66 ∧ i = c) ∨ (67 ≤ p ∧ p ≤ 69 ∧ 10 * c ≤ i ∧ i < 10 * c + 10)) → μ' p i = μ p i
theorem gM_rf {c q : Nat} {μ : ab_M} : gM c q μ μ := fun _ _ _ => rfl
theorem gM_f {c q : Nat} {μ ν ρ : ab_M} (h : gM c q μ ν) (h2 : fM c ν ρ) : gM c q μ ρ := fun p i hh => (h2 p i (by omega)).trans (h p i hh)
theorem gM_u {c q : Nat} {μ ν : ab_M} {v : Int32} (h : gM c q μ ν) : gM c q μ (ab_up ν 65 q v) := by
  intro p i hp
  rw [ab_up_ne]
  · exact h p i hp
  · by_cases e : p = 65
    · right; intro z; exact hp (Or.inl ⟨e, z⟩)
    · exact Or.inl e
theorem rQ_u {μ : ab_M} {c n q : Nat} {K M A : Nat → Nat} {v : Int32} (h : rQ μ c n K M A) : rQ (ab_up μ 65 q v) c n K M A := by
  obtain ⟨h1, h2, h3, h4, h5⟩ := h
  exact ⟨by rw [ab_ud (by decide)]; exact h1, h2, fun i hi => by rw [ab_ud (by decide)]; exact h3 i hi, fun i hi => by rw [ab_ud (by decide)]; exact h4 i hi, fun i hi => by rw [ab_ud (by decide)]; exact h5 i hi⟩
theorem C86p {d c r : Nat} {ν : ab_M} {Q : ab_Q} {K M A : Nat → Nat} (hc : c < 12) (hP : rQ ν c (r + 1) K M A) (h : Q (some (nI (10 * c + r))) ν) : ab_Cl (d + 1) 86 [.ref 65, .int (nI c)] ν Q := by
  have hn := hP.2.1
  refine n86 fun J run => run 20 _ _ _ _ ?_
  simp (disch := omega) only [e86_0, e86_2, e86_3, e86_4, e86_5, e86_8, e86_9, e86_10, e86_11, e86_12, e86_13, ab_li2, true_or, or_true, true_and, and_true, ab_pus, ab_pun, ab_len0, ab_len1, ab_len2, ab_len3, ab_len4, Nat.zero_add, q_in, q_cl, hP.1, l10, q_mu, q_ad, q_m1]
  rw [show 10 * c + (r + 1) - 1 = 10 * c + r by omega]
  exact h
section MDE
variable {d c : Nat} {μ : ab_M} {Q : ab_Q} {L : List ly}
theorem C90z (hc : c < 12) (hw : ¬ (0 : Int32) < 6 * μ 72 (c / 4)) (h : Q none μ) : ab_Cl (d + 2) 90 [.ref 65, .int (nI c)] μ Q := by
  refine n90 fun J run => run 20 _ _ _ _ ?_
  have e40 : ¬ (nI 4 = 0) := by decide
  have hc4 : c / 4 < 3 := by omega
  simp (disch := omega) only [e90_0, e90_2, e90_3, e90_6, e90_7, e90_8, e90_9, e90_10, e90_11, e90_12, e90_13, e90_16, e90_17, e90_18, e90_21, e90_22, e90_25, e90_26, e90_27, e90_30, e90_31, e90_34, e90_35, e90_36, e90_39, e90_40, e90_41, e90_44, e90_45, e90_48, e90_49, e90_50, e90_53, e90_54, e90_57, e90_58, e90_59, e90_60, e90_63, e90_64, e90_65, e90_68, e90_69, e90_70, e90_71, e90_72, e90_73, e90_74i, e90_74r, e90_75, e90_78, e90_79, e90_80, e90_83, e90_84, e90_85, e90_86, e90_87, e90_88, e90_91, e90_92, e90_93, e90_96, e90_97, e90_100, e90_101, e90_104, e90_105, e90_106, e90_107, e90_108, e90_109, e90_110, e90_113, e90_114, e90_117, e90_118, e90_119, e90_122, e90_123, e90_126, e90_127, e90_128, e90_131, e90_132, e90_133, ab_li2, true_or, or_true, true_and, and_true, ab_pus, ab_pun, ab_len0, ab_len1, ab_len2, ab_len3, ab_len4, Nat.zero_add, q_in, q_cl, l4, e40, q_dv, hw, not_true_eq_false, false_imp_iff, not_false_eq_true, true_imp_iff]
  exact h
theorem C90 (hc : c < 12) (hL : rM μ c L) (ho : okL L) {g : Nat} (hg0 : 0 < g) (hg : g ≤ 10) (hw : μ 72 (c / 4) = nI g) (h : ∀ μ', rM μ' c (mlt (6 * g) L) → μ' 65 11 = μ 65 11 + nI (mlA (6 * g) L) → gM c 11 μ μ' → Q none μ') : ab_Cl (d + 2) 90 [.ref 65, .int (nI c)] μ Q := by
  have hn := hL.2.1
  have o20 := ho.2
  have hc4 : c / 4 < 3 := by omega
  have e40 : ¬ (nI 4 = 0) := by decide
  have z0 : nI 0 = 0 := rfl
  refine n90 fun J run => ?_
  -- the end, with layers left: the top one is crust
  have fin : ∀ r v ρ x, r < L.length → mlN L L.length (6 * g) = (r + 1, v) → v ≤ ms L r → rQ ρ c (r + 1) (kd L) (fun j => if j = r then ms L r - v else ms L j) (ag L) → ρ 65 11 = μ 65 11 + nI (6 * g) → gM c 11 μ ρ → J 17 ρ [.ref 65, .int (nI c), .int 0, x] [] := by
    intro r v ρ x h1 h2 h3 h4 h5 h6
    refine run 40 _ _ _ _ ?_
    have l00 : ((0 : Int32) ≤ 0) = True := eq_true (by decide)
    have e0 : ¬ r + 1 = 0 := by omega
    simp (disch := omega) only [e90_0, e90_2, e90_3, e90_6, e90_7, e90_8, e90_9, e90_10, e90_11, e90_12, e90_13, e90_16, e90_17, e90_18, e90_21, e90_22, e90_25, e90_26, e90_27, e90_30, e90_31, e90_34, e90_35, e90_36, e90_39, e90_40, e90_41, e90_44, e90_45, e90_48, e90_49, e90_50, e90_53, e90_54, e90_57, e90_58, e90_59, e90_60, e90_63, e90_64, e90_65, e90_68, e90_69, e90_70, e90_71, e90_72, e90_73, e90_74i, e90_74r, e90_75, e90_78, e90_79, e90_80, e90_83, e90_84, e90_85, e90_86, e90_87, e90_88, e90_91, e90_92, e90_93, e90_96, e90_97, e90_100, e90_101, e90_104, e90_105, e90_106, e90_107, e90_108, e90_109, e90_110, e90_113, e90_114, e90_117, e90_118, e90_119, e90_122, e90_123, e90_126, e90_127, e90_128, e90_131, e90_132, e90_133, ab_li2, true_or, or_true, true_and, and_true, ab_pus, ab_pun, ab_len0, ab_len1, ab_len2, ab_len3, ab_len4, Nat.zero_add, l00, h4.1, q_in, q_cl, q_le0, e0, not_true_eq_false, false_imp_iff, not_false_eq_true, true_imp_iff]
    refine C86p hc h4 ?_
    simp (disch := omega) only [e90_0, e90_2, e90_3, e90_6, e90_7, e90_8, e90_9, e90_10, e90_11, e90_12, e90_13, e90_16, e90_17, e90_18, e90_21, e90_22, e90_25, e90_26, e90_27, e90_30, e90_31, e90_34, e90_35, e90_36, e90_39, e90_40, e90_41, e90_44, e90_45, e90_48, e90_49, e90_50, e90_53, e90_54, e90_57, e90_58, e90_59, e90_60, e90_63, e90_64, e90_65, e90_68, e90_69, e90_70, e90_71, e90_72, e90_73, e90_74i, e90_74r, e90_75, e90_78, e90_79, e90_80, e90_83, e90_84, e90_85, e90_86, e90_87, e90_88, e90_91, e90_92, e90_93, e90_96, e90_97, e90_100, e90_101, e90_104, e90_105, e90_106, e90_107, e90_108, e90_109, e90_110, e90_113, e90_114, e90_117, e90_118, e90_119, e90_122, e90_123, e90_126, e90_127, e90_128, e90_131, e90_132, e90_133, ab_li2, true_or, or_true, true_and, and_true, ab_pus, ab_pun, ab_len0, ab_len1, ab_len2, ab_len3, ab_len4, Nat.zero_add, q_in, q_cl]
    unfold mlt mlA at h
    rw [h2] at h
    dsimp only at h
    rw [if_neg (by omega), if_neg (by omega)] at h
    have hm1 : ∀ i : Nat, i + 1 - 1 = i := fun i => rfl
    simp only [hm1] at h
    have hlen : (L.take (r + 1)).length = r + 1 := by rw [List.length_take]; omega
    refine h _ (rQ_to (rQ_k (v := 3) h4) ?_ (fun i hi => ?_) (fun i hi => ?_) (fun i hi => ?_)) (by rw [ab_ud (by decide)]; exact h5) (gM_f h6 (fM_up fM_rf (by decide) (by decide) (by omega)))
    · rw [List.length_set, hlen]
    · rw [kd_set (by omega)]
      split
      · rfl
      · rw [kd_take hi]
    · rw [ms_set (by omega)]
      split
      · rfl
      · rw [ms_take hi]
    · rw [ag_set (by omega)]
      split
      · next e => rw [e]
      · rw [ag_take hi]
  have loop : ∀ r v ν x, r ≤ L.length → v ≤ 6 * g → mlN L r v = mlN L L.length (6 * g) → rQ ν c r (kd L) (ms L) (ag L) → ν 65 11 = μ 65 11 + nI (6 * g - v) → gM c 11 μ ν → J 17 ν [.ref 65, .int (nI c), .int (nI v), x] [] := by
    intro r
    induction r with
    | zero =>
      intro v ν x h1 h2 h3 h4 h5 h6
      refine run 40 _ _ _ _ ?_
      have hz : mlN L L.length (6 * g) = (0, v) := by rw [← h3]; rfl
      simp (disch := omega) only [e90_0, e90_2, e90_3, e90_6, e90_7, e90_8, e90_9, e90_10, e90_11, e90_12, e90_13, e90_16, e90_17, e90_18, e90_21, e90_22, e90_25, e90_26, e90_27, e90_30, e90_31, e90_34, e90_35, e90_36, e90_39, e90_40, e90_41, e90_44, e90_45, e90_48, e90_49, e90_50, e90_53, e90_54, e90_57, e90_58, e90_59, e90_60, e90_63, e90_64, e90_65, e90_68, e90_69, e90_70, e90_71, e90_72, e90_73, e90_74i, e90_74r, e90_75, e90_78, e90_79, e90_80, e90_83, e90_84, e90_85, e90_86, e90_87, e90_88, e90_91, e90_92, e90_93, e90_96, e90_97, e90_100, e90_101, e90_104, e90_105, e90_106, e90_107, e90_108, e90_109, e90_110, e90_113, e90_114, e90_117, e90_118, e90_119, e90_122, e90_123, e90_126, e90_127, e90_128, e90_131, e90_132, e90_133, ab_li2, true_or, or_true, true_and, and_true, ab_pus, ab_pun, ab_len0, ab_len1, ab_len2, ab_len3, ab_len4, Nat.zero_add, h4.1, q_in, q_cl, q_le0, not_true_eq_false, false_imp_iff, not_false_eq_true, true_imp_iff]
      unfold mlt mlA at h
      rw [hz] at h
      have := h ν (rQ_to h4 rfl (fun i hi => absurd hi (by omega)) (fun i hi => absurd hi (by omega)) (fun i hi => absurd hi (by omega))) h5 h6
      exact ⟨fun _ => this, fun _ => this⟩
    | succ r ih =>
      intro v ν x h1 h2 h3 h4 h5 h6
      have hr : r < L.length := by omega
      obtain ⟨o1, o2, o3⟩ := ho.1 r hr
      have o4 := ms_le hr
      have hu : mlN L (r + 1) v = if ms L r ≤ v then mlN L r (v - ms L r) else (r + 1, v) := rfl
      by_cases hv0 : v = 0
      · subst hv0
        rw [hu, if_neg (by omega)] at h3
        exact fin r 0 ν x hr h3.symm (by omega) (rQ_c h4 (fun _ _ => rfl) (fun j _ => by split <;> simp_all) (fun _ _ => rfl)) (by rw [h5, Nat.sub_zero]) h6
      · have e0 : ¬ r + 1 = 0 := by omega
        have nxt : ∀ (u : Nat) (ρ : ab_M) (y : Int32) {x : Value}, mlN L r u = mlN L L.length (6 * g) → u ≤ 6 * g → rQ ρ c r (kd L) (ms L) (ag L) → ρ 65 11 = μ 65 11 + nI (6 * g - u) → gM c 11 μ ρ → y = nI u → J 17 ρ [.ref 65, .int (nI c), .int y, x] [] := by
          intro u ρ y x a1 a2 a3 a4 a5 a6
          subst a6
          exact ih u ρ x (by omega) a2 a1 a3 a4 a5
        refine run 80 _ _ _ _ ?_
        simp (disch := omega) only [e90_0, e90_2, e90_3, e90_6, e90_7, e90_8, e90_9, e90_10, e90_11, e90_12, e90_13, e90_16, e90_17, e90_18, e90_21, e90_22, e90_25, e90_26, e90_27, e90_30, e90_31, e90_34, e90_35, e90_36, e90_39, e90_40, e90_41, e90_44, e90_45, e90_48, e90_49, e90_50, e90_53, e90_54, e90_57, e90_58, e90_59, e90_60, e90_63, e90_64, e90_65, e90_68, e90_69, e90_70, e90_71, e90_72, e90_73, e90_74i, e90_74r, e90_75, e90_78, e90_79, e90_80, e90_83, e90_84, e90_85, e90_86, e90_87, e90_88, e90_91, e90_92, e90_93, e90_96, e90_97, e90_100, e90_101, e90_104, e90_105, e90_106, e90_107, e90_108, e90_109, e90_110, e90_113, e90_114, e90_117, e90_118, e90_119, e90_122, e90_123, e90_126, e90_127, e90_128, e90_131, e90_132, e90_133, ab_li2, true_or, or_true, true_and, and_true, ab_pus, ab_pun, ab_len0, ab_len1, ab_len2, ab_len3, ab_len4, Nat.zero_add, h4.1, q_in, q_cl, q_le0, hv0, e0, not_true_eq_false, false_imp_iff, not_false_eq_true, true_imp_iff]
        refine C86p hc h4 ?_
        simp (disch := omega) only [e90_0, e90_2, e90_3, e90_6, e90_7, e90_8, e90_9, e90_10, e90_11, e90_12, e90_13, e90_16, e90_17, e90_18, e90_21, e90_22, e90_25, e90_26, e90_27, e90_30, e90_31, e90_34, e90_35, e90_36, e90_39, e90_40, e90_41, e90_44, e90_45, e90_48, e90_49, e90_50, e90_53, e90_54, e90_57, e90_58, e90_59, e90_60, e90_63, e90_64, e90_65, e90_68, e90_69, e90_70, e90_71, e90_72, e90_73, e90_74i, e90_74r, e90_75, e90_78, e90_79, e90_80, e90_83, e90_84, e90_85, e90_86, e90_87, e90_88, e90_91, e90_92, e90_93, e90_96, e90_97, e90_100, e90_101, e90_104, e90_105, e90_106, e90_107, e90_108, e90_109, e90_110, e90_113, e90_114, e90_117, e90_118, e90_119, e90_122, e90_123, e90_126, e90_127, e90_128, e90_131, e90_132, e90_133, ab_li2, true_or, or_true, true_and, and_true, ab_pus, ab_pun, ab_len0, ab_len1, ab_len2, ab_len3, ab_len4, Nat.zero_add, q_in, q_cl, h4.2.2.2.1 r (by omega), q_le]
        refine ⟨fun g1 => ?_, fun g1 => ?_⟩
        · -- v ≤ m
          refine C86p hc h4 ?_
          simp (disch := omega) only [e90_0, e90_2, e90_3, e90_6, e90_7, e90_8, e90_9, e90_10, e90_11, e90_12, e90_13, e90_16, e90_17, e90_18, e90_21, e90_22, e90_25, e90_26, e90_27, e90_30, e90_31, e90_34, e90_35, e90_36, e90_39, e90_40, e90_41, e90_44, e90_45, e90_48, e90_49, e90_50, e90_53, e90_54, e90_57, e90_58, e90_59, e90_60, e90_63, e90_64, e90_65, e90_68, e90_69, e90_70, e90_71, e90_72, e90_73, e90_74i, e90_74r, e90_75, e90_78, e90_79, e90_80, e90_83, e90_84, e90_85, e90_86, e90_87, e90_88, e90_91, e90_92, e90_93, e90_96, e90_97, e90_100, e90_101, e90_104, e90_105, e90_106, e90_107, e90_108, e90_109, e90_110, e90_113, e90_114, e90_117, e90_118, e90_119, e90_122, e90_123, e90_126, e90_127, e90_128, e90_131, e90_132, e90_133, ab_li2, true_or, or_true, true_and, and_true, ab_pus, ab_pun, ab_len0, ab_len1, ab_len2, ab_len3, ab_len4, Nat.zero_add, q_in, q_cl, h4.2.2.2.1 r (by omega), q_su, Nat.sub_self, z0]
          have h7 := rQ_u (q := 11) (v := ab_up ν 68 (10 * c + r) (nI (ms L r - v)) 65 11 + nI v) (rQ_m (v := ms L r - v) (i := r) h4)
          refine C86p hc h7 ?_
          simp (disch := omega) only [e90_0, e90_2, e90_3, e90_6, e90_7, e90_8, e90_9, e90_10, e90_11, e90_12, e90_13, e90_16, e90_17, e90_18, e90_21, e90_22, e90_25, e90_26, e90_27, e90_30, e90_31, e90_34, e90_35, e90_36, e90_39, e90_40, e90_41, e90_44, e90_45, e90_48, e90_49, e90_50, e90_53, e90_54, e90_57, e90_58, e90_59, e90_60, e90_63, e90_64, e90_65, e90_68, e90_69, e90_70, e90_71, e90_72, e90_73, e90_74i, e90_74r, e90_75, e90_78, e90_79, e90_80, e90_83, e90_84, e90_85, e90_86, e90_87, e90_88, e90_91, e90_92, e90_93, e90_96, e90_97, e90_100, e90_101, e90_104, e90_105, e90_106, e90_107, e90_108, e90_109, e90_110, e90_113, e90_114, e90_117, e90_118, e90_119, e90_122, e90_123, e90_126, e90_127, e90_128, e90_131, e90_132, e90_133, ab_li2, true_or, or_true, true_and, and_true, ab_pus, ab_pun, ab_len0, ab_len1, ab_len2, ab_len3, ab_len4, Nat.zero_add, q_in, q_cl, ab_ud, ab_up_eq, q_eq0, ab_ud, h4.1, q_m1]
          refine ⟨fun g2 => ?_, fun g2 => ?_⟩
          · rw [hu, if_neg (by omega)] at h3
            refine fin r v _ _ hr h3.symm g1 ?_ ?_ ?_
            · have := rQ_u (q := 11) (v := ν 65 11 + nI v) (rQ_m (v := ms L r - v) (i := r) h4)
              exact this
            · rw [ab_up_eq, h5, Int32.add_assoc, q_ad, show 6 * g - v + v = 6 * g by omega]
            · exact gM_u (gM_f h6 (fM_up fM_rf (by decide) (by decide) (by omega)))
          · rw [hu, if_pos (by omega)] at h3
            have hvm : v - ms L r = 0 := by omega
            have h8 := rQ_u (q := 11) (v := ν 65 11 + nI v) (rQ_m (v := ms L r - v) (i := r) h4)
            refine nxt (v - ms L r) _ _ h3 (by omega) (rQ_c (rQ_n h8 (v := r) (by omega)) (fun _ _ => rfl) (fun j hj => by rw [if_neg (by omega)]) (fun _ _ => rfl)) ?_ (gM_f (gM_u (gM_f h6 (fM_up fM_rf (by decide) (by decide) (by omega)))) (fM_un fM_rf)) (by rw [hvm]; rfl)
            rw [ab_ud (by decide), ab_up_eq, h5, Int32.add_assoc, q_ad, show 6 * g - v + v = 6 * g - (v - ms L r) by omega]
        · -- m < v
          refine C86p hc h4 ?_
          simp (disch := omega) only [e90_0, e90_2, e90_3, e90_6, e90_7, e90_8, e90_9, e90_10, e90_11, e90_12, e90_13, e90_16, e90_17, e90_18, e90_21, e90_22, e90_25, e90_26, e90_27, e90_30, e90_31, e90_34, e90_35, e90_36, e90_39, e90_40, e90_41, e90_44, e90_45, e90_48, e90_49, e90_50, e90_53, e90_54, e90_57, e90_58, e90_59, e90_60, e90_63, e90_64, e90_65, e90_68, e90_69, e90_70, e90_71, e90_72, e90_73, e90_74i, e90_74r, e90_75, e90_78, e90_79, e90_80, e90_83, e90_84, e90_85, e90_86, e90_87, e90_88, e90_91, e90_92, e90_93, e90_96, e90_97, e90_100, e90_101, e90_104, e90_105, e90_106, e90_107, e90_108, e90_109, e90_110, e90_113, e90_114, e90_117, e90_118, e90_119, e90_122, e90_123, e90_126, e90_127, e90_128, e90_131, e90_132, e90_133, ab_li2, true_or, or_true, true_and, and_true, ab_pus, ab_pun, ab_len0, ab_len1, ab_len2, ab_len3, ab_len4, Nat.zero_add, q_in, q_cl, h4.2.2.2.1 r (by omega)]
          refine C86p hc h4 ?_
          simp (disch := omega) only [e90_0, e90_2, e90_3, e90_6, e90_7, e90_8, e90_9, e90_10, e90_11, e90_12, e90_13, e90_16, e90_17, e90_18, e90_21, e90_22, e90_25, e90_26, e90_27, e90_30, e90_31, e90_34, e90_35, e90_36, e90_39, e90_40, e90_41, e90_44, e90_45, e90_48, e90_49, e90_50, e90_53, e90_54, e90_57, e90_58, e90_59, e90_60, e90_63, e90_64, e90_65, e90_68, e90_69, e90_70, e90_71, e90_72, e90_73, e90_74i, e90_74r, e90_75, e90_78, e90_79, e90_80, e90_83, e90_84, e90_85, e90_86, e90_87, e90_88, e90_91, e90_92, e90_93, e90_96, e90_97, e90_100, e90_101, e90_104, e90_105, e90_106, e90_107, e90_108, e90_109, e90_110, e90_113, e90_114, e90_117, e90_118, e90_119, e90_122, e90_123, e90_126, e90_127, e90_128, e90_131, e90_132, e90_133, ab_li2, true_or, or_true, true_and, and_true, ab_pus, ab_pun, ab_len0, ab_len1, ab_len2, ab_len3, ab_len4, Nat.zero_add, q_in, q_cl, h4.2.2.2.1 r (by omega), q_su, Nat.sub_self, z0]
          have h7 := rQ_u (q := 11) (v := ab_up ν 68 (10 * c + r) (nI 0) 65 11 + nI (ms L r)) (rQ_m (v := 0) (i := r) h4)
          refine C86p hc h7 ?_
          simp (disch := omega) only [e90_0, e90_2, e90_3, e90_6, e90_7, e90_8, e90_9, e90_10, e90_11, e90_12, e90_13, e90_16, e90_17, e90_18, e90_21, e90_22, e90_25, e90_26, e90_27, e90_30, e90_31, e90_34, e90_35, e90_36, e90_39, e90_40, e90_41, e90_44, e90_45, e90_48, e90_49, e90_50, e90_53, e90_54, e90_57, e90_58, e90_59, e90_60, e90_63, e90_64, e90_65, e90_68, e90_69, e90_70, e90_71, e90_72, e90_73, e90_74i, e90_74r, e90_75, e90_78, e90_79, e90_80, e90_83, e90_84, e90_85, e90_86, e90_87, e90_88, e90_91, e90_92, e90_93, e90_96, e90_97, e90_100, e90_101, e90_104, e90_105, e90_106, e90_107, e90_108, e90_109, e90_110, e90_113, e90_114, e90_117, e90_118, e90_119, e90_122, e90_123, e90_126, e90_127, e90_128, e90_131, e90_132, e90_133, ab_li2, true_or, or_true, true_and, and_true, ab_pus, ab_pun, ab_len0, ab_len1, ab_len2, ab_len3, ab_len4, Nat.zero_add, q_in, q_cl, ab_ud, ab_up_eq, h4.1, q_m1, z0, not_true_eq_false, false_imp_iff, not_false_eq_true, true_imp_iff]
          rw [hu, if_pos (by omega)] at h3
          have h8 := rQ_u (q := 11) (v := ν 65 11 + nI (ms L r)) (rQ_m (v := 0) (i := r) h4)
          refine nxt (v - ms L r) _ _ h3 (by omega) (rQ_c (rQ_n h8 (v := r) (by omega)) (fun _ _ => rfl) (fun j hj => by rw [if_neg (by omega)]) (fun _ _ => rfl)) ?_ (gM_f (gM_u (gM_f h6 (fM_up fM_rf (by decide) (by decide) (by omega)))) (fM_un fM_rf)) rfl
          rw [ab_ud (by decide), ab_up_eq, h5, Int32.add_assoc, q_ad, show 6 * g - v + ms L r = 6 * g - (v - ms L r) by omega]
  refine run 11 _ _ _ _ ?_
  simp (disch := omega) only [e90_0, e90_2, e90_3, e90_6, e90_7, e90_8, e90_9, e90_10, e90_11, e90_12, e90_13, e90_16, e90_17, e90_18, e90_21, e90_22, e90_25, e90_26, e90_27, e90_30, e90_31, e90_34, e90_35, e90_36, e90_39, e90_40, e90_41, e90_44, e90_45, e90_48, e90_49, e90_50, e90_53, e90_54, e90_57, e90_58, e90_59, e90_60, e90_63, e90_64, e90_65, e90_68, e90_69, e90_70, e90_71, e90_72, e90_73, e90_74i, e90_74r, e90_75, e90_78, e90_79, e90_80, e90_83, e90_84, e90_85, e90_86, e90_87, e90_88, e90_91, e90_92, e90_93, e90_96, e90_97, e90_100, e90_101, e90_104, e90_105, e90_106, e90_107, e90_108, e90_109, e90_110, e90_113, e90_114, e90_117, e90_118, e90_119, e90_122, e90_123, e90_126, e90_127, e90_128, e90_131, e90_132, e90_133, ab_li2, true_or, or_true, true_and, and_true, ab_pus, ab_pun, ab_len0, ab_len1, ab_len2, ab_len3, ab_len4, Nat.zero_add, ab_rn0, q_in, q_cl, l4, e40, q_dv, hw, l6, q_mu, q_gt0, not_true_eq_false, false_imp_iff, not_false_eq_true, true_imp_iff]
  exact ⟨fun _ => loop _ _ μ _ (Nat.le_refl _) (Nat.le_refl _) rfl (rQ_of hL) (by rw [Nat.sub_self]; exact (Int32.add_zero _).symm) gM_rf, fun z => absurd (by omega) z⟩
theorem C103 (hc : c < 12) (hL : rM μ c L) {k : Nat} (hk : k < L.length) (h : ∀ μ', rM μ' c (L.take (k + 1)) → μ' 65 12 = μ 65 12 + nI (sm (L.drop (k + 1))) → gM c 12 μ μ' → Q (some (nI (sm (L.drop (k + 1))))) μ') : ab_Cl (d + 2) 103 [.ref 65, .int (nI c), .int (nI k)] μ Q := by
  have hn := hL.2.1
  refine n103 fun J run => run 30 _ _ _ _ ?_
  simp only [e103_0, e103_1, e103_2, e103_3, e103_6, e103_7, e103_8, e103_11, e103_12, e103_13, e103_14, e103_15, e103_16, e103_17i, e103_17r, e103_18, e103_21, e103_22, e103_23, e103_26, e103_27, ab_li2, true_or, or_true, true_and, and_true, ab_pus, ab_pun, ab_len0, ab_len1, ab_len2, ab_len3, ab_len4, Nat.zero_add]
  refine C94 hc hL (by omega) ?_
  simp (disch := omega) only [e103_0, e103_1, e103_2, e103_3, e103_6, e103_7, e103_8, e103_11, e103_12, e103_13, e103_14, e103_15, e103_16, e103_17i, e103_17r, e103_18, e103_21, e103_22, e103_23, e103_26, e103_27, ab_li2, true_or, or_true, true_and, and_true, ab_pus, ab_pun, ab_len0, ab_len1, ab_len2, ab_len3, ab_len4, Nat.zero_add, q_in, q_cl, q_p1, ab_ud]
  refine h _ (rQ_to (rQ_u (rQ_n (rQ_of hL) (v := k + 1) (by omega))) (by rw [List.length_take]; omega) (fun i hi => kd_take hi) (fun i hi => ms_take hi) (fun i hi => ag_take hi)) ?_ (gM_u (gM_f gM_rf (fM_un fM_rf)))
  rw [ab_up_eq]
end MDE
