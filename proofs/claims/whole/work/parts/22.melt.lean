def chF (cold : Bool) (x : ly) : ly := (if (if x.1 = 0 ∧ 3 ≤ x.2.2 then (if cold = true ∧ x.2.1 < 300 then 2 else 1) else x.1) = 2 ∧ 20 ≤ x.2.2 then 1 else (if x.1 = 0 ∧ 3 ≤ x.2.2 then (if cold = true ∧ x.2.1 < 300 then 2 else 1) else x.1), x.2.1, x.2.2)
def chg (cold : Bool) (L : List ly) : List ly := L.map (chF cold)
def mlN (L : List ly) : Nat → Nat → Nat × Nat
  | 0, w => (0, w)
  | r + 1, w => if ms L r ≤ w then mlN L r (w - ms L r) else (r + 1, w)
def mlt (w : Nat) (L : List ly) : List ly := if (mlN L L.length w).1 = 0 then [] else (L.take (mlN L L.length w).1).set ((mlN L L.length w).1 - 1) (3, ms L ((mlN L L.length w).1 - 1) - (mlN L L.length w).2, ag L ((mlN L L.length w).1 - 1))
def mlA (w : Nat) (L : List ly) : Nat := if (mlN L L.length w).1 = 0 then w - (mlN L L.length w).2 else w
section SLG
variable {d c : Nat} {μ : ab_M} {Q : ab_Q} {L : List ly}
theorem C25 (hc : c < 12) (hL : rC μ c L) (ho : okL L) {g : Int32} (h : ∀ μ', rC μ' c (chg (decide (g ≤ -8)) L) → fC c μ μ' → Q none μ') : ab_Cl (d + 1) 25 [.ref (17 + 4 * c), .int g] μ Q := by
  have hn := hL.2.1
  generalize hcold : decide (g ≤ -8) = cold at h
  have hg : (-8 < g) ↔ cold = false := by
    rw [← hcold, decide_eq_false_iff_not]
    simp only [Int32.lt_iff_toInt_lt, Int32.le_iff_toInt_le]
    omega
  have o20 := ho.2
  refine n25 fun J run => ?_
  have fin : ∀ ν, rP ν c L.length (fun k => if k < L.length then (chF cold (kd L k, ms L k, ag L k)).1 else kd L k) (ms L) (ag L) → fC c μ ν → Q none ν := by
    intro ν h3 h4
    refine h ν (rP_to h3 (by simp [chg]) (fun k hk => ?_) (fun k hk => ?_) (fun k hk => ?_)) h4
    · rw [chg, kd_map hk, if_pos hk]
    · rw [chg, ms_map hk, chF]
    · rw [chg, ag_map hk, chF]
  have loop : ∀ f i ν x, L.length - i ≤ f → i ≤ L.length → rP ν c L.length (fun k => if k < i then (chF cold (kd L k, ms L k, ag L k)).1 else kd L k) (ms L) (ag L) → fC c μ ν → J 2 ν [.ref (17 + 4 * c), .int g, .int (nI i), x] [] := by
    intro f
    induction f with
    | zero =>
      intro i ν x h1 h2 h3 h4
      obtain rfl : i = L.length := by omega
      refine run 10 _ _ _ _ ?_
      simp (disch := omega) only [e25_0, e25_1, e25_2, e25_3, e25_4, e25_7, e25_10, e25_11, e25_14, e25_15, e25_16, e25_19, e25_20, e25_23, e25_24, e25_25, e25_26, e25_29, e25_30, e25_32, e25_35, e25_36, e25_39, e25_40, e25_41, e25_44, e25_47, e25_48, e25_51, e25_52, e25_53, e25_54, e25_57, e25_58, e25_59, e25_62, e25_63, e25_66, e25_67, e25_68, e25_69, e25_72, e25_73, e25_74, e25_75, e25_78, e25_79, e25_82, e25_83, e25_84, e25_86, e25_89, e25_90, e25_93, e25_94, e25_95, e25_96, e25_99, e25_102, ab_sl hc, true_or, or_true, true_and, and_true, ab_pus, ab_pun, ab_len0, ab_len1, ab_len2, ab_len3, ab_len4, Nat.zero_add, h3.1, q_le, Nat.le_refl, true_imp_iff, not_true_eq_false, false_imp_iff]
      exact fin ν h3 h4
    | succ f ih =>
      intro i ν x h1 h2 h3 h4
      by_cases hi : i = L.length
      · subst hi
        refine run 10 _ _ _ _ ?_
        simp (disch := omega) only [e25_0, e25_1, e25_2, e25_3, e25_4, e25_7, e25_10, e25_11, e25_14, e25_15, e25_16, e25_19, e25_20, e25_23, e25_24, e25_25, e25_26, e25_29, e25_30, e25_32, e25_35, e25_36, e25_39, e25_40, e25_41, e25_44, e25_47, e25_48, e25_51, e25_52, e25_53, e25_54, e25_57, e25_58, e25_59, e25_62, e25_63, e25_66, e25_67, e25_68, e25_69, e25_72, e25_73, e25_74, e25_75, e25_78, e25_79, e25_82, e25_83, e25_84, e25_86, e25_89, e25_90, e25_93, e25_94, e25_95, e25_96, e25_99, e25_102, ab_sl hc, true_or, or_true, true_and, and_true, ab_pus, ab_pun, ab_len0, ab_len1, ab_len2, ab_len3, ab_len4, Nat.zero_add, h3.1, q_le, Nat.le_refl, true_imp_iff, not_true_eq_false, false_imp_iff]
        exact fin ν h3 h4
      · have hi2 : i < L.length := by omega
        obtain ⟨o1, o2, o3⟩ := ho.1 i hi2
        have o4 := ms_le hi2
        have nxt : ∀ (ρ : ab_M) (K : Nat → Nat) (x : Value), rP ρ c L.length K (ms L) (ag L) → fC c μ ρ → K i = (chF cold (kd L i, ms L i, ag L i)).1 → (∀ k, k ≠ i → K k = if k < i then (chF cold (kd L k, ms L k, ag L k)).1 else kd L k) → J 2 ρ [.ref (17 + 4 * c), .int g, .int (nI (i + 1)), x] [] := by
          intro ρ K x g1 g2 g3 g4
          refine ih (i + 1) ρ x (by omega) (by omega) (rP_c g1 (fun k hk => ?_) (fun _ _ => rfl) (fun _ _ => rfl)) g2
          by_cases e : k = i
          · subst e; rw [g3, if_pos (by omega)]
          · rw [g4 k e]
            by_cases e2 : k < i
            · rw [if_pos e2, if_pos (by omega)]
            · rw [if_neg e2, if_neg (by omega)]
        have hk : ν 18 (10 * c + i) = nI (kd L i) := by
          have := h3.2.2.1 i hi2
          simp only [Nat.lt_irrefl, if_false] at this
          exact this
        have ka : ∀ a b : Int32, ab_up ν 18 (10 * c + i) a 18 (10 * c + i) = a := fun a b => ab_up_eq
        have nx0 : (chF cold (kd L i, ms L i, ag L i)).1 = kd L i → ∀ x, J 2 ν [.ref (17 + 4 * c), .int g, .int (nI (i + 1)), x] [] := fun e x => nxt ν _ x h3 h4 (by rw [if_neg (by omega), e]) (fun k hk => rfl)
        have nx1 : ∀ v, (chF cold (kd L i, ms L i, ag L i)).1 = v → ∀ x, J 2 (ab_up ν 18 (10 * c + i) (nI v)) [.ref (17 + 4 * c), .int g, .int (nI (i + 1)), x] [] := fun v e x => nxt _ _ x (rP_k h3) (fC_up h4 (by decide) (by decide) (by omega)) (by rw [if_pos rfl, e]) (fun k hk => by rw [if_neg hk])
        have nx2 : ∀ u v, (chF cold (kd L i, ms L i, ag L i)).1 = v → ∀ x, J 2 (ab_up (ab_up ν 18 (10 * c + i) (nI u)) 18 (10 * c + i) (nI v)) [.ref (17 + 4 * c), .int g, .int (nI (i + 1)), x] [] := fun u v e x => nxt _ _ x (rP_k (rP_k h3)) (fC_up (fC_up h4 (by decide) (by decide) (by omega)) (by decide) (by decide) (by omega)) (by rw [if_pos rfl, e]) (fun k hk => by rw [if_neg hk, if_neg hk])
        refine run 80 _ _ _ _ ?_
        have e12 : ¬ nI 1 = nI 2 := by decide
        have e10 : ¬ (nI 1 = 0) := by decide
        simp (disch := omega) only [e25_0, e25_1, e25_2, e25_3, e25_4, e25_7, e25_10, e25_11, e25_14, e25_15, e25_16, e25_19, e25_20, e25_23, e25_24, e25_25, e25_26, e25_29, e25_30, e25_32, e25_35, e25_36, e25_39, e25_40, e25_41, e25_44, e25_47, e25_48, e25_51, e25_52, e25_53, e25_54, e25_57, e25_58, e25_59, e25_62, e25_63, e25_66, e25_67, e25_68, e25_69, e25_72, e25_73, e25_74, e25_75, e25_78, e25_79, e25_82, e25_83, e25_84, e25_86, e25_89, e25_90, e25_93, e25_94, e25_95, e25_96, e25_99, e25_102, ab_sl hc, true_or, or_true, true_and, and_true, ab_pus, ab_pun, ab_len0, ab_len1, ab_len2, ab_len3, ab_len4, Nat.zero_add, h3.1, q_le, q_in, q_cl, hk, h3.2.2.2.1 i hi2, h3.2.2.2.2 i hi2, ab_ud, ab_up_eq, l1, l2, l3, l20, l300, q_eq0, q_eq, q_lt, q_ad, e12, e10, hg, not_true_eq_false, false_imp_iff, not_false_eq_true, true_imp_iff, Classical.not_not]
        simp only [chF] at nx0 nx1 nx2
        generalize kd L i = K at *
        generalize ms L i = Mm at *
        generalize ag L i = Aa at *
        refine ⟨fun z => absurd z (by omega), fun _ => ?_⟩
        repeat' (first | apply And.intro | intro _)
        all_goals first
          | exact nx0 (by (repeat' split) <;> simp_all <;> omega) _
          | exact nx1 _ (by (repeat' split) <;> simp_all <;> omega) _
          | exact nx2 _ _ (by (repeat' split) <;> simp_all <;> omega) _
          | (exfalso; omega)
  refine run 2 _ _ _ _ ?_
  simp only [e25_0, e25_1, e25_2, e25_3, e25_4, e25_7, e25_10, e25_11, e25_14, e25_15, e25_16, e25_19, e25_20, e25_23, e25_24, e25_25, e25_26, e25_29, e25_30, e25_32, e25_35, e25_36, e25_39, e25_40, e25_41, e25_44, e25_47, e25_48, e25_51, e25_52, e25_53, e25_54, e25_57, e25_58, e25_59, e25_62, e25_63, e25_66, e25_67, e25_68, e25_69, e25_72, e25_73, e25_74, e25_75, e25_78, e25_79, e25_82, e25_83, e25_84, e25_86, e25_89, e25_90, e25_93, e25_94, e25_95, e25_96, e25_99, e25_102, ab_sl hc, true_or, or_true, true_and, and_true, ab_pus, ab_pun, ab_len0, ab_len1, ab_len2, ab_len3, ab_len4, Nat.zero_add, ab_rn0]
  exact loop _ 0 μ _ (Nat.le_refl _) (Nat.zero_le _) (rP_c (rP_of hL) (fun k hk => by simp) (fun _ _ => rfl) (fun _ _ => rfl)) fC_rf
theorem C26z (hc : c < 12) {g : Int32} (hg : ¬ 0 < g) (h : Q (some 0) μ) : ab_Cl (d + 1) 26 [.ref (17 + 4 * c), .int g] μ Q := by
  refine n26 fun J run => run 10 _ _ _ _ ?_
  simp only [e26_0, e26_1, e26_4, e26_5, e26_6, e26_8, e26_9, e26_10, e26_11, e26_12, e26_13, e26_14, e26_17, e26_20, e26_21, e26_22, e26_25, e26_26, e26_29, e26_30, e26_31, e26_32, e26_35, e26_36, e26_37, e26_40, e26_41, e26_44, e26_45, e26_46, e26_47, e26_48, e26_49, e26_50i, e26_50r, e26_51, e26_54, e26_55, e26_56, e26_59, e26_62, e26_63, e26_66, e26_69, e26_70, e26_71, e26_72, e26_73, e26_74, e26_77, e26_78, e26_81, e26_82, e26_83, e26_84, e26_85, e26_86, e26_87, e26_88, e26_89, e26_92, e26_93, e26_96, e26_97, e26_98, e26_99, e26_100, e26_101, ab_sl hc, true_or, or_true, true_and, and_true, ab_pus, ab_pun, ab_len0, ab_len1, ab_len2, ab_len3, ab_len4, Nat.zero_add, hg, false_imp_iff, not_false_eq_true, true_imp_iff]
  exact h
theorem C26 (hc : c < 12) (hL : rC μ c L) (ho : okL L) {g : Nat} (hg0 : 0 < g) (hg : g ≤ 10) (h : ∀ μ', rC μ' c (mlt (6 * g) L) → fC c μ μ' → Q (some (nI (mlA (6 * g) L))) μ') : ab_Cl (d + 1) 26 [.ref (17 + 4 * c), .int (nI g)] μ Q := by
  have hn := hL.2.1
  have o20 := ho.2
  refine n26 fun J run => ?_
  have loop : ∀ r v ν, r ≤ L.length → v ≤ 6 * g → mlN L r v = mlN L L.length (6 * g) → rP ν c r (kd L) (ms L) (ag L) → fC c μ ν → J 13 ν [.ref (17 + 4 * c), .int (nI g), .int (nI (6 * g)), .int (nI v)] [] := by
    intro r
    induction r with
    | zero =>
      intro v ν h1 h2 h3 h4 h5
      refine run 40 _ _ _ _ ?_
      have hz : mlN L L.length (6 * g) = (0, v) := by rw [← h3]; rfl
      simp (disch := omega) only [e26_0, e26_1, e26_4, e26_5, e26_6, e26_8, e26_9, e26_10, e26_11, e26_12, e26_13, e26_14, e26_17, e26_20, e26_21, e26_22, e26_25, e26_26, e26_29, e26_30, e26_31, e26_32, e26_35, e26_36, e26_37, e26_40, e26_41, e26_44, e26_45, e26_46, e26_47, e26_48, e26_49, e26_50i, e26_50r, e26_51, e26_54, e26_55, e26_56, e26_59, e26_62, e26_63, e26_66, e26_69, e26_70, e26_71, e26_72, e26_73, e26_74, e26_77, e26_78, e26_81, e26_82, e26_83, e26_84, e26_85, e26_86, e26_87, e26_88, e26_89, e26_92, e26_93, e26_96, e26_97, e26_98, e26_99, e26_100, e26_101, ab_sl hc, true_or, or_true, true_and, and_true, ab_pus, ab_pun, ab_len0, ab_len1, ab_len2, ab_len3, ab_len4, Nat.zero_add, h4.1, q_le0, q_eq0, not_true_eq_false, false_imp_iff, not_false_eq_true, true_imp_iff, q_su]
      unfold mlt mlA at h
      rw [hz] at h
      exact h ν (rP_to h4 rfl (fun i hi => absurd hi (by omega)) (fun i hi => absurd hi (by omega)) (fun i hi => absurd hi (by omega))) h5
    | succ r ih =>
      intro v ν h1 h2 h3 h4 h5
      have hr : r < L.length := by omega
      obtain ⟨o1, o2, o3⟩ := ho.1 r hr
      have o4 := ms_le hr
      have e0 : ¬ r + 1 = 0 := by omega
      refine run 60 _ _ _ _ ?_
      have hm1 : ∀ i : Nat, i + 1 - 1 = i := fun i => rfl
      simp (disch := omega) only [e26_0, e26_1, e26_4, e26_5, e26_6, e26_8, e26_9, e26_10, e26_11, e26_12, e26_13, e26_14, e26_17, e26_20, e26_21, e26_22, e26_25, e26_26, e26_29, e26_30, e26_31, e26_32, e26_35, e26_36, e26_37, e26_40, e26_41, e26_44, e26_45, e26_46, e26_47, e26_48, e26_49, e26_50i, e26_50r, e26_51, e26_54, e26_55, e26_56, e26_59, e26_62, e26_63, e26_66, e26_69, e26_70, e26_71, e26_72, e26_73, e26_74, e26_77, e26_78, e26_81, e26_82, e26_83, e26_84, e26_85, e26_86, e26_87, e26_88, e26_89, e26_92, e26_93, e26_96, e26_97, e26_98, e26_99, e26_100, e26_101, ab_sl hc, true_or, or_true, true_and, and_true, ab_pus, ab_pun, ab_len0, ab_len1, ab_len2, ab_len3, ab_len4, Nat.zero_add, h4.1, q_le0, q_eq0, e0, q_m1, hm1, q_in, q_cl, h4.2.2.2.1 r (by omega), q_lt, not_true_eq_false, false_imp_iff, not_false_eq_true, true_imp_iff, ab_ud]
      have hu : mlN L (r + 1) v = if ms L r ≤ v then mlN L r (v - ms L r) else (r + 1, v) := rfl
      refine ⟨fun g1 => ?_, fun g1 => ?_⟩
      · rw [hu, if_neg (by omega)] at h3
        unfold mlt mlA at h
        rw [← h3] at h
        simp (disch := omega) only [q_su]
        dsimp only at h
        rw [if_neg (by omega), if_neg (by omega)] at h
        simp only [hm1] at h
        have hlen : (L.take (r + 1)).length = r + 1 := by rw [List.length_take]; omega
        refine h _ (rP_to (rP_k (v := 3) (rP_m h4)) ?_ (fun i hi => ?_) (fun i hi => ?_) (fun i hi => ?_)) (fC_up (fC_up h5 (by decide) (by decide) (by omega)) (by decide) (by decide) (by omega))
        · rw [List.length_set, hlen]
        · rw [kd_set (by omega)]
          simp only [hm1]
          split
          · rfl
          · rw [kd_take hi]
        · rw [ms_set (by omega)]
          simp only [hm1]
          split
          · rfl
          · rw [ms_take hi]
        · rw [ag_set (by omega)]
          simp only [hm1]
          split
          · next e => rw [e]
          · rw [ag_take hi]
      · rw [hu, if_pos (by omega)] at h3
        simp (disch := omega) only [q_su]
        exact ih (v - ms L r) _ (by omega) (by omega) h3 (rP_n h4 (by omega)) (fC_up h5 (by decide) (by decide) (by decide))
  refine run 8 _ _ _ _ ?_
  simp (disch := omega) only [e26_0, e26_1, e26_4, e26_5, e26_6, e26_8, e26_9, e26_10, e26_11, e26_12, e26_13, e26_14, e26_17, e26_20, e26_21, e26_22, e26_25, e26_26, e26_29, e26_30, e26_31, e26_32, e26_35, e26_36, e26_37, e26_40, e26_41, e26_44, e26_45, e26_46, e26_47, e26_48, e26_49, e26_50i, e26_50r, e26_51, e26_54, e26_55, e26_56, e26_59, e26_62, e26_63, e26_66, e26_69, e26_70, e26_71, e26_72, e26_73, e26_74, e26_77, e26_78, e26_81, e26_82, e26_83, e26_84, e26_85, e26_86, e26_87, e26_88, e26_89, e26_92, e26_93, e26_96, e26_97, e26_98, e26_99, e26_100, e26_101, ab_sl hc, true_or, or_true, true_and, and_true, ab_pus, ab_pun, ab_len0, ab_len1, ab_len2, ab_len3, ab_len4, Nat.zero_add, ab_rn0, q_gt0, l6, q_mu]
  exact ⟨fun _ => loop _ _ μ (Nat.le_refl _) (Nat.le_refl _) rfl (rP_of hL) fC_rf, fun z => absurd hg0 z⟩
end SLG
