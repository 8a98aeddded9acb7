def Iv (L : List ly) (i : Nat) : Option Nat := ixo (brg (kd L i) (ag L i)) (sm (L.drop (i + 1)))
theorem Iv_0 (x : ly) (t : List ly) : Iv (x :: t) 0 = ixo (brg x.1 x.2.2) (sm t) := by simp [Iv, kd, ag]
theorem Iv_s (x : ly) (t : List ly) (i : Nat) : Iv (x :: t) (i + 1) = Iv t i := by simp [Iv, kd, ag]
def Pw (L : List ly) (k : Nat) (b : Option Nat) : Prop := match b with
  | none => ∀ j, j < k → Iv L j = none
  | some i => i < k ∧ ∃ u, Iv L i = some u ∧ ∀ j, j < k → ∀ w, Iv L j = some w → u ≤ w ∧ (w = u → j ≤ i)
theorem Pw_one {L : List ly} {k : Nat} {a b : Option Nat} (ha : Pw L k a) (hb : Pw L k b) : a = b := by
  cases a with
  | none =>
    cases b with
    | none => rfl
    | some i =>
      obtain ⟨h1, u, h2, -⟩ := hb
      rw [ha i h1] at h2
      cases h2
  | some i =>
    obtain ⟨h1, u, h2, h3⟩ := ha
    cases b with
    | none =>
      rw [hb i h1] at h2
      cases h2
    | some j =>
      obtain ⟨g1, w, g2, g3⟩ := hb
      have a1 := h3 j g1 w g2
      have a2 := g3 i h1 u h2
      have : u = w := by omega
      have h5 := a1.2 this.symm
      have h6 := a2.2 this
      congr 1
      omega
theorem whyL_P : ∀ L : List ly, Pw L L.length ((whyL L).map (fun q => q.1)) ∧ ∀ q, whyL L = some q → Iv L q.1 = some q.2
  | [] => ⟨fun j hj => absurd hj (by simp), fun q h => by cases h⟩
  | x :: t => by
    obtain ⟨ih1, ih2⟩ := whyL_P t
    unfold whyL
    cases hx : ixo (brg x.1 x.2.2) (sm t) with
    | none =>
      cases hw : whyL t with
      | none =>
        rw [hw] at ih1
        refine ⟨fun j hj => ?_, fun q h => by cases h⟩
        cases j with
        | zero => rw [Iv_0, hx]
        | succ j => rw [Iv_s]; exact ih1 j (by simpa using hj)
      | some r =>
        rw [hw] at ih1
        obtain ⟨h1, u, h2, h3⟩ := ih1
        have hr := ih2 r hw
        refine ⟨⟨by simpa using h1, u, by rw [Iv_s]; exact h2, fun j hj w hj2 => ?_⟩, fun q h => ?_⟩
        · cases j with
          | zero => rw [Iv_0, hx] at hj2; cases hj2
          | succ j =>
            rw [Iv_s] at hj2
            have := h3 j (by simpa using hj) w hj2
            exact ⟨this.1, fun e => by have := this.2 e; dsimp only at this ⊢; omega⟩
        · cases h
          rw [Iv_s]
          exact hr
    | some v =>
      cases hw : whyL t with
      | none =>
        rw [hw] at ih1
        refine ⟨⟨by simp, v, by rw [Iv_0, hx], fun j hj w hj2 => ?_⟩, fun q h => by cases h; rw [Iv_0, hx]⟩
        cases j with
        | zero => rw [Iv_0, hx] at hj2; cases hj2; exact ⟨Nat.le_refl _, fun _ => Nat.le_refl _⟩
        | succ j =>
          rw [Iv_s, ih1 j (by simpa using hj)] at hj2
          cases hj2
      | some r =>
        rw [hw] at ih1
        obtain ⟨h1, u, h2, h3⟩ := ih1
        have hr := ih2 r hw
        have hu : u = r.2 := by rw [hr] at h2; cases h2; rfl
        dsimp only
        by_cases hv : v < r.2
        · rw [if_pos hv]
          refine ⟨⟨by simp, v, by rw [Iv_0, hx], fun j hj w hj2 => ?_⟩, fun q h => by cases h; rw [Iv_0, hx]⟩
          cases j with
          | zero => rw [Iv_0, hx] at hj2; cases hj2; exact ⟨Nat.le_refl _, fun _ => Nat.le_refl _⟩
          | succ j =>
            rw [Iv_s] at hj2
            have := h3 j (by simpa using hj) w hj2
            exact ⟨by omega, fun e => by omega⟩
        · rw [if_neg hv]
          refine ⟨⟨by simpa using h1, u, by rw [Iv_s]; exact h2, fun j hj w hj2 => ?_⟩, fun q h => ?_⟩
          · cases j with
            | zero => rw [Iv_0, hx] at hj2; cases hj2; exact ⟨by omega, fun e => by omega⟩
            | succ j =>
              rw [Iv_s] at hj2
              have := h3 j (by simpa using hj) w hj2
              exact ⟨this.1, fun e => by have := this.2 e; dsimp only at this ⊢; omega⟩
          · cases h
            rw [Iv_s]
            exact hr
def bI (b : Option Nat) : Int32 := match b with
  | none => -1
  | some i => nI i
theorem wI_b (o : Option (Nat × Nat)) : wI o 0 = bI (o.map (fun q => q.1)) := by cases o <;> simp [wI, bI]
section MDA
variable {d c : Nat} {μ : ab_M} {Q : ab_Q} {L : List ly}
theorem C79 {v a b : Int32} (h : Q (some (if v < a then 0 else if b < v then 0 else 1)) μ) : ab_Cl (d + 1) 79 [.int v, .int a, .int b] μ Q := by
  refine n79 fun J run => run 20 _ _ _ _ ?_
  simp only [e79_0, e79_1, e79_2, e79_5, e79_6, e79_7, e79_10, e79_11, e79_14, e79_15, true_or, or_true, true_and, and_true, ab_pus, ab_pun, ab_len0, ab_len1, ab_len2, ab_len3, ab_len4, Nat.zero_add]
  refine ⟨fun h1 => ?_, fun h1 => ⟨fun h2 => ?_, fun h2 => ?_⟩⟩ <;> simp_all
theorem C80 {v : Int32} (h : Q (some (if v < 0 then 0 else if 11 < v then 0 else 1)) μ) : ab_Cl (d + 2) 80 [.int v] μ Q := by
  refine n80 fun J run => run 20 _ _ _ _ ?_
  simp only [e80_0, e80_1, e80_2, e80_4, e80_7, true_or, or_true, true_and, and_true, ab_pus, ab_pun, ab_len0, ab_len1, ab_len2, ab_len3, ab_len4, Nat.zero_add]
  refine C79 ?_
  simp only [e80_0, e80_1, e80_2, e80_4, e80_7, true_or, or_true, true_and, and_true, ab_pus, ab_pun, ab_len0, ab_len1, ab_len2, ab_len3, ab_len4, Nat.zero_add]
  refine ⟨?_, h⟩
  split
  · exact Or.inl rfl
  · split
    · exact Or.inl rfl
    · exact Or.inr rfl
theorem C94 (hc : c < 12) (hL : rM μ c L) {k : Nat} (hk : k < 10) (h : Q (some (nI (sm (L.drop (k + 1))))) μ) : ab_Cl (d + 1) 94 [.ref 65, .int (nI c), .int (nI k)] μ Q := by
  have hn := hL.2.1
  refine n94 fun J run => ?_
  have loop : ∀ f i s, L.length - i ≤ f → i ≤ 11 → Q (some (nI (s + sm (L.drop i)))) μ → J 7 μ [.ref 65, .int (nI c), .int (nI k), .int (nI s), .int (nI i)] [] := by
    intro f
    induction f with
    | zero =>
      intro i s h1 h2 h3
      refine run 40 _ _ _ _ ?_
      rw [List.drop_eq_nil_of_le (by omega)] at h3
      simp (disch := omega) only [e94_0, e94_1, e94_2, e94_3, e94_4, e94_5, e94_7, e94_9, e94_10, e94_13, e94_14, e94_15, e94_18, e94_19, e94_20, e94_23, e94_25, e94_26, e94_27, e94_29, e94_30, e94_31, e94_32, e94_33, e94_36, e94_39, e94_40, ab_li2, true_or, or_true, true_and, and_true, ab_pus, ab_pun, ab_len0, ab_len1, ab_len2, ab_len3, ab_len4, Nat.zero_add, q_in, q_cl, hL.1, q_le]
      exact ⟨fun _ => h3, fun z => absurd (by omega) z⟩
    | succ f ih =>
      intro i s h1 h2 h3
      refine run 40 _ _ _ _ ?_
      simp (disch := omega) only [e94_0, e94_1, e94_2, e94_3, e94_4, e94_5, e94_7, e94_9, e94_10, e94_13, e94_14, e94_15, e94_18, e94_19, e94_20, e94_23, e94_25, e94_26, e94_27, e94_29, e94_30, e94_31, e94_32, e94_33, e94_36, e94_39, e94_40, ab_li2, true_or, or_true, true_and, and_true, ab_pus, ab_pun, ab_len0, ab_len1, ab_len2, ab_len3, ab_len4, Nat.zero_add, q_in, q_cl, hL.1, q_le, l10, q_mu, q_ad]
      refine ⟨fun z => ?_, fun z => ?_⟩
      · rw [List.drop_eq_nil_of_le (by omega)] at h3
        exact h3
      · simp (disch := omega) only [q_in, q_cl, true_and, hL.2.2.2.1 i (by omega), q_ad, q_p1]
        refine ih (i + 1) _ (by omega) (by omega) ?_
        have := sm_td (L := L) (e := L.length) (i := i) (by omega) (Nat.le_refl _)
        rw [List.take_length] at this
        rw [this] at h3
        rw [Nat.add_assoc]
        exact h3
  refine run 6 _ _ _ _ ?_
  simp only [e94_0, e94_1, e94_2, e94_3, e94_4, e94_5, e94_7, e94_9, e94_10, e94_13, e94_14, e94_15, e94_18, e94_19, e94_20, e94_23, e94_25, e94_26, e94_27, e94_29, e94_30, e94_31, e94_32, e94_33, e94_36, e94_39, e94_40, ab_li2, true_or, or_true, true_and, and_true, ab_pus, ab_pun, ab_len0, ab_len1, ab_len2, ab_len3, ab_len4, Nat.zero_add, ab_rn0, q_p1]
  exact loop _ (k + 1) 0 (Nat.le_refl _) (by omega) (by rw [Nat.zero_add]; exact h)
theorem C95 (hc : c < 12) (hL : rM μ c L) (ho : okL L) {k : Nat} (hk : k < L.length) (h : Q (some (oi (Iv L k))) μ) : ab_Cl (d + 2) 95 [.ref 65, .int (nI c), .int (nI k)] μ Q := by
  have hn := hL.2.1
  obtain ⟨o1, o2, o3⟩ := ho.1 k hk
  have hs : sm (L.drop (k + 1)) ≤ 9600000 := Nat.le_trans (sm_drop_le _ _) ho.2
  refine n95 fun J run => run 80 _ _ _ _ ?_
  simp only [e95_0, e95_1, e95_2, e95_3, e95_6, e95_7, e95_8, e95_11, e95_12, e95_13, e95_15, e95_16, e95_17, e95_18, e95_19, e95_21, e95_22, e95_25, e95_27, e95_28, e95_31, e95_34, e95_37, e95_38, e95_41, e95_43, e95_44, e95_45, e95_48, e95_51, e95_54, e95_55, e95_58, e95_60, e95_61, e95_62, e95_65, e95_68, e95_70, e95_71, e95_74, e95_76, e95_77, e95_78, e95_79, e95_82, e95_85, e95_87, e95_89, e95_91, e95_92, e95_93, e95_94, e95_96, e95_98, e95_101, e95_104, e95_107, e95_110, e95_112, ab_li2, true_or, or_true, true_and, and_true, ab_pus, ab_pun, ab_len0, ab_len1, ab_len2, ab_len3, ab_len4, Nat.zero_add]
  refine C94 hc hL (by omega) ?_
  unfold Iv at h
  generalize sm (L.drop (k + 1)) = s at *
  by_cases hs0 : s = 0
  · subst hs0
    have z0 : nI 0 = 0 := rfl
    simp only [e95_0, e95_1, e95_2, e95_3, e95_6, e95_7, e95_8, e95_11, e95_12, e95_13, e95_15, e95_16, e95_17, e95_18, e95_19, e95_21, e95_22, e95_25, e95_27, e95_28, e95_31, e95_34, e95_37, e95_38, e95_41, e95_43, e95_44, e95_45, e95_48, e95_51, e95_54, e95_55, e95_58, e95_60, e95_61, e95_62, e95_65, e95_68, e95_70, e95_71, e95_74, e95_76, e95_77, e95_78, e95_79, e95_82, e95_85, e95_87, e95_89, e95_91, e95_92, e95_93, e95_94, e95_96, e95_98, e95_101, e95_104, e95_107, e95_110, e95_112, ab_li2, true_or, or_true, true_and, and_true, ab_pus, ab_pun, ab_len0, ab_len1, ab_len2, ab_len3, ab_len4, Nat.zero_add, z0, not_true_eq_false, false_imp_iff, not_false_eq_true, true_imp_iff]
    exact h
  · have hb := brg_le (k := kd L k) (a := ag L k) o3
    have e1 : ixo (brg (kd L k) (ag L k)) s = some (min (100 * brg (kd L k) (ag L k) / s) 999) := by unfold ixo; rw [if_neg hs0]
    rw [e1] at h
    simp (disch := omega) only [e95_0, e95_1, e95_2, e95_3, e95_6, e95_7, e95_8, e95_11, e95_12, e95_13, e95_15, e95_16, e95_17, e95_18, e95_19, e95_21, e95_22, e95_25, e95_27, e95_28, e95_31, e95_34, e95_37, e95_38, e95_41, e95_43, e95_44, e95_45, e95_48, e95_51, e95_54, e95_55, e95_58, e95_60, e95_61, e95_62, e95_65, e95_68, e95_70, e95_71, e95_74, e95_76, e95_77, e95_78, e95_79, e95_82, e95_85, e95_87, e95_89, e95_91, e95_92, e95_93, e95_94, e95_96, e95_98, e95_101, e95_104, e95_107, e95_110, e95_112, ab_li2, true_or, or_true, true_and, and_true, ab_pus, ab_pun, ab_len0, ab_len1, ab_len2, ab_len3, ab_len4, Nat.zero_add, q_eq0, hs0, q_in, q_cl, l10, q_mu, q_ad, hL.2.2.1 k hk, hL.2.2.2.2 k hk, l1, l2, q_eq, l400, l900, l250, l15, l3000, l100, l999, q_su, not_true_eq_false, false_imp_iff, not_false_eq_true, true_imp_iff, Classical.not_not]
    have key : ∀ b, b = brg (kd L k) (ag L k) → (nI (100 * b) / nI s ≤ nI 999 → Q (some (nI (100 * b) / nI s)) μ) ∧ (¬ nI (100 * b) / nI s ≤ nI 999 → Q (some (nI 999)) μ) := by
      intro b hb2
      have hd : 100 * b / s ≤ 100 * b := Nat.div_le_self _ _
      simp (disch := omega) only [q_dv, q_le]
      subst hb2
      refine ⟨fun q => ?_, fun q => ?_⟩
      · rw [Nat.min_eq_left (by omega)] at h
        exact h
      · rw [Nat.min_eq_right (by omega)] at h
        exact h
    refine ⟨fun g1 => ⟨fun g2 => ⟨fun g3 => ?_, fun g3 => ?_⟩, fun g2 => ?_⟩, fun g1 => ?_⟩
    · exact key 3000 (by unfold brg; rw [if_neg g1, if_neg g2, if_neg g3])
    · exact key (250 + 15 * ag L k) (by unfold brg; rw [if_neg g1, if_neg g2, if_pos g3])
    · exact key 900 (by unfold brg; rw [if_neg g1, if_pos g2])
    · exact key 400 (by unfold brg; rw [if_pos g1])
theorem C97 (hc : c < 12) (hL : rM μ c L) (ho : okL L) (h : Q (some (wI (whyL L) 0)) μ) : ab_Cl (d + 3) 97 [.ref 65, .int (nI c)] μ Q := by
  have hn := hL.2.1
  refine n97 fun J run => ?_
  have loop : ∀ f k b, L.length - k ≤ f → k ≤ L.length → Pw L k b → J 4 μ [.ref 65, .int (nI c), .int (bI b), .int (nI k)] [] := by
    intro f
    induction f with
    | zero =>
      intro k b h1 h2 h3
      obtain rfl : k = L.length := by omega
      refine run 20 _ _ _ _ ?_
      simp (disch := omega) only [e97_0, e97_1, e97_2, e97_3, e97_4, e97_5, e97_6, e97_9, e97_10, e97_11, e97_14, e97_15, e97_16, e97_17, e97_20, e97_21, e97_24, e97_25, e97_26, e97_29, e97_30, e97_31, e97_32, e97_35, e97_36, e97_37, e97_38, e97_41, e97_44, e97_45, e97_46, e97_49, e97_52, e97_53, ab_li2, true_or, or_true, true_and, and_true, ab_pus, ab_pun, ab_len0, ab_len1, ab_len2, ab_len3, ab_len4, Nat.zero_add, q_in, q_cl, hL.1, q_le, Nat.le_refl, true_imp_iff, not_true_eq_false, false_imp_iff]
      rw [wI_b, Pw_one (whyL_P L).1 h3] at h
      exact h
    | succ f ih =>
      intro k b h1 h2 h3
      by_cases hk : k = L.length
      · subst hk
        refine run 20 _ _ _ _ ?_
        simp (disch := omega) only [e97_0, e97_1, e97_2, e97_3, e97_4, e97_5, e97_6, e97_9, e97_10, e97_11, e97_14, e97_15, e97_16, e97_17, e97_20, e97_21, e97_24, e97_25, e97_26, e97_29, e97_30, e97_31, e97_32, e97_35, e97_36, e97_37, e97_38, e97_41, e97_44, e97_45, e97_46, e97_49, e97_52, e97_53, ab_li2, true_or, or_true, true_and, and_true, ab_pus, ab_pun, ab_len0, ab_len1, ab_len2, ab_len3, ab_len4, Nat.zero_add, q_in, q_cl, hL.1, q_le, Nat.le_refl, true_imp_iff, not_true_eq_false, false_imp_iff]
        rw [wI_b, Pw_one (whyL_P L).1 h3] at h
        exact h
      · have hk2 : k < L.length := by omega
        refine run 40 _ _ _ _ ?_
        simp (disch := omega) only [e97_0, e97_1, e97_2, e97_3, e97_4, e97_5, e97_6, e97_9, e97_10, e97_11, e97_14, e97_15, e97_16, e97_17, e97_20, e97_21, e97_24, e97_25, e97_26, e97_29, e97_30, e97_31, e97_32, e97_35, e97_36, e97_37, e97_38, e97_41, e97_44, e97_45, e97_46, e97_49, e97_52, e97_53, ab_li2, true_or, or_true, true_and, and_true, ab_pus, ab_pun, ab_len0, ab_len1, ab_len2, ab_len3, ab_len4, Nat.zero_add, q_in, q_cl, hL.1, q_le]
        refine ⟨fun z => absurd z (by omega), fun _ => ?_⟩
        refine C95 hc hL ho hk2 ?_
        simp only [e97_0, e97_1, e97_2, e97_3, e97_4, e97_5, e97_6, e97_9, e97_10, e97_11, e97_14, e97_15, e97_16, e97_17, e97_20, e97_21, e97_24, e97_25, e97_26, e97_29, e97_30, e97_31, e97_32, e97_35, e97_36, e97_37, e97_38, e97_41, e97_44, e97_45, e97_46, e97_49, e97_52, e97_53, ab_li2, true_or, or_true, true_and, and_true, ab_pus, ab_pun, ab_len0, ab_len1, ab_len2, ab_len3, ab_len4, Nat.zero_add, q_p1]
        cases hi : Iv L k with
        | none =>
          simp only [oi, eq_self, true_imp_iff, not_true_eq_false, false_imp_iff, and_true]
          refine ih (k + 1) b (by omega) (by omega) ?_
          cases b with
          | none =>
            intro j hj
            by_cases e : j = k
            · subst e; exact hi
            · exact h3 j (by omega)
          | some i =>
            obtain ⟨g1, u, g2, g3⟩ := h3
            refine ⟨by omega, u, g2, fun j hj w hw => ?_⟩
            by_cases e : j = k
            · subst e; rw [hi] at hw; cases hw
            · exact g3 j (by omega) w hw
        | some v =>
          have hv := (ixo_some hi).1
          simp (disch := omega) only [oi, q_nm, false_imp_iff, not_false_eq_true, true_imp_iff, true_and]
          cases b with
          | none =>
            simp only [bI, eq_self, true_imp_iff, not_true_eq_false, false_imp_iff, and_true]
            refine ih (k + 1) (some k) (by omega) (by omega) ⟨by omega, v, hi, fun j hj w hw => ?_⟩
            by_cases e : j = k
            · subst e; rw [hi] at hw; cases hw; exact ⟨Nat.le_refl _, fun _ => Nat.le_refl _⟩
            · rw [h3 j (by omega)] at hw; cases hw
          | some i =>
            obtain ⟨g1, u, g2, g3⟩ := h3
            have hu := (ixo_some g2).1
            simp (disch := omega) only [bI, q_nm, false_imp_iff, not_false_eq_true, true_imp_iff, true_and]
            refine C95 hc hL ho hk2 ?_
            simp only [e97_0, e97_1, e97_2, e97_3, e97_4, e97_5, e97_6, e97_9, e97_10, e97_11, e97_14, e97_15, e97_16, e97_17, e97_20, e97_21, e97_24, e97_25, e97_26, e97_29, e97_30, e97_31, e97_32, e97_35, e97_36, e97_37, e97_38, e97_41, e97_44, e97_45, e97_46, e97_49, e97_52, e97_53, ab_li2, true_or, or_true, true_and, and_true, ab_pus, ab_pun, ab_len0, ab_len1, ab_len2, ab_len3, ab_len4, Nat.zero_add]
            refine C95 hc hL ho (by omega) ?_
            rw [hi, g2]
            simp (disch := omega) only [e97_0, e97_1, e97_2, e97_3, e97_4, e97_5, e97_6, e97_9, e97_10, e97_11, e97_14, e97_15, e97_16, e97_17, e97_20, e97_21, e97_24, e97_25, e97_26, e97_29, e97_30, e97_31, e97_32, e97_35, e97_36, e97_37, e97_38, e97_41, e97_44, e97_45, e97_46, e97_49, e97_52, e97_53, ab_li2, true_or, or_true, true_and, and_true, ab_pus, ab_pun, ab_len0, ab_len1, ab_len2, ab_len3, ab_len4, Nat.zero_add, oi, q_lt, q_p1]
            refine ⟨fun z => ?_, fun z => ?_⟩
            · refine ih (k + 1) (some i) (by omega) (by omega) ⟨by omega, u, g2, fun j hj w hw => ?_⟩
              by_cases e : j = k
              · subst e; rw [hi] at hw; cases hw; exact ⟨by omega, fun e => by omega⟩
              · exact g3 j (by omega) w hw
            · refine ih (k + 1) (some k) (by omega) (by omega) ⟨by omega, v, hi, fun j hj w hw => ?_⟩
              by_cases e : j = k
              · subst e; rw [hi] at hw; cases hw; exact ⟨Nat.le_refl _, fun _ => Nat.le_refl _⟩
              · have := g3 j (by omega) w hw
                exact ⟨by omega, fun _ => by omega⟩
  refine run 4 _ _ _ _ ?_
  simp only [e97_0, e97_1, e97_2, e97_3, e97_4, e97_5, e97_6, e97_9, e97_10, e97_11, e97_14, e97_15, e97_16, e97_17, e97_20, e97_21, e97_24, e97_25, e97_26, e97_29, e97_30, e97_31, e97_32, e97_35, e97_36, e97_37, e97_38, e97_41, e97_44, e97_45, e97_46, e97_49, e97_52, e97_53, ab_li2, true_or, or_true, true_and, and_true, ab_pus, ab_pun, ab_len0, ab_len1, ab_len2, ab_len3, ab_len4, Nat.zero_add, ab_rn0]
  exact loop _ 0 none (Nat.le_refl _) (Nat.zero_le _) (fun j hj => absurd hj (by omega))
theorem C98 (hc : c < 12) (hL : rM μ c L) (ho : okL L) (h : Q (some (nI (lk L))) μ) : ab_Cl (d + 4) 98 [.ref 65, .int (nI c)] μ Q := by
  have hn := hL.2.1
  refine n98 fun J run => run 60 _ _ _ _ ?_
  simp only [e98_0, e98_1, e98_2, e98_5, e98_6, e98_7, e98_8, e98_11, e98_14, e98_17, e98_18, e98_19, e98_20, e98_23, e98_24, e98_25, e98_27, e98_30, e98_31, e98_34, e98_35, e98_38, e98_41, e98_42, e98_45, e98_46, e98_49, e98_52, e98_53, e98_56, e98_57, ab_li2, true_or, or_true, true_and, and_true, ab_pus, ab_pun, ab_len0, ab_len1, ab_len2, ab_len3, ab_len4, Nat.zero_add]
  refine C97 hc hL ho ?_
  simp only [e98_0, e98_1, e98_2, e98_5, e98_6, e98_7, e98_8, e98_11, e98_14, e98_17, e98_18, e98_19, e98_20, e98_23, e98_24, e98_25, e98_27, e98_30, e98_31, e98_34, e98_35, e98_38, e98_41, e98_42, e98_45, e98_46, e98_49, e98_52, e98_53, e98_56, e98_57, ab_li2, true_or, or_true, true_and, and_true, ab_pus, ab_pun, ab_len0, ab_len1, ab_len2, ab_len3, ab_len4, Nat.zero_add]
  unfold lk at h
  cases hw : whyL L with
  | none =>
    rw [hw] at h
    have g1 : (100 : Int32) ≤ 999 := by decide
    have g2 : (150 : Int32) ≤ 999 := by decide
    have g3 : (300 : Int32) ≤ 999 := by decide
    simp only [wI, not_true_eq_false, false_imp_iff, not_false_eq_true, true_imp_iff, true_and, and_true, g1, g2, g3]
    exact h
  | some q =>
    rw [hw] at h
    obtain ⟨h1, h2⟩ := whyL_at _ q hw
    have hv := (ixo_some h2).1
    have hwi : wI (some q) 0 = nI q.1 := by simp [wI]
    rw [hwi]
    simp (disch := omega) only [q_nm, not_false_eq_true, true_imp_iff, not_true_eq_false, false_imp_iff, and_true]
    refine C95 hc hL ho h1 ?_
    rw [show Iv L q.1 = some q.2 from h2]
    simp (disch := omega) only [e98_0, e98_1, e98_2, e98_5, e98_6, e98_7, e98_8, e98_11, e98_14, e98_17, e98_18, e98_19, e98_20, e98_23, e98_24, e98_25, e98_27, e98_30, e98_31, e98_34, e98_35, e98_38, e98_41, e98_42, e98_45, e98_46, e98_49, e98_52, e98_53, e98_56, e98_57, ab_li2, true_or, or_true, true_and, and_true, ab_pus, ab_pun, ab_len0, ab_len1, ab_len2, ab_len3, ab_len4, Nat.zero_add, oi, l100, l150, l300, q_le]
    simp only [lkl] at h
    refine ⟨fun g1 => ⟨fun g2 => ⟨fun g3 => ?_, fun g3 => ?_⟩, fun g2 => ?_⟩, fun g1 => ?_⟩
    · rw [if_neg (by omega), if_neg (by omega), if_neg (by omega)] at h; exact h
    · rw [if_neg (by omega), if_neg (by omega), if_pos (by omega)] at h; exact h
    · rw [if_neg (by omega), if_pos (by omega)] at h; exact h
    · rw [if_pos (by omega)] at h; exact h
theorem C99 (hc : c < 12) (hL : rM μ c L) (ho : okL L) (h : Q (some (nI (sz L))) μ) : ab_Cl (d + 4) 99 [.ref 65, .int (nI c)] μ Q := by
  have hn := hL.2.1
  refine n99 fun J run => run 60 _ _ _ _ ?_
  simp only [e99_0, e99_1, e99_2, e99_5, e99_6, e99_7, e99_8, e99_11, e99_12, e99_15, e99_16, e99_17, e99_18, e99_21, e99_22, e99_23, e99_26, e99_29, e99_30, e99_33, e99_34, e99_37, e99_40, e99_41, e99_44, e99_45, ab_li2, true_or, or_true, true_and, and_true, ab_pus, ab_pun, ab_len0, ab_len1, ab_len2, ab_len3, ab_len4, Nat.zero_add]
  refine C97 hc hL ho ?_
  simp only [e99_0, e99_1, e99_2, e99_5, e99_6, e99_7, e99_8, e99_11, e99_12, e99_15, e99_16, e99_17, e99_18, e99_21, e99_22, e99_23, e99_26, e99_29, e99_30, e99_33, e99_34, e99_37, e99_40, e99_41, e99_44, e99_45, ab_li2, true_or, or_true, true_and, and_true, ab_pus, ab_pun, ab_len0, ab_len1, ab_len2, ab_len3, ab_len4, Nat.zero_add]
  unfold sz at h
  cases hw : whyL L with
  | none =>
    rw [hw] at h
    have g2 : (0 : Int32) < 500 := by decide
    have g3 : (0 : Int32) < 200 := by decide
    simp only [wI, not_true_eq_false, false_imp_iff, not_false_eq_true, true_imp_iff, true_and, and_true, g2, g3]
    exact h
  | some q =>
    rw [hw] at h
    obtain ⟨h1, h2⟩ := whyL_at _ q hw
    have hwi : wI (some q) 0 = nI q.1 := by simp [wI]
    rw [hwi]
    simp (disch := omega) only [q_nm, not_false_eq_true, true_imp_iff, not_true_eq_false, false_imp_iff, and_true]
    refine C94 hc hL (by omega) ?_
    have hs : sm (L.drop (q.1 + 1)) ≤ 9600000 := Nat.le_trans (sm_drop_le _ _) ho.2
    simp only [szl] at h
    generalize sm (L.drop (q.1 + 1)) = s at *
    simp (disch := omega) only [e99_0, e99_1, e99_2, e99_5, e99_6, e99_7, e99_8, e99_11, e99_12, e99_15, e99_16, e99_17, e99_18, e99_21, e99_22, e99_23, e99_26, e99_29, e99_30, e99_33, e99_34, e99_37, e99_40, e99_41, e99_44, e99_45, ab_li2, true_or, or_true, true_and, and_true, ab_pus, ab_pun, ab_len0, ab_len1, ab_len2, ab_len3, ab_len4, Nat.zero_add, l500, l200, q_lt]
    refine ⟨fun g1 => ⟨fun g2 => ?_, fun g2 => ?_⟩, fun g1 => ?_⟩
    · rw [if_neg (by omega), if_neg (by omega)] at h; exact h
    · rw [if_neg (by omega), if_pos (by omega)] at h; exact h
    · rw [if_pos (by omega)] at h; exact h
theorem C101 (hc : c < 12) (hL : rM μ c L) (h : Q (some (nI (sm L))) μ) : ab_Cl (d + 2) 101 [.ref 65, .int (nI c)] μ Q := by
  have hn := hL.2.1
  refine n101 fun J run => run 60 _ _ _ _ ?_
  simp (disch := omega) only [e101_0, e101_1, e101_4, e101_5, e101_6, e101_9, e101_10, e101_13, e101_14, e101_17, e101_19, e101_20, e101_21, e101_22, e101_23, e101_24, e101_25, e101_28, e101_29, ab_li2, true_or, or_true, true_and, and_true, ab_pus, ab_pun, ab_len0, ab_len1, ab_len2, ab_len3, ab_len4, Nat.zero_add, q_in, q_cl, hL.1, q_eq0, l10, q_mu]
  refine ⟨fun g => ?_, fun g => ?_⟩
  · refine C94 (k := 0) hc hL (by omega) ?_
    simp (disch := omega) only [e101_0, e101_1, e101_4, e101_5, e101_6, e101_9, e101_10, e101_13, e101_14, e101_17, e101_19, e101_20, e101_21, e101_22, e101_23, e101_24, e101_25, e101_28, e101_29, ab_li2, true_or, or_true, true_and, and_true, ab_pus, ab_pun, ab_len0, ab_len1, ab_len2, ab_len3, ab_len4, Nat.zero_add]
    have h0 := hL.2.2.2.1 0 (by omega)
    rw [Nat.add_zero] at h0
    rw [h0, q_ad]
    have := sm_td (L := L) (e := L.length) (i := 0) (by omega) (Nat.le_refl _)
    rw [List.take_length, List.drop_zero] at this
    rw [← this]
    exact h
  · have : L = [] := List.length_eq_zero_iff.mp (by omega)
    subst this
    exact h
end MDA
