def whyL : List ly → Option (Nat × Nat)
  | [] => none
  | x :: t => match ixo (brg x.1 x.2.2) (sm t) with
    | none => (whyL t).map (fun q => (q.1 + 1, q.2))
    | some v => match whyL t with
      | none => some (0, v)
      | some q => if v < q.2 then some (0, v) else some (q.1 + 1, q.2)
def wI (o : Option (Nat × Nat)) (i : Nat) : Int32 := match o with
  | none => -1
  | some q => nI (i + q.1)
def lI (o : Option (Nat × Nat)) : Int32 := match o with
  | none => 0
  | some q => nI q.2
def kI (i : Nat) : Int32 := match i with
  | 0 => -1
  | j + 1 => nI j
theorem kI_s (j : Nat) : nI j + (-1) = kI j := by
  cases j with
  | zero => rfl
  | succ j => exact pk_m1 j
theorem kI_m (j : Nat) : nI j - 1 = kI j := by
  cases j with
  | zero => rfl
  | succ j => exact nI_pred j
def lkl (o : Option (Nat × Nat)) : Nat := match o with
  | none => 0
  | some q => if q.2 < 100 then 3 else if q.2 < 150 then 2 else if q.2 < 300 then 1 else 0
def szl (T : List ly) (o : Option (Nat × Nat)) : Nat := match o with
  | none => 0
  | some q => if 500 ≤ sm (T.drop (q.1 + 1)) then 2 else if 200 ≤ sm (T.drop (q.1 + 1)) then 1 else 0
/-- LIKELY and SIZE of layers -/
def lk (T : List ly) : Nat := lkl (whyL T)
def sz (T : List ly) : Nat := szl T (whyL T)
theorem td_cons {L : List ly} {e j : Nat} (h : j < e) (he : e ≤ L.length) : (L.take e).drop j = (kd L j, ms L j, ag L j) :: (L.take e).drop (j + 1) := by
  have hi : j < (L.take e).length := by rw [List.length_take]; omega
  rw [List.drop_eq_getElem_cons hi]
  congr 1
  simp only [kd, ms, ag, List.getElem_take, List.getD_eq_getElem?_getD]
  rw [List.getElem?_eq_getElem (by omega)]
  rfl
theorem kd_take {L : List ly} {e j : Nat} (h : j < e) : kd (L.take e) j = kd L j := by simp [kd, h]
theorem ms_take {L : List ly} {e j : Nat} (h : j < e) : ms (L.take e) j = ms L j := by simp [ms, h]
theorem ag_take {L : List ly} {e j : Nat} (h : j < e) : ag (L.take e) j = ag L j := by simp [ag, h]
theorem ixo_some {b l v : Nat} (h : ixo b l = some v) : v ≤ 999 ∧ 0 < l := by
  unfold ixo at h
  split at h
  · cases h
  · cases h
    refine ⟨Nat.min_le_right _ _, by omega⟩
theorem whyL_at : ∀ (T : List ly) (q : Nat × Nat), whyL T = some q → q.1 < T.length ∧ ixo (brg (kd T q.1) (ag T q.1)) (sm (T.drop (q.1 + 1))) = some q.2
  | [], q, h => by cases h
  | x :: t, q, h => by
    unfold whyL at h
    have ih := whyL_at t
    split at h
    · next e =>
      cases hw : whyL t with
      | none => rw [hw] at h; cases h
      | some r =>
        rw [hw] at h
        cases h
        obtain ⟨h1, h2⟩ := ih r hw
        exact ⟨by simpa using h1, by simpa [kd, ag] using h2⟩
    · next v e =>
      split at h
      · cases h
        exact ⟨by simp, by simpa [kd, ag] using e⟩
      · next r hw =>
        split at h
        · cases h
          exact ⟨by simp, by simpa [kd, ag] using e⟩
        · cases h
          obtain ⟨h1, h2⟩ := ih r hw
          exact ⟨by simpa using h1, by simpa [kd, ag] using h2⟩
section SLB
variable {d c : Nat} {μ : ab_M} {Q : ab_Q} {L : List ly}
theorem C17 (hc : c < 12) (hL : rC μ c L) (ho : okL L) {e : Nat} (he : e ≤ L.length) (h : Q (some (wI (whyL (L.take e)) 0)) μ) : ab_Cl (d + 2) 17 [.ref (17 + 4 * c), .int (nI e)] μ Q := by
  have hn := hL.2.1
  refine n17 fun J run => ?_
  have loop : ∀ i, i ≤ e → ∀ (w l ld k : Int32) (x : Value), w = wI (whyL ((L.take e).drop i)) i → l = lI (whyL ((L.take e).drop i)) → ld = nI (sm ((L.take e).drop i)) → k = kI i → J 19 μ [.ref (17 + 4 * c), .int (nI e), .int w, .int l, .int ld, .int k, x] [] := by
    intro i
    induction i with
    | zero =>
      intro _ w l ld k x hw _ _ hk
      refine run 10 _ _ _ _ ?_
      subst hk
      simp only [e17_0, e17_1, e17_2, e17_3, e17_4, e17_5, e17_7, e17_8, e17_9, e17_12, e17_15, e17_16, e17_17, e17_19, e17_21, e17_24, e17_25, e17_28, e17_30, e17_31, e17_32, e17_35, e17_37, e17_38, e17_41, e17_43, e17_46, e17_48, e17_50, e17_51, e17_54, e17_55, e17_56, e17_59, e17_61, e17_62, e17_65, e17_67, e17_68, e17_70, e17_71, e17_73, e17_74, e17_77, e17_79, e17_80, e17_81, e17_83, e17_86, e17_89, e17_90, ab_sl hc, true_or, or_true, true_and, and_true, ab_pus, ab_pun, ab_len0, ab_len1, ab_len2, ab_len3, ab_len4, Nat.zero_add]
      refine ⟨fun _ => ?_, fun q => absurd (show kI 0 < 0 by decide) q⟩
      rw [hw, List.drop_zero]
      exact h
    | succ j ih =>
      intro hj w l ld k x hw hl hld hk
      have hj2 : j < e := by omega
      obtain ⟨o1, o2, o3⟩ := ho.1 j (by omega)
      have hk : k = nI j := hk
      refine run 60 _ _ _ _ ?_
      subst hk
      simp (disch := omega) only [e17_0, e17_1, e17_2, e17_3, e17_4, e17_5, e17_7, e17_8, e17_9, e17_12, e17_15, e17_16, e17_17, e17_19, e17_21, e17_24, e17_25, e17_28, e17_30, e17_31, e17_32, e17_35, e17_37, e17_38, e17_41, e17_43, e17_46, e17_48, e17_50, e17_51, e17_54, e17_55, e17_56, e17_59, e17_61, e17_62, e17_65, e17_67, e17_68, e17_70, e17_71, e17_73, e17_74, e17_77, e17_79, e17_80, e17_81, e17_83, e17_86, e17_89, e17_90, ab_sl hc, true_or, or_true, true_and, and_true, ab_pus, ab_pun, ab_len0, ab_len1, ab_len2, ab_len3, ab_len4, Nat.zero_add, q_lt0, q_in, q_cl, hL.2.2.1 j (by omega), hL.2.2.2.2 j (by omega), false_imp_iff, not_false_eq_true, true_imp_iff]
      refine C31 o1 ?_
      simp only [e17_0, e17_1, e17_2, e17_3, e17_4, e17_5, e17_7, e17_8, e17_9, e17_12, e17_15, e17_16, e17_17, e17_19, e17_21, e17_24, e17_25, e17_28, e17_30, e17_31, e17_32, e17_35, e17_37, e17_38, e17_41, e17_43, e17_46, e17_48, e17_50, e17_51, e17_54, e17_55, e17_56, e17_59, e17_61, e17_62, e17_65, e17_67, e17_68, e17_70, e17_71, e17_73, e17_74, e17_77, e17_79, e17_80, e17_81, e17_83, e17_86, e17_89, e17_90, ab_sl hc, true_or, or_true, true_and, and_true, ab_pus, ab_pun, ab_len0, ab_len1, ab_len2, ab_len3, ab_len4, Nat.zero_add, hld]
      have hs : sm ((L.take e).drop (j + 1)) ≤ 9600000 := Nat.le_trans (sm_drop_le _ _) (Nat.le_trans (sm_take_le _ _) ho.2)
      refine C30 (Nat.le_trans (brg_le o3) (by decide)) (by omega) ?_
      simp (disch := omega) only [e17_0, e17_1, e17_2, e17_3, e17_4, e17_5, e17_7, e17_8, e17_9, e17_12, e17_15, e17_16, e17_17, e17_19, e17_21, e17_24, e17_25, e17_28, e17_30, e17_31, e17_32, e17_35, e17_37, e17_38, e17_41, e17_43, e17_46, e17_48, e17_50, e17_51, e17_54, e17_55, e17_56, e17_59, e17_61, e17_62, e17_65, e17_67, e17_68, e17_70, e17_71, e17_73, e17_74, e17_77, e17_79, e17_80, e17_81, e17_83, e17_86, e17_89, e17_90, ab_sl hc, true_or, or_true, true_and, and_true, ab_pus, ab_pun, ab_len0, ab_len1, ab_len2, ab_len3, ab_len4, Nat.zero_add, q_in, q_cl, hL.2.2.2.1 j (by omega), kI_s, q_ad]
      have hcons := td_cons (L := L) hj2 he
      have hsm : nI (sm ((L.take e).drop (j + 1)) + ms L j) = nI (sm ((L.take e).drop j)) := by rw [hcons, sm_cons, Nat.add_comm]
      rw [hsm]
      have hwu : whyL ((L.take e).drop j) = match ixo (brg (kd L j) (ag L j)) (sm ((L.take e).drop (j + 1))) with
          | none => (whyL ((L.take e).drop (j + 1))).map (fun q => (q.1 + 1, q.2))
          | some v => match whyL ((L.take e).drop (j + 1)) with
            | none => some (0, v)
            | some q => if v < q.2 then some (0, v) else some (q.1 + 1, q.2) := by rw [hcons]; rfl
      generalize hT : whyL ((L.take e).drop (j + 1)) = T at *
      have hq : ∀ q, T = some q → q.2 ≤ 999 ∧ q.1 ≤ 10 := by
        intro q hq
        rw [hq] at hT
        obtain ⟨h1, h2⟩ := whyL_at _ q hT
        refine ⟨(ixo_some h2).1, ?_⟩
        rw [List.length_drop, List.length_take] at h1
        omega
      cases hi : ixo (brg (kd L j) (ag L j)) (sm ((L.take e).drop (j + 1))) with
      | none =>
        rw [hi] at hwu
        simp only [oi, eq_self, not_true_eq_false, false_imp_iff, true_imp_iff, and_true]
        refine ih (by omega) _ _ _ _ _ ?_ ?_ rfl rfl
        · rw [hw, hwu]
          cases T with
          | none => rfl
          | some q => show nI (j + 1 + q.1) = nI (j + (q.1 + 1)); congr 1; omega
        · rw [hl, hwu]
          cases T with
          | none => rfl
          | some q => rfl
      | some v =>
        have hv := (ixo_some hi).1
        rw [hi] at hwu
        simp (disch := omega) only [oi, q_nm, false_imp_iff, not_false_eq_true, true_imp_iff, true_and]
        cases T with
        | none =>
          simp only [hw, wI, eq_self, not_true_eq_false, false_imp_iff, true_imp_iff, and_true]
          exact ih (by omega) _ _ _ _ _ (by rw [hwu]; rfl) (by rw [hwu]; rfl) rfl rfl
        | some q =>
          obtain ⟨q1, q2⟩ := hq q rfl
          simp (disch := omega) only [hw, hl, wI, lI, q_nm, q_le, false_imp_iff, not_false_eq_true, true_imp_iff, true_and]
          refine ⟨fun g => ?_, fun g => ?_⟩
          · refine ih (by omega) _ _ _ _ _ ?_ ?_ rfl rfl
            · rw [hwu]
              simp only
              rw [if_neg (by omega)]
              show nI (j + 1 + q.1) = nI (j + (q.1 + 1))
              congr 1
              omega
            · rw [hwu]
              simp only
              rw [if_neg (by omega)]
              rfl
          · refine ih (by omega) _ _ _ _ _ ?_ ?_ rfl rfl
            · rw [hwu]
              simp only
              rw [if_pos (by omega)]
              rfl
            · rw [hwu]
              simp only
              rw [if_pos (by omega)]
              rfl
  refine run 13 _ _ _ _ ?_
  have hz : (L.take e).drop e = [] := List.drop_eq_nil_of_le (by rw [List.length_take]; omega)
  have hm : (if nI L.length < nI e then nI L.length else nI e) = nI e := if_neg (by rw [q_lt (by omega) (by omega)]; omega)
  simp only [e17_0, e17_1, e17_2, e17_3, e17_4, e17_5, e17_7, e17_8, e17_9, e17_12, e17_15, e17_16, e17_17, e17_19, e17_21, e17_24, e17_25, e17_28, e17_30, e17_31, e17_32, e17_35, e17_37, e17_38, e17_41, e17_43, e17_46, e17_48, e17_50, e17_51, e17_54, e17_55, e17_56, e17_59, e17_61, e17_62, e17_65, e17_67, e17_68, e17_70, e17_71, e17_73, e17_74, e17_77, e17_79, e17_80, e17_81, e17_83, e17_86, e17_89, e17_90, ab_sl hc, true_or, or_true, true_and, and_true, ab_pus, ab_pun, ab_len0, ab_len1, ab_len2, ab_len3, ab_len4, Nat.zero_add, ab_rn0, hL.1, hm, kI_m]
  exact loop e (Nat.le_refl _) _ _ _ _ _ (by rw [hz]; rfl) (by rw [hz]; rfl) (by rw [hz]; rfl) rfl
end SLB
