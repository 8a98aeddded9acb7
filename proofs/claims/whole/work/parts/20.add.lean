theorem ab_ud {μ : ab_M} {p i q j : Nat} {v : Int32} (h : q ≠ p) : ab_up μ p i v q j = μ q j := ab_up_ne (Or.inl h)
theorem ab_ue {μ : ab_M} {p i j : Nat} {v : Int32} (h : j = i) : ab_up μ p i v p j = v := by subst h; exact ab_up_eq
theorem ab_uo {μ : ab_M} {p i j : Nat} {v : Int32} (h : j ≠ i) : ab_up μ p i v p j = μ p j := ab_up_ne (Or.inr h)
def join (L : List ly) : List ly := match L with
  | a :: b :: t => (b.1, a.2.1 + b.2.1, max a.2.2 b.2.2) :: t
  | L => L
def addN (m : Nat) (L : List ly) : List ly := if m = 0 then L else (if L.length < 10 then L else join L) ++ [(0, m, 0)]
theorem join_len {L : List ly} (h : 2 ≤ L.length) : (join L).length = L.length - 1 := by
  match L, h with
  | a :: b :: t, _ => simp [join]
theorem join_kd {L : List ly} {i : Nat} (h : 2 ≤ L.length) : kd (join L) i = kd L (i + 1) := by
  match L, h with
  | a :: b :: t, _ => cases i <;> simp [join, kd]
theorem join_ms {L : List ly} {i : Nat} (h : 2 ≤ L.length) : ms (join L) i = if i = 0 then ms L 0 + ms L 1 else ms L (i + 1) := by
  match L, h with
  | a :: b :: t, _ => cases i <;> simp [join, ms]
theorem join_ag {L : List ly} {i : Nat} (h : 2 ≤ L.length) : ag (join L) i = if i = 0 then max (ag L 0) (ag L 1) else ag L (i + 1) := by
  match L, h with
  | a :: b :: t, _ => cases i <;> simp [join, ag]
theorem q_max {a b : Nat} (ha : a < 2147483648) (hb : b < 2147483648) : (if nI a < nI b then nI b else nI a) = nI (max a b) := by
  by_cases h : a < b
  · rw [if_pos (by rw [q_lt ha hb]; exact h), Nat.max_eq_right (by omega)]
  · rw [if_neg (by rw [q_lt ha hb]; exact h), Nat.max_eq_left (by omega)]
theorem q_min {a b : Nat} (ha : a < 2147483648) (hb : b < 2147483648) : (if nI b < nI a then nI b else nI a) = nI (min a b) := by
  by_cases h : b < a
  · rw [if_pos (by rw [q_lt hb ha]; exact h), Nat.min_eq_right (by omega)]
  · rw [if_neg (by rw [q_lt hb ha]; exact h), Nat.min_eq_left (by omega)]
theorem kd_app {A B : List ly} {i : Nat} (h : i < A.length) : kd (A ++ B) i = kd A i := by simp only [kd, List.getD_eq_getElem?_getD, List.getElem?_append_left h]
theorem ms_app {A B : List ly} {i : Nat} (h : i < A.length) : ms (A ++ B) i = ms A i := by simp only [ms, List.getD_eq_getElem?_getD, List.getElem?_append_left h]
theorem ag_app {A B : List ly} {i : Nat} (h : i < A.length) : ag (A ++ B) i = ag A i := by simp only [ag, List.getD_eq_getElem?_getD, List.getElem?_append_left h]
section SLE
variable {d c : Nat} {μ : ab_M} {Q : ab_Q} {L : List ly}
theorem C32 (hc : c < 12) (hL : rC μ c L) (ho : okL L) (hl : L.length = 10) (h : ∀ μ', rC μ' c (join L) → fC c μ μ' → Q none μ') : ab_Cl (d + 1) 32 [.ref (17 + 4 * c)] μ Q := by
  refine n32 fun J run => ?_
  have hP := rP_of hL
  rw [hl] at hP
  obtain ⟨-, -, o0⟩ := ho.1 0 (by omega)
  obtain ⟨-, -, o1⟩ := ho.1 1 (by omega)
  have loop : ∀ f i ν, 10 - i ≤ f → 1 ≤ i → i ≤ 10 → rP ν c 10 (fun j => if j < i - 1 then kd L (j + 1) else kd L j) (fun j => if j < i - 1 then (if j = 0 then ms L 0 + ms L 1 else ms L (j + 1)) else (if j = 1 then ms L 0 + ms L 1 else ms L j)) (fun j => if j < i - 1 then (if j = 0 then max (ag L 0) (ag L 1) else ag L (j + 1)) else (if j = 1 then max (ag L 0) (ag L 1) else ag L j)) → fC c μ ν → J 38 ν [.ref (17 + 4 * c), .int (nI i)] [] := by
    intro f
    induction f with
    | zero =>
      intro i ν h1 h0 h2 h3 h4
      refine run 40 _ _ _ _ ?_
      have hi : i = 10 := by omega
      subst hi
      simp (disch := omega) only [e32_0, e32_1, e32_4, e32_5, e32_6, e32_7, e32_8, e32_11, e32_12, e32_13, e32_14, e32_15, e32_16, e32_19, e32_20, e32_21, e32_24, e32_25, e32_26, e32_27, e32_30, e32_31, e32_32, e32_35, e32_36, e32_37, e32_38, e32_39, e32_40, e32_43, e32_46, e32_47, e32_50, e32_51, e32_52, e32_53, e32_54, e32_57, e32_58, e32_59, e32_60, e32_61, e32_64, e32_65, e32_66, e32_67, e32_68, e32_71, e32_72, e32_73, e32_74, e32_75, e32_78, e32_79, e32_80, e32_81, e32_82, e32_85, e32_86, e32_87, e32_88, e32_91, e32_94, e32_95i, e32_95r, e32_96, e32_99, e32_100, e32_101, e32_104, ab_sl hc, true_or, or_true, true_and, and_true, ab_pus, ab_pun, ab_len0, ab_len1, ab_len2, ab_len3, ab_len4, Nat.zero_add, h3.1, q_le, q_m1, Nat.le_refl, true_imp_iff, not_true_eq_false, false_imp_iff]
      refine h _ (rP_to (rP_n h3 (v := 9) (by decide)) (by rw [join_len (by omega), hl]) (fun k hk => ?_) (fun k hk => ?_) (fun k hk => ?_)) (fC_up h4 (by decide) (by decide) (by decide))
      · rw [join_kd (by omega)]; (try dsimp only); ((repeat' split) <;> first | rfl | omega | (congr 1; omega))
      · rw [join_ms (by omega)]; (try dsimp only); ((repeat' split) <;> first | rfl | omega | (congr 1; omega))
      · rw [join_ag (by omega)]; (try dsimp only); ((repeat' split) <;> first | rfl | omega | (congr 1; omega))
    | succ f ih =>
      intro i ν h1 h0 h2 h3 h4
      refine run 60 _ _ _ _ ?_
      by_cases hi : i = 10
      · subst hi
        simp (disch := omega) only [e32_0, e32_1, e32_4, e32_5, e32_6, e32_7, e32_8, e32_11, e32_12, e32_13, e32_14, e32_15, e32_16, e32_19, e32_20, e32_21, e32_24, e32_25, e32_26, e32_27, e32_30, e32_31, e32_32, e32_35, e32_36, e32_37, e32_38, e32_39, e32_40, e32_43, e32_46, e32_47, e32_50, e32_51, e32_52, e32_53, e32_54, e32_57, e32_58, e32_59, e32_60, e32_61, e32_64, e32_65, e32_66, e32_67, e32_68, e32_71, e32_72, e32_73, e32_74, e32_75, e32_78, e32_79, e32_80, e32_81, e32_82, e32_85, e32_86, e32_87, e32_88, e32_91, e32_94, e32_95i, e32_95r, e32_96, e32_99, e32_100, e32_101, e32_104, ab_sl hc, true_or, or_true, true_and, and_true, ab_pus, ab_pun, ab_len0, ab_len1, ab_len2, ab_len3, ab_len4, Nat.zero_add, h3.1, q_le, q_m1, Nat.le_refl, true_imp_iff, not_true_eq_false, false_imp_iff]
        refine h _ (rP_to (rP_n h3 (v := 9) (by decide)) (by rw [join_len (by omega), hl]) (fun k hk => ?_) (fun k hk => ?_) (fun k hk => ?_)) (fC_up h4 (by decide) (by decide) (by decide))
        · rw [join_kd (by omega)]; (try dsimp only); ((repeat' split) <;> first | rfl | omega | (congr 1; omega))
        · rw [join_ms (by omega)]; (try dsimp only); ((repeat' split) <;> first | rfl | omega | (congr 1; omega))
        · rw [join_ag (by omega)]; (try dsimp only); ((repeat' split) <;> first | rfl | omega | (congr 1; omega))
      · simp (disch := omega) only [e32_0, e32_1, e32_4, e32_5, e32_6, e32_7, e32_8, e32_11, e32_12, e32_13, e32_14, e32_15, e32_16, e32_19, e32_20, e32_21, e32_24, e32_25, e32_26, e32_27, e32_30, e32_31, e32_32, e32_35, e32_36, e32_37, e32_38, e32_39, e32_40, e32_43, e32_46, e32_47, e32_50, e32_51, e32_52, e32_53, e32_54, e32_57, e32_58, e32_59, e32_60, e32_61, e32_64, e32_65, e32_66, e32_67, e32_68, e32_71, e32_72, e32_73, e32_74, e32_75, e32_78, e32_79, e32_80, e32_81, e32_82, e32_85, e32_86, e32_87, e32_88, e32_91, e32_94, e32_95i, e32_95r, e32_96, e32_99, e32_100, e32_101, e32_104, ab_sl hc, true_or, or_true, true_and, and_true, ab_pus, ab_pun, ab_len0, ab_len1, ab_len2, ab_len3, ab_len4, Nat.zero_add, h3.1, q_le, q_m1, q_in, q_cl, ab_ud, h3.2.2.1 i (by omega), h3.2.2.2.1 i (by omega), h3.2.2.2.2 i (by omega), q_p1]
        refine ⟨fun z => absurd z (by omega), fun _ => ?_⟩
        refine ih (i + 1) _ (by omega) (by omega) (by omega) (rP_c (rP_a (rP_m (rP_k h3))) (fun k hk => ?_) (fun k hk => ?_) (fun k hk => ?_)) (fC_up (fC_up (fC_up h4 (by decide) (by decide) (by omega)) (by decide) (by decide) (by omega)) (by decide) (by decide) (by omega))
        · (try dsimp only); ((repeat' split) <;> first | rfl | omega | (congr 1; omega))
        · (try dsimp only); ((repeat' split) <;> first | rfl | omega | (congr 1; omega))
        · (try dsimp only); ((repeat' split) <;> first | rfl | omega | (congr 1; omega))
  refine run 26 _ _ _ _ ?_
  have i1 : vp_in (1 : Int32) 10 = True := q_in (i := 1) (by decide) (by decide)
  have i0 : vp_in (0 : Int32) 10 = True := q_in (i := 0) (by decide) (by decide)
  simp (disch := omega) only [e32_0, e32_1, e32_4, e32_5, e32_6, e32_7, e32_8, e32_11, e32_12, e32_13, e32_14, e32_15, e32_16, e32_19, e32_20, e32_21, e32_24, e32_25, e32_26, e32_27, e32_30, e32_31, e32_32, e32_35, e32_36, e32_37, e32_38, e32_39, e32_40, e32_43, e32_46, e32_47, e32_50, e32_51, e32_52, e32_53, e32_54, e32_57, e32_58, e32_59, e32_60, e32_61, e32_64, e32_65, e32_66, e32_67, e32_68, e32_71, e32_72, e32_73, e32_74, e32_75, e32_78, e32_79, e32_80, e32_81, e32_82, e32_85, e32_86, e32_87, e32_88, e32_91, e32_94, e32_95i, e32_95r, e32_96, e32_99, e32_100, e32_101, e32_104, ab_sl hc, true_or, or_true, true_and, and_true, ab_pus, ab_pun, ab_len0, ab_len1, ab_len2, ab_len3, ab_len4, Nat.zero_add, ab_rn0, i0, i1, ab_c0, ab_c1', ab_ud, hP.2.2.2.1 0 (by decide), hP.2.2.2.1 1 (by decide), hP.2.2.2.2 0 (by decide), hP.2.2.2.2 1 (by decide), q_ad, q_max]
  refine loop _ 1 _ (Nat.le_refl _) (by decide) (by decide) (rP_c (rP_a (rP_m hP)) (fun k hk => ?_) (fun k hk => ?_) (fun k hk => ?_)) (fC_up (fC_up fC_rf (by decide) (by decide) (by decide)) (by decide) (by decide) (by decide))
  · (try dsimp only); ((repeat' split) <;> first | rfl | omega | (congr 1; omega))
  · (try dsimp only); ((repeat' split) <;> first | rfl | omega | (congr 1; omega))
  · (try dsimp only); ((repeat' split) <;> first | rfl | omega | (congr 1; omega))
theorem rC_push {ρ : ab_M} {m : Nat} {A : List ly} (h : rC ρ c A) (hn : A.length < 10) : rC (ab_up (ab_up (ab_up (ab_up ρ 18 (10 * c + A.length) 0) 19 (10 * c + A.length) (nI m)) 20 (10 * c + A.length) 0) 17 (10 * c + 3) (nI (A.length + 1))) c (A ++ [(0, m, 0)]) := by
  obtain ⟨h1, h2, h3, h4, h5⟩ := h
  refine ⟨by rw [ab_up_eq]; simp, by simp; omega, fun i hi => ?_, fun i hi => ?_, fun i hi => ?_⟩
  · simp (disch := omega) only [ab_ud]
    by_cases e : i = A.length
    · subst e; rw [ab_ue rfl]; simp [kd]; rfl
    · have hi : i < A.length := by simp at hi; omega
      rw [ab_uo (by omega), h3 i hi, kd_app hi]
  · simp (disch := omega) only [ab_ud]
    by_cases e : i = A.length
    · subst e; rw [ab_ue rfl]; simp [ms]
    · have hi : i < A.length := by simp at hi; omega
      rw [ab_uo (by omega)]
      simp (disch := omega) only [ab_ud]
      rw [h4 i hi, ms_app hi]
  · simp (disch := omega) only [ab_ud]
    by_cases e : i = A.length
    · subst e; rw [ab_ue rfl]; simp [ag]; rfl
    · have hi : i < A.length := by simp at hi; omega
      rw [ab_uo (by omega)]
      simp (disch := omega) only [ab_ud]
      rw [h5 i hi, ag_app hi]
theorem C22 (hc : c < 12) (hL : rC μ c L) (ho : okL L) {m : Nat} (hm : m < 2147483648) (h : ∀ μ', rC μ' c (addN m L) → fC c μ μ' → Q none μ') : ab_Cl (d + 2) 22 [.ref (17 + 4 * c), .int (nI m)] μ Q := by
  have hn := hL.2.1
  refine n22 fun J run => run 60 _ _ _ _ ?_
  simp (disch := omega) only [e22_0, e22_1, e22_4, e22_5, e22_6, e22_9, e22_11, e22_14, e22_15, e22_18, e22_19, e22_22, e22_23, e22_26, e22_27, e22_28, e22_29, e22_32, e22_33, e22_36, e22_37, e22_38, e22_39, e22_42, e22_43, e22_46, e22_47, e22_48, e22_49i, e22_49r, e22_50, e22_53, e22_54, e22_55, e22_58, ab_sl hc, true_or, or_true, true_and, and_true, ab_pus, ab_pun, ab_len0, ab_len1, ab_len2, ab_len3, ab_len4, Nat.zero_add, hL.1, l10, q_gt0, q_lt, ab_ud, q_p1]
  refine ⟨fun g => ⟨fun g1 => ?_, fun g1 => ?_⟩, fun g => ?_⟩
  · simp (disch := omega) only [q_in, q_cl, true_and]
    refine h _ ?_ (fC_up (fC_up (fC_up (fC_up fC_rf (by decide) (by decide) (by omega)) (by decide) (by decide) (by omega)) (by decide) (by decide) (by omega)) (by decide) (by decide) (by decide))
    unfold addN
    rw [if_neg (by omega), if_pos g1]
    exact rC_push hL g1
  · have h10 : L.length = 10 := by omega
    refine C32 hc hL ho h10 (fun ν hν fν => ?_)
    have hj : (join L).length = 9 := by rw [join_len (by omega), h10]
    simp (disch := omega) only [e22_0, e22_1, e22_4, e22_5, e22_6, e22_9, e22_11, e22_14, e22_15, e22_18, e22_19, e22_22, e22_23, e22_26, e22_27, e22_28, e22_29, e22_32, e22_33, e22_36, e22_37, e22_38, e22_39, e22_42, e22_43, e22_46, e22_47, e22_48, e22_49i, e22_49r, e22_50, e22_53, e22_54, e22_55, e22_58, ab_sl hc, true_or, or_true, true_and, and_true, ab_pus, ab_pun, ab_len0, ab_len1, ab_len2, ab_len3, ab_len4, Nat.zero_add, hν.1, hj, q_in, q_cl, ab_ud, q_p1]
    refine h _ ?_ (fC_up (fC_up (fC_up (fC_up fν (by decide) (by decide) (by omega)) (by decide) (by decide) (by omega)) (by decide) (by decide) (by omega)) (by decide) (by decide) (by decide))
    unfold addN
    rw [if_neg (by omega), if_neg g1]
    have := rC_push (m := m) hν (by omega)
    rw [hj] at this
    exact this
  · refine h μ ?_ fC_rf
    unfold addN
    rw [if_pos (by omega)]
    exact hL
end SLE
