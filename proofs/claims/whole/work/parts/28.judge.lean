def jr (D S : Nat → Int32) (n : Nat) : Nat := (if D n < 3 then 2 else 0) + (if S n = 0 then 1 else 0)
def jT (D S T : Nat → Int32) : Nat → Nat → Int32
  | 0 => T
  | n + 1 => if D n = 0 then jT D S T n else upd (jT D S T n) (jr D S n) (jT D S T n (jr D S n) + 1)
def jI (a b t : Nat) (μ : ab_M) (i : Nat) (ν : ab_M) : Prop := (∀ j, ν a j = if j < i then 0 else μ a j) ∧ (∀ j, ν b j = if j < i then 0 else μ b j) ∧ (∀ j, ν t j = jT (μ a) (μ b) (μ t) i j) ∧ ∀ p, p ≠ a → p ≠ b → p ≠ t → ∀ j, ν p j = μ p j
theorem jI_0 {a b t : Nat} {μ : ab_M} : jI a b t μ 0 μ := ⟨fun j => by simp, fun j => by simp, fun j => rfl, fun _ _ _ _ _ => rfl⟩
theorem jI_a {a b t i : Nat} {μ ν : ab_M} (hab : a ≠ b) (hat : a ≠ t) (hbt : b ≠ t) (h : jI a b t μ i ν) (hd : μ a i = 0) : jI a b t μ (i + 1) (ab_up (ab_up ν a i 0) b i 0) := by
  obtain ⟨h1, h2, h3, h4⟩ := h
  refine ⟨fun j => ?_, fun j => ?_, fun j => ?_, fun p p1 p2 p3 j => ?_⟩
  · rw [ab_ud hab]
    by_cases e : j = i
    · subst e; rw [ab_up_eq, if_pos (by omega)]
    · rw [ab_uo e, h1]; split <;> split <;> first | rfl | omega
  · by_cases e : j = i
    · subst e; rw [ab_up_eq, if_pos (by omega)]
    · rw [ab_uo e, ab_ud (Ne.symm hab), h2]; split <;> split <;> first | rfl | omega
  · rw [ab_ud (Ne.symm hbt), ab_ud (Ne.symm hat), h3]
    rw [show jT (μ a) (μ b) (μ t) (i + 1) = jT (μ a) (μ b) (μ t) i from if_pos hd]
  · rw [ab_ud p2, ab_ud p1, h4 p p1 p2 p3]
theorem jI_b {a b t i r : Nat} {μ ν : ab_M} (hab : a ≠ b) (hat : a ≠ t) (hbt : b ≠ t) (h : jI a b t μ i ν) (hd : ¬ μ a i = 0) (hr : jr (μ a) (μ b) i = r) : jI a b t μ (i + 1) (ab_up (ab_up (ab_up ν t r (ν t r + 1)) a i 0) b i 0) := by
  obtain ⟨h1, h2, h3, h4⟩ := h
  refine ⟨fun j => ?_, fun j => ?_, fun j => ?_, fun p p1 p2 p3 j => ?_⟩
  · rw [ab_ud hab]
    by_cases e : j = i
    · subst e; rw [ab_up_eq, if_pos (by omega)]
    · rw [ab_uo e, ab_ud hat, h1]; split <;> split <;> first | rfl | omega
  · by_cases e : j = i
    · subst e; rw [ab_up_eq, if_pos (by omega)]
    · rw [ab_uo e, ab_ud (Ne.symm hab), ab_ud hbt, h2]; split <;> split <;> first | rfl | omega
  · rw [ab_ud (Ne.symm hbt), ab_ud (Ne.symm hat)]
    show _ = (if μ a i = 0 then _ else upd (jT (μ a) (μ b) (μ t) i) (jr (μ a) (μ b) i) (jT (μ a) (μ b) (μ t) i (jr (μ a) (μ b) i) + 1)) j
    rw [if_neg hd, hr]
    by_cases e : j = r
    · subst e; rw [ab_up_eq, h3]; simp [upd]
    · rw [ab_uo e, h3]; simp [upd, e]
  · rw [ab_ud p2, ab_ud p1, ab_ud p3, h4 p p1 p2 p3]
section JUD
variable {d : Nat} {μ : ab_M} {Q : ab_Q}
theorem C36 (hD : ∀ c, c < 12 → ∃ v, v ≤ 5 ∧ μ 14 c = nI v) (h : ∀ μ', jI 14 15 16 μ 12 μ' → Q none μ') : ab_Cl (d + 1) 36 [.ref 13] μ Q := by
  refine n36 fun J run => ?_
  have loop : ∀ f i ν x, 12 - i ≤ f → i ≤ 12 → jI 14 15 16 μ i ν → J 2 ν [.ref 13, .int (nI i), x] [] := by
    intro f
    induction f with
    | zero =>
      intro i ν x h1 h2 h3
      obtain rfl : i = 12 := by omega
      refine run 10 _ _ _ _ ?_
      simp (disch := omega) only [e36_0, e36_1, e36_2, e36_3, e36_5, e36_8, e36_9, e36_12, e36_13, e36_14, e36_17, e36_18, e36_21, e36_22, e36_23, e36_24, e36_27, e36_28, e36_31, e36_32, e36_33, e36_36, e36_37, e36_38, e36_41, e36_42, e36_45, e36_46, e36_47, e36_48, e36_49, e36_52, e36_53, e36_54, e36_55, e36_56, e36_57, e36_58, e36_59, e36_62, e36_63, e36_64, e36_65, e36_66, e36_69, e36_70, e36_71, e36_72, e36_75, e36_78, ab_li1, true_or, or_true, true_and, and_true, ab_pus, ab_pun, ab_len0, ab_len1, ab_len2, ab_len3, ab_len4, Nat.zero_add, l12, q_le, Nat.le_refl, true_imp_iff, not_true_eq_false, false_imp_iff]
      exact h ν h3
    | succ f ih =>
      intro i ν x h1 h2 h3
      by_cases hi : i = 12
      · exact ih i ν x (by omega) h2 h3
      · obtain ⟨v, hv, ev⟩ := hD i (by omega)
        have e14 : ν 14 i = nI v := by rw [h3.1 i, if_neg (by omega), ev]
        have e15 : ν 15 i = μ 15 i := by rw [h3.2.1 i, if_neg (by omega)]
        have i0 : vp_in (0 : Int32) 4 = True := q_in (i := 0) (by decide) (by decide)
        have i1 : vp_in (1 : Int32) 4 = True := q_in (i := 1) (by decide) (by decide)
        have i2 : vp_in (2 : Int32) 4 = True := q_in (i := 2) (by decide) (by decide)
        have i3 : vp_in (3 : Int32) 4 = True := q_in (i := 3) (by decide) (by decide)
        have s0 : (0 : Int32) + 0 = 0 := by decide
        have s1 : (0 : Int32) + 1 = 1 := by decide
        have s2 : (2 : Int32) + 0 = 2 := by decide
        have s3 : (2 : Int32) + 1 = 3 := by decide
        refine run 60 _ _ _ _ ?_
        simp (disch := omega) only [e36_0, e36_1, e36_2, e36_3, e36_5, e36_8, e36_9, e36_12, e36_13, e36_14, e36_17, e36_18, e36_21, e36_22, e36_23, e36_24, e36_27, e36_28, e36_31, e36_32, e36_33, e36_36, e36_37, e36_38, e36_41, e36_42, e36_45, e36_46, e36_47, e36_48, e36_49, e36_52, e36_53, e36_54, e36_55, e36_56, e36_57, e36_58, e36_59, e36_62, e36_63, e36_64, e36_65, e36_66, e36_69, e36_70, e36_71, e36_72, e36_75, e36_78, ab_li1, true_or, or_true, true_and, and_true, ab_pus, ab_pun, ab_len0, ab_len1, ab_len2, ab_len3, ab_len4, Nat.zero_add, l12, q_le, q_in, q_cl, e14, e15, q_eq0, s0, s1, s2, s3, i0, i1, i2, i3, ab_c0, ab_c1', ab_c2', ab_c3', ab_ud, q_p1]
        refine ⟨fun z => absurd z (by omega), fun _ => ⟨fun g => ?_, fun g => ?_⟩⟩
        · exact ih (i + 1) _ _ (by omega) (by omega) (jI_a (by decide) (by decide) (by decide) h3 (by rw [ev, g]; rfl))
        · have hn : ¬ μ 14 i = 0 := by rw [ev, q_eq0 (by omega)]; exact g
          refine ⟨fun g1 => ⟨fun g2 => ?_, fun g2 => ?_⟩, fun g1 => ⟨fun g2 => ?_, fun g2 => ?_⟩⟩
          · exact ih (i + 1) _ _ (by omega) (by omega) (jI_b (by decide) (by decide) (by decide) h3 hn (by unfold jr; rw [ev, if_pos g1, if_pos g2]))
          · exact ih (i + 1) _ _ (by omega) (by omega) (jI_b (by decide) (by decide) (by decide) h3 hn (by unfold jr; rw [ev, if_pos g1, if_neg g2]))
          · exact ih (i + 1) _ _ (by omega) (by omega) (jI_b (by decide) (by decide) (by decide) h3 hn (by unfold jr; rw [ev, if_neg g1, if_pos g2]))
          · exact ih (i + 1) _ _ (by omega) (by omega) (jI_b (by decide) (by decide) (by decide) h3 hn (by unfold jr; rw [ev, if_neg g1, if_neg g2]))
  refine run 2 _ _ _ _ ?_
  simp only [e36_0, e36_1, e36_2, e36_3, e36_5, e36_8, e36_9, e36_12, e36_13, e36_14, e36_17, e36_18, e36_21, e36_22, e36_23, e36_24, e36_27, e36_28, e36_31, e36_32, e36_33, e36_36, e36_37, e36_38, e36_41, e36_42, e36_45, e36_46, e36_47, e36_48, e36_49, e36_52, e36_53, e36_54, e36_55, e36_56, e36_57, e36_58, e36_59, e36_62, e36_63, e36_64, e36_65, e36_66, e36_69, e36_70, e36_71, e36_72, e36_75, e36_78, ab_li1, true_or, or_true, true_and, and_true, ab_pus, ab_pun, ab_len0, ab_len1, ab_len2, ab_len3, ab_len4, Nat.zero_add, ab_rn0]
  exact loop 12 0 μ _ (by decide) (by decide) jI_0
theorem C91 (hD : ∀ c, c < 12 → ∃ v, v ≤ 5 ∧ μ 74 c = nI v) (h : ∀ μ', jI 74 73 75 μ 12 μ' → Q none μ') : ab_Cl (d + 1) 91 [.ref 65] μ Q := by
  refine n91 fun J run => ?_
  have loop : ∀ f i ν, 12 - i ≤ f → i ≤ 12 → jI 74 73 75 μ i ν → J 2 ν [.ref 65, .int (nI i)] [] := by
    intro f
    induction f with
    | zero =>
      intro i ν h1 h2 h3
      obtain rfl : i = 12 := by omega
      refine run 10 _ _ _ _ ?_
      simp (disch := omega) only [e91_0, e91_1, e91_2, e91_3, e91_5, e91_8, e91_9, e91_12, e91_13, e91_14, e91_17, e91_18, e91_21, e91_22, e91_25, e91_26, e91_27, e91_28, e91_31, e91_32, e91_35, e91_36, e91_37, e91_40, e91_41, e91_42, e91_45, e91_46, e91_49, e91_50, e91_51, e91_52, e91_53, e91_54, e91_55, e91_56, e91_57, e91_60, e91_61, e91_62, e91_63, e91_64, e91_67, e91_68, e91_69, e91_70, e91_73, e91_76, ab_li2, true_or, or_true, true_and, and_true, ab_pus, ab_pun, ab_len0, ab_len1, ab_len2, ab_len3, ab_len4, Nat.zero_add, l12, q_le, Nat.le_refl, true_imp_iff, not_true_eq_false, false_imp_iff]
      exact h ν h3
    | succ f ih =>
      intro i ν h1 h2 h3
      by_cases hi : i = 12
      · exact ih i ν (by omega) h2 h3
      · obtain ⟨v, hv, ev⟩ := hD i (by omega)
        have e14 : ν 74 i = nI v := by rw [h3.1 i, if_neg (by omega), ev]
        have e15 : ν 73 i = μ 73 i := by rw [h3.2.1 i, if_neg (by omega)]
        have i0 : vp_in (0 : Int32) 4 = True := q_in (i := 0) (by decide) (by decide)
        have i1 : vp_in (1 : Int32) 4 = True := q_in (i := 1) (by decide) (by decide)
        have i2 : vp_in (2 : Int32) 4 = True := q_in (i := 2) (by decide) (by decide)
        have i3 : vp_in (3 : Int32) 4 = True := q_in (i := 3) (by decide) (by decide)
        have s0 : (0 : Int32) + 0 = 0 := by decide
        have s1 : (0 : Int32) + 1 = 1 := by decide
        have s2 : (2 : Int32) + 0 = 2 := by decide
        have s3 : (2 : Int32) + 1 = 3 := by decide
        refine run 60 _ _ _ _ ?_
        simp (disch := omega) only [e91_0, e91_1, e91_2, e91_3, e91_5, e91_8, e91_9, e91_12, e91_13, e91_14, e91_17, e91_18, e91_21, e91_22, e91_25, e91_26, e91_27, e91_28, e91_31, e91_32, e91_35, e91_36, e91_37, e91_40, e91_41, e91_42, e91_45, e91_46, e91_49, e91_50, e91_51, e91_52, e91_53, e91_54, e91_55, e91_56, e91_57, e91_60, e91_61, e91_62, e91_63, e91_64, e91_67, e91_68, e91_69, e91_70, e91_73, e91_76, ab_li2, true_or, or_true, true_and, and_true, ab_pus, ab_pun, ab_len0, ab_len1, ab_len2, ab_len3, ab_len4, Nat.zero_add, l12, q_le, q_in, q_cl, e14, e15, q_le0, s0, s1, s2, s3, i0, i1, i2, i3, ab_c0, ab_c1', ab_c2', ab_c3', ab_ud, q_p1]
        refine ⟨fun z => absurd z (by omega), fun _ => ⟨fun g => ?_, fun g => ?_⟩⟩
        · exact ih (i + 1) _ (by omega) (by omega) (jI_a (by decide) (by decide) (by decide) h3 (by rw [ev, g]; rfl))
        · have hn : ¬ μ 74 i = 0 := by rw [ev, q_eq0 (by omega)]; exact g
          refine ⟨fun g1 => ⟨fun g2 => ?_, fun g2 => ?_⟩, fun g1 => ⟨fun g2 => ?_, fun g2 => ?_⟩⟩
          · exact ih (i + 1) _ (by omega) (by omega) (jI_b (by decide) (by decide) (by decide) h3 hn (by unfold jr; rw [ev, if_pos g1, if_pos g2]))
          · exact ih (i + 1) _ (by omega) (by omega) (jI_b (by decide) (by decide) (by decide) h3 hn (by unfold jr; rw [ev, if_pos g1, if_neg g2]))
          · exact ih (i + 1) _ (by omega) (by omega) (jI_b (by decide) (by decide) (by decide) h3 hn (by unfold jr; rw [ev, if_neg g1, if_pos g2]))
          · exact ih (i + 1) _ (by omega) (by omega) (jI_b (by decide) (by decide) (by decide) h3 hn (by unfold jr; rw [ev, if_neg g1, if_neg g2]))
  refine run 2 _ _ _ _ ?_
  simp only [e91_0, e91_1, e91_2, e91_3, e91_5, e91_8, e91_9, e91_12, e91_13, e91_14, e91_17, e91_18, e91_21, e91_22, e91_25, e91_26, e91_27, e91_28, e91_31, e91_32, e91_35, e91_36, e91_37, e91_40, e91_41, e91_42, e91_45, e91_46, e91_49, e91_50, e91_51, e91_52, e91_53, e91_54, e91_55, e91_56, e91_57, e91_60, e91_61, e91_62, e91_63, e91_64, e91_67, e91_68, e91_69, e91_70, e91_73, e91_76, ab_li2, true_or, or_true, true_and, and_true, ab_pus, ab_pun, ab_len0, ab_len1, ab_len2, ab_len3, ab_len4, Nat.zero_add, ab_rn0]
  exact loop 12 0 μ (by decide) (by decide) jI_0
/-- the weather's end of a day, up to a height -/
def eI (μ : ab_M) (i : Nat) (ν : ab_M) : Prop := (∀ j, ν 5 j = if j < i then wA μ j else μ 5 j) ∧ (∀ j, ν 4 j = if j < i then -100 else μ 4 j) ∧ (∀ j, ν 3 j = if j < i then -1 else μ 3 j) ∧ ∀ p, p ≠ 5 → p ≠ 4 → p ≠ 3 → ∀ j, ν p j = μ p j
theorem C48 (h : ∀ ν, eI μ 3 ν → Q none (ab_up ν 2 4 0)) : ab_Cl (d + 3) 48 [.ref 2] μ Q := by
  refine n48 fun J run => ?_
  have loop : ∀ f i ν, 3 - i ≤ f → i ≤ 3 → eI μ i ν → J 2 ν [.ref 2, .int (nI i)] [] := by
    intro f
    induction f with
    | zero =>
      intro i ν h1 h2 h3
      obtain rfl : i = 3 := by omega
      refine run 20 _ _ _ _ ?_
      simp (disch := omega) only [e48_0, e48_1, e48_2, e48_3, e48_4, e48_7, e48_8, e48_11, e48_12, e48_13, e48_14, e48_17, e48_18, e48_19, e48_22, e48_23, e48_25, e48_26, e48_27, e48_30, e48_31, e48_32, e48_33, e48_36, e48_39, e48_40, e48_41, e48_44, ab_li1, true_or, or_true, true_and, and_true, ab_pus, ab_pun, ab_len0, ab_len1, ab_len2, ab_len3, ab_len4, Nat.zero_add, l3, q_le, Nat.le_refl, true_imp_iff, not_true_eq_false, false_imp_iff]
      exact h ν h3
    | succ f ih =>
      intro i ν h1 h2 h3
      by_cases hi : i = 3
      · exact ih i ν (by omega) h2 h3
      · refine run 60 _ _ _ _ ?_
        simp (disch := omega) only [e48_0, e48_1, e48_2, e48_3, e48_4, e48_7, e48_8, e48_11, e48_12, e48_13, e48_14, e48_17, e48_18, e48_19, e48_22, e48_23, e48_25, e48_26, e48_27, e48_30, e48_31, e48_32, e48_33, e48_36, e48_39, e48_40, e48_41, e48_44, ab_li1, true_or, or_true, true_and, and_true, ab_pus, ab_pun, ab_len0, ab_len1, ab_len2, ab_len3, ab_len4, Nat.zero_add, l3, q_le, q_in, q_cl]
        refine ⟨fun z => absurd z (by omega), fun _ => ?_⟩
        refine C44 (by omega) ?_
        simp (disch := omega) only [e48_0, e48_1, e48_2, e48_3, e48_4, e48_7, e48_8, e48_11, e48_12, e48_13, e48_14, e48_17, e48_18, e48_19, e48_22, e48_23, e48_25, e48_26, e48_27, e48_30, e48_31, e48_32, e48_33, e48_36, e48_39, e48_40, e48_41, e48_44, ab_li1, true_or, or_true, true_and, and_true, ab_pus, ab_pun, ab_len0, ab_len1, ab_len2, ab_len3, ab_len4, Nat.zero_add, q_in, q_cl, q_p1]
        obtain ⟨g1, g2, g3, g4⟩ := h3
        have hw : wA ν i = wA μ i := by
          have a1 : ν 5 i = μ 5 i := by rw [g1 i, if_neg (by omega)]
          have a2 : ν 4 i = μ 4 i := by rw [g2 i, if_neg (by omega)]
          unfold wA
          rw [a1, a2]
        refine ih (i + 1) _ (by omega) (by omega) ⟨fun j => ?_, fun j => ?_, fun j => ?_, fun p p1 p2 p3 j => ?_⟩
        · rw [ab_ud (by decide), ab_ud (by decide)]
          by_cases e : j = i
          · subst e; rw [ab_up_eq, hw, if_pos (by omega)]
          · rw [ab_uo e, g1]; split <;> split <;> first | rfl | omega
        · rw [ab_ud (by decide)]
          by_cases e : j = i
          · subst e; rw [ab_up_eq, if_pos (by omega)]
          · rw [ab_uo e, ab_ud (by decide), g2]; split <;> split <;> first | rfl | omega
        · by_cases e : j = i
          · subst e; rw [ab_up_eq, if_pos (by omega)]
          · rw [ab_uo e, ab_ud (by decide), ab_ud (by decide), g3]; split <;> split <;> first | rfl | omega
        · rw [ab_ud p3, ab_ud p2, ab_ud p1, g4 p p1 p2 p3]
  refine run 2 _ _ _ _ ?_
  simp only [e48_0, e48_1, e48_2, e48_3, e48_4, e48_7, e48_8, e48_11, e48_12, e48_13, e48_14, e48_17, e48_18, e48_19, e48_22, e48_23, e48_25, e48_26, e48_27, e48_30, e48_31, e48_32, e48_33, e48_36, e48_39, e48_40, e48_41, e48_44, ab_li1, true_or, or_true, true_and, and_true, ab_pus, ab_pun, ab_len0, ab_len1, ab_len2, ab_len3, ab_len4, Nat.zero_add, ab_rn0]
  exact loop 3 0 μ (by decide) (by decide) ⟨fun j => by simp, fun j => by simp, fun j => by simp, fun _ _ _ _ _ => rfl⟩
end JUD
