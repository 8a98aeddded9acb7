def rP2 (μ : ab_M) (a b : Nat) (PK PZ : Nat → Nat) (n : Nat) : Prop := ∀ p, p < n → μ a p = nI (PK p) ∧ μ b p = nI (PZ p) ∧ PK p < 12 ∧ PZ p ≤ 2
def shB (X : Nat → List ly) (PK PZ : Nat → Nat) : Nat → Int32
  | 0 => 0
  | p + 1 => if 2 ≤ lk (X (PK p)) ∧ PZ p ≤ sz (X (PK p)) then shB X PK PZ p ||| ((1 : Int32) <<< (nI p &&& 31)) else shB X PK PZ p
def lnd (PK PZ : Nat → Nat) (c : Nat) : Nat → Nat
  | 0 => 3
  | p + 1 => if PK p = c then min (lnd PK PZ c p) (PZ p) else lnd PK PZ c p
def exB (L : List ly) (PK PZ : Nat → Nat) (c : Nat) : Nat → Bool
  | 0 => false
  | p + 1 => exB L PK PZ c p || decide (PK p = c ∧ 2 ≤ lk L ∧ PZ p ≤ sz L)
def zB (b : Bool) : Int32 := match b with
  | true => 1
  | false => 0
theorem zB_t : zB true = 1 := rfl
theorem zB_f : zB false = 0 := rfl
theorem lnd_le (PK PZ : Nat → Nat) (c p : Nat) : lnd PK PZ c p ≤ 3 := by
  induction p with
  | zero => exact Nat.le_refl _
  | succ p ih => simp only [lnd]; split <;> omega
theorem exB_iff (L : List ly) (PK PZ : Nat → Nat) (c p : Nat) : exB L PK PZ c p = true ↔ (2 ≤ lk L ∧ lnd PK PZ c p ≤ sz L) := by
  have hz := sz_le L
  induction p with
  | zero =>
    simp only [exB, lnd]
    constructor
    · intro h; cases h
    · intro h; omega
  | succ p ih =>
    simp only [exB, lnd, Bool.or_eq_true, ih, decide_eq_true_eq]
    split
    · next e => constructor <;> intro h <;> omega
    · next e => constructor <;> intro h <;> first | exact Or.inl h | (rcases h with h | h; exact h; exact absurd h.1 e)
/-- what is left behind a shot -/
def aft (L : List ly) : List ly := match whyL L with
  | none => L
  | some q => L.take (q.1 + 1)
def sho (X : Nat → List ly) (PK PZ : Nat → Nat) (np : Nat) : Nat → Option Nat
  | 0 => some 0
  | c + 1 => match sho X PK PZ np c with
    | none => none
    | some n => if exB (X c) PK PZ c np = true then (if exB (aft (X c)) PK PZ c np = true then none else some (n + 1)) else some n
theorem sho_none {X : Nat → List ly} {PK PZ : Nat → Nat} {np k : Nat} (h : sho X PK PZ np k = none) : ∀ m, sho X PK PZ np (k + m) = none := by
  intro m
  induction m with
  | zero => exact h
  | succ m ih => rw [← Nat.add_assoc]; simp only [sho, ih]
theorem sho_le {X : Nat → List ly} {PK PZ : Nat → Nat} {np : Nat} : ∀ k n, sho X PK PZ np k = some n → n ≤ k := by
  intro k
  induction k with
  | zero => intro n h; cases h; exact Nat.le_refl _
  | succ k ih =>
    intro n h
    simp only [sho] at h
    cases hs : sho X PK PZ np k with
    | none => rw [hs] at h; cases h
    | some m =>
      have := ih m hs
      rw [hs] at h
      dsimp only at h
      split at h
      · split at h
        · cases h
        · cases h; omega
      · cases h; omega
theorem okL_take {L : List ly} {k : Nat} (h : okL L) : okL (L.take k) := by
  refine ⟨fun i hi => ?_, Nat.le_trans (sm_take_le _ _) h.2⟩
  rw [List.length_take] at hi
  rw [kd_take (by omega), ms_take (by omega), ag_take (by omega)]
  exact h.1 i (by omega)
theorem ab_back {μ : ab_M} {p i : Nat} {v : Int32} : ab_up (ab_up μ p i v) p i (μ p i) = μ := by
  funext q j
  unfold ab_up
  by_cases h1 : q = p
  · subst h1
    by_cases h2 : j = i
    · subst h2; simp
    · simp [h2]
  · simp [h1]
section SHO
variable {d np : Nat} {μ : ab_M} {Q : ab_Q} {X : Nat → List ly} {PK PZ : Nat → Nat}
theorem C5 (h : Q (some (μ 6 2)) μ) : ab_Cl (d + 1) 5 [.ref 6] μ Q := by
  refine n5 fun J run => run 20 _ _ _ _ ?_
  simp only [e5_0, e5_1, e5_4, ab_li1, true_or, or_true, true_and, and_true, ab_pus, ab_pun, ab_len0, ab_len1, ab_len2, ab_len3, ab_len4, Nat.zero_add]
  exact h
theorem C7 {p : Nat} (hn : np ≤ 10) (hp : p < np) (hnum : μ 6 2 = nI np) (hR : rP2 μ 7 8 PK PZ np) (h : Q (some (nI (PK p))) μ) : ab_Cl (d + 1) 7 [.ref 6, .int (nI p)] μ Q := by
  refine n7 fun J run => run 20 _ _ _ _ ?_
  have hnp : ¬ np ≤ p := by omega
  simp (disch := omega) only [e7_0, e7_1, e7_4, e7_5, e7_6, e7_9, e7_12, e7_13, e7_16, e7_17, e7_18, e7_21, e7_22, ab_li1, true_or, or_true, true_and, and_true, ab_pus, ab_pun, ab_len0, ab_len1, ab_len2, ab_len3, ab_len4, Nat.zero_add, q_lt0, hnum, q_le, hnp, q_in, q_cl, (hR p hp).1, not_true_eq_false, false_imp_iff, not_false_eq_true, true_imp_iff]
  exact h
theorem C8 {p : Nat} (hn : np ≤ 10) (hp : p < np) (hnum : μ 6 2 = nI np) (hR : rP2 μ 7 8 PK PZ np) (h : Q (some (nI (PZ p))) μ) : ab_Cl (d + 1) 8 [.ref 6, .int (nI p)] μ Q := by
  refine n8 fun J run => run 20 _ _ _ _ ?_
  have hnp : ¬ np ≤ p := by omega
  simp (disch := omega) only [e8_0, e8_1, e8_4, e8_5, e8_6, e8_9, e8_12, e8_13, e8_16, e8_17, e8_18, e8_21, e8_22, ab_li1, true_or, or_true, true_and, and_true, ab_pus, ab_pun, ab_len0, ab_len1, ab_len2, ab_len3, ab_len4, Nat.zero_add, q_lt0, hnum, q_le, hnp, q_in, q_cl, (hR p hp).2.1, not_true_eq_false, false_imp_iff, not_false_eq_true, true_imp_iff]
  exact h
theorem C9 {c : Nat} (hc : c < 12) (hn : np ≤ 10) (hnum : μ 6 2 = nI np) (hR : rP2 μ 7 8 PK PZ np) (h : Q (some (nI (lnd PK PZ c np))) μ) : ab_Cl (d + 1) 9 [.ref 6, .int (nI c)] μ Q := by
  refine n9 fun J run => ?_
  have loop : ∀ f i, np - i ≤ f → i ≤ np → J 4 μ [.ref 6, .int (nI c), .int (nI (lnd PK PZ c i)), .int (nI i)] [] := by
    intro f
    induction f with
    | zero =>
      intro i h1 h2
      obtain rfl : i = np := by omega
      refine run 20 _ _ _ _ ?_
      simp (disch := omega) only [e9_0, e9_1, e9_2, e9_3, e9_4, e9_5, e9_6, e9_9, e9_12, e9_13, e9_16, e9_17, e9_18, e9_19, e9_22, e9_23, e9_24, e9_27, e9_28, e9_29, e9_32, e9_33, e9_36, e9_39, e9_40, ab_li1, true_or, or_true, true_and, and_true, ab_pus, ab_pun, ab_len0, ab_len1, ab_len2, ab_len3, ab_len4, Nat.zero_add, hnum, q_le, Nat.le_refl, true_imp_iff, not_true_eq_false, false_imp_iff]
      exact h
    | succ f ih =>
      intro i h1 h2
      by_cases hi : i = np
      · exact ih i (by omega) h2
      · obtain ⟨r1, r2, r3, r4⟩ := hR i (by omega)
        have hl := lnd_le PK PZ c i
        refine run 40 _ _ _ _ ?_
        simp (disch := omega) only [e9_0, e9_1, e9_2, e9_3, e9_4, e9_5, e9_6, e9_9, e9_12, e9_13, e9_16, e9_17, e9_18, e9_19, e9_22, e9_23, e9_24, e9_27, e9_28, e9_29, e9_32, e9_33, e9_36, e9_39, e9_40, ab_li1, true_or, or_true, true_and, and_true, ab_pus, ab_pun, ab_len0, ab_len1, ab_len2, ab_len3, ab_len4, Nat.zero_add, hnum, q_le, q_in, q_cl, r1, r2, q_eq, q_min, q_p1]
        have nx := ih (i + 1) (by omega) (by omega)
        simp only [lnd] at nx
        refine ⟨fun z => absurd z (by omega), fun _ => ⟨fun g => ?_, fun g => ?_⟩⟩
        · rw [if_neg g] at nx; exact nx
        · rw [if_pos (Classical.not_not.mp g)] at nx; exact nx
  refine run 4 _ _ _ _ ?_
  simp only [e9_0, e9_1, e9_2, e9_3, e9_4, e9_5, e9_6, e9_9, e9_12, e9_13, e9_16, e9_17, e9_18, e9_19, e9_22, e9_23, e9_24, e9_27, e9_28, e9_29, e9_32, e9_33, e9_36, e9_39, e9_40, ab_li1, true_or, or_true, true_and, and_true, ab_pus, ab_pun, ab_len0, ab_len1, ab_len2, ab_len3, ab_len4, Nat.zero_add, ab_rn0]
  exact loop np 0 (by omega) (by omega)
theorem C59 (hX : aC μ X) (ho : ∀ c, c < 12 → okL (X c)) (hn : np ≤ 10) (hnum : μ 6 2 = nI np) (hR : rP2 μ 7 8 PK PZ np) (h : Q (some (shB X PK PZ np)) μ) : ab_Cl (d + 5) 59 [.ref 0] μ Q := by
  refine n59 fun J run => ?_
  have loop : ∀ f i x, np - i ≤ f → i ≤ np → J 4 μ [.ref 0, .int (shB X PK PZ i), .int (nI i), x] [] := by
    intro f
    induction f with
    | zero =>
      intro i x h1 h2
      obtain rfl : i = np := by omega
      refine run 20 _ _ _ _ ?_
      simp only [e59_0, e59_1, e59_2, e59_3, e59_4, e59_5, e59_6, e59_9, e59_12, e59_15, e59_16, e59_19, e59_20, e59_23, e59_24, e59_25, e59_28, e59_31, e59_32, e59_35, e59_36, e59_37, e59_38, e59_41, e59_42, e59_45, e59_46, e59_49, e59_50, e59_51, e59_54, e59_57, e59_60, e59_61, e59_62, e59_63, e59_64, e59_65, e59_66, e59_69, e59_72, e59_73, ab_li1, true_or, or_true, true_and, and_true, ab_pus, ab_pun, ab_len0, ab_len1, ab_len2, ab_len3, ab_len4, Nat.zero_add]
      refine C5 ?_
      simp (disch := omega) only [e59_0, e59_1, e59_2, e59_3, e59_4, e59_5, e59_6, e59_9, e59_12, e59_15, e59_16, e59_19, e59_20, e59_23, e59_24, e59_25, e59_28, e59_31, e59_32, e59_35, e59_36, e59_37, e59_38, e59_41, e59_42, e59_45, e59_46, e59_49, e59_50, e59_51, e59_54, e59_57, e59_60, e59_61, e59_62, e59_63, e59_64, e59_65, e59_66, e59_69, e59_72, e59_73, ab_li1, true_or, or_true, true_and, and_true, ab_pus, ab_pun, ab_len0, ab_len1, ab_len2, ab_len3, ab_len4, Nat.zero_add, hnum, q_le, Nat.le_refl, true_imp_iff, not_true_eq_false, false_imp_iff]
      exact h
    | succ f ih =>
      intro i x h1 h2
      by_cases hi : i = np
      · exact ih i x (by omega) h2
      · obtain ⟨r1, r2, r3, r4⟩ := hR i (by omega)
        have nx := ih (i + 1) (.int (nI (PK i))) (by omega) (by omega)
        simp only [shB] at nx
        refine run 60 _ _ _ _ ?_
        simp only [e59_0, e59_1, e59_2, e59_3, e59_4, e59_5, e59_6, e59_9, e59_12, e59_15, e59_16, e59_19, e59_20, e59_23, e59_24, e59_25, e59_28, e59_31, e59_32, e59_35, e59_36, e59_37, e59_38, e59_41, e59_42, e59_45, e59_46, e59_49, e59_50, e59_51, e59_54, e59_57, e59_60, e59_61, e59_62, e59_63, e59_64, e59_65, e59_66, e59_69, e59_72, e59_73, ab_li1, true_or, or_true, true_and, and_true, ab_pus, ab_pun, ab_len0, ab_len1, ab_len2, ab_len3, ab_len4, Nat.zero_add]
        refine C5 ?_
        simp (disch := omega) only [e59_0, e59_1, e59_2, e59_3, e59_4, e59_5, e59_6, e59_9, e59_12, e59_15, e59_16, e59_19, e59_20, e59_23, e59_24, e59_25, e59_28, e59_31, e59_32, e59_35, e59_36, e59_37, e59_38, e59_41, e59_42, e59_45, e59_46, e59_49, e59_50, e59_51, e59_54, e59_57, e59_60, e59_61, e59_62, e59_63, e59_64, e59_65, e59_66, e59_69, e59_72, e59_73, ab_li1, true_or, or_true, true_and, and_true, ab_pus, ab_pun, ab_len0, ab_len1, ab_len2, ab_len3, ab_len4, Nat.zero_add, hnum, q_le]
        refine ⟨fun z => absurd z (by omega), fun _ => ?_⟩
        refine C7 hn (by omega) hnum hR ?_
        simp (disch := omega) only [e59_0, e59_1, e59_2, e59_3, e59_4, e59_5, e59_6, e59_9, e59_12, e59_15, e59_16, e59_19, e59_20, e59_23, e59_24, e59_25, e59_28, e59_31, e59_32, e59_35, e59_36, e59_37, e59_38, e59_41, e59_42, e59_45, e59_46, e59_49, e59_50, e59_51, e59_54, e59_57, e59_60, e59_61, e59_62, e59_63, e59_64, e59_65, e59_66, e59_69, e59_72, e59_73, ab_li1, true_or, or_true, true_and, and_true, ab_pus, ab_pun, ab_len0, ab_len1, ab_len2, ab_len3, ab_len4, Nat.zero_add]
        refine C69n r3 ?_
        simp (disch := omega) only [e59_0, e59_1, e59_2, e59_3, e59_4, e59_5, e59_6, e59_9, e59_12, e59_15, e59_16, e59_19, e59_20, e59_23, e59_24, e59_25, e59_28, e59_31, e59_32, e59_35, e59_36, e59_37, e59_38, e59_41, e59_42, e59_45, e59_46, e59_49, e59_50, e59_51, e59_54, e59_57, e59_60, e59_61, e59_62, e59_63, e59_64, e59_65, e59_66, e59_69, e59_72, e59_73, ab_li1, true_or, or_true, true_and, and_true, ab_pus, ab_pun, ab_len0, ab_len1, ab_len2, ab_len3, ab_len4, Nat.zero_add, z01, false_imp_iff, not_false_eq_true, true_imp_iff, q_in, q_cl, ab_sl r3]
        refine C8 hn (by omega) hnum hR ?_
        simp (disch := omega) only [e59_0, e59_1, e59_2, e59_3, e59_4, e59_5, e59_6, e59_9, e59_12, e59_15, e59_16, e59_19, e59_20, e59_23, e59_24, e59_25, e59_28, e59_31, e59_32, e59_35, e59_36, e59_37, e59_38, e59_41, e59_42, e59_45, e59_46, e59_49, e59_50, e59_51, e59_54, e59_57, e59_60, e59_61, e59_62, e59_63, e59_64, e59_65, e59_66, e59_69, e59_72, e59_73, ab_li1, true_or, or_true, true_and, and_true, ab_pus, ab_pun, ab_len0, ab_len1, ab_len2, ab_len3, ab_len4, Nat.zero_add, q_in, q_cl, ab_sl r3]
        refine C10 r3 (hX _ r3) ?_
        simp (disch := omega) only [e59_0, e59_1, e59_2, e59_3, e59_4, e59_5, e59_6, e59_9, e59_12, e59_15, e59_16, e59_19, e59_20, e59_23, e59_24, e59_25, e59_28, e59_31, e59_32, e59_35, e59_36, e59_37, e59_38, e59_41, e59_42, e59_45, e59_46, e59_49, e59_50, e59_51, e59_54, e59_57, e59_60, e59_61, e59_62, e59_63, e59_64, e59_65, e59_66, e59_69, e59_72, e59_73, ab_li1, true_or, or_true, true_and, and_true, ab_pus, ab_pun, ab_len0, ab_len1, ab_len2, ab_len3, ab_len4, Nat.zero_add, ab_sl r3]
        refine C20 r3 (hX _ r3) (ho _ r3) (Nat.le_refl _) (by omega) ?_
        rw [List.take_length]
        by_cases hg : 2 ≤ lk (X (PK i)) ∧ PZ i ≤ sz (X (PK i))
        · rw [if_pos hg] at nx ⊢
          simp (disch := omega) only [e59_0, e59_1, e59_2, e59_3, e59_4, e59_5, e59_6, e59_9, e59_12, e59_15, e59_16, e59_19, e59_20, e59_23, e59_24, e59_25, e59_28, e59_31, e59_32, e59_35, e59_36, e59_37, e59_38, e59_41, e59_42, e59_45, e59_46, e59_49, e59_50, e59_51, e59_54, e59_57, e59_60, e59_61, e59_62, e59_63, e59_64, e59_65, e59_66, e59_69, e59_72, e59_73, ab_li1, true_or, or_true, true_and, and_true, ab_pus, ab_pun, ab_len0, ab_len1, ab_len2, ab_len3, ab_len4, Nat.zero_add, z01, false_imp_iff, not_false_eq_true, true_imp_iff, q_p1]
          exact nx
        · rw [if_neg hg] at nx ⊢
          simp (disch := omega) only [e59_0, e59_1, e59_2, e59_3, e59_4, e59_5, e59_6, e59_9, e59_12, e59_15, e59_16, e59_19, e59_20, e59_23, e59_24, e59_25, e59_28, e59_31, e59_32, e59_35, e59_36, e59_37, e59_38, e59_41, e59_42, e59_45, e59_46, e59_49, e59_50, e59_51, e59_54, e59_57, e59_60, e59_61, e59_62, e59_63, e59_64, e59_65, e59_66, e59_69, e59_72, e59_73, ab_li1, true_or, or_true, true_and, and_true, ab_pus, ab_pun, ab_len0, ab_len1, ab_len2, ab_len3, ab_len4, Nat.zero_add, not_true_eq_false, false_imp_iff, true_imp_iff, q_p1]
          exact nx
  refine run 4 _ _ _ _ ?_
  simp only [e59_0, e59_1, e59_2, e59_3, e59_4, e59_5, e59_6, e59_9, e59_12, e59_15, e59_16, e59_19, e59_20, e59_23, e59_24, e59_25, e59_28, e59_31, e59_32, e59_35, e59_36, e59_37, e59_38, e59_41, e59_42, e59_45, e59_46, e59_49, e59_50, e59_51, e59_54, e59_57, e59_60, e59_61, e59_62, e59_63, e59_64, e59_65, e59_66, e59_69, e59_72, e59_73, ab_li1, true_or, or_true, true_and, and_true, ab_pus, ab_pun, ab_len0, ab_len1, ab_len2, ab_len3, ab_len4, Nat.zero_add, ab_rn0]
  exact loop np 0 _ (by omega) (by omega)
theorem C107 {p : Nat} (hX : aM μ X) (ho : ∀ c, c < 12 → okL (X c)) (hn : np ≤ 10) (hp : p < np) (hR : rP2 μ 76 77 PK PZ np) (h : Q (some (if 2 ≤ lk (X (PK p)) ∧ PZ p ≤ sz (X (PK p)) then 1 else 0)) μ) : ab_Cl (d + 5) 107 [.ref 65, .int (nI p)] μ Q := by
  obtain ⟨r1, r2, r3, r4⟩ := hR p hp
  have hl := lk_le (X (PK p))
  have hz := sz_le (X (PK p))
  refine n107 fun J run => run 40 _ _ _ _ ?_
  simp (disch := omega) only [e107_0, e107_1, e107_2, e107_5, e107_6, e107_7, e107_10, e107_11, e107_14, e107_15, e107_16, e107_19, e107_20, e107_21, e107_24, e107_25, e107_28, e107_29, e107_30, e107_33, e107_34, e107_37, e107_38, ab_li2, true_or, or_true, true_and, and_true, ab_pus, ab_pun, ab_len0, ab_len1, ab_len2, ab_len3, ab_len4, Nat.zero_add, q_in, q_cl, r1]
  refine C98 r3 (hX _ r3) (ho _ r3) ?_
  simp (disch := omega) only [e107_0, e107_1, e107_2, e107_5, e107_6, e107_7, e107_10, e107_11, e107_14, e107_15, e107_16, e107_19, e107_20, e107_21, e107_24, e107_25, e107_28, e107_29, e107_30, e107_33, e107_34, e107_37, e107_38, ab_li2, true_or, or_true, true_and, and_true, ab_pus, ab_pun, ab_len0, ab_len1, ab_len2, ab_len3, ab_len4, Nat.zero_add, q_in, q_cl, r1, l2, q_lt]
  refine ⟨fun g => ?_, fun g => ?_⟩
  · rw [if_neg (by omega)] at h; exact h
  · refine C99 r3 (hX _ r3) (ho _ r3) ?_
    simp (disch := omega) only [e107_0, e107_1, e107_2, e107_5, e107_6, e107_7, e107_10, e107_11, e107_14, e107_15, e107_16, e107_19, e107_20, e107_21, e107_24, e107_25, e107_28, e107_29, e107_30, e107_33, e107_34, e107_37, e107_38, ab_li2, true_or, or_true, true_and, and_true, ab_pus, ab_pun, ab_len0, ab_len1, ab_len2, ab_len3, ab_len4, Nat.zero_add, q_in, q_cl, r2, q_lt]
    refine ⟨fun g => ?_, fun g => ?_⟩
    · rw [if_neg (by omega)] at h; exact h
    · rw [if_pos (by omega)] at h; exact h
theorem C108 (hX : aM μ X) (ho : ∀ c, c < 12 → okL (X c)) (hn : np ≤ 10) (hnum : μ 65 16 = nI np) (hR : rP2 μ 76 77 PK PZ np) (h : Q (some (shB X PK PZ np)) μ) : ab_Cl (d + 6) 108 [.ref 65] μ Q := by
  refine n108 fun J run => ?_
  have loop : ∀ f i, np - i ≤ f → i ≤ np → J 4 μ [.ref 65, .int (shB X PK PZ i), .int (nI i)] [] := by
    intro f
    induction f with
    | zero =>
      intro i h1 h2
      obtain rfl : i = np := by omega
      refine run 20 _ _ _ _ ?_
      simp (disch := omega) only [e108_0, e108_1, e108_2, e108_3, e108_4, e108_5, e108_6, e108_9, e108_12, e108_13, e108_14, e108_15, e108_18, e108_21, e108_22, e108_23, e108_24, e108_27, e108_28, e108_29, e108_30, e108_33, e108_36, e108_37, ab_li2, true_or, or_true, true_and, and_true, ab_pus, ab_pun, ab_len0, ab_len1, ab_len2, ab_len3, ab_len4, Nat.zero_add, hnum, q_le, Nat.le_refl, true_imp_iff, not_true_eq_false, false_imp_iff]
      exact h
    | succ f ih =>
      intro i h1 h2
      by_cases hi : i = np
      · exact ih i (by omega) h2
      · have nx := ih (i + 1) (by omega) (by omega)
        simp only [shB] at nx
        refine run 60 _ _ _ _ ?_
        simp (disch := omega) only [e108_0, e108_1, e108_2, e108_3, e108_4, e108_5, e108_6, e108_9, e108_12, e108_13, e108_14, e108_15, e108_18, e108_21, e108_22, e108_23, e108_24, e108_27, e108_28, e108_29, e108_30, e108_33, e108_36, e108_37, ab_li2, true_or, or_true, true_and, and_true, ab_pus, ab_pun, ab_len0, ab_len1, ab_len2, ab_len3, ab_len4, Nat.zero_add, hnum, q_le]
        refine ⟨fun z => absurd z (by omega), fun _ => ?_⟩
        refine C107 hX ho hn (show i < np by omega) hR ?_
        by_cases hg : 2 ≤ lk (X (PK i)) ∧ PZ i ≤ sz (X (PK i))
        · rw [if_pos hg] at nx ⊢
          simp (disch := omega) only [e108_0, e108_1, e108_2, e108_3, e108_4, e108_5, e108_6, e108_9, e108_12, e108_13, e108_14, e108_15, e108_18, e108_21, e108_22, e108_23, e108_24, e108_27, e108_28, e108_29, e108_30, e108_33, e108_36, e108_37, ab_li2, true_or, or_true, true_and, and_true, ab_pus, ab_pun, ab_len0, ab_len1, ab_len2, ab_len3, ab_len4, Nat.zero_add, z01, false_imp_iff, not_false_eq_true, true_imp_iff, q_p1]
          exact nx
        · rw [if_neg hg] at nx ⊢
          simp (disch := omega) only [e108_0, e108_1, e108_2, e108_3, e108_4, e108_5, e108_6, e108_9, e108_12, e108_13, e108_14, e108_15, e108_18, e108_21, e108_22, e108_23, e108_24, e108_27, e108_28, e108_29, e108_30, e108_33, e108_36, e108_37, ab_li2, true_or, or_true, true_and, and_true, ab_pus, ab_pun, ab_len0, ab_len1, ab_len2, ab_len3, ab_len4, Nat.zero_add, not_true_eq_false, false_imp_iff, true_imp_iff, q_p1, Int32.or_zero]
          exact nx
  refine run 4 _ _ _ _ ?_
  simp only [e108_0, e108_1, e108_2, e108_3, e108_4, e108_5, e108_6, e108_9, e108_12, e108_13, e108_14, e108_15, e108_18, e108_21, e108_22, e108_23, e108_24, e108_27, e108_28, e108_29, e108_30, e108_33, e108_36, e108_37, ab_li2, true_or, or_true, true_and, and_true, ab_pus, ab_pun, ab_len0, ab_len1, ab_len2, ab_len3, ab_len4, Nat.zero_add, ab_rn0]
  exact loop np 0 (by omega) (by omega)
theorem C60 (hX : aC μ X) (ho : ∀ c, c < 12 → okL (X c)) (hn : np ≤ 10) (hnum : μ 6 2 = nI np) (hR : rP2 μ 7 8 PK PZ np) (h : Q (some (oi (sho X PK PZ np 12))) μ) : ab_Cl (d + 5) 60 [.ref 0] μ Q := by
  refine n60 fun J run => ?_
  have loop : ∀ f i n x y z, 12 - i ≤ f → i ≤ 12 → sho X PK PZ np i = some n → J 4 μ [.ref 0, .int (nI n), .int (nI i), x, y, z] [] := by
    intro f
    induction f with
    | zero =>
      intro i n x y z h1 h2 h3
      obtain rfl : i = 12 := by omega
      refine run 20 _ _ _ _ ?_
      simp (disch := omega) only [e60_0, e60_1, e60_2, e60_3, e60_4, e60_5, e60_7, e60_10, e60_11, e60_14, e60_15, e60_16, e60_17, e60_18, e60_21, e60_22, e60_25, e60_27, e60_28, e60_31, e60_33, e60_34, e60_36, e60_38, e60_41, e60_44, e60_45, e60_47, e60_48, e60_50, e60_53, e60_54, e60_55, e60_58, e60_61, e60_62, e60_63, e60_66, e60_69, e60_72, e60_73, ab_li1, true_or, or_true, true_and, and_true, ab_pus, ab_pun, ab_len0, ab_len1, ab_len2, ab_len3, ab_len4, Nat.zero_add, l12, q_le, Nat.le_refl, true_imp_iff, not_true_eq_false, false_imp_iff]
      rw [h3] at h
      exact h
    | succ f ih =>
      intro i n x y z h1 h2 h3
      by_cases hi : i = 12
      · exact ih i n x y z (by omega) h2 h3
      · have hc : i < 12 := by omega
        have hl := lnd_le PK PZ i np
        have hu : sho X PK PZ np (i + 1) = if exB (X i) PK PZ i np = true then (if exB (aft (X i)) PK PZ i np = true then none else some (n + 1)) else some n := by simp only [sho, h3]
        refine run 60 _ _ _ _ ?_
        simp (disch := omega) only [e60_0, e60_1, e60_2, e60_3, e60_4, e60_5, e60_7, e60_10, e60_11, e60_14, e60_15, e60_16, e60_17, e60_18, e60_21, e60_22, e60_25, e60_27, e60_28, e60_31, e60_33, e60_34, e60_36, e60_38, e60_41, e60_44, e60_45, e60_47, e60_48, e60_50, e60_53, e60_54, e60_55, e60_58, e60_61, e60_62, e60_63, e60_66, e60_69, e60_72, e60_73, ab_li1, true_or, or_true, true_and, and_true, ab_pus, ab_pun, ab_len0, ab_len1, ab_len2, ab_len3, ab_len4, Nat.zero_add, l12, q_le, q_in, q_cl, ab_sl hc]
        refine ⟨fun z => absurd z (by omega), fun _ => ?_⟩
        refine C9 hc hn hnum hR ?_
        simp (disch := omega) only [e60_0, e60_1, e60_2, e60_3, e60_4, e60_5, e60_7, e60_10, e60_11, e60_14, e60_15, e60_16, e60_17, e60_18, e60_21, e60_22, e60_25, e60_27, e60_28, e60_31, e60_33, e60_34, e60_36, e60_38, e60_41, e60_44, e60_45, e60_47, e60_48, e60_50, e60_53, e60_54, e60_55, e60_58, e60_61, e60_62, e60_63, e60_66, e60_69, e60_72, e60_73, ab_li1, true_or, or_true, true_and, and_true, ab_pus, ab_pun, ab_len0, ab_len1, ab_len2, ab_len3, ab_len4, Nat.zero_add, ab_sl hc]
        refine C10 hc (hX i hc) ?_
        simp (disch := omega) only [e60_0, e60_1, e60_2, e60_3, e60_4, e60_5, e60_7, e60_10, e60_11, e60_14, e60_15, e60_16, e60_17, e60_18, e60_21, e60_22, e60_25, e60_27, e60_28, e60_31, e60_33, e60_34, e60_36, e60_38, e60_41, e60_44, e60_45, e60_47, e60_48, e60_50, e60_53, e60_54, e60_55, e60_58, e60_61, e60_62, e60_63, e60_66, e60_69, e60_72, e60_73, ab_li1, true_or, or_true, true_and, and_true, ab_pus, ab_pun, ab_len0, ab_len1, ab_len2, ab_len3, ab_len4, Nat.zero_add, ab_sl hc]
        refine C20 hc (hX i hc) (ho i hc) (Nat.le_refl _) hl ?_
        rw [List.take_length]
        by_cases hA : 2 ≤ lk (X i) ∧ lnd PK PZ i np ≤ sz (X i)
        · rw [if_pos hA]
          rw [if_pos ((exB_iff _ _ _ _ _).mpr hA)] at hu
          simp (disch := omega) only [e60_0, e60_1, e60_2, e60_3, e60_4, e60_5, e60_7, e60_10, e60_11, e60_14, e60_15, e60_16, e60_17, e60_18, e60_21, e60_22, e60_25, e60_27, e60_28, e60_31, e60_33, e60_34, e60_36, e60_38, e60_41, e60_44, e60_45, e60_47, e60_48, e60_50, e60_53, e60_54, e60_55, e60_58, e60_61, e60_62, e60_63, e60_66, e60_69, e60_72, e60_73, ab_li1, true_or, or_true, true_and, and_true, ab_pus, ab_pun, ab_len0, ab_len1, ab_len2, ab_len3, ab_len4, Nat.zero_add, ab_sl hc, z01, false_imp_iff, not_false_eq_true, true_imp_iff]
          obtain ⟨q, hq, hq1⟩ := lk_why hA.1
          refine C17f hc (hX i hc) (ho i hc) ?_
          have haf : aft (X i) = (X i).take (q.1 + 1) := by unfold aft; rw [hq]
          rw [hq, show wI (some q) 0 = nI q.1 by simp [wI]]
          simp (disch := omega) only [e60_0, e60_1, e60_2, e60_3, e60_4, e60_5, e60_7, e60_10, e60_11, e60_14, e60_15, e60_16, e60_17, e60_18, e60_21, e60_22, e60_25, e60_27, e60_28, e60_31, e60_33, e60_34, e60_36, e60_38, e60_41, e60_44, e60_45, e60_47, e60_48, e60_50, e60_53, e60_54, e60_55, e60_58, e60_61, e60_62, e60_63, e60_66, e60_69, e60_72, e60_73, ab_li1, true_or, or_true, true_and, and_true, ab_pus, ab_pun, ab_len0, ab_len1, ab_len2, ab_len3, ab_len4, Nat.zero_add, ab_sl hc, q_p1]
          refine C20 hc (hX i hc) (ho i hc) (show q.1 + 1 ≤ _ by omega) hl ?_
          rw [haf] at hu
          by_cases hB : 2 ≤ lk ((X i).take (q.1 + 1)) ∧ lnd PK PZ i np ≤ sz ((X i).take (q.1 + 1))
          · rw [if_pos hB]
            rw [if_pos ((exB_iff _ _ _ _ _).mpr hB)] at hu
            simp (disch := omega) only [e60_0, e60_1, e60_2, e60_3, e60_4, e60_5, e60_7, e60_10, e60_11, e60_14, e60_15, e60_16, e60_17, e60_18, e60_21, e60_22, e60_25, e60_27, e60_28, e60_31, e60_33, e60_34, e60_36, e60_38, e60_41, e60_44, e60_45, e60_47, e60_48, e60_50, e60_53, e60_54, e60_55, e60_58, e60_61, e60_62, e60_63, e60_66, e60_69, e60_72, e60_73, ab_li1, true_or, or_true, true_and, and_true, ab_pus, ab_pun, ab_len0, ab_len1, ab_len2, ab_len3, ab_len4, Nat.zero_add, z01, false_imp_iff, not_false_eq_true, true_imp_iff]
            have := sho_none hu (12 - (i + 1))
            rw [show i + 1 + (12 - (i + 1)) = 12 by omega] at this
            rw [this] at h
            exact h
          · rw [if_neg hB]
            rw [if_neg (fun z => hB ((exB_iff _ _ _ _ _).mp z))] at hu
            simp (disch := omega) only [e60_0, e60_1, e60_2, e60_3, e60_4, e60_5, e60_7, e60_10, e60_11, e60_14, e60_15, e60_16, e60_17, e60_18, e60_21, e60_22, e60_25, e60_27, e60_28, e60_31, e60_33, e60_34, e60_36, e60_38, e60_41, e60_44, e60_45, e60_47, e60_48, e60_50, e60_53, e60_54, e60_55, e60_58, e60_61, e60_62, e60_63, e60_66, e60_69, e60_72, e60_73, ab_li1, true_or, or_true, true_and, and_true, ab_pus, ab_pun, ab_len0, ab_len1, ab_len2, ab_len3, ab_len4, Nat.zero_add, not_true_eq_false, false_imp_iff, true_imp_iff, q_p1]
            exact ih (i + 1) (n + 1) _ _ _ (by omega) (by omega) hu
        · rw [if_neg hA]
          rw [if_neg (fun z => hA ((exB_iff _ _ _ _ _).mp z))] at hu
          simp (disch := omega) only [e60_0, e60_1, e60_2, e60_3, e60_4, e60_5, e60_7, e60_10, e60_11, e60_14, e60_15, e60_16, e60_17, e60_18, e60_21, e60_22, e60_25, e60_27, e60_28, e60_31, e60_33, e60_34, e60_36, e60_38, e60_41, e60_44, e60_45, e60_47, e60_48, e60_50, e60_53, e60_54, e60_55, e60_58, e60_61, e60_62, e60_63, e60_66, e60_69, e60_72, e60_73, ab_li1, true_or, or_true, true_and, and_true, ab_pus, ab_pun, ab_len0, ab_len1, ab_len2, ab_len3, ab_len4, Nat.zero_add, not_true_eq_false, false_imp_iff, true_imp_iff, q_p1]
          exact ih (i + 1) n _ _ _ (by omega) (by omega) hu
  refine run 4 _ _ _ _ ?_
  simp only [e60_0, e60_1, e60_2, e60_3, e60_4, e60_5, e60_7, e60_10, e60_11, e60_14, e60_15, e60_16, e60_17, e60_18, e60_21, e60_22, e60_25, e60_27, e60_28, e60_31, e60_33, e60_34, e60_36, e60_38, e60_41, e60_44, e60_45, e60_47, e60_48, e60_50, e60_53, e60_54, e60_55, e60_58, e60_61, e60_62, e60_63, e60_66, e60_69, e60_72, e60_73, ab_li1, true_or, or_true, true_and, and_true, ab_pus, ab_pun, ab_len0, ab_len1, ab_len2, ab_len3, ab_len4, Nat.zero_add, ab_rn0]
  exact loop 12 0 0 _ _ _ (by decide) (by decide) rfl
theorem C109 (hX : aM μ X) (ho : ∀ c, c < 12 → okL (X c)) (hn : np ≤ 10) (hnum : μ 65 16 = nI np) (hR : rP2 μ 76 77 PK PZ np) (h : Q (some (oi (sho X PK PZ np 12))) μ) : ab_Cl (d + 6) 109 [.ref 65] μ Q := by
  refine n109 fun J run => ?_
  have loop : ∀ f i n x y z w, 12 - i ≤ f → i ≤ 12 → sho X PK PZ np i = some n → J 4 μ [.ref 65, .int (nI n), .int (nI i), x, y, z, w] [] := by
    intro f
    induction f with
    | zero =>
      intro i n x y z w h1 h2 h3
      obtain rfl : i = 12 := by omega
      refine run 20 _ _ _ _ ?_
      simp (disch := omega) only [e109_0, e109_1, e109_2, e109_3, e109_4, e109_5, e109_7, e109_10, e109_11, e109_12, e109_13, e109_15, e109_17, e109_18, e109_21, e109_24, e109_25, e109_28, e109_29, e109_32, e109_34, e109_35, e109_36, e109_39, e109_40, e109_42, e109_45, e109_48, e109_49, e109_52, e109_53, e109_54, e109_57, e109_60, e109_61, e109_64, e109_67, e109_68, e109_71, e109_72, e109_73, e109_75, e109_76, e109_79, e109_80, e109_81, e109_82, e109_85, e109_86, e109_87, e109_88, e109_89, e109_91, e109_92, e109_94, e109_96, e109_97, e109_100, e109_103, e109_105, e109_108, e109_109, e109_112, e109_114, e109_115, e109_116, e109_119, e109_120, e109_122, e109_125, e109_128, e109_129, e109_132, e109_133, e109_135, e109_138, e109_141, e109_142, e109_145, e109_146, e109_148, e109_149, e109_151, e109_154, e109_155, e109_156, e109_159, e109_162, e109_165, e109_166, ab_li2, true_or, or_true, true_and, and_true, ab_pus, ab_pun, ab_len0, ab_len1, ab_len2, ab_len3, ab_len4, Nat.zero_add, l12, q_le, Nat.le_refl, true_imp_iff, not_true_eq_false, false_imp_iff]
      rw [h3] at h
      exact h
    | succ f ih =>
      intro i n x y z w h1 h2 h3
      by_cases hi : i = 12
      · exact ih i n x y z w (by omega) h2 h3
      · have hc : i < 12 := by omega
        have hL := hX i hc
        have hnl := hL.2.1
        have hu : sho X PK PZ np (i + 1) = if exB (X i) PK PZ i np = true then (if exB (aft (X i)) PK PZ i np = true then none else some (n + 1)) else some n := by simp only [sho, h3]
        have nxt : ∀ m x y z w, sho X PK PZ np (i + 1) = some m → J 4 μ [.ref 65, .int (nI m), .int (nI (i + 1)), x, y, z, w] [] := fun m x y z w e => ih (i + 1) m x y z w (by omega) (by omega) e
        -- the second loop: behind the shot
        have second : ∀ q, whyL (X i) = some q → q.1 < (X i).length → exB (X i) PK PZ i np = true → ∀ g j x, np - j ≤ g → j ≤ np → J 94 (ab_up μ 66 i (nI (q.1 + 1))) [.ref 65, .int (nI n), .int (nI i), x, .int (nI (X i).length), .int (zB (exB (aft (X i)) PK PZ i j)), .int (nI j)] [] := by
          intro q hq hq1 hA g
          have haf : aft (X i) = (X i).take (q.1 + 1) := by unfold aft; rw [hq]
          have hX2 : aM (ab_up μ 66 i (nI (q.1 + 1))) (fun c => if c = i then aft (X i) else X c) := aM_st hX (by rw [haf]; exact rQ_to (rQ_n (rQ_of hL) (v := q.1 + 1) (by omega)) (by rw [List.length_take]; omega) (fun k hk => kd_take hk) (fun k hk => ms_take hk) (fun k hk => ag_take hk)) (fM_un fM_rf)
          have ho2 : ∀ c, c < 12 → okL ((fun c => if c = i then aft (X i) else X c) c) := by
            intro c hc2
            dsimp only
            split
            · rw [haf]; exact okL_take (ho i hc)
            · exact ho c hc2
          have hR2 : rP2 (ab_up μ 66 i (nI (q.1 + 1))) 76 77 PK PZ np := fun p hp => by rw [ab_ud (by decide), ab_ud (by decide)]; exact hR p hp
          rw [if_pos hA] at hu
          induction g with
          | zero =>
            intro j x b1 b2
            obtain rfl : j = np := by omega
            refine run 40 _ _ _ _ ?_
            simp (disch := omega) only [e109_0, e109_1, e109_2, e109_3, e109_4, e109_5, e109_7, e109_10, e109_11, e109_12, e109_13, e109_15, e109_17, e109_18, e109_21, e109_24, e109_25, e109_28, e109_29, e109_32, e109_34, e109_35, e109_36, e109_39, e109_40, e109_42, e109_45, e109_48, e109_49, e109_52, e109_53, e109_54, e109_57, e109_60, e109_61, e109_64, e109_67, e109_68, e109_71, e109_72, e109_73, e109_75, e109_76, e109_79, e109_80, e109_81, e109_82, e109_85, e109_86, e109_87, e109_88, e109_89, e109_91, e109_92, e109_94, e109_96, e109_97, e109_100, e109_103, e109_105, e109_108, e109_109, e109_112, e109_114, e109_115, e109_116, e109_119, e109_120, e109_122, e109_125, e109_128, e109_129, e109_132, e109_133, e109_135, e109_138, e109_141, e109_142, e109_145, e109_146, e109_148, e109_149, e109_151, e109_154, e109_155, e109_156, e109_159, e109_162, e109_165, e109_166, ab_li2, true_or, or_true, true_and, and_true, ab_pus, ab_pun, ab_len0, ab_len1, ab_len2, ab_len3, ab_len4, Nat.zero_add, ab_ud, hnum, q_le, q_in, q_cl, Nat.le_refl, true_imp_iff, not_true_eq_false, false_imp_iff]
            have eb : ab_up (ab_up μ 66 i (nI (q.1 + 1))) 66 i (nI (X i).length) = μ := by rw [← hL.1]; exact ab_back
            rw [eb]
            by_cases hB : exB (aft (X i)) PK PZ i j = true
            · rw [if_pos hB] at hu
              rw [hB, zB_t]
              simp (disch := omega) only [z01, false_imp_iff, not_false_eq_true, true_imp_iff, true_and]
              have := sho_none hu (12 - (i + 1))
              rw [show i + 1 + (12 - (i + 1)) = 12 by omega] at this
              rw [this] at h
              exact h
            · rw [if_neg hB] at hu
              rw [show exB (aft (X i)) PK PZ i j = false by simpa using hB, zB_f]
              simp (disch := omega) only [not_true_eq_false, false_imp_iff, true_imp_iff, and_true, q_p1]
              exact nxt (n + 1) _ _ _ _ hu
          | succ g ihg =>
            intro j x b1 b2
            by_cases hj : j = np
            · exact ihg j x (by omega) b2
            · obtain ⟨r1, r2, r3, r4⟩ := hR2 j (by omega)
              have nx := ihg (j + 1) x (by omega) (by omega)
              simp only [exB] at nx
              refine run 60 _ _ _ _ ?_
              simp (disch := omega) only [e109_0, e109_1, e109_2, e109_3, e109_4, e109_5, e109_7, e109_10, e109_11, e109_12, e109_13, e109_15, e109_17, e109_18, e109_21, e109_24, e109_25, e109_28, e109_29, e109_32, e109_34, e109_35, e109_36, e109_39, e109_40, e109_42, e109_45, e109_48, e109_49, e109_52, e109_53, e109_54, e109_57, e109_60, e109_61, e109_64, e109_67, e109_68, e109_71, e109_72, e109_73, e109_75, e109_76, e109_79, e109_80, e109_81, e109_82, e109_85, e109_86, e109_87, e109_88, e109_89, e109_91, e109_92, e109_94, e109_96, e109_97, e109_100, e109_103, e109_105, e109_108, e109_109, e109_112, e109_114, e109_115, e109_116, e109_119, e109_120, e109_122, e109_125, e109_128, e109_129, e109_132, e109_133, e109_135, e109_138, e109_141, e109_142, e109_145, e109_146, e109_148, e109_149, e109_151, e109_154, e109_155, e109_156, e109_159, e109_162, e109_165, e109_166, ab_li2, true_or, or_true, true_and, and_true, ab_pus, ab_pun, ab_len0, ab_len1, ab_len2, ab_len3, ab_len4, Nat.zero_add, ab_ud, hnum, q_le, q_in, q_cl]
              rw [ab_ud (by decide)] at r1
              refine ⟨fun z => absurd z (by omega), fun _ => ?_⟩
              by_cases hB : exB (aft (X i)) PK PZ i j = true
              · rw [hB, Bool.true_or, zB_t] at nx
                rw [hB, zB_t]
                simp (disch := omega) only [z01, not_true_eq_false, false_imp_iff, not_false_eq_true, true_imp_iff, and_true, q_p1]
                exact nx
              · have hBf : exB (aft (X i)) PK PZ i j = false := by simpa using hB
                rw [hBf, Bool.false_or] at nx
                rw [hBf, zB_f]
                simp (disch := omega) only [not_true_eq_false, false_imp_iff, not_false_eq_true, true_imp_iff, true_and, q_p1, r1, q_eq]
                refine ⟨fun g1 => ?_, fun g1 => ?_⟩
                · rw [decide_eq_false (fun z => g1 z.1), zB_f] at nx
                  exact nx
                · have g1 : PK j = i := Classical.not_not.mp g1
                  refine C107 hX2 ho2 hn (show j < np by omega) hR2 ?_
                  rw [g1, if_pos rfl]
                  by_cases hg : 2 ≤ lk (aft (X i)) ∧ PZ j ≤ sz (aft (X i))
                  · rw [decide_eq_true ⟨g1, hg⟩, zB_t] at nx
                    rw [if_pos hg]
                    simp (disch := omega) only [e109_0, e109_1, e109_2, e109_3, e109_4, e109_5, e109_7, e109_10, e109_11, e109_12, e109_13, e109_15, e109_17, e109_18, e109_21, e109_24, e109_25, e109_28, e109_29, e109_32, e109_34, e109_35, e109_36, e109_39, e109_40, e109_42, e109_45, e109_48, e109_49, e109_52, e109_53, e109_54, e109_57, e109_60, e109_61, e109_64, e109_67, e109_68, e109_71, e109_72, e109_73, e109_75, e109_76, e109_79, e109_80, e109_81, e109_82, e109_85, e109_86, e109_87, e109_88, e109_89, e109_91, e109_92, e109_94, e109_96, e109_97, e109_100, e109_103, e109_105, e109_108, e109_109, e109_112, e109_114, e109_115, e109_116, e109_119, e109_120, e109_122, e109_125, e109_128, e109_129, e109_132, e109_133, e109_135, e109_138, e109_141, e109_142, e109_145, e109_146, e109_148, e109_149, e109_151, e109_154, e109_155, e109_156, e109_159, e109_162, e109_165, e109_166, ab_li2, true_or, or_true, true_and, and_true, ab_pus, ab_pun, ab_len0, ab_len1, ab_len2, ab_len3, ab_len4, Nat.zero_add, z01, false_imp_iff, not_false_eq_true, true_imp_iff, q_p1]
                    exact nx
                  · rw [decide_eq_false (fun z => hg z.2), zB_f] at nx
                    rw [if_neg hg]
                    simp (disch := omega) only [e109_0, e109_1, e109_2, e109_3, e109_4, e109_5, e109_7, e109_10, e109_11, e109_12, e109_13, e109_15, e109_17, e109_18, e109_21, e109_24, e109_25, e109_28, e109_29, e109_32, e109_34, e109_35, e109_36, e109_39, e109_40, e109_42, e109_45, e109_48, e109_49, e109_52, e109_53, e109_54, e109_57, e109_60, e109_61, e109_64, e109_67, e109_68, e109_71, e109_72, e109_73, e109_75, e109_76, e109_79, e109_80, e109_81, e109_82, e109_85, e109_86, e109_87, e109_88, e109_89, e109_91, e109_92, e109_94, e109_96, e109_97, e109_100, e109_103, e109_105, e109_108, e109_109, e109_112, e109_114, e109_115, e109_116, e109_119, e109_120, e109_122, e109_125, e109_128, e109_129, e109_132, e109_133, e109_135, e109_138, e109_141, e109_142, e109_145, e109_146, e109_148, e109_149, e109_151, e109_154, e109_155, e109_156, e109_159, e109_162, e109_165, e109_166, ab_li2, true_or, or_true, true_and, and_true, ab_pus, ab_pun, ab_len0, ab_len1, ab_len2, ab_len3, ab_len4, Nat.zero_add, not_true_eq_false, false_imp_iff, true_imp_iff, q_p1]
                    exact nx
        have first : ∀ g j x y, np - j ≤ g → j ≤ np → J 15 μ [.ref 65, .int (nI n), .int (nI i), .int (zB (exB (X i) PK PZ i j)), .int (nI j), x, y] [] := by
          intro g
          induction g with
          | zero =>
            intro j x y b1 b2
            obtain rfl : j = np := by omega
            by_cases hA : exB (X i) PK PZ i j = true
            · obtain ⟨q, hq, hq1⟩ := lk_why ((exB_iff _ _ _ _ _).mp hA).1
              refine run (6 + 18) _ _ _ _ ?_
              rw [hA, zB_t]
              simp (disch := omega) only [e109_0, e109_1, e109_2, e109_3, e109_4, e109_5, e109_7, e109_10, e109_11, e109_12, e109_13, e109_15, e109_17, e109_18, e109_21, e109_24, e109_25, e109_28, e109_29, e109_32, e109_34, e109_35, e109_36, e109_39, e109_40, e109_42, e109_45, e109_48, e109_49, e109_52, e109_53, e109_54, e109_57, e109_60, e109_61, e109_64, e109_67, e109_68, e109_71, e109_72, e109_73, e109_75, e109_76, e109_79, e109_80, e109_81, e109_82, e109_85, e109_86, e109_87, e109_88, e109_89, e109_91, e109_92, e109_94, e109_96, e109_97, e109_100, e109_103, e109_105, e109_108, e109_109, e109_112, e109_114, e109_115, e109_116, e109_119, e109_120, e109_122, e109_125, e109_128, e109_129, e109_132, e109_133, e109_135, e109_138, e109_141, e109_142, e109_145, e109_146, e109_148, e109_149, e109_151, e109_154, e109_155, e109_156, e109_159, e109_162, e109_165, e109_166, ab_li2, true_or, or_true, true_and, and_true, ab_pus, ab_pun, ab_len0, ab_len1, ab_len2, ab_len3, ab_len4, Nat.zero_add, hnum, q_le, q_in, q_cl, Nat.le_refl, z01, true_imp_iff, not_true_eq_false, false_imp_iff, not_false_eq_true, hL.1, Nat.reduceAdd]
              refine C97 hc hL (ho i hc) ?_
              rw [hq, show wI (some q) 0 = nI q.1 by simp [wI]]
              simp (disch := omega) only [e109_0, e109_1, e109_2, e109_3, e109_4, e109_5, e109_7, e109_10, e109_11, e109_12, e109_13, e109_15, e109_17, e109_18, e109_21, e109_24, e109_25, e109_28, e109_29, e109_32, e109_34, e109_35, e109_36, e109_39, e109_40, e109_42, e109_45, e109_48, e109_49, e109_52, e109_53, e109_54, e109_57, e109_60, e109_61, e109_64, e109_67, e109_68, e109_71, e109_72, e109_73, e109_75, e109_76, e109_79, e109_80, e109_81, e109_82, e109_85, e109_86, e109_87, e109_88, e109_89, e109_91, e109_92, e109_94, e109_96, e109_97, e109_100, e109_103, e109_105, e109_108, e109_109, e109_112, e109_114, e109_115, e109_116, e109_119, e109_120, e109_122, e109_125, e109_128, e109_129, e109_132, e109_133, e109_135, e109_138, e109_141, e109_142, e109_145, e109_146, e109_148, e109_149, e109_151, e109_154, e109_155, e109_156, e109_159, e109_162, e109_165, e109_166, ab_li2, true_or, or_true, true_and, and_true, ab_pus, ab_pun, ab_len0, ab_len1, ab_len2, ab_len3, ab_len4, Nat.zero_add, ab_rn0, q_in, q_cl, q_p1]
              exact second q hq hq1 hA j 0 _ (by omega) (by omega)
            · refine run 20 _ _ _ _ ?_
              rw [if_neg hA] at hu
              rw [show exB (X i) PK PZ i j = false by simpa using hA, zB_f]
              simp (disch := omega) only [e109_0, e109_1, e109_2, e109_3, e109_4, e109_5, e109_7, e109_10, e109_11, e109_12, e109_13, e109_15, e109_17, e109_18, e109_21, e109_24, e109_25, e109_28, e109_29, e109_32, e109_34, e109_35, e109_36, e109_39, e109_40, e109_42, e109_45, e109_48, e109_49, e109_52, e109_53, e109_54, e109_57, e109_60, e109_61, e109_64, e109_67, e109_68, e109_71, e109_72, e109_73, e109_75, e109_76, e109_79, e109_80, e109_81, e109_82, e109_85, e109_86, e109_87, e109_88, e109_89, e109_91, e109_92, e109_94, e109_96, e109_97, e109_100, e109_103, e109_105, e109_108, e109_109, e109_112, e109_114, e109_115, e109_116, e109_119, e109_120, e109_122, e109_125, e109_128, e109_129, e109_132, e109_133, e109_135, e109_138, e109_141, e109_142, e109_145, e109_146, e109_148, e109_149, e109_151, e109_154, e109_155, e109_156, e109_159, e109_162, e109_165, e109_166, ab_li2, true_or, or_true, true_and, and_true, ab_pus, ab_pun, ab_len0, ab_len1, ab_len2, ab_len3, ab_len4, Nat.zero_add, hnum, q_le, q_in, q_cl, Nat.le_refl, true_imp_iff, not_true_eq_false, false_imp_iff, not_false_eq_true, q_p1]
              exact nxt n _ _ _ _ hu
          | succ g ihg =>
            intro j x y b1 b2
            by_cases hj : j = np
            · exact ihg j x y (by omega) b2
            · obtain ⟨r1, r2, r3, r4⟩ := hR j (by omega)
              have nx := ihg (j + 1) x y (by omega) (by omega)
              simp only [exB] at nx
              refine run 60 _ _ _ _ ?_
              simp (disch := omega) only [e109_0, e109_1, e109_2, e109_3, e109_4, e109_5, e109_7, e109_10, e109_11, e109_12, e109_13, e109_15, e109_17, e109_18, e109_21, e109_24, e109_25, e109_28, e109_29, e109_32, e109_34, e109_35, e109_36, e109_39, e109_40, e109_42, e109_45, e109_48, e109_49, e109_52, e109_53, e109_54, e109_57, e109_60, e109_61, e109_64, e109_67, e109_68, e109_71, e109_72, e109_73, e109_75, e109_76, e109_79, e109_80, e109_81, e109_82, e109_85, e109_86, e109_87, e109_88, e109_89, e109_91, e109_92, e109_94, e109_96, e109_97, e109_100, e109_103, e109_105, e109_108, e109_109, e109_112, e109_114, e109_115, e109_116, e109_119, e109_120, e109_122, e109_125, e109_128, e109_129, e109_132, e109_133, e109_135, e109_138, e109_141, e109_142, e109_145, e109_146, e109_148, e109_149, e109_151, e109_154, e109_155, e109_156, e109_159, e109_162, e109_165, e109_166, ab_li2, true_or, or_true, true_and, and_true, ab_pus, ab_pun, ab_len0, ab_len1, ab_len2, ab_len3, ab_len4, Nat.zero_add, hnum, q_le, q_in, q_cl]
              refine ⟨fun z => absurd z (by omega), fun _ => ?_⟩
              by_cases hB : exB (X i) PK PZ i j = true
              · rw [hB, Bool.true_or, zB_t] at nx
                rw [hB, zB_t]
                simp (disch := omega) only [z01, not_true_eq_false, false_imp_iff, not_false_eq_true, true_imp_iff, and_true, q_p1]
                exact nx
              · have hBf : exB (X i) PK PZ i j = false := by simpa using hB
                rw [hBf, Bool.false_or] at nx
                rw [hBf, zB_f]
                simp (disch := omega) only [not_true_eq_false, false_imp_iff, not_false_eq_true, true_imp_iff, true_and, q_p1, r1, q_eq]
                refine ⟨fun g1 => ?_, fun g1 => ?_⟩
                · rw [decide_eq_false (fun z => g1 z.1), zB_f] at nx
                  exact nx
                · have g1 : PK j = i := Classical.not_not.mp g1
                  refine C107 hX ho hn (show j < np by omega) hR ?_
                  rw [g1]
                  by_cases hg : 2 ≤ lk (X i) ∧ PZ j ≤ sz (X i)
                  · rw [decide_eq_true ⟨g1, hg⟩, zB_t] at nx
                    rw [if_pos hg]
                    simp (disch := omega) only [e109_0, e109_1, e109_2, e109_3, e109_4, e109_5, e109_7, e109_10, e109_11, e109_12, e109_13, e109_15, e109_17, e109_18, e109_21, e109_24, e109_25, e109_28, e109_29, e109_32, e109_34, e109_35, e109_36, e109_39, e109_40, e109_42, e109_45, e109_48, e109_49, e109_52, e109_53, e109_54, e109_57, e109_60, e109_61, e109_64, e109_67, e109_68, e109_71, e109_72, e109_73, e109_75, e109_76, e109_79, e109_80, e109_81, e109_82, e109_85, e109_86, e109_87, e109_88, e109_89, e109_91, e109_92, e109_94, e109_96, e109_97, e109_100, e109_103, e109_105, e109_108, e109_109, e109_112, e109_114, e109_115, e109_116, e109_119, e109_120, e109_122, e109_125, e109_128, e109_129, e109_132, e109_133, e109_135, e109_138, e109_141, e109_142, e109_145, e109_146, e109_148, e109_149, e109_151, e109_154, e109_155, e109_156, e109_159, e109_162, e109_165, e109_166, ab_li2, true_or, or_true, true_and, and_true, ab_pus, ab_pun, ab_len0, ab_len1, ab_len2, ab_len3, ab_len4, Nat.zero_add, z01, false_imp_iff, not_false_eq_true, true_imp_iff, q_p1]
                    exact nx
                  · rw [decide_eq_false (fun z => hg z.2), zB_f] at nx
                    rw [if_neg hg]
                    simp (disch := omega) only [e109_0, e109_1, e109_2, e109_3, e109_4, e109_5, e109_7, e109_10, e109_11, e109_12, e109_13, e109_15, e109_17, e109_18, e109_21, e109_24, e109_25, e109_28, e109_29, e109_32, e109_34, e109_35, e109_36, e109_39, e109_40, e109_42, e109_45, e109_48, e109_49, e109_52, e109_53, e109_54, e109_57, e109_60, e109_61, e109_64, e109_67, e109_68, e109_71, e109_72, e109_73, e109_75, e109_76, e109_79, e109_80, e109_81, e109_82, e109_85, e109_86, e109_87, e109_88, e109_89, e109_91, e109_92, e109_94, e109_96, e109_97, e109_100, e109_103, e109_105, e109_108, e109_109, e109_112, e109_114, e109_115, e109_116, e109_119, e109_120, e109_122, e109_125, e109_128, e109_129, e109_132, e109_133, e109_135, e109_138, e109_141, e109_142, e109_145, e109_146, e109_148, e109_149, e109_151, e109_154, e109_155, e109_156, e109_159, e109_162, e109_165, e109_166, ab_li2, true_or, or_true, true_and, and_true, ab_pus, ab_pun, ab_len0, ab_len1, ab_len2, ab_len3, ab_len4, Nat.zero_add, not_true_eq_false, false_imp_iff, true_imp_iff, q_p1]
                    exact nx
        refine run 7 _ _ _ _ ?_
        have hi12 : ¬ 12 ≤ i := by omega
        simp (disch := omega) only [e109_0, e109_1, e109_2, e109_3, e109_4, e109_5, e109_7, e109_10, e109_11, e109_12, e109_13, e109_15, e109_17, e109_18, e109_21, e109_24, e109_25, e109_28, e109_29, e109_32, e109_34, e109_35, e109_36, e109_39, e109_40, e109_42, e109_45, e109_48, e109_49, e109_52, e109_53, e109_54, e109_57, e109_60, e109_61, e109_64, e109_67, e109_68, e109_71, e109_72, e109_73, e109_75, e109_76, e109_79, e109_80, e109_81, e109_82, e109_85, e109_86, e109_87, e109_88, e109_89, e109_91, e109_92, e109_94, e109_96, e109_97, e109_100, e109_103, e109_105, e109_108, e109_109, e109_112, e109_114, e109_115, e109_116, e109_119, e109_120, e109_122, e109_125, e109_128, e109_129, e109_132, e109_133, e109_135, e109_138, e109_141, e109_142, e109_145, e109_146, e109_148, e109_149, e109_151, e109_154, e109_155, e109_156, e109_159, e109_162, e109_165, e109_166, ab_li2, true_or, or_true, true_and, and_true, ab_pus, ab_pun, ab_len0, ab_len1, ab_len2, ab_len3, ab_len4, Nat.zero_add, ab_rn0, l12, q_le, hi12, false_imp_iff, not_false_eq_true, true_imp_iff]
        exact first np 0 _ _ (by omega) (by omega)
  refine run 4 _ _ _ _ ?_
  simp only [e109_0, e109_1, e109_2, e109_3, e109_4, e109_5, e109_7, e109_10, e109_11, e109_12, e109_13, e109_15, e109_17, e109_18, e109_21, e109_24, e109_25, e109_28, e109_29, e109_32, e109_34, e109_35, e109_36, e109_39, e109_40, e109_42, e109_45, e109_48, e109_49, e109_52, e109_53, e109_54, e109_57, e109_60, e109_61, e109_64, e109_67, e109_68, e109_71, e109_72, e109_73, e109_75, e109_76, e109_79, e109_80, e109_81, e109_82, e109_85, e109_86, e109_87, e109_88, e109_89, e109_91, e109_92, e109_94, e109_96, e109_97, e109_100, e109_103, e109_105, e109_108, e109_109, e109_112, e109_114, e109_115, e109_116, e109_119, e109_120, e109_122, e109_125, e109_128, e109_129, e109_132, e109_133, e109_135, e109_138, e109_141, e109_142, e109_145, e109_146, e109_148, e109_149, e109_151, e109_154, e109_155, e109_156, e109_159, e109_162, e109_165, e109_166, ab_li2, true_or, or_true, true_and, and_true, ab_pus, ab_pun, ab_len0, ab_len1, ab_len2, ab_len3, ab_len4, Nat.zero_add, ab_rn0]
  exact loop 12 0 0 _ _ _ _ (by decide) (by decide) rfl
end SHO
