def aC (μ : ab_M) (X : Nat → List ly) : Prop := ∀ c, c < 12 → rC μ c (X c)
def aM (μ : ab_M) (X : Nat → List ly) : Prop := ∀ c, c < 12 → rM μ c (X c)
def kC (μ μ' : ab_M) (q : Nat) : Prop := ∀ p i, ¬ (17 ≤ p ∧ p ≤ 20) → ¬ (p = 0 ∧ i = q) → μ' p i = μ p i
theorem rC_o {ν : ab_M} {c p i : Nat} {v : Int32} {L : List ly} (h : rC ν c L) (hp : p < 17) : rC (ab_up ν p i v) c L := by
  obtain ⟨h1, h2, h3, h4, h5⟩ := h
  exact ⟨by rw [ab_ud (by omega)]; exact h1, h2, fun i hi => by rw [ab_ud (by omega)]; exact h3 i hi, fun i hi => by rw [ab_ud (by omega)]; exact h4 i hi, fun i hi => by rw [ab_ud (by omega)]; exact h5 i hi⟩
theorem rC_e {ν ν' : ab_M} {c : Nat} {L : List ly} (h : rC ν c L) (he : ∀ p i, 17 ≤ p ∧ p ≤ 20 → ν' p i = ν p i) : rC ν' c L := by
  obtain ⟨h1, h2, h3, h4, h5⟩ := h
  exact ⟨by rw [he _ _ (by decide)]; exact h1, h2, fun i hi => by rw [he _ _ (by decide)]; exact h3 i hi, fun i hi => by rw [he _ _ (by decide)]; exact h4 i hi, fun i hi => by rw [he _ _ (by decide)]; exact h5 i hi⟩
theorem rM_e {ν ν' : ab_M} {c : Nat} {L : List ly} (h : rM ν c L) (he : ∀ p i, 66 ≤ p ∧ p ≤ 69 → ν' p i = ν p i) : rM ν' c L := by
  obtain ⟨h1, h2, h3, h4, h5⟩ := h
  exact ⟨by rw [he _ _ (by decide)]; exact h1, h2, fun i hi => by rw [he _ _ (by decide)]; exact h3 i hi, fun i hi => by rw [he _ _ (by decide)]; exact h4 i hi, fun i hi => by rw [he _ _ (by decide)]; exact h5 i hi⟩
theorem aC_st {ν ν' : ab_M} {c : Nat} {X : Nat → List ly} {Y : List ly} (h : aC ν X) (h1 : rC ν' c Y) (h2 : fC c ν ν') : aC ν' (fun c' => if c' = c then Y else X c') := by
  intro c' hc'
  by_cases e : c' = c
  · subst e; simp only [if_true]; exact h1
  · simp only [if_neg e]; exact rC_fr (h c' hc') h2 e
theorem aM_st {ν ν' : ab_M} {c : Nat} {X : Nat → List ly} {Y : List ly} (h : aM ν X) (h1 : rM ν' c Y) (h2 : fM c ν ν') : aM ν' (fun c' => if c' = c then Y else X c') := by
  intro c' hc'
  by_cases e : c' = c
  · subst e; simp only [if_true]; exact h1
  · simp only [if_neg e]; exact rM_fr (h c' hc') h2 e
theorem aC_c {ν : ab_M} {X Y : Nat → List ly} (h : aC ν X) (e : ∀ c, c < 12 → X c = Y c) : aC ν Y := fun c hc => by rw [← e c hc]; exact h c hc
theorem aM_c {ν : ab_M} {X Y : Nat → List ly} (h : aM ν X) (e : ∀ c, c < 12 → X c = Y c) : aM ν Y := fun c hc => by rw [← e c hc]; exact h c hc
theorem aC_o {ν : ab_M} {p i : Nat} {v : Int32} {X : Nat → List ly} (h : aC ν X) (hp : p < 17) : aC (ab_up ν p i v) X := fun c hc => rC_o (h c hc) hp
def fallL (SN : Nat → Option Nat) (X : Nat → List ly) : Nat → List ly := fun c => addN (10 * sno SN (c / 4)) (grow (X c))
def fsum (SN : Nat → Option Nat) : Nat → Nat
  | 0 => 0
  | n + 1 => fsum SN n + 10 * sno SN (n / 4)
theorem sno_le {SN : Nat → Option Nat} {k : Nat} (hk : k < 3) (hs : ∀ h, h < 3 → vO (SN h) ≤ 200) : sno SN k ≤ 200 := by
  unfold sno
  cases ho : SN k with
  | some v => have := hs k hk; rw [ho] at this; exact this
  | none =>
    dsimp only
    unfold mn
    split
    · omega
    · next hp =>
      have key : ∀ o : Option Nat, vO o ≤ 200 → vO o ≤ 200 * cO o := by
        intro o h
        cases o <;> simp_all [vO, cO]
      have h0 := key _ (hs 0 (by decide))
      have h1 := key _ (hs 1 (by decide))
      have h2 := key _ (hs 2 (by decide))
      apply Nat.div_le_of_le_mul
      simp only [pS, pC]
      omega
section CDA
variable {d : Nat} {μ : ab_M} {Q : ab_Q} {SN : Nat → Option Nat} {X : Nat → List ly}
theorem C71 (hX : aC μ X) (ho : ∀ c, c < 12 → okL (grow (X c))) (hs : rS μ 3 SN) (h : ∀ μ', aC μ' (fallL SN X) → μ' 0 6 = μ 0 6 + nI (fsum SN 12) → kC μ μ' 6 → Q none μ') : ab_Cl (d + 3) 71 [.ref 0] μ Q := by
  refine n71 fun J run => ?_
  have loop : ∀ f i ν x, 12 - i ≤ f → i ≤ 12 → aC ν (fun c => if c < i then fallL SN X c else X c) → ν 0 6 = μ 0 6 + nI (fsum SN i) → kC μ ν 6 → J 2 ν [.ref 0, .int (nI i), x] [] := by
    intro f
    induction f with
    | zero =>
      intro i ν x h1 h2 h3 h4 h5
      obtain rfl : i = 12 := by omega
      refine run 10 _ _ _ _ ?_
      simp (disch := omega) only [e71_0, e71_1, e71_2, e71_3, e71_5, e71_8, e71_9, e71_12, e71_13, e71_14, e71_15, e71_18, e71_19, e71_20, e71_23, e71_24, e71_25, e71_28, e71_29, e71_32, e71_33, e71_34, e71_35, e71_38, e71_39i, e71_39r, e71_40, e71_43, e71_44, e71_45, e71_48, e71_51, e71_54, ab_li1, true_or, or_true, true_and, and_true, ab_pus, ab_pun, ab_len0, ab_len1, ab_len2, ab_len3, ab_len4, Nat.zero_add, l12, q_le, Nat.le_refl, true_imp_iff, not_true_eq_false, false_imp_iff]
      exact h ν (aC_c h3 (fun c hc => if_pos hc)) h4 h5
    | succ f ih =>
      intro i ν x h1 h2 h3 h4 h5
      by_cases hi : i = 12
      · exact ih i ν x (by omega) h2 h3 h4 h5
      · have hi2 : i < 12 := by omega
        have e4 : ¬ (nI 4 = 0) := by decide
        have hs2 : rS ν 3 SN := fun k hk => by rw [h5 3 k (by omega) (by omega)]; exact hs k hk
        have hsn := sno_le (SN := SN) (k := i / 4) (by omega) (fun k hk => (hs k hk).2)
        have hXi := h3 i hi2
        simp only [Nat.lt_irrefl, if_false] at hXi
        refine run 60 _ _ _ _ ?_
        simp (disch := omega) only [e71_0, e71_1, e71_2, e71_3, e71_5, e71_8, e71_9, e71_12, e71_13, e71_14, e71_15, e71_18, e71_19, e71_20, e71_23, e71_24, e71_25, e71_28, e71_29, e71_32, e71_33, e71_34, e71_35, e71_38, e71_39i, e71_39r, e71_40, e71_43, e71_44, e71_45, e71_48, e71_51, e71_54, ab_li1, true_or, or_true, true_and, and_true, ab_pus, ab_pun, ab_len0, ab_len1, ab_len2, ab_len3, ab_len4, Nat.zero_add, l12, q_le, l4, e4, q_dv, not_false_eq_true]
        refine ⟨fun z => absurd z (by omega), fun _ => ?_⟩
        refine C43 hs2 (by omega) ?_
        simp (disch := omega) only [e71_0, e71_1, e71_2, e71_3, e71_5, e71_8, e71_9, e71_12, e71_13, e71_14, e71_15, e71_18, e71_19, e71_20, e71_23, e71_24, e71_25, e71_28, e71_29, e71_32, e71_33, e71_34, e71_35, e71_38, e71_39i, e71_39r, e71_40, e71_43, e71_44, e71_45, e71_48, e71_51, e71_54, ab_li1, true_or, or_true, true_and, and_true, ab_pus, ab_pun, ab_len0, ab_len1, ab_len2, ab_len3, ab_len4, Nat.zero_add, q_in, q_cl, ab_sl hi2]
        refine C21 hi2 hXi (fun ρ r1 f1 => ?_)
        simp (disch := omega) only [e71_0, e71_1, e71_2, e71_3, e71_5, e71_8, e71_9, e71_12, e71_13, e71_14, e71_15, e71_18, e71_19, e71_20, e71_23, e71_24, e71_25, e71_28, e71_29, e71_32, e71_33, e71_34, e71_35, e71_38, e71_39i, e71_39r, e71_40, e71_43, e71_44, e71_45, e71_48, e71_51, e71_54, ab_li1, true_or, or_true, true_and, and_true, ab_pus, ab_pun, ab_len0, ab_len1, ab_len2, ab_len3, ab_len4, Nat.zero_add, q_in, q_cl, ab_sl hi2]
        refine C22 hi2 r1 (ho i hi2) (by omega) (fun τ r2 f2 => ?_)
        simp (disch := omega) only [e71_0, e71_1, e71_2, e71_3, e71_5, e71_8, e71_9, e71_12, e71_13, e71_14, e71_15, e71_18, e71_19, e71_20, e71_23, e71_24, e71_25, e71_28, e71_29, e71_32, e71_33, e71_34, e71_35, e71_38, e71_39i, e71_39r, e71_40, e71_43, e71_44, e71_45, e71_48, e71_51, e71_54, ab_li1, true_or, or_true, true_and, and_true, ab_pus, ab_pun, ab_len0, ab_len1, ab_len2, ab_len3, ab_len4, Nat.zero_add, q_p1]
        have f12 := fC_tr f1 f2
        have e06 : τ 0 6 = ν 0 6 := f12 0 6 (by omega)
        refine ih (i + 1) _ _ (by omega) (by omega) (aC_o (aC_c (aC_st h3 r2 f12) (fun c hc => ?_)) (by decide)) ?_ ?_
        · by_cases e : c = i
          · subst e; rw [if_pos rfl, if_pos (by omega)]; rfl
          · rw [if_neg e]
            by_cases e2 : c < i
            · rw [if_pos e2, if_pos (by omega)]
            · rw [if_neg e2, if_neg (by omega)]
        · rw [ab_up_eq, e06, h4, Int32.add_assoc, q_ad]
          rfl
        · intro p j p1 p2
          rw [ab_up_ne (by omega), f12 p j (by omega), h5 p j p1 p2]
  refine run 2 _ _ _ _ ?_
  simp only [e71_0, e71_1, e71_2, e71_3, e71_5, e71_8, e71_9, e71_12, e71_13, e71_14, e71_15, e71_18, e71_19, e71_20, e71_23, e71_24, e71_25, e71_28, e71_29, e71_32, e71_33, e71_34, e71_35, e71_38, e71_39i, e71_39r, e71_40, e71_43, e71_44, e71_45, e71_48, e71_51, e71_54, ab_li1, true_or, or_true, true_and, and_true, ab_pus, ab_pun, ab_len0, ab_len1, ab_len2, ab_len3, ab_len4, Nat.zero_add, ab_rn0]
  exact loop 12 0 μ _ (by decide) (by decide) (aC_c hX (fun c hc => (if_neg (by omega)).symm)) (by rw [show nI (fsum SN 0) = 0 from rfl, Int32.add_zero]) (fun _ _ _ _ => rfl)
end CDA
