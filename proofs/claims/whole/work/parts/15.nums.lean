theorem q_le {a b : Nat} (ha : a < 2147483648) (hb : b < 2147483648) : (nI a ≤ nI b) = (a ≤ b) := propext (nI_leI ha hb)
theorem q_lt {a b : Nat} (ha : a < 2147483648) (hb : b < 2147483648) : (nI a < nI b) = (a < b) := propext (nI_ltI ha hb)
theorem q_eq {a b : Nat} (ha : a < 2147483648) (hb : b < 2147483648) : (nI a = nI b) = (a = b) := propext (nI_eq ha hb)
theorem q_lt0 {a : Nat} (ha : a < 2147483648) : (nI a < 0) = False := eq_false (nI_pos ha)
theorem q_ge0 {a : Nat} (ha : a < 2147483648) : (0 ≤ nI a) = True := eq_true (nI_pos' ha)
theorem q_le0 {a : Nat} (ha : a < 2147483648) : (nI a ≤ 0) = (a = 0) := by
  have := q_le (b := 0) ha (by decide)
  rw [nI_0] at this
  rw [this]
  simp
theorem q_gt0 {a : Nat} (ha : a < 2147483648) : (0 < nI a) = (0 < a) := by
  have := q_lt (a := 0) (by decide) ha
  rwa [nI_0] at this
theorem q_eq0 {a : Nat} (ha : a < 2147483648) : (nI a = 0) = (a = 0) := by
  have := q_eq (b := 0) ha (by decide)
  rwa [nI_0] at this
theorem q_in {i n : Nat} (h : i < n) (hn : n < 2147483648) : vp_in (nI i) n = True := eq_true (vp_in_nI h hn)
theorem q_cl {i : Nat} (h : i < 2147483648) : (nI i).toNatClampNeg = i := nI_clamp h
theorem q_p1 {i : Nat} : nI i + 1 = nI (i + 1) := nI_1 i
theorem q_m1 {i : Nat} (h : 1 ≤ i) : nI i - 1 = nI (i - 1) := by
  obtain ⟨j, rfl⟩ : ∃ j, i = j + 1 := ⟨i - 1, by omega⟩
  rw [nI_pred]; rfl
theorem q_n1 {i : Nat} (h : 1 ≤ i) : nI i + (-1) = nI (i - 1) := by
  obtain ⟨j, rfl⟩ : ∃ j, i = j + 1 := ⟨i - 1, by omega⟩
  rw [pk_m1]; rfl
theorem q_nm {a : Nat} (ha : a < 2147483648) : (nI a = -1) = False := eq_false (fun h => by
  have := nI_pos ha
  rw [h] at this
  exact this (by decide))
theorem q_mn {a : Nat} (ha : a < 2147483648) : ((-1 : Int32) = nI a) = False := eq_false (fun h => by
  have := q_nm ha
  exact (this ▸ h.symm : False))
theorem q_ml0 : ((-1 : Int32) < 0) = True := eq_true (by decide)
theorem q_mle {a : Nat} (ha : a < 2147483648) : (nI a ≤ -1) = False := eq_false (fun h => by
  have h1 := Int32.le_iff_toInt_le.mp h
  rw [nI_toInt ha] at h1
  have : ((-1 : Int32)).toInt = -1 := by decide
  omega)
theorem q_in12 {x : Int32} {n : Nat} (hn : n < 2147483648) (h0 : ¬ x < 0) (h1 : ¬ nI n ≤ x) : ∃ j, j < n ∧ x = nI j := by
  rcases pk_ix x (n := n) hn with q | q | q
  · exact absurd q h0
  · exact absurd q h1
  · exact q
theorem l2 : (2 : Int32) = nI 2 := rfl
theorem l3 : (3 : Int32) = nI 3 := rfl
theorem l4 : (4 : Int32) = nI 4 := rfl
theorem l5 : (5 : Int32) = nI 5 := rfl
theorem l6 : (6 : Int32) = nI 6 := rfl
theorem l9 : (9 : Int32) = nI 9 := rfl
theorem l10 : (10 : Int32) = nI 10 := rfl
theorem l11 : (11 : Int32) = nI 11 := rfl
theorem l12 : (12 : Int32) = nI 12 := rfl
theorem l15 : (15 : Int32) = nI 15 := rfl
theorem l20 : (20 : Int32) = nI 20 := rfl
theorem l30 : (30 : Int32) = nI 30 := rfl
theorem l40 : (40 : Int32) = nI 40 := rfl
theorem l100 : (100 : Int32) = nI 100 := rfl
theorem l150 : (150 : Int32) = nI 150 := rfl
theorem l200 : (200 : Int32) = nI 200 := rfl
theorem l250 : (250 : Int32) = nI 250 := rfl
theorem l300 : (300 : Int32) = nI 300 := rfl
theorem l400 : (400 : Int32) = nI 400 := rfl
theorem l500 : (500 : Int32) = nI 500 := rfl
theorem l900 : (900 : Int32) = nI 900 := rfl
theorem l999 : (999 : Int32) = nI 999 := rfl
theorem l3000 : (3000 : Int32) = nI 3000 := rfl
theorem l9999 : (9999 : Int32) = nI 9999 := rfl
theorem l1 : (1 : Int32) = nI 1 := rfl
theorem q_ad {a b : Nat} : nI a + nI b = nI (a + b) := nI_add a b
theorem q_mu {a b : Nat} : nI a * nI b = nI (a * b) := pk_mul a b
theorem q_su {a b : Nat} (h : b ≤ a) : nI a - nI b = nI (a - b) := pk_sub h
theorem q_dv {a b : Nat} (ha : a < 2147483648) (h0 : 0 < b) (hb : b < 2147483648) : nI a / nI b = nI (a / b) := pk_div ha h0 hb
theorem ab_rn0 {cl : ab_CL} {t : Nat} {J : ab_J} {Q : ab_Q} {pc : Nat} {μ : ab_M} {ls st : List Value} : ab_rn cl t J Q 0 pc μ ls st = J pc μ ls st := rfl
theorem q_mx {i : Nat} (h : i < 2147483648) : (if nI i < 0 then 0 else nI i) = nI i := if_neg (nI_pos h)
