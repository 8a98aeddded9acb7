theorem ab_us {μ : ab_M} {p i j : Nat} {v : Int32} : ab_up μ p i v p j = if j = i then v else μ p j := by unfold ab_up; rw [if_pos rfl]
theorem oi_ex {v : Int32} (h1 : -1 ≤ v.toInt) (h2 : v.toInt ≤ 200) : ∃ o, oi o = v ∧ vO o ≤ 200 := by
  by_cases e : v.toInt = -1
  · refine ⟨none, ?_, by show 0 ≤ 200; omega⟩
    exact Int32.toInt_inj.mp (by rw [e]; rfl)
  · obtain ⟨k, hk, rfl⟩ := toK (n := 201) (by decide) (x := v) (by omega)
    exact ⟨some k, rfl, by show k ≤ 200; omega⟩
def Rel (μ : ab_M) : Prop := ∃ σ, Ok σ ∧ RC σ μ ∧ RM σ μ
def stp (a b : Nat) (as : List Value) (μ : ab_M) : Prop := ab_Cl 8 a (.ref 0 :: as) μ (fun r μ' => ab_Cl 8 b (.ref 65 :: as) μ' (fun r' μ'' => r = r' ∧ (∃ v, r' = some v) ∧ Rel μ''))
section STEPS
variable {μ : ab_M} {h v w k i : Int32}
theorem S0 (hR : Rel μ) : stp 50 81 [.int h, .int v] μ := by
  obtain ⟨σ, ho, hC, hM⟩ := hR
  unfold stp
  refine C50 ho.n hC.N.1 (fun g => ?_) (fun g => C81 ho.n hM.N.1 (fun z => absurd z g) (fun _ => ⟨rfl, ⟨_, rfl⟩, σ, ho, hC, hM⟩))
  obtain ⟨j, hj, rfl⟩ := toK (n := 3) (by decide) (x := h) ⟨g.2.1, g.2.2.1⟩
  rw [q_cl (by omega)]
  obtain ⟨o, ho1, ho2⟩ := oi_ex g.2.2.2.1 g.2.2.2.2
  refine C81 ho.n (RM_e hM (fun p hp _ i => by rw [ab_ud (by omega)])).N.1 (fun _ => ?_) (fun z => absurd g z)
  rw [q_cl (by omega)]

  refine ⟨rfl, ⟨_, rfl⟩, mkS σ.n σ.X (fun z => if z = j then o else σ.SN z) σ.W4 σ.W5 σ.D σ.S σ.T σ.f σ.s σ.np σ.nt σ.PK σ.PZ σ.TK σ.TM σ.cf σ.cm σ.cs, ⟨ho.n, ho.T, ho.f, ho.s, ho.np, ho.nt, ho.D, ho.W4, ho.W5, (fun z hz => ?_)⟩, ⟨gN_e hC.N (fun i _ => by rw [ab_ud (by omega), ab_ud (by omega)]), aC_e hC.X (fun p hp j => by rw [ab_ud (by omega), ab_ud (by omega)]), ⟨by rw [ab_ud (by omega), ab_ud (by omega)]; exact (hC.W).1, by rw [ab_ud (by omega), ab_ud (by omega)]; exact (hC.W).2.1, fun z hz => ?_, fun z => by rw [ab_ud (by omega), ab_ud (by omega)]; exact (hC.W).2.2.2.1 z, fun z => by rw [ab_ud (by omega), ab_ud (by omega)]; exact (hC.W).2.2.2.2 z⟩, gV_e hC.V (fun q hq j => by rw [ab_ud (by omega), ab_ud (by omega)]), gR_e hC.R (by rw [ab_ud (by omega), ab_ud (by omega)]) (fun q hq j => by rw [ab_ud (by omega), ab_ud (by omega)]), gP_e hC.P (by rw [ab_ud (by omega), ab_ud (by omega)]) (fun q hq j => by rw [ab_ud (by omega), ab_ud (by omega)])⟩, ⟨gN_e hM.N (fun i hi => by rw [ab_ud (by omega), ab_ud (by omega)]), aM_e hM.X (fun p hp j => by rw [ab_ud (by omega), ab_ud (by omega)]), ⟨by rw [ab_ud (by omega), ab_ud (by omega)]; exact (hM.W).1, by rw [ab_ud (by omega), ab_ud (by omega)]; exact (hM.W).2.1, fun z hz => ?_, fun z => by rw [ab_ud (by omega), ab_ud (by omega)]; exact (hM.W).2.2.2.1 z, fun z => by rw [ab_ud (by omega), ab_ud (by omega)]; exact (hM.W).2.2.2.2 z⟩, gV_e hM.V (fun q hq j => by rw [ab_ud (by omega), ab_ud (by omega)]), gR_e hM.R (by rw [ab_ud (by omega), ab_ud (by omega)]) (fun q hq j => by rw [ab_ud (by omega), ab_ud (by omega)]), gP_e hM.P (by rw [ab_ud (by omega), ab_ud (by omega)]) (fun q hq j => by rw [ab_ud (by omega), ab_ud (by omega)])⟩⟩
  · show vO (if z = j then o else σ.SN z) ≤ 200
    split
    · exact ho2
    · exact ho.SN z hz
  · rw [ab_ud (by omega), ab_us]
    show (if z = j then v else _) = oi (if z = j then o else σ.SN z) ∧ vO (if z = j then o else σ.SN z) ≤ 200
    split
    · exact ⟨ho1.symm, ho2⟩
    · exact (hC.W).2.2.1 z hz
  · rw [ab_us, ab_ud (by omega)]
    show (if z = j then v else _) = oi (if z = j then o else σ.SN z) ∧ vO (if z = j then o else σ.SN z) ≤ 200
    split
    · exact ⟨ho1.symm, ho2⟩
    · exact (hM.W).2.2.1 z hz
theorem S1 (hR : Rel μ) : stp 51 82 [.int h, .int v] μ := by
  obtain ⟨σ, ho, hC, hM⟩ := hR
  unfold stp
  refine C51 ho.n hC.N.1 (fun g => ?_) (fun g => C82 ho.n hM.N.1 (fun z => absurd z g) (fun _ => ⟨rfl, ⟨_, rfl⟩, σ, ho, hC, hM⟩))
  obtain ⟨j, hj, rfl⟩ := toK (n := 3) (by decide) (x := h) ⟨g.2.1, g.2.2.1⟩
  rw [q_cl (by omega)]
  have gv := g.2.2.2
  refine C82 ho.n (RM_e hM (fun p hp _ i => by rw [ab_ud (by omega)])).N.1 (fun _ => ?_) (fun z => absurd g z)
  rw [q_cl (by omega)]

  refine ⟨rfl, ⟨_, rfl⟩, mkS σ.n σ.X σ.SN (fun z => if z = j then v else σ.W4 z) σ.W5 σ.D σ.S σ.T σ.f σ.s σ.np σ.nt σ.PK σ.PZ σ.TK σ.TM σ.cf σ.cm σ.cs, ⟨ho.n, ho.T, ho.f, ho.s, ho.np, ho.nt, ho.D, (fun z hz => ?_), ho.W5, ho.SN⟩, ⟨gN_e hC.N (fun i _ => by rw [ab_ud (by omega), ab_ud (by omega)]), aC_e hC.X (fun p hp j => by rw [ab_ud (by omega), ab_ud (by omega)]), ⟨by rw [ab_ud (by omega), ab_ud (by omega)]; exact (hC.W).1, by rw [ab_ud (by omega), ab_ud (by omega)]; exact (hC.W).2.1, fun z hz => by rw [ab_ud (by omega), ab_ud (by omega)]; exact (hC.W).2.2.1 z hz, fun z => by rw [ab_ud (by omega), ab_us, (hC.W).2.2.2.1 z]; rfl, fun z => by rw [ab_ud (by omega), ab_ud (by omega)]; exact (hC.W).2.2.2.2 z⟩, gV_e hC.V (fun q hq j => by rw [ab_ud (by omega), ab_ud (by omega)]), gR_e hC.R (by rw [ab_ud (by omega), ab_ud (by omega)]) (fun q hq j => by rw [ab_ud (by omega), ab_ud (by omega)]), gP_e hC.P (by rw [ab_ud (by omega), ab_ud (by omega)]) (fun q hq j => by rw [ab_ud (by omega), ab_ud (by omega)])⟩, ⟨gN_e hM.N (fun i hi => by rw [ab_ud (by omega), ab_ud (by omega)]), aM_e hM.X (fun p hp j => by rw [ab_ud (by omega), ab_ud (by omega)]), ⟨by rw [ab_ud (by omega), ab_ud (by omega)]; exact (hM.W).1, by rw [ab_ud (by omega), ab_ud (by omega)]; exact (hM.W).2.1, fun z hz => by rw [ab_ud (by omega), ab_ud (by omega)]; exact (hM.W).2.2.1 z hz, fun z => by rw [ab_us, ab_ud (by omega), (hM.W).2.2.2.1 z]; rfl, fun z => by rw [ab_ud (by omega), ab_ud (by omega)]; exact (hM.W).2.2.2.2 z⟩, gV_e hM.V (fun q hq j => by rw [ab_ud (by omega), ab_ud (by omega)]), gR_e hM.R (by rw [ab_ud (by omega), ab_ud (by omega)]) (fun q hq j => by rw [ab_ud (by omega), ab_ud (by omega)]), gP_e hM.P (by rw [ab_ud (by omega), ab_ud (by omega)]) (fun q hq j => by rw [ab_ud (by omega), ab_ud (by omega)])⟩⟩
  show (if z = j then v else σ.W4 z) = -100 ∨ (-30 ≤ (if z = j then v else σ.W4 z) ∧ (if z = j then v else σ.W4 z) ≤ 10)
  split
  · rcases gv with e | e
    · exact Or.inl (Int32.toInt_inj.mp (by rw [e]; rfl))
    · exact Or.inr ⟨by rw [Int32.le_iff_toInt_le]; exact e.1, by rw [Int32.le_iff_toInt_le]; exact e.2⟩
  · exact ho.W4 z hz
theorem S2 (hR : Rel μ) : stp 52 83 [.int h, .int v] μ := by
  obtain ⟨σ, ho, hC, hM⟩ := hR
  unfold stp
  refine C52 ho.n hC.N.1 (fun g => ?_) (fun g => C83 ho.n hM.N.1 (fun z => absurd z g) (fun _ => ⟨rfl, ⟨_, rfl⟩, σ, ho, hC, hM⟩))
  obtain ⟨a, ha, rfl⟩ := toK (n := 4) (by decide) (x := h) ⟨g.2.1, g.2.2.1⟩
  obtain ⟨b, hb, rfl⟩ := toK (n := 10) (by decide) (x := v) (by omega)
  refine C83 ho.n (RM_e hM (fun p hp _ i => by rw [ab_ud (by omega), ab_ud (by omega)])).N.1 (fun _ => ?_) (fun z => absurd g z)
  exact ⟨rfl, ⟨_, rfl⟩, mkS σ.n σ.X σ.SN σ.W4 σ.W5 σ.D σ.S σ.T (b) (a) σ.np σ.nt σ.PK σ.PZ σ.TK σ.TM σ.cf σ.cm σ.cs, ⟨ho.n, ho.T, (by show b ≤ 9; omega), ha, ho.np, ho.nt, ho.D, ho.W4, ho.W5, ho.SN⟩, ⟨gN_e hC.N (fun i _ => by rw [ab_ud (by omega), ab_ud (by omega), ab_ud (by omega), ab_ud (by omega)]), aC_e hC.X (fun p hp j => by rw [ab_ud (by omega), ab_ud (by omega), ab_ud (by omega), ab_ud (by omega)]), ⟨by rw [ab_ud (by omega), ab_ud (by omega), ab_uo (by omega), ab_up_eq]; rfl, by rw [ab_ud (by omega), ab_ud (by omega), ab_up_eq]; rfl, fun z hz => by rw [ab_ud (by omega), ab_ud (by omega), ab_ud (by omega), ab_ud (by omega)]; exact (hC.W).2.2.1 z hz, fun z => by rw [ab_ud (by omega), ab_ud (by omega), ab_ud (by omega), ab_ud (by omega)]; exact (hC.W).2.2.2.1 z, fun z => by rw [ab_ud (by omega), ab_ud (by omega), ab_ud (by omega), ab_ud (by omega)]; exact (hC.W).2.2.2.2 z⟩, gV_e hC.V (fun q hq j => by rw [ab_ud (by omega), ab_ud (by omega), ab_ud (by omega), ab_ud (by omega)]), gR_e hC.R (by rw [ab_ud (by omega), ab_ud (by omega), ab_ud (by omega), ab_ud (by omega)]) (fun q hq j => by rw [ab_ud (by omega), ab_ud (by omega), ab_ud (by omega), ab_ud (by omega)]), gP_e hC.P (by rw [ab_ud (by omega), ab_ud (by omega), ab_ud (by omega), ab_ud (by omega)]) (fun q hq j => by rw [ab_ud (by omega), ab_ud (by omega), ab_ud (by omega), ab_ud (by omega)])⟩, ⟨gN_e hM.N (fun i hi => by rw [ab_uo (by omega), ab_uo (by omega), ab_ud (by omega), ab_ud (by omega)]), aM_e hM.X (fun p hp j => by rw [ab_ud (by omega), ab_ud (by omega), ab_ud (by omega), ab_ud (by omega)]), ⟨by rw [ab_uo (by omega), ab_up_eq]; rfl, by rw [ab_up_eq]; rfl, fun z hz => by rw [ab_ud (by omega), ab_ud (by omega), ab_ud (by omega), ab_ud (by omega)]; exact (hM.W).2.2.1 z hz, fun z => by rw [ab_ud (by omega), ab_ud (by omega), ab_ud (by omega), ab_ud (by omega)]; exact (hM.W).2.2.2.1 z, fun z => by rw [ab_ud (by omega), ab_ud (by omega), ab_ud (by omega), ab_ud (by omega)]; exact (hM.W).2.2.2.2 z⟩, gV_e hM.V (fun q hq j => by rw [ab_ud (by omega), ab_ud (by omega), ab_ud (by omega), ab_ud (by omega)]), gR_e hM.R (by rw [ab_uo (by omega), ab_uo (by omega), ab_ud (by omega), ab_ud (by omega)]) (fun q hq j => by rw [ab_ud (by omega), ab_ud (by omega), ab_ud (by omega), ab_ud (by omega)]), gP_e hM.P (by rw [ab_uo (by omega), ab_uo (by omega), ab_ud (by omega), ab_ud (by omega)]) (fun q hq j => by rw [ab_ud (by omega), ab_ud (by omega), ab_ud (by omega), ab_ud (by omega)])⟩⟩
theorem S3 (hR : Rel μ) : stp 53 93 [.int v] μ := by
  obtain ⟨σ, ho, hC, hM⟩ := hR
  unfold stp
  refine C53 hC ho (fun k hk e μ' r1 e1 => ?_) (fun g => C93 hM ho (fun k hk e => absurd (by rw [e, nI_ti (by omega)]; omega) g) (fun _ => ⟨rfl, ⟨_, rfl⟩, σ, ho, hC, hM⟩))
  subst e
  refine C93 (RM_e hM (fun p hp _ j => e1 p hp j)) ho (fun k' hk' e' μ'' r2 e2 => ?_) (fun z => absurd (by rw [nI_ti (by omega)]; omega) z)
  obtain rfl : k = k' := by
    have := congrArg Int32.toInt e'
    rw [nI_ti (by omega), nI_ti (by omega)] at this
    omega
  exact ⟨rfl, ⟨_, rfl⟩, itr k σ, itr_ok k σ ho, RC_e r1 (fun p hp _ j => e2 p hp j), r2⟩
theorem S4 (hR : Rel μ) : stp 54 96 [.int k, .int i, .int w] μ := by
  obtain ⟨σ, ho, hC, hM⟩ := hR
  unfold stp
  exact C54 hC.X ho.L (C96 hM.X ho.L ⟨rfl, ⟨_, rfl⟩, σ, ho, hC, hM⟩)
theorem S5 (hR : Rel μ) : stp 55 102 [.int k, .int w] μ := by
  obtain ⟨σ, ho, hC, hM⟩ := hR
  unfold stp
  exact C55 hC.X ho.L (C102 hM.X ho.L ⟨rfl, ⟨_, rfl⟩, σ, ho, hC, hM⟩)
theorem S9 (hR : Rel μ) : stp 59 108 [] μ := by
  obtain ⟨σ, ho, hC, hM⟩ := hR
  unfold stp
  exact C59 hC.X ho.L ho.np hC.R.1 hC.R.2 (C108 hM.X ho.L ho.np hM.R.1 hM.R.2 ⟨rfl, ⟨_, rfl⟩, σ, ho, hC, hM⟩)
theorem S10 (hR : Rel μ) : stp 60 109 [] μ := by
  obtain ⟨σ, ho, hC, hM⟩ := hR
  unfold stp
  exact C60 hC.X ho.L ho.np hC.R.1 hC.R.2 (C109 hM.X ho.L ho.np hM.R.1 hM.R.2 ⟨rfl, ⟨_, rfl⟩, σ, ho, hC, hM⟩)
theorem S16 (hR : Rel μ) : stp 66 116 [.int w] μ := by
  obtain ⟨σ, ho, hC, hM⟩ := hR
  unfold stp
  refine C66 (C116 ⟨?_, ⟨_, rfl⟩, σ, ho, hC, hM⟩)
  rw [hC.V.2.2, hM.V.2.2]
theorem S17 (hR : Rel μ) : stp 67 117 [.int w] μ := by
  obtain ⟨σ, ho, hC, hM⟩ := hR
  unfold stp
  refine C67 hC.X ho.L (C117 hM.X ho.L ⟨?_, ⟨_, rfl⟩, σ, ho, hC, hM⟩)
  rw [hC.N.1, hC.N.2.1, hC.N.2.2.1, hC.N.2.2.2, hC.R.1, hC.P.1, hM.N.1, hM.N.2.1, hM.N.2.2.1, hM.N.2.2.2, hM.R.1, hM.P.1]
theorem nI_nj {a b : Nat} (ha : a < 2147483648) (hb : b < 2147483648) (h : nI a = nI b) : a = b := by
  have := congrArg Int32.toInt h
  rw [nI_ti ha, nI_ti hb] at this
  omega
theorem S6 (hR : Rel μ) : stp 56 104 [.int k, .int i] μ := by
  obtain ⟨σ, ho, hC, hM⟩ := hR
  unfold stp
  refine C56 hC.X (fun c j hc ek ei hj ρ r1 f1 => ?_) (fun g => C104 hM.X (fun c j hc ek ei hj => absurd (by rw [ek, ei, q_cl (by omega), nI_ti (by omega), nI_ti (by have := (hM.X c hc).2.1; omega)]; omega) g) (fun _ => ⟨rfl, ⟨_, rfl⟩, σ, ho, hC, hM⟩))
  subst ek ei
  have f2 : ∀ p q, ¬ (17 ≤ p ∧ p ≤ 20) → p ≠ 15 → ρ p q = μ p q := fun p q hp h15 => by rw [f1 p q (by omega), ab_ud (by omega)]
  have hM2 : RM σ (ab_up ρ 0 8 (ρ 0 8 + nI (sm ((σ.X c).drop (j + 1))))) := RM_e hM (fun p hp _ z => by rw [ab_ud (by omega), f2 p z (by omega) (by omega)])
  have hl := (hM.X c hc).2.1
  refine C104 hM2.X (fun c' j' hc' ek ei hj' ρ2 r2 c2 f3 => ?_) (fun z => absurd (by rw [q_cl (by omega), nI_ti (by omega), nI_ti (by omega)]; omega) z)
  obtain rfl : c = c' := by
    have := congrArg Int32.toInt ek
    rw [nI_ti (by omega), nI_ti (by omega)] at this
    omega
  obtain rfl : j = j' := by
    have := congrArg Int32.toInt ei
    rw [nI_ti (by omega), nI_ti (by omega)] at this
    omega
  have g2 : ∀ p z, ¬ (65 ≤ p ∧ p ≤ 69) → p ≠ 73 → ρ2 p z = ab_up ρ 0 8 (ρ 0 8 + nI (sm ((σ.X c).drop (j + 1)))) p z := fun p z hp h73 => by rw [f3 p z (by omega), ab_ud (by omega)]
  have g65 : ∀ q, q ≠ 12 → ρ2 65 q = μ 65 q := fun q hq => by rw [f3 65 q (by omega), ab_ud (by omega), ab_ud (by omega), f2 65 q (by omega) (by omega)]
  have far : ∀ p q, ¬ (65 ≤ p ∧ p ≤ 69) → ¬ (17 ≤ p ∧ p ≤ 20) → p ≠ 0 → p ≠ 73 → p ≠ 15 → ρ2 p q = μ p q := fun p q h1 h2 h3 h73 h15 => by rw [g2 p q h1 h73, ab_ud (by omega), f2 p q h2 h15]
  refine ⟨rfl, ⟨_, rfl⟩, mkS σ.n (fun b => if b = c then (σ.X c).take (j + 1) else σ.X b) σ.SN σ.W4 σ.W5 σ.D (fun b => if b = c then 1 else σ.S b) σ.T σ.f σ.s σ.np σ.nt σ.PK σ.PZ σ.TK σ.TM σ.cf σ.cm (σ.cs + nI (sm ((σ.X c).drop (j + 1)))), ⟨ho.n, okT_take ho.T, ho.f, ho.s, ho.np, ho.nt, ho.D, ho.W4, ho.W5, ho.SN⟩, ⟨⟨?_, ?_, ?_, ?_⟩, fun b hb => ?_, gW_e hC.W (fun i _ => far 2 i (by omega) (by omega) (by omega) (by omega) (by omega)) (fun q hq j => far q j (by omega) (by omega) (by omega) (by omega) (by omega)), ⟨fun z => by rw [far 14 z (by omega) (by omega) (by omega) (by omega) (by omega)]; exact hC.V.1 z, fun z => by rw [g2 15 z (by omega) (by omega), ab_ud (by omega), f1 15 z (by omega), ab_us, hC.V.2.1 z]; rfl, fun z => by rw [far 16 z (by omega) (by omega) (by omega) (by omega) (by omega)]; exact hC.V.2.2 z⟩, gR_e hC.R (far 6 2 (by omega) (by omega) (by omega) (by omega) (by omega)) (fun q hq j => far q j (by omega) (by omega) (by omega) (by omega) (by omega)), gP_e hC.P (far 9 3 (by omega) (by omega) (by omega) (by omega) (by omega)) (fun q hq j => far q j (by omega) (by omega) (by omega) (by omega) (by omega))⟩, ⟨⟨?_, ?_, ?_, ?_⟩, fun b hb => ?_, gW_e hM.W (fun i hi => g65 i (by omega)) (fun q hq j => far q j (by omega) (by omega) (by omega) (by omega) (by omega)), ⟨fun z => by rw [far 74 z (by omega) (by omega) (by omega) (by omega) (by omega)]; exact hM.V.1 z, fun z => by rw [f3 73 z (by omega), ab_us, ab_ud (by omega), f2 73 z (by omega) (by omega), hM.V.2.1 z]; rfl, fun z => by rw [far 75 z (by omega) (by omega) (by omega) (by omega) (by omega)]; exact hM.V.2.2 z⟩, gR_e hM.R (g65 16 (by omega)) (fun q hq j => far q j (by omega) (by omega) (by omega) (by omega) (by omega)), gP_e hM.P (g65 19 (by omega)) (fun q hq j => far q j (by omega) (by omega) (by omega) (by omega) (by omega))⟩⟩
  · rw [g2 0 5 (by omega) (by omega), ab_uo (by omega), f2 0 5 (by omega) (by omega)]; exact hC.N.1
  · rw [g2 0 6 (by omega) (by omega), ab_uo (by omega), f2 0 6 (by omega) (by omega)]; exact hC.N.2.1
  · rw [g2 0 7 (by omega) (by omega), ab_uo (by omega), f2 0 7 (by omega) (by omega)]; exact hC.N.2.2.1
  · rw [g2 0 8 (by omega) (by omega), ab_up_eq, f2 0 8 (by omega) (by omega), hC.N.2.2.2]; rfl
  · show rC ρ2 b (if b = c then _ else _)
    refine rC_e (ν := ρ) ?_ (fun p z hp => by rw [g2 p z (by omega) (by omega), ab_ud (by omega)])
    split
    · next e => subst e; exact r1
    · next e => exact rC_fr (rC_o (hC.X b hb) (by omega)) f1 e
  · rw [g65 0 (by omega)]; exact hM.N.1
  · rw [g65 10 (by omega)]; exact hM.N.2.1
  · rw [g65 11 (by omega)]; exact hM.N.2.2.1
  · rw [c2, ab_ud (by omega), f2 65 12 (by omega) (by omega), hM.N.2.2.2]; rfl
  · show rM ρ2 b (if b = c then _ else _)
    split
    · next e => subst e; exact r2
    · next e => exact rM_g (rM_e (hM2.X b hb) (fun p z hp => by rw [ab_ud (by omega)])) f3 e
theorem S7 (hR : Rel μ) : stp 57 105 [.int k] μ := by
  obtain ⟨σ, ho, hC, hM⟩ := hR
  unfold stp
  refine C57 hC.X ho.L (fun c q hc ek hq h2 ρ r1 f1 => ?_) (fun c hc ek hn => C105 hM.X ho.L (fun c' q hc' ek' hq h2 => absurd (by rw [nI_nj (by omega) (by omega) (ek.symm.trans ek')]; exact h2) hn) (fun _ _ _ _ => ⟨rfl, ⟨_, rfl⟩, σ, ho, hC, hM⟩) (fun z => absurd (by rw [ek, nI_ti (by omega)]; omega) z)) (fun g => C105 hM.X ho.L (fun c q hc ek => absurd (by rw [ek, nI_ti (by omega)]; omega) g) (fun c hc ek => absurd (by rw [ek, nI_ti (by omega)]; omega) g) (fun _ => ⟨rfl, ⟨_, rfl⟩, σ, ho, hC, hM⟩))
  subst ek
  have f2 : ∀ p q, ¬ (17 ≤ p ∧ p ≤ 20) → ρ p q = μ p q := fun p q hp => by rw [f1 p q (by omega)]
  have hM2 : RM σ (ab_up ρ 0 8 (ρ 0 8 + nI (sm ((σ.X c).drop (q.1 + 1))))) := RM_e hM (fun p hp _ z => by rw [ab_ud (by omega), f2 p z (by omega)])
  refine C105 hM2.X ho.L (fun c' q' hc' ek hq' h2' ρ2 r2 c2 f3 => ?_) (fun c' hc' ek hn => absurd (by rw [← nI_nj (by omega) (by omega) ek]; exact h2) hn) (fun z => absurd (by rw [nI_ti (by omega)]; omega) z)
  obtain rfl : c = c' := nI_nj (by omega) (by omega) ek
  obtain rfl : q = q' := by
    rw [hq] at hq'
    exact Option.some.inj hq'
  have g2 : ∀ p z, ¬ (65 ≤ p ∧ p ≤ 69) →  ρ2 p z = ab_up ρ 0 8 (ρ 0 8 + nI (sm ((σ.X c).drop (q.1 + 1)))) p z := fun p z hp  => by rw [f3 p z (by omega)]
  have g65 : ∀ q, q ≠ 12 → ρ2 65 q = μ 65 q := fun q hq => by rw [f3 65 q (by omega), ab_ud (by omega), f2 65 q (by omega)]
  have far : ∀ p q, ¬ (65 ≤ p ∧ p ≤ 69) → ¬ (17 ≤ p ∧ p ≤ 20) → p ≠ 0 →  ρ2 p q = μ p q := fun p q h1 h2 h3  => by rw [g2 p q h1, ab_ud (by omega), f2 p q h2]
  refine ⟨rfl, ⟨_, rfl⟩, mkS σ.n (fun b => if b = c then (σ.X c).take (q.1 + 1) else σ.X b) σ.SN σ.W4 σ.W5 σ.D σ.S σ.T σ.f σ.s σ.np σ.nt σ.PK σ.PZ σ.TK σ.TM σ.cf σ.cm (σ.cs + nI (sm ((σ.X c).drop (q.1 + 1)))), ⟨ho.n, okT_take ho.T, ho.f, ho.s, ho.np, ho.nt, ho.D, ho.W4, ho.W5, ho.SN⟩, ⟨⟨?_, ?_, ?_, ?_⟩, fun b hb => ?_, gW_e hC.W (fun i _ => far 2 i (by omega) (by omega) (by omega)) (fun q hq j => far q j (by omega) (by omega) (by omega)), gV_e hC.V (fun q hq j => far q j (by omega) (by omega) (by omega)), gR_e hC.R (far 6 2 (by omega) (by omega) (by omega)) (fun q hq j => far q j (by omega) (by omega) (by omega)), gP_e hC.P (far 9 3 (by omega) (by omega) (by omega)) (fun q hq j => far q j (by omega) (by omega) (by omega))⟩, ⟨⟨?_, ?_, ?_, ?_⟩, fun b hb => ?_, gW_e hM.W (fun i hi => g65 i (by omega)) (fun q hq j => far q j (by omega) (by omega) (by omega)), gV_e hM.V (fun q hq j => far q j (by omega) (by omega) (by omega)), gR_e hM.R (g65 16 (by omega)) (fun q hq j => far q j (by omega) (by omega) (by omega)), gP_e hM.P (g65 19 (by omega)) (fun q hq j => far q j (by omega) (by omega) (by omega))⟩⟩
  · rw [g2 0 5 (by omega), ab_uo (by omega), f2 0 5 (by omega)]; exact hC.N.1
  · rw [g2 0 6 (by omega), ab_uo (by omega), f2 0 6 (by omega)]; exact hC.N.2.1
  · rw [g2 0 7 (by omega), ab_uo (by omega), f2 0 7 (by omega)]; exact hC.N.2.2.1
  · rw [g2 0 8 (by omega), ab_up_eq, f2 0 8 (by omega), hC.N.2.2.2]; rfl
  · show rC ρ2 b (if b = c then _ else _)
    refine rC_e (ν := ρ) ?_ (fun p z hp => by rw [g2 p z (by omega), ab_ud (by omega)])
    split
    · next e => subst e; exact r1
    · next e => exact rC_fr (hC.X b hb) f1 e
  · rw [g65 0 (by omega)]; exact hM.N.1
  · rw [g65 10 (by omega)]; exact hM.N.2.1
  · rw [g65 11 (by omega)]; exact hM.N.2.2.1
  · rw [c2, ab_ud (by omega), f2 65 12 (by omega), hM.N.2.2.2]; rfl
  · show rM ρ2 b (if b = c then _ else _)
    split
    · next e => subst e; exact r2
    · next e => exact rM_g (hM2.X b hb) f3 e
theorem S8 (hR : Rel μ) : stp 58 106 [.int k, .int v] μ := by
  obtain ⟨σ, ho, hC, hM⟩ := hR
  unfold stp
  have hnn := ho.np
  refine C58 ho.np hC.R.1 (fun g => ?_) (fun g => C106 ho.np hM.R.1 (fun z => absurd z g) (fun _ => ⟨rfl, ⟨_, rfl⟩, σ, ho, hC, hM⟩))
  obtain ⟨a, ha, rfl⟩ := toK (n := 12) (by omega) (x := k) (by omega)
  obtain ⟨b, hb, rfl⟩ := toK (n := 3) (by omega) (x := v) (by omega)
  refine C106 ho.np (RM_e hM (fun p hp _ i => by rw [ab_ud (by omega), ab_ud (by omega), ab_ud (by omega)])).R.1 (fun _ => ?_) (fun z => absurd g z)
  have far : ∀ p z, ¬ (6 ≤ p ∧ p ≤ 8) → ¬ (p = 65 ∨ p = 76 ∨ p = 77) → (ab_up (ab_up (ab_up (ab_up (ab_up (ab_up μ 7 σ.np (nI a)) 8 σ.np (nI b)) 6 2 (nI (σ.np + 1))) 76 σ.np (nI a)) 77 σ.np (nI b)) 65 16 (nI (σ.np + 1))) p z = μ p z := fun p z h1 h2 => by rw [ab_ud (by omega), ab_ud (by omega), ab_ud (by omega), ab_ud (by omega), ab_ud (by omega), ab_ud (by omega)]
  have f65 : ∀ z, z ≠ 16 → (ab_up (ab_up (ab_up (ab_up (ab_up (ab_up μ 7 σ.np (nI a)) 8 σ.np (nI b)) 6 2 (nI (σ.np + 1))) 76 σ.np (nI a)) 77 σ.np (nI b)) 65 16 (nI (σ.np + 1))) 65 z = μ 65 z := fun z h1 => by rw [ab_uo h1, ab_ud (by decide), ab_ud (by decide), ab_ud (by decide), ab_ud (by decide), ab_ud (by decide)]
  have m1 : (ab_up (ab_up (ab_up (ab_up (ab_up (ab_up μ 7 σ.np (nI a)) 8 σ.np (nI b)) 6 2 (nI (σ.np + 1))) 76 σ.np (nI a)) 77 σ.np (nI b)) 65 16 (nI (σ.np + 1))) 6 2 = nI (σ.np + 1) := by rw [ab_ud (by decide), ab_ud (by decide), ab_ud (by decide), ab_up_eq]
  have m2 : (ab_up (ab_up (ab_up (ab_up (ab_up (ab_up μ 7 σ.np (nI a)) 8 σ.np (nI b)) 6 2 (nI (σ.np + 1))) 76 σ.np (nI a)) 77 σ.np (nI b)) 65 16 (nI (σ.np + 1))) 65 16 = nI (σ.np + 1) := by rw [ab_up_eq]
  have x1 : ∀ z, (ab_up (ab_up (ab_up (ab_up (ab_up (ab_up μ 7 σ.np (nI a)) 8 σ.np (nI b)) 6 2 (nI (σ.np + 1))) 76 σ.np (nI a)) 77 σ.np (nI b)) 65 16 (nI (σ.np + 1))) 7 z = if z = σ.np then nI a else μ 7 z := fun z => by rw [ab_ud (by decide), ab_ud (by decide), ab_ud (by decide), ab_ud (by decide), ab_ud (by decide), ab_us]
  have x2 : ∀ z, (ab_up (ab_up (ab_up (ab_up (ab_up (ab_up μ 7 σ.np (nI a)) 8 σ.np (nI b)) 6 2 (nI (σ.np + 1))) 76 σ.np (nI a)) 77 σ.np (nI b)) 65 16 (nI (σ.np + 1))) 8 z = if z = σ.np then nI b else μ 8 z := fun z => by rw [ab_ud (by decide), ab_ud (by decide), ab_ud (by decide), ab_ud (by decide), ab_us, ab_ud (by decide)]
  have x3 : ∀ z, (ab_up (ab_up (ab_up (ab_up (ab_up (ab_up μ 7 σ.np (nI a)) 8 σ.np (nI b)) 6 2 (nI (σ.np + 1))) 76 σ.np (nI a)) 77 σ.np (nI b)) 65 16 (nI (σ.np + 1))) 76 z = if z = σ.np then nI a else μ 76 z := fun z => by rw [ab_ud (by decide), ab_ud (by decide), ab_us, ab_ud (by decide), ab_ud (by decide), ab_ud (by decide)]
  have x4 : ∀ z, (ab_up (ab_up (ab_up (ab_up (ab_up (ab_up μ 7 σ.np (nI a)) 8 σ.np (nI b)) 6 2 (nI (σ.np + 1))) 76 σ.np (nI a)) 77 σ.np (nI b)) 65 16 (nI (σ.np + 1))) 77 z = if z = σ.np then nI b else μ 77 z := fun z => by rw [ab_ud (by decide), ab_us, ab_ud (by decide), ab_ud (by decide), ab_ud (by decide), ab_ud (by decide)]
  generalize ab_up (ab_up (ab_up (ab_up (ab_up (ab_up μ 7 σ.np (nI a)) 8 σ.np (nI b)) 6 2 (nI (σ.np + 1))) 76 σ.np (nI a)) 77 σ.np (nI b)) 65 16 (nI (σ.np + 1)) = M at *
  refine ⟨rfl, ⟨_, rfl⟩, mkS σ.n σ.X σ.SN σ.W4 σ.W5 σ.D σ.S σ.T σ.f σ.s (σ.np + 1) σ.nt (fun z => if z = σ.np then a else σ.PK z) (fun z => if z = σ.np then b else σ.PZ z) σ.TK σ.TM σ.cf σ.cm σ.cs, ⟨ho.n, ho.T, ho.f, ho.s, (by show σ.np + 1 ≤ 10; omega), ho.nt, ho.D, ho.W4, ho.W5, ho.SN⟩, ⟨gN_e hC.N (fun i _ => far 0 i (by omega) (by omega)), aC_e hC.X (fun p hp j => far p j (by omega) (by omega)), gW_e hC.W (fun i _ => far 2 i (by omega) (by omega)) (fun q hq j => far q j (by omega) (by omega)), gV_e hC.V (fun q hq j => far q j (by omega) (by omega)), ⟨m1, fun z hz => ?_⟩, gP_e hC.P (far 9 3 (by omega) (by omega)) (fun q hq j => far q j (by omega) (by omega))⟩, ⟨gN_e hM.N (fun i hi => f65 i (by omega)), aM_e hM.X (fun p hp j => far p j (by omega) (by omega)), gW_e hM.W (fun i hi => f65 i (by omega)) (fun q hq j => far q j (by omega) (by omega)), gV_e hM.V (fun q hq j => far q j (by omega) (by omega)), ⟨m2, fun z hz => ?_⟩, gP_e hM.P (f65 19 (by omega)) (fun q hq j => far q j (by omega) (by omega))⟩⟩
  · have hz' : z < σ.np + 1 := hz
    have old := hC.R.2
    rw [x1 z, x2 z]
    show _ = nI (if z = σ.np then a else σ.PK z) ∧ _ = nI (if z = σ.np then b else σ.PZ z) ∧ (if z = σ.np then a else σ.PK z) < 12 ∧ (if z = σ.np then b else σ.PZ z) ≤ 2
    by_cases e : z = σ.np
    · simp only [if_pos e]; exact ⟨trivial, trivial, by omega, by omega⟩
    · simp only [if_neg e]; exact old z (by omega)
  · have hz' : z < σ.np + 1 := hz
    have old := hM.R.2
    rw [x3 z, x4 z]
    show _ = nI (if z = σ.np then a else σ.PK z) ∧ _ = nI (if z = σ.np then b else σ.PZ z) ∧ (if z = σ.np then a else σ.PK z) < 12 ∧ (if z = σ.np then b else σ.PZ z) ≤ 2
    by_cases e : z = σ.np
    · simp only [if_pos e]; exact ⟨trivial, trivial, by omega, by omega⟩
    · simp only [if_neg e]; exact old z (by omega)
theorem S11 (hR : Rel μ) : stp 61 110 [] μ := by
  obtain ⟨σ, ho, hC, hM⟩ := hR
  unfold stp
  refine C61 (C110 ?_)
  refine ⟨?_, ⟨_, rfl⟩, mkS σ.n σ.X σ.SN σ.W4 σ.W5 σ.D σ.S σ.T σ.f σ.s σ.np (0) σ.PK σ.PZ σ.TK σ.TM σ.cf σ.cm σ.cs, ⟨ho.n, ho.T, ho.f, ho.s, ho.np, (by show 0 ≤ 6; omega), ho.D, ho.W4, ho.W5, ho.SN⟩, ⟨gN_e hC.N (fun i _ => by rw [ab_ud (by omega), ab_ud (by omega)]), aC_e hC.X (fun p hp j => by rw [ab_ud (by omega), ab_ud (by omega)]), gW_e hC.W (fun i _ => by rw [ab_ud (by omega), ab_ud (by omega)]) (fun q hq j => by rw [ab_ud (by omega), ab_ud (by omega)]), gV_e hC.V (fun q hq j => by rw [ab_ud (by omega), ab_ud (by omega)]), gR_e hC.R (by rw [ab_ud (by omega), ab_ud (by omega)]) (fun q hq j => by rw [ab_ud (by omega), ab_ud (by omega)]), ⟨by rw [ab_ud (by omega), ab_up_eq]; rfl, fun z hz => absurd hz (Nat.not_lt_zero _)⟩⟩, ⟨gN_e hM.N (fun i hi => by rw [ab_uo (by omega), ab_ud (by omega)]), aM_e hM.X (fun p hp j => by rw [ab_ud (by omega), ab_ud (by omega)]), gW_e hM.W (fun i hi => by rw [ab_uo (by omega), ab_ud (by omega)]) (fun q hq j => by rw [ab_ud (by omega), ab_ud (by omega)]), gV_e hM.V (fun q hq j => by rw [ab_ud (by omega), ab_ud (by omega)]), gR_e hM.R (by rw [ab_uo (by omega), ab_ud (by omega)]) (fun q hq j => by rw [ab_ud (by omega), ab_ud (by omega)]), ⟨by rw [ab_up_eq]; rfl, fun z hz => absurd hz (Nat.not_lt_zero _)⟩⟩⟩
  rw [ab_ud (by omega), hC.P.1, hM.P.1]
theorem S13 (hR : Rel μ) : stp 63 112 [.int k] μ := by
  obtain ⟨σ, ho, hC, hM⟩ := hR
  unfold stp
  refine C63 hC.X ho.L ho.nt hC.P.1 hC.P.2 (fun c hc ek μ' e1 => ?_) (fun g => C112 hM.X ho.L ho.nt hM.P.1 hM.P.2 (fun c hc ek => absurd (by rw [ek, nI_ti (by omega)]; omega) g) (fun _ => ⟨rfl, ⟨_, rfl⟩, σ, ho, hC, hM⟩))
  subst ek
  have hM2 : RM σ μ' := RM_e hM (fun p hp _ j => e1 p (by omega) j)
  refine C112 hM2.X ho.L ho.nt hM2.P.1 hM2.P.2 (fun c' hc' ek μ'' e2 => ?_) (fun z => absurd (by rw [nI_ti (by omega)]; omega) z)
  obtain rfl : c = c' := nI_nj (by omega) (by omega) ek
  exact ⟨rfl, ⟨_, rfl⟩, σ, ho, RC_e hC (fun p hp h12 j => (e2 p (by omega) j).trans (e1 p h12 j)), RM_e hM2 (fun p hp h80 j => e2 p h80 j)⟩
theorem S14 (hR : Rel μ) : stp 64 114 [] μ := by
  obtain ⟨σ, ho, hC, hM⟩ := hR
  unfold stp
  refine C64 hC.X ho.L ho.nt hC.P.1 hC.P.2 (fun μ' e1 => ?_)
  have hM2 : RM σ μ' := RM_e hM (fun p hp _ j => e1 p (by omega) j)
  refine C114 hM2.X ho.L ho.nt hM2.P.1 hM2.P.2 (fun μ'' e2 => ?_)
  exact ⟨rfl, ⟨_, rfl⟩, σ, ho, RC_e hC (fun p hp h12 j => (e2 p (by omega) j).trans (e1 p h12 j)), RM_e hM2 (fun p hp h80 j => e2 p h80 j)⟩
theorem S15 (hR : Rel μ) : stp 65 115 [.int k] μ := by
  obtain ⟨σ, ho, hC, hM⟩ := hR
  unfold stp
  refine C65 ho.n hC.N.1 hC.X ho.L (fun c hc ek hn => ?_) (fun g => C115 ho.n hM.N.1 hM.X ho.L (fun c hc ek hn => absurd (by rw [ek, nI_ti (by omega)]; omega) g) (fun _ => ⟨rfl, ⟨_, rfl⟩, σ, ho, hC, hM⟩))
  subst ek
  rw [hC.V.1 c]
  by_cases hD : σ.D c = 0
  · rw [if_pos hD]
    have hM2 : RM σ (ab_up μ 14 c (nI (dg σ.X c))) := RM_e hM (fun p hp _ j => by rw [ab_ud (by omega)])
    refine C115 ho.n hM2.N.1 hM2.X ho.L (fun c' hc' ek hn' => ?_) (fun z => absurd (by rw [nI_ti (by omega)]; omega) z)
    obtain rfl : c = c' := nI_nj (by omega) (by omega) ek
    rw [hM2.V.1 c, if_pos hD]
    have hdg := dg_in σ.X c
    refine ⟨rfl, ⟨_, rfl⟩, mkS σ.n σ.X σ.SN σ.W4 σ.W5 (fun z => if z = c then nI (dg σ.X c) else σ.D z) σ.S σ.T σ.f σ.s σ.np σ.nt σ.PK σ.PZ σ.TK σ.TM σ.cf σ.cm σ.cs, ⟨ho.n, ho.T, ho.f, ho.s, ho.np, ho.nt, (fun z hz => ?_), ho.W4, ho.W5, ho.SN⟩, ⟨gN_e hC.N (fun i _ => by rw [ab_ud (by omega), ab_ud (by omega)]), aC_e hC.X (fun p hp j => by rw [ab_ud (by omega), ab_ud (by omega)]), gW_e hC.W (fun i _ => by rw [ab_ud (by omega), ab_ud (by omega)]) (fun q hq j => by rw [ab_ud (by omega), ab_ud (by omega)]), ⟨fun z => by rw [ab_ud (by omega), ab_us, hC.V.1 z]; rfl, fun z => by rw [ab_ud (by omega), ab_ud (by omega)]; exact hC.V.2.1 z, fun z => by rw [ab_ud (by omega), ab_ud (by omega)]; exact hC.V.2.2 z⟩, gR_e hC.R (by rw [ab_ud (by omega), ab_ud (by omega)]) (fun q hq j => by rw [ab_ud (by omega), ab_ud (by omega)]), gP_e hC.P (by rw [ab_ud (by omega), ab_ud (by omega)]) (fun q hq j => by rw [ab_ud (by omega), ab_ud (by omega)])⟩, ⟨gN_e hM.N (fun i hi => by rw [ab_ud (by omega), ab_ud (by omega)]), aM_e hM.X (fun p hp j => by rw [ab_ud (by omega), ab_ud (by omega)]), gW_e hM.W (fun i hi => by rw [ab_ud (by omega), ab_ud (by omega)]) (fun q hq j => by rw [ab_ud (by omega), ab_ud (by omega)]), ⟨fun z => by rw [ab_us, ab_ud (by omega), hM.V.1 z]; rfl, fun z => by rw [ab_ud (by omega), ab_ud (by omega)]; exact hM.V.2.1 z, fun z => by rw [ab_ud (by omega), ab_ud (by omega)]; exact hM.V.2.2 z⟩, gR_e hM.R (by rw [ab_ud (by omega), ab_ud (by omega)]) (fun q hq j => by rw [ab_ud (by omega), ab_ud (by omega)]), gP_e hM.P (by rw [ab_ud (by omega), ab_ud (by omega)]) (fun q hq j => by rw [ab_ud (by omega), ab_ud (by omega)])⟩⟩
    · show ∃ v, v ≤ 5 ∧ (if z = c then nI (dg σ.X c) else σ.D z) = nI v
      split
      · exact ⟨_, hdg.2, rfl⟩
      · exact ho.D z hz
  · rw [if_neg hD]
    refine C115 ho.n hM.N.1 hM.X ho.L (fun c' hc' ek hn' => ?_) (fun z => absurd (by rw [nI_ti (by omega)]; omega) z)
    obtain rfl : c = c' := nI_nj (by omega) (by omega) ek
    rw [hM.V.1 c, if_neg hD]
    exact ⟨rfl, ⟨_, rfl⟩, σ, ho, hC, hM⟩
end STEPS
