section SEEN
variable {μ : ab_M} {h v w k i : Int32}
theorem S12 (hR : Rel μ) : stp 62 111 [.int k, .int v] μ := by
  obtain ⟨σ, ho, hC, hM⟩ := hR
  unfold stp
  have hnn := ho.nt
  refine C62 ho.nt hC.P.1 (fun g => ?_) (fun g => C111 ho.nt hM.P.1 (fun z => absurd z g) (fun _ => ⟨rfl, ⟨_, rfl⟩, σ, ho, hC, hM⟩))
  obtain ⟨a, ha, rfl⟩ := toK (n := 4) (by omega) (x := k) (by omega)
  obtain ⟨b, hb, rfl⟩ := toK (n := 10000) (by omega) (x := v) (by omega)
  refine C111 ho.nt (RM_e hM (fun p hp _ i => by rw [ab_ud (by omega), ab_ud (by omega), ab_ud (by omega)])).P.1 (fun _ => ?_) (fun z => absurd g z)
  have far : ∀ p z, ¬ (9 ≤ p ∧ p ≤ 11) → ¬ (p = 65 ∨ p = 78 ∨ p = 79) → (ab_up (ab_up (ab_up (ab_up (ab_up (ab_up μ 10 σ.nt (nI a)) 11 σ.nt (nI b)) 9 3 (nI (σ.nt + 1))) 78 σ.nt (nI a)) 79 σ.nt (nI b)) 65 19 (nI (σ.nt + 1))) p z = μ p z := fun p z h1 h2 => by rw [ab_ud (by omega), ab_ud (by omega), ab_ud (by omega), ab_ud (by omega), ab_ud (by omega), ab_ud (by omega)]
  have f65 : ∀ z, z ≠ 19 → (ab_up (ab_up (ab_up (ab_up (ab_up (ab_up μ 10 σ.nt (nI a)) 11 σ.nt (nI b)) 9 3 (nI (σ.nt + 1))) 78 σ.nt (nI a)) 79 σ.nt (nI b)) 65 19 (nI (σ.nt + 1))) 65 z = μ 65 z := fun z h1 => by rw [ab_uo h1, ab_ud (by decide), ab_ud (by decide), ab_ud (by decide), ab_ud (by decide), ab_ud (by decide)]
  have m1 : (ab_up (ab_up (ab_up (ab_up (ab_up (ab_up μ 10 σ.nt (nI a)) 11 σ.nt (nI b)) 9 3 (nI (σ.nt + 1))) 78 σ.nt (nI a)) 79 σ.nt (nI b)) 65 19 (nI (σ.nt + 1))) 9 3 = nI (σ.nt + 1) := by rw [ab_ud (by decide), ab_ud (by decide), ab_ud (by decide), ab_up_eq]
  have m2 : (ab_up (ab_up (ab_up (ab_up (ab_up (ab_up μ 10 σ.nt (nI a)) 11 σ.nt (nI b)) 9 3 (nI (σ.nt + 1))) 78 σ.nt (nI a)) 79 σ.nt (nI b)) 65 19 (nI (σ.nt + 1))) 65 19 = nI (σ.nt + 1) := by rw [ab_up_eq]
  have x1 : ∀ z, (ab_up (ab_up (ab_up (ab_up (ab_up (ab_up μ 10 σ.nt (nI a)) 11 σ.nt (nI b)) 9 3 (nI (σ.nt + 1))) 78 σ.nt (nI a)) 79 σ.nt (nI b)) 65 19 (nI (σ.nt + 1))) 10 z = if z = σ.nt then nI a else μ 10 z := fun z => by rw [ab_ud (by decide), ab_ud (by decide), ab_ud (by decide), ab_ud (by decide), ab_ud (by decide), ab_us]
  have x2 : ∀ z, (ab_up (ab_up (ab_up (ab_up (ab_up (ab_up μ 10 σ.nt (nI a)) 11 σ.nt (nI b)) 9 3 (nI (σ.nt + 1))) 78 σ.nt (nI a)) 79 σ.nt (nI b)) 65 19 (nI (σ.nt + 1))) 11 z = if z = σ.nt then nI b else μ 11 z := fun z => by rw [ab_ud (by decide), ab_ud (by decide), ab_ud (by decide), ab_ud (by decide), ab_us, ab_ud (by decide)]
  have x3 : ∀ z, (ab_up (ab_up (ab_up (ab_up (ab_up (ab_up μ 10 σ.nt (nI a)) 11 σ.nt (nI b)) 9 3 (nI (σ.nt + 1))) 78 σ.nt (nI a)) 79 σ.nt (nI b)) 65 19 (nI (σ.nt + 1))) 78 z = if z = σ.nt then nI a else μ 78 z := fun z => by rw [ab_ud (by decide), ab_ud (by decide), ab_us, ab_ud (by decide), ab_ud (by decide), ab_ud (by decide)]
  have x4 : ∀ z, (ab_up (ab_up (ab_up (ab_up (ab_up (ab_up μ 10 σ.nt (nI a)) 11 σ.nt (nI b)) 9 3 (nI (σ.nt + 1))) 78 σ.nt (nI a)) 79 σ.nt (nI b)) 65 19 (nI (σ.nt + 1))) 79 z = if z = σ.nt then nI b else μ 79 z := fun z => by rw [ab_ud (by decide), ab_us, ab_ud (by decide), ab_ud (by decide), ab_ud (by decide), ab_ud (by decide)]
  generalize ab_up (ab_up (ab_up (ab_up (ab_up (ab_up μ 10 σ.nt (nI a)) 11 σ.nt (nI b)) 9 3 (nI (σ.nt + 1))) 78 σ.nt (nI a)) 79 σ.nt (nI b)) 65 19 (nI (σ.nt + 1)) = M at *
  refine ⟨rfl, ⟨nI (σ.nt + 1), rfl⟩, mkS σ.n σ.X σ.SN σ.W4 σ.W5 σ.D σ.S σ.T σ.f σ.s σ.np (σ.nt + 1) σ.PK σ.PZ (fun z => if z = σ.nt then a else σ.TK z) (fun z => if z = σ.nt then b else σ.TM z) σ.cf σ.cm σ.cs, ?_, ?_, ?_⟩
  · exact ⟨ho.n, ho.T, ho.f, ho.s, ho.np, (by show σ.nt + 1 ≤ 6; omega), ho.D, ho.W4, ho.W5, ho.SN⟩
  · refine ⟨gN_e hC.N (fun i _ => far 0 i (by omega) (by omega)), aC_e hC.X (fun p hp j => far p j (by omega) (by omega)), gW_e hC.W (fun i _ => far 2 i (by omega) (by omega)) (fun q hq j => far q j (by omega) (by omega)), gV_e hC.V (fun q hq j => far q j (by omega) (by omega)), gR_e hC.R (far 6 2 (by omega) (by omega)) (fun q hq j => far q j (by omega) (by omega)), m1, fun z hz => ?_⟩
    have hz' : z < σ.nt + 1 := hz
    have old := hC.P.2
    rw [x1 z, x2 z]
    show _ = nI (if z = σ.nt then a else σ.TK z) ∧ _ = nI (if z = σ.nt then b else σ.TM z) ∧ (if z = σ.nt then a else σ.TK z) ≤ 3 ∧ (if z = σ.nt then b else σ.TM z) ≤ 9999
    by_cases e : z = σ.nt
    · simp only [if_pos e]; exact ⟨trivial, trivial, by omega, by omega⟩
    · simp only [if_neg e]; exact old z (by omega)
  · refine ⟨gN_e hM.N (fun i hi => f65 i (by omega)), aM_e hM.X (fun p hp j => far p j (by omega) (by omega)), gW_e hM.W (fun i hi => f65 i (by omega)) (fun q hq j => far q j (by omega) (by omega)), gV_e hM.V (fun q hq j => far q j (by omega) (by omega)), gR_e hM.R (f65 16 (by omega)) (fun q hq j => far q j (by omega) (by omega)), m2, fun z hz => ?_⟩
    have hz' : z < σ.nt + 1 := hz
    have old := hM.P.2
    rw [x3 z, x4 z]
    show _ = nI (if z = σ.nt then a else σ.TK z) ∧ _ = nI (if z = σ.nt then b else σ.TM z) ∧ (if z = σ.nt then a else σ.TK z) ≤ 3 ∧ (if z = σ.nt then b else σ.TM z) ≤ 9999
    by_cases e : z = σ.nt
    · simp only [if_pos e]; exact ⟨trivial, trivial, by omega, by omega⟩
    · simp only [if_neg e]; exact old z (by omega)
end SEEN
