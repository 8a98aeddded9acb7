def St : Type := Nat × (Nat → List ly) × (Nat → Option Nat) × (Nat → Int32) × (Nat → Int32) × (Nat → Int32) × (Nat → Int32) × (Nat → Int32) × Nat × Nat × Nat × Nat × (Nat → Nat) × (Nat → Nat) × (Nat → Nat) × (Nat → Nat) × Int32 × Int32 × Int32
def St.n (σ : St) : Nat := σ.1
def St.X (σ : St) : Nat → List ly := σ.2.1
def St.SN (σ : St) : Nat → Option Nat := σ.2.2.1
def St.W4 (σ : St) : Nat → Int32 := σ.2.2.2.1
def St.W5 (σ : St) : Nat → Int32 := σ.2.2.2.2.1
def St.D (σ : St) : Nat → Int32 := σ.2.2.2.2.2.1
def St.S (σ : St) : Nat → Int32 := σ.2.2.2.2.2.2.1
def St.T (σ : St) : Nat → Int32 := σ.2.2.2.2.2.2.2.1
def St.f (σ : St) : Nat := σ.2.2.2.2.2.2.2.2.1
def St.s (σ : St) : Nat := σ.2.2.2.2.2.2.2.2.2.1
def St.np (σ : St) : Nat := σ.2.2.2.2.2.2.2.2.2.2.1
def St.nt (σ : St) : Nat := σ.2.2.2.2.2.2.2.2.2.2.2.1
def St.PK (σ : St) : Nat → Nat := σ.2.2.2.2.2.2.2.2.2.2.2.2.1
def St.PZ (σ : St) : Nat → Nat := σ.2.2.2.2.2.2.2.2.2.2.2.2.2.1
def St.TK (σ : St) : Nat → Nat := σ.2.2.2.2.2.2.2.2.2.2.2.2.2.2.1
def St.TM (σ : St) : Nat → Nat := σ.2.2.2.2.2.2.2.2.2.2.2.2.2.2.2.1
def St.cf (σ : St) : Int32 := σ.2.2.2.2.2.2.2.2.2.2.2.2.2.2.2.2.1
def St.cm (σ : St) : Int32 := σ.2.2.2.2.2.2.2.2.2.2.2.2.2.2.2.2.2.1
def St.cs (σ : St) : Int32 := σ.2.2.2.2.2.2.2.2.2.2.2.2.2.2.2.2.2.2
def mkS (n : Nat) (X : Nat → List ly) (SN : Nat → Option Nat) (W4 : Nat → Int32) (W5 : Nat → Int32) (D : Nat → Int32) (S : Nat → Int32) (T : Nat → Int32) (f : Nat) (s : Nat) (np : Nat) (nt : Nat) (PK : Nat → Nat) (PZ : Nat → Nat) (TK : Nat → Nat) (TM : Nat → Nat) (cf : Int32) (cm : Int32) (cs : Int32) : St := (n, X, SN, W4, W5, D, S, T, f, s, np, nt, PK, PZ, TK, TM, cf, cm, cs)
def gN (σ : St) (p a b c d : Nat) (μ : ab_M) : Prop := μ p a = nI σ.n ∧ μ p b = σ.cf ∧ μ p c = σ.cm ∧ μ p d = σ.cs
def gW (σ : St) (p a b x y z : Nat) (μ : ab_M) : Prop := μ p a = nI σ.s ∧ μ p b = nI σ.f ∧ rS μ x σ.SN ∧ (∀ j, μ y j = σ.W4 j) ∧ (∀ j, μ z j = σ.W5 j)
def gV (σ : St) (x y z : Nat) (μ : ab_M) : Prop := (∀ j, μ x j = σ.D j) ∧ (∀ j, μ y j = σ.S j) ∧ (∀ j, μ z j = σ.T j)
def gR (σ : St) (p a x y : Nat) (μ : ab_M) : Prop := μ p a = nI σ.np ∧ rP2 μ x y σ.PK σ.PZ σ.np
def gP (σ : St) (p a x y : Nat) (μ : ab_M) : Prop := μ p a = nI σ.nt ∧ rT μ x y σ.TK σ.TM σ.nt
theorem gN_e {σ : St} {p a b c d : Nat} {μ μ' : ab_M} (h : gN σ p a b c d μ) (e : ∀ i, i = a ∨ i = b ∨ i = c ∨ i = d → μ' p i = μ p i) : gN σ p a b c d μ' := ⟨(e a (by simp)).trans h.1, (e b (by simp)).trans h.2.1, (e c (by simp)).trans h.2.2.1, (e d (by simp)).trans h.2.2.2⟩
theorem gW_e {σ : St} {p a b x y z : Nat} {μ μ' : ab_M} (h : gW σ p a b x y z μ) (e : ∀ i, i = a ∨ i = b → μ' p i = μ p i) (e2 : ∀ q, q = x ∨ q = y ∨ q = z → ∀ j, μ' q j = μ q j) : gW σ p a b x y z μ' := ⟨(e a (by simp)).trans h.1, (e b (by simp)).trans h.2.1, fun k hk => by rw [e2 x (by simp)]; exact h.2.2.1 k hk, fun j => (e2 y (by simp) j).trans (h.2.2.2.1 j), fun j => (e2 z (by simp) j).trans (h.2.2.2.2 j)⟩
theorem gV_e {σ : St} {x y z : Nat} {μ μ' : ab_M} (h : gV σ x y z μ) (e : ∀ q, q = x ∨ q = y ∨ q = z → ∀ j, μ' q j = μ q j) : gV σ x y z μ' := ⟨fun j => (e x (by simp) j).trans (h.1 j), fun j => (e y (by simp) j).trans (h.2.1 j), fun j => (e z (by simp) j).trans (h.2.2 j)⟩
theorem gR_e {σ : St} {p a x y : Nat} {μ μ' : ab_M} (h : gR σ p a x y μ) (e : μ' p a = μ p a) (e2 : ∀ q, q = x ∨ q = y → ∀ j, μ' q j = μ q j) : gR σ p a x y μ' := ⟨e.trans h.1, fun k hk => by rw [e2 x (by simp), e2 y (by simp)]; exact h.2 k hk⟩
theorem gP_e {σ : St} {p a x y : Nat} {μ μ' : ab_M} (h : gP σ p a x y μ) (e : μ' p a = μ p a) (e2 : ∀ q, q = x ∨ q = y → ∀ j, μ' q j = μ q j) : gP σ p a x y μ' := ⟨e.trans h.1, fun k hk => by rw [e2 x (by simp), e2 y (by simp)]; exact h.2 k hk⟩
theorem aC_e {X : Nat → List ly} {μ μ' : ab_M} (h : aC μ X) (e : ∀ p, 17 ≤ p ∧ p ≤ 20 → ∀ j, μ' p j = μ p j) : aC μ' X := fun c hc => rC_e (h c hc) (fun p i hp => e p hp i)
theorem aM_e {X : Nat → List ly} {μ μ' : ab_M} (h : aM μ X) (e : ∀ p, 66 ≤ p ∧ p ≤ 69 → ∀ j, μ' p j = μ p j) : aM μ' X := fun c hc => rM_e (h c hc) (fun p i hp => e p hp i)
abbrev RC (σ : St) (μ : ab_M) : Prop := (gN σ 0 5 6 7 8 μ) ∧ (aC μ σ.X) ∧ (gW σ 2 3 4 3 4 5 μ) ∧ (gV σ 14 15 16 μ) ∧ (gR σ 6 2 7 8 μ) ∧ (gP σ 9 3 10 11 μ)
theorem RC.N {σ : St} {μ : ab_M} (h : RC σ μ) : gN σ 0 5 6 7 8 μ := h.1
theorem RC.X {σ : St} {μ : ab_M} (h : RC σ μ) : aC μ σ.X := h.2.1
theorem RC.W {σ : St} {μ : ab_M} (h : RC σ μ) : gW σ 2 3 4 3 4 5 μ := h.2.2.1
theorem RC.V {σ : St} {μ : ab_M} (h : RC σ μ) : gV σ 14 15 16 μ := h.2.2.2.1
theorem RC.R {σ : St} {μ : ab_M} (h : RC σ μ) : gR σ 6 2 7 8 μ := h.2.2.2.2.1
theorem RC.P {σ : St} {μ : ab_M} (h : RC σ μ) : gP σ 9 3 10 11 μ := h.2.2.2.2.2
abbrev RM (σ : St) (μ : ab_M) : Prop := (gN σ 65 0 10 11 12 μ) ∧ (aM μ σ.X) ∧ (gW σ 65 8 9 70 71 72 μ) ∧ (gV σ 74 73 75 μ) ∧ (gR σ 65 16 76 77 μ) ∧ (gP σ 65 19 78 79 μ)
theorem RM.N {σ : St} {μ : ab_M} (h : RM σ μ) : gN σ 65 0 10 11 12 μ := h.1
theorem RM.X {σ : St} {μ : ab_M} (h : RM σ μ) : aM μ σ.X := h.2.1
theorem RM.W {σ : St} {μ : ab_M} (h : RM σ μ) : gW σ 65 8 9 70 71 72 μ := h.2.2.1
theorem RM.V {σ : St} {μ : ab_M} (h : RM σ μ) : gV σ 74 73 75 μ := h.2.2.2.1
theorem RM.R {σ : St} {μ : ab_M} (h : RM σ μ) : gR σ 65 16 76 77 μ := h.2.2.2.2.1
theorem RM.P {σ : St} {μ : ab_M} (h : RM σ μ) : gP σ 65 19 78 79 μ := h.2.2.2.2.2
theorem RC_e {σ : St} {μ μ' : ab_M} (h : RC σ μ) (e : ∀ p, p < 65 → p ≠ 12 → ∀ j, μ' p j = μ p j) : RC σ μ' :=
  ⟨gN_e h.N (fun i _ => e 0 (by decide) (by decide) i), aC_e h.X (fun p hp j => e p (by omega) (by omega) j), gW_e h.W (fun i _ => e 2 (by decide) (by decide) i) (fun q hq j => e q (by omega) (by omega) j), gV_e h.V (fun q hq j => e q (by omega) (by omega) j), gR_e h.R (e 6 (by decide) (by decide) 2) (fun q hq j => e q (by omega) (by omega) j), gP_e h.P (e 9 (by decide) (by decide) 3) (fun q hq j => e q (by omega) (by omega) j)⟩
theorem RM_e {σ : St} {μ μ' : ab_M} (h : RM σ μ) (e : ∀ p, 65 ≤ p → p ≠ 80 → ∀ j, μ' p j = μ p j) : RM σ μ' :=
  ⟨gN_e h.N (fun i _ => e 65 (by decide) (by decide) i), aM_e h.X (fun p hp j => e p (by omega) (by omega) j), gW_e h.W (fun i _ => e 65 (by decide) (by decide) i) (fun q hq j => e q (by omega) (by omega) j), gV_e h.V (fun q hq j => e q (by omega) (by omega) j), gR_e h.R (e 65 (by decide) (by decide) 16) (fun q hq j => e q (by omega) (by omega) j), gP_e h.P (e 65 (by decide) (by decide) 19) (fun q hq j => e q (by omega) (by omega) j)⟩
abbrev Ok (σ : St) : Prop := (σ.n ≤ 400) ∧ (okT σ.n σ.X) ∧ (σ.f ≤ 9) ∧ (σ.s < 4) ∧ (σ.np ≤ 10) ∧ (σ.nt ≤ 6) ∧ (∀ c, c < 12 → ∃ v, v ≤ 5 ∧ σ.D c = nI v) ∧ (∀ h, h < 3 → σ.W4 h = -100 ∨ (-30 ≤ σ.W4 h ∧ σ.W4 h ≤ 10)) ∧ (∀ h, h < 3 → -30 ≤ σ.W5 h ∧ σ.W5 h ≤ 10) ∧ (∀ h, h < 3 → vO (σ.SN h) ≤ 200)
theorem Ok.n {σ : St} (h : Ok σ) : σ.n ≤ 400 := h.1
theorem Ok.T {σ : St} (h : Ok σ) : okT σ.n σ.X := h.2.1
theorem Ok.f {σ : St} (h : Ok σ) : σ.f ≤ 9 := h.2.2.1
theorem Ok.s {σ : St} (h : Ok σ) : σ.s < 4 := h.2.2.2.1
theorem Ok.np {σ : St} (h : Ok σ) : σ.np ≤ 10 := h.2.2.2.2.1
theorem Ok.nt {σ : St} (h : Ok σ) : σ.nt ≤ 6 := h.2.2.2.2.2.1
theorem Ok.D {σ : St} (h : Ok σ) : ∀ c, c < 12 → ∃ v, v ≤ 5 ∧ σ.D c = nI v := h.2.2.2.2.2.2.1
theorem Ok.W4 {σ : St} (h : Ok σ) : ∀ h, h < 3 → σ.W4 h = -100 ∨ (-30 ≤ σ.W4 h ∧ σ.W4 h ≤ 10) := h.2.2.2.2.2.2.2.1
theorem Ok.W5 {σ : St} (h : Ok σ) : ∀ h, h < 3 → -30 ≤ σ.W5 h ∧ σ.W5 h ≤ 10 := h.2.2.2.2.2.2.2.2.1
theorem Ok.SN {σ : St} (h : Ok σ) : ∀ h, h < 3 → vO (σ.SN h) ≤ 200 := h.2.2.2.2.2.2.2.2.2
theorem Ok.L {σ : St} (h : Ok σ) : ∀ c, c < 12 → okL (σ.X c) := fun _ hc => okT_L h.T h.n hc
def wS (σ : St) (h : Nat) : Int32 := if σ.W4 h = -100 then σ.W5 h else σ.W4 h
def X2 (σ : St) : Nat → List ly := drfI σ.f σ.s (fallL σ.SN σ.X)
def nxd (σ : St) : St := mkS (σ.n + 1) (chgL (wS σ) (X2 σ)) (fun _ => none) (fun j => if j < 3 then -100 else σ.W4 j) (fun j => if j < 3 then wS σ j else σ.W5 j) (fun j => if j < 12 then 0 else σ.D j) (fun j => if j < 12 then 0 else σ.S j) (jT σ.D σ.S σ.T 12) 0 σ.s σ.np σ.nt σ.PK σ.PZ σ.TK σ.TM (σ.cf + nI (fsum σ.SN 12)) (σ.cm + nI (msum (wS σ) (X2 σ) 12)) σ.cs
theorem wS_in {σ : St} (h : Ok σ) {k : Nat} (hk : k < 3) : -30 ≤ wS σ k ∧ wS σ k ≤ 10 := by
  unfold wS
  have h4 := h.W4 k hk
  have h5 := h.W5 k hk
  split
  · exact h5
  · next g => exact h4.resolve_left g
theorem nxd_ok {σ : St} (h : Ok σ) (hn : σ.n < 400) : Ok (nxd σ) := by
  refine ⟨by show σ.n + 1 ≤ 400; omega, okT_chg (okT_drf (okT_fall h.T (fun k hk => sno_le hk h.SN)) h.f h.s), by show 0 ≤ 9; omega, h.s, h.np, h.nt, fun c hc => ⟨0, by omega, ?_⟩, fun k hk => Or.inl ?_, fun k hk => ?_, fun k hk => by show 0 ≤ 200; omega⟩
  · show (if c < 12 then 0 else _) = _
    rw [if_pos hc]; rfl
  · show (if k < 3 then _ else _) = _
    rw [if_pos hk]
  · show -30 ≤ (if k < 3 then _ else _) ∧ (if k < 3 then _ else _) ≤ _
    rw [if_pos hk]
    exact wS_in h hk
theorem nxd_L {σ : St} (h : Ok σ) (hn : σ.n < 400) {c : Nat} (hc : c < 12) : okL (grow (σ.X c)) ∧ okL (fallL σ.SN σ.X c) ∧ okL (X2 σ c) ∧ okL (cgL (wS σ) (X2 σ) c) := by
  have h1 := okT_fall h.T (fun k hk => sno_le hk h.SN)
  have h2 := okT_drf h1 h.f h.s
  exact ⟨okT_g h.T hn hc, okT_L h1 (by omega) hc, okT_L h2 (by omega) hc, okT_L (okT_cg h2) (by omega) hc⟩
def eqA (μ μ' : ab_M) : Prop := ∀ p, 65 ≤ p → ∀ j, μ' p j = μ p j
def eqB (μ μ' : ab_M) : Prop := ∀ p, p < 65 → ∀ j, μ' p j = μ p j
section DAYS
variable {d : Nat} {μ : ab_M} {Q : ab_Q} {σ : St}
theorem C70 (hC : RC σ μ) (ho : Ok σ) (hn : σ.n < 400) (h : ∀ μ', RC (nxd σ) μ' → eqA μ μ' → Q none μ') : ab_Cl (d + 5) 70 [.ref 0] μ Q := by
  have hN := hC.N
  have hW := hC.W
  have hV := hC.V
  have hl := fun c hc => nxd_L ho hn (c := c) hc
  refine n70 fun J run => run 60 _ _ _ _ ?_
  simp only [e70_0, e70_1, e70_4, e70_7, e70_8, e70_11, e70_12, e70_15, e70_18, e70_21, e70_22, e70_25, e70_26, e70_29, e70_30, e70_33, e70_36, e70_37i, e70_37r, e70_38, e70_41, e70_42, e70_43, e70_46, ab_li1, true_or, or_true, true_and, and_true, ab_pus, ab_pun, ab_len0, ab_len1, ab_len2, ab_len3, ab_len4, Nat.zero_add]
  refine C36 (fun c hc => by rw [hV.1 c]; exact ho.D c hc) (fun ν1 j1 => ?_)
  simp only [e70_0, e70_1, e70_4, e70_7, e70_8, e70_11, e70_12, e70_15, e70_18, e70_21, e70_22, e70_25, e70_26, e70_29, e70_30, e70_33, e70_36, e70_37i, e70_37r, e70_38, e70_41, e70_42, e70_43, e70_46, ab_li1, true_or, or_true, true_and, and_true, ab_pus, ab_pun, ab_len0, ab_len1, ab_len2, ab_len3, ab_len4, Nat.zero_add]
  have k1 : ∀ p, ¬ (14 ≤ p ∧ p ≤ 16) → ∀ j, ν1 p j = μ p j := fun p hp j => j1.2.2.2 p (by omega) (by omega) (by omega) j
  refine C71 (X := σ.X) (SN := σ.SN) (aC_e hC.X (fun p hp j => k1 p (by omega) j)) (fun c hc => (hl c hc).1) (fun k hk => by rw [k1 3 (by omega)]; exact hW.2.2.1 k hk) (fun ν2 a2 c2 k2 => ?_)
  simp only [e70_0, e70_1, e70_4, e70_7, e70_8, e70_11, e70_12, e70_15, e70_18, e70_21, e70_22, e70_25, e70_26, e70_29, e70_30, e70_33, e70_36, e70_37i, e70_37r, e70_38, e70_41, e70_42, e70_43, e70_46, ab_li1, true_or, or_true, true_and, and_true, ab_pus, ab_pun, ab_len0, ab_len1, ab_len2, ab_len3, ab_len4, Nat.zero_add]
  have k2' : ∀ p, ¬ (14 ≤ p ∧ p ≤ 20) → ¬ p = 0 → ∀ j, ν2 p j = μ p j := fun p hp h0 j => (k2 p j (by omega) (by omega)).trans (k1 p (by omega) j)
  have f2 : ν2 2 4 = nI σ.f := by rw [k2' 2 (by omega) (by omega)]; exact hW.2.1
  have s2 : ν2 2 3 = nI σ.s := by rw [k2' 2 (by omega) (by omega)]; exact hW.1
  have w3 : ∀ ν3, kC ν2 ν3 99 → wA ν3 = wS σ := by
    intro ν3 k3
    funext j
    unfold wA wS
    rw [k3 4 j (by omega) (by omega), k3 5 j (by omega) (by omega), k2' 4 (by omega) (by omega), k2' 5 (by omega) (by omega), hW.2.2.2.1, hW.2.2.2.2]
  have fin : ∀ ν3 ν4 ν5, kC ν2 ν3 99 → aC ν4 (chgL (wS σ) (X2 σ)) → ν4 0 7 = ν3 0 7 + nI (msum (wS σ) (X2 σ) 12) → kC ν3 ν4 7 → eI ν4 3 ν5 → Q none (ab_up (ab_up ν5 2 4 0) 0 5 (ab_up ν5 2 4 0 0 5 + 1)) := by
    intro ν3 ν4 ν5 k3 a4 c4 k4 e5
    have k4' : ∀ p, ¬ (14 ≤ p ∧ p ≤ 20) → ¬ p = 0 → ∀ j, ν4 p j = μ p j := fun p hp h0 j => (k4 p j (by omega) (by omega)).trans ((k3 p j (by omega) (by omega)).trans (k2' p hp h0 j))
    have q4 : ∀ i, i ≠ 6 → i ≠ 7 → i ≠ 99 → ν4 0 i = μ 0 i := fun i h6 h7 h9 => (k4 0 i (by omega) (by omega)).trans ((k3 0 i (by omega) (by omega)).trans ((k2 0 i (by omega) (by omega)).trans (k1 0 (by omega) i)))
    have v4 : ∀ p, 14 ≤ p → p ≤ 16 → ∀ j, ν4 p j = ν1 p j := fun p h1 h2 j => (k4 p j (by omega) (by omega)).trans ((k3 p j (by omega) (by omega)).trans (k2 p j (by omega) (by omega)))
    have b6 : ν4 0 6 = μ 0 6 + nI (fsum σ.SN 12) := by rw [k4 0 6 (by omega) (by omega), k3 0 6 (by omega) (by omega), c2, k1 0 (by omega)]
    have b7 : ν4 0 7 = μ 0 7 + nI (msum (wS σ) (X2 σ) 12) := by rw [c4, k3 0 7 (by omega) (by omega), k2 0 7 (by omega) (by omega), k1 0 (by omega)]
    have k5 : ∀ p, ¬ (3 ≤ p ∧ p ≤ 5) → ∀ j, ν5 p j = ν4 p j := fun p hp j => e5.2.2.2 p (by omega) (by omega) (by omega) j
    have z5 : ν5 0 5 = nI σ.n := by rw [k5 0 (by omega), q4 5 (by decide) (by decide) (by decide)]; exact hN.1
    have wA4 : wA ν4 = wS σ := by
      funext j
      unfold wA wS
      rw [k4' 4 (by omega) (by omega), k4' 5 (by omega) (by omega), hW.2.2.2.1, hW.2.2.2.2]
    have hn1 : nI σ.n + 1 = nI (σ.n + 1) := q_p1
    refine h _ ⟨⟨?_, ?_, ?_, ?_⟩, ?_, ⟨?_, ?_, fun k hk => ⟨?_, ?_⟩, fun j => ?_, fun j => ?_⟩, ⟨fun j => ?_, fun j => ?_, fun j => ?_⟩, ?_, ?_⟩ ?_
    · rw [ab_up_eq, ab_ud (by decide), z5, hn1]; rfl
    · rw [ab_uo (by decide), ab_ud (by decide), k5 0 (by omega), b6, hN.2.1]; rfl
    · rw [ab_uo (by decide), ab_ud (by decide), k5 0 (by omega), b7, hN.2.2.1]; rfl
    · rw [ab_uo (by decide), ab_ud (by decide), k5 0 (by omega), q4 8 (by decide) (by decide) (by decide), hN.2.2.2]; rfl
    · exact aC_e a4 (fun p hp j => by rw [ab_ud (by omega), ab_ud (by omega), k5 p (by omega)])
    · rw [ab_ud (by decide), ab_uo (by decide), k5 2 (by omega), k4' 2 (by omega) (by omega)]; exact hW.1
    · rw [ab_ud (by decide), ab_up_eq]; rfl
    · rw [ab_ud (by decide), ab_ud (by decide), e5.2.2.1 k, if_pos hk]; rfl
    · show 0 ≤ 200; omega
    · rw [ab_ud (by decide), ab_ud (by decide), e5.2.1 j, k4' 4 (by omega) (by omega), hW.2.2.2.1]; rfl
    · rw [ab_ud (by decide), ab_ud (by decide), e5.1 j, k4' 5 (by omega) (by omega), hW.2.2.2.2, wA4]; rfl
    · rw [ab_ud (by decide), ab_ud (by decide), k5 14 (by omega), v4 14 (by omega) (by omega), j1.1 j, hV.1]; rfl
    · rw [ab_ud (by decide), ab_ud (by decide), k5 15 (by omega), v4 15 (by omega) (by omega), j1.2.1 j, hV.2.1]; rfl
    · rw [ab_ud (by decide), ab_ud (by decide), k5 16 (by omega), v4 16 (by omega) (by omega), j1.2.2.1 j, show μ 14 = σ.D from funext hV.1, show μ 15 = σ.S from funext hV.2.1, show μ 16 = σ.T from funext hV.2.2]; rfl
    · exact gR_e hC.R (by rw [ab_ud (by decide), ab_ud (by decide), k5 6 (by omega), k4' 6 (by omega) (by omega)]) (fun q hq j => by rw [ab_ud (by omega), ab_ud (by omega), k5 q (by omega), k4' q (by omega) (by omega)])
    · exact gP_e hC.P (by rw [ab_ud (by decide), ab_ud (by decide), k5 9 (by omega), k4' 9 (by omega) (by omega)]) (fun q hq j => by rw [ab_ud (by omega), ab_ud (by omega), k5 q (by omega), k4' q (by omega) (by omega)])
    · intro p hp j
      rw [ab_ud (by omega), ab_ud (by omega), k5 p (by omega), k4' p (by omega) (by omega)]
  refine C45 ho.f f2 ?_
  by_cases hf : σ.f ≤ 3
  · rw [if_pos hf]
    have e : X2 σ = fallL σ.SN σ.X := by unfold X2 drfI; rw [if_neg (by omega)]
    simp only [e70_0, e70_1, e70_4, e70_7, e70_8, e70_11, e70_12, e70_15, e70_18, e70_21, e70_22, e70_25, e70_26, e70_29, e70_30, e70_33, e70_36, e70_37i, e70_37r, e70_38, e70_41, e70_42, e70_43, e70_46, ab_li1, true_or, or_true, true_and, and_true, ab_pus, ab_pun, ab_len0, ab_len1, ab_len2, ab_len3, ab_len4, Nat.zero_add, not_true_eq_false, false_imp_iff, true_imp_iff]
    rw [← e] at a2
    have w := w3 ν2 (fun _ _ _ _ => rfl)
    refine C73 a2 (fun c hc => (hl c hc).2.2.1) (fun c hc => by rw [w]; exact (hl c hc).2.2.2) (fun k hk => by rw [w]; exact (wS_in ho hk).2) (fun ν4 a4 c4 k4 => ?_)
    rw [w] at a4 c4
    simp only [e70_0, e70_1, e70_4, e70_7, e70_8, e70_11, e70_12, e70_15, e70_18, e70_21, e70_22, e70_25, e70_26, e70_29, e70_30, e70_33, e70_36, e70_37i, e70_37r, e70_38, e70_41, e70_42, e70_43, e70_46, ab_li1, true_or, or_true, true_and, and_true, ab_pus, ab_pun, ab_len0, ab_len1, ab_len2, ab_len3, ab_len4, Nat.zero_add]
    refine C48 (fun ν5 e5 => ?_)
    simp only [e70_0, e70_1, e70_4, e70_7, e70_8, e70_11, e70_12, e70_15, e70_18, e70_21, e70_22, e70_25, e70_26, e70_29, e70_30, e70_33, e70_36, e70_37i, e70_37r, e70_38, e70_41, e70_42, e70_43, e70_46, ab_li1, true_or, or_true, true_and, and_true, ab_pus, ab_pun, ab_len0, ab_len1, ab_len2, ab_len3, ab_len4, Nat.zero_add]
    exact fin ν2 ν4 ν5 (fun _ _ _ _ => rfl) a4 c4 k4 e5
  · rw [if_neg hf]
    have e : X2 σ = drfL σ.f σ.s (fallL σ.SN σ.X) := by unfold X2 drfI; rw [if_pos (by omega)]
    simp only [e70_0, e70_1, e70_4, e70_7, e70_8, e70_11, e70_12, e70_15, e70_18, e70_21, e70_22, e70_25, e70_26, e70_29, e70_30, e70_33, e70_36, e70_37i, e70_37r, e70_38, e70_41, e70_42, e70_43, e70_46, ab_li1, true_or, or_true, true_and, and_true, ab_pus, ab_pun, ab_len0, ab_len1, ab_len2, ab_len3, ab_len4, Nat.zero_add, z01, not_true_eq_false, false_imp_iff, true_imp_iff, not_false_eq_true]
    refine C72 a2 (fun c hc => (hl c hc).2.1) ho.f ho.s s2 f2 (fun ν3 a3 k3 => ?_)
    simp only [e70_0, e70_1, e70_4, e70_7, e70_8, e70_11, e70_12, e70_15, e70_18, e70_21, e70_22, e70_25, e70_26, e70_29, e70_30, e70_33, e70_36, e70_37i, e70_37r, e70_38, e70_41, e70_42, e70_43, e70_46, ab_li1, true_or, or_true, true_and, and_true, ab_pus, ab_pun, ab_len0, ab_len1, ab_len2, ab_len3, ab_len4, Nat.zero_add]
    rw [← e] at a3
    have w := w3 ν3 k3
    refine C73 a3 (fun c hc => (hl c hc).2.2.1) (fun c hc => by rw [w]; exact (hl c hc).2.2.2) (fun k hk => by rw [w]; exact (wS_in ho hk).2) (fun ν4 a4 c4 k4 => ?_)
    rw [w] at a4 c4
    simp only [e70_0, e70_1, e70_4, e70_7, e70_8, e70_11, e70_12, e70_15, e70_18, e70_21, e70_22, e70_25, e70_26, e70_29, e70_30, e70_33, e70_36, e70_37i, e70_37r, e70_38, e70_41, e70_42, e70_43, e70_46, ab_li1, true_or, or_true, true_and, and_true, ab_pus, ab_pun, ab_len0, ab_len1, ab_len2, ab_len3, ab_len4, Nat.zero_add]
    refine C48 (fun ν5 e5 => ?_)
    simp only [e70_0, e70_1, e70_4, e70_7, e70_8, e70_11, e70_12, e70_15, e70_18, e70_21, e70_22, e70_25, e70_26, e70_29, e70_30, e70_33, e70_36, e70_37i, e70_37r, e70_38, e70_41, e70_42, e70_43, e70_46, ab_li1, true_or, or_true, true_and, and_true, ab_pus, ab_pun, ab_len0, ab_len1, ab_len2, ab_len3, ab_len4, Nat.zero_add]
    exact fin ν3 ν4 ν5 k3 a4 c4 k4 e5
theorem D92 (hM : RM σ μ) (ho : Ok σ) (hn : σ.n < 400) (h : ∀ μ', RM (nxd σ) μ' → eqB μ μ' → Q none μ') : ab_Cl (d + 4) 92 [.ref 65] μ Q := by
  have hN := hM.N
  have hW := hM.W
  have hV := hM.V
  have hl := fun c hc => nxd_L ho hn (c := c) hc
  have w0 : wB μ = wS σ := by
    funext j
    unfold wB wS
    rw [hW.2.2.2.1, hW.2.2.2.2]
  refine C92 hM.X (fun c hc => by rw [hV.1 c]; exact ho.D c hc) hW.2.2.1 ho.f ho.s hW.2.1 hW.1 (fun c hc => (hl c hc).1) (fun c hc => (hl c hc).2.1) (fun c hc => (hl c hc).2.2.1) (fun c hc => by rw [w0]; exact (hl c hc).2.2.2) (fun k hk => by rw [w0]; exact ⟨(wS_in ho hk).2, (wS_in ho hk).1⟩) (fun ν1 ν2 ν3 ν4 ν5 ν7 j1 b2 a3 c3 k3 a4 k4 a5 c5 k5 e7 => ?_)
  rw [w0] at a5 c5
  have k1 : ∀ p, ¬ (73 ≤ p ∧ p ≤ 75) → ∀ j, ν1 p j = μ p j := fun p hp j => j1.2.2.2 p (by omega) (by omega) (by omega) j
  have k2 : ∀ p, p ≠ 72 → ∀ j, ν2 p j = ν1 p j := b2.2
  have k7 : ∀ p, ¬ (70 ≤ p ∧ p ≤ 71) → ∀ j, ν7 p j = ab_up ν5 65 0 (ν5 65 0 + 1) p j := fun p hp j => e7.2.2 p (by omega) (by omega) j
  have k52 : ∀ p, ¬ (65 ≤ p ∧ p ≤ 69) → ∀ j, ν5 p j = ν2 p j := fun p hp j => (k5 p j (by omega) (by omega)).trans ((k4 p j (by omega) (by omega)).trans (k3 p j (by omega) (by omega)))
  have q5 : ∀ i, i ≠ 10 → i ≠ 11 → i ≠ 99 → ν5 65 i = μ 65 i := fun i h1 h2 h3 => (k5 65 i (by omega) (by omega)).trans ((k4 65 i (by omega) (by omega)).trans ((k3 65 i (by omega) (by omega)).trans ((k2 65 (by decide) i).trans (k1 65 (by omega) i))))
  have b10 : ν5 65 10 = μ 65 10 + nI (fsum σ.SN 12) := by rw [k5 65 10 (by omega) (by omega), k4 65 10 (by omega) (by omega), c3, k2 65 (by decide), k1 65 (by omega)]
  have b11 : ν5 65 11 = μ 65 11 + nI (msum (wS σ) (X2 σ) 12) := by
    have e : ν4 65 11 = μ 65 11 := by rw [k4 65 11 (by omega) (by omega), k3 65 11 (by omega) (by omega), k2 65 (by decide), k1 65 (by omega)]
    rw [c5, e]; rfl
  have hn1 : nI σ.n + 1 = nI (σ.n + 1) := q_p1
  have far : ∀ p, ¬ (65 ≤ p ∧ p ≤ 75) → ∀ j, ab_up ν7 65 9 0 p j = μ p j := fun p hp j => by rw [ab_ud (by omega), k7 p (by omega), ab_ud (by omega), k52 p (by omega), k2 p (by omega), k1 p (by omega)]
  refine h _ ⟨⟨?_, ?_, ?_, ?_⟩, ?_, ⟨?_, ?_, fun k hk => ⟨?_, ?_⟩, fun j => ?_, fun j => ?_⟩, ⟨fun j => ?_, fun j => ?_, fun j => ?_⟩, ?_, ?_⟩ ?_
  · rw [ab_uo (by decide), k7 65 (by omega), ab_up_eq, q5 0 (by decide) (by decide) (by decide), hN.1, hn1]; rfl
  · rw [ab_uo (by decide), k7 65 (by omega), ab_uo (by decide), b10, hN.2.1]; rfl
  · rw [ab_uo (by decide), k7 65 (by omega), ab_uo (by decide), b11, hN.2.2.1]; rfl
  · rw [ab_uo (by decide), k7 65 (by omega), ab_uo (by decide), q5 12 (by decide) (by decide) (by decide), hN.2.2.2]; rfl
  · exact aM_e a5 (fun p hp j => by rw [ab_ud (by omega), k7 p (by omega), ab_ud (by omega)])
  · rw [ab_uo (by decide), k7 65 (by omega), ab_uo (by decide), q5 8 (by decide) (by decide) (by decide)]; exact hW.1
  · rw [ab_up_eq]; rfl
  · rw [ab_ud (by decide), e7.1 k, if_pos hk]; rfl
  · show 0 ≤ 200; omega
  · rw [ab_ud (by decide), e7.2.1 j, ab_ud (by decide), k52 71 (by omega), k2 71 (by decide), k1 71 (by omega), hW.2.2.2.1]; rfl
  · have e1 : wB ν1 = wS σ := by
      rw [← w0]
      funext i
      unfold wB
      rw [k1 71 (by omega), k1 72 (by omega)]
    rw [ab_ud (by decide), k7 72 (by omega), ab_ud (by decide), k52 72 (by omega), b2.1 j, e1, k1 72 (by omega), hW.2.2.2.2]; rfl
  · rw [ab_ud (by decide), k7 74 (by omega), ab_ud (by decide), k52 74 (by omega), k2 74 (by decide), j1.1 j, hV.1]; rfl
  · rw [ab_ud (by decide), k7 73 (by omega), ab_ud (by decide), k52 73 (by omega), k2 73 (by decide), j1.2.1 j, hV.2.1]; rfl
  · rw [ab_ud (by decide), k7 75 (by omega), ab_ud (by decide), k52 75 (by omega), k2 75 (by decide), j1.2.2.1 j, show μ 74 = σ.D from funext hV.1, show μ 73 = σ.S from funext hV.2.1, show μ 75 = σ.T from funext hV.2.2]; rfl
  · exact gR_e hM.R (by rw [ab_uo (by decide), k7 65 (by omega), ab_uo (by decide), q5 16 (by decide) (by decide) (by decide)]) (fun q hq j => far q (by omega) j)
  · exact gP_e hM.P (by rw [ab_uo (by decide), k7 65 (by omega), ab_uo (by decide), q5 19 (by decide) (by decide) (by decide)]) (fun q hq j => far q (by omega) j)
  · exact fun p hp j => far p (by omega) j
def itr : Nat → St → St
  | 0, σ => σ
  | k + 1, σ => if σ.n < 400 then itr k (nxd σ) else σ
theorem itr_ok : ∀ k σ, Ok σ → Ok (itr k σ) := by
  intro k
  induction k with
  | zero => intro σ h; exact h
  | succ k ih =>
    intro σ h
    unfold itr
    split
    · next g => exact ih _ (nxd_ok h g)
    · exact h
theorem C53 {v : Int32} (hC : RC σ μ) (ho : Ok σ) (h1 : ∀ k, k ≤ 30 → v = nI k → ∀ μ', RC (itr k σ) μ' → eqA μ μ' → Q (some (nI (itr k σ).n)) μ') (h0 : ¬ (0 ≤ v.toInt ∧ v.toInt ≤ 30) → Q (some (-1)) μ) : ab_Cl (d + 6) 53 [.ref 0, .int v] μ Q := by
  refine n53 fun J run => ?_
  by_cases hv : 0 ≤ v.toInt ∧ v.toInt ≤ 30
  · obtain ⟨k, hk, rfl⟩ := toK (n := 31) (by decide) (x := v) (by omega)
    have h := h1 k (by omega) rfl
    have loop : ∀ f i ρ τ, k - i ≤ f → i ≤ k → RC τ ρ → Ok τ → eqA μ ρ → itr (k - i) τ = itr k σ → J 14 ρ [.ref 0, .int (nI k), .int (nI i)] [] := by
      intro f
      induction f with
      | zero =>
        intro i ρ τ g1 g2 g3 g4 g5 g6
        obtain rfl : i = k := by omega
        rw [Nat.sub_self] at g6
        refine run 20 _ _ _ _ ?_
        simp (disch := omega) only [e53_0, e53_1, e53_4, e53_5, e53_7, e53_10, e53_11, e53_12, e53_13, e53_14, e53_15, e53_16, e53_19, e53_20, e53_23, e53_26, e53_29, e53_30, e53_33, e53_36, e53_39, e53_40, e53_43, ab_li1, true_or, or_true, true_and, and_true, ab_pus, ab_pun, ab_len0, ab_len1, ab_len2, ab_len3, ab_len4, Nat.zero_add, q_le, Nat.le_refl, true_imp_iff, not_true_eq_false, false_imp_iff, g3.N.1]
        have g7 : τ = itr i σ := g6
        subst g7
        exact h ρ g3 g5
      | succ f ih =>
        intro i ρ τ g1 g2 g3 g4 g5 g6
        by_cases hi : i = k
        · exact ih i ρ τ (by omega) g2 g3 g4 g5 g6
        · have hni : ¬ k ≤ i := by omega
          have hn := g4.n
          obtain ⟨m, hm⟩ : ∃ m, k - i = m + 1 := ⟨k - i - 1, by omega⟩
          rw [hm, itr] at g6
          refine run 20 _ _ _ _ ?_
          simp (disch := omega) only [e53_0, e53_1, e53_4, e53_5, e53_7, e53_10, e53_11, e53_12, e53_13, e53_14, e53_15, e53_16, e53_19, e53_20, e53_23, e53_26, e53_29, e53_30, e53_33, e53_36, e53_39, e53_40, e53_43, ab_li1, true_or, or_true, true_and, and_true, ab_pus, ab_pun, ab_len0, ab_len1, ab_len2, ab_len3, ab_len4, Nat.zero_add, q_le, hni, true_imp_iff, not_false_eq_true, false_imp_iff, g3.N.1, l400]
          refine ⟨fun z => ?_, fun z => ?_⟩
          · rw [if_neg (by omega)] at g6
            subst g6
            exact h ρ g3 g5
          · rw [if_pos (by omega)] at g6
            refine C70 g3 g4 (by omega) (fun ρ2 r2 e2 => ?_)
            simp (disch := omega) only [e53_0, e53_1, e53_4, e53_5, e53_7, e53_10, e53_11, e53_12, e53_13, e53_14, e53_15, e53_16, e53_19, e53_20, e53_23, e53_26, e53_29, e53_30, e53_33, e53_36, e53_39, e53_40, e53_43, ab_li1, true_or, or_true, true_and, and_true, ab_pus, ab_pun, ab_len0, ab_len1, ab_len2, ab_len3, ab_len4, Nat.zero_add, q_p1]
            exact ih (i + 1) ρ2 (nxd τ) (by omega) (by omega) r2 (nxd_ok g4 (by omega)) (fun p hp j => (e2 p hp j).trans (g5 p hp j)) (by rw [← g6]; congr 1; omega)
    refine run 7 _ _ _ _ ?_
    simp (disch := omega) only [e53_0, e53_1, e53_4, e53_5, e53_7, e53_10, e53_11, e53_12, e53_13, e53_14, e53_15, e53_16, e53_19, e53_20, e53_23, e53_26, e53_29, e53_30, e53_33, e53_36, e53_39, e53_40, e53_43, ab_li1, true_or, or_true, true_and, and_true, ab_pus, ab_pun, ab_len0, ab_len1, ab_len2, ab_len3, ab_len4, Nat.zero_add, ab_rn0]
    refine ⟨fun z => absurd z (nI_pos (by omega)), fun _ => ⟨fun _ => ?_, fun z => absurd (show nI k ≤ 30 by rw [l30, q_le (by omega) (by omega)]; omega) z⟩⟩
    exact loop k 0 μ σ (by omega) (by omega) hC ho (fun _ _ _ => rfl) rfl
  · refine run 20 _ _ _ _ ?_
    simp only [e53_0, e53_1, e53_4, e53_5, e53_7, e53_10, e53_11, e53_12, e53_13, e53_14, e53_15, e53_16, e53_19, e53_20, e53_23, e53_26, e53_29, e53_30, e53_33, e53_36, e53_39, e53_40, e53_43, ab_li1, true_or, or_true, true_and, and_true, ab_pus, ab_pun, ab_len0, ab_len1, ab_len2, ab_len3, ab_len4, Nat.zero_add, z_lt, z_le, t_0, t_30]
    exact ⟨fun z => h0 hv, fun z => ⟨fun z2 => absurd (by omega) hv, fun _ => h0 hv⟩⟩
theorem C93 {v : Int32} (hM : RM σ μ) (ho : Ok σ) (h1 : ∀ k, k ≤ 30 → v = nI k → ∀ μ', RM (itr k σ) μ' → eqB μ μ' → Q (some (nI (itr k σ).n)) μ') (h0 : ¬ (0 ≤ v.toInt ∧ v.toInt ≤ 30) → Q (some (-1)) μ) : ab_Cl (d + 5) 93 [.ref 65, .int v] μ Q := by
  refine n93 fun J run => ?_
  by_cases hv : 0 ≤ v.toInt ∧ v.toInt ≤ 30
  · obtain ⟨k, hk, rfl⟩ := toK (n := 31) (by decide) (x := v) (by omega)
    have h := h1 k (by omega) rfl
    have loop : ∀ f i ρ τ, k - i ≤ f → i ≤ k → RM τ ρ → Ok τ → eqB μ ρ → itr (k - i) τ = itr k σ → J 14 ρ [.ref 65, .int (nI k), .int (nI i)] [] := by
      intro f
      induction f with
      | zero =>
        intro i ρ τ g1 g2 g3 g4 g5 g6
        obtain rfl : i = k := by omega
        rw [Nat.sub_self] at g6
        refine run 20 _ _ _ _ ?_
        simp (disch := omega) only [e93_0, e93_1, e93_2, e93_4, e93_7, e93_10, e93_11, e93_12, e93_13, e93_14, e93_15, e93_16, e93_19, e93_20, e93_23, e93_26, e93_29, e93_30, e93_33, e93_36, e93_39, e93_40, e93_43, ab_li2, true_or, or_true, true_and, and_true, ab_pus, ab_pun, ab_len0, ab_len1, ab_len2, ab_len3, ab_len4, Nat.zero_add, q_le, Nat.le_refl, true_imp_iff, not_true_eq_false, false_imp_iff, g3.N.1]
        have g7 : τ = itr i σ := g6
        subst g7
        exact h ρ g3 g5
      | succ f ih =>
        intro i ρ τ g1 g2 g3 g4 g5 g6
        by_cases hi : i = k
        · exact ih i ρ τ (by omega) g2 g3 g4 g5 g6
        · have hni : ¬ k ≤ i := by omega
          have hn := g4.n
          obtain ⟨m, hm⟩ : ∃ m, k - i = m + 1 := ⟨k - i - 1, by omega⟩
          rw [hm, itr] at g6
          refine run 20 _ _ _ _ ?_
          simp (disch := omega) only [e93_0, e93_1, e93_2, e93_4, e93_7, e93_10, e93_11, e93_12, e93_13, e93_14, e93_15, e93_16, e93_19, e93_20, e93_23, e93_26, e93_29, e93_30, e93_33, e93_36, e93_39, e93_40, e93_43, ab_li2, true_or, or_true, true_and, and_true, ab_pus, ab_pun, ab_len0, ab_len1, ab_len2, ab_len3, ab_len4, Nat.zero_add, q_le, hni, true_imp_iff, not_false_eq_true, false_imp_iff, g3.N.1, l400]
          refine ⟨fun z => ?_, fun z => ?_⟩
          · rw [if_neg (by omega)] at g6
            subst g6
            exact h ρ g3 g5
          · rw [if_pos (by omega)] at g6
            refine D92 g3 g4 (by omega) (fun ρ2 r2 e2 => ?_)
            simp (disch := omega) only [e93_0, e93_1, e93_2, e93_4, e93_7, e93_10, e93_11, e93_12, e93_13, e93_14, e93_15, e93_16, e93_19, e93_20, e93_23, e93_26, e93_29, e93_30, e93_33, e93_36, e93_39, e93_40, e93_43, ab_li2, true_or, or_true, true_and, and_true, ab_pus, ab_pun, ab_len0, ab_len1, ab_len2, ab_len3, ab_len4, Nat.zero_add, q_p1]
            exact ih (i + 1) ρ2 (nxd τ) (by omega) (by omega) r2 (nxd_ok g4 (by omega)) (fun p hp j => (e2 p hp j).trans (g5 p hp j)) (by rw [← g6]; congr 1; omega)
    refine run 7 _ _ _ _ ?_
    simp (disch := omega) only [e93_0, e93_1, e93_2, e93_4, e93_7, e93_10, e93_11, e93_12, e93_13, e93_14, e93_15, e93_16, e93_19, e93_20, e93_23, e93_26, e93_29, e93_30, e93_33, e93_36, e93_39, e93_40, e93_43, ab_li2, true_or, or_true, true_and, and_true, ab_pus, ab_pun, ab_len0, ab_len1, ab_len2, ab_len3, ab_len4, Nat.zero_add, ab_rn0]
    refine C79i ?_
    rw [t_0, t_30, if_pos hv]
    simp (disch := omega) only [e93_0, e93_1, e93_2, e93_4, e93_7, e93_10, e93_11, e93_12, e93_13, e93_14, e93_15, e93_16, e93_19, e93_20, e93_23, e93_26, e93_29, e93_30, e93_33, e93_36, e93_39, e93_40, e93_43, ab_li2, true_or, or_true, true_and, and_true, ab_pus, ab_pun, ab_len0, ab_len1, ab_len2, ab_len3, ab_len4, Nat.zero_add, ab_rn0, z01, not_true_eq_false, false_imp_iff, not_false_eq_true, true_imp_iff]
    exact loop k 0 μ σ (by omega) (by omega) hM ho (fun _ _ _ => rfl) rfl
  · refine run 20 _ _ _ _ ?_
    simp only [e93_0, e93_1, e93_2, e93_4, e93_7, e93_10, e93_11, e93_12, e93_13, e93_14, e93_15, e93_16, e93_19, e93_20, e93_23, e93_26, e93_29, e93_30, e93_33, e93_36, e93_39, e93_40, e93_43, ab_li2, true_or, or_true, true_and, and_true, ab_pus, ab_pun, ab_len0, ab_len1, ab_len2, ab_len3, ab_len4, Nat.zero_add]
    refine C79i ?_
    rw [t_0, t_30, if_neg hv]
    simp only [e93_0, e93_1, e93_2, e93_4, e93_7, e93_10, e93_11, e93_12, e93_13, e93_14, e93_15, e93_16, e93_19, e93_20, e93_23, e93_26, e93_29, e93_30, e93_33, e93_36, e93_39, e93_40, e93_43, ab_li2, true_or, or_true, true_and, and_true, ab_pus, ab_pun, ab_len0, ab_len1, ab_len2, ab_len3, ab_len4, Nat.zero_add, not_true_eq_false, false_imp_iff, not_false_eq_true, true_imp_iff]
    exact h0 hv
end DAYS
