/-! the memory of a new pair of objects, and the cells of the first one while its slopes are made -/
def mu0 : ab_M := fun p _ => if p = 3 ∨ p = 70 then -1 else if p = 4 ∨ p = 71 then -100 else if p = 5 ∨ p = 72 then -5 else 0
def mk_F (ad : Nat → Nat) (i : Nat) : Nat → Option Nat := fun j => if j < i then some (ad (17 + 4 * j)) else none
def mk_I (cI cZ cR : ClassId) (i : Nat) (ad : Nat → Nat) (ws : va_W) : Prop := ws.length = 17 + 4 * i ∧ ws[1]? = some (ad 1, .inl (cR, 12, .inr (.inr (.inr (.inr (mk_F ad i)))))) ∧ ∀ k, k < 17 + 4 * i → k ≠ 1 → ws[k]? = some (ad k, ab_E ad cI cZ cR mu0 k)
theorem mk_ak {k : Nat} (h : ab_ak k = 3) : k = 1 := by
  unfold ab_ak at h
  split at h
  · assumption
  · split at h
    · cases h
    · split at h
      · cases h
      · split at h <;> cases h
theorem mk_rf17 : ∀ k, k < 17 → ab_nf (ab_oc k) ≤ 23 ∧ ∀ j, j < 23 → (match ab_rf k j with | some r => decide (r < 17) | none => true) = true := by decide +kernel
theorem mk_oc {k : Nat} (h1 : 17 ≤ k) (h2 : k < 65) (h : ab_ak k = 2) : (k - 17) % 4 = 0 := by
  unfold ab_ak at h
  have h3 : ¬ k = 1 := by omega
  rw [if_neg h3] at h
  by_cases e : (k - 17) % 4 = 0
  · exact e
  · have : ab_oc k = 99 := by
      unfold ab_oc
      rw [if_neg (by omega), if_pos h2, if_neg e]
    rw [this, if_neg (by decide)] at h
    split at h
    · cases h
    · split at h <;> cases h
theorem mk_rf {k j r i : Nat} (hi : i ≤ 12) (hk : k < 17 + 4 * i) (ha : ab_ak k = 2) (hj : j < ab_nf (ab_oc k)) (h : ab_rf k j = some r) : r < 17 + 4 * i := by
  by_cases h17 : k < 17
  · obtain ⟨h1, h2⟩ := mk_rf17 k h17
    have h3 := h2 j (by omega)
    rw [h] at h3
    have : r < 17 := by simpa using h3
    omega
  · have h4 := mk_oc (by omega) (by omega) ha
    unfold ab_rf at h
    rw [if_neg h17, if_pos (by omega)] at h
    split at h
    · have := Option.some.inj h
      omega
    · cases h
theorem mk_E {ad ad' : Nat → Nat} {cI cZ cR : ClassId} {k i : Nat} {μ : ab_M} (hi : i ≤ 12) (hk : k < 17 + 4 * i) (h1 : k ≠ 1) (h : ∀ q, q < 17 + 4 * i → ad q = ad' q) : ab_E ad cI cZ cR μ k = ab_E ad' cI cZ cR μ k := by
  unfold ab_E
  rw [if_neg (fun z => h1 (mk_ak z)), if_neg (fun z => h1 (mk_ak z))]
  by_cases h2 : ab_ak k = 2
  · rw [if_pos h2, if_pos h2]
    congr 2
    apply List.map_congr_left
    intro j hj
    have hj := List.mem_range.mp hj
    unfold ab_fv
    cases hr : ab_rf k j with
    | none => rfl
    | some r =>
      show Value.ref (ad r) = Value.ref (ad' r)
      rw [h r (mk_rf hi hk h2 hj hr)]
  · rw [if_neg h2, if_neg h2]
theorem mk_sl {ad : Nat → Nat} {cI cZ cR : ClassId} {i : Nat} (hi : i < 12) : ab_E ad cI cZ cR mu0 (17 + 4 * i) = .inr (2, [.ref (ad (18 + 4 * i)), .ref (ad (19 + 4 * i)), .ref (ad (20 + 4 * i)), .int 0]) ∧ (∀ r, r < 3 → ab_E ad cI cZ cR mu0 (18 + 4 * i + r) = .inl (cI, 10, .inl (fun j => if j < 10 then 0 else 0))) := by
  match i, hi with
  | 0, _ => exact ⟨rfl, fun r hr => match r, hr with | 0, _ => rfl | 1, _ => rfl | 2, _ => rfl⟩
  | 1, _ => exact ⟨rfl, fun r hr => match r, hr with | 0, _ => rfl | 1, _ => rfl | 2, _ => rfl⟩
  | 2, _ => exact ⟨rfl, fun r hr => match r, hr with | 0, _ => rfl | 1, _ => rfl | 2, _ => rfl⟩
  | 3, _ => exact ⟨rfl, fun r hr => match r, hr with | 0, _ => rfl | 1, _ => rfl | 2, _ => rfl⟩
  | 4, _ => exact ⟨rfl, fun r hr => match r, hr with | 0, _ => rfl | 1, _ => rfl | 2, _ => rfl⟩
  | 5, _ => exact ⟨rfl, fun r hr => match r, hr with | 0, _ => rfl | 1, _ => rfl | 2, _ => rfl⟩
  | 6, _ => exact ⟨rfl, fun r hr => match r, hr with | 0, _ => rfl | 1, _ => rfl | 2, _ => rfl⟩
  | 7, _ => exact ⟨rfl, fun r hr => match r, hr with | 0, _ => rfl | 1, _ => rfl | 2, _ => rfl⟩
  | 8, _ => exact ⟨rfl, fun r hr => match r, hr with | 0, _ => rfl | 1, _ => rfl | 2, _ => rfl⟩
  | 9, _ => exact ⟨rfl, fun r hr => match r, hr with | 0, _ => rfl | 1, _ => rfl | 2, _ => rfl⟩
  | 10, _ => exact ⟨rfl, fun r hr => match r, hr with | 0, _ => rfl | 1, _ => rfl | 2, _ => rfl⟩
  | 11, _ => exact ⟨rfl, fun r hr => match r, hr with | 0, _ => rfl | 1, _ => rfl | 2, _ => rfl⟩
  | n + 12, h => exact absurd h (by omega)
theorem mk_nx {cI cZ cR : ClassId} {i q : Nat} {ad u : Nat → Nat} {ws : va_W} (hi : i < 12) (h : mk_I cI cZ cR i ad ws) : ∃ ad' : Nat → Nat, ad' 0 = ad 0 ∧ ad' 1 = ad 1 ∧ mk_I cI cZ cR (i + 1) ad' ((ws ++ mk_w2 cI cZ q u).set 1 (ad 1, .inl (cR, 12, .inr (.inr (.inr (.inr (va_up (mk_F ad i) i (some q)))))))) := by
  obtain ⟨hl, h1, hr⟩ := h
  let ad' : Nat → Nat := fun k => if k < 17 + 4 * i then ad k else if k = 17 + 4 * i then q else u (k - (18 + 4 * i))
  have e1 : ∀ k, k < 17 + 4 * i → ad k = ad' k := fun k hk => (if_pos hk).symm
  have e2 : ad' (17 + 4 * i) = q := by show (if _ then _ else _) = q; rw [if_neg (by omega), if_pos rfl]
  have e3 : ∀ r, ad' (18 + 4 * i + r) = u r := fun r => by
    show (if _ then _ else _) = _
    rw [if_neg (by omega), if_neg (by omega)]
    congr 1
    omega
  refine ⟨ad', (e1 0 (by omega)).symm, (e1 1 (by omega)).symm, ?_, ?_, fun k hk hk1 => ?_⟩
  · rw [List.length_set, List.length_append, hl]
    show 17 + 4 * i + 4 = _
    omega
  · rw [List.getElem?_set_self (by rw [List.length_append, hl]; omega), ← e1 1 (by omega)]
    have : va_up (mk_F ad i) i (some q) = mk_F ad' (i + 1) := by
      funext j
      unfold va_up mk_F
      by_cases hj : j = i
      · subst hj
        rw [if_pos (by omega), e2]
        simp
      · by_cases hj2 : j < i
        · rw [if_pos (by omega : j < i + 1), ← e1 (17 + 4 * j) (by omega)]
          simp [hj, hj2]
        · rw [if_neg (by omega : ¬ j < i + 1)]
          simp [hj, hj2]
    rw [this]
  · rw [List.getElem?_set_ne (Ne.symm hk1)]
    by_cases hk2 : k < 17 + 4 * i
    · rw [List.getElem?_append_left (by omega), hr k hk2 hk1, ← e1 k hk2, mk_E (by omega) hk2 hk1 e1]
    · rw [List.getElem?_append_right (by omega), hl]
      have sl := mk_sl (ad := ad') (cI := cI) (cZ := cZ) (cR := cR) hi
      have a0 := e3 0
      have a1 := e3 1
      have a2 := e3 2
      by_cases k0 : k = 17 + 4 * i
      · subst k0
        rw [Nat.sub_self, e2, sl.1]
        rw [show 19 + 4 * i = 18 + 4 * i + 1 by omega, show 20 + 4 * i = 18 + 4 * i + 2 by omega, a1, a2, show ad' (18 + 4 * i) = u 0 from a0]
        rfl
      · obtain ⟨r, hr3, rfl⟩ : ∃ r, r < 3 ∧ k = 18 + 4 * i + r := ⟨k - (18 + 4 * i), by omega, by omega⟩
        rw [sl.2 r hr3, e3 r, show 18 + 4 * i + r - (17 + 4 * i) = r + 1 by omega]
        match r, hr3 with
        | 0, _ => rfl
        | 1, _ => rfl
        | 2, _ => rfl
