/-! the first memory fits both sides; the cells of both objects as the abstract machine has them -/
def sig0 : St := mkS 0 (fun _ => []) (fun _ => none) (fun _ => -100) (fun _ => -5) (fun _ => 0) (fun _ => 0) (fun _ => 0) 0 0 0 0 (fun _ => 0) (fun _ => 0) (fun _ => 0) (fun _ => 0) 0 0 0
theorem rel0 : Rel mu0 := by
  refine ⟨sig0, ⟨by show 0 ≤ 400; omega, ⟨fun c hc x hx => absurd hx (by show ¬ x ∈ ([] : List ly); simp), ?_⟩, by show 0 ≤ 9; omega, by show 0 < 4; omega, by show 0 ≤ 10; omega, by show 0 ≤ 6; omega, fun c hc => ⟨0, by omega, rfl⟩, fun h hh => Or.inl rfl, fun h hh => ?_, fun h hh => by show 0 ≤ 200; omega⟩, ⟨⟨rfl, rfl, rfl, rfl⟩, fun c hc => ⟨rfl, by show 0 ≤ 10; omega, fun i hi => absurd hi (Nat.not_lt_zero _), fun i hi => absurd hi (Nat.not_lt_zero _), fun i hi => absurd hi (Nat.not_lt_zero _)⟩, ⟨rfl, rfl, fun k hk => ⟨rfl, by show 0 ≤ 200; omega⟩, fun j => rfl, fun j => rfl⟩, ⟨fun j => rfl, fun j => rfl, fun j => rfl⟩, ⟨rfl, fun k hk => absurd hk (Nat.not_lt_zero _)⟩, ⟨rfl, fun k hk => absurd hk (Nat.not_lt_zero _)⟩⟩, ⟨⟨rfl, rfl, rfl, rfl⟩, fun c hc => ⟨rfl, by show 0 ≤ 10; omega, fun i hi => absurd hi (Nat.not_lt_zero _), fun i hi => absurd hi (Nat.not_lt_zero _), fun i hi => absurd hi (Nat.not_lt_zero _)⟩, ⟨rfl, rfl, fun k hk => ⟨rfl, by show 0 ≤ 200; omega⟩, fun j => rfl, fun j => rfl⟩, ⟨fun j => rfl, fun j => rfl, fun j => rfl⟩, ⟨rfl, fun k hk => absurd hk (Nat.not_lt_zero _)⟩, ⟨rfl, fun k hk => absurd hk (Nat.not_lt_zero _)⟩⟩⟩
  · show tot (fun _ => []) 12 ≤ 24000 * 0
    simp [tot, sm_nil]
  · show (-30 : Int32) ≤ -5 ∧ (-5 : Int32) ≤ 10
    decide
def mk_ad (b q : Nat) (ad u : Nat → Nat) : Nat → Nat := fun k => if k < 65 then ad k else if k = 65 then q else if k = 81 then b else u (k - 66)
theorem mk_two {cI cZ cR : ClassId} {b q : Nat} {ad u : Nat → Nat} {ws : va_W} (h : mk_I cI cZ cR 12 ad ws) : (∀ k, k < 81 → k ≠ 1 → (ws ++ mk_w6 cI cZ q u)[k]? = some (mk_ad b q ad u k, ab_E (mk_ad b q ad u) cI cZ cR mu0 k)) ∧ (ws ++ mk_w6 cI cZ q u)[1]? = some (mk_ad b q ad u 1, .inl (cR, 12, .inr (.inr (.inr (.inr (mk_F ad 12)))))) := by
  obtain ⟨hl, h1, hr⟩ := h
  have e1 : ∀ k, k < 65 → ad k = mk_ad b q ad u k := fun k hk => (if_pos hk).symm
  refine ⟨fun k hk hk1 => ?_, ?_⟩
  · by_cases h65 : k < 65
    · rw [List.getElem?_append_left (by omega), hr k h65 hk1, ← e1 k h65, mk_E (i := 12) (by omega) h65 hk1 e1]
    · rw [List.getElem?_append_right (by omega), hl]
      obtain ⟨r, hr3, rfl⟩ : ∃ r, r < 16 ∧ k = 65 + r := ⟨k - 65, by omega, by omega⟩
      rw [show 65 + r - (17 + 4 * 12) = r by omega]
      match r, hr3 with
      | 0, _ => rfl
      | 1, _ => rfl
      | 2, _ => rfl
      | 3, _ => rfl
      | 4, _ => rfl
      | 5, _ => rfl
      | 6, _ => rfl
      | 7, _ => rfl
      | 8, _ => rfl
      | 9, _ => rfl
      | 10, _ => rfl
      | 11, _ => rfl
      | 12, _ => rfl
      | 13, _ => rfl
      | 14, _ => rfl
      | 15, _ => rfl
      | n + 16, h => exact absurd h (by omega)
  · rw [List.getElem?_append_left (by omega), h1, ← e1 1 (by omega)]
theorem mk_arr {cR : ClassId} {ad ad' : Nat → Nat} (h : ∀ j, j < 12 → ad (17 + 4 * j) = ad' (17 + 4 * j)) : vp_cell cR (12, .inr (.inr (.inr (.inr (mk_F ad 12))))) = vp_cell cR (12, .inr (.inr (.inr (.inr (fun i => some (ad' (17 + 4 * i))))))) := by
  rw [vp_cell_q, vp_cell_q]
  unfold arrV
  have e : (fun j : Fin 12 => va_rf (mk_F ad 12 j.val)) = (fun j : Fin 12 => va_rf (some (ad' (17 + 4 * j.val)))) := by
    funext j
    unfold mk_F
    rw [if_pos j.2, h j.val j.2]
  rw [e]
theorem mk_PW {D : va_G} {cI cZ cR : ClassId} {b q : Nat} {ad u : Nat → Nat} {ws : va_W} {H : Heap} (h : mk_I cI cZ cR 12 ad ws) (hP : va_P D vwCl (ws ++ mk_w6 cI cZ q u) H) : va_P D vwCl (ab_ws (mk_ad b q ad u) cI cZ cR mu0) H := by
  obtain ⟨t1, t2⟩ := mk_two (b := b) (q := q) (u := u) h
  intro k x hx
  have hk : k < 81 := by
    have := (List.getElem?_eq_some_iff.mp hx).1
    rw [ab_ws_len] at this
    exact this
  rw [ab_ws_at hk] at hx
  cases hx
  by_cases hk1 : k = 1
  · subst hk1
    have h2 : va_at D vwCl (mk_ad b q ad u 1, .inl (cR, 12, .inr (.inr (.inr (.inr (mk_F ad 12)))))) H := hP 1 _ t2
    have hE : ab_E (mk_ad b q ad u) cI cZ cR mu0 1 = .inl (cR, 12, .inr (.inr (.inr (.inr (fun i => some (mk_ad b q ad u (17 + 4 * i))))))) := rfl
    rw [hE]
    show H[_]? = some (vp_cell cR _)
    rw [← mk_arr (ad := ad) (ad' := mk_ad b q ad u) (fun j hj => (if_pos (by omega)).symm)]
    exact h2
  · exact hP k _ (t1 k hk hk1)
theorem mk_inj {A : Nat → Prop} {cI cZ cR : ClassId} {b q : Nat} {ad u : Nat → Nat} {ws : va_W} (h : mk_I cI cZ cR 12 ad ws) (hD : va_D A (ws ++ mk_w6 cI cZ q u)) : (∀ i j, i < 81 → j < 81 → mk_ad b q ad u i = mk_ad b q ad u j → i = j) ∧ ∀ z, ab_A (mk_ad b q ad u) z → A z := by
  obtain ⟨t1, t2⟩ := mk_two (b := b) (q := q) (u := u) h
  have at' : ∀ k, k < 81 → ∃ e, (ws ++ mk_w6 cI cZ q u)[k]? = some (mk_ad b q ad u k, e) := by
    intro k hk
    by_cases hk1 : k = 1
    · subst hk1; exact ⟨_, t2⟩
    · exact ⟨_, t1 k hk hk1⟩
  refine ⟨fun i j hi hj e => ?_, fun z hz => ?_⟩
  · obtain ⟨e1, h1⟩ := at' i hi
    obtain ⟨e2, h2⟩ := at' j hj
    exact hD.1 i j _ _ h1 h2 e
  · obtain ⟨k, hk, rfl⟩ := hz
    obtain ⟨e1, h1⟩ := at' k hk
    exact hD.2 k _ h1
