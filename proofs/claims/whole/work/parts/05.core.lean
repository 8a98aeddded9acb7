/-! the abstract machine: a fixed heap of 81 cells; its int contents are a memory 'part, place'; its references never change -/
abbrev ab_M : Type := Nat → Nat → Int32
abbrev ab_J : Type := Nat → ab_M → List Value → List Value → Prop
abbrev ab_Q : Type := Option Int32 → ab_M → Prop
abbrev ab_CL : Type := Nat → List Value → ab_M → ab_Q → Prop
def ab_cmp (k : Nat) : Nat := if k < 17 then k else if k < 65 then 17 + (k - 17) % 4 else k
def ab_off (k : Nat) : Nat := if k < 17 then 0 else if k < 65 then 10 * ((k - 17) / 4) else 0
def ab_up (μ : ab_M) (c i : Nat) (v : Int32) : ab_M := fun c' i' => if c' = c then (if i' = i then v else μ c' i') else μ c' i'
def ab_oc (k : Nat) : Nat := if k < 17 then (match k with
    | 0 => 5
    | 2 => 4
    | 6 => 1
    | 9 => 0
    | 13 => 3
    | _ => 99) else if k < 65 then (if (k - 17) % 4 = 0 then 2 else 99) else if k = 65 then 6 else 99
def ab_al (k : Nat) : Nat := if k < 17 then (match k with
    | 3 => 3
    | 4 => 3
    | 5 => 3
    | 7 => 10
    | 8 => 10
    | 10 => 6
    | 11 => 6
    | 12 => 11
    | 14 => 12
    | 15 => 12
    | 16 => 4
    | _ => 0) else if k < 65 then (if (k - 17) % 4 = 0 then 0 else 10) else (match k with
    | 66 => 12
    | 67 => 120
    | 68 => 120
    | 69 => 120
    | 70 => 3
    | 71 => 3
    | 72 => 3
    | 73 => 12
    | 74 => 12
    | 75 => 4
    | 76 => 10
    | 77 => 10
    | 78 => 6
    | 79 => 6
    | 80 => 77
    | _ => 0)
/-- 0 an array of ints, 1 of booleans, 2 an object, 3 the array of slopes -/
def ab_ak (k : Nat) : Nat := if k = 1 then 3 else if ab_oc k < 7 then 2 else if k = 15 then 1 else if k = 73 then 1 else 0
def ab_rf (k j : Nat) : Option Nat := if k < 17 then (match k, j with
    | 0, 0 => some 1
    | 0, 1 => some 2
    | 0, 2 => some 6
    | 0, 3 => some 9
    | 0, 4 => some 13
    | 2, 0 => some 3
    | 2, 1 => some 4
    | 2, 2 => some 5
    | 6, 0 => some 7
    | 6, 1 => some 8
    | 9, 0 => some 10
    | 9, 1 => some 11
    | 9, 2 => some 12
    | 13, 0 => some 14
    | 13, 1 => some 15
    | 13, 2 => some 16
    | _, _ => none) else if k < 65 then (if j < 3 then some (k + (j + 1)) else none) else (match j with
    | 1 => some 66
    | 2 => some 67
    | 3 => some 68
    | 4 => some 69
    | 5 => some 70
    | 6 => some 71
    | 7 => some 72
    | 13 => some 73
    | 14 => some 74
    | 15 => some 75
    | 17 => some 76
    | 18 => some 77
    | 20 => some 78
    | 21 => some 79
    | 22 => some 80
    | _ => none)
def ab_sh (ad : Nat → Nat) (v : Value) : Value := match v with
  | .ref k => .ref (ad k)
  | .int x => .int x
  | v => v
def ab_fv (μ : ab_M) (k j : Nat) : Value := match ab_rf k j with
  | some r => .ref r
  | none => .int (μ (ab_cmp k) (ab_off k + j))
def ab_E (ad : Nat → Nat) (cI cZ cR : ClassId) (μ : ab_M) (k : Nat) : va_E :=
  if ab_ak k = 3 then .inl (cR, 12, .inr (.inr (.inr (.inr (fun i => some (ad (17 + 4 * i)))))))
  else if ab_ak k = 2 then .inr (ab_oc k, (List.range (ab_nf (ab_oc k))).map (fun j => ab_sh ad (ab_fv μ k j)))
  else .inl (if ab_ak k = 1 then cZ else cI, ab_al k, .inl (fun j => if j < ab_al k then μ (ab_cmp k) (ab_off k + j) else 0))
def ab_ws (ad : Nat → Nat) (cI cZ cR : ClassId) (μ : ab_M) : va_W := (List.range 81).map (fun k => (ad k, ab_E ad cI cZ cR μ k))
def ab_A (ad : Nat → Nat) : Nat → Prop := fun q => ∃ k, k < 81 ∧ q = ad k
def ab_ty (cI cZ cR : ClassId) : List (ClassId × FieldType) := [(cI, .int), (cZ, .boolean), (cR, .object RX2)]
def ab_sz (k : Nat) : Nat := if ab_ak k = 3 then 0 else if ab_ak k = 2 then ab_nf (ab_oc k) else ab_al k
theorem ab_dis : ∀ k, k < 81 → ∀ k', k' < 81 → k ≠ k' → ab_cmp k ≠ ab_cmp k' ∨ ab_off k + ab_sz k ≤ ab_off k' ∨ ab_off k' + ab_sz k' ≤ ab_off k := by decide +kernel
theorem ab_up_ne {μ : ab_M} {c i c' i' : Nat} {v : Int32} (h : c' ≠ c ∨ i' ≠ i) : ab_up μ c i v c' i' = μ c' i' := by
  unfold ab_up
  by_cases h1 : c' = c
  · rw [if_pos h1]
    rcases h with h | h
    · exact absurd h1 h
    · rw [if_neg h]
  · rw [if_neg h1]
theorem ab_up_eq {μ : ab_M} {c i : Nat} {v : Int32} : ab_up μ c i v c i = v := by simp [ab_up]
theorem ab_apart {k k' j j' : Nat} (hk : k < 81) (hk' : k' < 81) (h : k' ≠ k) (hj : j < ab_sz k) (hj' : j' < ab_sz k') : ab_cmp k' ≠ ab_cmp k ∨ ab_off k' + j' ≠ ab_off k + j := by
  rcases ab_dis k' hk' k hk h with h1 | h1 | h1
  · exact Or.inl h1
  · right; omega
  · right; omega
theorem ab_E_up {ad : Nat → Nat} {cI cZ cR : ClassId} {μ : ab_M} {k k' j : Nat} {v : Int32} (hk : k < 81) (hk' : k' < 81) (h : k' ≠ k) (hj : j < ab_sz k) : ab_E ad cI cZ cR (ab_up μ (ab_cmp k) (ab_off k + j) v) k' = ab_E ad cI cZ cR μ k' := by
  unfold ab_E
  by_cases h3 : ab_ak k' = 3
  · rw [if_pos h3, if_pos h3]
  · rw [if_neg h3, if_neg h3]
    by_cases h2 : ab_ak k' = 2
    · rw [if_pos h2, if_pos h2]
      congr 2
      apply List.map_congr_left
      intro j' hj'
      have hlt : j' < ab_sz k' := by unfold ab_sz; rw [if_neg h3, if_pos h2]; exact List.mem_range.mp hj'
      unfold ab_fv
      cases ab_rf k' j' with
      | some r => rfl
      | none =>
        dsimp only
        rw [ab_up_ne (ab_apart hk hk' h hj hlt)]
    · rw [if_neg h2, if_neg h2]
      have e : (fun j' => if j' < ab_al k' then ab_up μ (ab_cmp k) (ab_off k + j) v (ab_cmp k') (ab_off k' + j') else 0) = (fun j' => if j' < ab_al k' then μ (ab_cmp k') (ab_off k' + j') else 0) := by
        funext j'
        by_cases hl : j' < ab_al k'
        · have hlt : j' < ab_sz k' := by unfold ab_sz; rw [if_neg h3, if_neg h2]; exact hl
          rw [if_pos hl, if_pos hl, ab_up_ne (ab_apart hk hk' h hj hlt)]
        · rw [if_neg hl, if_neg hl]
      rw [e]
theorem ab_ws_at {ad : Nat → Nat} {cI cZ cR : ClassId} {μ : ab_M} {k : Nat} (h : k < 81) : (ab_ws ad cI cZ cR μ)[k]? = some (ad k, ab_E ad cI cZ cR μ k) := by
  unfold ab_ws
  rw [List.getElem?_map, List.getElem?_range h]
  rfl
theorem ab_ws_len {ad : Nat → Nat} {cI cZ cR : ClassId} {μ : ab_M} : (ab_ws ad cI cZ cR μ).length = 81 := by simp [ab_ws]
theorem ab_ws_set {ad : Nat → Nat} {cI cZ cR : ClassId} {μ μ' : ab_M} {k : Nat} {x : va_E} (h : k < 81) (hx : ab_E ad cI cZ cR μ' k = x) (ho : ∀ k', k' < 81 → k' ≠ k → ab_E ad cI cZ cR μ' k' = ab_E ad cI cZ cR μ k') : (ab_ws ad cI cZ cR μ).set k (ad k, x) = ab_ws ad cI cZ cR μ' := by
  apply List.ext_getElem?
  intro i
  by_cases hi : i < 81
  · by_cases hk : i = k
    · subst hk
      rw [List.getElem?_set_self (by rw [ab_ws_len]; exact hi), ab_ws_at hi, hx]
    · rw [List.getElem?_set_ne (Ne.symm hk), ab_ws_at hi, ab_ws_at hi, ho i hi hk]
  · rw [List.getElem?_eq_none (by rw [List.length_set, ab_ws_len]; omega), List.getElem?_eq_none (by rw [ab_ws_len]; omega)]
theorem ab_D {ad : Nat → Nat} {cI cZ cR : ClassId} {μ : ab_M} {A0 : Nat → Prop} (hi : ∀ i j, i < 81 → j < 81 → ad i = ad j → i = j) (hA : ∀ q, ab_A ad q → A0 q) : va_D A0 (ab_ws ad cI cZ cR μ) := by
  have key : ∀ (k : Nat) (q : Nat × va_E), (ab_ws ad cI cZ cR μ)[k]? = some q → k < 81 ∧ q.1 = ad k := by
    intro k q h
    have hl : k < 81 := by
      have := (List.getElem?_eq_some_iff.mp h).1
      rw [ab_ws_len] at this
      exact this
    rw [ab_ws_at hl] at h
    cases h
    exact ⟨hl, rfl⟩
  refine ⟨fun i j x y h1 h2 h3 => ?_, fun k q h => ?_⟩
  · obtain ⟨a1, a2⟩ := key i x h1
    obtain ⟨b1, b2⟩ := key j y h2
    exact hi i j a1 b1 (by rw [← a2, ← b2]; exact h3)
  · obtain ⟨a1, a2⟩ := key k q h
    exact hA _ ⟨k, a1, a2⟩
def ab_MW (D : va_G) (ad : Nat → Nat) (cI cZ cR : ClassId) (μ : ab_M) (U : State) : Prop := va_P D vwCl (ab_ws ad cI cZ cR μ) U.heap ∧ va_K D vwCl (ab_ty cI cZ cR) U ∧ ∀ w ∈ ab_nw, va_Nw w U
def ab_Qc (D : va_G) (ad : Nat → Nat) (cI cZ cR : ClassId) (Q : ab_Q) : Array Value → State → Outcome → State → Prop := fun _ st oc t => ∃ (r : Option Int32) (μ : ab_M), oc = .returned (r.map Value.int) ∧ Q r μ ∧ ab_MW D ad cI cZ cR μ t ∧ va_F (ab_A ad) st t
def ab_rm (d : Nat) : Room := { frames := d, cells := 0, slots := 0, locals := 36 * d }
theorem ab_nw_moved {s U : State} (h : ∀ w ∈ ab_nw, va_Nw w s) (hW : s.WarmedH U.vm) : ∀ w ∈ ab_nw, va_Nw w U := by
  intro w hw
  have h1 := h w hw
  simp only [ab_nw, List.mem_cons, List.not_mem_nil, or_false] at hw
  rcases hw with rfl | rfl
  · exact va_Nw.warmM hW h1
  · exact va_Nw.warmM hW h1
theorem ab_nw_same {s U : State} (h : ∀ w ∈ ab_nw, va_Nw w s) (e : s.vm = U.vm) : ∀ w ∈ ab_nw, va_Nw w U := by
  intro w hw
  have h1 := h w hw
  simp only [ab_nw, List.mem_cons, List.not_mem_nil, or_false] at hw
  rcases hw with rfl | rfl
  · exact va_Nw.same rfl e h1
  · exact va_Nw.same rfl e h1
theorem ab_blind {D : va_G} {ad : Nat → Nat} {cI cZ cR : ClassId} {μ : ab_M} {as : List Value} : FrameBlind (va_Pc as (ab_MW D ad cI cZ cR μ)) := by
  intro a U g mk q
  obtain ⟨q0, qP, qK, qN⟩ := q
  exact ⟨q0, qP, va_K.moved (u := U) (U := U.calling g mk a) (Vm.Alike.refl U.vm) qK, ab_nw_same qN rfl⟩
theorem ab_pre {D : va_G} {ad : Nat → Nat} {cI cZ cR : ClassId} {μ : ab_M} {as : List Value} {s : State} {H : Heap} (hP : va_P D vwCl (ab_ws ad cI cZ cR μ) H) (hK : va_K D vwCl (ab_ty cI cZ cR) s) (hN : ∀ w ∈ ab_nw, va_Nw w s) : ∀ U : State, U.heap = H → s.WarmedH U.vm → va_Pc as (ab_MW D ad cI cZ cR μ) as.toArray U :=
  fun U hU hW => ⟨rfl, by rw [hU]; exact hP, va_K.moved hW.alike hK, ab_nw_moved hN hW⟩
