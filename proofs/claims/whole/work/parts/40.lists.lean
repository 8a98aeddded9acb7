def PL (a : Nat) (L : List ly) : Prop := ∀ x ∈ L, x.1 ≤ 3 ∧ 1 ≤ x.2.1 ∧ x.2.2 ≤ a
theorem PL_at {a : Nat} {L : List ly} (h : PL a L) {i : Nat} (hi : i < L.length) : kd L i ≤ 3 ∧ 1 ≤ ms L i ∧ ag L i ≤ a := by
  have := h (L[i]) (List.getElem_mem hi)
  simp only [kd, ms, ag, List.getD_eq_getElem?_getD, List.getElem?_eq_getElem hi, Option.getD_some]
  exact this
theorem PL_at2 {a : Nat} {L : List ly} (h : PL a L) (i : Nat) : kd L i ≤ 3 ∧ ag L i ≤ a := by
  by_cases hi : i < L.length
  · have := PL_at h hi; omega
  · simp only [kd, ag, List.getD_eq_getElem?_getD, List.getElem?_eq_none (by omega : L.length ≤ i), Option.getD_none]
    exact ⟨by decide, by omega⟩
theorem okL_of {a : Nat} {L : List ly} (h : PL a L) (ha : a ≤ 400) (hs : sm L ≤ 9600000) : okL L := ⟨fun i hi => by have := PL_at h hi; omega, hs⟩
theorem PL_grow {a : Nat} {L : List ly} (h : PL a L) : PL (a + 1) (grow L) := by
  intro x hx
  unfold grow at hx
  obtain ⟨y, hy, rfl⟩ := List.mem_map.mp hx
  have := h y hy
  show y.1 ≤ 3 ∧ 1 ≤ y.2.1 ∧ y.2.2 + 1 ≤ a + 1
  omega
theorem sm_grow (L : List ly) : sm (grow L) = sm L := by simp [sm, grow, Function.comp_def]
theorem PL_join {a : Nat} {L : List ly} (h : PL a L) : PL a (join L) := by
  match L, h with
  | [], h => exact h
  | [x], h => exact h
  | x :: y :: t, h =>
    intro z hz
    have h1 := h x (by simp)
    have h2 := h y (by simp)
    simp only [join, List.mem_cons] at hz
    rcases hz with rfl | hz
    · show y.1 ≤ 3 ∧ 1 ≤ x.2.1 + y.2.1 ∧ max x.2.2 y.2.2 ≤ a
      omega
    · exact h z (by simp [hz])
theorem sm_join (L : List ly) : sm (join L) = sm L := by
  match L with
  | [] => rfl
  | [x] => rfl
  | x :: y :: t => simp only [join, sm_cons]; omega
theorem PL_addN {a m : Nat} {L : List ly} (h : PL a L) : PL a (addN m L) := by
  unfold addN
  split
  · exact h
  · next hm =>
    intro x hx
    rcases List.mem_append.mp hx with hx | hx
    · by_cases e : L.length < 10
      · rw [if_pos e] at hx; exact h x hx
      · rw [if_neg e] at hx; exact PL_join h x hx
    · obtain rfl := List.mem_singleton.mp hx
      show 0 ≤ 3 ∧ 1 ≤ m ∧ 0 ≤ a
      omega
theorem sm_addN (m : Nat) (L : List ly) : sm (addN m L) = sm L + m := by
  unfold addN
  split
  · next h => omega
  · rw [sm_app, sm_cons, sm_nil]
    split
    · rfl
    · rw [sm_join]; rfl
theorem sm_set {L : List ly} {i : Nat} {x : ly} (h : i < L.length) : sm (L.set i x) + ms L i = sm L + x.2.1 := by
  induction L generalizing i with
  | nil => exact absurd h (Nat.not_lt_zero _)
  | cons y t ih =>
    cases i with
    | zero => simp only [List.set_cons_zero, sm_cons, ms, List.getD_cons_zero]; omega
    | succ i =>
      have := ih (i := i) (by simp only [List.length_cons] at h; omega)
      simp only [List.set_cons_succ, sm_cons]
      have e : ms (y :: t) (i + 1) = ms t i := by simp [ms]
      omega
theorem PL_set {a i : Nat} {L : List ly} {x : ly} (h : PL a L) (hx : x.1 ≤ 3 ∧ 1 ≤ x.2.1 ∧ x.2.2 ≤ a) : PL a (L.set i x) := by
  intro y hy
  rcases List.mem_or_eq_of_mem_set hy with hy | rfl
  · exact h y hy
  · exact hx
theorem PL_take {a i : Nat} {L : List ly} (h : PL a L) : PL a (L.take i) := fun x hx => h x (List.mem_of_mem_take hx)
theorem PL_setT {a m : Nat} {L : List ly} (h : PL a L) (hm : 1 ≤ m) : PL a (setT L m) := by
  have := PL_at2 h (L.length - 1)
  exact PL_set h ⟨this.1, hm, this.2⟩
theorem sm_setT {m : Nat} {L : List ly} (h : 0 < L.length) : sm (setT L m) + ms L (L.length - 1) = sm L + m := sm_set (by omega)
theorem PL_giv {a p : Nat} {L : List ly} (h : PL a L) (hp : p ≤ 36) : PL a (giv p L) := by
  unfold giv
  split
  · next ht =>
    have h0 := (topN_t ht).1
    have h1 := (PL_at h (i := L.length - 1) (by omega)).2.1
    have h2 : ms L (L.length - 1) * p ≤ ms L (L.length - 1) * 36 := Nat.mul_le_mul_left _ hp
    exact PL_setT h (by omega)
  · exact h
theorem sm_giv {a p : Nat} {L : List ly} (h : PL a L) (hp : p ≤ 36) : sm (giv p L) + givA p L = sm L := by
  unfold giv givA
  split
  · next ht =>
    have h0 := (topN_t ht).1
    have h2 : ms L (L.length - 1) * p ≤ ms L (L.length - 1) * 36 := Nat.mul_le_mul_left _ hp
    have := sm_setT (m := ms L (L.length - 1) - ms L (L.length - 1) * p / 100) h0
    omega
  · rfl
theorem PL_tak {a m : Nat} {L : List ly} (h : PL a L) : PL a (tak m L) := by
  unfold tak
  split
  · next ht =>
    have h0 := (topN_t ht).1
    have h1 := (PL_at h (i := L.length - 1) (by omega)).2.1
    exact PL_setT h (by omega)
  · exact PL_addN h
theorem sm_tak (m : Nat) (L : List ly) : sm (tak m L) = sm L + m := by
  unfold tak
  split
  · next ht =>
    have h0 := (topN_t ht).1
    have := sm_setT (m := ms L (L.length - 1) + m) h0
    omega
  · exact sm_addN m L
theorem PL_chg {a : Nat} {L : List ly} (b : Bool) (h : PL a L) : PL a (chg b L) := by
  intro x hx
  unfold chg at hx
  obtain ⟨y, hy, rfl⟩ := List.mem_map.mp hx
  have := h y hy
  refine ⟨?_, this.2.1, this.2.2⟩
  have h1 := this.1
  unfold chF
  simp only
  repeat' split
  all_goals omega
theorem sm_chg (b : Bool) (L : List ly) : sm (chg b L) = sm L := by
  simp [sm, chg, Function.comp_def, chF]
theorem mlN_sp (L : List ly) : ∀ r w, (mlN L r w).1 ≤ r ∧ ((mlN L r w).1 ≠ 0 → (mlN L r w).2 < ms L ((mlN L r w).1 - 1)) := by
  intro r
  induction r with
  | zero => intro w; exact ⟨Nat.le_refl _, fun h => absurd rfl h⟩
  | succ r ih =>
    intro w
    simp only [mlN]
    split
    · have := ih (w - ms L r)
      exact ⟨by omega, this.2⟩
    · exact ⟨Nat.le_refl _, fun _ => by show w < ms L r; omega⟩
theorem PL_mlt {a w : Nat} {L : List ly} (h : PL a L) : PL a (mlt w L) := by
  unfold mlt
  have sp := mlN_sp L L.length w
  split
  · intro x hx; exact absurd hx (by simp)
  · next hn =>
    have h2 := sp.2 hn
    have h3 := PL_at2 h ((mlN L L.length w).1 - 1)
    exact PL_set (PL_take h) ⟨by show 3 ≤ 3; omega, by show 1 ≤ ms L _ - _; omega, h3.2⟩
theorem sm_mlt (w : Nat) (L : List ly) : sm (mlt w L) ≤ sm L := by
  unfold mlt
  have sp := mlN_sp L L.length w
  split
  · rw [sm_nil]; omega
  · next hn =>
    have h2 := sp.2 hn
    have h4 := sm_take_le L (mlN L L.length w).1
    have h3 := sm_set (L := L.take (mlN L L.length w).1) (i := (mlN L L.length w).1 - 1) (x := (3, ms L ((mlN L L.length w).1 - 1) - (mlN L L.length w).2, ag L ((mlN L L.length w).1 - 1))) (by rw [List.length_take]; omega)
    rw [ms_take (by omega)] at h3
    simp only at h3
    omega
theorem tot_mono {X Y : Nat → List ly} {k : Nat} : ∀ n, (∀ c, c < n → sm (Y c) ≤ sm (X c) + k) → tot Y n ≤ tot X n + n * k := by
  intro n
  induction n with
  | zero => intro _; simp [tot]
  | succ n ih =>
    intro h
    have h1 := ih (fun c hc => h c (by omega))
    have h2 := h n (by omega)
    simp only [tot, Nat.succ_mul]
    omega
theorem sm_tot {X : Nat → List ly} {c : Nat} : ∀ n, c < n → sm (X c) ≤ tot X n := by
  intro n
  induction n with
  | zero => intro h; omega
  | succ n ih =>
    intro h
    simp only [tot]
    by_cases e : c = n
    · subst e; omega
    · have := ih (by omega); omega
def okT (n : Nat) (X : Nat → List ly) : Prop := (∀ c, c < 12 → PL n (X c)) ∧ tot X 12 ≤ 24000 * n
theorem okT_L {n c : Nat} {X : Nat → List ly} (h : okT n X) (hn : n ≤ 400) (hc : c < 12) : okL (X c) := okL_of (h.1 c hc) hn (by have h1 := sm_tot (X := X) 12 hc; have h2 := h.2; omega)
theorem okT_g {n c : Nat} {X : Nat → List ly} (h : okT n X) (hn : n < 400) (hc : c < 12) : okL (grow (X c)) := okL_of (PL_grow (h.1 c hc)) (by omega) (by have h1 := sm_tot (X := X) 12 hc; have h2 := h.2; rw [sm_grow]; omega)
theorem okT_fall {n : Nat} {X : Nat → List ly} {SN : Nat → Option Nat} (h : okT n X) (hs : ∀ k, k < 3 → sno SN k ≤ 200) : okT (n + 1) (fallL SN X) := by
  refine ⟨fun c hc => PL_addN (PL_grow (h.1 c hc)), ?_⟩
  have h1 := tot_mono (X := X) (Y := fallL SN X) (k := 2000) 12 (fun c hc => by
    have := hs (c / 4) (by omega)
    show sm (addN _ (grow (X c))) ≤ _
    rw [sm_addN, sm_grow]
    omega)
  have h2 := h.2
  omega
theorem okT_drfL {n f s : Nat} {X : Nat → List ly} (h : okT n X) (hf : f ≤ 9) (hs : s < 4) : okT n (drfL f s X) := by
  have hp : 4 * f ≤ 36 := by omega
  refine ⟨fun c hc => ?_, ?_⟩
  · unfold drfL
    show PL n (if _ then _ else _)
    split
    · exact PL_giv (h.1 c hc) hp
    · split
      · exact PL_tak (h.1 c hc)
      · exact h.1 c hc
  · have h2 := h.2
    have g := fun c (hc : c < 12) => sm_giv (h.1 c hc) hp
    have g0 := g 0 (by decide)
    have g1 := g 1 (by decide)
    have g2 := g 2 (by decide)
    have g3 := g 3 (by decide)
    have g4 := g 4 (by decide)
    have g5 := g 5 (by decide)
    have g6 := g 6 (by decide)
    have g7 := g 7 (by decide)
    have g8 := g 8 (by decide)
    have g9 := g 9 (by decide)
    have g10 := g 10 (by decide)
    have g11 := g 11 (by decide)
    have : s = 0 ∨ s = 1 ∨ s = 2 ∨ s = 3 := by omega
    simp only [tot] at h2
    rcases this with rfl | rfl | rfl | rfl
    · simp [tot, drfL, sm_tak]; omega
    · simp [tot, drfL, sm_tak]; omega
    · simp [tot, drfL, sm_tak]; omega
    · simp [tot, drfL, sm_tak]; omega
theorem okT_drf {n f s : Nat} {X : Nat → List ly} (h : okT n X) (hf : f ≤ 9) (hs : s < 4) : okT n (drfI f s X) := by
  unfold drfI
  split
  · exact okT_drfL h hf hs
  · exact h
theorem okT_cg {n : Nat} {X : Nat → List ly} {W : Nat → Int32} (h : okT n X) : okT n (cgL W X) := by
  refine ⟨fun c hc => PL_chg _ (h.1 c hc), ?_⟩
  have h1 := tot_mono (X := X) (Y := cgL W X) (k := 0) 12 (fun c hc => by show sm (chg _ (X c)) ≤ _; rw [sm_chg]; omega)
  have h2 := h.2
  omega
theorem okT_chg {n : Nat} {X : Nat → List ly} {W : Nat → Int32} (h : okT n X) : okT n (chgL W X) := by
  have h0 := okT_cg (W := W) h
  refine ⟨fun c hc => ?_, ?_⟩
  · show PL n (mlW _ (cgL W X c))
    unfold mlW
    split
    · exact PL_mlt (h0.1 c hc)
    · exact h0.1 c hc
  · have h1 := tot_mono (X := cgL W X) (Y := chgL W X) (k := 0) 12 (fun c hc => by
      show sm (mlW _ (cgL W X c)) ≤ _
      unfold mlW
      split
      · exact sm_mlt _ _
      · omega)
    have h2 := h0.2
    omega
theorem okT_take {n c j : Nat} {X : Nat → List ly} (h : okT n X) : okT n (fun b => if b = c then (X c).take j else X b) := by
  refine ⟨fun b hb => ?_, ?_⟩
  · show PL n (if b = c then _ else _)
    split
    · next e => subst e; exact PL_take (h.1 b hb)
    · exact h.1 b hb
  · have h1 := tot_mono (X := X) (Y := fun b => if b = c then (X c).take j else X b) (k := 0) 12 (fun b hb => by
      show sm (if b = c then _ else _) ≤ _
      split
      · next e => subst e; exact sm_take_le _ _
      · omega)
    have h2 := h.2
    omega
