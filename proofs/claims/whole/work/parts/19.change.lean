def fC (c : Nat) (μ μ' : ab_M) : Prop := ∀ p i, ¬ (17 ≤ p ∧ p ≤ 20 ∧ 10 * c ≤ i ∧ i < 10 * c + 10) → μ' p i = μ p i
theorem fC_rf {c : Nat} {μ : ab_M} : fC c μ μ := fun _ _ _ => rfl
theorem fC_up {c p i : Nat} {μ ν : ab_M} {v : Int32} (h : fC c μ ν) (h1 : 17 ≤ p) (h2 : p ≤ 20) (hi : i < 10) : fC c μ (ab_up ν p (10 * c + i) v) := by
  intro q j hq
  rw [ab_up_ne]
  · exact h q j hq
  · by_cases e : q = p
    · right; omega
    · exact Or.inl e
theorem fC_tr {c : Nat} {μ ν ρ : ab_M} (h1 : fC c μ ν) (h2 : fC c ν ρ) : fC c μ ρ := fun p i h => (h2 p i h).trans (h1 p i h)
/-- the layers of a class, place by place -/
def rP (μ : ab_M) (c n : Nat) (K M A : Nat → Nat) : Prop := μ 17 (10 * c + 3) = nI n ∧ n ≤ 10 ∧ (∀ i, i < n → μ 18 (10 * c + i) = nI (K i)) ∧ (∀ i, i < n → μ 19 (10 * c + i) = nI (M i)) ∧ (∀ i, i < n → μ 20 (10 * c + i) = nI (A i))
theorem rP_of {μ : ab_M} {c : Nat} {L : List ly} (h : rC μ c L) : rP μ c L.length (kd L) (ms L) (ag L) := h
theorem rP_to {μ : ab_M} {c n : Nat} {K M A : Nat → Nat} {L : List ly} (h : rP μ c n K M A) (hl : L.length = n) (hK : ∀ i, i < n → kd L i = K i) (hM : ∀ i, i < n → ms L i = M i) (hA : ∀ i, i < n → ag L i = A i) : rC μ c L := by
  obtain ⟨h1, h2, h3, h4, h5⟩ := h
  subst hl
  exact ⟨h1, h2, fun i hi => by rw [h3 i hi, hK i hi], fun i hi => by rw [h4 i hi, hM i hi], fun i hi => by rw [h5 i hi, hA i hi]⟩
theorem rP_k {μ : ab_M} {c n i v : Nat} {K M A : Nat → Nat} (h : rP μ c n K M A) : rP (ab_up μ 18 (10 * c + i) (nI v)) c n (fun j => if j = i then v else K j) M A := by
  obtain ⟨h1, h2, h3, h4, h5⟩ := h
  refine ⟨by rw [ab_up_ne (Or.inl (by decide))]; exact h1, h2, fun j hj => ?_, fun j hj => by rw [ab_up_ne (Or.inl (by decide))]; exact h4 j hj, fun j hj => by rw [ab_up_ne (Or.inl (by decide))]; exact h5 j hj⟩
  by_cases e : j = i
  · subst e; rw [ab_up_eq]; simp
  · rw [ab_up_ne (Or.inr (by omega)), h3 j hj]; simp [e]
theorem rP_m {μ : ab_M} {c n i v : Nat} {K M A : Nat → Nat} (h : rP μ c n K M A) : rP (ab_up μ 19 (10 * c + i) (nI v)) c n K (fun j => if j = i then v else M j) A := by
  obtain ⟨h1, h2, h3, h4, h5⟩ := h
  refine ⟨by rw [ab_up_ne (Or.inl (by decide))]; exact h1, h2, fun j hj => by rw [ab_up_ne (Or.inl (by decide))]; exact h3 j hj, fun j hj => ?_, fun j hj => by rw [ab_up_ne (Or.inl (by decide))]; exact h5 j hj⟩
  by_cases e : j = i
  · subst e; rw [ab_up_eq]; simp
  · rw [ab_up_ne (Or.inr (by omega)), h4 j hj]; simp [e]
theorem rP_a {μ : ab_M} {c n i v : Nat} {K M A : Nat → Nat} (h : rP μ c n K M A) : rP (ab_up μ 20 (10 * c + i) (nI v)) c n K M (fun j => if j = i then v else A j) := by
  obtain ⟨h1, h2, h3, h4, h5⟩ := h
  refine ⟨by rw [ab_up_ne (Or.inl (by decide))]; exact h1, h2, fun j hj => by rw [ab_up_ne (Or.inl (by decide))]; exact h3 j hj, fun j hj => by rw [ab_up_ne (Or.inl (by decide))]; exact h4 j hj, fun j hj => ?_⟩
  by_cases e : j = i
  · subst e; rw [ab_up_eq]; simp
  · rw [ab_up_ne (Or.inr (by omega)), h5 j hj]; simp [e]
/-- fewer layers -/
theorem rP_n {μ : ab_M} {c n v : Nat} {K M A : Nat → Nat} (h : rP μ c n K M A) (hv : v ≤ n) : rP (ab_up μ 17 (10 * c + 3) (nI v)) c v K M A := by
  obtain ⟨h1, h2, h3, h4, h5⟩ := h
  exact ⟨by rw [ab_up_eq], by omega, fun j hj => by rw [ab_up_ne (Or.inl (by decide))]; exact h3 j (by omega), fun j hj => by rw [ab_up_ne (Or.inl (by decide))]; exact h4 j (by omega), fun j hj => by rw [ab_up_ne (Or.inl (by decide))]; exact h5 j (by omega)⟩
theorem rP_c {μ : ab_M} {c n : Nat} {K M A K' M' A' : Nat → Nat} (h : rP μ c n K M A) (hK : ∀ i, i < n → K i = K' i) (hM : ∀ i, i < n → M i = M' i) (hA : ∀ i, i < n → A i = A' i) : rP μ c n K' M' A' := by
  obtain ⟨h1, h2, h3, h4, h5⟩ := h
  exact ⟨h1, h2, fun i hi => by rw [h3 i hi, hK i hi], fun i hi => by rw [h4 i hi, hM i hi], fun i hi => by rw [h5 i hi, hA i hi]⟩
def grow (L : List ly) : List ly := L.map fun x => (x.1, x.2.1, x.2.2 + 1)
theorem grow_len (L : List ly) : (grow L).length = L.length := by simp [grow]
theorem kd_map {L : List ly} {f : ly → ly} {i : Nat} (h : i < L.length) : kd (L.map f) i = (f (kd L i, ms L i, ag L i)).1 := by simp [kd, ms, ag, h]
theorem ms_map {L : List ly} {f : ly → ly} {i : Nat} (h : i < L.length) : ms (L.map f) i = (f (kd L i, ms L i, ag L i)).2.1 := by simp [kd, ms, ag, h]
theorem ag_map {L : List ly} {f : ly → ly} {i : Nat} (h : i < L.length) : ag (L.map f) i = (f (kd L i, ms L i, ag L i)).2.2 := by simp [kd, ms, ag, h]
section SLD
variable {d c : Nat} {μ : ab_M} {Q : ab_Q} {L : List ly}
theorem C21 (hc : c < 12) (hL : rC μ c L) (h : ∀ μ', rC μ' c (grow L) → fC c μ μ' → Q none μ') : ab_Cl (d + 1) 21 [.ref (17 + 4 * c)] μ Q := by
  have hn := hL.2.1
  refine n21 fun J run => ?_
  have loop : ∀ f i ν, L.length - i ≤ f → i ≤ L.length → rP ν c L.length (kd L) (ms L) (fun k => if k < i then ag L k + 1 else ag L k) → fC c μ ν → J 2 ν [.ref (17 + 4 * c), .int (nI i)] [] := by
    intro f
    induction f with
    | zero =>
      intro i ν h1 h2 h3 h4
      refine run 10 _ _ _ _ ?_
      simp (disch := omega) only [e21_0, e21_1, e21_2, e21_3, e21_4, e21_7, e21_10, e21_11, e21_14, e21_15, e21_16, e21_17, e21_18, e21_19, e21_20, e21_23, e21_26, ab_sl hc, true_or, or_true, true_and, and_true, ab_pus, ab_pun, ab_len0, ab_len1, ab_len2, ab_len3, ab_len4, Nat.zero_add, h3.1, q_le]
      refine ⟨fun _ => h ν (rP_to h3 (grow_len L) (fun k hk => ?_) (fun k hk => ?_) (fun k hk => ?_)) h4, fun z => absurd (by omega) z⟩
      · rw [grow, kd_map hk]
      · rw [grow, ms_map hk]
      · rw [grow, ag_map hk, if_pos (by omega)]
    | succ f ih =>
      intro i ν h1 h2 h3 h4
      refine run 30 _ _ _ _ ?_
      simp (disch := omega) only [e21_0, e21_1, e21_2, e21_3, e21_4, e21_7, e21_10, e21_11, e21_14, e21_15, e21_16, e21_17, e21_18, e21_19, e21_20, e21_23, e21_26, ab_sl hc, true_or, or_true, true_and, and_true, ab_pus, ab_pun, ab_len0, ab_len1, ab_len2, ab_len3, ab_len4, Nat.zero_add, h3.1, q_le]
      refine ⟨fun _ => h ν (rP_to h3 (grow_len L) (fun k hk => ?_) (fun k hk => ?_) (fun k hk => ?_)) h4, fun z => ?_⟩
      · rw [grow, kd_map hk]
      · rw [grow, ms_map hk]
      · rw [grow, ag_map hk, if_pos (by omega)]
      · simp (disch := omega) only [q_in, q_cl, true_and, h3.2.2.2.2 i (by omega), q_p1]
        refine ih (i + 1) _ (by omega) (by omega) (rP_c (rP_a (v := (if i < i then ag L i + 1 else ag L i) + 1) h3) (fun _ _ => rfl) (fun _ _ => rfl) (fun k hk => ?_)) (fC_up h4 (by decide) (by decide) (by omega))
        by_cases e : k = i
        · subst e; simp
        · simp only [e, if_false]
          by_cases e2 : k < i
          · rw [if_pos e2, if_pos (by omega)]
          · rw [if_neg e2, if_neg (by omega)]
  refine run 2 _ _ _ _ ?_
  simp only [e21_0, e21_1, e21_2, e21_3, e21_4, e21_7, e21_10, e21_11, e21_14, e21_15, e21_16, e21_17, e21_18, e21_19, e21_20, e21_23, e21_26, ab_sl hc, true_or, or_true, true_and, and_true, ab_pus, ab_pun, ab_len0, ab_len1, ab_len2, ab_len3, ab_len4, Nat.zero_add, ab_rn0]
  exact loop _ 0 μ (Nat.le_refl _) (Nat.zero_le _) (rP_c (rP_of hL) (fun _ _ => rfl) (fun _ _ => rfl) (fun k hk => by simp)) fC_rf
end SLD
