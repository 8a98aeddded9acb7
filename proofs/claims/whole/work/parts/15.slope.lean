abbrev ly : Type := Nat × Nat × Nat
def rC (μ : ab_M) (c : Nat) (L : List ly) : Prop := μ 17 (10 * c + 3) = nI L.length ∧ L.length ≤ 10 ∧ ∀ (i k m a : Nat), L[i]? = some (k, m, a) → μ 18 (10 * c + i) = nI k ∧ μ 19 (10 * c + i) = nI m ∧ μ 20 (10 * c + i) = nI a
def rM (μ : ab_M) (c : Nat) (L : List ly) : Prop := μ 66 c = nI L.length ∧ L.length ≤ 10 ∧ ∀ (i k m a : Nat), L[i]? = some (k, m, a) → μ 67 (10 * c + i) = nI k ∧ μ 68 (10 * c + i) = nI m ∧ μ 69 (10 * c + i) = nI a
section SLA
variable {d c : Nat} {μ : ab_M} {Q : ab_Q} {L : List ly}
theorem C10 (hc : c < 12) (hL : rC μ c L) (h : Q (some (nI L.length)) μ) : ab_Cl (d + 1) 10 [.ref (17 + 4 * c)] μ Q := by
  refine n10 fun J run => run 10 _ _ _ _ ?_
  simp only [e10_0, e10_1, e10_4, ab_sl hc, true_and, and_true, ab_pus, ab_pun, ab_len0, ab_len1, ab_len2, ab_len3, ab_len4, Nat.zero_add, hL.1]
  exact h
theorem C11 (hc : c < 12) (hL : rC μ c L) {k : Int32} (h : Q (some (if k < 0 then 0 else if nI L.length ≤ k then 0 else 1)) μ) : ab_Cl (d + 1) 11 [.ref (17 + 4 * c), .int k] μ Q := by
  refine n11 fun J run => run 20 _ _ _ _ ?_
  simp only [e11_0, e11_1, e11_4, e11_5, e11_6, e11_9, e11_12, e11_13, e11_16, e11_17, ab_sl hc, true_and, and_true, ab_pus, ab_pun, ab_len0, ab_len1, ab_len2, ab_len3, ab_len4, Nat.zero_add, hL.1]
  trace_state
  sorry
end SLA
