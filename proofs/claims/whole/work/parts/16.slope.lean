abbrev ly : Type := Nat × Nat × Nat
def kd (L : List ly) (i : Nat) : Nat := (L.getD i (0, 0, 0)).1
def ms (L : List ly) (i : Nat) : Nat := (L.getD i (0, 0, 0)).2.1
def ag (L : List ly) (i : Nat) : Nat := (L.getD i (0, 0, 0)).2.2
def rC (μ : ab_M) (c : Nat) (L : List ly) : Prop := μ 17 (10 * c + 3) = nI L.length ∧ L.length ≤ 10 ∧ (∀ i, i < L.length → μ 18 (10 * c + i) = nI (kd L i)) ∧ (∀ i, i < L.length → μ 19 (10 * c + i) = nI (ms L i)) ∧ (∀ i, i < L.length → μ 20 (10 * c + i) = nI (ag L i))
def rM (μ : ab_M) (c : Nat) (L : List ly) : Prop := μ 66 c = nI L.length ∧ L.length ≤ 10 ∧ (∀ i, i < L.length → μ 67 (10 * c + i) = nI (kd L i)) ∧ (∀ i, i < L.length → μ 68 (10 * c + i) = nI (ms L i)) ∧ (∀ i, i < L.length → μ 69 (10 * c + i) = nI (ag L i))
def sm (L : List ly) : Nat := (L.map (fun x => x.2.1)).sum
def okL (L : List ly) : Prop := (∀ i, i < L.length → kd L i ≤ 3 ∧ 1 ≤ ms L i ∧ ag L i ≤ 400) ∧ sm L ≤ 9600000
theorem sm_nil : sm [] = 0 := rfl
theorem sm_cons (x : ly) (L : List ly) : sm (x :: L) = x.2.1 + sm L := by simp [sm]
theorem sm_app (A B : List ly) : sm (A ++ B) = sm A + sm B := by simp [sm]
theorem sm_td {L : List ly} {e i : Nat} (h : i < e) (he : e ≤ L.length) : sm ((L.take e).drop i) = ms L i + sm ((L.take e).drop (i + 1)) := by
  have hi : i < (L.take e).length := by rw [List.length_take]; omega
  rw [List.drop_eq_getElem_cons hi, sm_cons]
  congr 1
  simp only [ms, List.getElem_take, List.getD_eq_getElem?_getD]
  rw [List.getElem?_eq_getElem (by omega)]
  rfl
theorem sm_ge {L : List ly} {e i : Nat} (h : e ≤ i) : sm ((L.take e).drop i) = 0 := by
  rw [List.drop_eq_nil_of_le (by rw [List.length_take]; omega)]
  rfl
theorem sm_drop_le (L : List ly) (i : Nat) : sm (L.drop i) ≤ sm L := by
  have : sm (L.take i ++ L.drop i) = sm L := by rw [List.take_append_drop]
  rw [sm_app] at this
  omega
theorem sm_take_le (L : List ly) (i : Nat) : sm (L.take i) ≤ sm L := by
  have : sm (L.take i ++ L.drop i) = sm L := by rw [List.take_append_drop]
  rw [sm_app] at this
  omega
def oi (o : Option Nat) : Int32 := match o with
  | none => -1
  | some v => nI v
def brg (k a : Nat) : Nat := if k = 0 then 400 else if k = 1 then 900 else if k = 2 then 250 + 15 * a else 3000
def ixo (b l : Nat) : Option Nat := if l = 0 then none else some (min (100 * b / l) 999)
theorem brg_le {k a : Nat} (ha : a ≤ 400) : brg k a ≤ 6250 := by unfold brg; split <;> (try split) <;> (try split) <;> omega
section SLA
variable {d c : Nat} {μ : ab_M} {Q : ab_Q} {L : List ly}
theorem C10 (hc : c < 12) (hL : rC μ c L) (h : Q (some (nI L.length)) μ) : ab_Cl (d + 1) 10 [.ref (17 + 4 * c)] μ Q := by
  refine n10 fun J run => run 10 _ _ _ _ ?_
  simp only [e10_0, e10_1, e10_4, ab_sl hc, true_or, or_true, true_and, and_true, ab_pus, ab_pun, ab_len0, ab_len1, ab_len2, ab_len3, ab_len4, Nat.zero_add, hL.1]
  exact h
theorem C11 (hc : c < 12) (hL : rC μ c L) {k : Int32} (h : Q (some (if k < 0 then 0 else if nI L.length ≤ k then 0 else 1)) μ) : ab_Cl (d + 1) 11 [.ref (17 + 4 * c), .int k] μ Q := by
  refine n11 fun J run => run 20 _ _ _ _ ?_
  simp only [e11_0, e11_1, e11_4, e11_5, e11_6, e11_9, e11_12, e11_13, e11_16, e11_17, ab_sl hc, true_or, or_true, true_and, and_true, ab_pus, ab_pun, ab_len0, ab_len1, ab_len2, ab_len3, ab_len4, Nat.zero_add, hL.1]
  refine ⟨fun h1 => ?_, fun h1 => ⟨fun h2 => ?_, fun h2 => ?_⟩⟩ <;> simp_all
theorem C11n (hc : c < 12) (hL : rC μ c L) {k : Nat} (hk : k < L.length) (h : Q (some 1) μ) : ab_Cl (d + 1) 11 [.ref (17 + 4 * c), .int (nI k)] μ Q := by
  have := hL.2.1
  refine C11 hc hL ?_
  simp (disch := omega) only [q_lt0, q_le]
  rw [if_neg (by simp), if_neg (by omega)]
  exact h
theorem C12 (hc : c < 12) (hL : rC μ c L) {k : Nat} (hk : k < L.length) (h : Q (some (nI (kd L k))) μ) : ab_Cl (d + 2) 12 [.ref (17 + 4 * c), .int (nI k)] μ Q := by
  have hn := hL.2.1
  refine n12 fun J run => run 20 _ _ _ _ ?_
  simp only [e12_0, e12_1, e12_2, e12_5, e12_8, e12_9, e12_12, e12_13, e12_14, e12_17, e12_18, ab_sl hc, true_or, or_true, true_and, and_true, ab_pus, ab_pun, ab_len0, ab_len1, ab_len2, ab_len3, ab_len4, Nat.zero_add]
  refine C11n hc hL hk ?_
  simp (disch := omega) only [e12_0, e12_1, e12_2, e12_5, e12_8, e12_9, e12_12, e12_13, e12_14, e12_17, e12_18, ab_sl hc, true_or, or_true, true_and, and_true, ab_pus, ab_pun, ab_len0, ab_len1, ab_len2, ab_len3, ab_len4, Nat.zero_add, q_in, q_cl, hL.2.2.1 k hk]
  simpa using h
theorem C13 (hc : c < 12) (hL : rC μ c L) {k : Nat} (hk : k < L.length) (h : Q (some (nI (ms L k))) μ) : ab_Cl (d + 2) 13 [.ref (17 + 4 * c), .int (nI k)] μ Q := by
  have hn := hL.2.1
  refine n13 fun J run => run 20 _ _ _ _ ?_
  simp only [e13_0, e13_1, e13_2, e13_5, e13_8, e13_9, e13_12, e13_13, e13_14, e13_17, e13_18, ab_sl hc, true_or, or_true, true_and, and_true, ab_pus, ab_pun, ab_len0, ab_len1, ab_len2, ab_len3, ab_len4, Nat.zero_add]
  refine C11n hc hL hk ?_
  simp (disch := omega) only [e13_0, e13_1, e13_2, e13_5, e13_8, e13_9, e13_12, e13_13, e13_14, e13_17, e13_18, ab_sl hc, true_or, or_true, true_and, and_true, ab_pus, ab_pun, ab_len0, ab_len1, ab_len2, ab_len3, ab_len4, Nat.zero_add, q_in, q_cl, hL.2.2.2.1 k hk]
  simpa using h
theorem C14 (hc : c < 12) (hL : rC μ c L) {k : Nat} (hk : k < L.length) (h : Q (some (nI (ag L k))) μ) : ab_Cl (d + 2) 14 [.ref (17 + 4 * c), .int (nI k)] μ Q := by
  have hn := hL.2.1
  refine n14 fun J run => run 20 _ _ _ _ ?_
  simp only [e14_0, e14_1, e14_2, e14_5, e14_8, e14_9, e14_12, e14_13, e14_14, e14_17, e14_18, ab_sl hc, true_or, or_true, true_and, and_true, ab_pus, ab_pun, ab_len0, ab_len1, ab_len2, ab_len3, ab_len4, Nat.zero_add]
  refine C11n hc hL hk ?_
  simp (disch := omega) only [e14_0, e14_1, e14_2, e14_5, e14_8, e14_9, e14_12, e14_13, e14_14, e14_17, e14_18, ab_sl hc, true_or, or_true, true_and, and_true, ab_pus, ab_pun, ab_len0, ab_len1, ab_len2, ab_len3, ab_len4, Nat.zero_add, q_in, q_cl, hL.2.2.2.2 k hk]
  simpa using h
theorem C29 (hc : c < 12) (hL : rC μ c L) {k : Int32} {j e : Nat} (hk : (if k + 1 < 0 then 0 else k + 1) = nI j) (hj : j ≤ 10) (he : e ≤ L.length) (h : Q (some (nI (sm ((L.take e).drop j)))) μ) : ab_Cl (d + 1) 29 [.ref (17 + 4 * c), .int k, .int (nI e)] μ Q := by
  have hn := hL.2.1
  refine n29 fun J run => ?_
  have loop : ∀ f i s, e - i ≤ f → i ≤ 10 → Q (some (nI (s + sm ((L.take e).drop i)))) μ → J 11 μ [.ref (17 + 4 * c), .int k, .int (nI e), .int (nI s), .int (nI i)] [] := by
    intro f
    induction f with
    | zero =>
      intro i s h1 h2 h3
      refine run 40 _ _ _ _ ?_
      rw [sm_ge (by omega)] at h3
      simp (disch := omega) only [e29_0, e29_1, e29_2, e29_3, e29_4, e29_5, e29_6, e29_9, e29_11, e29_13, e29_14, e29_17, e29_19, e29_20, e29_23, e29_26, e29_27, e29_28, e29_31, e29_33, e29_34, e29_35, e29_36, e29_39, e29_42, e29_43, ab_sl hc, true_or, or_true, true_and, and_true, ab_pus, ab_pun, ab_len0, ab_len1, ab_len2, ab_len3, ab_len4, Nat.zero_add, q_le]
      exact ⟨fun _ => h3, fun h => absurd (by omega) h⟩
    | succ f ih =>
      intro i s h1 h2 h3
      refine run 40 _ _ _ _ ?_
      simp (disch := omega) only [e29_0, e29_1, e29_2, e29_3, e29_4, e29_5, e29_6, e29_9, e29_11, e29_13, e29_14, e29_17, e29_19, e29_20, e29_23, e29_26, e29_27, e29_28, e29_31, e29_33, e29_34, e29_35, e29_36, e29_39, e29_42, e29_43, ab_sl hc, true_or, or_true, true_and, and_true, ab_pus, ab_pun, ab_len0, ab_len1, ab_len2, ab_len3, ab_len4, Nat.zero_add, q_le, hL.1]
      refine ⟨fun h => ?_, fun h => ⟨fun h4 => absurd h4 (by omega), fun h4 => ?_⟩⟩
      · rw [sm_ge (by omega)] at h3
        exact h3
      · simp (disch := omega) only [q_in, q_cl, true_and, hL.2.2.2.1 i (by omega), q_ad, q_p1]
        refine ih (i + 1) _ (by omega) (by omega) ?_
        rw [sm_td (by omega) he] at h3
        rw [Nat.add_assoc]
        exact h3
  refine run 8 _ _ _ _ ?_
  simp only [e29_0, e29_1, e29_2, e29_3, e29_4, e29_5, e29_6, e29_9, e29_11, e29_13, e29_14, e29_17, e29_19, e29_20, e29_23, e29_26, e29_27, e29_28, e29_31, e29_33, e29_34, e29_35, e29_36, e29_39, e29_42, e29_43, ab_sl hc, true_or, or_true, true_and, and_true, ab_pus, ab_pun, ab_len0, ab_len1, ab_len2, ab_len3, ab_len4, Nat.zero_add, ab_rn0, hk]
  exact loop _ j 0 (Nat.le_refl _) hj (by rw [Nat.zero_add]; exact h)
theorem C16 (hc : c < 12) (hL : rC μ c L) {k : Nat} (hk : k < L.length) (h : Q (some (nI (sm (L.drop (k + 1))))) μ) : ab_Cl (d + 2) 16 [.ref (17 + 4 * c), .int (nI k)] μ Q := by
  have hn := hL.2.1
  refine n16 fun J run => run 20 _ _ _ _ ?_
  simp only [e16_0, e16_1, e16_2, e16_3, e16_6, e16_9, ab_sl hc, true_or, or_true, true_and, and_true, ab_pus, ab_pun, ab_len0, ab_len1, ab_len2, ab_len3, ab_len4, Nat.zero_add, hL.1]
  refine C29 (j := k + 1) hc hL ?_ (by omega) (Nat.le_refl _) ?_
  · rw [q_p1, q_mx (by omega)]
  · rw [List.take_length]
    simp only [e16_0, e16_1, e16_2, e16_3, e16_6, e16_9, true_or, or_true, true_and, and_true, ab_pus, ab_pun, ab_len0, ab_len1, ab_len2, ab_len3, ab_len4, Nat.zero_add]
    exact h
theorem C16a (hc : c < 12) (hL : rC μ c L) (h : Q (some (nI (sm L))) μ) : ab_Cl (d + 2) 16 [.ref (17 + 4 * c), .int (-1)] μ Q := by
  refine n16 fun J run => run 20 _ _ _ _ ?_
  simp only [e16_0, e16_1, e16_2, e16_3, e16_6, e16_9, ab_sl hc, true_or, or_true, true_and, and_true, ab_pus, ab_pun, ab_len0, ab_len1, ab_len2, ab_len3, ab_len4, Nat.zero_add, hL.1]
  refine C29 (j := 0) hc hL (by decide) (by omega) (Nat.le_refl _) ?_
  rw [List.take_length, List.drop_zero]
  simp only [e16_0, e16_1, e16_2, e16_3, e16_6, e16_9, true_or, or_true, true_and, and_true, ab_pus, ab_pun, ab_len0, ab_len1, ab_len2, ab_len3, ab_len4, Nat.zero_add]
  exact h
theorem C30 {b l : Nat} (hb : b ≤ 10000) (hl : l ≤ 100000000) (h : Q (some (oi (ixo b l))) μ) : ab_Cl (d + 1) 30 [.int (nI b), .int (nI l)] μ Q := by
  refine n30 fun J run => run 30 _ _ _ _ ?_
  simp only [e30_0, e30_1, e30_4, e30_5, e30_6, e30_8, e30_9, e30_10, e30_11, e30_12, e30_13, e30_14, e30_17, e30_20, e30_23, e30_26, e30_27, true_or, or_true, true_and, and_true, ab_pus, ab_pun, ab_len0, ab_len1, ab_len2, ab_len3, ab_len4, Nat.zero_add]
  simp (disch := omega) only [q_gt0, q_eq0, l100, q_mu, l999]
  refine ⟨fun e => ⟨by omega, ?_⟩, fun e => ?_⟩
  · have e : ¬ l = 0 := by omega
    have hd : 100 * b / l ≤ 100 * b := Nat.div_le_self _ _
    simp (disch := omega) only [q_dv, q_le, q_lt]
    unfold ixo at h
    rw [if_neg e] at h
    refine ⟨fun q => ?_, fun q => ?_⟩
    · rw [Nat.min_eq_left (by omega)] at h
      exact h
    · rw [Nat.min_eq_right (by omega)] at h
      exact h
  · obtain rfl : l = 0 := by omega
    exact h
theorem C31 {k a : Nat} (hk : k ≤ 3) (h : Q (some (nI (brg k a))) μ) : ab_Cl (d + 1) 31 [.int (nI k), .int (nI a)] μ Q := by
  refine n31 fun J run => run 30 _ _ _ _ ?_
  match k, hk with
  | 0, _ => rw [show nI 0 = 0 from rfl]; simp only [e31_0, e31_1_0, e31_1_1, e31_1_2, e31_1_3, e31_32, e31_35, e31_36, e31_39, e31_40, e31_43, e31_45, e31_46, e31_47, e31_48, e31_49, e31_52, e31_53, e31_54, true_or, or_true, true_and, and_true, ab_pus, ab_pun, ab_len0, ab_len1, ab_len2, ab_len3, ab_len4, Nat.zero_add]; exact h
  | 1, _ => rw [show nI 1 = 1 from rfl]; simp only [e31_0, e31_1_0, e31_1_1, e31_1_2, e31_1_3, e31_32, e31_35, e31_36, e31_39, e31_40, e31_43, e31_45, e31_46, e31_47, e31_48, e31_49, e31_52, e31_53, e31_54, true_or, or_true, true_and, and_true, ab_pus, ab_pun, ab_len0, ab_len1, ab_len2, ab_len3, ab_len4, Nat.zero_add]; exact h
  | 2, _ => rw [show nI 2 = 2 from rfl]; simp only [e31_0, e31_1_0, e31_1_1, e31_1_2, e31_1_3, e31_32, e31_35, e31_36, e31_39, e31_40, e31_43, e31_45, e31_46, e31_47, e31_48, e31_49, e31_52, e31_53, e31_54, true_or, or_true, true_and, and_true, ab_pus, ab_pun, ab_len0, ab_len1, ab_len2, ab_len3, ab_len4, Nat.zero_add, l250, l15, q_mu, q_ad]; exact h
  | 3, _ => rw [show nI 3 = 3 from rfl]; simp only [e31_0, e31_1_0, e31_1_1, e31_1_2, e31_1_3, e31_32, e31_35, e31_36, e31_39, e31_40, e31_43, e31_45, e31_46, e31_47, e31_48, e31_49, e31_52, e31_53, e31_54, true_or, or_true, true_and, and_true, ab_pus, ab_pun, ab_len0, ab_len1, ab_len2, ab_len3, ab_len4, Nat.zero_add]; exact h
  | n + 4, h => omega
theorem C15 (hc : c < 12) (hL : rC μ c L) (ho : okL L) {k : Nat} (hk : k < L.length) (h : Q (some (oi (ixo (brg (kd L k) (ag L k)) (sm (L.drop (k + 1)))))) μ) : ab_Cl (d + 3) 15 [.ref (17 + 4 * c), .int (nI k)] μ Q := by
  have hn := hL.2.1
  obtain ⟨o1, o2, o3⟩ := ho.1 k hk
  refine n15 fun J run => run 40 _ _ _ _ ?_
  simp only [e15_0, e15_1, e15_2, e15_5, e15_8, e15_9, e15_12, e15_13, e15_14, e15_15, e15_18, e15_19, e15_20, e15_23, e15_24, e15_25, e15_28, e15_31, e15_34, e15_35, ab_sl hc, true_or, or_true, true_and, and_true, ab_pus, ab_pun, ab_len0, ab_len1, ab_len2, ab_len3, ab_len4, Nat.zero_add]
  refine C11n hc hL hk ?_
  simp (disch := omega) only [e15_0, e15_1, e15_2, e15_5, e15_8, e15_9, e15_12, e15_13, e15_14, e15_15, e15_18, e15_19, e15_20, e15_23, e15_24, e15_25, e15_28, e15_31, e15_34, e15_35, ab_sl hc, true_or, or_true, true_and, and_true, ab_pus, ab_pun, ab_len0, ab_len1, ab_len2, ab_len3, ab_len4, Nat.zero_add, q_in, q_cl, hL.2.2.1 k hk, hL.2.2.2.2 k hk]
  refine ⟨fun e => absurd e (by decide), fun _ => ?_⟩
  refine C31 o1 ?_
  simp only [e15_0, e15_1, e15_2, e15_5, e15_8, e15_9, e15_12, e15_13, e15_14, e15_15, e15_18, e15_19, e15_20, e15_23, e15_24, e15_25, e15_28, e15_31, e15_34, e15_35, ab_sl hc, true_or, or_true, true_and, and_true, ab_pus, ab_pun, ab_len0, ab_len1, ab_len2, ab_len3, ab_len4, Nat.zero_add]
  refine C16 hc hL hk ?_
  simp only [e15_0, e15_1, e15_2, e15_5, e15_8, e15_9, e15_12, e15_13, e15_14, e15_15, e15_18, e15_19, e15_20, e15_23, e15_24, e15_25, e15_28, e15_31, e15_34, e15_35, ab_sl hc, true_or, or_true, true_and, and_true, ab_pus, ab_pun, ab_len0, ab_len1, ab_len2, ab_len3, ab_len4, Nat.zero_add]
  refine C30 (Nat.le_trans (brg_le o3) (by decide)) (Nat.le_trans (sm_drop_le _ _) (Nat.le_trans ho.2 (by decide))) ?_
  simp only [e15_0, e15_1, e15_2, e15_5, e15_8, e15_9, e15_12, e15_13, e15_14, e15_15, e15_18, e15_19, e15_20, e15_23, e15_24, e15_25, e15_28, e15_31, e15_34, e15_35, ab_sl hc, true_or, or_true, true_and, and_true, ab_pus, ab_pun, ab_len0, ab_len1, ab_len2, ab_len3, ab_len4, Nat.zero_add]
  exact h
end SLA
