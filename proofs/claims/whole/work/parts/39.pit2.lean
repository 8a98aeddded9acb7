theorem neg_sub {a b : Nat} (h : a ≤ b) : -(nI a - nI b) = nI (b - a) := by
  rw [← sub_neg h]
  simp
def nb (F : Nat → Nat) : Nat → Nat
  | 0 => 0
  | m + 1 => if F (m + 1) < F (nb F m) then m + 1 else nb F m
theorem nb_le (F : Nat → Nat) (m : Nat) : nb F m ≤ m := by
  induction m with
  | zero => exact Nat.le_refl _
  | succ m ih => simp only [nb]; split <;> omega
def cX (X : Nat → List ly) (TK TM : Nat → Nat) (nt c : Nat) : Nat := cst (pct TK TM (X c)) (X c).length nt (X c).length
theorem cX_le {X : Nat → List ly} {TK TM : Nat → Nat} {nt c : Nat} (h : (X c).length ≤ 10) (hn : nt ≤ 6) : cX X TK TM nt c ≤ 480 := by
  have := cst_le (pct TK TM (X c)) (X c).length nt (X c).length
  unfold cX
  omega
section PIU
variable {d c nt : Nat} {μ : ab_M} {Q : ab_Q} {L : List ly} {TK TM : Nat → Nat} {X : Nat → List ly}
theorem C113 {i j : Nat} {pf : Nat → Nat → Nat} (hc : c < 12) (hL : rM μ c L) (ho : okL L) (hnt : nt ≤ 6) (hi : i < nt) (hj : j < L.length) (hT : rT μ 78 79 TK TM nt) (hpf : pct TK TM L = pf)
    (e1 : μ 80 (11 * i + j) = nI (cst pf L.length i j)) (e2 : μ 80 (11 * i + (j + 1)) = nI (cst pf L.length i (j + 1))) (e3 : μ 80 (11 * (i + 1) + j) = nI (cst pf L.length (i + 1) j))
    (h : Q (some (nI (cst pf L.length (i + 1) (j + 1)))) μ) : ab_Cl (d + 1) 113 [.ref 65, .int (nI c), .int (nI (i + 1)), .int (nI (j + 1))] μ Q := by
  have hn := hL.2.1
  obtain ⟨t1, t2, t3, t4⟩ := hT i hi
  have hk : L.length - (j + 1) < L.length := by omega
  obtain ⟨o1, o2, o3⟩ := ho.1 _ hk
  have hm := ms_le hk
  have hs := ho.2
  have ha := adf_le (a := TM i) (b := ms L (L.length - (j + 1))) (m := 9600000) (by omega) (by omega)
  have n10 : ¬ (nI 10 : Int32) = 0 := by decide
  have c1 := cst_le pf L.length i j
  have c2 := cst_le pf L.length i (j + 1)
  have c3 := cst_le pf L.length (i + 1) j
  have eat : 10 * c + L.length - (j + 1) = 10 * c + (L.length - (j + 1)) := by omega
  have ea1 : ∀ z : Nat, 11 * i + (z + 1) - 1 = 11 * i + z := fun z => by omega
  have ea2 : ∀ z : Nat, 11 * (i + 1) + (z + 1) - 1 = 11 * (i + 1) + z := fun z => by omega
  have hm1 : ∀ z : Nat, z + 1 - 1 = z := fun z => rfl
  refine n113 fun J run => run 110 _ _ _ _ ?_
  simp (disch := omega) only [e113_0, e113_2, e113_3, e113_4, e113_5, e113_8, e113_9, e113_10, e113_11, e113_12, e113_13, e113_15, e113_16, e113_19, e113_21, e113_22, e113_23, e113_26, e113_27, e113_28, e113_29, e113_30, e113_31, e113_33, e113_34, e113_37, e113_39, e113_40, e113_41, e113_42, e113_43, e113_44, e113_45, e113_46, e113_47, e113_48, e113_50, e113_53, e113_55, e113_56, e113_59, e113_61, e113_63, e113_64, e113_65, e113_66, e113_69, e113_71, e113_72, e113_73, e113_76, e113_77, e113_78, e113_79, e113_80, e113_83, e113_84, e113_87, e113_89, e113_90, e113_92, e113_93, e113_96, e113_98, e113_99, e113_100, e113_101, e113_102, e113_103, e113_104, e113_105, e113_107, e113_108, e113_110, e113_111, e113_114, e113_116, e113_117, e113_118, e113_119, e113_120, e113_121, e113_122, e113_123, e113_125, e113_126, e113_128, e113_130, e113_132, e113_135, e113_137, e113_140, e113_142, e113_144, e113_146, e113_148, e113_151, e113_153, e113_156, e113_158, ab_li2, true_or, or_true, true_and, and_true, ab_pus, ab_pun, ab_len0, ab_len1, ab_len2, ab_len3, ab_len4, Nat.zero_add, q_in, q_cl, hL.1, l10, l11, q_mu, q_ad, q_su, eat, q_m1, hm1, ea1, ea2, hL.2.2.1 _ hk, hL.2.2.2.1 _ hk, t1, t2, e1, e2, e3, l30, n10, not_false_eq_true]
  have hpv : pf i (L.length - (j + 1)) = adf (TM i) (ms L (L.length - (j + 1))) / 10 + (if TK i = kd L (L.length - (j + 1)) then 0 else 40) := by rw [← hpf]; rfl
  rw [cst_s, hpv] at h
  generalize cst pf L.length (i + 1) j = u at *
  generalize cst pf L.length i (j + 1) = v at *
  generalize cst pf L.length i j = w at *
  generalize ms L (L.length - (j + 1)) = x at *
  generalize kd L (L.length - (j + 1)) = y at *
  have key : ∀ (a : Nat) (k : Nat), a = adf (TM i) x / 10 → k = (if TK i = y then 0 else 40) → ∀ A : Nat, A = w + a + k → (nI (u + 30) ≤ nI (v + 30) → (nI (u + 30) ≤ nI A → Q (some (nI (u + 30))) μ) ∧ (¬ nI (u + 30) ≤ nI A → Q (some (nI A)) μ)) ∧ (¬ nI (u + 30) ≤ nI (v + 30) → (nI (v + 30) ≤ nI A → Q (some (nI (v + 30))) μ) ∧ (¬ nI (v + 30) ≤ nI A → Q (some (nI A)) μ)) := by
    intro a k hA hK A hAA
    have ha2 : a ≤ 960000 := by omega
    have hk2 : k ≤ 40 := by rw [hK]; split <;> omega
    rw [← hA, ← hK, ← Nat.add_assoc, ← hAA] at h
    simp (disch := omega) only [q_le]
    refine ⟨fun g => ⟨fun g2 => ?_, fun g2 => ?_⟩, fun g => ⟨fun g2 => ?_, fun g2 => ?_⟩⟩
    · rw [show min A (min v u + 30) = u + 30 by omega] at h; exact h
    · rw [show min A (min v u + 30) = A by omega] at h; exact h
    · rw [show min A (min v u + 30) = v + 30 by omega] at h; exact h
    · rw [show min A (min v u + 30) = A by omega] at h; exact h
  have ki : ∀ a : Nat, a = adf (TM i) x → ∀ P : Nat → Prop, (∀ k, k = (if TK i = y then 0 else 40) → P (w + a / 10 + k)) → (¬ nI y = nI (TK i) → P (w + a / 10 + 40)) ∧ (¬ ¬ nI y = nI (TK i) → P (w + a / 10 + 0)) := by
    intro a hA P hP
    rw [q_eq (by omega) (by omega)]
    exact ⟨fun g => hP 40 (by rw [if_neg (fun z => g z.symm)]), fun g => hP 0 (by rw [if_pos (Classical.not_not.mp g).symm])⟩
  have hz : (0 ≤ nI x - nI (TM i)) = ¬ x < TM i := by rw [← Int32.not_lt, sub_lt (by omega) (by omega)]
  rw [hz]
  refine ⟨fun g => ?_, fun g => ?_⟩
  · have hA : x - TM i = adf (TM i) x := by unfold adf; split <;> omega
    rw [q_su (by omega)]
    simp (disch := omega) only [q_dv, l40, q_ad, Int32.add_zero]
    exact ki _ hA (fun A => (nI (u + 30) ≤ nI (v + 30) → (nI (u + 30) ≤ nI A → Q (some (nI (u + 30))) μ) ∧ (¬ nI (u + 30) ≤ nI A → Q (some (nI A)) μ)) ∧ (¬ nI (u + 30) ≤ nI (v + 30) → (nI (v + 30) ≤ nI A → Q (some (nI (v + 30))) μ) ∧ (¬ nI (v + 30) ≤ nI A → Q (some (nI A)) μ))) (fun k hk => key _ k (by rw [hA]) hk _ rfl)
  · have hA : TM i - x = adf (TM i) x := by unfold adf; split <;> omega
    rw [neg_sub (by omega)]
    simp (disch := omega) only [q_dv, l40, q_ad, Int32.add_zero]
    exact ki _ hA (fun A => (nI (u + 30) ≤ nI (v + 30) → (nI (u + 30) ≤ nI A → Q (some (nI (u + 30))) μ) ∧ (¬ nI (u + 30) ≤ nI A → Q (some (nI A)) μ)) ∧ (¬ nI (u + 30) ≤ nI (v + 30) → (nI (v + 30) ≤ nI A → Q (some (nI (v + 30))) μ) ∧ (¬ nI (v + 30) ≤ nI A → Q (some (nI A)) μ))) (fun k hk => key _ k (by rw [hA]) hk _ rfl)

theorem C112 {k : Int32} (hX : aM μ X) (ho : ∀ c, c < 12 → okL (X c)) (hnt : nt ≤ 6) (hnum : μ 65 19 = nI nt) (hT : rT μ 78 79 TK TM nt) (h1 : ∀ c, c < 12 → k = nI c → ∀ μ', (∀ p, p ≠ 80 → ∀ j, μ' p j = μ p j) → Q (some (nI (cX X TK TM nt c))) μ') (h0 : ¬ (0 ≤ k.toInt ∧ k.toInt < 12) → Q (some (-1)) μ) : ab_Cl (d + 3) 112 [.ref 65, .int k] μ Q := by
  refine n112 fun J run => ?_
  by_cases hk : 0 ≤ k.toInt ∧ k.toInt < 12
  · obtain ⟨c, hc, rfl⟩ := toK (n := 12) (by decide) hk
    have h := h1 c hc rfl
    unfold cX at h
    have hL := hX c hc
    have hn := hL.2.1
    have ok := ho c hc
    generalize X c = L at *
    generalize hpf : pct TK TM L = pf at h
    have cb := cst_le pf L.length
    have mv : ∀ ν, (∀ p, p ≠ 80 → ∀ j, ν p j = μ p j) → rM ν c L ∧ ν 65 19 = nI nt ∧ rT ν 78 79 TK TM nt := fun ν hν => ⟨rM_e hL (fun p i hp => hν p (by omega) i), by rw [hν 65 (by decide)]; exact hnum, fun t ht => by rw [hν 78 (by decide), hν 79 (by decide)]; exact hT t ht⟩
    have outer : ∀ f i ν x y, nt + 1 - i ≤ f → i ≤ nt + 1 → (∀ p, p ≠ 80 → ∀ j, ν p j = μ p j) → (∀ a b, b ≤ L.length → a < i → ν 80 (11 * a + b) = nI (cst pf L.length a b)) → J 18 ν [.ref 65, .int (nI c), .int (nI L.length), .int (nI i), x, y] [] := by
      intro f
      induction f with
      | zero =>
        intro i ν x y g1 g2 g3 g4
        obtain rfl : i = nt + 1 := by omega
        obtain ⟨m1, m2, m3⟩ := mv ν g3
        have hlt : nt < nt + 1 := by omega
        refine run 20 _ _ _ _ ?_
        simp (disch := omega) only [e112_0, e112_1, e112_4, e112_7, e112_8, e112_9, e112_10, e112_13, e112_14, e112_15, e112_16, e112_17, e112_18, e112_19, e112_20, e112_23, e112_26, e112_27, e112_29, e112_31, e112_32, e112_35, e112_36, e112_39, e112_41, e112_43, e112_44, e112_47, e112_49, e112_52, e112_54, e112_55, e112_56, e112_59, e112_60, e112_61, e112_62, e112_64, e112_67, e112_69, e112_70, e112_73, e112_75, e112_76, e112_77, e112_79, e112_80, e112_82, e112_83, e112_86, e112_89, e112_92, e112_95, e112_96, e112_99, e112_101, e112_102, e112_105, e112_106, e112_107, e112_108, e112_109, ab_li2, true_or, or_true, true_and, and_true, ab_pus, ab_pun, ab_len0, ab_len1, ab_len2, ab_len3, ab_len4, Nat.zero_add, m2, q_lt, hlt, l11, q_mu, q_ad, q_in, q_cl, g4 nt L.length (Nat.le_refl _) hlt, true_imp_iff, not_true_eq_false, false_imp_iff]
        exact h ν g3
      | succ f ih =>
        intro i ν x y g1 g2 g3 g4
        by_cases hi : i = nt + 1
        · exact ih i ν x y (by omega) g2 g3 g4
        · have inner : ∀ g j ρ y, L.length + 1 - j ≤ g → j ≤ L.length + 1 → (∀ p, p ≠ 80 → ∀ q, ρ p q = μ p q) → (∀ a b, b ≤ L.length → a < i ∨ a = i ∧ b < j → ρ 80 (11 * a + b) = nI (cst pf L.length a b)) → J 29 ρ [.ref 65, .int (nI c), .int (nI L.length), .int (nI i), .int (nI j), y] [] := by
            intro g
            induction g with
            | zero =>
              intro j ρ y b1 b2 b3 b4
              obtain rfl : j = L.length + 1 := by omega
              have hlt : L.length < L.length + 1 := by omega
              refine run 20 _ _ _ _ ?_
              simp (disch := omega) only [e112_0, e112_1, e112_4, e112_7, e112_8, e112_9, e112_10, e112_13, e112_14, e112_15, e112_16, e112_17, e112_18, e112_19, e112_20, e112_23, e112_26, e112_27, e112_29, e112_31, e112_32, e112_35, e112_36, e112_39, e112_41, e112_43, e112_44, e112_47, e112_49, e112_52, e112_54, e112_55, e112_56, e112_59, e112_60, e112_61, e112_62, e112_64, e112_67, e112_69, e112_70, e112_73, e112_75, e112_76, e112_77, e112_79, e112_80, e112_82, e112_83, e112_86, e112_89, e112_92, e112_95, e112_96, e112_99, e112_101, e112_102, e112_105, e112_106, e112_107, e112_108, e112_109, ab_li2, true_or, or_true, true_and, and_true, ab_pus, ab_pun, ab_len0, ab_len1, ab_len2, ab_len3, ab_len4, Nat.zero_add, q_lt, hlt, true_imp_iff, not_true_eq_false, false_imp_iff, q_p1]
              exact ih (i + 1) ρ _ _ (by omega) (by omega) b3 (fun a b hb ha => b4 a b hb (by omega))
            | succ g ihg =>
              intro j ρ y b1 b2 b3 b4
              by_cases hj : j = L.length + 1
              · exact ihg j ρ y (by omega) b2 b3 b4
              · obtain ⟨m1, m2, m3⟩ := mv ρ b3
                have fin : J 29 (ab_up ρ 80 (11 * i + j) (nI (cst pf L.length i j))) [.ref 65, .int (nI c), .int (nI L.length), .int (nI i), .int (nI (j + 1)), .int (nI (cst pf L.length i j))] [] := by
                  refine ihg (j + 1) _ _ (by omega) (by omega) (fun p hp q => by rw [ab_ud hp, b3 p hp]) (fun a b hb hab => ?_)
                  by_cases e : 11 * a + b = 11 * i + j
                  · have e1 : a = i := by omega
                    have e2 : b = j := by omega
                    subst e1 e2
                    rw [ab_up_eq]
                  · rw [ab_uo e]
                    exact b4 a b hb (by omega)
                refine run 70 _ _ _ _ ?_
                simp (disch := omega) only [e112_0, e112_1, e112_4, e112_7, e112_8, e112_9, e112_10, e112_13, e112_14, e112_15, e112_16, e112_17, e112_18, e112_19, e112_20, e112_23, e112_26, e112_27, e112_29, e112_31, e112_32, e112_35, e112_36, e112_39, e112_41, e112_43, e112_44, e112_47, e112_49, e112_52, e112_54, e112_55, e112_56, e112_59, e112_60, e112_61, e112_62, e112_64, e112_67, e112_69, e112_70, e112_73, e112_75, e112_76, e112_77, e112_79, e112_80, e112_82, e112_83, e112_86, e112_89, e112_92, e112_95, e112_96, e112_99, e112_101, e112_102, e112_105, e112_106, e112_107, e112_108, e112_109, ab_li2, true_or, or_true, true_and, and_true, ab_pus, ab_pun, ab_len0, ab_len1, ab_len2, ab_len3, ab_len4, Nat.zero_add, q_lt, q_eq0, l30, l11, q_mu, q_ad, q_in, q_cl, q_p1]
                refine ⟨fun z => absurd z (by omega), fun _ => ⟨fun z => ⟨fun z2 => ?_, fun z2 => ?_⟩, fun z => ?_⟩⟩
                · obtain ⟨i, rfl⟩ : ∃ m, i = m + 1 := ⟨i - 1, by omega⟩
                  obtain ⟨j, rfl⟩ : ∃ m, j = m + 1 := ⟨j - 1, by omega⟩
                  refine C113 hc m1 ok hnt (by omega) (by omega) m3 hpf (b4 i j (by omega) (by omega)) (b4 i (j + 1) (by omega) (by omega)) (b4 (i + 1) j (by omega) (by omega)) ?_
                  simp (disch := omega) only [e112_0, e112_1, e112_4, e112_7, e112_8, e112_9, e112_10, e112_13, e112_14, e112_15, e112_16, e112_17, e112_18, e112_19, e112_20, e112_23, e112_26, e112_27, e112_29, e112_31, e112_32, e112_35, e112_36, e112_39, e112_41, e112_43, e112_44, e112_47, e112_49, e112_52, e112_54, e112_55, e112_56, e112_59, e112_60, e112_61, e112_62, e112_64, e112_67, e112_69, e112_70, e112_73, e112_75, e112_76, e112_77, e112_79, e112_80, e112_82, e112_83, e112_86, e112_89, e112_92, e112_95, e112_96, e112_99, e112_101, e112_102, e112_105, e112_106, e112_107, e112_108, e112_109, ab_li2, true_or, or_true, true_and, and_true, ab_pus, ab_pun, ab_len0, ab_len1, ab_len2, ab_len3, ab_len4, Nat.zero_add, l11, q_mu, q_ad, q_in, q_cl, q_p1]
                  exact fin
                · obtain rfl : j = 0 := by omega
                  rw [cst_0] at fin
                  exact fin
                · obtain rfl : i = 0 := by omega
                  exact fin
          obtain ⟨m1, m2, m3⟩ := mv ν g3
          have hni : ¬ nt < i := by omega
          refine run 6 _ _ _ _ ?_
          simp (disch := omega) only [e112_0, e112_1, e112_4, e112_7, e112_8, e112_9, e112_10, e112_13, e112_14, e112_15, e112_16, e112_17, e112_18, e112_19, e112_20, e112_23, e112_26, e112_27, e112_29, e112_31, e112_32, e112_35, e112_36, e112_39, e112_41, e112_43, e112_44, e112_47, e112_49, e112_52, e112_54, e112_55, e112_56, e112_59, e112_60, e112_61, e112_62, e112_64, e112_67, e112_69, e112_70, e112_73, e112_75, e112_76, e112_77, e112_79, e112_80, e112_82, e112_83, e112_86, e112_89, e112_92, e112_95, e112_96, e112_99, e112_101, e112_102, e112_105, e112_106, e112_107, e112_108, e112_109, ab_li2, true_or, or_true, true_and, and_true, ab_pus, ab_pun, ab_len0, ab_len1, ab_len2, ab_len3, ab_len4, Nat.zero_add, ab_rn0, m2, q_lt, hni, false_imp_iff, not_false_eq_true, true_imp_iff]
          exact inner (L.length + 1) 0 ν _ (by omega) (by omega) g3 (fun a b hb hab => g4 a b hb (by omega))
    refine run 10 _ _ _ _ ?_
    simp only [e112_0, e112_1, e112_4, e112_7, e112_8, e112_9, e112_10, e112_13, e112_14, e112_15, e112_16, e112_17, e112_18, e112_19, e112_20, e112_23, e112_26, e112_27, e112_29, e112_31, e112_32, e112_35, e112_36, e112_39, e112_41, e112_43, e112_44, e112_47, e112_49, e112_52, e112_54, e112_55, e112_56, e112_59, e112_60, e112_61, e112_62, e112_64, e112_67, e112_69, e112_70, e112_73, e112_75, e112_76, e112_77, e112_79, e112_80, e112_82, e112_83, e112_86, e112_89, e112_92, e112_95, e112_96, e112_99, e112_101, e112_102, e112_105, e112_106, e112_107, e112_108, e112_109, ab_li2, true_or, or_true, true_and, and_true, ab_pus, ab_pun, ab_len0, ab_len1, ab_len2, ab_len3, ab_len4, Nat.zero_add, ab_rn0]
    refine C80i ?_
    rw [if_pos hk]
    simp (disch := omega) only [e112_0, e112_1, e112_4, e112_7, e112_8, e112_9, e112_10, e112_13, e112_14, e112_15, e112_16, e112_17, e112_18, e112_19, e112_20, e112_23, e112_26, e112_27, e112_29, e112_31, e112_32, e112_35, e112_36, e112_39, e112_41, e112_43, e112_44, e112_47, e112_49, e112_52, e112_54, e112_55, e112_56, e112_59, e112_60, e112_61, e112_62, e112_64, e112_67, e112_69, e112_70, e112_73, e112_75, e112_76, e112_77, e112_79, e112_80, e112_82, e112_83, e112_86, e112_89, e112_92, e112_95, e112_96, e112_99, e112_101, e112_102, e112_105, e112_106, e112_107, e112_108, e112_109, ab_li2, true_or, or_true, true_and, and_true, ab_pus, ab_pun, ab_len0, ab_len1, ab_len2, ab_len3, ab_len4, Nat.zero_add, ab_rn0, z01, not_true_eq_false, false_imp_iff, not_false_eq_true, true_imp_iff, q_in, q_cl, hL.1]
    exact outer (nt + 1) 0 μ _ _ (by omega) (by omega) (fun _ _ _ => rfl) (fun a b _ ha => absurd ha (by omega))
  · refine run 10 _ _ _ _ ?_
    simp only [e112_0, e112_1, e112_4, e112_7, e112_8, e112_9, e112_10, e112_13, e112_14, e112_15, e112_16, e112_17, e112_18, e112_19, e112_20, e112_23, e112_26, e112_27, e112_29, e112_31, e112_32, e112_35, e112_36, e112_39, e112_41, e112_43, e112_44, e112_47, e112_49, e112_52, e112_54, e112_55, e112_56, e112_59, e112_60, e112_61, e112_62, e112_64, e112_67, e112_69, e112_70, e112_73, e112_75, e112_76, e112_77, e112_79, e112_80, e112_82, e112_83, e112_86, e112_89, e112_92, e112_95, e112_96, e112_99, e112_101, e112_102, e112_105, e112_106, e112_107, e112_108, e112_109, ab_li2, true_or, or_true, true_and, and_true, ab_pus, ab_pun, ab_len0, ab_len1, ab_len2, ab_len3, ab_len4, Nat.zero_add]
    refine C80i ?_
    rw [if_neg hk]
    simp only [e112_0, e112_1, e112_4, e112_7, e112_8, e112_9, e112_10, e112_13, e112_14, e112_15, e112_16, e112_17, e112_18, e112_19, e112_20, e112_23, e112_26, e112_27, e112_29, e112_31, e112_32, e112_35, e112_36, e112_39, e112_41, e112_43, e112_44, e112_47, e112_49, e112_52, e112_54, e112_55, e112_56, e112_59, e112_60, e112_61, e112_62, e112_64, e112_67, e112_69, e112_70, e112_73, e112_75, e112_76, e112_77, e112_79, e112_80, e112_82, e112_83, e112_86, e112_89, e112_92, e112_95, e112_96, e112_99, e112_101, e112_102, e112_105, e112_106, e112_107, e112_108, e112_109, ab_li2, true_or, or_true, true_and, and_true, ab_pus, ab_pun, ab_len0, ab_len1, ab_len2, ab_len3, ab_len4, Nat.zero_add, not_true_eq_false, false_imp_iff, not_false_eq_true, true_imp_iff]
    exact h0 hk
theorem C114 (hX : aM μ X) (ho : ∀ c, c < 12 → okL (X c)) (hnt : nt ≤ 6) (hnum : μ 65 19 = nI nt) (hT : rT μ 78 79 TK TM nt) (h : ∀ μ', (∀ p, p ≠ 80 → ∀ j, μ' p j = μ p j) → Q (some (nI (nb (cX X TK TM nt) 11))) μ') : ab_Cl (d + 4) 114 [.ref 65] μ Q := by
  refine n114 fun J run => ?_
  have mv : ∀ ν, (∀ p, p ≠ 80 → ∀ j, ν p j = μ p j) → aM ν X ∧ ν 65 19 = nI nt ∧ rT ν 78 79 TK TM nt := fun ν hν => ⟨fun c hc => rM_e (hX c hc) (fun p i hp => hν p (by omega) i), by rw [hν 65 (by decide)]; exact hnum, fun t ht => by rw [hν 78 (by decide), hν 79 (by decide)]; exact hT t ht⟩
  have bd : ∀ c, c < 12 → cX X TK TM nt c ≤ 480 := fun c hc => cX_le (hX c hc).2.1 hnt
  have loop : ∀ f i ν, 12 - i ≤ f → 1 ≤ i → i ≤ 12 → (∀ p, p ≠ 80 → ∀ j, ν p j = μ p j) → J 4 ν [.ref 65, .int (nI (nb (cX X TK TM nt) (i - 1))), .int (nI i)] [] := by
    intro f
    induction f with
    | zero =>
      intro i ν h1 h2 h3 h4
      obtain rfl : i = 12 := by omega
      refine run 20 _ _ _ _ ?_
      simp (disch := omega) only [e114_0, e114_1, e114_2, e114_3, e114_4, e114_5, e114_7, e114_10, e114_11, e114_12, e114_15, e114_16, e114_17, e114_20, e114_23, e114_24, e114_25, e114_28, e114_31, e114_32, ab_li2, true_or, or_true, true_and, and_true, ab_pus, ab_pun, ab_len0, ab_len1, ab_len2, ab_len3, ab_len4, Nat.zero_add, l12, q_le, Nat.le_refl, true_imp_iff, not_true_eq_false, false_imp_iff]
      exact h ν h4
    | succ f ih =>
      intro i ν h1 h2 h3 h4
      by_cases hi : i = 12
      · exact ih i ν (by omega) h2 h3 h4
      · obtain ⟨k, rfl⟩ : ∃ k, i = k + 1 := ⟨i - 1, by omega⟩
        rw [show k + 1 - 1 = k from rfl]
        have hb := nb_le (cX X TK TM nt) k
        have hni : ¬ 12 ≤ k + 1 := by omega
        obtain ⟨m1, m2, m3⟩ := mv ν h4
        refine run 20 _ _ _ _ ?_
        simp (disch := omega) only [e114_0, e114_1, e114_2, e114_3, e114_4, e114_5, e114_7, e114_10, e114_11, e114_12, e114_15, e114_16, e114_17, e114_20, e114_23, e114_24, e114_25, e114_28, e114_31, e114_32, ab_li2, true_or, or_true, true_and, and_true, ab_pus, ab_pun, ab_len0, ab_len1, ab_len2, ab_len3, ab_len4, Nat.zero_add, l12, q_le, hni, true_imp_iff, not_false_eq_true, false_imp_iff]
        refine C112 m1 ho hnt m2 m3 (fun c hc hk ν2 e2 => ?_) (fun z => absurd (show _ ∧ _ by rw [nI_ti (show k + 1 < 2147483648 by omega)]; omega) z)
        obtain rfl : c = k + 1 := by
          have := congrArg Int32.toInt hk
          rw [nI_ti (by omega), nI_ti (by omega)] at this
          omega
        have h5 : ∀ p, p ≠ 80 → ∀ j, ν2 p j = μ p j := fun p hp j => (e2 p hp j).trans (h4 p hp j)
        obtain ⟨m1, m2, m3⟩ := mv ν2 h5
        simp (disch := omega) only [e114_0, e114_1, e114_2, e114_3, e114_4, e114_5, e114_7, e114_10, e114_11, e114_12, e114_15, e114_16, e114_17, e114_20, e114_23, e114_24, e114_25, e114_28, e114_31, e114_32, ab_li2, true_or, or_true, true_and, and_true, ab_pus, ab_pun, ab_len0, ab_len1, ab_len2, ab_len3, ab_len4, Nat.zero_add]
        refine C112 m1 ho hnt m2 m3 (fun b hb' hk ν3 e3 => ?_) (fun z => absurd (show _ ∧ _ by rw [nI_ti (show nb (cX X TK TM nt) k < 2147483648 by omega)]; omega) z)
        obtain rfl : b = nb (cX X TK TM nt) k := by
          have := congrArg Int32.toInt hk
          rw [nI_ti (by omega), nI_ti (by omega)] at this
          omega
        have h6 : ∀ p, p ≠ 80 → ∀ j, ν3 p j = μ p j := fun p hp j => (e3 p hp j).trans (h5 p hp j)
        have d1 := bd _ hc
        have d2 := bd _ hb'
        simp (disch := omega) only [e114_0, e114_1, e114_2, e114_3, e114_4, e114_5, e114_7, e114_10, e114_11, e114_12, e114_15, e114_16, e114_17, e114_20, e114_23, e114_24, e114_25, e114_28, e114_31, e114_32, ab_li2, true_or, or_true, true_and, and_true, ab_pus, ab_pun, ab_len0, ab_len1, ab_len2, ab_len3, ab_len4, Nat.zero_add, q_le, q_p1]
        have go := ih (k + 1 + 1) ν3 (by omega) (by omega) (by omega) h6
        rw [show k + 1 + 1 - 1 = k + 1 from rfl, nb] at go
        refine ⟨fun g => ?_, fun g => ?_⟩
        · rw [if_neg (by omega)] at go; exact go
        · rw [if_pos (by omega)] at go; exact go
  refine run 4 _ _ _ _ ?_
  simp only [e114_0, e114_1, e114_2, e114_3, e114_4, e114_5, e114_7, e114_10, e114_11, e114_12, e114_15, e114_16, e114_17, e114_20, e114_23, e114_24, e114_25, e114_28, e114_31, e114_32, ab_li2, true_or, or_true, true_and, and_true, ab_pus, ab_pun, ab_len0, ab_len1, ab_len2, ab_len3, ab_len4, Nat.zero_add, ab_rn0]
  exact loop 12 1 μ (by decide) (by decide) (by decide) (fun _ _ _ => rfl)
theorem C63 {k : Int32} (hX : aC μ X) (ho : ∀ c, c < 12 → okL (X c)) (hnt : nt ≤ 6) (hnum : μ 9 3 = nI nt) (hT : rT μ 10 11 TK TM nt) (h1 : ∀ c, c < 12 → k = nI c → ∀ μ', (∀ p, p ≠ 12 → ∀ j, μ' p j = μ p j) → Q (some (nI (cX X TK TM nt c))) μ') (h0 : ¬ (0 ≤ k.toInt ∧ k.toInt < 12) → Q (some (-1)) μ) : ab_Cl (d + 5) 63 [.ref 0, .int k] μ Q := by
  refine n63 fun J run => run 20 _ _ _ _ ?_
  simp only [e63_0, e63_1, e63_4, e63_7, e63_8, e63_11, e63_12, e63_15, e63_16, e63_17, e63_20, e63_23, e63_24, ab_li1, true_or, or_true, true_and, and_true, ab_pus, ab_pun, ab_len0, ab_len1, ab_len2, ab_len3, ab_len4, Nat.zero_add]
  refine C69i ?_
  by_cases hk : 0 ≤ k.toInt ∧ k.toInt < 12
  · rw [if_pos hk]
    obtain ⟨c, hc, rfl⟩ := toK (n := 12) (by decide) hk
    simp (disch := omega) only [e63_0, e63_1, e63_4, e63_7, e63_8, e63_11, e63_12, e63_15, e63_16, e63_17, e63_20, e63_23, e63_24, ab_li1, true_or, or_true, true_and, and_true, ab_pus, ab_pun, ab_len0, ab_len1, ab_len2, ab_len3, ab_len4, Nat.zero_add, z01, not_true_eq_false, false_imp_iff, not_false_eq_true, true_imp_iff, q_in, q_cl, ab_sl hc]
    refine C3 hc (hX c hc) (ho c hc) hnt hnum hT (fun μ' e => ?_)
    simp only [e63_0, e63_1, e63_4, e63_7, e63_8, e63_11, e63_12, e63_15, e63_16, e63_17, e63_20, e63_23, e63_24, ab_li1, true_or, or_true, true_and, and_true, ab_pus, ab_pun, ab_len0, ab_len1, ab_len2, ab_len3, ab_len4, Nat.zero_add]
    exact h1 c hc rfl μ' e
  · rw [if_neg hk]
    simp only [e63_0, e63_1, e63_4, e63_7, e63_8, e63_11, e63_12, e63_15, e63_16, e63_17, e63_20, e63_23, e63_24, ab_li1, true_or, or_true, true_and, and_true, ab_pus, ab_pun, ab_len0, ab_len1, ab_len2, ab_len3, ab_len4, Nat.zero_add, not_true_eq_false, false_imp_iff, not_false_eq_true, true_imp_iff]
    exact h0 hk
theorem C64 (hX : aC μ X) (ho : ∀ c, c < 12 → okL (X c)) (hnt : nt ≤ 6) (hnum : μ 9 3 = nI nt) (hT : rT μ 10 11 TK TM nt) (h : ∀ μ', (∀ p, p ≠ 12 → ∀ j, μ' p j = μ p j) → Q (some (nI (nb (cX X TK TM nt) 11))) μ') : ab_Cl (d + 5) 64 [.ref 0] μ Q := by
  refine n64 fun J run => ?_
  have mv : ∀ ν, (∀ p, p ≠ 12 → ∀ j, ν p j = μ p j) → aC ν X ∧ ν 9 3 = nI nt ∧ rT ν 10 11 TK TM nt := fun ν hν => ⟨fun c hc => rC_e (hX c hc) (fun p i hp => hν p (by omega) i), by rw [hν 9 (by decide)]; exact hnum, fun t ht => by rw [hν 10 (by decide), hν 11 (by decide)]; exact hT t ht⟩
  have bd : ∀ c, c < 12 → cX X TK TM nt c ≤ 480 := fun c hc => cX_le (hX c hc).2.1 hnt
  have loop : ∀ f i ν x, 12 - i ≤ f → 1 ≤ i → i ≤ 12 → (∀ p, p ≠ 12 → ∀ j, ν p j = μ p j) → J 18 ν [.ref 0, .int (nI (nb (cX X TK TM nt) (i - 1))), .int (nI (cX X TK TM nt (nb (cX X TK TM nt) (i - 1)))), .int (nI i), x] [] := by
    intro f
    induction f with
    | zero =>
      intro i ν x h1 h2 h3 h4
      obtain rfl : i = 12 := by omega
      refine run 20 _ _ _ _ ?_
      simp (disch := omega) only [e64_0, e64_1, e64_2, e64_3, e64_6, e64_7, e64_10, e64_11, e64_12, e64_15, e64_16, e64_17, e64_18, e64_19, e64_21, e64_24, e64_25, e64_28, e64_29, e64_32, e64_33, e64_34, e64_37, e64_39, e64_41, e64_42, e64_45, e64_47, e64_48, e64_49, e64_50, e64_53, e64_56, e64_57, ab_li1, true_or, or_true, true_and, and_true, ab_pus, ab_pun, ab_len0, ab_len1, ab_len2, ab_len3, ab_len4, Nat.zero_add, l12, q_le, Nat.le_refl, true_imp_iff, not_true_eq_false, false_imp_iff]
      exact h ν h4
    | succ f ih =>
      intro i ν x h1 h2 h3 h4
      by_cases hi : i = 12
      · exact ih i ν x (by omega) h2 h3 h4
      · obtain ⟨k, rfl⟩ : ∃ k, i = k + 1 := ⟨i - 1, by omega⟩
        rw [show k + 1 - 1 = k from rfl]
        have hb := nb_le (cX X TK TM nt) k
        have hc : k + 1 < 12 := by omega
        have hni : ¬ 12 ≤ k + 1 := by omega
        obtain ⟨m1, m2, m3⟩ := mv ν h4
        have d1 := bd (k + 1) (by omega)
        have d2 := bd (nb (cX X TK TM nt) k) (by omega)
        refine run 40 _ _ _ _ ?_
        simp (disch := omega) only [e64_0, e64_1, e64_2, e64_3, e64_6, e64_7, e64_10, e64_11, e64_12, e64_15, e64_16, e64_17, e64_18, e64_19, e64_21, e64_24, e64_25, e64_28, e64_29, e64_32, e64_33, e64_34, e64_37, e64_39, e64_41, e64_42, e64_45, e64_47, e64_48, e64_49, e64_50, e64_53, e64_56, e64_57, ab_li1, true_or, or_true, true_and, and_true, ab_pus, ab_pun, ab_len0, ab_len1, ab_len2, ab_len3, ab_len4, Nat.zero_add, l12, q_le, hni, true_imp_iff, not_false_eq_true, false_imp_iff, q_in, q_cl, ab_sl hc]
        refine C3 hc (m1 _ hc) (ho _ hc) hnt m2 m3 (fun ν2 e2 => ?_)
        rw [show cst (pct TK TM (X (k + 1))) (X (k + 1)).length nt (X (k + 1)).length = cX X TK TM nt (k + 1) from rfl]
        have h5 : ∀ p, p ≠ 12 → ∀ j, ν2 p j = μ p j := fun p hp j => (e2 p hp j).trans (h4 p hp j)
        simp (disch := omega) only [e64_0, e64_1, e64_2, e64_3, e64_6, e64_7, e64_10, e64_11, e64_12, e64_15, e64_16, e64_17, e64_18, e64_19, e64_21, e64_24, e64_25, e64_28, e64_29, e64_32, e64_33, e64_34, e64_37, e64_39, e64_41, e64_42, e64_45, e64_47, e64_48, e64_49, e64_50, e64_53, e64_56, e64_57, ab_li1, true_or, or_true, true_and, and_true, ab_pus, ab_pun, ab_len0, ab_len1, ab_len2, ab_len3, ab_len4, Nat.zero_add, q_le, q_p1]
        have go := ih (k + 1 + 1) ν2 (.int (nI (cX X TK TM nt (k + 1)))) (by omega) (by omega) (by omega) h5
        rw [show k + 1 + 1 - 1 = k + 1 from rfl, nb] at go
        refine ⟨fun g => ?_, fun g => ?_⟩
        · rw [if_neg (by omega)] at go; exact go
        · rw [if_pos (by omega)] at go; exact go
  have h00 : (0 : Nat) < 12 := by decide
  have i0 : vp_in (0 : Int32) 12 = True := q_in (i := 0) (by decide) (by decide)
  refine run 12 _ _ _ _ ?_
  simp (disch := omega) only [e64_0, e64_1, e64_2, e64_3, e64_6, e64_7, e64_10, e64_11, e64_12, e64_15, e64_16, e64_17, e64_18, e64_19, e64_21, e64_24, e64_25, e64_28, e64_29, e64_32, e64_33, e64_34, e64_37, e64_39, e64_41, e64_42, e64_45, e64_47, e64_48, e64_49, e64_50, e64_53, e64_56, e64_57, ab_li1, true_or, or_true, true_and, and_true, ab_pus, ab_pun, ab_len0, ab_len1, ab_len2, ab_len3, ab_len4, Nat.zero_add, ab_rn0, i0, ab_c0, ab_sl h00]
  refine C3 h00 (hX _ h00) (ho _ h00) hnt hnum hT (fun ν2 e2 => ?_)
  simp only [e64_0, e64_1, e64_2, e64_3, e64_6, e64_7, e64_10, e64_11, e64_12, e64_15, e64_16, e64_17, e64_18, e64_19, e64_21, e64_24, e64_25, e64_28, e64_29, e64_32, e64_33, e64_34, e64_37, e64_39, e64_41, e64_42, e64_45, e64_47, e64_48, e64_49, e64_50, e64_53, e64_56, e64_57, ab_li1, true_or, or_true, true_and, and_true, ab_pus, ab_pun, ab_len0, ab_len1, ab_len2, ab_len3, ab_len4, Nat.zero_add, ab_rn0]
  exact loop 12 1 ν2 _ (by decide) (by decide) (by decide) e2
end PIU
