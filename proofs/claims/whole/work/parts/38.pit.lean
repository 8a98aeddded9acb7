def adf (a b : Nat) : Nat := if a < b then b - a else a - b
def pct (TK TM : Nat → Nat) (L : List ly) (t k : Nat) : Nat := adf (TM t) (ms L k) / 10 + (if TK t = kd L k then 0 else 40)
def nxr (n : Nat) (pc : Nat → Nat) (b : Nat) (r : Nat → Nat) : Nat → Nat
  | 0 => b
  | j + 1 => min (r j + pc (n - (j + 1))) (min (r (j + 1)) (nxr n pc b r j) + 30)
def cst (pf : Nat → Nat → Nat) (n : Nat) : Nat → Nat → Nat
  | 0 => fun j => 30 * j
  | i + 1 => nxr n (pf i) (30 * (i + 1)) (cst pf n i)
theorem cst_0 (pf : Nat → Nat → Nat) (n i : Nat) : cst pf n i 0 = 30 * i := by cases i <;> rfl
theorem cst_s (pf : Nat → Nat → Nat) (n i j : Nat) : cst pf n (i + 1) (j + 1) = min (cst pf n i j + pf i (n - (j + 1))) (min (cst pf n i (j + 1)) (cst pf n (i + 1) j) + 30) := rfl
theorem cst_le (pf : Nat → Nat → Nat) (n : Nat) : ∀ i j, cst pf n i j ≤ 30 * (i + j) := by
  intro i
  induction i with
  | zero => intro j; show 30 * j ≤ _; omega
  | succ i ih =>
    intro j
    induction j with
    | zero => rw [cst_0]; omega
    | succ j ihj => rw [cst_s]; omega
def rT (μ : ab_M) (a b : Nat) (TK TM : Nat → Nat) (n : Nat) : Prop := ∀ t, t < n → μ a t = nI (TK t) ∧ μ b t = nI (TM t) ∧ TK t ≤ 3 ∧ TM t ≤ 9999
theorem sub_lt {a b : Nat} (ha : a < 1073741824) (hb : b < 1073741824) : (nI a - nI b < 0) = (a < b) := by
  rw [z_lt, pk_sub_toInt ha hb, t_0]
  exact propext (by omega)
theorem sub_neg {a b : Nat} (h : a ≤ b) : 0 - (nI a - nI b) = nI (b - a) := by
  rw [← q_su h]
  simp [Int32.sub_eq_add_neg, Int32.neg_add, Int32.add_comm]
theorem q_abs {a b : Nat} (ha : a < 1073741824) (hb : b < 1073741824) : (if 0 ≤ nI a - nI b then nI a - nI b else 0 - (nI a - nI b)) = nI (adf a b) := by
  have h := sub_lt ha hb
  unfold adf
  by_cases hl : a < b
  · rw [if_pos hl, if_neg (by rw [Int32.not_le, h]; exact hl), sub_neg (by omega)]
  · rw [if_neg hl, if_pos (by rw [← Int32.not_lt, h]; exact hl), q_su (by omega)]
theorem adf_le {a b m : Nat} (ha : a ≤ m) (hb : b ≤ m) : adf a b ≤ m := by unfold adf; split <;> omega
theorem adf_comm (a b : Nat) : adf a b = adf b a := by unfold adf; split <;> split <;> omega
theorem pct_le {TK TM : Nat → Nat} {L : List ly} {t k : Nat} (ho : sm L ≤ 9600000) (hk : k < L.length) (ht : TM t ≤ 9999) : pct TK TM L t k ≤ 1000000 := by
  have h1 := ms_le hk
  have h2 := adf_le (a := TM t) (b := ms L k) (m := 9600000) (by omega) (by omega)
  unfold pct
  have : adf (TM t) (ms L k) / 10 ≤ 960000 := by omega
  split <;> omega
section PIT
variable {d c nt : Nat} {μ : ab_M} {Q : ab_Q} {L : List ly} {TK TM : Nat → Nat}
theorem C4 {t k : Nat} (hc : c < 12) (hL : rC μ c L) (ho : okL L) (hnt : nt ≤ 6) (ht : t < nt) (hk : k < L.length) (hT : rT μ 10 11 TK TM nt) (h : Q (some (nI (pct TK TM L t k))) μ) : ab_Cl (d + 3) 4 [.ref 9, .int (nI t), .ref (17 + 4 * c), .int (nI k)] μ Q := by
  obtain ⟨t1, t2, t3, t4⟩ := hT t ht
  obtain ⟨o1, o2, o3⟩ := ho.1 k hk
  have hm := ms_le hk
  have hs := ho.2
  have ha := adf_le (a := TM t) (b := ms L k) (m := 9600000) (by omega) (by omega)
  have n10 : ¬ (nI 10 : Int32) = 0 := by decide
  refine n4 fun J run => run 40 _ _ _ _ ?_
  simp (disch := omega) only [e4_0, e4_1, e4_4, e4_5, e4_6, e4_7, e4_8, e4_11, e4_12, e4_15, e4_17, e4_18, e4_20, e4_21, e4_24, e4_25, e4_26, e4_27, e4_28, e4_31, e4_34, e4_36, e4_39, e4_41, e4_43, e4_44, ab_li1, true_or, or_true, true_and, and_true, ab_pus, ab_pun, ab_len0, ab_len1, ab_len2, ab_len3, ab_len4, Nat.zero_add, q_in, q_cl, t2, ab_sl hc]
  refine C13 hc hL hk ?_
  simp (disch := omega) only [e4_0, e4_1, e4_4, e4_5, e4_6, e4_7, e4_8, e4_11, e4_12, e4_15, e4_17, e4_18, e4_20, e4_21, e4_24, e4_25, e4_26, e4_27, e4_28, e4_31, e4_34, e4_36, e4_39, e4_41, e4_43, e4_44, ab_li1, true_or, or_true, true_and, and_true, ab_pus, ab_pun, ab_len0, ab_len1, ab_len2, ab_len3, ab_len4, Nat.zero_add, q_in, q_cl, t1, ab_sl hc, q_abs, l10, n10, q_dv, not_false_eq_true]
  refine C12 hc hL hk ?_
  simp (disch := omega) only [e4_0, e4_1, e4_4, e4_5, e4_6, e4_7, e4_8, e4_11, e4_12, e4_15, e4_17, e4_18, e4_20, e4_21, e4_24, e4_25, e4_26, e4_27, e4_28, e4_31, e4_34, e4_36, e4_39, e4_41, e4_43, e4_44, ab_li1, true_or, or_true, true_and, and_true, ab_pus, ab_pun, ab_len0, ab_len1, ab_len2, ab_len3, ab_len4, Nat.zero_add, q_eq, l40, q_ad]
  unfold pct at h
  refine ⟨fun g => ?_, fun g => ?_⟩
  · rw [if_neg g] at h; exact h
  · rw [if_pos (Classical.not_not.mp g)] at h; exact h
theorem C3 (hc : c < 12) (hL : rC μ c L) (ho : okL L) (hnt : nt ≤ 6) (hnum : μ 9 3 = nI nt) (hT : rT μ 10 11 TK TM nt) (h : ∀ μ', (∀ p, p ≠ 12 → ∀ j, μ' p j = μ p j) → Q (some (nI (cst (pct TK TM L) L.length nt L.length))) μ') : ab_Cl (d + 4) 3 [.ref 9, .ref (17 + 4 * c)] μ Q := by
  have hn := hL.2.1
  have hs := ho.2
  refine n3 fun J run => ?_
  generalize hpf : pct TK TM L = pf at h
  have hpb : ∀ t k, t < nt → k < L.length → pf t k ≤ 1000000 := fun t k h1 h2 => by rw [← hpf]; exact pct_le hs h2 (hT t h1).2.2.2
  have cb := cst_le pf L.length
  -- the world at another memory that differs in part 12 alone
  have mv : ∀ ν, (∀ p, p ≠ 12 → ∀ j, ν p j = μ p j) → rC ν c L ∧ ν 9 3 = nI nt ∧ rT ν 10 11 TK TM nt := fun ν hν => ⟨rC_e hL (fun p i hp => hν p (by omega) i), by rw [hν 9 (by decide)]; exact hnum, fun t ht => by rw [hν 10 (by decide), hν 11 (by decide)]; exact hT t ht⟩
  have outer : ∀ f i ν x y z w, nt - i ≤ f → i ≤ nt → (∀ p, p ≠ 12 → ∀ j, ν p j = μ p j) → (∀ j, j ≤ L.length → ν 12 j = nI (cst pf L.length i j)) → J 35 ν [.ref 9, .ref (17 + 4 * c), .int (nI L.length), .int (nI i), x, y, z, w] [] := by
    intro f
    induction f with
    | zero =>
      intro i ν x y z w h1 h2 h3 h4
      obtain rfl : i = nt := by omega
      refine run 20 _ _ _ _ ?_
      obtain ⟨m1, m2, m3⟩ := mv ν h3
      simp (disch := omega) only [e3_0, e3_1, e3_4, e3_6, e3_9, e3_10, e3_11, e3_12, e3_13, e3_14, e3_17, e3_18, e3_21, e3_22, e3_24, e3_25, e3_26, e3_27, e3_30, e3_33, e3_34, e3_35, e3_36, e3_37, e3_40, e3_43, e3_44, e3_47, e3_48, e3_49, e3_51, e3_52, e3_55, e3_56, e3_57, e3_58, e3_60, e3_61, e3_62, e3_63, e3_65, e3_67, e3_68, e3_71, e3_73, e3_74, e3_75, e3_76, e3_77, e3_79, e3_80, e3_83, e3_84, e3_86, e3_87, e3_90, e3_92, e3_93, e3_94, e3_97, e3_99, e3_100, e3_101, e3_102, e3_105, e3_107, e3_108, e3_110, e3_111, e3_114, e3_116, e3_117, e3_119, e3_120, e3_123, e3_125, e3_127, e3_129, e3_132, e3_133, e3_136, e3_139, e3_142, e3_145, e3_146, e3_149, e3_150, e3_151, ab_li1, true_or, or_true, true_and, and_true, ab_pus, ab_pun, ab_len0, ab_len1, ab_len2, ab_len3, ab_len4, Nat.zero_add, m2, q_le, Nat.le_refl, q_in, q_cl, h4 L.length (Nat.le_refl _), true_imp_iff, not_true_eq_false, false_imp_iff]
      exact h ν h3
    | succ f ih =>
      intro i ν x y z w h1 h2 h3 h4
      by_cases hi : i = nt
      · exact ih i ν x y z w (by omega) h2 h3 h4
      · have hi2 : i < nt := by omega
        have inner : ∀ g j ρ x y, L.length + 1 - j ≤ g → 1 ≤ j → j ≤ L.length + 1 → (∀ p, p ≠ 12 → ∀ q, ρ p q = μ p q) → (∀ q, q ≤ L.length → ρ 12 q = if q < j then nI (cst pf L.length (i + 1) q) else nI (cst pf L.length i q)) → J 65 ρ [.ref 9, .ref (17 + 4 * c), .int (nI L.length), .int (nI i), .int (nI (cst pf L.length i (j - 1))), .int (nI j), x, y] [] := by
          intro g
          induction g with
          | zero =>
            intro j ρ x y b1 b2 b3 b4 b5
            obtain rfl : j = L.length + 1 := by omega
            refine run 20 _ _ _ _ ?_
            have hlt : L.length < L.length + 1 := by omega
            simp (disch := omega) only [e3_0, e3_1, e3_4, e3_6, e3_9, e3_10, e3_11, e3_12, e3_13, e3_14, e3_17, e3_18, e3_21, e3_22, e3_24, e3_25, e3_26, e3_27, e3_30, e3_33, e3_34, e3_35, e3_36, e3_37, e3_40, e3_43, e3_44, e3_47, e3_48, e3_49, e3_51, e3_52, e3_55, e3_56, e3_57, e3_58, e3_60, e3_61, e3_62, e3_63, e3_65, e3_67, e3_68, e3_71, e3_73, e3_74, e3_75, e3_76, e3_77, e3_79, e3_80, e3_83, e3_84, e3_86, e3_87, e3_90, e3_92, e3_93, e3_94, e3_97, e3_99, e3_100, e3_101, e3_102, e3_105, e3_107, e3_108, e3_110, e3_111, e3_114, e3_116, e3_117, e3_119, e3_120, e3_123, e3_125, e3_127, e3_129, e3_132, e3_133, e3_136, e3_139, e3_142, e3_145, e3_146, e3_149, e3_150, e3_151, ab_li1, true_or, or_true, true_and, and_true, ab_pus, ab_pun, ab_len0, ab_len1, ab_len2, ab_len3, ab_len4, Nat.zero_add, q_lt, hlt, true_imp_iff, not_true_eq_false, false_imp_iff, q_p1]
            exact ih (i + 1) ρ _ _ _ _ (by omega) (by omega) b4 (fun q hq => by rw [b5 q hq, if_pos (by omega)])
          | succ g ihg =>
            intro j ρ x y b1 b2 b3 b4 b5
            by_cases hj : j = L.length + 1
            · exact ihg j ρ x y (by omega) b2 b3 b4 b5
            · obtain ⟨m1, m2, m3⟩ := mv ρ b4
              have c1 := cb i (j - 1)
              have c2 := cb i j
              have c3 := cb (i + 1) (j - 1)
              have e1 : ρ 12 j = nI (cst pf L.length i j) := by rw [b5 j (by omega), if_neg (by omega)]
              have e2 : ρ 12 (j - 1) = nI (cst pf L.length (i + 1) (j - 1)) := by rw [b5 (j - 1) (by omega), if_pos (by omega)]
              have hp := hpb i (L.length - j) hi2 (by omega)
              refine run 60 _ _ _ _ ?_
              simp (disch := omega) only [e3_0, e3_1, e3_4, e3_6, e3_9, e3_10, e3_11, e3_12, e3_13, e3_14, e3_17, e3_18, e3_21, e3_22, e3_24, e3_25, e3_26, e3_27, e3_30, e3_33, e3_34, e3_35, e3_36, e3_37, e3_40, e3_43, e3_44, e3_47, e3_48, e3_49, e3_51, e3_52, e3_55, e3_56, e3_57, e3_58, e3_60, e3_61, e3_62, e3_63, e3_65, e3_67, e3_68, e3_71, e3_73, e3_74, e3_75, e3_76, e3_77, e3_79, e3_80, e3_83, e3_84, e3_86, e3_87, e3_90, e3_92, e3_93, e3_94, e3_97, e3_99, e3_100, e3_101, e3_102, e3_105, e3_107, e3_108, e3_110, e3_111, e3_114, e3_116, e3_117, e3_119, e3_120, e3_123, e3_125, e3_127, e3_129, e3_132, e3_133, e3_136, e3_139, e3_142, e3_145, e3_146, e3_149, e3_150, e3_151, ab_li1, true_or, or_true, true_and, and_true, ab_pus, ab_pun, ab_len0, ab_len1, ab_len2, ab_len3, ab_len4, Nat.zero_add, q_lt, q_su]
              refine ⟨fun z => absurd z (by omega), fun _ => ?_⟩
              refine C4 hc m1 ho hnt hi2 (show L.length - j < L.length by omega) m3 ?_
              rw [hpf]
              simp (disch := omega) only [e3_0, e3_1, e3_4, e3_6, e3_9, e3_10, e3_11, e3_12, e3_13, e3_14, e3_17, e3_18, e3_21, e3_22, e3_24, e3_25, e3_26, e3_27, e3_30, e3_33, e3_34, e3_35, e3_36, e3_37, e3_40, e3_43, e3_44, e3_47, e3_48, e3_49, e3_51, e3_52, e3_55, e3_56, e3_57, e3_58, e3_60, e3_61, e3_62, e3_63, e3_65, e3_67, e3_68, e3_71, e3_73, e3_74, e3_75, e3_76, e3_77, e3_79, e3_80, e3_83, e3_84, e3_86, e3_87, e3_90, e3_92, e3_93, e3_94, e3_97, e3_99, e3_100, e3_101, e3_102, e3_105, e3_107, e3_108, e3_110, e3_111, e3_114, e3_116, e3_117, e3_119, e3_120, e3_123, e3_125, e3_127, e3_129, e3_132, e3_133, e3_136, e3_139, e3_142, e3_145, e3_146, e3_149, e3_150, e3_151, ab_li1, true_or, or_true, true_and, and_true, ab_pus, ab_pun, ab_len0, ab_len1, ab_len2, ab_len3, ab_len4, Nat.zero_add, q_in, q_cl, e1, e2, q_m1, q_ad, q_min, l30, q_p1]
              have hcs : cst pf L.length (i + 1) j = min (cst pf L.length i (j - 1) + pf i (L.length - j)) (min (cst pf L.length i j) (cst pf L.length (i + 1) (j - 1)) + 30) := by
                obtain ⟨k, rfl⟩ : ∃ k, j = k + 1 := ⟨j - 1, by omega⟩
                exact cst_s pf L.length i k
              rw [← hcs]
              refine ihg (j + 1) _ _ _ (by omega) (by omega) (by omega) (fun p hp q => by rw [ab_ud hp, b4 p hp]) (fun q hq => ?_)
              by_cases e : q = j
              · subst e; rw [ab_up_eq, if_pos (by omega)]
              · rw [ab_uo e, b5 q hq]
                by_cases e2 : q < j
                · rw [if_pos e2, if_pos (by omega)]
                · rw [if_neg e2, if_neg (by omega)]
        obtain ⟨m1, m2, m3⟩ := mv ν h3
        have e0 := h4 0 (by omega)
        rw [cst_0] at e0
        have hni : ¬ nt ≤ i := by omega
        have i0 : vp_in (0 : Int32) 11 = True := q_in (i := 0) (by decide) (by decide)
        refine run 19 _ _ _ _ ?_
        simp (disch := omega) only [e3_0, e3_1, e3_4, e3_6, e3_9, e3_10, e3_11, e3_12, e3_13, e3_14, e3_17, e3_18, e3_21, e3_22, e3_24, e3_25, e3_26, e3_27, e3_30, e3_33, e3_34, e3_35, e3_36, e3_37, e3_40, e3_43, e3_44, e3_47, e3_48, e3_49, e3_51, e3_52, e3_55, e3_56, e3_57, e3_58, e3_60, e3_61, e3_62, e3_63, e3_65, e3_67, e3_68, e3_71, e3_73, e3_74, e3_75, e3_76, e3_77, e3_79, e3_80, e3_83, e3_84, e3_86, e3_87, e3_90, e3_92, e3_93, e3_94, e3_97, e3_99, e3_100, e3_101, e3_102, e3_105, e3_107, e3_108, e3_110, e3_111, e3_114, e3_116, e3_117, e3_119, e3_120, e3_123, e3_125, e3_127, e3_129, e3_132, e3_133, e3_136, e3_139, e3_142, e3_145, e3_146, e3_149, e3_150, e3_151, ab_li1, true_or, or_true, true_and, and_true, ab_pus, ab_pun, ab_len0, ab_len1, ab_len2, ab_len3, ab_len4, Nat.zero_add, ab_rn0, m2, q_le, hni, i0, ab_c0, e0, l30, q_ad, false_imp_iff, not_false_eq_true, true_imp_iff]
        have := inner (L.length + 1) 1 (ab_up ν 12 0 (nI (30 * i + 30))) z w (by omega) (by omega) (by omega) (fun p hp q => by rw [ab_ud hp, h3 p hp]) (fun q hq => ?_)
        · rw [show (1 : Nat) - 1 = 0 from rfl, cst_0] at this
          exact this
        · by_cases e : q = 0
          · subst e; rw [ab_up_eq, if_pos (by omega), cst_0]; rfl
          · rw [ab_uo e, if_neg (by omega)]; exact h4 q hq
  have init : ∀ f j ν x y z w, L.length + 1 - j ≤ f → j ≤ L.length + 1 → (∀ p, p ≠ 12 → ∀ q, ν p q = μ p q) → (∀ q, q < j → ν 12 q = nI (30 * q)) → J 12 ν [.ref 9, .ref (17 + 4 * c), .int (nI L.length), .int (nI j), x, y, z, w] [] := by
    intro f
    induction f with
    | zero =>
      intro j ν x y z w h1 h2 h3 h4
      obtain rfl : j = L.length + 1 := by omega
      refine run 5 _ _ _ _ ?_
      have hlt : L.length < L.length + 1 := by omega
      simp (disch := omega) only [e3_0, e3_1, e3_4, e3_6, e3_9, e3_10, e3_11, e3_12, e3_13, e3_14, e3_17, e3_18, e3_21, e3_22, e3_24, e3_25, e3_26, e3_27, e3_30, e3_33, e3_34, e3_35, e3_36, e3_37, e3_40, e3_43, e3_44, e3_47, e3_48, e3_49, e3_51, e3_52, e3_55, e3_56, e3_57, e3_58, e3_60, e3_61, e3_62, e3_63, e3_65, e3_67, e3_68, e3_71, e3_73, e3_74, e3_75, e3_76, e3_77, e3_79, e3_80, e3_83, e3_84, e3_86, e3_87, e3_90, e3_92, e3_93, e3_94, e3_97, e3_99, e3_100, e3_101, e3_102, e3_105, e3_107, e3_108, e3_110, e3_111, e3_114, e3_116, e3_117, e3_119, e3_120, e3_123, e3_125, e3_127, e3_129, e3_132, e3_133, e3_136, e3_139, e3_142, e3_145, e3_146, e3_149, e3_150, e3_151, ab_li1, true_or, or_true, true_and, and_true, ab_pus, ab_pun, ab_len0, ab_len1, ab_len2, ab_len3, ab_len4, Nat.zero_add, ab_rn0, q_lt, hlt, true_imp_iff, not_true_eq_false, false_imp_iff]
      exact outer nt 0 ν _ _ _ _ (by omega) (by omega) h3 (fun q hq => h4 q (by omega))
    | succ f ih =>
      intro j ν x y z w h1 h2 h3 h4
      by_cases hj : j = L.length + 1
      · exact ih j ν x y z w (by omega) h2 h3 h4
      · refine run 20 _ _ _ _ ?_
        simp (disch := omega) only [e3_0, e3_1, e3_4, e3_6, e3_9, e3_10, e3_11, e3_12, e3_13, e3_14, e3_17, e3_18, e3_21, e3_22, e3_24, e3_25, e3_26, e3_27, e3_30, e3_33, e3_34, e3_35, e3_36, e3_37, e3_40, e3_43, e3_44, e3_47, e3_48, e3_49, e3_51, e3_52, e3_55, e3_56, e3_57, e3_58, e3_60, e3_61, e3_62, e3_63, e3_65, e3_67, e3_68, e3_71, e3_73, e3_74, e3_75, e3_76, e3_77, e3_79, e3_80, e3_83, e3_84, e3_86, e3_87, e3_90, e3_92, e3_93, e3_94, e3_97, e3_99, e3_100, e3_101, e3_102, e3_105, e3_107, e3_108, e3_110, e3_111, e3_114, e3_116, e3_117, e3_119, e3_120, e3_123, e3_125, e3_127, e3_129, e3_132, e3_133, e3_136, e3_139, e3_142, e3_145, e3_146, e3_149, e3_150, e3_151, ab_li1, true_or, or_true, true_and, and_true, ab_pus, ab_pun, ab_len0, ab_len1, ab_len2, ab_len3, ab_len4, Nat.zero_add, q_lt, q_in, q_cl, l30, q_mu, q_p1]
        refine ⟨fun z => absurd z (by omega), fun _ => ?_⟩
        refine ih (j + 1) _ _ _ _ _ (by omega) (by omega) (fun p hp q => by rw [ab_ud hp, h3 p hp]) (fun q hq => ?_)
        by_cases e : q = j
        · subst e; rw [ab_up_eq]
        · rw [ab_uo e]; exact h4 q (by omega)
  refine run 7 _ _ _ _ ?_
  simp only [e3_0, e3_1, e3_4, e3_6, e3_9, e3_10, e3_11, e3_12, e3_13, e3_14, e3_17, e3_18, e3_21, e3_22, e3_24, e3_25, e3_26, e3_27, e3_30, e3_33, e3_34, e3_35, e3_36, e3_37, e3_40, e3_43, e3_44, e3_47, e3_48, e3_49, e3_51, e3_52, e3_55, e3_56, e3_57, e3_58, e3_60, e3_61, e3_62, e3_63, e3_65, e3_67, e3_68, e3_71, e3_73, e3_74, e3_75, e3_76, e3_77, e3_79, e3_80, e3_83, e3_84, e3_86, e3_87, e3_90, e3_92, e3_93, e3_94, e3_97, e3_99, e3_100, e3_101, e3_102, e3_105, e3_107, e3_108, e3_110, e3_111, e3_114, e3_116, e3_117, e3_119, e3_120, e3_123, e3_125, e3_127, e3_129, e3_132, e3_133, e3_136, e3_139, e3_142, e3_145, e3_146, e3_149, e3_150, e3_151, ab_li1, true_or, or_true, true_and, and_true, ab_pus, ab_pun, ab_len0, ab_len1, ab_len2, ab_len3, ab_len4, Nat.zero_add, ab_rn0, ab_sl hc]
  refine C10 hc hL ?_
  have hmin : (if (10 : Int32) < nI L.length then 10 else nI L.length) = nI L.length := if_neg (by rw [l10, q_lt (by omega) (by omega)]; omega)
  simp only [e3_0, e3_1, e3_4, e3_6, e3_9, e3_10, e3_11, e3_12, e3_13, e3_14, e3_17, e3_18, e3_21, e3_22, e3_24, e3_25, e3_26, e3_27, e3_30, e3_33, e3_34, e3_35, e3_36, e3_37, e3_40, e3_43, e3_44, e3_47, e3_48, e3_49, e3_51, e3_52, e3_55, e3_56, e3_57, e3_58, e3_60, e3_61, e3_62, e3_63, e3_65, e3_67, e3_68, e3_71, e3_73, e3_74, e3_75, e3_76, e3_77, e3_79, e3_80, e3_83, e3_84, e3_86, e3_87, e3_90, e3_92, e3_93, e3_94, e3_97, e3_99, e3_100, e3_101, e3_102, e3_105, e3_107, e3_108, e3_110, e3_111, e3_114, e3_116, e3_117, e3_119, e3_120, e3_123, e3_125, e3_127, e3_129, e3_132, e3_133, e3_136, e3_139, e3_142, e3_145, e3_146, e3_149, e3_150, e3_151, ab_li1, true_or, or_true, true_and, and_true, ab_pus, ab_pun, ab_len0, ab_len1, ab_len2, ab_len3, ab_len4, Nat.zero_add, ab_rn0, hmin]
  exact init (L.length + 1) 0 μ _ _ _ _ (by omega) (by omega) (fun _ _ _ => rfl) (fun q hq => absurd hq (by omega))
end PIT
