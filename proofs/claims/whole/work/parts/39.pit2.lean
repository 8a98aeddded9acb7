theorem neg_sub {a b : Nat} (h : a ≤ b) : -(nI a - nI b) = nI (b - a) := by
  rw [← sub_neg h]
  simp
def nb (F : Nat → Nat) : Nat → Nat
  | 0 => 0
  | m + 1 => if F (m + 1) < F (nb F m) then m + 1 else nb F m
theorem nb_le (F : Nat → Nat) (m : Nat) : nb F m ≤ m := by
  induction m with
  | zero => exact Nat.le_refl _
  | succ m ih => simp only [nb]; split <;> omega
def cX (X : Nat → List ly) (TK TM : Nat → Nat) (nt c : Nat) : Nat := cst (pct TK TM (X c)) (X c).length nt (X c).length
theorem cX_le {X : Nat → List ly} {TK TM : Nat → Nat} {nt c : Nat} (h : (X c).length ≤ 10) (hn : nt ≤ 6) : cX X TK TM nt c ≤ 480 := by
  have := cst_le (pct TK TM (X c)) (X c).length nt (X c).length
  unfold cX
  omega
section PIU
variable {d c nt : Nat} {μ : ab_M} {Q : ab_Q} {L : List ly} {TK TM : Nat → Nat} {X : Nat → List ly}
theorem C113 {i j : Nat} {pf : Nat → Nat → Nat} (hc : c < 12) (hL : rM μ c L) (ho : okL L) (hnt : nt ≤ 6) (hi : i < nt) (hj : j < L.length) (hT : rT μ 78 79 TK TM nt) (hpf : pct TK TM L = pf)
    (e1 : μ 80 (11 * i + j) = nI (cst pf L.length i j)) (e2 : μ 80 (11 * i + (j + 1)) = nI (cst pf L.length i (j + 1))) (e3 : μ 80 (11 * (i + 1) + j) = nI (cst pf L.length (i + 1) j))
    (h : Q (some (nI (cst pf L.length (i + 1) (j + 1)))) μ) : ab_Cl (d + 1) 113 [.ref 65, .int (nI c), .int (nI (i + 1)), .int (nI (j + 1))] μ Q := by
  have hn := hL.2.1
  obtain ⟨t1, t2, t3, t4⟩ := hT i hi
  have hk : L.length - (j + 1) < L.length := by omega
  obtain ⟨o1, o2, o3⟩ := ho.1 _ hk
  have hm := ms_le hk
  have hs := ho.2
  have ha := adf_le (a := TM i) (b := ms L (L.length - (j + 1))) (m := 9600000) (by omega) (by omega)
  have n10 : ¬ (nI 10 : Int32) = 0 := by decide
  have c1 := cst_le pf L.length i j
  have c2 := cst_le pf L.length i (j + 1)
  have c3 := cst_le pf L.length (i + 1) j
  have eat : 10 * c + L.length - (j + 1) = 10 * c + (L.length - (j + 1)) := by omega
  have ea1 : ∀ z : Nat, 11 * i + (z + 1) - 1 = 11 * i + z := fun z => by omega
  have ea2 : ∀ z : Nat, 11 * (i + 1) + (z + 1) - 1 = 11 * (i + 1) + z := fun z => by omega
  have hm1 : ∀ z : Nat, z + 1 - 1 = z := fun z => rfl
  refine n113 fun J run => run 110 _ _ _ _ ?_
  simp (disch := omega) only [e113_0, e113_2, e113_3, e113_4, e113_5, e113_8, e113_9, e113_10, e113_11, e113_12, e113_13, e113_15, e113_16, e113_19, e113_21, e113_22, e113_23, e113_26, e113_27, e113_28, e113_29, e113_30, e113_31, e113_33, e113_34, e113_37, e113_39, e113_40, e113_41, e113_42, e113_43, e113_44, e113_45, e113_46, e113_47, e113_48, e113_50, e113_53, e113_55, e113_56, e113_59, e113_61, e113_63, e113_64, e113_65, e113_66, e113_69, e113_71, e113_72, e113_73, e113_76, e113_77, e113_78, e113_79, e113_80, e113_83, e113_84, e113_87, e113_89, e113_90, e113_92, e113_93, e113_96, e113_98, e113_99, e113_100, e113_101, e113_102, e113_103, e113_104, e113_105, e113_107, e113_108, e113_110, e113_111, e113_114, e113_116, e113_117, e113_118, e113_119, e113_120, e113_121, e113_122, e113_123, e113_125, e113_126, e113_128, e113_130, e113_132, e113_135, e113_137, e113_140, e113_142, e113_144, e113_146, e113_148, e113_151, e113_153, e113_156, e113_158, ab_li2, true_or, or_true, true_and, and_true, ab_pus, ab_pun, ab_len0, ab_len1, ab_len2, ab_len3, ab_len4, Nat.zero_add, q_in, q_cl, hL.1, l10, l11, q_mu, q_ad, q_su, eat, q_m1, hm1, ea1, ea2, hL.2.2.1 _ hk, hL.2.2.2.1 _ hk, t1, t2, e1, e2, e3, l30, n10, not_false_eq_true]
  have hpv : pf i (L.length - (j + 1)) = adf (TM i) (ms L (L.length - (j + 1))) / 10 + (if TK i = kd L (L.length - (j + 1)) then 0 else 40) := by rw [← hpf]; rfl
  rw [cst_s, hpv] at h
  generalize cst pf L.length (i + 1) j = u at *
  generalize cst pf L.length i (j + 1) = v at *
  generalize cst pf L.length i j = w at *
  generalize ms L (L.length - (j + 1)) = x at *
  generalize kd L (L.length - (j + 1)) = y at *
  have key : ∀ (a : Nat) (k : Nat), a = adf (TM i) x / 10 → k = (if TK i = y then 0 else 40) → ∀ A : Nat, A = w + a + k → (nI (u + 30) ≤ nI (v + 30) → (nI (u + 30) ≤ nI A → Q (some (nI (u + 30))) μ) ∧ (¬ nI (u + 30) ≤ nI A → Q (some (nI A)) μ)) ∧ (¬ nI (u + 30) ≤ nI (v + 30) → (nI (v + 30) ≤ nI A → Q (some (nI (v + 30))) μ) ∧ (¬ nI (v + 30) ≤ nI A → Q (some (nI A)) μ)) := by
    intro a k hA hK A hAA
    have ha2 : a ≤ 960000 := by omega
    have hk2 : k ≤ 40 := by rw [hK]; split <;> omega
    rw [← hA, ← hK, ← Nat.add_assoc, ← hAA] at h
    simp (disch := omega) only [q_le]
    refine ⟨fun g => ⟨fun g2 => ?_, fun g2 => ?_⟩, fun g => ⟨fun g2 => ?_, fun g2 => ?_⟩⟩
    · rw [show min A (min v u + 30) = u + 30 by omega] at h; exact h
    · rw [show min A (min v u + 30) = A by omega] at h; exact h
    · rw [show min A (min v u + 30) = v + 30 by omega] at h; exact h
    · rw [show min A (min v u + 30) = A by omega] at h; exact h
  have ki : ∀ a : Nat, a = adf (TM i) x → ∀ P : Nat → Prop, (∀ k, k = (if TK i = y then 0 else 40) → P (w + a / 10 + k)) → (¬ nI y = nI (TK i) → P (w + a / 10 + 40)) ∧ (¬ ¬ nI y = nI (TK i) → P (w + a / 10 + 0)) := by
    intro a hA P hP
    rw [q_eq (by omega) (by omega)]
    exact ⟨fun g => hP 40 (by rw [if_neg (fun z => g z.symm)]), fun g => hP 0 (by rw [if_pos (Classical.not_not.mp g).symm])⟩
  have hz : (0 ≤ nI x - nI (TM i)) = ¬ x < TM i := by rw [← Int32.not_lt, sub_lt (by omega) (by omega)]
  rw [hz]
  refine ⟨fun g => ?_, fun g => ?_⟩
  · have hA : x - TM i = adf (TM i) x := by unfold adf; split <;> omega
    rw [q_su (by omega)]
    simp (disch := omega) only [q_dv, l40, q_ad, Int32.add_zero]
    exact ki _ hA (fun A => (nI (u + 30) ≤ nI (v + 30) → (nI (u + 30) ≤ nI A → Q (some (nI (u + 30))) μ) ∧ (¬ nI (u + 30) ≤ nI A → Q (some (nI A)) μ)) ∧ (¬ nI (u + 30) ≤ nI (v + 30) → (nI (v + 30) ≤ nI A → Q (some (nI (v + 30))) μ) ∧ (¬ nI (v + 30) ≤ nI A → Q (some (nI A)) μ))) (fun k hk => key _ k (by rw [hA]) hk _ rfl)
  · have hA : TM i - x = adf (TM i) x := by unfold adf; split <;> omega
    rw [neg_sub (by omega)]
    simp (disch := omega) only [q_dv, l40, q_ad, Int32.add_zero]
    exact ki _ hA (fun A => (nI (u + 30) ≤ nI (v + 30) → (nI (u + 30) ≤ nI A → Q (some (nI (u + 30))) μ) ∧ (¬ nI (u + 30) ≤ nI A → Q (some (nI A)) μ)) ∧ (¬ nI (u + 30) ≤ nI (v + 30) → (nI (v + 30) ≤ nI A → Q (some (nI (v + 30))) μ) ∧ (¬ nI (v + 30) ≤ nI A → Q (some (nI A)) μ))) (fun k hk => key _ k (by rw [hA]) hk _ rfl)
end PIU
