def wB (μ : ab_M) (h : Nat) : Int32 := if μ 71 h = -100 then μ 72 h else μ 71 h
def kM (μ μ' : ab_M) (q : Nat) : Prop := ∀ p i, ¬ (66 ≤ p ∧ p ≤ 69) → ¬ (p = 65 ∧ i = q) → μ' p i = μ p i
def bI2 (μ : ab_M) (i : Nat) (ν : ab_M) : Prop := (∀ j, ν 72 j = if j < i then wB μ j else μ 72 j) ∧ ∀ p, p ≠ 72 → ∀ j, ν p j = μ p j
def fI2 (μ : ab_M) (i : Nat) (ν : ab_M) : Prop := (∀ j, ν 70 j = if j < i then -1 else μ 70 j) ∧ (∀ j, ν 71 j = if j < i then -100 else μ 71 j) ∧ ∀ p, p ≠ 70 → p ≠ 71 → ∀ j, ν p j = μ p j
def drfI (f s : Nat) (X : Nat → List ly) : Nat → List ly := if 3 < f then drfL f s X else X
theorem rM_g {ν ν' : ab_M} {c c' q : Nat} {L : List ly} (h : rM ν c L) (hf : gM c' q ν ν') (hne : c ≠ c') : rM ν' c L := by
  obtain ⟨h1, h2, h3, h4, h5⟩ := h
  exact ⟨by rw [hf _ _ (by omega)]; exact h1, h2, fun i hi => by rw [hf _ _ (by omega)]; exact h3 i hi, fun i hi => by rw [hf _ _ (by omega)]; exact h4 i hi, fun i hi => by rw [hf _ _ (by omega)]; exact h5 i hi⟩
theorem aM_o {ν : ab_M} {p i : Nat} {v : Int32} {X : Nat → List ly} (h : aM ν X) (hp : ¬ (66 ≤ p ∧ p ≤ 69)) : aM (ab_up ν p i v) X := fun c hc => rM_e (h c hc) (fun q j hq => ab_ud (by omega))
theorem neg6 {w : Int32} (h1 : -30 ≤ w) (h2 : ¬ 0 < w) : ¬ (0 : Int32) < 6 * w := by
  have a1 := Int32.le_iff_toInt_le.mp h1
  have a2 : ¬ (0 : Int32).toInt < w.toInt := fun z => h2 (Int32.lt_iff_toInt_lt.mpr z)
  have c1 : ((-30 : Int32)).toInt = -30 := by decide
  have c2 : ((0 : Int32)).toInt = 0 := by decide
  have c3 : ((6 : Int32)).toInt = 6 := by decide
  intro z
  have a3 := Int32.lt_iff_toInt_lt.mp z
  rw [Int32.toInt_mul, c2, c3] at a3
  have : (6 * w.toInt).bmod (2 ^ 32) = 6 * w.toInt := by
    apply Int.bmod_eq_of_le <;> omega
  omega
section MDY
variable {d : Nat} {μ : ab_M} {Q : ab_Q} {SN : Nat → Option Nat} {X : Nat → List ly}
theorem C92 {f s : Nat} (hX : aM μ X) (hD : ∀ c, c < 12 → ∃ v, v ≤ 5 ∧ μ 74 c = nI v) (hs : rS μ 70 SN) (hf9 : f ≤ 9) (hs4 : s < 4) (hf : μ 65 9 = nI f) (hsd : μ 65 8 = nI s)
    (o1 : ∀ c, c < 12 → okL (grow (X c))) (o2 : ∀ c, c < 12 → okL (fallL SN X c)) (o3 : ∀ c, c < 12 → okL (drfI f s (fallL SN X) c)) (o4 : ∀ c, c < 12 → okL (cgL (wB μ) (drfI f s (fallL SN X)) c)) (hw : ∀ k, k < 3 → wB μ k ≤ 10 ∧ -30 ≤ wB μ k)
    (h : ∀ ν1 ν2 ν3 ν4 ν5 ν7, jI 74 73 75 μ 12 ν1 → bI2 ν1 3 ν2 → aM ν3 (fallL SN X) → ν3 65 10 = ν2 65 10 + nI (fsum SN 12) → kM ν2 ν3 10 → aM ν4 (drfI f s (fallL SN X)) → kM ν3 ν4 99 → aM ν5 (chgL (wB μ) (drfI f s (fallL SN X))) → ν5 65 11 = ν4 65 11 + nI (msum (wB μ) (drfI f s (fallL SN X)) 12) → kM ν4 ν5 11 → fI2 (ab_up ν5 65 0 (ν5 65 0 + 1)) 3 ν7 → Q none (ab_up ν7 65 9 0)) : ab_Cl (d + 4) 92 [.ref 65] μ Q := by
  refine n92 fun J run => ?_
  have e4 : ¬ (nI 4 = 0) := by decide
  refine run 2 _ _ _ _ ?_
  simp only [e92_0, e92_1, e92_4, e92_5, e92_6, e92_7, e92_8, e92_11, e92_12, e92_15, e92_16, e92_17, e92_19, e92_22, e92_23, e92_26, e92_27, e92_28, e92_31, e92_32, e92_33, e92_34, e92_37, e92_40, e92_41, e92_42, e92_43, e92_45, e92_48, e92_50, e92_51, e92_52, e92_53, e92_54, e92_56, e92_57, e92_58, e92_59, e92_62, e92_63, e92_64, e92_65, e92_68, e92_69, e92_72, e92_73, e92_74, e92_75, e92_76, e92_77, e92_78, e92_81, e92_84, e92_86, e92_87, e92_88, e92_89, e92_90, e92_93, e92_94, e92_95, e92_96, e92_99, e92_102, e92_103, e92_104, e92_105, e92_108, e92_109i, e92_109r, e92_110, e92_113, e92_114, e92_115, e92_118, e92_121, e92_124, e92_125, e92_126, e92_127, e92_128, e92_131, e92_132, e92_135, e92_136, e92_139, e92_140, e92_141, e92_142, e92_143, e92_144, e92_147, e92_148, e92_149, e92_150, e92_151, e92_152, e92_155, e92_156, e92_157, e92_158, e92_159, e92_160, e92_163, e92_166, e92_169, e92_170, e92_171, e92_172, e92_174, e92_177, e92_178, e92_179, e92_182, e92_183, e92_184, e92_187, e92_190, e92_193, e92_194i, e92_194r, e92_195, e92_198, e92_199, e92_200, e92_203, e92_204, e92_205, e92_206, e92_207, e92_210, e92_211, e92_214, e92_215, e92_216, e92_217, e92_218, e92_221, e92_222, e92_224, e92_225, e92_228, e92_231, e92_232, e92_233, e92_236, ab_li2, true_or, or_true, true_and, and_true, ab_pus, ab_pun, ab_len0, ab_len1, ab_len2, ab_len3, ab_len4, Nat.zero_add, ab_rn0]
  refine C91 hD (fun ν1 j1 => ?_)
  simp only [e92_0, e92_1, e92_4, e92_5, e92_6, e92_7, e92_8, e92_11, e92_12, e92_15, e92_16, e92_17, e92_19, e92_22, e92_23, e92_26, e92_27, e92_28, e92_31, e92_32, e92_33, e92_34, e92_37, e92_40, e92_41, e92_42, e92_43, e92_45, e92_48, e92_50, e92_51, e92_52, e92_53, e92_54, e92_56, e92_57, e92_58, e92_59, e92_62, e92_63, e92_64, e92_65, e92_68, e92_69, e92_72, e92_73, e92_74, e92_75, e92_76, e92_77, e92_78, e92_81, e92_84, e92_86, e92_87, e92_88, e92_89, e92_90, e92_93, e92_94, e92_95, e92_96, e92_99, e92_102, e92_103, e92_104, e92_105, e92_108, e92_109i, e92_109r, e92_110, e92_113, e92_114, e92_115, e92_118, e92_121, e92_124, e92_125, e92_126, e92_127, e92_128, e92_131, e92_132, e92_135, e92_136, e92_139, e92_140, e92_141, e92_142, e92_143, e92_144, e92_147, e92_148, e92_149, e92_150, e92_151, e92_152, e92_155, e92_156, e92_157, e92_158, e92_159, e92_160, e92_163, e92_166, e92_169, e92_170, e92_171, e92_172, e92_174, e92_177, e92_178, e92_179, e92_182, e92_183, e92_184, e92_187, e92_190, e92_193, e92_194i, e92_194r, e92_195, e92_198, e92_199, e92_200, e92_203, e92_204, e92_205, e92_206, e92_207, e92_210, e92_211, e92_214, e92_215, e92_216, e92_217, e92_218, e92_221, e92_222, e92_224, e92_225, e92_228, e92_231, e92_232, e92_233, e92_236, ab_li2, true_or, or_true, true_and, and_true, ab_pus, ab_pun, ab_len0, ab_len1, ab_len2, ab_len3, ab_len4, Nat.zero_add, ab_rn0]
  -- what ν1 keeps
  have k1 : ∀ p, ¬ (73 ≤ p ∧ p ≤ 75) → ∀ j, ν1 p j = μ p j := fun p hp j => j1.2.2.2 p (by omega) (by omega) (by omega) j
  have wB1 : ∀ j, wB ν1 j = wB μ j := fun j => by unfold wB; rw [k1 71 (by decide), k1 72 (by decide)]
  -- the last loop
  have loopF : ∀ ν6, (∀ ν7, fI2 ν6 3 ν7 → Q none (ab_up ν7 65 9 0)) → ∀ g i ν x, 3 - i ≤ g → i ≤ 3 → fI2 ν6 i ν → J 205 ν [.ref 65, .int (nI i), x] [] := by
    intro ν6 h6 g
    induction g with
    | zero =>
      intro i ν x h1 h2 h3
      obtain rfl : i = 3 := by omega
      refine run 20 _ _ _ _ ?_
      simp (disch := omega) only [e92_0, e92_1, e92_4, e92_5, e92_6, e92_7, e92_8, e92_11, e92_12, e92_15, e92_16, e92_17, e92_19, e92_22, e92_23, e92_26, e92_27, e92_28, e92_31, e92_32, e92_33, e92_34, e92_37, e92_40, e92_41, e92_42, e92_43, e92_45, e92_48, e92_50, e92_51, e92_52, e92_53, e92_54, e92_56, e92_57, e92_58, e92_59, e92_62, e92_63, e92_64, e92_65, e92_68, e92_69, e92_72, e92_73, e92_74, e92_75, e92_76, e92_77, e92_78, e92_81, e92_84, e92_86, e92_87, e92_88, e92_89, e92_90, e92_93, e92_94, e92_95, e92_96, e92_99, e92_102, e92_103, e92_104, e92_105, e92_108, e92_109i, e92_109r, e92_110, e92_113, e92_114, e92_115, e92_118, e92_121, e92_124, e92_125, e92_126, e92_127, e92_128, e92_131, e92_132, e92_135, e92_136, e92_139, e92_140, e92_141, e92_142, e92_143, e92_144, e92_147, e92_148, e92_149, e92_150, e92_151, e92_152, e92_155, e92_156, e92_157, e92_158, e92_159, e92_160, e92_163, e92_166, e92_169, e92_170, e92_171, e92_172, e92_174, e92_177, e92_178, e92_179, e92_182, e92_183, e92_184, e92_187, e92_190, e92_193, e92_194i, e92_194r, e92_195, e92_198, e92_199, e92_200, e92_203, e92_204, e92_205, e92_206, e92_207, e92_210, e92_211, e92_214, e92_215, e92_216, e92_217, e92_218, e92_221, e92_222, e92_224, e92_225, e92_228, e92_231, e92_232, e92_233, e92_236, ab_li2, true_or, or_true, true_and, and_true, ab_pus, ab_pun, ab_len0, ab_len1, ab_len2, ab_len3, ab_len4, Nat.zero_add, l3, q_le, Nat.le_refl, true_imp_iff, not_true_eq_false, false_imp_iff]
      exact h6 ν h3
    | succ g ih =>
      intro i ν x h1 h2 h3
      by_cases hi : i = 3
      · exact ih i ν x (by omega) h2 h3
      · refine run 40 _ _ _ _ ?_
        simp (disch := omega) only [e92_0, e92_1, e92_4, e92_5, e92_6, e92_7, e92_8, e92_11, e92_12, e92_15, e92_16, e92_17, e92_19, e92_22, e92_23, e92_26, e92_27, e92_28, e92_31, e92_32, e92_33, e92_34, e92_37, e92_40, e92_41, e92_42, e92_43, e92_45, e92_48, e92_50, e92_51, e92_52, e92_53, e92_54, e92_56, e92_57, e92_58, e92_59, e92_62, e92_63, e92_64, e92_65, e92_68, e92_69, e92_72, e92_73, e92_74, e92_75, e92_76, e92_77, e92_78, e92_81, e92_84, e92_86, e92_87, e92_88, e92_89, e92_90, e92_93, e92_94, e92_95, e92_96, e92_99, e92_102, e92_103, e92_104, e92_105, e92_108, e92_109i, e92_109r, e92_110, e92_113, e92_114, e92_115, e92_118, e92_121, e92_124, e92_125, e92_126, e92_127, e92_128, e92_131, e92_132, e92_135, e92_136, e92_139, e92_140, e92_141, e92_142, e92_143, e92_144, e92_147, e92_148, e92_149, e92_150, e92_151, e92_152, e92_155, e92_156, e92_157, e92_158, e92_159, e92_160, e92_163, e92_166, e92_169, e92_170, e92_171, e92_172, e92_174, e92_177, e92_178, e92_179, e92_182, e92_183, e92_184, e92_187, e92_190, e92_193, e92_194i, e92_194r, e92_195, e92_198, e92_199, e92_200, e92_203, e92_204, e92_205, e92_206, e92_207, e92_210, e92_211, e92_214, e92_215, e92_216, e92_217, e92_218, e92_221, e92_222, e92_224, e92_225, e92_228, e92_231, e92_232, e92_233, e92_236, ab_li2, true_or, or_true, true_and, and_true, ab_pus, ab_pun, ab_len0, ab_len1, ab_len2, ab_len3, ab_len4, Nat.zero_add, l3, q_le, q_in, q_cl, q_p1]
        refine ⟨fun z => absurd z (by omega), fun _ => ?_⟩
        obtain ⟨g1, g2, g3⟩ := h3
        refine ih (i + 1) _ _ (by omega) (by omega) ⟨fun j => ?_, fun j => ?_, fun p p1 p2 j => ?_⟩
        · rw [ab_ud (by decide)]
          by_cases e : j = i
          · subst e; rw [ab_up_eq, if_pos (by omega)]
          · rw [ab_uo e, g1]; split <;> split <;> first | rfl | omega
        · by_cases e : j = i
          · subst e; rw [ab_up_eq, if_pos (by omega)]
          · rw [ab_uo e, ab_ud (by decide), g2]; split <;> split <;> first | rfl | omega
        · rw [ab_ud p2, ab_ud p1, g3 p p1 p2]
  -- ages and melting
  have loopE : ∀ ν2 ν3 ν4, bI2 ν1 3 ν2 → aM ν3 (fallL SN X) → ν3 65 10 = ν2 65 10 + nI (fsum SN 12) → kM ν2 ν3 10 → aM ν4 (drfI f s (fallL SN X)) → kM ν3 ν4 99 → ∀ g i ν x, 12 - i ≤ g → i ≤ 12 → aM ν (fun c => if c < i then chgL (wB μ) (drfI f s (fallL SN X)) c else drfI f s (fallL SN X) c) → ν 65 11 = ν4 65 11 + nI (msum (wB μ) (drfI f s (fallL SN X)) i) → kM ν4 ν 11 → J 171 ν [.ref 65, .int (nI i), x] [] := by
    intro ν2 ν3 ν4 a1 a2 a3 a4 a5 a6 g
    induction g with
    | zero =>
      intro i ν x h1 h2 h3 h4 h5
      obtain rfl : i = 12 := by omega
      refine run 11 _ _ _ _ ?_
      simp (disch := omega) only [e92_0, e92_1, e92_4, e92_5, e92_6, e92_7, e92_8, e92_11, e92_12, e92_15, e92_16, e92_17, e92_19, e92_22, e92_23, e92_26, e92_27, e92_28, e92_31, e92_32, e92_33, e92_34, e92_37, e92_40, e92_41, e92_42, e92_43, e92_45, e92_48, e92_50, e92_51, e92_52, e92_53, e92_54, e92_56, e92_57, e92_58, e92_59, e92_62, e92_63, e92_64, e92_65, e92_68, e92_69, e92_72, e92_73, e92_74, e92_75, e92_76, e92_77, e92_78, e92_81, e92_84, e92_86, e92_87, e92_88, e92_89, e92_90, e92_93, e92_94, e92_95, e92_96, e92_99, e92_102, e92_103, e92_104, e92_105, e92_108, e92_109i, e92_109r, e92_110, e92_113, e92_114, e92_115, e92_118, e92_121, e92_124, e92_125, e92_126, e92_127, e92_128, e92_131, e92_132, e92_135, e92_136, e92_139, e92_140, e92_141, e92_142, e92_143, e92_144, e92_147, e92_148, e92_149, e92_150, e92_151, e92_152, e92_155, e92_156, e92_157, e92_158, e92_159, e92_160, e92_163, e92_166, e92_169, e92_170, e92_171, e92_172, e92_174, e92_177, e92_178, e92_179, e92_182, e92_183, e92_184, e92_187, e92_190, e92_193, e92_194i, e92_194r, e92_195, e92_198, e92_199, e92_200, e92_203, e92_204, e92_205, e92_206, e92_207, e92_210, e92_211, e92_214, e92_215, e92_216, e92_217, e92_218, e92_221, e92_222, e92_224, e92_225, e92_228, e92_231, e92_232, e92_233, e92_236, ab_li2, true_or, or_true, true_and, and_true, ab_pus, ab_pun, ab_len0, ab_len1, ab_len2, ab_len3, ab_len4, Nat.zero_add, ab_rn0, l12, q_le, Nat.le_refl, true_imp_iff, not_true_eq_false, false_imp_iff]
      exact loopF _ (fun ν7 f7 => h ν1 ν2 ν3 ν4 ν ν7 j1 a1 a2 a3 a4 a5 a6 (aM_c h3 (fun c hc => if_pos hc)) h4 h5 f7) 3 0 _ _ (by decide) (by decide) ⟨fun j => by simp, fun j => by simp, fun _ _ _ _ => rfl⟩
    | succ g ih =>
      intro i ν x h1 h2 h3 h4 h5
      by_cases hi : i = 12
      · exact ih i ν x (by omega) h2 h3 h4 h5
      · have hi2 : i < 12 := by omega
        have hi4 : i / 4 < 3 := by omega
        have hXi := h3 i hi2
        simp only [Nat.lt_irrefl, if_false] at hXi
        have w72 : ν 72 (i / 4) = wB μ (i / 4) := by
          rw [h5 72 _ (by omega) (by omega), a6 72 _ (by omega) (by omega), a4 72 _ (by omega) (by omega), a1.1 _, if_pos hi4, wB1]
        refine run 40 _ _ _ _ ?_
        simp (disch := omega) only [e92_0, e92_1, e92_4, e92_5, e92_6, e92_7, e92_8, e92_11, e92_12, e92_15, e92_16, e92_17, e92_19, e92_22, e92_23, e92_26, e92_27, e92_28, e92_31, e92_32, e92_33, e92_34, e92_37, e92_40, e92_41, e92_42, e92_43, e92_45, e92_48, e92_50, e92_51, e92_52, e92_53, e92_54, e92_56, e92_57, e92_58, e92_59, e92_62, e92_63, e92_64, e92_65, e92_68, e92_69, e92_72, e92_73, e92_74, e92_75, e92_76, e92_77, e92_78, e92_81, e92_84, e92_86, e92_87, e92_88, e92_89, e92_90, e92_93, e92_94, e92_95, e92_96, e92_99, e92_102, e92_103, e92_104, e92_105, e92_108, e92_109i, e92_109r, e92_110, e92_113, e92_114, e92_115, e92_118, e92_121, e92_124, e92_125, e92_126, e92_127, e92_128, e92_131, e92_132, e92_135, e92_136, e92_139, e92_140, e92_141, e92_142, e92_143, e92_144, e92_147, e92_148, e92_149, e92_150, e92_151, e92_152, e92_155, e92_156, e92_157, e92_158, e92_159, e92_160, e92_163, e92_166, e92_169, e92_170, e92_171, e92_172, e92_174, e92_177, e92_178, e92_179, e92_182, e92_183, e92_184, e92_187, e92_190, e92_193, e92_194i, e92_194r, e92_195, e92_198, e92_199, e92_200, e92_203, e92_204, e92_205, e92_206, e92_207, e92_210, e92_211, e92_214, e92_215, e92_216, e92_217, e92_218, e92_221, e92_222, e92_224, e92_225, e92_228, e92_231, e92_232, e92_233, e92_236, ab_li2, true_or, or_true, true_and, and_true, ab_pus, ab_pun, ab_len0, ab_len1, ab_len2, ab_len3, ab_len4, Nat.zero_add, l12, q_le]
        refine ⟨fun z => absurd z (by omega), fun _ => ?_⟩
        refine C89 hi2 hXi (o3 i hi2) (fun ρ r1 f1 => ?_)
        rw [w72] at r1
        simp only [e92_0, e92_1, e92_4, e92_5, e92_6, e92_7, e92_8, e92_11, e92_12, e92_15, e92_16, e92_17, e92_19, e92_22, e92_23, e92_26, e92_27, e92_28, e92_31, e92_32, e92_33, e92_34, e92_37, e92_40, e92_41, e92_42, e92_43, e92_45, e92_48, e92_50, e92_51, e92_52, e92_53, e92_54, e92_56, e92_57, e92_58, e92_59, e92_62, e92_63, e92_64, e92_65, e92_68, e92_69, e92_72, e92_73, e92_74, e92_75, e92_76, e92_77, e92_78, e92_81, e92_84, e92_86, e92_87, e92_88, e92_89, e92_90, e92_93, e92_94, e92_95, e92_96, e92_99, e92_102, e92_103, e92_104, e92_105, e92_108, e92_109i, e92_109r, e92_110, e92_113, e92_114, e92_115, e92_118, e92_121, e92_124, e92_125, e92_126, e92_127, e92_128, e92_131, e92_132, e92_135, e92_136, e92_139, e92_140, e92_141, e92_142, e92_143, e92_144, e92_147, e92_148, e92_149, e92_150, e92_151, e92_152, e92_155, e92_156, e92_157, e92_158, e92_159, e92_160, e92_163, e92_166, e92_169, e92_170, e92_171, e92_172, e92_174, e92_177, e92_178, e92_179, e92_182, e92_183, e92_184, e92_187, e92_190, e92_193, e92_194i, e92_194r, e92_195, e92_198, e92_199, e92_200, e92_203, e92_204, e92_205, e92_206, e92_207, e92_210, e92_211, e92_214, e92_215, e92_216, e92_217, e92_218, e92_221, e92_222, e92_224, e92_225, e92_228, e92_231, e92_232, e92_233, e92_236, ab_li2, true_or, or_true, true_and, and_true, ab_pus, ab_pun, ab_len0, ab_len1, ab_len2, ab_len3, ab_len4, Nat.zero_add]
        have w72r : ρ 72 (i / 4) = wB μ (i / 4) := by rw [f1 72 _ (by omega)]; exact w72
        have nxt : ∀ τ, rM τ i (chgL (wB μ) (drfI f s (fallL SN X)) i) → τ 65 11 = ρ 65 11 + nI (mlV (wB μ (i / 4)) (cgL (wB μ) (drfI f s (fallL SN X)) i)) → gM i 11 ρ τ → J 171 τ [.ref 65, .int (nI (i + 1)), x] [] := by
          intro τ r2 r3 f2
          refine ih (i + 1) τ x (by omega) (by omega) ?_ ?_ ?_
          · intro c hc
            dsimp only
            by_cases e : c = i
            · subst e; rw [if_pos (by omega)]; exact r2
            · have := rM_g (rM_fr (h3 c hc) f1 e) f2 e
              dsimp only at this
              by_cases e2 : c < i
              · rw [if_pos e2] at this; rw [if_pos (by omega)]; exact this
              · rw [if_neg e2] at this; rw [if_neg (by omega)]; exact this
          · rw [r3, f1 65 11 (by omega), h4, Int32.add_assoc, q_ad]
            rfl
          · intro p j p1 p2
            rw [f2 p j (by omega), f1 p j (by omega), h5 p j p1 p2]
        by_cases hp : 0 < wB μ (i / 4)
        · obtain ⟨gg, g0, g10, eg⟩ := pos_nI hp (hw _ hi4).1
          have eL : chgL (wB μ) (drfI f s (fallL SN X)) i = mlt (6 * gg) (cgL (wB μ) (drfI f s (fallL SN X)) i) := by
            unfold chgL mlW
            rw [if_pos hp, eg, q_cl (by omega)]
          have eV : mlV (wB μ (i / 4)) (cgL (wB μ) (drfI f s (fallL SN X)) i) = mlA (6 * gg) (cgL (wB μ) (drfI f s (fallL SN X)) i) := by
            unfold mlV
            rw [if_pos hp, eg, q_cl (by omega)]
          refine C90 hi2 r1 (o4 i hi2) g0 g10 (by rw [w72r]; exact eg) (fun τ r2 r3 f2 => ?_)
          simp only [e92_0, e92_1, e92_4, e92_5, e92_6, e92_7, e92_8, e92_11, e92_12, e92_15, e92_16, e92_17, e92_19, e92_22, e92_23, e92_26, e92_27, e92_28, e92_31, e92_32, e92_33, e92_34, e92_37, e92_40, e92_41, e92_42, e92_43, e92_45, e92_48, e92_50, e92_51, e92_52, e92_53, e92_54, e92_56, e92_57, e92_58, e92_59, e92_62, e92_63, e92_64, e92_65, e92_68, e92_69, e92_72, e92_73, e92_74, e92_75, e92_76, e92_77, e92_78, e92_81, e92_84, e92_86, e92_87, e92_88, e92_89, e92_90, e92_93, e92_94, e92_95, e92_96, e92_99, e92_102, e92_103, e92_104, e92_105, e92_108, e92_109i, e92_109r, e92_110, e92_113, e92_114, e92_115, e92_118, e92_121, e92_124, e92_125, e92_126, e92_127, e92_128, e92_131, e92_132, e92_135, e92_136, e92_139, e92_140, e92_141, e92_142, e92_143, e92_144, e92_147, e92_148, e92_149, e92_150, e92_151, e92_152, e92_155, e92_156, e92_157, e92_158, e92_159, e92_160, e92_163, e92_166, e92_169, e92_170, e92_171, e92_172, e92_174, e92_177, e92_178, e92_179, e92_182, e92_183, e92_184, e92_187, e92_190, e92_193, e92_194i, e92_194r, e92_195, e92_198, e92_199, e92_200, e92_203, e92_204, e92_205, e92_206, e92_207, e92_210, e92_211, e92_214, e92_215, e92_216, e92_217, e92_218, e92_221, e92_222, e92_224, e92_225, e92_228, e92_231, e92_232, e92_233, e92_236, ab_li2, true_or, or_true, true_and, and_true, ab_pus, ab_pun, ab_len0, ab_len1, ab_len2, ab_len3, ab_len4, Nat.zero_add, q_p1]
          exact nxt τ (by rw [eL]; exact r2) (by rw [eV]; exact r3) f2
        · have eL : chgL (wB μ) (drfI f s (fallL SN X)) i = cgL (wB μ) (drfI f s (fallL SN X)) i := by
            unfold chgL mlW
            rw [if_neg hp]
          have eV : mlV (wB μ (i / 4)) (cgL (wB μ) (drfI f s (fallL SN X)) i) = 0 := by
            unfold mlV
            rw [if_neg hp]
          refine C90z hi2 (by rw [w72r]; exact neg6 (hw _ hi4).2 hp) ?_
          simp only [e92_0, e92_1, e92_4, e92_5, e92_6, e92_7, e92_8, e92_11, e92_12, e92_15, e92_16, e92_17, e92_19, e92_22, e92_23, e92_26, e92_27, e92_28, e92_31, e92_32, e92_33, e92_34, e92_37, e92_40, e92_41, e92_42, e92_43, e92_45, e92_48, e92_50, e92_51, e92_52, e92_53, e92_54, e92_56, e92_57, e92_58, e92_59, e92_62, e92_63, e92_64, e92_65, e92_68, e92_69, e92_72, e92_73, e92_74, e92_75, e92_76, e92_77, e92_78, e92_81, e92_84, e92_86, e92_87, e92_88, e92_89, e92_90, e92_93, e92_94, e92_95, e92_96, e92_99, e92_102, e92_103, e92_104, e92_105, e92_108, e92_109i, e92_109r, e92_110, e92_113, e92_114, e92_115, e92_118, e92_121, e92_124, e92_125, e92_126, e92_127, e92_128, e92_131, e92_132, e92_135, e92_136, e92_139, e92_140, e92_141, e92_142, e92_143, e92_144, e92_147, e92_148, e92_149, e92_150, e92_151, e92_152, e92_155, e92_156, e92_157, e92_158, e92_159, e92_160, e92_163, e92_166, e92_169, e92_170, e92_171, e92_172, e92_174, e92_177, e92_178, e92_179, e92_182, e92_183, e92_184, e92_187, e92_190, e92_193, e92_194i, e92_194r, e92_195, e92_198, e92_199, e92_200, e92_203, e92_204, e92_205, e92_206, e92_207, e92_210, e92_211, e92_214, e92_215, e92_216, e92_217, e92_218, e92_221, e92_222, e92_224, e92_225, e92_228, e92_231, e92_232, e92_233, e92_236, ab_li2, true_or, or_true, true_and, and_true, ab_pus, ab_pun, ab_len0, ab_len1, ab_len2, ab_len3, ab_len4, Nat.zero_add, q_p1]
          exact nxt ρ (by rw [eL]; exact r1) (by rw [eV, show nI 0 = 0 from rfl, Int32.add_zero]) gM_rf
  have loopD : ∀ ν2 ν3, bI2 ν1 3 ν2 → aM ν3 (fallL SN X) → ν3 65 10 = ν2 65 10 + nI (fsum SN 12) → kM ν2 ν3 10 → ∀ g i ν x, 3 - i ≤ g → i ≤ 3 → (3 < f → aM ν (fun c => if c / 4 < i then drfL f s (fallL SN X) c else fallL SN X c)) → (¬ 3 < f → aM ν (fallL SN X)) → kM ν3 ν 99 → J 126 ν [.ref 65, .int (nI i), x] [] := by
    intro ν2 ν3 a1 a2 a3 a4 g
    have go : ∀ ν x, aM ν (drfI f s (fallL SN X)) → kM ν3 ν 99 → J 171 ν [.ref 65, .int 0, x] [] := fun ν x b1 b2 =>
      loopE ν2 ν3 ν a1 a2 a3 a4 b1 b2 12 0 ν x (by decide) (by decide) (aM_c b1 (fun c hc => (if_neg (by omega)).symm)) (by rw [show nI (msum (wB μ) (drfI f s (fallL SN X)) 0) = 0 from rfl, Int32.add_zero]) (fun _ _ _ _ => rfl)
    have ff : ∀ ν, kM ν3 ν 99 → ν 65 9 = nI f := fun ν b => by rw [b 65 9 (by omega) (by omega), a4 65 9 (by omega) (by omega), a1.2 65 (by decide), k1 65 (by decide), hf]
    have ss : ∀ ν, kM ν3 ν 99 → ν 65 8 = nI s := fun ν b => by rw [b 65 8 (by omega) (by omega), a4 65 8 (by omega) (by omega), a1.2 65 (by decide), k1 65 (by decide), hsd]
    induction g with
    | zero =>
      intro i ν x h1 h2 h3 h4 h5
      obtain rfl : i = 3 := by omega
      refine run 5 _ _ _ _ ?_
      simp (disch := omega) only [e92_0, e92_1, e92_4, e92_5, e92_6, e92_7, e92_8, e92_11, e92_12, e92_15, e92_16, e92_17, e92_19, e92_22, e92_23, e92_26, e92_27, e92_28, e92_31, e92_32, e92_33, e92_34, e92_37, e92_40, e92_41, e92_42, e92_43, e92_45, e92_48, e92_50, e92_51, e92_52, e92_53, e92_54, e92_56, e92_57, e92_58, e92_59, e92_62, e92_63, e92_64, e92_65, e92_68, e92_69, e92_72, e92_73, e92_74, e92_75, e92_76, e92_77, e92_78, e92_81, e92_84, e92_86, e92_87, e92_88, e92_89, e92_90, e92_93, e92_94, e92_95, e92_96, e92_99, e92_102, e92_103, e92_104, e92_105, e92_108, e92_109i, e92_109r, e92_110, e92_113, e92_114, e92_115, e92_118, e92_121, e92_124, e92_125, e92_126, e92_127, e92_128, e92_131, e92_132, e92_135, e92_136, e92_139, e92_140, e92_141, e92_142, e92_143, e92_144, e92_147, e92_148, e92_149, e92_150, e92_151, e92_152, e92_155, e92_156, e92_157, e92_158, e92_159, e92_160, e92_163, e92_166, e92_169, e92_170, e92_171, e92_172, e92_174, e92_177, e92_178, e92_179, e92_182, e92_183, e92_184, e92_187, e92_190, e92_193, e92_194i, e92_194r, e92_195, e92_198, e92_199, e92_200, e92_203, e92_204, e92_205, e92_206, e92_207, e92_210, e92_211, e92_214, e92_215, e92_216, e92_217, e92_218, e92_221, e92_222, e92_224, e92_225, e92_228, e92_231, e92_232, e92_233, e92_236, ab_li2, true_or, or_true, true_and, and_true, ab_pus, ab_pun, ab_len0, ab_len1, ab_len2, ab_len3, ab_len4, Nat.zero_add, ab_rn0, l3, q_le, Nat.le_refl, true_imp_iff, not_true_eq_false, false_imp_iff]
      refine go ν _ ?_ h5
      unfold drfI
      by_cases hf3 : 3 < f
      · rw [if_pos hf3]; exact aM_c (h3 hf3) (fun c hc => if_pos (by omega))
      · rw [if_neg hf3]; exact h4 hf3
    | succ g ih =>
      intro i ν x h1 h2 h3 h4 h5
      by_cases hi : i = 3
      · exact ih i ν x (by omega) h2 h3 h4 h5
      · by_cases hf3 : 3 < f
        · have hi3 : i < 3 := by omega
          have ha : 4 * i + s < 12 := by omega
          have hb : 4 * i + (s + 2) % 4 < 12 := by omega
          have hab : 4 * i + s ≠ 4 * i + (s + 2) % 4 := by omega
          have h3 := h3 hf3
          have hXa := h3 (4 * i + s) ha
          simp only [show ¬ (4 * i + s) / 4 < i by omega, if_false] at hXa
          have hXb := h3 (4 * i + (s + 2) % 4) hb
          simp only [show ¬ (4 * i + (s + 2) % 4) / 4 < i by omega, if_false] at hXb
          refine run 60 _ _ _ _ ?_
          have hnf : ¬ f ≤ 3 := by omega
          simp (disch := omega) only [e92_0, e92_1, e92_4, e92_5, e92_6, e92_7, e92_8, e92_11, e92_12, e92_15, e92_16, e92_17, e92_19, e92_22, e92_23, e92_26, e92_27, e92_28, e92_31, e92_32, e92_33, e92_34, e92_37, e92_40, e92_41, e92_42, e92_43, e92_45, e92_48, e92_50, e92_51, e92_52, e92_53, e92_54, e92_56, e92_57, e92_58, e92_59, e92_62, e92_63, e92_64, e92_65, e92_68, e92_69, e92_72, e92_73, e92_74, e92_75, e92_76, e92_77, e92_78, e92_81, e92_84, e92_86, e92_87, e92_88, e92_89, e92_90, e92_93, e92_94, e92_95, e92_96, e92_99, e92_102, e92_103, e92_104, e92_105, e92_108, e92_109i, e92_109r, e92_110, e92_113, e92_114, e92_115, e92_118, e92_121, e92_124, e92_125, e92_126, e92_127, e92_128, e92_131, e92_132, e92_135, e92_136, e92_139, e92_140, e92_141, e92_142, e92_143, e92_144, e92_147, e92_148, e92_149, e92_150, e92_151, e92_152, e92_155, e92_156, e92_157, e92_158, e92_159, e92_160, e92_163, e92_166, e92_169, e92_170, e92_171, e92_172, e92_174, e92_177, e92_178, e92_179, e92_182, e92_183, e92_184, e92_187, e92_190, e92_193, e92_194i, e92_194r, e92_195, e92_198, e92_199, e92_200, e92_203, e92_204, e92_205, e92_206, e92_207, e92_210, e92_211, e92_214, e92_215, e92_216, e92_217, e92_218, e92_221, e92_222, e92_224, e92_225, e92_228, e92_231, e92_232, e92_233, e92_236, ab_li2, true_or, or_true, true_and, and_true, ab_pus, ab_pun, ab_len0, ab_len1, ab_len2, ab_len3, ab_len4, Nat.zero_add, l3, q_le, ff ν h5, ss ν h5, l4, l2, q_mu, q_ad, e4, rem4, hnf, false_imp_iff, not_false_eq_true, true_imp_iff]
          refine ⟨fun z => absurd z (by omega), fun _ => ?_⟩
          refine C88 ha hb hab hXa (o2 _ ha) hXb (o2 _ hb) hf9 (ff ν h5) (fun τ r1 r2 ⟨ρ, f1, f2⟩ => ?_)
          simp only [e92_0, e92_1, e92_4, e92_5, e92_6, e92_7, e92_8, e92_11, e92_12, e92_15, e92_16, e92_17, e92_19, e92_22, e92_23, e92_26, e92_27, e92_28, e92_31, e92_32, e92_33, e92_34, e92_37, e92_40, e92_41, e92_42, e92_43, e92_45, e92_48, e92_50, e92_51, e92_52, e92_53, e92_54, e92_56, e92_57, e92_58, e92_59, e92_62, e92_63, e92_64, e92_65, e92_68, e92_69, e92_72, e92_73, e92_74, e92_75, e92_76, e92_77, e92_78, e92_81, e92_84, e92_86, e92_87, e92_88, e92_89, e92_90, e92_93, e92_94, e92_95, e92_96, e92_99, e92_102, e92_103, e92_104, e92_105, e92_108, e92_109i, e92_109r, e92_110, e92_113, e92_114, e92_115, e92_118, e92_121, e92_124, e92_125, e92_126, e92_127, e92_128, e92_131, e92_132, e92_135, e92_136, e92_139, e92_140, e92_141, e92_142, e92_143, e92_144, e92_147, e92_148, e92_149, e92_150, e92_151, e92_152, e92_155, e92_156, e92_157, e92_158, e92_159, e92_160, e92_163, e92_166, e92_169, e92_170, e92_171, e92_172, e92_174, e92_177, e92_178, e92_179, e92_182, e92_183, e92_184, e92_187, e92_190, e92_193, e92_194i, e92_194r, e92_195, e92_198, e92_199, e92_200, e92_203, e92_204, e92_205, e92_206, e92_207, e92_210, e92_211, e92_214, e92_215, e92_216, e92_217, e92_218, e92_221, e92_222, e92_224, e92_225, e92_228, e92_231, e92_232, e92_233, e92_236, ab_li2, true_or, or_true, true_and, and_true, ab_pus, ab_pun, ab_len0, ab_len1, ab_len2, ab_len3, ab_len4, Nat.zero_add, q_p1]
          refine ih (i + 1) τ _ (by omega) (by omega) (fun _ => ?_) (fun z => absurd hf3 z) ?_
          · intro c hc
            dsimp only
            by_cases e : c = 4 * i + (s + 2) % 4
            · subst e
              rw [if_pos (by omega)]
              unfold drfL
              rw [if_neg (by omega), if_pos (by omega), show (4 * i + (s + 2) % 4) / 4 = i by omega]
              exact r2
            · by_cases e1 : c = 4 * i + s
              · subst e1
                rw [if_pos (by omega)]
                unfold drfL
                rw [if_pos (by omega)]
                exact r1
              · have := rM_fr (rM_fr (h3 c hc) f1 e1) f2 e
                dsimp only at this
                by_cases e2 : c / 4 < i
                · rw [if_pos e2] at this; rw [if_pos (by omega)]; exact this
                · rw [if_neg e2] at this
                  by_cases e3 : c / 4 < i + 1
                  · rw [if_pos e3]
                    unfold drfL
                    rw [if_neg (by omega), if_neg (by omega)]
                    exact this
                  · rw [if_neg e3]; exact this
          · intro p j p1 p2
            rw [f2 p j (by omega), f1 p j (by omega), h5 p j p1 p2]
        · refine run 9 _ _ _ _ ?_
          have hf3' : f ≤ 3 := by omega
          have hi3 : ¬ 3 ≤ i := by omega
          simp (disch := omega) only [e92_0, e92_1, e92_4, e92_5, e92_6, e92_7, e92_8, e92_11, e92_12, e92_15, e92_16, e92_17, e92_19, e92_22, e92_23, e92_26, e92_27, e92_28, e92_31, e92_32, e92_33, e92_34, e92_37, e92_40, e92_41, e92_42, e92_43, e92_45, e92_48, e92_50, e92_51, e92_52, e92_53, e92_54, e92_56, e92_57, e92_58, e92_59, e92_62, e92_63, e92_64, e92_65, e92_68, e92_69, e92_72, e92_73, e92_74, e92_75, e92_76, e92_77, e92_78, e92_81, e92_84, e92_86, e92_87, e92_88, e92_89, e92_90, e92_93, e92_94, e92_95, e92_96, e92_99, e92_102, e92_103, e92_104, e92_105, e92_108, e92_109i, e92_109r, e92_110, e92_113, e92_114, e92_115, e92_118, e92_121, e92_124, e92_125, e92_126, e92_127, e92_128, e92_131, e92_132, e92_135, e92_136, e92_139, e92_140, e92_141, e92_142, e92_143, e92_144, e92_147, e92_148, e92_149, e92_150, e92_151, e92_152, e92_155, e92_156, e92_157, e92_158, e92_159, e92_160, e92_163, e92_166, e92_169, e92_170, e92_171, e92_172, e92_174, e92_177, e92_178, e92_179, e92_182, e92_183, e92_184, e92_187, e92_190, e92_193, e92_194i, e92_194r, e92_195, e92_198, e92_199, e92_200, e92_203, e92_204, e92_205, e92_206, e92_207, e92_210, e92_211, e92_214, e92_215, e92_216, e92_217, e92_218, e92_221, e92_222, e92_224, e92_225, e92_228, e92_231, e92_232, e92_233, e92_236, ab_li2, true_or, or_true, true_and, and_true, ab_pus, ab_pun, ab_len0, ab_len1, ab_len2, ab_len3, ab_len4, Nat.zero_add, ab_rn0, l3, q_le, ff ν h5, hf3', hi3, not_true_eq_false, false_imp_iff, not_false_eq_true, true_imp_iff]
          refine go ν _ ?_ h5
          unfold drfI
          rw [if_neg hf3]
          exact h4 hf3
  have loopC : ∀ ν2, bI2 ν1 3 ν2 → ∀ g i ν x, 12 - i ≤ g → i ≤ 12 → aM ν (fun c => if c < i then fallL SN X c else X c) → ν 65 10 = ν2 65 10 + nI (fsum SN i) → kM ν2 ν 10 → J 42 ν [.ref 65, .int (nI i), x] [] := by
    intro ν2 a1 g
    induction g with
    | zero =>
      intro i ν x h1 h2 h3 h4 h5
      obtain rfl : i = 12 := by omega
      refine run 5 _ _ _ _ ?_
      simp (disch := omega) only [e92_0, e92_1, e92_4, e92_5, e92_6, e92_7, e92_8, e92_11, e92_12, e92_15, e92_16, e92_17, e92_19, e92_22, e92_23, e92_26, e92_27, e92_28, e92_31, e92_32, e92_33, e92_34, e92_37, e92_40, e92_41, e92_42, e92_43, e92_45, e92_48, e92_50, e92_51, e92_52, e92_53, e92_54, e92_56, e92_57, e92_58, e92_59, e92_62, e92_63, e92_64, e92_65, e92_68, e92_69, e92_72, e92_73, e92_74, e92_75, e92_76, e92_77, e92_78, e92_81, e92_84, e92_86, e92_87, e92_88, e92_89, e92_90, e92_93, e92_94, e92_95, e92_96, e92_99, e92_102, e92_103, e92_104, e92_105, e92_108, e92_109i, e92_109r, e92_110, e92_113, e92_114, e92_115, e92_118, e92_121, e92_124, e92_125, e92_126, e92_127, e92_128, e92_131, e92_132, e92_135, e92_136, e92_139, e92_140, e92_141, e92_142, e92_143, e92_144, e92_147, e92_148, e92_149, e92_150, e92_151, e92_152, e92_155, e92_156, e92_157, e92_158, e92_159, e92_160, e92_163, e92_166, e92_169, e92_170, e92_171, e92_172, e92_174, e92_177, e92_178, e92_179, e92_182, e92_183, e92_184, e92_187, e92_190, e92_193, e92_194i, e92_194r, e92_195, e92_198, e92_199, e92_200, e92_203, e92_204, e92_205, e92_206, e92_207, e92_210, e92_211, e92_214, e92_215, e92_216, e92_217, e92_218, e92_221, e92_222, e92_224, e92_225, e92_228, e92_231, e92_232, e92_233, e92_236, ab_li2, true_or, or_true, true_and, and_true, ab_pus, ab_pun, ab_len0, ab_len1, ab_len2, ab_len3, ab_len4, Nat.zero_add, ab_rn0, l12, q_le, Nat.le_refl, true_imp_iff, not_true_eq_false, false_imp_iff]
      have h3' : aM ν (fallL SN X) := aM_c h3 (fun c hc => if_pos hc)
      exact loopD ν2 ν a1 h3' h4 h5 3 0 ν _ (by decide) (by decide) (fun _ => aM_c h3' (fun c hc => (if_neg (by omega)).symm)) (fun _ => h3') (fun _ _ _ _ => rfl)
    | succ g ih =>
      intro i ν x h1 h2 h3 h4 h5
      by_cases hi : i = 12
      · exact ih i ν x (by omega) h2 h3 h4 h5
      · have hi2 : i < 12 := by omega
        have hi4 : i / 4 < 3 := by omega
        have hXi := h3 i hi2
        simp only [Nat.lt_irrefl, if_false] at hXi
        have hn := hXi.2.1
        have hsn := sno_le (SN := SN) (k := i / 4) hi4 (fun k hk => (hs k hk).2)
        have nxt : ∀ τ y, rM τ i (fallL SN X i) → τ 65 10 = ν 65 10 + nI (10 * sno SN (i / 4)) → gM i 10 ν τ → J 42 τ [.ref 65, .int (nI (i + 1)), y] [] := by
          intro τ y r2 r3 f2
          refine ih (i + 1) τ y (by omega) (by omega) ?_ ?_ ?_
          · intro c hc
            dsimp only
            by_cases e : c = i
            · subst e; rw [if_pos (by omega)]; exact r2
            · have := rM_g (h3 c hc) f2 e
              dsimp only at this
              by_cases e2 : c < i
              · rw [if_pos e2] at this; rw [if_pos (by omega)]; exact this
              · rw [if_neg e2] at this; rw [if_neg (by omega)]; exact this
          · rw [r3, h4, Int32.add_assoc, q_ad]
            rfl
          · intro p j p1 p2
            rw [f2 p j (by omega), h5 p j p1 p2]
        have after : ∀ ρ y, rM ρ i (grow (X i)) → fM i ν ρ → J 84 ρ [.ref 65, .int (nI i), y] [] := by
          intro ρ y r1 f1
          have hs2 : rS ρ 70 SN := fun k hk => by rw [f1 70 k (by omega), h5 70 k (by omega) (by omega), a1.2 70 (by decide), k1 70 (by decide)]; exact hs k hk
          refine run 40 _ _ _ _ ?_
          simp (disch := omega) only [e92_0, e92_1, e92_4, e92_5, e92_6, e92_7, e92_8, e92_11, e92_12, e92_15, e92_16, e92_17, e92_19, e92_22, e92_23, e92_26, e92_27, e92_28, e92_31, e92_32, e92_33, e92_34, e92_37, e92_40, e92_41, e92_42, e92_43, e92_45, e92_48, e92_50, e92_51, e92_52, e92_53, e92_54, e92_56, e92_57, e92_58, e92_59, e92_62, e92_63, e92_64, e92_65, e92_68, e92_69, e92_72, e92_73, e92_74, e92_75, e92_76, e92_77, e92_78, e92_81, e92_84, e92_86, e92_87, e92_88, e92_89, e92_90, e92_93, e92_94, e92_95, e92_96, e92_99, e92_102, e92_103, e92_104, e92_105, e92_108, e92_109i, e92_109r, e92_110, e92_113, e92_114, e92_115, e92_118, e92_121, e92_124, e92_125, e92_126, e92_127, e92_128, e92_131, e92_132, e92_135, e92_136, e92_139, e92_140, e92_141, e92_142, e92_143, e92_144, e92_147, e92_148, e92_149, e92_150, e92_151, e92_152, e92_155, e92_156, e92_157, e92_158, e92_159, e92_160, e92_163, e92_166, e92_169, e92_170, e92_171, e92_172, e92_174, e92_177, e92_178, e92_179, e92_182, e92_183, e92_184, e92_187, e92_190, e92_193, e92_194i, e92_194r, e92_195, e92_198, e92_199, e92_200, e92_203, e92_204, e92_205, e92_206, e92_207, e92_210, e92_211, e92_214, e92_215, e92_216, e92_217, e92_218, e92_221, e92_222, e92_224, e92_225, e92_228, e92_231, e92_232, e92_233, e92_236, ab_li2, true_or, or_true, true_and, and_true, ab_pus, ab_pun, ab_len0, ab_len1, ab_len2, ab_len3, ab_len4, Nat.zero_add, l4, e4, q_dv, not_false_eq_true]
          refine C85 hs2 hi4 ?_
          simp (disch := omega) only [e92_0, e92_1, e92_4, e92_5, e92_6, e92_7, e92_8, e92_11, e92_12, e92_15, e92_16, e92_17, e92_19, e92_22, e92_23, e92_26, e92_27, e92_28, e92_31, e92_32, e92_33, e92_34, e92_37, e92_40, e92_41, e92_42, e92_43, e92_45, e92_48, e92_50, e92_51, e92_52, e92_53, e92_54, e92_56, e92_57, e92_58, e92_59, e92_62, e92_63, e92_64, e92_65, e92_68, e92_69, e92_72, e92_73, e92_74, e92_75, e92_76, e92_77, e92_78, e92_81, e92_84, e92_86, e92_87, e92_88, e92_89, e92_90, e92_93, e92_94, e92_95, e92_96, e92_99, e92_102, e92_103, e92_104, e92_105, e92_108, e92_109i, e92_109r, e92_110, e92_113, e92_114, e92_115, e92_118, e92_121, e92_124, e92_125, e92_126, e92_127, e92_128, e92_131, e92_132, e92_135, e92_136, e92_139, e92_140, e92_141, e92_142, e92_143, e92_144, e92_147, e92_148, e92_149, e92_150, e92_151, e92_152, e92_155, e92_156, e92_157, e92_158, e92_159, e92_160, e92_163, e92_166, e92_169, e92_170, e92_171, e92_172, e92_174, e92_177, e92_178, e92_179, e92_182, e92_183, e92_184, e92_187, e92_190, e92_193, e92_194i, e92_194r, e92_195, e92_198, e92_199, e92_200, e92_203, e92_204, e92_205, e92_206, e92_207, e92_210, e92_211, e92_214, e92_215, e92_216, e92_217, e92_218, e92_221, e92_222, e92_224, e92_225, e92_228, e92_231, e92_232, e92_233, e92_236, ab_li2, true_or, or_true, true_and, and_true, ab_pus, ab_pun, ab_len0, ab_len1, ab_len2, ab_len3, ab_len4, Nat.zero_add, l10, q_mu, q_eq0, q_p1]
          refine ⟨fun g1 => ?_, fun g1 => ?_⟩
          · refine C84 hi2 r1 (o1 i hi2) (by omega) (by omega) (fun τ r2 f2 => ?_)
            simp (disch := omega) only [e92_0, e92_1, e92_4, e92_5, e92_6, e92_7, e92_8, e92_11, e92_12, e92_15, e92_16, e92_17, e92_19, e92_22, e92_23, e92_26, e92_27, e92_28, e92_31, e92_32, e92_33, e92_34, e92_37, e92_40, e92_41, e92_42, e92_43, e92_45, e92_48, e92_50, e92_51, e92_52, e92_53, e92_54, e92_56, e92_57, e92_58, e92_59, e92_62, e92_63, e92_64, e92_65, e92_68, e92_69, e92_72, e92_73, e92_74, e92_75, e92_76, e92_77, e92_78, e92_81, e92_84, e92_86, e92_87, e92_88, e92_89, e92_90, e92_93, e92_94, e92_95, e92_96, e92_99, e92_102, e92_103, e92_104, e92_105, e92_108, e92_109i, e92_109r, e92_110, e92_113, e92_114, e92_115, e92_118, e92_121, e92_124, e92_125, e92_126, e92_127, e92_128, e92_131, e92_132, e92_135, e92_136, e92_139, e92_140, e92_141, e92_142, e92_143, e92_144, e92_147, e92_148, e92_149, e92_150, e92_151, e92_152, e92_155, e92_156, e92_157, e92_158, e92_159, e92_160, e92_163, e92_166, e92_169, e92_170, e92_171, e92_172, e92_174, e92_177, e92_178, e92_179, e92_182, e92_183, e92_184, e92_187, e92_190, e92_193, e92_194i, e92_194r, e92_195, e92_198, e92_199, e92_200, e92_203, e92_204, e92_205, e92_206, e92_207, e92_210, e92_211, e92_214, e92_215, e92_216, e92_217, e92_218, e92_221, e92_222, e92_224, e92_225, e92_228, e92_231, e92_232, e92_233, e92_236, ab_li2, true_or, or_true, true_and, and_true, ab_pus, ab_pun, ab_len0, ab_len1, ab_len2, ab_len3, ab_len4, Nat.zero_add, q_p1]
            refine nxt _ _ (rM_e r2 (fun p j hp => ab_ud (by omega))) ?_ (gM_u (gM_f (gM_f gM_rf f1) f2))
            rw [ab_up_eq, f2 65 10 (by omega), f1 65 10 (by omega)]
          · have z : 10 * sno SN (i / 4) = 0 := by omega
            refine nxt ρ _ ?_ ?_ (gM_f gM_rf f1)
            · unfold fallL addN
              rw [if_pos z]
              exact r1
            · rw [z, show nI 0 = 0 from rfl, Int32.add_zero, f1 65 10 (by omega)]
        have inner : ∀ g2 j ρ, (X i).length - j ≤ g2 → j ≤ (X i).length → rQ ρ i (X i).length (kd (X i)) (ms (X i)) (fun k => if k < j then ag (X i) k + 1 else ag (X i) k) → fM i ν ρ → J 53 ρ [.ref 65, .int (nI i), .int (nI (10 * i + j))] [] := by
          intro g2
          have stop : ∀ ρ, rQ ρ i (X i).length (kd (X i)) (ms (X i)) (fun k => if k < (X i).length then ag (X i) k + 1 else ag (X i) k) → fM i ν ρ → J 53 ρ [.ref 65, .int (nI i), .int (nI (10 * i + (X i).length))] [] := by
            intro ρ b1 b2
            refine run 10 _ _ _ _ ?_
            simp (disch := omega) only [e92_0, e92_1, e92_4, e92_5, e92_6, e92_7, e92_8, e92_11, e92_12, e92_15, e92_16, e92_17, e92_19, e92_22, e92_23, e92_26, e92_27, e92_28, e92_31, e92_32, e92_33, e92_34, e92_37, e92_40, e92_41, e92_42, e92_43, e92_45, e92_48, e92_50, e92_51, e92_52, e92_53, e92_54, e92_56, e92_57, e92_58, e92_59, e92_62, e92_63, e92_64, e92_65, e92_68, e92_69, e92_72, e92_73, e92_74, e92_75, e92_76, e92_77, e92_78, e92_81, e92_84, e92_86, e92_87, e92_88, e92_89, e92_90, e92_93, e92_94, e92_95, e92_96, e92_99, e92_102, e92_103, e92_104, e92_105, e92_108, e92_109i, e92_109r, e92_110, e92_113, e92_114, e92_115, e92_118, e92_121, e92_124, e92_125, e92_126, e92_127, e92_128, e92_131, e92_132, e92_135, e92_136, e92_139, e92_140, e92_141, e92_142, e92_143, e92_144, e92_147, e92_148, e92_149, e92_150, e92_151, e92_152, e92_155, e92_156, e92_157, e92_158, e92_159, e92_160, e92_163, e92_166, e92_169, e92_170, e92_171, e92_172, e92_174, e92_177, e92_178, e92_179, e92_182, e92_183, e92_184, e92_187, e92_190, e92_193, e92_194i, e92_194r, e92_195, e92_198, e92_199, e92_200, e92_203, e92_204, e92_205, e92_206, e92_207, e92_210, e92_211, e92_214, e92_215, e92_216, e92_217, e92_218, e92_221, e92_222, e92_224, e92_225, e92_228, e92_231, e92_232, e92_233, e92_236, ab_li2, true_or, or_true, true_and, and_true, ab_pus, ab_pun, ab_len0, ab_len1, ab_len2, ab_len3, ab_len4, Nat.zero_add, ab_rn0, q_in, q_cl, b1.1, l10, q_mu, q_ad, q_le, Nat.le_refl, true_imp_iff, not_true_eq_false, false_imp_iff]
            refine after ρ _ (rQ_to b1 (grow_len _) (fun k hk => ?_) (fun k hk => ?_) (fun k hk => ?_)) b2
            · rw [grow, kd_map hk]
            · rw [grow, ms_map hk]
            · rw [grow, ag_map hk, if_pos (by omega)]
          induction g2 with
          | zero =>
            intro j ρ b1 b2 b3 b4
            obtain rfl : j = (X i).length := by omega
            exact stop ρ b3 b4
          | succ g2 ih2 =>
            intro j ρ b1 b2 b3 b4
            by_cases hj : j = (X i).length
            · subst hj; exact stop ρ b3 b4
            · refine run 40 _ _ _ _ ?_
              have ea : 10 * i + j + 1 = 10 * i + (j + 1) := rfl
              simp (disch := omega) only [e92_0, e92_1, e92_4, e92_5, e92_6, e92_7, e92_8, e92_11, e92_12, e92_15, e92_16, e92_17, e92_19, e92_22, e92_23, e92_26, e92_27, e92_28, e92_31, e92_32, e92_33, e92_34, e92_37, e92_40, e92_41, e92_42, e92_43, e92_45, e92_48, e92_50, e92_51, e92_52, e92_53, e92_54, e92_56, e92_57, e92_58, e92_59, e92_62, e92_63, e92_64, e92_65, e92_68, e92_69, e92_72, e92_73, e92_74, e92_75, e92_76, e92_77, e92_78, e92_81, e92_84, e92_86, e92_87, e92_88, e92_89, e92_90, e92_93, e92_94, e92_95, e92_96, e92_99, e92_102, e92_103, e92_104, e92_105, e92_108, e92_109i, e92_109r, e92_110, e92_113, e92_114, e92_115, e92_118, e92_121, e92_124, e92_125, e92_126, e92_127, e92_128, e92_131, e92_132, e92_135, e92_136, e92_139, e92_140, e92_141, e92_142, e92_143, e92_144, e92_147, e92_148, e92_149, e92_150, e92_151, e92_152, e92_155, e92_156, e92_157, e92_158, e92_159, e92_160, e92_163, e92_166, e92_169, e92_170, e92_171, e92_172, e92_174, e92_177, e92_178, e92_179, e92_182, e92_183, e92_184, e92_187, e92_190, e92_193, e92_194i, e92_194r, e92_195, e92_198, e92_199, e92_200, e92_203, e92_204, e92_205, e92_206, e92_207, e92_210, e92_211, e92_214, e92_215, e92_216, e92_217, e92_218, e92_221, e92_222, e92_224, e92_225, e92_228, e92_231, e92_232, e92_233, e92_236, ab_li2, true_or, or_true, true_and, and_true, ab_pus, ab_pun, ab_len0, ab_len1, ab_len2, ab_len3, ab_len4, Nat.zero_add, q_in, q_cl, b3.1, l10, q_mu, q_ad, q_le, b3.2.2.2.2 j (by omega), q_p1]
              refine ⟨fun z => absurd z (by omega), fun _ => ?_⟩
              refine ih2 (j + 1) _ (by omega) (by omega) (rQ_c (rQ_a (v := (if j < j then ag (X i) j + 1 else ag (X i) j) + 1) b3) (fun _ _ => rfl) (fun _ _ => rfl) (fun k hk => ?_)) (fM_up b4 (by decide) (by decide) (by omega))
              by_cases e : k = j
              · subst e; simp
              · simp only [e, if_false]
                by_cases e2 : k < j
                · rw [if_pos e2, if_pos (by omega)]
                · rw [if_neg e2, if_neg (by omega)]
        refine run 7 _ _ _ _ ?_
        have hi12 : ¬ 12 ≤ i := by omega
        simp (disch := omega) only [e92_0, e92_1, e92_4, e92_5, e92_6, e92_7, e92_8, e92_11, e92_12, e92_15, e92_16, e92_17, e92_19, e92_22, e92_23, e92_26, e92_27, e92_28, e92_31, e92_32, e92_33, e92_34, e92_37, e92_40, e92_41, e92_42, e92_43, e92_45, e92_48, e92_50, e92_51, e92_52, e92_53, e92_54, e92_56, e92_57, e92_58, e92_59, e92_62, e92_63, e92_64, e92_65, e92_68, e92_69, e92_72, e92_73, e92_74, e92_75, e92_76, e92_77, e92_78, e92_81, e92_84, e92_86, e92_87, e92_88, e92_89, e92_90, e92_93, e92_94, e92_95, e92_96, e92_99, e92_102, e92_103, e92_104, e92_105, e92_108, e92_109i, e92_109r, e92_110, e92_113, e92_114, e92_115, e92_118, e92_121, e92_124, e92_125, e92_126, e92_127, e92_128, e92_131, e92_132, e92_135, e92_136, e92_139, e92_140, e92_141, e92_142, e92_143, e92_144, e92_147, e92_148, e92_149, e92_150, e92_151, e92_152, e92_155, e92_156, e92_157, e92_158, e92_159, e92_160, e92_163, e92_166, e92_169, e92_170, e92_171, e92_172, e92_174, e92_177, e92_178, e92_179, e92_182, e92_183, e92_184, e92_187, e92_190, e92_193, e92_194i, e92_194r, e92_195, e92_198, e92_199, e92_200, e92_203, e92_204, e92_205, e92_206, e92_207, e92_210, e92_211, e92_214, e92_215, e92_216, e92_217, e92_218, e92_221, e92_222, e92_224, e92_225, e92_228, e92_231, e92_232, e92_233, e92_236, ab_li2, true_or, or_true, true_and, and_true, ab_pus, ab_pun, ab_len0, ab_len1, ab_len2, ab_len3, ab_len4, Nat.zero_add, ab_rn0, l12, q_le, l10, q_mu, hi12, false_imp_iff, not_false_eq_true, true_imp_iff]
        exact inner _ 0 ν (Nat.le_refl _) (Nat.zero_le _) (rQ_c (rQ_of hXi) (fun _ _ => rfl) (fun _ _ => rfl) (fun k hk => by simp)) fM_rf
  have loopB : ∀ g i ν x, 3 - i ≤ g → i ≤ 3 → bI2 ν1 i ν → J 6 ν [.ref 65, .int (nI i), x] [] := by
    intro g
    induction g with
    | zero =>
      intro i ν x h1 h2 h3
      obtain rfl : i = 3 := by omega
      refine run 5 _ _ _ _ ?_
      simp (disch := omega) only [e92_0, e92_1, e92_4, e92_5, e92_6, e92_7, e92_8, e92_11, e92_12, e92_15, e92_16, e92_17, e92_19, e92_22, e92_23, e92_26, e92_27, e92_28, e92_31, e92_32, e92_33, e92_34, e92_37, e92_40, e92_41, e92_42, e92_43, e92_45, e92_48, e92_50, e92_51, e92_52, e92_53, e92_54, e92_56, e92_57, e92_58, e92_59, e92_62, e92_63, e92_64, e92_65, e92_68, e92_69, e92_72, e92_73, e92_74, e92_75, e92_76, e92_77, e92_78, e92_81, e92_84, e92_86, e92_87, e92_88, e92_89, e92_90, e92_93, e92_94, e92_95, e92_96, e92_99, e92_102, e92_103, e92_104, e92_105, e92_108, e92_109i, e92_109r, e92_110, e92_113, e92_114, e92_115, e92_118, e92_121, e92_124, e92_125, e92_126, e92_127, e92_128, e92_131, e92_132, e92_135, e92_136, e92_139, e92_140, e92_141, e92_142, e92_143, e92_144, e92_147, e92_148, e92_149, e92_150, e92_151, e92_152, e92_155, e92_156, e92_157, e92_158, e92_159, e92_160, e92_163, e92_166, e92_169, e92_170, e92_171, e92_172, e92_174, e92_177, e92_178, e92_179, e92_182, e92_183, e92_184, e92_187, e92_190, e92_193, e92_194i, e92_194r, e92_195, e92_198, e92_199, e92_200, e92_203, e92_204, e92_205, e92_206, e92_207, e92_210, e92_211, e92_214, e92_215, e92_216, e92_217, e92_218, e92_221, e92_222, e92_224, e92_225, e92_228, e92_231, e92_232, e92_233, e92_236, ab_li2, true_or, or_true, true_and, and_true, ab_pus, ab_pun, ab_len0, ab_len1, ab_len2, ab_len3, ab_len4, Nat.zero_add, ab_rn0, l3, q_le, Nat.le_refl, true_imp_iff, not_true_eq_false, false_imp_iff]
      refine loopC ν h3 12 0 ν _ (by decide) (by decide) ?_ (by rw [show nI (fsum SN 0) = 0 from rfl, Int32.add_zero]) (fun _ _ _ _ => rfl)
      intro c hc
      dsimp only
      rw [if_neg (by omega)]
      exact rM_e (hX c hc) (fun p j hp => by rw [h3.2 p (by omega), k1 p (by omega)])
    | succ g ih =>
      intro i ν x h1 h2 h3
      by_cases hi : i = 3
      · exact ih i ν x (by omega) h2 h3
      · refine run 40 _ _ _ _ ?_
        simp (disch := omega) only [e92_0, e92_1, e92_4, e92_5, e92_6, e92_7, e92_8, e92_11, e92_12, e92_15, e92_16, e92_17, e92_19, e92_22, e92_23, e92_26, e92_27, e92_28, e92_31, e92_32, e92_33, e92_34, e92_37, e92_40, e92_41, e92_42, e92_43, e92_45, e92_48, e92_50, e92_51, e92_52, e92_53, e92_54, e92_56, e92_57, e92_58, e92_59, e92_62, e92_63, e92_64, e92_65, e92_68, e92_69, e92_72, e92_73, e92_74, e92_75, e92_76, e92_77, e92_78, e92_81, e92_84, e92_86, e92_87, e92_88, e92_89, e92_90, e92_93, e92_94, e92_95, e92_96, e92_99, e92_102, e92_103, e92_104, e92_105, e92_108, e92_109i, e92_109r, e92_110, e92_113, e92_114, e92_115, e92_118, e92_121, e92_124, e92_125, e92_126, e92_127, e92_128, e92_131, e92_132, e92_135, e92_136, e92_139, e92_140, e92_141, e92_142, e92_143, e92_144, e92_147, e92_148, e92_149, e92_150, e92_151, e92_152, e92_155, e92_156, e92_157, e92_158, e92_159, e92_160, e92_163, e92_166, e92_169, e92_170, e92_171, e92_172, e92_174, e92_177, e92_178, e92_179, e92_182, e92_183, e92_184, e92_187, e92_190, e92_193, e92_194i, e92_194r, e92_195, e92_198, e92_199, e92_200, e92_203, e92_204, e92_205, e92_206, e92_207, e92_210, e92_211, e92_214, e92_215, e92_216, e92_217, e92_218, e92_221, e92_222, e92_224, e92_225, e92_228, e92_231, e92_232, e92_233, e92_236, ab_li2, true_or, or_true, true_and, and_true, ab_pus, ab_pun, ab_len0, ab_len1, ab_len2, ab_len3, ab_len4, Nat.zero_add, l3, q_le, q_in, q_cl, q_p1]
        refine ⟨fun z => absurd z (by omega), fun _ => ⟨fun g1 => ?_, fun g1 => ?_⟩⟩
        · refine ih (i + 1) _ _ (by omega) (by omega) ⟨fun j => ?_, h3.2⟩
          rw [h3.1 j]
          by_cases e : j = i
          · subst e
            rw [if_neg (by omega), if_pos (by omega)]
            unfold wB
            rw [if_pos (by rw [← h3.2 71 (by decide)]; exact g1)]
          · split <;> split <;> first | rfl | omega
        · refine ih (i + 1) _ _ (by omega) (by omega) ⟨fun j => ?_, fun p hp j => by rw [ab_ud hp, h3.2 p hp]⟩
          by_cases e : j = i
          · subst e
            rw [ab_up_eq, if_pos (by omega), h3.2 71 (by decide)]
            unfold wB
            rw [if_neg (by rw [← h3.2 71 (by decide)]; exact g1)]
          · rw [ab_uo e, h3.1 j]
            split <;> split <;> first | rfl | omega
  refine run 2 _ _ _ _ ?_
  simp only [e92_0, e92_1, e92_4, e92_5, e92_6, e92_7, e92_8, e92_11, e92_12, e92_15, e92_16, e92_17, e92_19, e92_22, e92_23, e92_26, e92_27, e92_28, e92_31, e92_32, e92_33, e92_34, e92_37, e92_40, e92_41, e92_42, e92_43, e92_45, e92_48, e92_50, e92_51, e92_52, e92_53, e92_54, e92_56, e92_57, e92_58, e92_59, e92_62, e92_63, e92_64, e92_65, e92_68, e92_69, e92_72, e92_73, e92_74, e92_75, e92_76, e92_77, e92_78, e92_81, e92_84, e92_86, e92_87, e92_88, e92_89, e92_90, e92_93, e92_94, e92_95, e92_96, e92_99, e92_102, e92_103, e92_104, e92_105, e92_108, e92_109i, e92_109r, e92_110, e92_113, e92_114, e92_115, e92_118, e92_121, e92_124, e92_125, e92_126, e92_127, e92_128, e92_131, e92_132, e92_135, e92_136, e92_139, e92_140, e92_141, e92_142, e92_143, e92_144, e92_147, e92_148, e92_149, e92_150, e92_151, e92_152, e92_155, e92_156, e92_157, e92_158, e92_159, e92_160, e92_163, e92_166, e92_169, e92_170, e92_171, e92_172, e92_174, e92_177, e92_178, e92_179, e92_182, e92_183, e92_184, e92_187, e92_190, e92_193, e92_194i, e92_194r, e92_195, e92_198, e92_199, e92_200, e92_203, e92_204, e92_205, e92_206, e92_207, e92_210, e92_211, e92_214, e92_215, e92_216, e92_217, e92_218, e92_221, e92_222, e92_224, e92_225, e92_228, e92_231, e92_232, e92_233, e92_236, ab_li2, true_or, or_true, true_and, and_true, ab_pus, ab_pun, ab_len0, ab_len1, ab_len2, ab_len3, ab_len4, Nat.zero_add, ab_rn0]
  exact loopB 3 0 ν1 _ (by decide) (by decide) ⟨fun j => by simp, fun _ _ _ => rfl⟩
end MDY
