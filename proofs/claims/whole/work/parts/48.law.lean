theorem la1 (n : Nat) : nI n + Int32.ofInt 1 = nI (n + 1) := q_p1
theorem la2 (n : Nat) : nI n + Int32.ofInt 2 = nI (n + 2) := q_ad
theorem la3 (n : Nat) : nI n + Int32.ofInt 3 = nI (n + 3) := q_ad
def lawStep (J : ab_J) : Prop := ∀ (i : Instr) (n pc : Nat) (μ : ab_M) (ls st : List Value), decode cL_law pc = .ok (i, n) → ab_ex (ab_Cl 8) 8 1 J J (fun r _ => r = some 1) i n pc μ ls st → J pc μ ls st
def lawLd (J : ab_J) (L : Nat) (xs : Nat → Int32) : Prop := ∀ (pc k : Nat) (v : Int32) (μ : ab_M) (ls st : List Value), decode cL_law pc = .ok (.iaload, 1) → v = nI k → k < L → J (pc + 1) μ ls (.int (xs k) :: st) → J pc μ ls (.int v :: .ref 81 :: st)
def lawLn (J : ab_J) (L : Nat) : Prop := ∀ (pc : Nat) (μ : ab_M) (ls st : List Value), decode cL_law pc = .ok (.arraylength, 1) → J (pc + 1) μ ls (.int (nI L) :: st) → J pc μ ls (.ref 81 :: st)
theorem law_v {J : ab_J} (step : lawStep J) {idx t pc a : Nat} {μ : ab_M} {ls as st : List Value} (hd : decode cL_law pc = .ok (.invokevirtual idx, 3)) (hm : ab_mt ab_cV 8 idx = some t) (hn : ab_n t = as.length + 1) (hok : (as.all ab_ok1) = true) (ho : ab_ob a (ab_o t)) (hst : st.length ≤ 4) (h : ab_Cl 8 t (.ref a :: as) μ (fun r μ' => J (pc + 3) μ' ls (ab_pu r st))) : J pc μ ls (as.reverse ++ .ref a :: st) := by
  refine step _ _ _ _ _ _ hd ⟨rfl, t, hm, ?_⟩
  rw [x_caV hn hok rfl]
  exact ⟨ho, hst, h⟩
section LAWL
variable {J : ab_J} {L j : Nat} {xs : Nat → Int32} {μ : ab_M}
theorem law_0 (step : lawStep J) (ld : lawLd J L xs) (hj : 4 * j + 4 ≤ L) (fin : ∀ μ', Rel μ' → J 584 μ' [.ref 81, .ref 0, .ref 65, .int (nI (4 * j))] []) (hR : Rel μ) : J 120 μ [.ref 81, .ref 0, .ref 65, .int (nI (4 * j))] [] := by
  refine step _ _ _ _ _ _ dL_law_120 ⟨rfl, ?_⟩
  refine step _ _ _ _ _ _ dL_law_121 ⟨rfl, ?_⟩
  refine step _ _ _ _ _ _ dL_law_122 ⟨rfl, ?_⟩
  refine step _ _ _ _ _ _ dL_law_123 ⟨rfl, ?_⟩
  refine step _ _ _ _ _ _ dL_law_124 ⟨rfl, ?_⟩
  refine ld _ (4 * j + 1) _ _ _ _ dL_law_125 (la1 _) (by omega) ?_
  refine step _ _ _ _ _ _ dL_law_126 ⟨rfl, ?_⟩
  refine step _ _ _ _ _ _ dL_law_127 ⟨rfl, ?_⟩
  refine step _ _ _ _ _ _ dL_law_128 ⟨rfl, ?_⟩
  refine step _ _ _ _ _ _ dL_law_129 ⟨rfl, ?_⟩
  refine ld _ (4 * j + 2) _ _ _ _ dL_law_130 (la2 _) (by omega) ?_
  refine law_v step (t := 50) (as := [.int (xs (4 * j + 1)), .int (xs (4 * j + 2))]) (a := 0) (st := []) dL_law_131 (by decide) rfl rfl ⟨by decide, by decide⟩ (by decide) ?_
  refine ab_Cl_m 8 50 _ _ _ _ ?_ (S0 hR)
  intro r μ1 h2
  refine step _ _ _ _ _ _ dL_law_134 ⟨rfl, ?_⟩
  refine step _ _ _ _ _ _ dL_law_135 ⟨rfl, ?_⟩
  refine step _ _ _ _ _ _ dL_law_136 ⟨rfl, ?_⟩
  refine step _ _ _ _ _ _ dL_law_137 ⟨rfl, ?_⟩
  refine step _ _ _ _ _ _ dL_law_138 ⟨rfl, ?_⟩
  refine ld _ (4 * j + 1) _ _ _ _ dL_law_139 (la1 _) (by omega) ?_
  refine step _ _ _ _ _ _ dL_law_140 ⟨rfl, ?_⟩
  refine step _ _ _ _ _ _ dL_law_141 ⟨rfl, ?_⟩
  refine step _ _ _ _ _ _ dL_law_142 ⟨rfl, ?_⟩
  refine step _ _ _ _ _ _ dL_law_143 ⟨rfl, ?_⟩
  refine ld _ (4 * j + 2) _ _ _ _ dL_law_144 (la2 _) (by omega) ?_
  refine law_v step (t := 81) (as := [.int (xs (4 * j + 1)), .int (xs (4 * j + 2))]) (a := 65) (st := ab_pu r []) dL_law_145 (by decide) rfl rfl ⟨by decide, by decide⟩ (by cases r <;> exact Nat.le_of_ble_eq_true rfl) ?_
  refine ab_Cl_m 8 81 _ _ _ _ ?_ h2
  rintro r' μ2 ⟨rfl, ⟨v, rfl⟩, hR'⟩
  exact step _ _ _ _ _ _ dL_law_148 ⟨rfl, fun _ => fin μ2 hR', fun h => absurd rfl h⟩
theorem law_1 (step : lawStep J) (ld : lawLd J L xs) (hj : 4 * j + 4 ≤ L) (fin : ∀ μ', Rel μ' → J 584 μ' [.ref 81, .ref 0, .ref 65, .int (nI (4 * j))] []) (hR : Rel μ) : J 153 μ [.ref 81, .ref 0, .ref 65, .int (nI (4 * j))] [] := by
  refine step _ _ _ _ _ _ dL_law_153 ⟨rfl, ?_⟩
  refine step _ _ _ _ _ _ dL_law_154 ⟨rfl, ?_⟩
  refine step _ _ _ _ _ _ dL_law_155 ⟨rfl, ?_⟩
  refine step _ _ _ _ _ _ dL_law_156 ⟨rfl, ?_⟩
  refine step _ _ _ _ _ _ dL_law_157 ⟨rfl, ?_⟩
  refine ld _ (4 * j + 1) _ _ _ _ dL_law_158 (la1 _) (by omega) ?_
  refine step _ _ _ _ _ _ dL_law_159 ⟨rfl, ?_⟩
  refine step _ _ _ _ _ _ dL_law_160 ⟨rfl, ?_⟩
  refine step _ _ _ _ _ _ dL_law_161 ⟨rfl, ?_⟩
  refine step _ _ _ _ _ _ dL_law_162 ⟨rfl, ?_⟩
  refine ld _ (4 * j + 2) _ _ _ _ dL_law_163 (la2 _) (by omega) ?_
  refine law_v step (t := 51) (as := [.int (xs (4 * j + 1)), .int (xs (4 * j + 2))]) (a := 0) (st := []) dL_law_164 (by decide) rfl rfl ⟨by decide, by decide⟩ (by decide) ?_
  refine ab_Cl_m 8 51 _ _ _ _ ?_ (S1 hR)
  intro r μ1 h2
  refine step _ _ _ _ _ _ dL_law_167 ⟨rfl, ?_⟩
  refine step _ _ _ _ _ _ dL_law_168 ⟨rfl, ?_⟩
  refine step _ _ _ _ _ _ dL_law_169 ⟨rfl, ?_⟩
  refine step _ _ _ _ _ _ dL_law_170 ⟨rfl, ?_⟩
  refine step _ _ _ _ _ _ dL_law_171 ⟨rfl, ?_⟩
  refine ld _ (4 * j + 1) _ _ _ _ dL_law_172 (la1 _) (by omega) ?_
  refine step _ _ _ _ _ _ dL_law_173 ⟨rfl, ?_⟩
  refine step _ _ _ _ _ _ dL_law_174 ⟨rfl, ?_⟩
  refine step _ _ _ _ _ _ dL_law_175 ⟨rfl, ?_⟩
  refine step _ _ _ _ _ _ dL_law_176 ⟨rfl, ?_⟩
  refine ld _ (4 * j + 2) _ _ _ _ dL_law_177 (la2 _) (by omega) ?_
  refine law_v step (t := 82) (as := [.int (xs (4 * j + 1)), .int (xs (4 * j + 2))]) (a := 65) (st := ab_pu r []) dL_law_178 (by decide) rfl rfl ⟨by decide, by decide⟩ (by cases r <;> exact Nat.le_of_ble_eq_true rfl) ?_
  refine ab_Cl_m 8 82 _ _ _ _ ?_ h2
  rintro r' μ2 ⟨rfl, ⟨v, rfl⟩, hR'⟩
  exact step _ _ _ _ _ _ dL_law_181 ⟨rfl, fun _ => fin μ2 hR', fun h => absurd rfl h⟩
theorem law_2 (step : lawStep J) (ld : lawLd J L xs) (hj : 4 * j + 4 ≤ L) (fin : ∀ μ', Rel μ' → J 584 μ' [.ref 81, .ref 0, .ref 65, .int (nI (4 * j))] []) (hR : Rel μ) : J 186 μ [.ref 81, .ref 0, .ref 65, .int (nI (4 * j))] [] := by
  refine step _ _ _ _ _ _ dL_law_186 ⟨rfl, ?_⟩
  refine step _ _ _ _ _ _ dL_law_187 ⟨rfl, ?_⟩
  refine step _ _ _ _ _ _ dL_law_188 ⟨rfl, ?_⟩
  refine step _ _ _ _ _ _ dL_law_189 ⟨rfl, ?_⟩
  refine step _ _ _ _ _ _ dL_law_190 ⟨rfl, ?_⟩
  refine ld _ (4 * j + 1) _ _ _ _ dL_law_191 (la1 _) (by omega) ?_
  refine step _ _ _ _ _ _ dL_law_192 ⟨rfl, ?_⟩
  refine step _ _ _ _ _ _ dL_law_193 ⟨rfl, ?_⟩
  refine step _ _ _ _ _ _ dL_law_194 ⟨rfl, ?_⟩
  refine step _ _ _ _ _ _ dL_law_195 ⟨rfl, ?_⟩
  refine ld _ (4 * j + 2) _ _ _ _ dL_law_196 (la2 _) (by omega) ?_
  refine law_v step (t := 52) (as := [.int (xs (4 * j + 1)), .int (xs (4 * j + 2))]) (a := 0) (st := []) dL_law_197 (by decide) rfl rfl ⟨by decide, by decide⟩ (by decide) ?_
  refine ab_Cl_m 8 52 _ _ _ _ ?_ (S2 hR)
  intro r μ1 h2
  refine step _ _ _ _ _ _ dL_law_200 ⟨rfl, ?_⟩
  refine step _ _ _ _ _ _ dL_law_201 ⟨rfl, ?_⟩
  refine step _ _ _ _ _ _ dL_law_202 ⟨rfl, ?_⟩
  refine step _ _ _ _ _ _ dL_law_203 ⟨rfl, ?_⟩
  refine step _ _ _ _ _ _ dL_law_204 ⟨rfl, ?_⟩
  refine ld _ (4 * j + 1) _ _ _ _ dL_law_205 (la1 _) (by omega) ?_
  refine step _ _ _ _ _ _ dL_law_206 ⟨rfl, ?_⟩
  refine step _ _ _ _ _ _ dL_law_207 ⟨rfl, ?_⟩
  refine step _ _ _ _ _ _ dL_law_208 ⟨rfl, ?_⟩
  refine step _ _ _ _ _ _ dL_law_209 ⟨rfl, ?_⟩
  refine ld _ (4 * j + 2) _ _ _ _ dL_law_210 (la2 _) (by omega) ?_
  refine law_v step (t := 83) (as := [.int (xs (4 * j + 1)), .int (xs (4 * j + 2))]) (a := 65) (st := ab_pu r []) dL_law_211 (by decide) rfl rfl ⟨by decide, by decide⟩ (by cases r <;> exact Nat.le_of_ble_eq_true rfl) ?_
  refine ab_Cl_m 8 83 _ _ _ _ ?_ h2
  rintro r' μ2 ⟨rfl, ⟨v, rfl⟩, hR'⟩
  exact step _ _ _ _ _ _ dL_law_214 ⟨rfl, fun _ => fin μ2 hR', fun h => absurd rfl h⟩
theorem law_3 (step : lawStep J) (ld : lawLd J L xs) (hj : 4 * j + 4 ≤ L) (fin : ∀ μ', Rel μ' → J 584 μ' [.ref 81, .ref 0, .ref 65, .int (nI (4 * j))] []) (hR : Rel μ) : J 219 μ [.ref 81, .ref 0, .ref 65, .int (nI (4 * j))] [] := by
  refine step _ _ _ _ _ _ dL_law_219 ⟨rfl, ?_⟩
  refine step _ _ _ _ _ _ dL_law_220 ⟨rfl, ?_⟩
  refine step _ _ _ _ _ _ dL_law_221 ⟨rfl, ?_⟩
  refine step _ _ _ _ _ _ dL_law_222 ⟨rfl, ?_⟩
  refine step _ _ _ _ _ _ dL_law_223 ⟨rfl, ?_⟩
  refine ld _ (4 * j + 1) _ _ _ _ dL_law_224 (la1 _) (by omega) ?_
  refine law_v step (t := 53) (as := [.int (xs (4 * j + 1))]) (a := 0) (st := []) dL_law_225 (by decide) rfl rfl ⟨by decide, by decide⟩ (by decide) ?_
  refine ab_Cl_m 8 53 _ _ _ _ ?_ (S3 hR)
  intro r μ1 h2
  refine step _ _ _ _ _ _ dL_law_228 ⟨rfl, ?_⟩
  refine step _ _ _ _ _ _ dL_law_229 ⟨rfl, ?_⟩
  refine step _ _ _ _ _ _ dL_law_230 ⟨rfl, ?_⟩
  refine step _ _ _ _ _ _ dL_law_231 ⟨rfl, ?_⟩
  refine step _ _ _ _ _ _ dL_law_232 ⟨rfl, ?_⟩
  refine ld _ (4 * j + 1) _ _ _ _ dL_law_233 (la1 _) (by omega) ?_
  refine law_v step (t := 93) (as := [.int (xs (4 * j + 1))]) (a := 65) (st := ab_pu r []) dL_law_234 (by decide) rfl rfl ⟨by decide, by decide⟩ (by cases r <;> exact Nat.le_of_ble_eq_true rfl) ?_
  refine ab_Cl_m 8 93 _ _ _ _ ?_ h2
  rintro r' μ2 ⟨rfl, ⟨v, rfl⟩, hR'⟩
  exact step _ _ _ _ _ _ dL_law_237 ⟨rfl, fun _ => fin μ2 hR', fun h => absurd rfl h⟩
theorem law_4 (step : lawStep J) (ld : lawLd J L xs) (hj : 4 * j + 4 ≤ L) (fin : ∀ μ', Rel μ' → J 584 μ' [.ref 81, .ref 0, .ref 65, .int (nI (4 * j))] []) (hR : Rel μ) : J 242 μ [.ref 81, .ref 0, .ref 65, .int (nI (4 * j))] [] := by
  refine step _ _ _ _ _ _ dL_law_242 ⟨rfl, ?_⟩
  refine step _ _ _ _ _ _ dL_law_243 ⟨rfl, ?_⟩
  refine step _ _ _ _ _ _ dL_law_244 ⟨rfl, ?_⟩
  refine step _ _ _ _ _ _ dL_law_245 ⟨rfl, ?_⟩
  refine step _ _ _ _ _ _ dL_law_246 ⟨rfl, ?_⟩
  refine ld _ (4 * j + 1) _ _ _ _ dL_law_247 (la1 _) (by omega) ?_
  refine step _ _ _ _ _ _ dL_law_248 ⟨rfl, ?_⟩
  refine step _ _ _ _ _ _ dL_law_249 ⟨rfl, ?_⟩
  refine step _ _ _ _ _ _ dL_law_250 ⟨rfl, ?_⟩
  refine step _ _ _ _ _ _ dL_law_251 ⟨rfl, ?_⟩
  refine ld _ (4 * j + 2) _ _ _ _ dL_law_252 (la2 _) (by omega) ?_
  refine step _ _ _ _ _ _ dL_law_253 ⟨rfl, ?_⟩
  refine step _ _ _ _ _ _ dL_law_254 ⟨rfl, ?_⟩
  refine step _ _ _ _ _ _ dL_law_255 ⟨rfl, ?_⟩
  refine step _ _ _ _ _ _ dL_law_256 ⟨rfl, ?_⟩
  refine ld _ (4 * j + 3) _ _ _ _ dL_law_257 (la3 _) (by omega) ?_
  refine law_v step (t := 54) (as := [.int (xs (4 * j + 1)), .int (xs (4 * j + 2)), .int (xs (4 * j + 3))]) (a := 0) (st := []) dL_law_258 (by decide) rfl rfl ⟨by decide, by decide⟩ (by decide) ?_
  refine ab_Cl_m 8 54 _ _ _ _ ?_ (S4 hR)
  intro r μ1 h2
  refine step _ _ _ _ _ _ dL_law_261 ⟨rfl, ?_⟩
  refine step _ _ _ _ _ _ dL_law_262 ⟨rfl, ?_⟩
  refine step _ _ _ _ _ _ dL_law_263 ⟨rfl, ?_⟩
  refine step _ _ _ _ _ _ dL_law_264 ⟨rfl, ?_⟩
  refine step _ _ _ _ _ _ dL_law_265 ⟨rfl, ?_⟩
  refine ld _ (4 * j + 1) _ _ _ _ dL_law_266 (la1 _) (by omega) ?_
  refine step _ _ _ _ _ _ dL_law_267 ⟨rfl, ?_⟩
  refine step _ _ _ _ _ _ dL_law_268 ⟨rfl, ?_⟩
  refine step _ _ _ _ _ _ dL_law_269 ⟨rfl, ?_⟩
  refine step _ _ _ _ _ _ dL_law_270 ⟨rfl, ?_⟩
  refine ld _ (4 * j + 2) _ _ _ _ dL_law_271 (la2 _) (by omega) ?_
  refine step _ _ _ _ _ _ dL_law_272 ⟨rfl, ?_⟩
  refine step _ _ _ _ _ _ dL_law_273 ⟨rfl, ?_⟩
  refine step _ _ _ _ _ _ dL_law_274 ⟨rfl, ?_⟩
  refine step _ _ _ _ _ _ dL_law_275 ⟨rfl, ?_⟩
  refine ld _ (4 * j + 3) _ _ _ _ dL_law_276 (la3 _) (by omega) ?_
  refine law_v step (t := 96) (as := [.int (xs (4 * j + 1)), .int (xs (4 * j + 2)), .int (xs (4 * j + 3))]) (a := 65) (st := ab_pu r []) dL_law_277 (by decide) rfl rfl ⟨by decide, by decide⟩ (by cases r <;> exact Nat.le_of_ble_eq_true rfl) ?_
  refine ab_Cl_m 8 96 _ _ _ _ ?_ h2
  rintro r' μ2 ⟨rfl, ⟨v, rfl⟩, hR'⟩
  exact step _ _ _ _ _ _ dL_law_280 ⟨rfl, fun _ => fin μ2 hR', fun h => absurd rfl h⟩
theorem law_5 (step : lawStep J) (ld : lawLd J L xs) (hj : 4 * j + 4 ≤ L) (fin : ∀ μ', Rel μ' → J 584 μ' [.ref 81, .ref 0, .ref 65, .int (nI (4 * j))] []) (hR : Rel μ) : J 285 μ [.ref 81, .ref 0, .ref 65, .int (nI (4 * j))] [] := by
  refine step _ _ _ _ _ _ dL_law_285 ⟨rfl, ?_⟩
  refine step _ _ _ _ _ _ dL_law_286 ⟨rfl, ?_⟩
  refine step _ _ _ _ _ _ dL_law_287 ⟨rfl, ?_⟩
  refine step _ _ _ _ _ _ dL_law_288 ⟨rfl, ?_⟩
  refine step _ _ _ _ _ _ dL_law_289 ⟨rfl, ?_⟩
  refine ld _ (4 * j + 1) _ _ _ _ dL_law_290 (la1 _) (by omega) ?_
  refine step _ _ _ _ _ _ dL_law_291 ⟨rfl, ?_⟩
  refine step _ _ _ _ _ _ dL_law_292 ⟨rfl, ?_⟩
  refine step _ _ _ _ _ _ dL_law_293 ⟨rfl, ?_⟩
  refine step _ _ _ _ _ _ dL_law_294 ⟨rfl, ?_⟩
  refine ld _ (4 * j + 2) _ _ _ _ dL_law_295 (la2 _) (by omega) ?_
  refine law_v step (t := 55) (as := [.int (xs (4 * j + 1)), .int (xs (4 * j + 2))]) (a := 0) (st := []) dL_law_296 (by decide) rfl rfl ⟨by decide, by decide⟩ (by decide) ?_
  refine ab_Cl_m 8 55 _ _ _ _ ?_ (S5 hR)
  intro r μ1 h2
  refine step _ _ _ _ _ _ dL_law_299 ⟨rfl, ?_⟩
  refine step _ _ _ _ _ _ dL_law_300 ⟨rfl, ?_⟩
  refine step _ _ _ _ _ _ dL_law_301 ⟨rfl, ?_⟩
  refine step _ _ _ _ _ _ dL_law_302 ⟨rfl, ?_⟩
  refine step _ _ _ _ _ _ dL_law_303 ⟨rfl, ?_⟩
  refine ld _ (4 * j + 1) _ _ _ _ dL_law_304 (la1 _) (by omega) ?_
  refine step _ _ _ _ _ _ dL_law_305 ⟨rfl, ?_⟩
  refine step _ _ _ _ _ _ dL_law_306 ⟨rfl, ?_⟩
  refine step _ _ _ _ _ _ dL_law_307 ⟨rfl, ?_⟩
  refine step _ _ _ _ _ _ dL_law_308 ⟨rfl, ?_⟩
  refine ld _ (4 * j + 2) _ _ _ _ dL_law_309 (la2 _) (by omega) ?_
  refine law_v step (t := 102) (as := [.int (xs (4 * j + 1)), .int (xs (4 * j + 2))]) (a := 65) (st := ab_pu r []) dL_law_310 (by decide) rfl rfl ⟨by decide, by decide⟩ (by cases r <;> exact Nat.le_of_ble_eq_true rfl) ?_
  refine ab_Cl_m 8 102 _ _ _ _ ?_ h2
  rintro r' μ2 ⟨rfl, ⟨v, rfl⟩, hR'⟩
  exact step _ _ _ _ _ _ dL_law_313 ⟨rfl, fun _ => fin μ2 hR', fun h => absurd rfl h⟩
theorem law_6 (step : lawStep J) (ld : lawLd J L xs) (hj : 4 * j + 4 ≤ L) (fin : ∀ μ', Rel μ' → J 584 μ' [.ref 81, .ref 0, .ref 65, .int (nI (4 * j))] []) (hR : Rel μ) : J 318 μ [.ref 81, .ref 0, .ref 65, .int (nI (4 * j))] [] := by
  refine step _ _ _ _ _ _ dL_law_318 ⟨rfl, ?_⟩
  refine step _ _ _ _ _ _ dL_law_319 ⟨rfl, ?_⟩
  refine step _ _ _ _ _ _ dL_law_320 ⟨rfl, ?_⟩
  refine step _ _ _ _ _ _ dL_law_321 ⟨rfl, ?_⟩
  refine step _ _ _ _ _ _ dL_law_322 ⟨rfl, ?_⟩
  refine ld _ (4 * j + 1) _ _ _ _ dL_law_323 (la1 _) (by omega) ?_
  refine step _ _ _ _ _ _ dL_law_324 ⟨rfl, ?_⟩
  refine step _ _ _ _ _ _ dL_law_325 ⟨rfl, ?_⟩
  refine step _ _ _ _ _ _ dL_law_326 ⟨rfl, ?_⟩
  refine step _ _ _ _ _ _ dL_law_327 ⟨rfl, ?_⟩
  refine ld _ (4 * j + 2) _ _ _ _ dL_law_328 (la2 _) (by omega) ?_
  refine law_v step (t := 56) (as := [.int (xs (4 * j + 1)), .int (xs (4 * j + 2))]) (a := 0) (st := []) dL_law_329 (by decide) rfl rfl ⟨by decide, by decide⟩ (by decide) ?_
  refine ab_Cl_m 8 56 _ _ _ _ ?_ (S6 hR)
  intro r μ1 h2
  refine step _ _ _ _ _ _ dL_law_332 ⟨rfl, ?_⟩
  refine step _ _ _ _ _ _ dL_law_333 ⟨rfl, ?_⟩
  refine step _ _ _ _ _ _ dL_law_334 ⟨rfl, ?_⟩
  refine step _ _ _ _ _ _ dL_law_335 ⟨rfl, ?_⟩
  refine step _ _ _ _ _ _ dL_law_336 ⟨rfl, ?_⟩
  refine ld _ (4 * j + 1) _ _ _ _ dL_law_337 (la1 _) (by omega) ?_
  refine step _ _ _ _ _ _ dL_law_338 ⟨rfl, ?_⟩
  refine step _ _ _ _ _ _ dL_law_339 ⟨rfl, ?_⟩
  refine step _ _ _ _ _ _ dL_law_340 ⟨rfl, ?_⟩
  refine step _ _ _ _ _ _ dL_law_341 ⟨rfl, ?_⟩
  refine ld _ (4 * j + 2) _ _ _ _ dL_law_342 (la2 _) (by omega) ?_
  refine law_v step (t := 104) (as := [.int (xs (4 * j + 1)), .int (xs (4 * j + 2))]) (a := 65) (st := ab_pu r []) dL_law_343 (by decide) rfl rfl ⟨by decide, by decide⟩ (by cases r <;> exact Nat.le_of_ble_eq_true rfl) ?_
  refine ab_Cl_m 8 104 _ _ _ _ ?_ h2
  rintro r' μ2 ⟨rfl, ⟨v, rfl⟩, hR'⟩
  exact step _ _ _ _ _ _ dL_law_346 ⟨rfl, fun _ => fin μ2 hR', fun h => absurd rfl h⟩
theorem law_7 (step : lawStep J) (ld : lawLd J L xs) (hj : 4 * j + 4 ≤ L) (fin : ∀ μ', Rel μ' → J 584 μ' [.ref 81, .ref 0, .ref 65, .int (nI (4 * j))] []) (hR : Rel μ) : J 351 μ [.ref 81, .ref 0, .ref 65, .int (nI (4 * j))] [] := by
  refine step _ _ _ _ _ _ dL_law_351 ⟨rfl, ?_⟩
  refine step _ _ _ _ _ _ dL_law_352 ⟨rfl, ?_⟩
  refine step _ _ _ _ _ _ dL_law_353 ⟨rfl, ?_⟩
  refine step _ _ _ _ _ _ dL_law_354 ⟨rfl, ?_⟩
  refine step _ _ _ _ _ _ dL_law_355 ⟨rfl, ?_⟩
  refine ld _ (4 * j + 1) _ _ _ _ dL_law_356 (la1 _) (by omega) ?_
  refine law_v step (t := 57) (as := [.int (xs (4 * j + 1))]) (a := 0) (st := []) dL_law_357 (by decide) rfl rfl ⟨by decide, by decide⟩ (by decide) ?_
  refine ab_Cl_m 8 57 _ _ _ _ ?_ (S7 hR)
  intro r μ1 h2
  refine step _ _ _ _ _ _ dL_law_360 ⟨rfl, ?_⟩
  refine step _ _ _ _ _ _ dL_law_361 ⟨rfl, ?_⟩
  refine step _ _ _ _ _ _ dL_law_362 ⟨rfl, ?_⟩
  refine step _ _ _ _ _ _ dL_law_363 ⟨rfl, ?_⟩
  refine step _ _ _ _ _ _ dL_law_364 ⟨rfl, ?_⟩
  refine ld _ (4 * j + 1) _ _ _ _ dL_law_365 (la1 _) (by omega) ?_
  refine law_v step (t := 105) (as := [.int (xs (4 * j + 1))]) (a := 65) (st := ab_pu r []) dL_law_366 (by decide) rfl rfl ⟨by decide, by decide⟩ (by cases r <;> exact Nat.le_of_ble_eq_true rfl) ?_
  refine ab_Cl_m 8 105 _ _ _ _ ?_ h2
  rintro r' μ2 ⟨rfl, ⟨v, rfl⟩, hR'⟩
  exact step _ _ _ _ _ _ dL_law_369 ⟨rfl, fun _ => fin μ2 hR', fun h => absurd rfl h⟩
theorem law_8 (step : lawStep J) (ld : lawLd J L xs) (hj : 4 * j + 4 ≤ L) (fin : ∀ μ', Rel μ' → J 584 μ' [.ref 81, .ref 0, .ref 65, .int (nI (4 * j))] []) (hR : Rel μ) : J 374 μ [.ref 81, .ref 0, .ref 65, .int (nI (4 * j))] [] := by
  refine step _ _ _ _ _ _ dL_law_374 ⟨rfl, ?_⟩
  refine step _ _ _ _ _ _ dL_law_375 ⟨rfl, ?_⟩
  refine step _ _ _ _ _ _ dL_law_376 ⟨rfl, ?_⟩
  refine step _ _ _ _ _ _ dL_law_377 ⟨rfl, ?_⟩
  refine step _ _ _ _ _ _ dL_law_378 ⟨rfl, ?_⟩
  refine ld _ (4 * j + 1) _ _ _ _ dL_law_379 (la1 _) (by omega) ?_
  refine step _ _ _ _ _ _ dL_law_380 ⟨rfl, ?_⟩
  refine step _ _ _ _ _ _ dL_law_381 ⟨rfl, ?_⟩
  refine step _ _ _ _ _ _ dL_law_382 ⟨rfl, ?_⟩
  refine step _ _ _ _ _ _ dL_law_383 ⟨rfl, ?_⟩
  refine ld _ (4 * j + 2) _ _ _ _ dL_law_384 (la2 _) (by omega) ?_
  refine law_v step (t := 58) (as := [.int (xs (4 * j + 1)), .int (xs (4 * j + 2))]) (a := 0) (st := []) dL_law_385 (by decide) rfl rfl ⟨by decide, by decide⟩ (by decide) ?_
  refine ab_Cl_m 8 58 _ _ _ _ ?_ (S8 hR)
  intro r μ1 h2
  refine step _ _ _ _ _ _ dL_law_388 ⟨rfl, ?_⟩
  refine step _ _ _ _ _ _ dL_law_389 ⟨rfl, ?_⟩
  refine step _ _ _ _ _ _ dL_law_390 ⟨rfl, ?_⟩
  refine step _ _ _ _ _ _ dL_law_391 ⟨rfl, ?_⟩
  refine step _ _ _ _ _ _ dL_law_392 ⟨rfl, ?_⟩
  refine ld _ (4 * j + 1) _ _ _ _ dL_law_393 (la1 _) (by omega) ?_
  refine step _ _ _ _ _ _ dL_law_394 ⟨rfl, ?_⟩
  refine step _ _ _ _ _ _ dL_law_395 ⟨rfl, ?_⟩
  refine step _ _ _ _ _ _ dL_law_396 ⟨rfl, ?_⟩
  refine step _ _ _ _ _ _ dL_law_397 ⟨rfl, ?_⟩
  refine ld _ (4 * j + 2) _ _ _ _ dL_law_398 (la2 _) (by omega) ?_
  refine law_v step (t := 106) (as := [.int (xs (4 * j + 1)), .int (xs (4 * j + 2))]) (a := 65) (st := ab_pu r []) dL_law_399 (by decide) rfl rfl ⟨by decide, by decide⟩ (by cases r <;> exact Nat.le_of_ble_eq_true rfl) ?_
  refine ab_Cl_m 8 106 _ _ _ _ ?_ h2
  rintro r' μ2 ⟨rfl, ⟨v, rfl⟩, hR'⟩
  exact step _ _ _ _ _ _ dL_law_402 ⟨rfl, fun _ => fin μ2 hR', fun h => absurd rfl h⟩
theorem law_9 (step : lawStep J) (ld : lawLd J L xs) (hj : 4 * j + 4 ≤ L) (fin : ∀ μ', Rel μ' → J 584 μ' [.ref 81, .ref 0, .ref 65, .int (nI (4 * j))] []) (hR : Rel μ) : J 407 μ [.ref 81, .ref 0, .ref 65, .int (nI (4 * j))] [] := by
  refine step _ _ _ _ _ _ dL_law_407 ⟨rfl, ?_⟩
  refine law_v step (t := 59) (as := []) (a := 0) (st := []) dL_law_408 (by decide) rfl rfl ⟨by decide, by decide⟩ (by decide) ?_
  refine ab_Cl_m 8 59 _ _ _ _ ?_ (S9 hR)
  intro r μ1 h2
  refine step _ _ _ _ _ _ dL_law_411 ⟨rfl, ?_⟩
  refine law_v step (t := 108) (as := []) (a := 65) (st := ab_pu r []) dL_law_412 (by decide) rfl rfl ⟨by decide, by decide⟩ (by cases r <;> exact Nat.le_of_ble_eq_true rfl) ?_
  refine ab_Cl_m 8 108 _ _ _ _ ?_ h2
  rintro r' μ2 ⟨rfl, ⟨v, rfl⟩, hR'⟩
  exact step _ _ _ _ _ _ dL_law_415 ⟨rfl, fun _ => fin μ2 hR', fun h => absurd rfl h⟩
theorem law_10 (step : lawStep J) (ld : lawLd J L xs) (hj : 4 * j + 4 ≤ L) (fin : ∀ μ', Rel μ' → J 584 μ' [.ref 81, .ref 0, .ref 65, .int (nI (4 * j))] []) (hR : Rel μ) : J 420 μ [.ref 81, .ref 0, .ref 65, .int (nI (4 * j))] [] := by
  refine step _ _ _ _ _ _ dL_law_420 ⟨rfl, ?_⟩
  refine law_v step (t := 60) (as := []) (a := 0) (st := []) dL_law_421 (by decide) rfl rfl ⟨by decide, by decide⟩ (by decide) ?_
  refine ab_Cl_m 8 60 _ _ _ _ ?_ (S10 hR)
  intro r μ1 h2
  refine step _ _ _ _ _ _ dL_law_424 ⟨rfl, ?_⟩
  refine law_v step (t := 109) (as := []) (a := 65) (st := ab_pu r []) dL_law_425 (by decide) rfl rfl ⟨by decide, by decide⟩ (by cases r <;> exact Nat.le_of_ble_eq_true rfl) ?_
  refine ab_Cl_m 8 109 _ _ _ _ ?_ h2
  rintro r' μ2 ⟨rfl, ⟨v, rfl⟩, hR'⟩
  exact step _ _ _ _ _ _ dL_law_428 ⟨rfl, fun _ => fin μ2 hR', fun h => absurd rfl h⟩
theorem law_11 (step : lawStep J) (ld : lawLd J L xs) (hj : 4 * j + 4 ≤ L) (fin : ∀ μ', Rel μ' → J 584 μ' [.ref 81, .ref 0, .ref 65, .int (nI (4 * j))] []) (hR : Rel μ) : J 433 μ [.ref 81, .ref 0, .ref 65, .int (nI (4 * j))] [] := by
  refine step _ _ _ _ _ _ dL_law_433 ⟨rfl, ?_⟩
  refine law_v step (t := 61) (as := []) (a := 0) (st := []) dL_law_434 (by decide) rfl rfl ⟨by decide, by decide⟩ (by decide) ?_
  refine ab_Cl_m 8 61 _ _ _ _ ?_ (S11 hR)
  intro r μ1 h2
  refine step _ _ _ _ _ _ dL_law_437 ⟨rfl, ?_⟩
  refine law_v step (t := 110) (as := []) (a := 65) (st := ab_pu r []) dL_law_438 (by decide) rfl rfl ⟨by decide, by decide⟩ (by cases r <;> exact Nat.le_of_ble_eq_true rfl) ?_
  refine ab_Cl_m 8 110 _ _ _ _ ?_ h2
  rintro r' μ2 ⟨rfl, ⟨v, rfl⟩, hR'⟩
  exact step _ _ _ _ _ _ dL_law_441 ⟨rfl, fun _ => fin μ2 hR', fun h => absurd rfl h⟩
theorem law_12 (step : lawStep J) (ld : lawLd J L xs) (hj : 4 * j + 4 ≤ L) (fin : ∀ μ', Rel μ' → J 584 μ' [.ref 81, .ref 0, .ref 65, .int (nI (4 * j))] []) (hR : Rel μ) : J 446 μ [.ref 81, .ref 0, .ref 65, .int (nI (4 * j))] [] := by
  refine step _ _ _ _ _ _ dL_law_446 ⟨rfl, ?_⟩
  refine step _ _ _ _ _ _ dL_law_447 ⟨rfl, ?_⟩
  refine step _ _ _ _ _ _ dL_law_448 ⟨rfl, ?_⟩
  refine step _ _ _ _ _ _ dL_law_449 ⟨rfl, ?_⟩
  refine step _ _ _ _ _ _ dL_law_450 ⟨rfl, ?_⟩
  refine ld _ (4 * j + 1) _ _ _ _ dL_law_451 (la1 _) (by omega) ?_
  refine step _ _ _ _ _ _ dL_law_452 ⟨rfl, ?_⟩
  refine step _ _ _ _ _ _ dL_law_453 ⟨rfl, ?_⟩
  refine step _ _ _ _ _ _ dL_law_454 ⟨rfl, ?_⟩
  refine step _ _ _ _ _ _ dL_law_455 ⟨rfl, ?_⟩
  refine ld _ (4 * j + 2) _ _ _ _ dL_law_456 (la2 _) (by omega) ?_
  refine law_v step (t := 62) (as := [.int (xs (4 * j + 1)), .int (xs (4 * j + 2))]) (a := 0) (st := []) dL_law_457 (by decide) rfl rfl ⟨by decide, by decide⟩ (by decide) ?_
  refine ab_Cl_m 8 62 _ _ _ _ ?_ (S12 hR)
  intro r μ1 h2
  refine step _ _ _ _ _ _ dL_law_460 ⟨rfl, ?_⟩
  refine step _ _ _ _ _ _ dL_law_461 ⟨rfl, ?_⟩
  refine step _ _ _ _ _ _ dL_law_462 ⟨rfl, ?_⟩
  refine step _ _ _ _ _ _ dL_law_463 ⟨rfl, ?_⟩
  refine step _ _ _ _ _ _ dL_law_464 ⟨rfl, ?_⟩
  refine ld _ (4 * j + 1) _ _ _ _ dL_law_465 (la1 _) (by omega) ?_
  refine step _ _ _ _ _ _ dL_law_466 ⟨rfl, ?_⟩
  refine step _ _ _ _ _ _ dL_law_467 ⟨rfl, ?_⟩
  refine step _ _ _ _ _ _ dL_law_468 ⟨rfl, ?_⟩
  refine step _ _ _ _ _ _ dL_law_469 ⟨rfl, ?_⟩
  refine ld _ (4 * j + 2) _ _ _ _ dL_law_470 (la2 _) (by omega) ?_
  refine law_v step (t := 111) (as := [.int (xs (4 * j + 1)), .int (xs (4 * j + 2))]) (a := 65) (st := ab_pu r []) dL_law_471 (by decide) rfl rfl ⟨by decide, by decide⟩ (by cases r <;> exact Nat.le_of_ble_eq_true rfl) ?_
  refine ab_Cl_m 8 111 _ _ _ _ ?_ h2
  rintro r' μ2 ⟨rfl, ⟨v, rfl⟩, hR'⟩
  exact step _ _ _ _ _ _ dL_law_474 ⟨rfl, fun _ => fin μ2 hR', fun h => absurd rfl h⟩
theorem law_13 (step : lawStep J) (ld : lawLd J L xs) (hj : 4 * j + 4 ≤ L) (fin : ∀ μ', Rel μ' → J 584 μ' [.ref 81, .ref 0, .ref 65, .int (nI (4 * j))] []) (hR : Rel μ) : J 479 μ [.ref 81, .ref 0, .ref 65, .int (nI (4 * j))] [] := by
  refine step _ _ _ _ _ _ dL_law_479 ⟨rfl, ?_⟩
  refine step _ _ _ _ _ _ dL_law_480 ⟨rfl, ?_⟩
  refine step _ _ _ _ _ _ dL_law_481 ⟨rfl, ?_⟩
  refine step _ _ _ _ _ _ dL_law_482 ⟨rfl, ?_⟩
  refine step _ _ _ _ _ _ dL_law_483 ⟨rfl, ?_⟩
  refine ld _ (4 * j + 1) _ _ _ _ dL_law_484 (la1 _) (by omega) ?_
  refine law_v step (t := 63) (as := [.int (xs (4 * j + 1))]) (a := 0) (st := []) dL_law_485 (by decide) rfl rfl ⟨by decide, by decide⟩ (by decide) ?_
  refine ab_Cl_m 8 63 _ _ _ _ ?_ (S13 hR)
  intro r μ1 h2
  refine step _ _ _ _ _ _ dL_law_488 ⟨rfl, ?_⟩
  refine step _ _ _ _ _ _ dL_law_489 ⟨rfl, ?_⟩
  refine step _ _ _ _ _ _ dL_law_490 ⟨rfl, ?_⟩
  refine step _ _ _ _ _ _ dL_law_491 ⟨rfl, ?_⟩
  refine step _ _ _ _ _ _ dL_law_492 ⟨rfl, ?_⟩
  refine ld _ (4 * j + 1) _ _ _ _ dL_law_493 (la1 _) (by omega) ?_
  refine law_v step (t := 112) (as := [.int (xs (4 * j + 1))]) (a := 65) (st := ab_pu r []) dL_law_494 (by decide) rfl rfl ⟨by decide, by decide⟩ (by cases r <;> exact Nat.le_of_ble_eq_true rfl) ?_
  refine ab_Cl_m 8 112 _ _ _ _ ?_ h2
  rintro r' μ2 ⟨rfl, ⟨v, rfl⟩, hR'⟩
  exact step _ _ _ _ _ _ dL_law_497 ⟨rfl, fun _ => fin μ2 hR', fun h => absurd rfl h⟩
theorem law_14 (step : lawStep J) (ld : lawLd J L xs) (hj : 4 * j + 4 ≤ L) (fin : ∀ μ', Rel μ' → J 584 μ' [.ref 81, .ref 0, .ref 65, .int (nI (4 * j))] []) (hR : Rel μ) : J 502 μ [.ref 81, .ref 0, .ref 65, .int (nI (4 * j))] [] := by
  refine step _ _ _ _ _ _ dL_law_502 ⟨rfl, ?_⟩
  refine law_v step (t := 64) (as := []) (a := 0) (st := []) dL_law_503 (by decide) rfl rfl ⟨by decide, by decide⟩ (by decide) ?_
  refine ab_Cl_m 8 64 _ _ _ _ ?_ (S14 hR)
  intro r μ1 h2
  refine step _ _ _ _ _ _ dL_law_506 ⟨rfl, ?_⟩
  refine law_v step (t := 114) (as := []) (a := 65) (st := ab_pu r []) dL_law_507 (by decide) rfl rfl ⟨by decide, by decide⟩ (by cases r <;> exact Nat.le_of_ble_eq_true rfl) ?_
  refine ab_Cl_m 8 114 _ _ _ _ ?_ h2
  rintro r' μ2 ⟨rfl, ⟨v, rfl⟩, hR'⟩
  exact step _ _ _ _ _ _ dL_law_510 ⟨rfl, fun _ => fin μ2 hR', fun h => absurd rfl h⟩
theorem law_15 (step : lawStep J) (ld : lawLd J L xs) (hj : 4 * j + 4 ≤ L) (fin : ∀ μ', Rel μ' → J 584 μ' [.ref 81, .ref 0, .ref 65, .int (nI (4 * j))] []) (hR : Rel μ) : J 515 μ [.ref 81, .ref 0, .ref 65, .int (nI (4 * j))] [] := by
  refine step _ _ _ _ _ _ dL_law_515 ⟨rfl, ?_⟩
  refine step _ _ _ _ _ _ dL_law_516 ⟨rfl, ?_⟩
  refine step _ _ _ _ _ _ dL_law_517 ⟨rfl, ?_⟩
  refine step _ _ _ _ _ _ dL_law_518 ⟨rfl, ?_⟩
  refine step _ _ _ _ _ _ dL_law_519 ⟨rfl, ?_⟩
  refine ld _ (4 * j + 1) _ _ _ _ dL_law_520 (la1 _) (by omega) ?_
  refine law_v step (t := 65) (as := [.int (xs (4 * j + 1))]) (a := 0) (st := []) dL_law_521 (by decide) rfl rfl ⟨by decide, by decide⟩ (by decide) ?_
  refine ab_Cl_m 8 65 _ _ _ _ ?_ (S15 hR)
  intro r μ1 h2
  refine step _ _ _ _ _ _ dL_law_524 ⟨rfl, ?_⟩
  refine step _ _ _ _ _ _ dL_law_525 ⟨rfl, ?_⟩
  refine step _ _ _ _ _ _ dL_law_526 ⟨rfl, ?_⟩
  refine step _ _ _ _ _ _ dL_law_527 ⟨rfl, ?_⟩
  refine step _ _ _ _ _ _ dL_law_528 ⟨rfl, ?_⟩
  refine ld _ (4 * j + 1) _ _ _ _ dL_law_529 (la1 _) (by omega) ?_
  refine law_v step (t := 115) (as := [.int (xs (4 * j + 1))]) (a := 65) (st := ab_pu r []) dL_law_530 (by decide) rfl rfl ⟨by decide, by decide⟩ (by cases r <;> exact Nat.le_of_ble_eq_true rfl) ?_
  refine ab_Cl_m 8 115 _ _ _ _ ?_ h2
  rintro r' μ2 ⟨rfl, ⟨v, rfl⟩, hR'⟩
  exact step _ _ _ _ _ _ dL_law_533 ⟨rfl, fun _ => fin μ2 hR', fun h => absurd rfl h⟩
theorem law_16 (step : lawStep J) (ld : lawLd J L xs) (hj : 4 * j + 4 ≤ L) (fin : ∀ μ', Rel μ' → J 584 μ' [.ref 81, .ref 0, .ref 65, .int (nI (4 * j))] []) (hR : Rel μ) : J 538 μ [.ref 81, .ref 0, .ref 65, .int (nI (4 * j))] [] := by
  refine step _ _ _ _ _ _ dL_law_538 ⟨rfl, ?_⟩
  refine step _ _ _ _ _ _ dL_law_539 ⟨rfl, ?_⟩
  refine step _ _ _ _ _ _ dL_law_540 ⟨rfl, ?_⟩
  refine step _ _ _ _ _ _ dL_law_541 ⟨rfl, ?_⟩
  refine step _ _ _ _ _ _ dL_law_542 ⟨rfl, ?_⟩
  refine ld _ (4 * j + 1) _ _ _ _ dL_law_543 (la1 _) (by omega) ?_
  refine law_v step (t := 66) (as := [.int (xs (4 * j + 1))]) (a := 0) (st := []) dL_law_544 (by decide) rfl rfl ⟨by decide, by decide⟩ (by decide) ?_
  refine ab_Cl_m 8 66 _ _ _ _ ?_ (S16 hR)
  intro r μ1 h2
  refine step _ _ _ _ _ _ dL_law_547 ⟨rfl, ?_⟩
  refine step _ _ _ _ _ _ dL_law_548 ⟨rfl, ?_⟩
  refine step _ _ _ _ _ _ dL_law_549 ⟨rfl, ?_⟩
  refine step _ _ _ _ _ _ dL_law_550 ⟨rfl, ?_⟩
  refine step _ _ _ _ _ _ dL_law_551 ⟨rfl, ?_⟩
  refine ld _ (4 * j + 1) _ _ _ _ dL_law_552 (la1 _) (by omega) ?_
  refine law_v step (t := 116) (as := [.int (xs (4 * j + 1))]) (a := 65) (st := ab_pu r []) dL_law_553 (by decide) rfl rfl ⟨by decide, by decide⟩ (by cases r <;> exact Nat.le_of_ble_eq_true rfl) ?_
  refine ab_Cl_m 8 116 _ _ _ _ ?_ h2
  rintro r' μ2 ⟨rfl, ⟨v, rfl⟩, hR'⟩
  exact step _ _ _ _ _ _ dL_law_556 ⟨rfl, fun _ => fin μ2 hR', fun h => absurd rfl h⟩
theorem law_17 (step : lawStep J) (ld : lawLd J L xs) (hj : 4 * j + 4 ≤ L) (fin : ∀ μ', Rel μ' → J 584 μ' [.ref 81, .ref 0, .ref 65, .int (nI (4 * j))] []) (hR : Rel μ) : J 561 μ [.ref 81, .ref 0, .ref 65, .int (nI (4 * j))] [] := by
  refine step _ _ _ _ _ _ dL_law_561 ⟨rfl, ?_⟩
  refine step _ _ _ _ _ _ dL_law_562 ⟨rfl, ?_⟩
  refine step _ _ _ _ _ _ dL_law_563 ⟨rfl, ?_⟩
  refine step _ _ _ _ _ _ dL_law_564 ⟨rfl, ?_⟩
  refine step _ _ _ _ _ _ dL_law_565 ⟨rfl, ?_⟩
  refine ld _ (4 * j + 1) _ _ _ _ dL_law_566 (la1 _) (by omega) ?_
  refine law_v step (t := 67) (as := [.int (xs (4 * j + 1))]) (a := 0) (st := []) dL_law_567 (by decide) rfl rfl ⟨by decide, by decide⟩ (by decide) ?_
  refine ab_Cl_m 8 67 _ _ _ _ ?_ (S17 hR)
  intro r μ1 h2
  refine step _ _ _ _ _ _ dL_law_570 ⟨rfl, ?_⟩
  refine step _ _ _ _ _ _ dL_law_571 ⟨rfl, ?_⟩
  refine step _ _ _ _ _ _ dL_law_572 ⟨rfl, ?_⟩
  refine step _ _ _ _ _ _ dL_law_573 ⟨rfl, ?_⟩
  refine step _ _ _ _ _ _ dL_law_574 ⟨rfl, ?_⟩
  refine ld _ (4 * j + 1) _ _ _ _ dL_law_575 (la1 _) (by omega) ?_
  refine law_v step (t := 117) (as := [.int (xs (4 * j + 1))]) (a := 65) (st := ab_pu r []) dL_law_576 (by decide) rfl rfl ⟨by decide, by decide⟩ (by cases r <;> exact Nat.le_of_ble_eq_true rfl) ?_
  refine ab_Cl_m 8 117 _ _ _ _ ?_ h2
  rintro r' μ2 ⟨rfl, ⟨v, rfl⟩, hR'⟩
  exact step _ _ _ _ _ _ dL_law_579 ⟨rfl, fun _ => fin μ2 hR', fun h => absurd rfl h⟩
theorem law_one (step : lawStep J) (ld : lawLd J L xs) (hj : 4 * j + 4 ≤ L) (fin : ∀ μ', Rel μ' → J 584 μ' [.ref 81, .ref 0, .ref 65, .int (nI (4 * j))] []) (hR : Rel μ) : J 26 μ [.ref 81, .ref 0, .ref 65, .int (nI (4 * j))] [] := by
  refine step _ _ _ _ _ _ dL_law_26 ⟨rfl, ?_⟩
  refine step _ _ _ _ _ _ dL_law_27 ⟨rfl, ?_⟩
  refine ld _ (4 * j) _ _ _ _ dL_law_28 rfl (by omega) ?_
  refine step _ _ _ _ _ _ dL_law_29 ⟨rfl, ?_⟩
  refine step _ _ _ _ _ _ dL_law_31 ⟨rfl, ?_⟩
  refine step _ _ _ _ _ _ dL_law_32 ⟨fun _ => fin μ hR, fun h => ?_⟩
  generalize xs (4 * j) &&& (Int8.ofInt 31).toInt32 = v at h ⊢
  obtain ⟨k, hk, hv⟩ : ∃ k : Nat, k < 18 ∧ v.toInt = (k : Int) := ⟨v.toInt.toNat, by omega, by omega⟩
  rw [hv]
  match k, hk with
  | 0, _ => exact ⟨_, rfl, law_0 step ld hj fin hR⟩
  | 1, _ => exact ⟨_, rfl, law_1 step ld hj fin hR⟩
  | 2, _ => exact ⟨_, rfl, law_2 step ld hj fin hR⟩
  | 3, _ => exact ⟨_, rfl, law_3 step ld hj fin hR⟩
  | 4, _ => exact ⟨_, rfl, law_4 step ld hj fin hR⟩
  | 5, _ => exact ⟨_, rfl, law_5 step ld hj fin hR⟩
  | 6, _ => exact ⟨_, rfl, law_6 step ld hj fin hR⟩
  | 7, _ => exact ⟨_, rfl, law_7 step ld hj fin hR⟩
  | 8, _ => exact ⟨_, rfl, law_8 step ld hj fin hR⟩
  | 9, _ => exact ⟨_, rfl, law_9 step ld hj fin hR⟩
  | 10, _ => exact ⟨_, rfl, law_10 step ld hj fin hR⟩
  | 11, _ => exact ⟨_, rfl, law_11 step ld hj fin hR⟩
  | 12, _ => exact ⟨_, rfl, law_12 step ld hj fin hR⟩
  | 13, _ => exact ⟨_, rfl, law_13 step ld hj fin hR⟩
  | 14, _ => exact ⟨_, rfl, law_14 step ld hj fin hR⟩
  | 15, _ => exact ⟨_, rfl, law_15 step ld hj fin hR⟩
  | 16, _ => exact ⟨_, rfl, law_16 step ld hj fin hR⟩
  | 17, _ => exact ⟨_, rfl, law_17 step ld hj fin hR⟩
  | n + 18, h => exact absurd h (by omega)
theorem law_all (step : lawStep J) (ld : lawLd J L xs) (ln : lawLn J L) (hL : L ≤ 2048) : ∀ (f j : Nat) (μ : ab_M), L - 4 * j ≤ f → 4 * j ≤ L → Rel μ → J 18 μ [.ref 81, .ref 0, .ref 65, .int (nI (4 * j))] [] := by
  intro f
  induction f with
  | zero =>
    intro j μ h1 h2 hR
    refine step _ _ _ _ _ _ dL_law_18 ⟨rfl, ?_⟩
    refine step _ _ _ _ _ _ dL_law_19 ⟨rfl, ?_⟩
    refine ln _ _ _ _ dL_law_20 ?_
    refine step _ _ _ _ _ _ dL_law_21 ⟨rfl, ?_⟩
    refine step _ _ _ _ _ _ dL_law_22 ⟨rfl, ?_⟩
    refine step _ _ _ _ _ _ dL_law_23 ⟨rfl, fun _ => ?_, fun h => absurd ?_ h⟩
    · refine step _ _ 590 _ _ _ dL_law_590 ⟨rfl, ?_⟩
      exact step _ _ _ _ _ _ dL_law_591 ⟨rfl, _, rfl, Or.inl rfl, rfl⟩
    · show nI L - nI 4 < nI (4 * j)
      rw [z_lt, pk_sub_toInt (by omega) (by omega), nI_ti (by omega)]
      omega
  | succ f ih =>
    intro j μ h1 h2 hR
    refine step _ _ _ _ _ _ dL_law_18 ⟨rfl, ?_⟩
    refine step _ _ _ _ _ _ dL_law_19 ⟨rfl, ?_⟩
    refine ln _ _ _ _ dL_law_20 ?_
    refine step _ _ _ _ _ _ dL_law_21 ⟨rfl, ?_⟩
    refine step _ _ _ _ _ _ dL_law_22 ⟨rfl, ?_⟩
    refine step _ _ _ _ _ _ dL_law_23 ⟨rfl, fun _ => ?_, fun h => ?_⟩
    · refine step _ _ 590 _ _ _ dL_law_590 ⟨rfl, ?_⟩
      exact step _ _ _ _ _ _ dL_law_591 ⟨rfl, _, rfl, Or.inl rfl, rfl⟩
    · have h : ¬ nI L - nI 4 < nI (4 * j) := h
      rw [z_lt, pk_sub_toInt (by omega) (by omega), nI_ti (by omega)] at h
      refine law_one step ld (by omega) (fun μ' hR' => ?_) hR
      refine step _ _ _ _ _ _ dL_law_584 ⟨rfl, Nat.le_of_ble_eq_true rfl, ?_⟩
      refine step _ _ _ _ _ _ dL_law_587 ⟨rfl, ?_⟩
      have e : nI (4 * j) + Int32.ofInt 4 = nI (4 * (j + 1)) := q_ad
      have := ih (j + 1) μ' (by omega) (by omega) hR'
      rw [← e] at this
      exact this
end LAWL
