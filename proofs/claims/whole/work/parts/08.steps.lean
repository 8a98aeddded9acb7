section ABT
variable {p : Program} {l : Launch} {e : Env} {R : Room} {s : State} {m : MethodId} {args : Array Value} {below : List Frame} {meth : Method} {c : Code} {cells slots : Nat} {Qz : State → Prop} {D : va_G} {ad : Nat → Nat} {cI cZ cR : ClassId} {nL o d : Nat} {A0 : Nat → Prop} {H0 : Heap} {cc : ByteArray}
theorem ab_math (X : ab_X p R s m args c cells slots D ad cI cZ cR nL o d A0 cc) {idx f pc : Nat} {μ : ab_M} {ls st : List Value} (hd : decode cc pc = .ok (.invokestatic idx, 3)) (hm : (o, idx, f) ∈ ab_cM) (h : ab_mf f (ab_Jc p l e R s m args below meth c cells slots Qz D ad cI cZ cR nL A0 H0) pc μ ls st) : ab_Jc p l e R s m args below meth c cells slots Qz D ad cI cZ cR nL A0 H0 pc μ ls st := by
  obtain ⟨hx, hb, hml, hown, hts, hK, hN, hinj, hA, hfr, hlo, hce, hsl⟩ := X
  obtain ⟨w1, w2⟩ := ab_okM _ hm
  have hini := hts _ ab_okS_i
  have key : ∀ r : List Value, r.length ≤ 4 → ((r.map (ab_sh ad)).map fun v => v.category).sum + 13 ≤ R.locals := fun r hr => by
    have := ab_sum_le (r.map (ab_sh ad)) (by rw [List.length_map]; exact hr)
    omega
  match f, h, w1 with
  | 0, h, w1 =>
    obtain ⟨x, r, rfl, h1, h2⟩ := ab_p1_e h
    exact fun H locs lsA hP hS hl => va_mabs hx hb (hml.trans hl.1.symm) hown (hts _ w1) (hts _ ab_okS_s0) hini (hts _ ab_okS_c0) (by omega) (key r h1) hce hsl hd (h2 H locs lsA hP hS hl)
  | 1, h, w1 =>
    obtain ⟨x, y, r, rfl, h1, h2⟩ := ab_p2_e h
    exact fun H locs lsA hP hS hl => va_mmax hx hb (hml.trans hl.1.symm) hown (hts _ w1) (hts _ ab_okS_s1) hini (hts _ ab_okS_c1) (by omega) (key r h1) hce hsl hd (h2 H locs lsA hP hS hl)
  | 2, h, w1 =>
    obtain ⟨x, y, r, rfl, h1, h2⟩ := ab_p2_e h
    exact fun H locs lsA hP hS hl => va_mmin hx hb (hml.trans hl.1.symm) hown (hts _ w1) (hts _ ab_okS_s2) hini (hts _ ab_okS_c2) (by omega) (key r h1) hce hsl hd (h2 H locs lsA hP hS hl)
  | n + 3, h, w1 => exact h.elim
theorem ab_E_obj {μ : ab_M} {a ci : Nat} (h : ab_ob a ci) (hc : ci < 7) : ab_ak a = 2 ∧ ab_E ad cI cZ cR μ a = .inr (ci, (List.range (ab_nf ci)).map (fun j => ab_sh ad (ab_fv μ a j))) := by
  obtain ⟨ha, hoc⟩ := h
  have hak : ab_ak a = 2 := by
    unfold ab_ak
    have : ¬ a = 1 := fun z => by subst z; rw [← hoc] at hc; exact absurd hc (by decide)
    rw [if_neg this, if_pos (by rw [hoc]; exact hc)]
  refine ⟨hak, ?_⟩
  unfold ab_E
  rw [if_neg (by rw [hak]; decide), if_pos hak, hoc]
theorem ab_E_arr {μ : ab_M} {a b : Nat} (h : ab_ak a = b) (hb : b < 2) : ab_E ad cI cZ cR μ a = .inl (if b = 1 then cZ else cI, ab_al a, .inl (fun j => if j < ab_al a then μ (ab_cmp a) (ab_off a + j) else 0)) := by
  unfold ab_E
  rw [if_neg (by omega), if_neg (by omega), h]
theorem ab_get (X : ab_X p R s m args c cells slots D ad cI cZ cR nL o d A0 cc) {idx pc a : Nat} {q : Nat × Nat} {μ : ab_M} {ls st : List Value} (hd : decode cc pc = .ok (.getfield idx, 3)) (hq : ab_ft o idx = some q) (ho : ab_ob a q.1) (h : ab_Jc p l e R s m args below meth c cells slots Qz D ad cI cZ cR nL A0 H0 (pc + 3) μ ls (ab_fv μ a q.2 :: st)) : ab_Jc p l e R s m args below meth c cells slots Qz D ad cI cZ cR nL A0 H0 pc μ ls (.ref a :: st) := by
  obtain ⟨hx, hb, hml, hown, hts, hK, hN, hinj, hA, hfr, hlo, hce, hsl⟩ := X
  obtain ⟨w1, w2, w3⟩ := ab_okF _ (ab_ft_mem hq)
  obtain ⟨hak, hE⟩ := ab_E_obj (ad := ad) (cI := cI) (cZ := cZ) (cR := cR) (μ := μ) ho w2
  intro H locs lsA hP hS hl
  have h0 := ab_ws_at (ad := ad) (cI := cI) (cZ := cZ) (cR := cR) (μ := μ) ho.1
  rw [hE] at h0
  refine va_get hx hb hts (ab_Tin w2) hown hK hP a h0 (ab_vw w2) q.2 w3 (hts _ w1) (fun _ h9 => h9) (v := ab_sh ad (ab_fv μ a q.2)) ?_ hd (h H locs lsA hP hS hl)
  rw [List.getElem?_map, List.getElem?_range w3]
  rfl
theorem ab_put (X : ab_X p R s m args c cells slots D ad cI cZ cR nL o d A0 cc) {idx pc a : Nat} {q : Nat × Nat} {μ : ab_M} {v : Int32} {ls st : List Value} (hd : decode cc pc = .ok (.putfield idx, 3)) (hq : ab_ft o idx = some q) (ho : ab_ob a q.1) (hr : ab_rf a q.2 = none) (hi : (ab_T q.1 q.2).2.2 = ("I", false)) (h : ab_Jc p l e R s m args below meth c cells slots Qz D ad cI cZ cR nL A0 H0 (pc + 3) (ab_up μ (ab_cmp a) (ab_off a + q.2) v) ls st) : ab_Jc p l e R s m args below meth c cells slots Qz D ad cI cZ cR nL A0 H0 pc μ ls (.int v :: .ref a :: st) := by
  obtain ⟨hx, hb, hml, hown, hts, hK, hN, hinj, hA, hfr, hlo, hce, hsl⟩ := X
  obtain ⟨w1, w2, w3⟩ := ab_okF _ (ab_ft_mem hq)
  obtain ⟨hak, hE⟩ := ab_E_obj (ad := ad) (cI := cI) (cZ := cZ) (cR := cR) (μ := μ) ho w2
  obtain ⟨-, hE2⟩ := ab_E_obj (ad := ad) (cI := cI) (cZ := cZ) (cR := cR) (μ := ab_up μ (ab_cmp a) (ab_off a + q.2) v) ho w2
  intro H locs lsA hP hS hl
  have h0 := ab_ws_at (ad := ad) (cI := cI) (cZ := cZ) (cR := cR) (μ := μ) ho.1
  rw [hE] at h0
  have hsz : q.2 < ab_sz a := by unfold ab_sz; rw [if_neg (by rw [hak]; decide), if_pos hak, ho.2]; exact w3
  have hset : (ab_ws ad cI cZ cR μ).set a (ad a, .inr (q.1, ((List.range (ab_nf q.1)).map (fun j => ab_sh ad (ab_fv μ a j))).set q.2 (.int v))) = ab_ws ad cI cZ cR (ab_up μ (ab_cmp a) (ab_off a + q.2) v) := by
    refine ab_ws_set ho.1 ?_ (fun k' hk' hne => ab_E_up ho.1 hk' hne hsz)
    rw [hE2]
    congr 2
    apply List.ext_getElem?
    intro i
    by_cases hi : i < ab_nf q.1
    · by_cases hk : i = q.2
      · subst hk
        rw [List.getElem?_set_self (by simpa using hi), List.getElem?_map, List.getElem?_range hi]
        simp only [Option.map_some, ab_fv, hr, ab_up_eq, ab_sh]
      · rw [List.getElem?_set_ne (Ne.symm hk), List.getElem?_map, List.getElem?_map, List.getElem?_range hi]
        simp only [Option.map_some, ab_fv]
        cases ab_rf a i with
        | some r => rfl
        | none => simp only [ab_sh]; rw [ab_up_ne (Or.inr (by omega))]
    · rw [List.getElem?_eq_none (by simpa using Nat.not_lt.mp hi), List.getElem?_eq_none (by simpa using Nat.not_lt.mp hi)]
  refine va_put hx hb hts (ab_Tin w2) (ab_tt q.1) (ab_tyok w2) (ab_nmok w2) hown hK hP (ab_D hinj hA) hS a h0 (ab_vw w2) q.2 w3 (hts _ w1) (fun _ h9 => h9) (by rw [hi]) (ty := .int) (v := .int v) (by rw [hi]; decide +kernel) rfl rfl (by simpa using w3) hd (fun H1 locs1 hP1 hD1 hS1 => ?_)
  rw [hset] at hP1
  exact h H1 locs1 lsA hP1 hS1 hl
theorem ab_putI : ∀ q : Nat × Nat, q.1 < 7 → q.2 < ab_nf q.1 → ∀ a, ab_ob a q.1 → ab_rf a q.2 = none → (ab_T q.1 q.2).2.2 = ("I", false) := by
  have key : ∀ a, a < 81 → ∀ j, j < ab_nf (ab_oc a) → ab_oc a < 7 → ab_rf a j = none → (ab_T (ab_oc a) j).2.2 = ("I", false) := by decide +kernel
  intro q h1 h2 a ⟨ha, hc⟩ hr
  have := key a ha q.2 (by rw [hc]; exact h2) (by rw [hc]; exact h1) hr
  rw [hc] at this
  exact this
theorem ab_in_lt {i : Int32} {n : Nat} (h : vp_in i n) : i.toNatClampNeg < n := Nat.not_le.mp fun q => h (Or.inr q)
theorem ab_iald (X : ab_X p R s m args c cells slots D ad cI cZ cR nL o d A0 cc) {pc a : Nat} {i : Int32} {μ : ab_M} {ls st : List Value} (hd : decode cc pc = .ok (.iaload, 1)) (ha : a < 81 ∧ ab_ak a = 0) (hin : vp_in i (ab_al a)) (h : ab_Jc p l e R s m args below meth c cells slots Qz D ad cI cZ cR nL A0 H0 (pc + 1) μ ls (.int (μ (ab_cmp a) (ab_off a + i.toNatClampNeg)) :: st)) : ab_Jc p l e R s m args below meth c cells slots Qz D ad cI cZ cR nL A0 H0 pc μ ls (.int i :: .ref a :: st) := by
  obtain ⟨hx, hb, hml, hown, hts, hK, hN, hinj, hA, hfr, hlo, hce, hsl⟩ := X
  intro H locs lsA hP hS hl
  have h0 := ab_ws_at (ad := ad) (cI := cI) (cZ := cZ) (cR := cR) (μ := μ) ha.1
  rw [ab_E_arr ha.2 (by decide)] at h0
  refine va_iald hx hb hK hP a 0 h0 rfl hin hd ?_
  have := h H locs lsA hP hS hl
  rw [if_pos (ab_in_lt hin)]
  exact this
theorem ab_zald (X : ab_X p R s m args c cells slots D ad cI cZ cR nL o d A0 cc) {pc a : Nat} {i : Int32} {μ : ab_M} {ls st : List Value} (hd : decode cc pc = .ok (.baload, 1)) (ha : a < 81 ∧ ab_ak a = 1) (hin : vp_in i (ab_al a)) (h : ab_Jc p l e R s m args below meth c cells slots Qz D ad cI cZ cR nL A0 H0 (pc + 1) μ ls (.int (μ (ab_cmp a) (ab_off a + i.toNatClampNeg)) :: st)) : ab_Jc p l e R s m args below meth c cells slots Qz D ad cI cZ cR nL A0 H0 pc μ ls (.int i :: .ref a :: st) := by
  obtain ⟨hx, hb, hml, hown, hts, hK, hN, hinj, hA, hfr, hlo, hce, hsl⟩ := X
  intro H locs lsA hP hS hl
  have h0 := ab_ws_at (ad := ad) (cI := cI) (cZ := cZ) (cR := cR) (μ := μ) ha.1
  rw [ab_E_arr ha.2 (by decide)] at h0
  refine va_zald hx hb hK hP a 1 h0 rfl hin hd ?_
  have := h H locs lsA hP hS hl
  rw [if_pos (ab_in_lt hin)]
  exact this
theorem ab_setA {a b : Nat} {i : Nat} {v : Int32} {μ : ab_M} (ha : a < 81 ∧ ab_ak a = b) (hb : b < 2) (hi : i < ab_al a) : (ab_ws ad cI cZ cR μ).set a (ad a, .inl (if b = 1 then cZ else cI, ab_al a, .inl (upd (fun j => if j < ab_al a then μ (ab_cmp a) (ab_off a + j) else 0) i v))) = ab_ws ad cI cZ cR (ab_up μ (ab_cmp a) (ab_off a + i) v) := by
  have hsz : i < ab_sz a := by unfold ab_sz; rw [if_neg (by omega), if_neg (by omega)]; exact hi
  refine ab_ws_set ha.1 ?_ (fun k' hk' hne => ab_E_up ha.1 hk' hne hsz)
  rw [ab_E_arr ha.2 hb]
  congr 4
  funext j
  unfold upd
  by_cases hj : j = i
  · subst hj
    rw [if_pos hi, if_pos rfl, ab_up_eq]
  · rw [if_neg hj]
    by_cases hl : j < ab_al a
    · simp only [if_pos hl]
      rw [ab_up_ne (Or.inr (by omega))]
    · simp only [if_neg hl]
theorem ab_iast (X : ab_X p R s m args c cells slots D ad cI cZ cR nL o d A0 cc) {pc a : Nat} {i v : Int32} {μ : ab_M} {ls st : List Value} (hd : decode cc pc = .ok (.iastore, 1)) (ha : a < 81 ∧ ab_ak a = 0) (hin : vp_in i (ab_al a)) (h : ab_Jc p l e R s m args below meth c cells slots Qz D ad cI cZ cR nL A0 H0 (pc + 1) (ab_up μ (ab_cmp a) (ab_off a + i.toNatClampNeg) v) ls st) : ab_Jc p l e R s m args below meth c cells slots Qz D ad cI cZ cR nL A0 H0 pc μ ls (.int v :: .int i :: .ref a :: st) := by
  obtain ⟨hx, hb, hml, hown, hts, hK, hN, hinj, hA, hfr, hlo, hce, hsl⟩ := X
  intro H locs lsA hP hS hl
  have h0 := ab_ws_at (ad := ad) (cI := cI) (cZ := cZ) (cR := cR) (μ := μ) ha.1
  rw [ab_E_arr ha.2 (by decide)] at h0
  refine va_iast hx hb hK hP (ab_D hinj hA) hS a 0 h0 rfl hin hd (fun H1 locs1 hP1 hD1 hS1 => ?_)
  rw [ab_setA ha (by decide) (ab_in_lt hin)] at hP1
  exact h H1 locs1 lsA hP1 hS1 hl
theorem ab_zast (X : ab_X p R s m args c cells slots D ad cI cZ cR nL o d A0 cc) {pc a : Nat} {i v : Int32} {μ : ab_M} {ls st : List Value} (hd : decode cc pc = .ok (.bastore, 1)) (ha : a < 81 ∧ ab_ak a = 1) (hin : vp_in i (ab_al a)) (hv : v = 0 ∨ v = 1) (h : ab_Jc p l e R s m args below meth c cells slots Qz D ad cI cZ cR nL A0 H0 (pc + 1) (ab_up μ (ab_cmp a) (ab_off a + i.toNatClampNeg) v) ls st) : ab_Jc p l e R s m args below meth c cells slots Qz D ad cI cZ cR nL A0 H0 pc μ ls (.int v :: .int i :: .ref a :: st) := by
  obtain ⟨hx, hb, hml, hown, hts, hK, hN, hinj, hA, hfr, hlo, hce, hsl⟩ := X
  intro H locs lsA hP hS hl
  have h0 := ab_ws_at (ad := ad) (cI := cI) (cZ := cZ) (cR := cR) (μ := μ) ha.1
  rw [ab_E_arr ha.2 (by decide)] at h0
  refine va_zast hx hb hK hP (ab_D hinj hA) hS a 1 h0 rfl hin hd (fun H1 locs1 hP1 hD1 hS1 => ?_)
  have hn : vp_nar .boolean v = v := by rcases hv with rfl | rfl <;> decide
  rw [hn, ab_setA ha (by decide) (ab_in_lt hin)] at hP1
  exact h H1 locs1 lsA hP1 hS1 hl
theorem ab_aald (X : ab_X p R s m args c cells slots D ad cI cZ cR nL o d A0 cc) {pc : Nat} {i : Int32} {μ : ab_M} {ls st : List Value} (hd : decode cc pc = .ok (.aaload, 1)) (hin : vp_in i 12) (h : ab_Jc p l e R s m args below meth c cells slots Qz D ad cI cZ cR nL A0 H0 (pc + 1) μ ls (.ref (17 + 4 * i.toNatClampNeg) :: st)) : ab_Jc p l e R s m args below meth c cells slots Qz D ad cI cZ cR nL A0 H0 pc μ ls (.int i :: .ref 1 :: st) := by
  obtain ⟨hx, hb, hml, hown, hts, hK, hN, hinj, hA, hfr, hlo, hce, hsl⟩ := X
  intro H locs lsA hP hS hl
  have h0 := ab_ws_at (ad := ad) (cI := cI) (cZ := cZ) (cR := cR) (μ := μ) (show 1 < 81 by decide)
  have hE : ab_E ad cI cZ cR μ 1 = .inl (cR, 12, .inr (.inr (.inr (.inr (fun i => some (ad (17 + 4 * i))))))) := by
    unfold ab_E
    rw [if_pos (by decide)]
  rw [hE] at h0
  exact va_aldq hx hb hK hP 1 2 h0 rfl hin hd (h H locs lsA hP hS hl)
end ABT
