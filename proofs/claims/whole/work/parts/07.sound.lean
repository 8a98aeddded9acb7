/-! the abstract machine is true of the machine -/
def ab_ls (ad : Nat → Nat) (lsA : Array Slot) (nL : Nat) (ls : List Value) : Prop := lsA.size = nL ∧ lv_wf lsA ∧ ls.length = nL ∧ (∀ v ∈ ls, v.category = 1) ∧ ∀ (i : Nat) (v : Value), ls[i]? = some v → v ≠ .null → lsA[i]? = some (.val (ab_sh ad v))
theorem ab_sh_cat (ad : Nat → Nat) (v : Value) : (ab_sh ad v).category = v.category := by cases v <;> rfl
theorem ab_ok_cat {v : Value} (h : ab_ok1 v = true) : v.category = 1 := by cases v <;> first | rfl | cases h
theorem ab_ok_nn {v : Value} (h : ab_ok1 v = true) : v ≠ .null := by cases v <;> first | (intro e; cases e; done) | cases h
def ab_en (ad : Nat → Nat) (ls : List Value) : List (Nat × Value) := (List.range ls.length).filterMap (fun i => (ls[i]?).bind (fun v => if v = .null then none else some (i, ab_sh ad v)))
theorem ab_en_mem {ad : Nat → Nat} {ls : List Value} {q : Nat × Value} : q ∈ ab_en ad ls ↔ ∃ v, ls[q.1]? = some v ∧ v ≠ .null ∧ q.2 = ab_sh ad v := by
  unfold ab_en
  rw [List.mem_filterMap]
  constructor
  · rintro ⟨i, -, h⟩
    cases hv : ls[i]? with
    | none => rw [hv] at h; cases h
    | some v =>
      rw [hv] at h
      simp only [Option.bind_some] at h
      split at h
      · cases h
      · next hn => cases h; exact ⟨v, hv, hn, rfl⟩
  · rintro ⟨v, h1, h2, h3⟩
    refine ⟨q.1, List.mem_range.mpr (List.getElem?_eq_some_iff.mp h1).1, ?_⟩
    rw [h1]
    simp only [Option.bind_some, if_neg h2, ← h3]
theorem ab_ls_has {ad : Nat → Nat} {lsA : Array Slot} {nL : Nat} {ls : List Value} (h : ab_ls ad lsA nL ls) : lv_has lsA nL (ab_en ad ls) := by
  obtain ⟨h1, h2, h3, h4, h5⟩ := h
  refine ⟨h1, h2, fun q hq => ?_⟩
  obtain ⟨v, e1, e2, e3⟩ := ab_en_mem.mp hq
  rw [e3]
  exact h5 _ _ e1 e2
theorem ab_ls_store {ad : Nat → Nat} {lsA lsB : Array Slot} {nL i : Nat} {ls : List Value} {v : Value} (h : ab_ls ad lsA nL ls) (hi : i < ls.length) (hv : ab_ok1 v = true) (h' : lv_has lsB nL ((i, ab_sh ad v) :: (ab_en ad ls).filter (fun q => !(q.1 == i) && !(q.1 + 1 == i && q.2.category == 2)))) : ab_ls ad lsB nL (ls.set i v) := by
  obtain ⟨h1, h2, h3, h4, h5⟩ := h
  obtain ⟨g1, g2, g3⟩ := h'
  refine ⟨g1, g2, by rw [List.length_set]; exact h3, fun w hw => ?_, fun j w hj hn => ?_⟩
  · rcases List.mem_or_eq_of_mem_set hw with q | q
    · exact h4 w q
    · rw [q]; exact ab_ok_cat hv
  · by_cases e : j = i
    · subst e
      rw [List.getElem?_set_self hi] at hj
      cases hj
      exact g3 (j, ab_sh ad v) List.mem_cons_self
    · rw [List.getElem?_set_ne (Ne.symm e)] at hj
      refine g3 (j, ab_sh ad w) (List.mem_cons_of_mem _ (List.mem_filter.mpr ⟨ab_en_mem.mpr ⟨w, hj, hn, rfl⟩, ?_⟩))
      have hc : (ab_sh ad w).category = 1 := by rw [ab_sh_cat]; exact h4 w (List.mem_of_getElem? hj)
      simp only [hc, beq_iff_eq, Bool.and_eq_true, Bool.not_eq_true', beq_eq_false_iff_ne, ne_eq]
      exact ⟨e, by simp⟩
theorem ab_sum_le (l : List Value) (h : l.length ≤ 4) : (l.map fun v => v.category).sum ≤ 8 := by
  have key : ∀ l : List Value, (l.map fun v => v.category).sum ≤ 2 * l.length := by
    intro l
    induction l with
    | nil => simp
    | cons v t ih =>
      simp only [List.map_cons, List.sum_cons, List.length_cons]
      rcases lv_cat v with q | q <;> omega
  have := key l
  omega
section ABS
variable {p : Program} {l : Launch} {e : Env} {R : Room} {s : State} {m : MethodId} {args : Array Value} {below : List Frame} {meth : Method} {c : Code} {cells slots : Nat} {Qz : State → Prop} {D : va_G} {ad : Nat → Nat} {cI cZ cR : ClassId} {nL o d : Nat} {A0 : Nat → Prop} {H0 : Heap} {cc : ByteArray}
def ab_X (p : Program) (R : Room) (s : State) (m : MethodId) (args : Array Value) (c : Code) (cells slots : Nat) (D : va_G) (ad : Nat → Nat) (cI cZ cR : ClassId) (nL o d : Nat) (A0 : Nat → Prop) (cc : ByteArray) : Prop :=
  p.tables.exec = Jvm.exec ∧ c.code = cc ∧ c.maxLocals = nL ∧ s.vm.findClass (ab_R o) = some m.cls ∧ (∀ w ∈ ab_gt, w.before args s = true) ∧ va_K D vwCl (ab_ty cI cZ cR) s ∧ (∀ w ∈ ab_nw, va_Nw w s) ∧ (∀ i j, i < 81 → j < 81 → ad i = ad j → i = j) ∧ (∀ q, ab_A ad q → A0 q) ∧ d + 1 ≤ R.frames ∧ 36 * (d + 1) ≤ R.locals ∧ cells ≤ R.cells ∧ slots ≤ R.slots
def ab_Jc (p : Program) (l : Launch) (e : Env) (R : Room) (s : State) (m : MethodId) (args : Array Value) (below : List Frame) (meth : Method) (c : Code) (cells slots : Nat) (Qz : State → Prop) (D : va_G) (ad : Nat → Nat) (cI cZ cR : ClassId) (nL : Nat) (A0 : Nat → Prop) (H0 : Heap) : ab_J := fun pc μ ls st => ∀ (H : Heap) (locs : List Loc) (lsA : Array Slot), va_P D vwCl (ab_ws ad cI cZ cR μ) H → va_S A0 H0 H locs → ab_ls ad lsA nL ls → W p l e R s m args below meth c H locs cells slots Qz (F0 m pc lsA (st.map (ab_sh ad)))
theorem ab_cont {H : Heap} {locs : List Loc} {pc : Nat} {lsA : Array Slot} {st0 rest : List Value} {Q : ab_Q} {a : Array Value} (hr : va_Run p l e R s m args below meth c H locs cells slots 0 0 (F0 m pc lsA st0) rest (ab_Qc D ad cI cZ cR Q a) (ab_A ad)) (hS : va_S A0 H0 H locs) (hA : ∀ q, ab_A ad q → A0 q)
    (kk : ∀ (r : Option Int32) (μ : ab_M) (H1 : Heap) (locs1 : List Loc), Q r μ → va_P D vwCl (ab_ws ad cI cZ cR μ) H1 → va_S A0 H0 H1 locs1 → W p l e R s m args below meth c H1 locs1 cells slots Qz (F0 m (pc + 3) lsA ((r.map Value.int).toList ++ rest))) : W p l e R s m args below meth c H locs cells slots Qz (F0 m pc lsA st0) := by
  intro T hT X
  obtain ⟨v, st₀, t, T', L, h0, X', hL, e1, e2, ⟨r, μ', hv, hq, ⟨hP', hK', hN'⟩, hz, hk⟩, st⟩ := hr T hT X
  cases hv
  rw [h0] at hz hk
  obtain ⟨t2, a1, b1⟩ := kk r μ' T'.heap (locs ++ L) hq (by rw [e1]; exact hP')
    ⟨Nat.le_trans hS.1 (by rw [e1]; exact hz), fun q h1 h2 => by rw [e1, hk q (Nat.lt_of_lt_of_le h1 hS.1) (fun z => h2 (hA q z))]; exact hS.2.1 q h1 h2, fun q hq => by
      rcases List.mem_append.mp hq with h | h
      · exact hS.2.2 q h
      · exact hA _ (hL q h)⟩ T' rfl X'
  exact ⟨t2, st t2 a1, b1⟩
theorem ab_goodw (t : Nat) (ht : t < ab_NM) : GoodIn ab_gt (ab_w t) := by
  intro w hw
  rcases List.mem_cons.mp hw with rfl | hw
  · exact ⟨(ab_PMs ht).1, ab_gt_good (ab_PMs ht).1⟩
  · exact ⟨hw, ab_gt_good hw⟩
theorem ab_goodV {o idx t : Nat} (h : (o, idx, t) ∈ ab_cV) : GoodIn ab_gt (wsV (ab_R o) idx (ab_R (ab_o t)) (ab_y t) (ab_w t)) := by
  obtain ⟨h1, h2, h3⟩ := ab_okV _ h
  have hm := ab_PMs h2
  obtain ⟨m1, m2, m3⟩ := hm
  rw [if_neg (by rw [h3]; decide)] at m3
  have hq := ab_okM_at h2
  simp only [ab_okq, Bool.and_eq_true, decide_eq_true_eq] at hq
  have hini : Cond.initialized (ab_R (ab_o t)) ∈ ab_gt := by rw [← hq.1.1.1.1]; exact m2
  intro w hw
  unfold wsV at hw
  rcases List.mem_append.mp hw with hw | hw
  · simp only [List.mem_cons, List.not_mem_nil, or_false] at hw
    rcases hw with rfl | rfl | rfl | rfl
    · exact ⟨h1, ab_gt_good h1⟩
    · exact ⟨m3.1, ab_gt_good m3.1⟩
    · exact ⟨m3.2, ab_gt_good m3.2⟩
    · exact ⟨hini, ab_gt_good hini⟩
  · exact ab_goodw t h2 w hw
theorem ab_goodS {o idx t : Nat} (h : (o, idx, t) ∈ ab_cS) : GoodIn ab_gt (va_wsS (ab_R o) idx (ab_y t) (ab_w t)) := by
  obtain ⟨h1, h2, h3⟩ := ab_okS _ h
  obtain ⟨m1, m2, m3⟩ := ab_PMs h2
  rw [if_pos h3] at m3
  intro w hw
  unfold va_wsS at hw
  rcases List.mem_append.mp hw with hw | hw
  · simp only [List.mem_cons, List.not_mem_nil, or_false] at hw
    rcases hw with rfl | rfl | rfl
    · exact ⟨h1, ab_gt_good h1⟩
    · exact ⟨m3, ab_gt_good m3⟩
    · exact ⟨m2, ab_gt_good m2⟩
  · exact ab_goodw t h2 w hw
theorem ab_pu_map (r : Option Int32) (st : List Value) : (r.map Value.int).toList ++ st.map (ab_sh ad) = (ab_pu r st).map (ab_sh ad) := by cases r <;> rfl
theorem ab_split {st : List Value} {n : Nat} : st.map (ab_sh ad) = ((st.take n).reverse.map (ab_sh ad)).reverse ++ (st.drop n).map (ab_sh ad) := by
  rw [List.map_reverse, List.reverse_reverse, ← List.map_append, List.take_append_drop]
theorem ab_callV (X : ab_X p R s m args c cells slots D ad cI cZ cR nL o d A0 cc) {idx t pc : Nat} {μ : ab_M} {ls st : List Value} {cl : ab_CL}
    (HC : ∀ as μ Q, t < ab_NM → as.length = ab_n t → (as.all ab_ok1) = true → cl t as μ Q → Met l (ab_y t) (ab_w t) (ab_rm d) (va_Pc (as.map (ab_sh ad)) (ab_MW D ad cI cZ cR μ)) (ab_Qc D ad cI cZ cR Q) 0 0 (ab_A ad))
    (hd : decode cc pc = .ok (.invokevirtual idx, 3)) (hm : (o, idx, t) ∈ ab_cV) (h : ab_ca cl t true (ab_Jc p l e R s m args below meth c cells slots Qz D ad cI cZ cR nL A0 H0) pc μ ls st) : ab_Jc p l e R s m args below meth c cells slots Qz D ad cI cZ cR nL A0 H0 pc μ ls st := by
  obtain ⟨h1, h2, h3, h4, h5⟩ := h
  obtain ⟨hx, hb, hml, hown, hts, hK, hN, hinj, hA, hfr, hlo, hce, hsl⟩ := X
  obtain ⟨k1, k2, k3⟩ := ab_okV _ hm
  have hq := ab_okM_at k2
  simp only [ab_okq, Bool.and_eq_true, decide_eq_true_eq] at hq
  obtain ⟨⟨⟨⟨q1, q2⟩, q3⟩, q4⟩, q5⟩ := hq
  have hn := ab_okn_at k2
  simp only [ab_okn, Bool.and_eq_true, decide_eq_true_eq, Bool.or_eq_true] at hn
  obtain ⟨⟨⟨⟨n1, n2⟩, n3⟩, n4⟩, n5⟩ := hn
  simp only [k3, Bool.false_eq_true, false_or, if_false] at n5 q5
  have hlen : (st.take (ab_n t)).reverse.length = ab_n t := by rw [List.length_reverse, List.length_take]; exact Nat.min_eq_left h1
  have h3 := h3 rfl
  have hM := HC _ μ _ k2 hlen h2 h5
  generalize hae : (st.take (ab_n t)).reverse = as at *
  intro H locs lsA hP hS hl
  have hst := ab_split (ad := ad) (st := st) (n := ab_n t)
  rw [hae] at hst
  match as, h3 with
  | .ref a :: As, h3 =>
    obtain ⟨ha, hoc⟩ := h3
    have hP0 := ab_ws_at (ad := ad) (cI := cI) (cZ := cZ) (cR := cR) (μ := μ) ha
    have hak : ab_ak a = 2 := by
      unfold ab_ak
      have : ¬ a = 1 := fun z => by subst z; have := n5.2; rw [← hoc] at this; exact absurd this (by decide)
      rw [if_neg this, if_pos (by rw [hoc]; exact n5.2)]
    have hE : ab_E ad cI cZ cR μ a = .inr (ab_o t, (List.range (ab_nf (ab_oc a))).map (fun j => ab_sh ad (ab_fv μ a j))) := by
      unfold ab_E
      rw [if_neg (by rw [hak]; decide), if_pos hak, hoc]
    rw [hE] at hP0
    have hAs : (As.map (ab_sh ad)).length = ab_n t - 1 := by
      rw [List.length_map]
      simp only [List.length_cons] at hlen
      omega
    rw [hst]
    refine ab_cont (va_runV (Ts := ab_gt) (own := ab_R o) (C := ab_R (ab_o t)) (b := ad a) (As := As.map (ab_sh ad)) (rest := (st.drop (ab_n t)).map (ab_sh ad)) ⟨hx, hb, hml, hown, hts⟩ hM (cwV (bytes := ab_c t) (maxL := ab_L t) (ret := ab_r t) (ws' := ab_gt) (ab_n t - 1) hts (ab_goodV hm) rfl rfl rfl ⟨q1, q3, q4, q5⟩ ⟨hfr, ?_⟩) ⟨ab_blind, ?_, ?_⟩ rfl hAs hl.1 ?_ (lv_room (ab_sum_le _ (by rw [List.length_map]; exact h4))) hd ⟨hce, hsl⟩) hS hA (fun r μ' H1 locs1 hQ hP1 hS1 => ?_)
    · show 8 + (ab_L t + 11) + 36 * d ≤ R.locals
      omega
    · exact va_recv hK hP (ab_vw n5.2) hP0
    · exact ab_pre (as := (.ref a :: As).map (ab_sh ad)) hP hK hN
    · show _ ++ _ = _
      rw [List.map_cons, List.reverse_cons, List.append_assoc]
      rfl
    · rw [ab_pu_map]
      exact hQ H1 locs1 lsA hP1 hS1 hl
theorem ab_callS (X : ab_X p R s m args c cells slots D ad cI cZ cR nL o d A0 cc) {idx t pc : Nat} {μ : ab_M} {ls st : List Value} {cl : ab_CL}
    (HC : ∀ as μ Q, t < ab_NM → as.length = ab_n t → (as.all ab_ok1) = true → cl t as μ Q → Met l (ab_y t) (ab_w t) (ab_rm d) (va_Pc (as.map (ab_sh ad)) (ab_MW D ad cI cZ cR μ)) (ab_Qc D ad cI cZ cR Q) 0 0 (ab_A ad))
    (hd : decode cc pc = .ok (.invokestatic idx, 3)) (hm : (o, idx, t) ∈ ab_cS ∨ (o, idx, t) ∈ ab_cN) (h : ab_ca cl t false (ab_Jc p l e R s m args below meth c cells slots Qz D ad cI cZ cR nL A0 H0) pc μ ls st) : ab_Jc p l e R s m args below meth c cells slots Qz D ad cI cZ cR nL A0 H0 pc μ ls st := by
  obtain ⟨h1, h2, h3, h4, h5⟩ := h
  obtain ⟨hx, hb, hml, hown, hts, hK, hN, hinj, hA, hfr, hlo, hce, hsl⟩ := X
  have k23 : t < ab_NM ∧ ab_s t = true := by
    rcases hm with hm | hm
    · exact (ab_okS _ hm).2
    · exact (ab_okN _ hm).2
  obtain ⟨k2, k3⟩ := k23
  have hq := ab_okM_at k2
  simp only [ab_okq, Bool.and_eq_true, decide_eq_true_eq] at hq
  obtain ⟨⟨⟨⟨q1, q2⟩, q3⟩, q4⟩, q5⟩ := hq
  have hn := ab_okn_at k2
  simp only [ab_okn, Bool.and_eq_true, decide_eq_true_eq, Bool.or_eq_true] at hn
  obtain ⟨⟨⟨⟨n1, n2⟩, n3⟩, n4⟩, n5⟩ := hn
  rw [if_pos k3] at q5
  have hlen : (st.take (ab_n t)).reverse.length = ab_n t := by rw [List.length_reverse, List.length_take]; exact Nat.min_eq_left h1
  have hM := HC _ μ _ k2 hlen h2 h5
  have hst := ab_split (ad := ad) (st := st) (n := ab_n t)
  generalize (st.take (ab_n t)).reverse = as at *
  intro H locs lsA hP hS hl
  rw [hst]
  have hlo2 : 8 + (ab_L t + 11) + 36 * d ≤ R.locals := by omega
  have hAs : (as.map (ab_sh ad)).length = ab_n t := by rw [List.length_map]; exact hlen
  have hroom : ∀ rest : List Value, 2 * (F0 m pc lsA rest).monitorRoom + (((st.drop (ab_n t)).map (ab_sh ad)).map fun v => v.category).sum ≤ 8 := fun rest => lv_room (ab_sum_le _ (by rw [List.length_map]; exact h4))
  rcases hm with hm | hm
  · refine ab_cont (va_runS (Ts := ab_gt) (own := ab_R o) (As := as.map (ab_sh ad)) (rest := (st.drop (ab_n t)).map (ab_sh ad)) ⟨hx, hb, hml, hown, hts⟩ hM (va_cwS (bytes := ab_c t) (maxL := ab_L t) (ret := ab_r t) (ws' := ab_gt) (ab_n t) hts (ab_goodS hm) rfl rfl rfl ⟨q3, q4, q5⟩ ⟨hfr, hlo2⟩) ⟨ab_blind, ab_pre hP hK hN⟩ rfl hAs hl.1 rfl (hroom _) hd ⟨hce, hsl⟩) hS hA (fun r μ' H1 locs1 hQ hP1 hS1 => ?_)
    rw [ab_pu_map]
    exact hQ H1 locs1 lsA hP1 hS1 hl
  · obtain ⟨w1, -, -⟩ := ab_okN _ hm
    obtain ⟨m1, m2, m3⟩ := ab_PMs k2
    rw [if_pos k3] at m3
    refine ab_cont (va_runSN (Ts := ab_gt) (own := ab_R o) (host := RX5) (As := as.map (ab_sh ad)) (rest := (st.drop (ab_n t)).map (ab_sh ad)) ⟨hx, hb, hml, hown, hts⟩ hM ⟨va_cnB (bytes := ab_c t) (maxL := ab_L t) (ret := ab_r t) (ws' := ab_gt) (ab_n t) hts (ab_goodw t k2) rfl rfl rfl (hN _ w1) (hts _ m2) ⟨q3, q4, q5⟩ ⟨hfr, hlo2⟩, hts _ m3, trivial⟩ ⟨ab_blind, ab_pre hP hK hN⟩ rfl hAs hl.1 rfl (hroom _) hd ⟨hce, hsl⟩) hS hA (fun r μ' H1 locs1 hQ hP1 hS1 => ?_)
    rw [ab_pu_map]
    exact hQ H1 locs1 lsA hP1 hS1 hl
end ABS
