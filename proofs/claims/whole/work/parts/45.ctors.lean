def mk_w0 (cI cZ : ClassId) (h0 : Nat) (u : Nat → Nat) : va_W := [(h0, .inr (0, [.ref (u 0), .ref (u 1), .ref (u 2), .int 0])), ((u 0), .inl (cI, 6, .inl (fun j => if j < 6 then 0 else 0))), ((u 1), .inl (cI, 6, .inl (fun j => if j < 6 then 0 else 0))), ((u 2), .inl (cI, 11, .inl (fun j => if j < 11 then 0 else 0)))]
def mk_s0 (h0 : Nat) : va_W := [(h0, .inr (0, [.null, .null, .null, .int 0]))]
set_option maxRecDepth 20000 in
theorem mk_c0 : Cond.code yX0_init cX0_init 1 none ∈ ab_gt := ab_gt_of (List.mem_of_getElem? (i := 95) rfl) rfl
set_option maxHeartbeats 4000000 in
set_option maxRecDepth 100000 in
theorem K0 (l : Launch) (D : va_G) (cI cZ cR : ClassId) (h0 sz : Nat) : Met l yX0_init (.code yX0_init cX0_init 1 none :: ab_gt) ({ frames := 1, cells := 3, slots := 23, locals := 12 }) (va_Pc [.ref h0] (fun U => U.heap.size = sz ∧ va_P D vwCl (mk_s0 h0) U.heap ∧ va_K D vwCl (ab_ty cI cZ cR) U ∧ va_D (fun _ => True) (mk_s0 h0))) (va_Qv (fun _ : Nat → Nat => True) (fun u t => va_P D vwCl (mk_w0 cI cZ h0 u) t.heap ∧ va_D (va_A (mk_s0 h0) sz) (mk_w0 cI cZ h0 u)) (va_A (mk_s0 h0) sz)) 3 23 (va_A (mk_s0 h0) sz) := by
  refine Met.ofW (cc := cX0_init) (maxL := 1) (ret := none) (by decide) rfl ?_
  intro p e s m args below meth c s₁ B hml hv
  obtain ⟨rfl, hsz, hP, hK, hD0⟩ := hv
  have hx := B.exec
  have hb := B.bytes
  have hr := B.returns
  have hts := atoms_spec (ws := .code yX0_init cX0_init 1 none :: ab_gt) B.pre
  have hown : s.vm.findClass RX0 = some m.cls := findClass_of_methodNamed B.named
  have hin : meth.name = "<init>" := (name_of_methodNamed B.named B.method).1
  subst hsz
  have hD := hD0.self (sz := s.heap.size)
  generalize hAe : va_A (mk_s0 h0) s.heap.size = A at hD ⊢
  have hA : ∀ q : Nat, s.heap.size ≤ q → A q := fun q h => by rw [← hAe]; exact Or.inr h
  have hS : va_S A s.heap s.heap [] := va_S.rf
  have hP : va_P D vwCl [(h0, .inr (0, [.null, .null, .null, .int 0]))] s.heap := hP
  have hD : va_D A [(h0, .inr (0, [.null, .null, .null, .int 0]))] := hD
  have hl := lv_entry ([.ref h0]) (n := 1) (Nat.le_of_ble_eq_true rfl)
  rw [lg_entry_eq]
  generalize (lg_sl ([.ref h0]) ++ List.replicate (1 - (lg_sl ([.ref h0])).length) Slot.unset).toArray = ls at hl ⊢
  have hl : lv_has ls 1 [(0, .ref h0)] := hl
  refine lv_aload_n hx hb dX0_init_0 rfl (lv_at hl 0 rfl) ?_
  refine W.objInit (own := RX0) (idx := 3) hx hb hown (hts _ (List.mem_cons_of_mem _ (ab_gt_of (List.mem_of_getElem? (i := 96) rfl) rfl))) (hts _ (List.mem_cons_of_mem _ (ab_gt_of (List.mem_of_getElem? (i := 48) rfl) rfl))) (hts _ (List.mem_cons_of_mem _ (ab_gt_of (List.mem_of_getElem? (i := 49) rfl) rfl))) rfl (by rw [hml]; exact hl.1) rfl dX0_init_1 (Nat.le_of_ble_eq_true rfl) (Nat.le_of_ble_eq_true rfl) ?_
  refine W.eq (g2 := F0 m 4 ls []) rfl ?_
  refine lv_aload_n hx hb dX0_init_4 rfl (lv_at hl 0 rfl) ?_
  refine lv_bipush (v := 6) hx hb dX0_init_5 (by decide) ?_
  refine va_newa (a0 := (6, .inl (fun _ => 0))) (N' := 6) hx hb (hts _ (List.mem_cons_of_mem _ (ab_gt_of (List.mem_of_getElem? (i := 74) rfl) rfl))) (ty := .int) rfl hK hP hD hS hA (fun _ => rfl) (by decide) (by decide) (by decide) (Nat.le_of_ble_eq_true rfl) (Nat.le_of_ble_eq_true rfl) dX0_init_7 (fun q7 c7 H hK7 hP hD hS => ?_)
  obtain rfl : cI = c7 := (mk_un 0 rfl hK7).symm
  have hP : va_P D vwCl [(h0, .inr (0, [.null, .null, .null, .int 0])), (q7, .inl (cI, 6, .inl (fun _ => 0)))] H := hP
  have hD : va_D A [(h0, .inr (0, [.null, .null, .null, .int 0])), (q7, .inl (cI, 6, .inl (fun _ => 0)))] := hD
  refine W.widen (k := 1) (n := 6) (by omega) (by omega) ?_
  refine va_putF (D := D) (ci := 0) (v := .ref q7) (ty := .array .int) (C := RX0) (T := TX0) (N := 4) hx hb hts (fun w hw => List.mem_cons_of_mem _ (ab_Tin0 w hw)) tyX0 tyX0_ok nmX0 hown hK hP hD hS 0 rfl rfl 0 (by decide) (hts _ (List.mem_cons_of_mem _ (ab_gt_of (List.mem_of_getElem? (i := 97) rfl) rfl))) (fun _ h9 => h9) rfl hin rfl (by decide +kernel) rfl rfl (Nat.le_of_ble_eq_true rfl) dX0_init_9 (fun H locs hP hD hS => ?_)
  have hP : va_P D vwCl [(h0, .inr (0, [.ref q7, .null, .null, .int 0])), (q7, .inl (cI, 6, .inl (fun _ => 0)))] H := hP
  have hD : va_D A [(h0, .inr (0, [.ref q7, .null, .null, .int 0])), (q7, .inl (cI, 6, .inl (fun _ => 0)))] := hD
  refine lv_aload_n hx hb dX0_init_12 rfl (lv_at hl 0 rfl) ?_
  refine lv_bipush (v := 6) hx hb dX0_init_13 (by decide) ?_
  refine va_newa (a0 := (6, .inl (fun _ => 0))) (N' := 6) hx hb (hts _ (List.mem_cons_of_mem _ (ab_gt_of (List.mem_of_getElem? (i := 74) rfl) rfl))) (ty := .int) rfl hK hP hD hS hA (fun _ => rfl) (by decide) (by decide) (by decide) (Nat.le_of_ble_eq_true rfl) (Nat.le_of_ble_eq_true rfl) dX0_init_15 (fun q15 c15 H hK15 hP hD hS => ?_)
  obtain rfl : cI = c15 := (mk_un 0 rfl hK15).symm
  have hP : va_P D vwCl [(h0, .inr (0, [.ref q7, .null, .null, .int 0])), (q7, .inl (cI, 6, .inl (fun _ => 0))), (q15, .inl (cI, 6, .inl (fun _ => 0)))] H := hP
  have hD : va_D A [(h0, .inr (0, [.ref q7, .null, .null, .int 0])), (q7, .inl (cI, 6, .inl (fun _ => 0))), (q15, .inl (cI, 6, .inl (fun _ => 0)))] := hD
  refine W.widen (k := 2) (n := 12) (by omega) (by omega) ?_
  refine va_putF (D := D) (ci := 0) (v := .ref q15) (ty := .array .int) (C := RX0) (T := TX0) (N := 4) hx hb hts (fun w hw => List.mem_cons_of_mem _ (ab_Tin0 w hw)) tyX0 tyX0_ok nmX0 hown hK hP hD hS 0 rfl rfl 1 (by decide) (hts _ (List.mem_cons_of_mem _ (ab_gt_of (List.mem_of_getElem? (i := 98) rfl) rfl))) (fun _ h9 => h9) rfl hin rfl (by decide +kernel) rfl rfl (Nat.le_of_ble_eq_true rfl) dX0_init_17 (fun H locs hP hD hS => ?_)
  have hP : va_P D vwCl [(h0, .inr (0, [.ref q7, .ref q15, .null, .int 0])), (q7, .inl (cI, 6, .inl (fun _ => 0))), (q15, .inl (cI, 6, .inl (fun _ => 0)))] H := hP
  have hD : va_D A [(h0, .inr (0, [.ref q7, .ref q15, .null, .int 0])), (q7, .inl (cI, 6, .inl (fun _ => 0))), (q15, .inl (cI, 6, .inl (fun _ => 0)))] := hD
  refine lv_aload_n hx hb dX0_init_20 rfl (lv_at hl 0 rfl) ?_
  refine lv_bipush (v := 11) hx hb dX0_init_21 (by decide) ?_
  refine va_newa (a0 := (11, .inl (fun _ => 0))) (N' := 11) hx hb (hts _ (List.mem_cons_of_mem _ (ab_gt_of (List.mem_of_getElem? (i := 74) rfl) rfl))) (ty := .int) rfl hK hP hD hS hA (fun _ => rfl) (by decide) (by decide) (by decide) (Nat.le_of_ble_eq_true rfl) (Nat.le_of_ble_eq_true rfl) dX0_init_23 (fun q23 c23 H hK23 hP hD hS => ?_)
  obtain rfl : cI = c23 := (mk_un 0 rfl hK23).symm
  have hP : va_P D vwCl [(h0, .inr (0, [.ref q7, .ref q15, .null, .int 0])), (q7, .inl (cI, 6, .inl (fun _ => 0))), (q15, .inl (cI, 6, .inl (fun _ => 0))), (q23, .inl (cI, 11, .inl (fun _ => 0)))] H := hP
  have hD : va_D A [(h0, .inr (0, [.ref q7, .ref q15, .null, .int 0])), (q7, .inl (cI, 6, .inl (fun _ => 0))), (q15, .inl (cI, 6, .inl (fun _ => 0))), (q23, .inl (cI, 11, .inl (fun _ => 0)))] := hD
  refine W.widen (k := 3) (n := 23) (by omega) (by omega) ?_
  refine va_putF (D := D) (ci := 0) (v := .ref q23) (ty := .array .int) (C := RX0) (T := TX0) (N := 4) hx hb hts (fun w hw => List.mem_cons_of_mem _ (ab_Tin0 w hw)) tyX0 tyX0_ok nmX0 hown hK hP hD hS 0 rfl rfl 2 (by decide) (hts _ (List.mem_cons_of_mem _ (ab_gt_of (List.mem_of_getElem? (i := 99) rfl) rfl))) (fun _ h9 => h9) rfl hin rfl (by decide +kernel) rfl rfl (Nat.le_of_ble_eq_true rfl) dX0_init_25 (fun H locs hP hD hS => ?_)
  have hP : va_P D vwCl [(h0, .inr (0, [.ref q7, .ref q15, .ref q23, .int 0])), (q7, .inl (cI, 6, .inl (fun _ => 0))), (q15, .inl (cI, 6, .inl (fun _ => 0))), (q23, .inl (cI, 11, .inl (fun _ => 0)))] H := hP
  have hD : va_D A [(h0, .inr (0, [.ref q7, .ref q15, .ref q23, .int 0])), (q7, .inl (cI, 6, .inl (fun _ => 0))), (q15, .inl (cI, 6, .inl (fun _ => 0))), (q23, .inl (cI, 11, .inl (fun _ => 0)))] := hD
  refine lv_aload_n hx hb dX0_init_28 rfl (lv_at hl 0 rfl) ?_
  refine lv_iconst (v := 0) hx hb dX0_init_29 (by decide) ?_
  refine va_put (D := D) (ci := 0) (v := .int 0) (ty := .int) (C := RX0) (T := TX0) (N := 4) hx hb hts (fun w hw => List.mem_cons_of_mem _ (ab_Tin0 w hw)) tyX0 tyX0_ok nmX0 hown hK hP hD hS 0 rfl rfl 3 (by decide) (hts _ (List.mem_cons_of_mem _ (ab_gt_of (List.mem_of_getElem? (i := 100) rfl) rfl))) (fun _ h9 => h9) rfl (by decide +kernel) rfl rfl (Nat.le_of_ble_eq_true rfl) dX0_init_30 (fun H locs hP hD hS => ?_)
  have hP : va_P D vwCl [(h0, .inr (0, [.ref q7, .ref q15, .ref q23, .int 0])), (q7, .inl (cI, 6, .inl (fun _ => 0))), (q15, .inl (cI, 6, .inl (fun _ => 0))), (q23, .inl (cI, 11, .inl (fun _ => 0)))] H := hP
  have hD : va_D A [(h0, .inr (0, [.ref q7, .ref q15, .ref q23, .int 0])), (q7, .inl (cI, 6, .inl (fun _ => 0))), (q15, .inl (cI, 6, .inl (fun _ => 0))), (q23, .inl (cI, 11, .inl (fun _ => 0)))] := hD
  exact W.vret hx hb hr (fun t ht hW => ⟨⟨(fun k => match k with | 0 => q7 | 1 => q15 | _ => q23), rfl, trivial, by rw [ht]; simp only [mk_w0, ite_self]; exact hP, by simp only [mk_w0, ite_self]; exact hD⟩, hS.F ht⟩) hS.2.2 dX0_init_33
def mk_w1 (cI cZ : ClassId) (h0 : Nat) (u : Nat → Nat) : va_W := [(h0, .inr (1, [.ref (u 0), .ref (u 1), .int 0])), ((u 0), .inl (cI, 10, .inl (fun j => if j < 10 then 0 else 0))), ((u 1), .inl (cI, 10, .inl (fun j => if j < 10 then 0 else 0)))]
def mk_s1 (h0 : Nat) : va_W := [(h0, .inr (1, [.null, .null, .int 0]))]
set_option maxRecDepth 20000 in
theorem mk_c1 : Cond.code yX1_init cX1_init 1 none ∈ ab_gt := ab_gt_of (List.mem_of_getElem? (i := 79) rfl) rfl
set_option maxHeartbeats 4000000 in
set_option maxRecDepth 100000 in
theorem K1 (l : Launch) (D : va_G) (cI cZ cR : ClassId) (h0 sz : Nat) : Met l yX1_init (.code yX1_init cX1_init 1 none :: ab_gt) ({ frames := 1, cells := 2, slots := 20, locals := 12 }) (va_Pc [.ref h0] (fun U => U.heap.size = sz ∧ va_P D vwCl (mk_s1 h0) U.heap ∧ va_K D vwCl (ab_ty cI cZ cR) U ∧ va_D (fun _ => True) (mk_s1 h0))) (va_Qv (fun _ : Nat → Nat => True) (fun u t => va_P D vwCl (mk_w1 cI cZ h0 u) t.heap ∧ va_D (va_A (mk_s1 h0) sz) (mk_w1 cI cZ h0 u)) (va_A (mk_s1 h0) sz)) 2 20 (va_A (mk_s1 h0) sz) := by
  refine Met.ofW (cc := cX1_init) (maxL := 1) (ret := none) (by decide) rfl ?_
  intro p e s m args below meth c s₁ B hml hv
  obtain ⟨rfl, hsz, hP, hK, hD0⟩ := hv
  have hx := B.exec
  have hb := B.bytes
  have hr := B.returns
  have hts := atoms_spec (ws := .code yX1_init cX1_init 1 none :: ab_gt) B.pre
  have hown : s.vm.findClass RX1 = some m.cls := findClass_of_methodNamed B.named
  have hin : meth.name = "<init>" := (name_of_methodNamed B.named B.method).1
  subst hsz
  have hD := hD0.self (sz := s.heap.size)
  generalize hAe : va_A (mk_s1 h0) s.heap.size = A at hD ⊢
  have hA : ∀ q : Nat, s.heap.size ≤ q → A q := fun q h => by rw [← hAe]; exact Or.inr h
  have hS : va_S A s.heap s.heap [] := va_S.rf
  have hP : va_P D vwCl [(h0, .inr (1, [.null, .null, .int 0]))] s.heap := hP
  have hD : va_D A [(h0, .inr (1, [.null, .null, .int 0]))] := hD
  have hl := lv_entry ([.ref h0]) (n := 1) (Nat.le_of_ble_eq_true rfl)
  rw [lg_entry_eq]
  generalize (lg_sl ([.ref h0]) ++ List.replicate (1 - (lg_sl ([.ref h0])).length) Slot.unset).toArray = ls at hl ⊢
  have hl : lv_has ls 1 [(0, .ref h0)] := hl
  refine lv_aload_n hx hb dX1_init_0 rfl (lv_at hl 0 rfl) ?_
  refine W.objInit (own := RX1) (idx := 3) hx hb hown (hts _ (List.mem_cons_of_mem _ (ab_gt_of (List.mem_of_getElem? (i := 80) rfl) rfl))) (hts _ (List.mem_cons_of_mem _ (ab_gt_of (List.mem_of_getElem? (i := 48) rfl) rfl))) (hts _ (List.mem_cons_of_mem _ (ab_gt_of (List.mem_of_getElem? (i := 49) rfl) rfl))) rfl (by rw [hml]; exact hl.1) rfl dX1_init_1 (Nat.le_of_ble_eq_true rfl) (Nat.le_of_ble_eq_true rfl) ?_
  refine W.eq (g2 := F0 m 4 ls []) rfl ?_
  refine lv_aload_n hx hb dX1_init_4 rfl (lv_at hl 0 rfl) ?_
  refine lv_bipush (v := 10) hx hb dX1_init_5 (by decide) ?_
  refine va_newa (a0 := (10, .inl (fun _ => 0))) (N' := 10) hx hb (hts _ (List.mem_cons_of_mem _ (ab_gt_of (List.mem_of_getElem? (i := 74) rfl) rfl))) (ty := .int) rfl hK hP hD hS hA (fun _ => rfl) (by decide) (by decide) (by decide) (Nat.le_of_ble_eq_true rfl) (Nat.le_of_ble_eq_true rfl) dX1_init_7 (fun q7 c7 H hK7 hP hD hS => ?_)
  obtain rfl : cI = c7 := (mk_un 0 rfl hK7).symm
  have hP : va_P D vwCl [(h0, .inr (1, [.null, .null, .int 0])), (q7, .inl (cI, 10, .inl (fun _ => 0)))] H := hP
  have hD : va_D A [(h0, .inr (1, [.null, .null, .int 0])), (q7, .inl (cI, 10, .inl (fun _ => 0)))] := hD
  refine W.widen (k := 1) (n := 10) (by omega) (by omega) ?_
  refine va_putF (D := D) (ci := 1) (v := .ref q7) (ty := .array .int) (C := RX1) (T := TX1) (N := 3) hx hb hts (fun w hw => List.mem_cons_of_mem _ (ab_Tin1 w hw)) tyX1 tyX1_ok nmX1 hown hK hP hD hS 0 rfl rfl 0 (by decide) (hts _ (List.mem_cons_of_mem _ (ab_gt_of (List.mem_of_getElem? (i := 81) rfl) rfl))) (fun _ h9 => h9) rfl hin rfl (by decide +kernel) rfl rfl (Nat.le_of_ble_eq_true rfl) dX1_init_9 (fun H locs hP hD hS => ?_)
  have hP : va_P D vwCl [(h0, .inr (1, [.ref q7, .null, .int 0])), (q7, .inl (cI, 10, .inl (fun _ => 0)))] H := hP
  have hD : va_D A [(h0, .inr (1, [.ref q7, .null, .int 0])), (q7, .inl (cI, 10, .inl (fun _ => 0)))] := hD
  refine lv_aload_n hx hb dX1_init_12 rfl (lv_at hl 0 rfl) ?_
  refine lv_bipush (v := 10) hx hb dX1_init_13 (by decide) ?_
  refine va_newa (a0 := (10, .inl (fun _ => 0))) (N' := 10) hx hb (hts _ (List.mem_cons_of_mem _ (ab_gt_of (List.mem_of_getElem? (i := 74) rfl) rfl))) (ty := .int) rfl hK hP hD hS hA (fun _ => rfl) (by decide) (by decide) (by decide) (Nat.le_of_ble_eq_true rfl) (Nat.le_of_ble_eq_true rfl) dX1_init_15 (fun q15 c15 H hK15 hP hD hS => ?_)
  obtain rfl : cI = c15 := (mk_un 0 rfl hK15).symm
  have hP : va_P D vwCl [(h0, .inr (1, [.ref q7, .null, .int 0])), (q7, .inl (cI, 10, .inl (fun _ => 0))), (q15, .inl (cI, 10, .inl (fun _ => 0)))] H := hP
  have hD : va_D A [(h0, .inr (1, [.ref q7, .null, .int 0])), (q7, .inl (cI, 10, .inl (fun _ => 0))), (q15, .inl (cI, 10, .inl (fun _ => 0)))] := hD
  refine W.widen (k := 2) (n := 20) (by omega) (by omega) ?_
  refine va_putF (D := D) (ci := 1) (v := .ref q15) (ty := .array .int) (C := RX1) (T := TX1) (N := 3) hx hb hts (fun w hw => List.mem_cons_of_mem _ (ab_Tin1 w hw)) tyX1 tyX1_ok nmX1 hown hK hP hD hS 0 rfl rfl 1 (by decide) (hts _ (List.mem_cons_of_mem _ (ab_gt_of (List.mem_of_getElem? (i := 82) rfl) rfl))) (fun _ h9 => h9) rfl hin rfl (by decide +kernel) rfl rfl (Nat.le_of_ble_eq_true rfl) dX1_init_17 (fun H locs hP hD hS => ?_)
  have hP : va_P D vwCl [(h0, .inr (1, [.ref q7, .ref q15, .int 0])), (q7, .inl (cI, 10, .inl (fun _ => 0))), (q15, .inl (cI, 10, .inl (fun _ => 0)))] H := hP
  have hD : va_D A [(h0, .inr (1, [.ref q7, .ref q15, .int 0])), (q7, .inl (cI, 10, .inl (fun _ => 0))), (q15, .inl (cI, 10, .inl (fun _ => 0)))] := hD
  refine lv_aload_n hx hb dX1_init_20 rfl (lv_at hl 0 rfl) ?_
  refine lv_iconst (v := 0) hx hb dX1_init_21 (by decide) ?_
  refine va_put (D := D) (ci := 1) (v := .int 0) (ty := .int) (C := RX1) (T := TX1) (N := 3) hx hb hts (fun w hw => List.mem_cons_of_mem _ (ab_Tin1 w hw)) tyX1 tyX1_ok nmX1 hown hK hP hD hS 0 rfl rfl 2 (by decide) (hts _ (List.mem_cons_of_mem _ (ab_gt_of (List.mem_of_getElem? (i := 83) rfl) rfl))) (fun _ h9 => h9) rfl (by decide +kernel) rfl rfl (Nat.le_of_ble_eq_true rfl) dX1_init_22 (fun H locs hP hD hS => ?_)
  have hP : va_P D vwCl [(h0, .inr (1, [.ref q7, .ref q15, .int 0])), (q7, .inl (cI, 10, .inl (fun _ => 0))), (q15, .inl (cI, 10, .inl (fun _ => 0)))] H := hP
  have hD : va_D A [(h0, .inr (1, [.ref q7, .ref q15, .int 0])), (q7, .inl (cI, 10, .inl (fun _ => 0))), (q15, .inl (cI, 10, .inl (fun _ => 0)))] := hD
  exact W.vret hx hb hr (fun t ht hW => ⟨⟨(fun k => match k with | 0 => q7 | _ => q15), rfl, trivial, by rw [ht]; simp only [mk_w1, ite_self]; exact hP, by simp only [mk_w1, ite_self]; exact hD⟩, hS.F ht⟩) hS.2.2 dX1_init_25
def mk_w2 (cI cZ : ClassId) (h0 : Nat) (u : Nat → Nat) : va_W := [(h0, .inr (2, [.ref (u 0), .ref (u 1), .ref (u 2), .int 0])), ((u 0), .inl (cI, 10, .inl (fun j => if j < 10 then 0 else 0))), ((u 1), .inl (cI, 10, .inl (fun j => if j < 10 then 0 else 0))), ((u 2), .inl (cI, 10, .inl (fun j => if j < 10 then 0 else 0)))]
def mk_s2 (h0 : Nat) : va_W := [(h0, .inr (2, [.null, .null, .null, .int 0]))]
set_option maxRecDepth 20000 in
theorem mk_c2 : Cond.code yX2_init cX2_init 1 none ∈ ab_gt := ab_gt_of (List.mem_of_getElem? (i := 130) rfl) rfl
set_option maxHeartbeats 4000000 in
set_option maxRecDepth 100000 in
theorem K2 (l : Launch) (D : va_G) (cI cZ cR : ClassId) (h0 sz : Nat) : Met l yX2_init (.code yX2_init cX2_init 1 none :: ab_gt) ({ frames := 1, cells := 3, slots := 30, locals := 12 }) (va_Pc [.ref h0] (fun U => U.heap.size = sz ∧ va_P D vwCl (mk_s2 h0) U.heap ∧ va_K D vwCl (ab_ty cI cZ cR) U ∧ va_D (fun _ => True) (mk_s2 h0))) (va_Qv (fun _ : Nat → Nat => True) (fun u t => va_P D vwCl (mk_w2 cI cZ h0 u) t.heap ∧ va_D (va_A (mk_s2 h0) sz) (mk_w2 cI cZ h0 u)) (va_A (mk_s2 h0) sz)) 3 30 (va_A (mk_s2 h0) sz) := by
  refine Met.ofW (cc := cX2_init) (maxL := 1) (ret := none) (by decide) rfl ?_
  intro p e s m args below meth c s₁ B hml hv
  obtain ⟨rfl, hsz, hP, hK, hD0⟩ := hv
  have hx := B.exec
  have hb := B.bytes
  have hr := B.returns
  have hts := atoms_spec (ws := .code yX2_init cX2_init 1 none :: ab_gt) B.pre
  have hown : s.vm.findClass RX2 = some m.cls := findClass_of_methodNamed B.named
  have hin : meth.name = "<init>" := (name_of_methodNamed B.named B.method).1
  subst hsz
  have hD := hD0.self (sz := s.heap.size)
  generalize hAe : va_A (mk_s2 h0) s.heap.size = A at hD ⊢
  have hA : ∀ q : Nat, s.heap.size ≤ q → A q := fun q h => by rw [← hAe]; exact Or.inr h
  have hS : va_S A s.heap s.heap [] := va_S.rf
  have hP : va_P D vwCl [(h0, .inr (2, [.null, .null, .null, .int 0]))] s.heap := hP
  have hD : va_D A [(h0, .inr (2, [.null, .null, .null, .int 0]))] := hD
  have hl := lv_entry ([.ref h0]) (n := 1) (Nat.le_of_ble_eq_true rfl)
  rw [lg_entry_eq]
  generalize (lg_sl ([.ref h0]) ++ List.replicate (1 - (lg_sl ([.ref h0])).length) Slot.unset).toArray = ls at hl ⊢
  have hl : lv_has ls 1 [(0, .ref h0)] := hl
  refine lv_aload_n hx hb dX2_init_0 rfl (lv_at hl 0 rfl) ?_
  refine W.objInit (own := RX2) (idx := 3) hx hb hown (hts _ (List.mem_cons_of_mem _ (ab_gt_of (List.mem_of_getElem? (i := 131) rfl) rfl))) (hts _ (List.mem_cons_of_mem _ (ab_gt_of (List.mem_of_getElem? (i := 48) rfl) rfl))) (hts _ (List.mem_cons_of_mem _ (ab_gt_of (List.mem_of_getElem? (i := 49) rfl) rfl))) rfl (by rw [hml]; exact hl.1) rfl dX2_init_1 (Nat.le_of_ble_eq_true rfl) (Nat.le_of_ble_eq_true rfl) ?_
  refine W.eq (g2 := F0 m 4 ls []) rfl ?_
  refine lv_aload_n hx hb dX2_init_4 rfl (lv_at hl 0 rfl) ?_
  refine lv_bipush (v := 10) hx hb dX2_init_5 (by decide) ?_
  refine va_newa (a0 := (10, .inl (fun _ => 0))) (N' := 10) hx hb (hts _ (List.mem_cons_of_mem _ (ab_gt_of (List.mem_of_getElem? (i := 74) rfl) rfl))) (ty := .int) rfl hK hP hD hS hA (fun _ => rfl) (by decide) (by decide) (by decide) (Nat.le_of_ble_eq_true rfl) (Nat.le_of_ble_eq_true rfl) dX2_init_7 (fun q7 c7 H hK7 hP hD hS => ?_)
  obtain rfl : cI = c7 := (mk_un 0 rfl hK7).symm
  have hP : va_P D vwCl [(h0, .inr (2, [.null, .null, .null, .int 0])), (q7, .inl (cI, 10, .inl (fun _ => 0)))] H := hP
  have hD : va_D A [(h0, .inr (2, [.null, .null, .null, .int 0])), (q7, .inl (cI, 10, .inl (fun _ => 0)))] := hD
  refine W.widen (k := 1) (n := 10) (by omega) (by omega) ?_
  refine va_putF (D := D) (ci := 2) (v := .ref q7) (ty := .array .int) (C := RX2) (T := TX2) (N := 4) hx hb hts (fun w hw => List.mem_cons_of_mem _ (ab_Tin2 w hw)) tyX2 tyX2_ok nmX2 hown hK hP hD hS 0 rfl rfl 0 (by decide) (hts _ (List.mem_cons_of_mem _ (ab_gt_of (List.mem_of_getElem? (i := 132) rfl) rfl))) (fun _ h9 => h9) rfl hin rfl (by decide +kernel) rfl rfl (Nat.le_of_ble_eq_true rfl) dX2_init_9 (fun H locs hP hD hS => ?_)
  have hP : va_P D vwCl [(h0, .inr (2, [.ref q7, .null, .null, .int 0])), (q7, .inl (cI, 10, .inl (fun _ => 0)))] H := hP
  have hD : va_D A [(h0, .inr (2, [.ref q7, .null, .null, .int 0])), (q7, .inl (cI, 10, .inl (fun _ => 0)))] := hD
  refine lv_aload_n hx hb dX2_init_12 rfl (lv_at hl 0 rfl) ?_
  refine lv_bipush (v := 10) hx hb dX2_init_13 (by decide) ?_
  refine va_newa (a0 := (10, .inl (fun _ => 0))) (N' := 10) hx hb (hts _ (List.mem_cons_of_mem _ (ab_gt_of (List.mem_of_getElem? (i := 74) rfl) rfl))) (ty := .int) rfl hK hP hD hS hA (fun _ => rfl) (by decide) (by decide) (by decide) (Nat.le_of_ble_eq_true rfl) (Nat.le_of_ble_eq_true rfl) dX2_init_15 (fun q15 c15 H hK15 hP hD hS => ?_)
  obtain rfl : cI = c15 := (mk_un 0 rfl hK15).symm
  have hP : va_P D vwCl [(h0, .inr (2, [.ref q7, .null, .null, .int 0])), (q7, .inl (cI, 10, .inl (fun _ => 0))), (q15, .inl (cI, 10, .inl (fun _ => 0)))] H := hP
  have hD : va_D A [(h0, .inr (2, [.ref q7, .null, .null, .int 0])), (q7, .inl (cI, 10, .inl (fun _ => 0))), (q15, .inl (cI, 10, .inl (fun _ => 0)))] := hD
  refine W.widen (k := 2) (n := 20) (by omega) (by omega) ?_
  refine va_putF (D := D) (ci := 2) (v := .ref q15) (ty := .array .int) (C := RX2) (T := TX2) (N := 4) hx hb hts (fun w hw => List.mem_cons_of_mem _ (ab_Tin2 w hw)) tyX2 tyX2_ok nmX2 hown hK hP hD hS 0 rfl rfl 1 (by decide) (hts _ (List.mem_cons_of_mem _ (ab_gt_of (List.mem_of_getElem? (i := 133) rfl) rfl))) (fun _ h9 => h9) rfl hin rfl (by decide +kernel) rfl rfl (Nat.le_of_ble_eq_true rfl) dX2_init_17 (fun H locs hP hD hS => ?_)
  have hP : va_P D vwCl [(h0, .inr (2, [.ref q7, .ref q15, .null, .int 0])), (q7, .inl (cI, 10, .inl (fun _ => 0))), (q15, .inl (cI, 10, .inl (fun _ => 0)))] H := hP
  have hD : va_D A [(h0, .inr (2, [.ref q7, .ref q15, .null, .int 0])), (q7, .inl (cI, 10, .inl (fun _ => 0))), (q15, .inl (cI, 10, .inl (fun _ => 0)))] := hD
  refine lv_aload_n hx hb dX2_init_20 rfl (lv_at hl 0 rfl) ?_
  refine lv_bipush (v := 10) hx hb dX2_init_21 (by decide) ?_
  refine va_newa (a0 := (10, .inl (fun _ => 0))) (N' := 10) hx hb (hts _ (List.mem_cons_of_mem _ (ab_gt_of (List.mem_of_getElem? (i := 74) rfl) rfl))) (ty := .int) rfl hK hP hD hS hA (fun _ => rfl) (by decide) (by decide) (by decide) (Nat.le_of_ble_eq_true rfl) (Nat.le_of_ble_eq_true rfl) dX2_init_23 (fun q23 c23 H hK23 hP hD hS => ?_)
  obtain rfl : cI = c23 := (mk_un 0 rfl hK23).symm
  have hP : va_P D vwCl [(h0, .inr (2, [.ref q7, .ref q15, .null, .int 0])), (q7, .inl (cI, 10, .inl (fun _ => 0))), (q15, .inl (cI, 10, .inl (fun _ => 0))), (q23, .inl (cI, 10, .inl (fun _ => 0)))] H := hP
  have hD : va_D A [(h0, .inr (2, [.ref q7, .ref q15, .null, .int 0])), (q7, .inl (cI, 10, .inl (fun _ => 0))), (q15, .inl (cI, 10, .inl (fun _ => 0))), (q23, .inl (cI, 10, .inl (fun _ => 0)))] := hD
  refine W.widen (k := 3) (n := 30) (by omega) (by omega) ?_
  refine va_putF (D := D) (ci := 2) (v := .ref q23) (ty := .array .int) (C := RX2) (T := TX2) (N := 4) hx hb hts (fun w hw => List.mem_cons_of_mem _ (ab_Tin2 w hw)) tyX2 tyX2_ok nmX2 hown hK hP hD hS 0 rfl rfl 2 (by decide) (hts _ (List.mem_cons_of_mem _ (ab_gt_of (List.mem_of_getElem? (i := 134) rfl) rfl))) (fun _ h9 => h9) rfl hin rfl (by decide +kernel) rfl rfl (Nat.le_of_ble_eq_true rfl) dX2_init_25 (fun H locs hP hD hS => ?_)
  have hP : va_P D vwCl [(h0, .inr (2, [.ref q7, .ref q15, .ref q23, .int 0])), (q7, .inl (cI, 10, .inl (fun _ => 0))), (q15, .inl (cI, 10, .inl (fun _ => 0))), (q23, .inl (cI, 10, .inl (fun _ => 0)))] H := hP
  have hD : va_D A [(h0, .inr (2, [.ref q7, .ref q15, .ref q23, .int 0])), (q7, .inl (cI, 10, .inl (fun _ => 0))), (q15, .inl (cI, 10, .inl (fun _ => 0))), (q23, .inl (cI, 10, .inl (fun _ => 0)))] := hD
  refine lv_aload_n hx hb dX2_init_28 rfl (lv_at hl 0 rfl) ?_
  refine lv_iconst (v := 0) hx hb dX2_init_29 (by decide) ?_
  refine va_put (D := D) (ci := 2) (v := .int 0) (ty := .int) (C := RX2) (T := TX2) (N := 4) hx hb hts (fun w hw => List.mem_cons_of_mem _ (ab_Tin2 w hw)) tyX2 tyX2_ok nmX2 hown hK hP hD hS 0 rfl rfl 3 (by decide) (hts _ (List.mem_cons_of_mem _ (ab_gt_of (List.mem_of_getElem? (i := 135) rfl) rfl))) (fun _ h9 => h9) rfl (by decide +kernel) rfl rfl (Nat.le_of_ble_eq_true rfl) dX2_init_30 (fun H locs hP hD hS => ?_)
  have hP : va_P D vwCl [(h0, .inr (2, [.ref q7, .ref q15, .ref q23, .int 0])), (q7, .inl (cI, 10, .inl (fun _ => 0))), (q15, .inl (cI, 10, .inl (fun _ => 0))), (q23, .inl (cI, 10, .inl (fun _ => 0)))] H := hP
  have hD : va_D A [(h0, .inr (2, [.ref q7, .ref q15, .ref q23, .int 0])), (q7, .inl (cI, 10, .inl (fun _ => 0))), (q15, .inl (cI, 10, .inl (fun _ => 0))), (q23, .inl (cI, 10, .inl (fun _ => 0)))] := hD
  exact W.vret hx hb hr (fun t ht hW => ⟨⟨(fun k => match k with | 0 => q7 | 1 => q15 | _ => q23), rfl, trivial, by rw [ht]; simp only [mk_w2, ite_self]; exact hP, by simp only [mk_w2, ite_self]; exact hD⟩, hS.F ht⟩) hS.2.2 dX2_init_33
def mk_w3 (cI cZ : ClassId) (h0 : Nat) (u : Nat → Nat) : va_W := [(h0, .inr (3, [.ref (u 0), .ref (u 1), .ref (u 2)])), ((u 0), .inl (cI, 12, .inl (fun j => if j < 12 then 0 else 0))), ((u 1), .inl (cZ, 12, .inl (fun j => if j < 12 then 0 else 0))), ((u 2), .inl (cI, 4, .inl (fun j => if j < 4 then 0 else 0)))]
def mk_s3 (h0 : Nat) : va_W := [(h0, .inr (3, [.null, .null, .null]))]
set_option maxRecDepth 20000 in
theorem mk_c3 : Cond.code yX3_init cX3_init 1 none ∈ ab_gt := ab_gt_of (List.mem_of_getElem? (i := 114) rfl) rfl
set_option maxHeartbeats 4000000 in
set_option maxRecDepth 100000 in
theorem K3 (l : Launch) (D : va_G) (cI cZ cR : ClassId) (h0 sz : Nat) : Met l yX3_init (.code yX3_init cX3_init 1 none :: ab_gt) ({ frames := 1, cells := 3, slots := 28, locals := 12 }) (va_Pc [.ref h0] (fun U => U.heap.size = sz ∧ va_P D vwCl (mk_s3 h0) U.heap ∧ va_K D vwCl (ab_ty cI cZ cR) U ∧ va_D (fun _ => True) (mk_s3 h0))) (va_Qv (fun _ : Nat → Nat => True) (fun u t => va_P D vwCl (mk_w3 cI cZ h0 u) t.heap ∧ va_D (va_A (mk_s3 h0) sz) (mk_w3 cI cZ h0 u)) (va_A (mk_s3 h0) sz)) 3 28 (va_A (mk_s3 h0) sz) := by
  refine Met.ofW (cc := cX3_init) (maxL := 1) (ret := none) (by decide) rfl ?_
  intro p e s m args below meth c s₁ B hml hv
  obtain ⟨rfl, hsz, hP, hK, hD0⟩ := hv
  have hx := B.exec
  have hb := B.bytes
  have hr := B.returns
  have hts := atoms_spec (ws := .code yX3_init cX3_init 1 none :: ab_gt) B.pre
  have hown : s.vm.findClass RX3 = some m.cls := findClass_of_methodNamed B.named
  have hin : meth.name = "<init>" := (name_of_methodNamed B.named B.method).1
  subst hsz
  have hD := hD0.self (sz := s.heap.size)
  generalize hAe : va_A (mk_s3 h0) s.heap.size = A at hD ⊢
  have hA : ∀ q : Nat, s.heap.size ≤ q → A q := fun q h => by rw [← hAe]; exact Or.inr h
  have hS : va_S A s.heap s.heap [] := va_S.rf
  have hP : va_P D vwCl [(h0, .inr (3, [.null, .null, .null]))] s.heap := hP
  have hD : va_D A [(h0, .inr (3, [.null, .null, .null]))] := hD
  have hl := lv_entry ([.ref h0]) (n := 1) (Nat.le_of_ble_eq_true rfl)
  rw [lg_entry_eq]
  generalize (lg_sl ([.ref h0]) ++ List.replicate (1 - (lg_sl ([.ref h0])).length) Slot.unset).toArray = ls at hl ⊢
  have hl : lv_has ls 1 [(0, .ref h0)] := hl
  refine lv_aload_n hx hb dX3_init_0 rfl (lv_at hl 0 rfl) ?_
  refine W.objInit (own := RX3) (idx := 3) hx hb hown (hts _ (List.mem_cons_of_mem _ (ab_gt_of (List.mem_of_getElem? (i := 115) rfl) rfl))) (hts _ (List.mem_cons_of_mem _ (ab_gt_of (List.mem_of_getElem? (i := 48) rfl) rfl))) (hts _ (List.mem_cons_of_mem _ (ab_gt_of (List.mem_of_getElem? (i := 49) rfl) rfl))) rfl (by rw [hml]; exact hl.1) rfl dX3_init_1 (Nat.le_of_ble_eq_true rfl) (Nat.le_of_ble_eq_true rfl) ?_
  refine W.eq (g2 := F0 m 4 ls []) rfl ?_
  refine lv_aload_n hx hb dX3_init_4 rfl (lv_at hl 0 rfl) ?_
  refine lv_bipush (v := 12) hx hb dX3_init_5 (by decide) ?_
  refine va_newa (a0 := (12, .inl (fun _ => 0))) (N' := 12) hx hb (hts _ (List.mem_cons_of_mem _ (ab_gt_of (List.mem_of_getElem? (i := 74) rfl) rfl))) (ty := .int) rfl hK hP hD hS hA (fun _ => rfl) (by decide) (by decide) (by decide) (Nat.le_of_ble_eq_true rfl) (Nat.le_of_ble_eq_true rfl) dX3_init_7 (fun q7 c7 H hK7 hP hD hS => ?_)
  obtain rfl : cI = c7 := (mk_un 0 rfl hK7).symm
  have hP : va_P D vwCl [(h0, .inr (3, [.null, .null, .null])), (q7, .inl (cI, 12, .inl (fun _ => 0)))] H := hP
  have hD : va_D A [(h0, .inr (3, [.null, .null, .null])), (q7, .inl (cI, 12, .inl (fun _ => 0)))] := hD
  refine W.widen (k := 1) (n := 12) (by omega) (by omega) ?_
  refine va_putF (D := D) (ci := 3) (v := .ref q7) (ty := .array .int) (C := RX3) (T := TX3) (N := 3) hx hb hts (fun w hw => List.mem_cons_of_mem _ (ab_Tin3 w hw)) tyX3 tyX3_ok nmX3 hown hK hP hD hS 0 rfl rfl 0 (by decide) (hts _ (List.mem_cons_of_mem _ (ab_gt_of (List.mem_of_getElem? (i := 116) rfl) rfl))) (fun _ h9 => h9) rfl hin rfl (by decide +kernel) rfl rfl (Nat.le_of_ble_eq_true rfl) dX3_init_9 (fun H locs hP hD hS => ?_)
  have hP : va_P D vwCl [(h0, .inr (3, [.ref q7, .null, .null])), (q7, .inl (cI, 12, .inl (fun _ => 0)))] H := hP
  have hD : va_D A [(h0, .inr (3, [.ref q7, .null, .null])), (q7, .inl (cI, 12, .inl (fun _ => 0)))] := hD
  refine lv_aload_n hx hb dX3_init_12 rfl (lv_at hl 0 rfl) ?_
  refine lv_bipush (v := 12) hx hb dX3_init_13 (by decide) ?_
  refine va_newa (a0 := (12, .inl (fun _ => 0))) (N' := 12) hx hb (hts _ (List.mem_cons_of_mem _ (ab_gt_of (List.mem_of_getElem? (i := 126) rfl) rfl))) (ty := .boolean) rfl hK hP hD hS hA (fun _ => rfl) (by decide) (by decide) (by decide) (Nat.le_of_ble_eq_true rfl) (Nat.le_of_ble_eq_true rfl) dX3_init_15 (fun q15 c15 H hK15 hP hD hS => ?_)
  obtain rfl : cZ = c15 := (mk_un 1 rfl hK15).symm
  have hP : va_P D vwCl [(h0, .inr (3, [.ref q7, .null, .null])), (q7, .inl (cI, 12, .inl (fun _ => 0))), (q15, .inl (cZ, 12, .inl (fun _ => 0)))] H := hP
  have hD : va_D A [(h0, .inr (3, [.ref q7, .null, .null])), (q7, .inl (cI, 12, .inl (fun _ => 0))), (q15, .inl (cZ, 12, .inl (fun _ => 0)))] := hD
  refine W.widen (k := 2) (n := 24) (by omega) (by omega) ?_
  refine va_putF (D := D) (ci := 3) (v := .ref q15) (ty := .array .boolean) (C := RX3) (T := TX3) (N := 3) hx hb hts (fun w hw => List.mem_cons_of_mem _ (ab_Tin3 w hw)) tyX3 tyX3_ok nmX3 hown hK hP hD hS 0 rfl rfl 1 (by decide) (hts _ (List.mem_cons_of_mem _ (ab_gt_of (List.mem_of_getElem? (i := 117) rfl) rfl))) (fun _ h9 => h9) rfl hin rfl (by decide +kernel) rfl rfl (Nat.le_of_ble_eq_true rfl) dX3_init_17 (fun H locs hP hD hS => ?_)
  have hP : va_P D vwCl [(h0, .inr (3, [.ref q7, .ref q15, .null])), (q7, .inl (cI, 12, .inl (fun _ => 0))), (q15, .inl (cZ, 12, .inl (fun _ => 0)))] H := hP
  have hD : va_D A [(h0, .inr (3, [.ref q7, .ref q15, .null])), (q7, .inl (cI, 12, .inl (fun _ => 0))), (q15, .inl (cZ, 12, .inl (fun _ => 0)))] := hD
  refine lv_aload_n hx hb dX3_init_20 rfl (lv_at hl 0 rfl) ?_
  refine lv_iconst (v := 4) hx hb dX3_init_21 (by decide) ?_
  refine va_newa (a0 := (4, .inl (fun _ => 0))) (N' := 4) hx hb (hts _ (List.mem_cons_of_mem _ (ab_gt_of (List.mem_of_getElem? (i := 74) rfl) rfl))) (ty := .int) rfl hK hP hD hS hA (fun _ => rfl) (by decide) (by decide) (by decide) (Nat.le_of_ble_eq_true rfl) (Nat.le_of_ble_eq_true rfl) dX3_init_22 (fun q22 c22 H hK22 hP hD hS => ?_)
  obtain rfl : cI = c22 := (mk_un 0 rfl hK22).symm
  have hP : va_P D vwCl [(h0, .inr (3, [.ref q7, .ref q15, .null])), (q7, .inl (cI, 12, .inl (fun _ => 0))), (q15, .inl (cZ, 12, .inl (fun _ => 0))), (q22, .inl (cI, 4, .inl (fun _ => 0)))] H := hP
  have hD : va_D A [(h0, .inr (3, [.ref q7, .ref q15, .null])), (q7, .inl (cI, 12, .inl (fun _ => 0))), (q15, .inl (cZ, 12, .inl (fun _ => 0))), (q22, .inl (cI, 4, .inl (fun _ => 0)))] := hD
  refine W.widen (k := 3) (n := 28) (by omega) (by omega) ?_
  refine va_putF (D := D) (ci := 3) (v := .ref q22) (ty := .array .int) (C := RX3) (T := TX3) (N := 3) hx hb hts (fun w hw => List.mem_cons_of_mem _ (ab_Tin3 w hw)) tyX3 tyX3_ok nmX3 hown hK hP hD hS 0 rfl rfl 2 (by decide) (hts _ (List.mem_cons_of_mem _ (ab_gt_of (List.mem_of_getElem? (i := 118) rfl) rfl))) (fun _ h9 => h9) rfl hin rfl (by decide +kernel) rfl rfl (Nat.le_of_ble_eq_true rfl) dX3_init_24 (fun H locs hP hD hS => ?_)
  have hP : va_P D vwCl [(h0, .inr (3, [.ref q7, .ref q15, .ref q22])), (q7, .inl (cI, 12, .inl (fun _ => 0))), (q15, .inl (cZ, 12, .inl (fun _ => 0))), (q22, .inl (cI, 4, .inl (fun _ => 0)))] H := hP
  have hD : va_D A [(h0, .inr (3, [.ref q7, .ref q15, .ref q22])), (q7, .inl (cI, 12, .inl (fun _ => 0))), (q15, .inl (cZ, 12, .inl (fun _ => 0))), (q22, .inl (cI, 4, .inl (fun _ => 0)))] := hD
  exact W.vret hx hb hr (fun t ht hW => ⟨⟨(fun k => match k with | 0 => q7 | 1 => q15 | _ => q22), rfl, trivial, by rw [ht]; simp only [mk_w3, ite_self]; exact hP, by simp only [mk_w3, ite_self]; exact hD⟩, hS.F ht⟩) hS.2.2 dX3_init_27
def mk_w4 (cI cZ : ClassId) (h0 : Nat) (u : Nat → Nat) : va_W := [(h0, .inr (4, [.ref (u 0), .ref (u 1), .ref (u 2), .int 0, .int 0])), ((u 0), .inl (cI, 3, .inl (fun j => if j < 3 then (-1) else 0))), ((u 1), .inl (cI, 3, .inl (fun j => if j < 3 then (-100) else 0))), ((u 2), .inl (cI, 3, .inl (fun j => if j < 3 then (-5) else 0)))]
def mk_s4 (h0 : Nat) : va_W := [(h0, .inr (4, [.null, .null, .null, .int 0, .int 0]))]
set_option maxRecDepth 20000 in
theorem mk_c4 : Cond.code yX4_init cX4_init 2 none ∈ ab_gt := ab_gt_of (List.mem_of_getElem? (i := 56) rfl) rfl
set_option maxHeartbeats 4000000 in
set_option maxRecDepth 100000 in
theorem K4 (l : Launch) (D : va_G) (cI cZ cR : ClassId) (h0 sz : Nat) : Met l yX4_init (.code yX4_init cX4_init 2 none :: ab_gt) ({ frames := 1, cells := 3, slots := 9, locals := 12 }) (va_Pc [.ref h0] (fun U => U.heap.size = sz ∧ va_P D vwCl (mk_s4 h0) U.heap ∧ va_K D vwCl (ab_ty cI cZ cR) U ∧ va_D (fun _ => True) (mk_s4 h0))) (va_Qv (fun _ : Nat → Nat => True) (fun u t => va_P D vwCl (mk_w4 cI cZ h0 u) t.heap ∧ va_D (va_A (mk_s4 h0) sz) (mk_w4 cI cZ h0 u)) (va_A (mk_s4 h0) sz)) 3 9 (va_A (mk_s4 h0) sz) := by
  refine Met.ofW (cc := cX4_init) (maxL := 2) (ret := none) (by decide) rfl ?_
  intro p e s m args below meth c s₁ B hml hv
  obtain ⟨rfl, hsz, hP, hK, hD0⟩ := hv
  have hx := B.exec
  have hb := B.bytes
  have hr := B.returns
  have hts := atoms_spec (ws := .code yX4_init cX4_init 2 none :: ab_gt) B.pre
  have hown : s.vm.findClass RX4 = some m.cls := findClass_of_methodNamed B.named
  have hin : meth.name = "<init>" := (name_of_methodNamed B.named B.method).1
  subst hsz
  have hD := hD0.self (sz := s.heap.size)
  generalize hAe : va_A (mk_s4 h0) s.heap.size = A at hD ⊢
  have hA : ∀ q : Nat, s.heap.size ≤ q → A q := fun q h => by rw [← hAe]; exact Or.inr h
  have hS : va_S A s.heap s.heap [] := va_S.rf
  have hP : va_P D vwCl [(h0, .inr (4, [.null, .null, .null, .int 0, .int 0]))] s.heap := hP
  have hD : va_D A [(h0, .inr (4, [.null, .null, .null, .int 0, .int 0]))] := hD
  have hl := lv_entry ([.ref h0]) (n := 2) (Nat.le_of_ble_eq_true rfl)
  rw [lg_entry_eq]
  generalize (lg_sl ([.ref h0]) ++ List.replicate (2 - (lg_sl ([.ref h0])).length) Slot.unset).toArray = ls at hl ⊢
  have hl : lv_has ls 2 [(0, .ref h0)] := hl
  refine lv_aload_n hx hb dX4_init_0 rfl (lv_at hl 0 rfl) ?_
  refine W.objInit (own := RX4) (idx := 3) hx hb hown (hts _ (List.mem_cons_of_mem _ (ab_gt_of (List.mem_of_getElem? (i := 57) rfl) rfl))) (hts _ (List.mem_cons_of_mem _ (ab_gt_of (List.mem_of_getElem? (i := 48) rfl) rfl))) (hts _ (List.mem_cons_of_mem _ (ab_gt_of (List.mem_of_getElem? (i := 49) rfl) rfl))) rfl (by rw [hml]; exact hl.1) rfl dX4_init_1 (Nat.le_of_ble_eq_true rfl) (Nat.le_of_ble_eq_true rfl) ?_
  refine W.eq (g2 := F0 m 4 ls []) rfl ?_
  refine lv_aload_n hx hb dX4_init_4 rfl (lv_at hl 0 rfl) ?_
  refine lv_iconst (v := 3) hx hb dX4_init_5 (by decide) ?_
  refine va_newa (a0 := (3, .inl (fun _ => 0))) (N' := 3) hx hb (hts _ (List.mem_cons_of_mem _ (ab_gt_of (List.mem_of_getElem? (i := 74) rfl) rfl))) (ty := .int) rfl hK hP hD hS hA (fun _ => rfl) (by decide) (by decide) (by decide) (Nat.le_of_ble_eq_true rfl) (Nat.le_of_ble_eq_true rfl) dX4_init_6 (fun q6 c6 H hK6 hP hD hS => ?_)
  obtain rfl : cI = c6 := (mk_un 0 rfl hK6).symm
  have hP : va_P D vwCl [(h0, .inr (4, [.null, .null, .null, .int 0, .int 0])), (q6, .inl (cI, 3, .inl (fun _ => 0)))] H := hP
  have hD : va_D A [(h0, .inr (4, [.null, .null, .null, .int 0, .int 0])), (q6, .inl (cI, 3, .inl (fun _ => 0)))] := hD
  refine W.widen (k := 1) (n := 3) (by omega) (by omega) ?_
  refine va_putF (D := D) (ci := 4) (v := .ref q6) (ty := .array .int) (C := RX4) (T := TX4) (N := 5) hx hb hts (fun w hw => List.mem_cons_of_mem _ (ab_Tin4 w hw)) tyX4 tyX4_ok nmX4 hown hK hP hD hS 0 rfl rfl 0 (by decide) (hts _ (List.mem_cons_of_mem _ (ab_gt_of (List.mem_of_getElem? (i := 58) rfl) rfl))) (fun _ h9 => h9) rfl hin rfl (by decide +kernel) rfl rfl (Nat.le_of_ble_eq_true rfl) dX4_init_8 (fun H locs hP hD hS => ?_)
  have hP : va_P D vwCl [(h0, .inr (4, [.ref q6, .null, .null, .int 0, .int 0])), (q6, .inl (cI, 3, .inl (fun _ => 0)))] H := hP
  have hD : va_D A [(h0, .inr (4, [.ref q6, .null, .null, .int 0, .int 0])), (q6, .inl (cI, 3, .inl (fun _ => 0)))] := hD
  refine lv_aload_n hx hb dX4_init_11 rfl (lv_at hl 0 rfl) ?_
  refine lv_iconst (v := 3) hx hb dX4_init_12 (by decide) ?_
  refine va_newa (a0 := (3, .inl (fun _ => 0))) (N' := 3) hx hb (hts _ (List.mem_cons_of_mem _ (ab_gt_of (List.mem_of_getElem? (i := 74) rfl) rfl))) (ty := .int) rfl hK hP hD hS hA (fun _ => rfl) (by decide) (by decide) (by decide) (Nat.le_of_ble_eq_true rfl) (Nat.le_of_ble_eq_true rfl) dX4_init_13 (fun q13 c13 H hK13 hP hD hS => ?_)
  obtain rfl : cI = c13 := (mk_un 0 rfl hK13).symm
  have hP : va_P D vwCl [(h0, .inr (4, [.ref q6, .null, .null, .int 0, .int 0])), (q6, .inl (cI, 3, .inl (fun _ => 0))), (q13, .inl (cI, 3, .inl (fun _ => 0)))] H := hP
  have hD : va_D A [(h0, .inr (4, [.ref q6, .null, .null, .int 0, .int 0])), (q6, .inl (cI, 3, .inl (fun _ => 0))), (q13, .inl (cI, 3, .inl (fun _ => 0)))] := hD
  refine W.widen (k := 2) (n := 6) (by omega) (by omega) ?_
  refine va_putF (D := D) (ci := 4) (v := .ref q13) (ty := .array .int) (C := RX4) (T := TX4) (N := 5) hx hb hts (fun w hw => List.mem_cons_of_mem _ (ab_Tin4 w hw)) tyX4 tyX4_ok nmX4 hown hK hP hD hS 0 rfl rfl 1 (by decide) (hts _ (List.mem_cons_of_mem _ (ab_gt_of (List.mem_of_getElem? (i := 59) rfl) rfl))) (fun _ h9 => h9) rfl hin rfl (by decide +kernel) rfl rfl (Nat.le_of_ble_eq_true rfl) dX4_init_15 (fun H locs hP hD hS => ?_)
  have hP : va_P D vwCl [(h0, .inr (4, [.ref q6, .ref q13, .null, .int 0, .int 0])), (q6, .inl (cI, 3, .inl (fun _ => 0))), (q13, .inl (cI, 3, .inl (fun _ => 0)))] H := hP
  have hD : va_D A [(h0, .inr (4, [.ref q6, .ref q13, .null, .int 0, .int 0])), (q6, .inl (cI, 3, .inl (fun _ => 0))), (q13, .inl (cI, 3, .inl (fun _ => 0)))] := hD
  refine lv_aload_n hx hb dX4_init_18 rfl (lv_at hl 0 rfl) ?_
  refine lv_iconst (v := 3) hx hb dX4_init_19 (by decide) ?_
  refine va_newa (a0 := (3, .inl (fun _ => 0))) (N' := 3) hx hb (hts _ (List.mem_cons_of_mem _ (ab_gt_of (List.mem_of_getElem? (i := 74) rfl) rfl))) (ty := .int) rfl hK hP hD hS hA (fun _ => rfl) (by decide) (by decide) (by decide) (Nat.le_of_ble_eq_true rfl) (Nat.le_of_ble_eq_true rfl) dX4_init_20 (fun q20 c20 H hK20 hP hD hS => ?_)
  obtain rfl : cI = c20 := (mk_un 0 rfl hK20).symm
  have hP : va_P D vwCl [(h0, .inr (4, [.ref q6, .ref q13, .null, .int 0, .int 0])), (q6, .inl (cI, 3, .inl (fun _ => 0))), (q13, .inl (cI, 3, .inl (fun _ => 0))), (q20, .inl (cI, 3, .inl (fun _ => 0)))] H := hP
  have hD : va_D A [(h0, .inr (4, [.ref q6, .ref q13, .null, .int 0, .int 0])), (q6, .inl (cI, 3, .inl (fun _ => 0))), (q13, .inl (cI, 3, .inl (fun _ => 0))), (q20, .inl (cI, 3, .inl (fun _ => 0)))] := hD
  refine W.widen (k := 3) (n := 9) (by omega) (by omega) ?_
  refine va_putF (D := D) (ci := 4) (v := .ref q20) (ty := .array .int) (C := RX4) (T := TX4) (N := 5) hx hb hts (fun w hw => List.mem_cons_of_mem _ (ab_Tin4 w hw)) tyX4 tyX4_ok nmX4 hown hK hP hD hS 0 rfl rfl 2 (by decide) (hts _ (List.mem_cons_of_mem _ (ab_gt_of (List.mem_of_getElem? (i := 60) rfl) rfl))) (fun _ h9 => h9) rfl hin rfl (by decide +kernel) rfl rfl (Nat.le_of_ble_eq_true rfl) dX4_init_22 (fun H locs hP hD hS => ?_)
  have hP : va_P D vwCl [(h0, .inr (4, [.ref q6, .ref q13, .ref q20, .int 0, .int 0])), (q6, .inl (cI, 3, .inl (fun _ => 0))), (q13, .inl (cI, 3, .inl (fun _ => 0))), (q20, .inl (cI, 3, .inl (fun _ => 0)))] H := hP
  have hD : va_D A [(h0, .inr (4, [.ref q6, .ref q13, .ref q20, .int 0, .int 0])), (q6, .inl (cI, 3, .inl (fun _ => 0))), (q13, .inl (cI, 3, .inl (fun _ => 0))), (q20, .inl (cI, 3, .inl (fun _ => 0)))] := hD
  refine lv_aload_n hx hb dX4_init_25 rfl (lv_at hl 0 rfl) ?_
  refine lv_iconst (v := 0) hx hb dX4_init_26 (by decide) ?_
  refine va_put (D := D) (ci := 4) (v := .int 0) (ty := .int) (C := RX4) (T := TX4) (N := 5) hx hb hts (fun w hw => List.mem_cons_of_mem _ (ab_Tin4 w hw)) tyX4 tyX4_ok nmX4 hown hK hP hD hS 0 rfl rfl 3 (by decide) (hts _ (List.mem_cons_of_mem _ (ab_gt_of (List.mem_of_getElem? (i := 61) rfl) rfl))) (fun _ h9 => h9) rfl (by decide +kernel) rfl rfl (Nat.le_of_ble_eq_true rfl) dX4_init_27 (fun H locs hP hD hS => ?_)
  have hP : va_P D vwCl [(h0, .inr (4, [.ref q6, .ref q13, .ref q20, .int 0, .int 0])), (q6, .inl (cI, 3, .inl (fun _ => 0))), (q13, .inl (cI, 3, .inl (fun _ => 0))), (q20, .inl (cI, 3, .inl (fun _ => 0)))] H := hP
  have hD : va_D A [(h0, .inr (4, [.ref q6, .ref q13, .ref q20, .int 0, .int 0])), (q6, .inl (cI, 3, .inl (fun _ => 0))), (q13, .inl (cI, 3, .inl (fun _ => 0))), (q20, .inl (cI, 3, .inl (fun _ => 0)))] := hD
  refine lv_aload_n hx hb dX4_init_30 rfl (lv_at hl 0 rfl) ?_
  refine lv_iconst (v := 0) hx hb dX4_init_31 (by decide) ?_
  refine va_put (D := D) (ci := 4) (v := .int 0) (ty := .int) (C := RX4) (T := TX4) (N := 5) hx hb hts (fun w hw => List.mem_cons_of_mem _ (ab_Tin4 w hw)) tyX4 tyX4_ok nmX4 hown hK hP hD hS 0 rfl rfl 4 (by decide) (hts _ (List.mem_cons_of_mem _ (ab_gt_of (List.mem_of_getElem? (i := 62) rfl) rfl))) (fun _ h9 => h9) rfl (by decide +kernel) rfl rfl (Nat.le_of_ble_eq_true rfl) dX4_init_32 (fun H locs hP hD hS => ?_)
  have hP : va_P D vwCl [(h0, .inr (4, [.ref q6, .ref q13, .ref q20, .int 0, .int 0])), (q6, .inl (cI, 3, .inl (fun _ => 0))), (q13, .inl (cI, 3, .inl (fun _ => 0))), (q20, .inl (cI, 3, .inl (fun _ => 0)))] H := hP
  have hD : va_D A [(h0, .inr (4, [.ref q6, .ref q13, .ref q20, .int 0, .int 0])), (q6, .inl (cI, 3, .inl (fun _ => 0))), (q13, .inl (cI, 3, .inl (fun _ => 0))), (q20, .inl (cI, 3, .inl (fun _ => 0)))] := hD
  refine lv_iconst (v := 0) hx hb dX4_init_35 (by decide) ?_
  refine lv_istore_n (lv' := [(1, .int 0), (0, .ref h0)]) hx hb dX4_init_36 rfl hl (by decide) rfl (fun ls hl => ?_)
  refine lv_iload_n hx hb dX4_init_37 rfl (lv_at hl 0 rfl) ?_
  refine lv_iconst (v := 3) hx hb dX4_init_38 (by decide) ?_
  refine lv_icmp_ge (tgt := 71) hx hb dX4_init_39 (by decide) (fun h => absurd h (by decide)) (fun _ => ?_)
  refine lv_aload_n hx hb dX4_init_42 rfl (lv_at hl 1 rfl) ?_
  refine va_get (ci := 4) (C := RX4) (T := TX4) (N := 5) hx hb hts (fun w hw => List.mem_cons_of_mem _ (ab_Tin4 w hw)) hown hK hP 0 rfl rfl 0 (by decide) (hts _ (List.mem_cons_of_mem _ (ab_gt_of (List.mem_of_getElem? (i := 58) rfl) rfl))) (fun _ h9 => h9) rfl dX4_init_43 ?_
  refine lv_iload_n hx hb dX4_init_46 rfl (lv_at hl 0 rfl) ?_
  refine lv_iconst (v := (-1)) hx hb dX4_init_47 (by decide) ?_
  refine va_iast hx hb hK hP hD hS 1 0 rfl rfl (i := 0) (by unfold vp_in; decide) dX4_init_48 (fun H locs hP hD hS => ?_)
  have hP : va_P D vwCl [(h0, .inr (4, [.ref q6, .ref q13, .ref q20, .int 0, .int 0])), (q6, .inl (cI, 3, .inl (upd (fun _ => 0) 0 (-1)))), (q13, .inl (cI, 3, .inl (fun _ => 0))), (q20, .inl (cI, 3, .inl (fun _ => 0)))] H := hP
  have hD : va_D A [(h0, .inr (4, [.ref q6, .ref q13, .ref q20, .int 0, .int 0])), (q6, .inl (cI, 3, .inl (upd (fun _ => 0) 0 (-1)))), (q13, .inl (cI, 3, .inl (fun _ => 0))), (q20, .inl (cI, 3, .inl (fun _ => 0)))] := hD
  refine lv_aload_n hx hb dX4_init_49 rfl (lv_at hl 1 rfl) ?_
  refine va_get (ci := 4) (C := RX4) (T := TX4) (N := 5) hx hb hts (fun w hw => List.mem_cons_of_mem _ (ab_Tin4 w hw)) hown hK hP 0 rfl rfl 1 (by decide) (hts _ (List.mem_cons_of_mem _ (ab_gt_of (List.mem_of_getElem? (i := 59) rfl) rfl))) (fun _ h9 => h9) rfl dX4_init_50 ?_
  refine lv_iload_n hx hb dX4_init_53 rfl (lv_at hl 0 rfl) ?_
  refine lv_bipush (v := (-100)) hx hb dX4_init_54 (by decide) ?_
  refine va_iast hx hb hK hP hD hS 2 0 rfl rfl (i := 0) (by unfold vp_in; decide) dX4_init_56 (fun H locs hP hD hS => ?_)
  have hP : va_P D vwCl [(h0, .inr (4, [.ref q6, .ref q13, .ref q20, .int 0, .int 0])), (q6, .inl (cI, 3, .inl (upd (fun _ => 0) 0 (-1)))), (q13, .inl (cI, 3, .inl (upd (fun _ => 0) 0 (-100)))), (q20, .inl (cI, 3, .inl (fun _ => 0)))] H := hP
  have hD : va_D A [(h0, .inr (4, [.ref q6, .ref q13, .ref q20, .int 0, .int 0])), (q6, .inl (cI, 3, .inl (upd (fun _ => 0) 0 (-1)))), (q13, .inl (cI, 3, .inl (upd (fun _ => 0) 0 (-100)))), (q20, .inl (cI, 3, .inl (fun _ => 0)))] := hD
  refine lv_aload_n hx hb dX4_init_57 rfl (lv_at hl 1 rfl) ?_
  refine va_get (ci := 4) (C := RX4) (T := TX4) (N := 5) hx hb hts (fun w hw => List.mem_cons_of_mem _ (ab_Tin4 w hw)) hown hK hP 0 rfl rfl 2 (by decide) (hts _ (List.mem_cons_of_mem _ (ab_gt_of (List.mem_of_getElem? (i := 60) rfl) rfl))) (fun _ h9 => h9) rfl dX4_init_58 ?_
  refine lv_iload_n hx hb dX4_init_61 rfl (lv_at hl 0 rfl) ?_
  refine lv_bipush (v := (-5)) hx hb dX4_init_62 (by decide) ?_
  refine va_iast hx hb hK hP hD hS 3 0 rfl rfl (i := 0) (by unfold vp_in; decide) dX4_init_64 (fun H locs hP hD hS => ?_)
  have hP : va_P D vwCl [(h0, .inr (4, [.ref q6, .ref q13, .ref q20, .int 0, .int 0])), (q6, .inl (cI, 3, .inl (upd (fun _ => 0) 0 (-1)))), (q13, .inl (cI, 3, .inl (upd (fun _ => 0) 0 (-100)))), (q20, .inl (cI, 3, .inl (upd (fun _ => 0) 0 (-5))))] H := hP
  have hD : va_D A [(h0, .inr (4, [.ref q6, .ref q13, .ref q20, .int 0, .int 0])), (q6, .inl (cI, 3, .inl (upd (fun _ => 0) 0 (-1)))), (q13, .inl (cI, 3, .inl (upd (fun _ => 0) 0 (-100)))), (q20, .inl (cI, 3, .inl (upd (fun _ => 0) 0 (-5))))] := hD
  refine lv_iinc (k := 0) (v := 1) (lv' := [(1, .int 1), (0, .ref h0)]) hx hb dX4_init_65 hl rfl (by decide) (by decide) rfl (fun ls hl => ?_)
  refine lv_goto (tgt := 37) hx hb dX4_init_68 (by decide) ?_
  refine lv_iload_n hx hb dX4_init_37 rfl (lv_at hl 0 rfl) ?_
  refine lv_iconst (v := 3) hx hb dX4_init_38 (by decide) ?_
  refine lv_icmp_ge (tgt := 71) hx hb dX4_init_39 (by decide) (fun h => absurd h (by decide)) (fun _ => ?_)
  refine lv_aload_n hx hb dX4_init_42 rfl (lv_at hl 1 rfl) ?_
  refine va_get (ci := 4) (C := RX4) (T := TX4) (N := 5) hx hb hts (fun w hw => List.mem_cons_of_mem _ (ab_Tin4 w hw)) hown hK hP 0 rfl rfl 0 (by decide) (hts _ (List.mem_cons_of_mem _ (ab_gt_of (List.mem_of_getElem? (i := 58) rfl) rfl))) (fun _ h9 => h9) rfl dX4_init_43 ?_
  refine lv_iload_n hx hb dX4_init_46 rfl (lv_at hl 0 rfl) ?_
  refine lv_iconst (v := (-1)) hx hb dX4_init_47 (by decide) ?_
  refine va_iast hx hb hK hP hD hS 1 0 rfl rfl (i := 1) (by unfold vp_in; decide) dX4_init_48 (fun H locs hP hD hS => ?_)
  have hP : va_P D vwCl [(h0, .inr (4, [.ref q6, .ref q13, .ref q20, .int 0, .int 0])), (q6, .inl (cI, 3, .inl (upd (upd (fun _ => 0) 0 (-1)) 1 (-1)))), (q13, .inl (cI, 3, .inl (upd (fun _ => 0) 0 (-100)))), (q20, .inl (cI, 3, .inl (upd (fun _ => 0) 0 (-5))))] H := hP
  have hD : va_D A [(h0, .inr (4, [.ref q6, .ref q13, .ref q20, .int 0, .int 0])), (q6, .inl (cI, 3, .inl (upd (upd (fun _ => 0) 0 (-1)) 1 (-1)))), (q13, .inl (cI, 3, .inl (upd (fun _ => 0) 0 (-100)))), (q20, .inl (cI, 3, .inl (upd (fun _ => 0) 0 (-5))))] := hD
  refine lv_aload_n hx hb dX4_init_49 rfl (lv_at hl 1 rfl) ?_
  refine va_get (ci := 4) (C := RX4) (T := TX4) (N := 5) hx hb hts (fun w hw => List.mem_cons_of_mem _ (ab_Tin4 w hw)) hown hK hP 0 rfl rfl 1 (by decide) (hts _ (List.mem_cons_of_mem _ (ab_gt_of (List.mem_of_getElem? (i := 59) rfl) rfl))) (fun _ h9 => h9) rfl dX4_init_50 ?_
  refine lv_iload_n hx hb dX4_init_53 rfl (lv_at hl 0 rfl) ?_
  refine lv_bipush (v := (-100)) hx hb dX4_init_54 (by decide) ?_
  refine va_iast hx hb hK hP hD hS 2 0 rfl rfl (i := 1) (by unfold vp_in; decide) dX4_init_56 (fun H locs hP hD hS => ?_)
  have hP : va_P D vwCl [(h0, .inr (4, [.ref q6, .ref q13, .ref q20, .int 0, .int 0])), (q6, .inl (cI, 3, .inl (upd (upd (fun _ => 0) 0 (-1)) 1 (-1)))), (q13, .inl (cI, 3, .inl (upd (upd (fun _ => 0) 0 (-100)) 1 (-100)))), (q20, .inl (cI, 3, .inl (upd (fun _ => 0) 0 (-5))))] H := hP
  have hD : va_D A [(h0, .inr (4, [.ref q6, .ref q13, .ref q20, .int 0, .int 0])), (q6, .inl (cI, 3, .inl (upd (upd (fun _ => 0) 0 (-1)) 1 (-1)))), (q13, .inl (cI, 3, .inl (upd (upd (fun _ => 0) 0 (-100)) 1 (-100)))), (q20, .inl (cI, 3, .inl (upd (fun _ => 0) 0 (-5))))] := hD
  refine lv_aload_n hx hb dX4_init_57 rfl (lv_at hl 1 rfl) ?_
  refine va_get (ci := 4) (C := RX4) (T := TX4) (N := 5) hx hb hts (fun w hw => List.mem_cons_of_mem _ (ab_Tin4 w hw)) hown hK hP 0 rfl rfl 2 (by decide) (hts _ (List.mem_cons_of_mem _ (ab_gt_of (List.mem_of_getElem? (i := 60) rfl) rfl))) (fun _ h9 => h9) rfl dX4_init_58 ?_
  refine lv_iload_n hx hb dX4_init_61 rfl (lv_at hl 0 rfl) ?_
  refine lv_bipush (v := (-5)) hx hb dX4_init_62 (by decide) ?_
  refine va_iast hx hb hK hP hD hS 3 0 rfl rfl (i := 1) (by unfold vp_in; decide) dX4_init_64 (fun H locs hP hD hS => ?_)
  have hP : va_P D vwCl [(h0, .inr (4, [.ref q6, .ref q13, .ref q20, .int 0, .int 0])), (q6, .inl (cI, 3, .inl (upd (upd (fun _ => 0) 0 (-1)) 1 (-1)))), (q13, .inl (cI, 3, .inl (upd (upd (fun _ => 0) 0 (-100)) 1 (-100)))), (q20, .inl (cI, 3, .inl (upd (upd (fun _ => 0) 0 (-5)) 1 (-5))))] H := hP
  have hD : va_D A [(h0, .inr (4, [.ref q6, .ref q13, .ref q20, .int 0, .int 0])), (q6, .inl (cI, 3, .inl (upd (upd (fun _ => 0) 0 (-1)) 1 (-1)))), (q13, .inl (cI, 3, .inl (upd (upd (fun _ => 0) 0 (-100)) 1 (-100)))), (q20, .inl (cI, 3, .inl (upd (upd (fun _ => 0) 0 (-5)) 1 (-5))))] := hD
  refine lv_iinc (k := 0) (v := 2) (lv' := [(1, .int 2), (0, .ref h0)]) hx hb dX4_init_65 hl rfl (by decide) (by decide) rfl (fun ls hl => ?_)
  refine lv_goto (tgt := 37) hx hb dX4_init_68 (by decide) ?_
  refine lv_iload_n hx hb dX4_init_37 rfl (lv_at hl 0 rfl) ?_
  refine lv_iconst (v := 3) hx hb dX4_init_38 (by decide) ?_
  refine lv_icmp_ge (tgt := 71) hx hb dX4_init_39 (by decide) (fun h => absurd h (by decide)) (fun _ => ?_)
  refine lv_aload_n hx hb dX4_init_42 rfl (lv_at hl 1 rfl) ?_
  refine va_get (ci := 4) (C := RX4) (T := TX4) (N := 5) hx hb hts (fun w hw => List.mem_cons_of_mem _ (ab_Tin4 w hw)) hown hK hP 0 rfl rfl 0 (by decide) (hts _ (List.mem_cons_of_mem _ (ab_gt_of (List.mem_of_getElem? (i := 58) rfl) rfl))) (fun _ h9 => h9) rfl dX4_init_43 ?_
  refine lv_iload_n hx hb dX4_init_46 rfl (lv_at hl 0 rfl) ?_
  refine lv_iconst (v := (-1)) hx hb dX4_init_47 (by decide) ?_
  refine va_iast hx hb hK hP hD hS 1 0 rfl rfl (i := 2) (by unfold vp_in; decide) dX4_init_48 (fun H locs hP hD hS => ?_)
  have hP : va_P D vwCl [(h0, .inr (4, [.ref q6, .ref q13, .ref q20, .int 0, .int 0])), (q6, .inl (cI, 3, .inl (upd (upd (upd (fun _ => 0) 0 (-1)) 1 (-1)) 2 (-1)))), (q13, .inl (cI, 3, .inl (upd (upd (fun _ => 0) 0 (-100)) 1 (-100)))), (q20, .inl (cI, 3, .inl (upd (upd (fun _ => 0) 0 (-5)) 1 (-5))))] H := hP
  have hD : va_D A [(h0, .inr (4, [.ref q6, .ref q13, .ref q20, .int 0, .int 0])), (q6, .inl (cI, 3, .inl (upd (upd (upd (fun _ => 0) 0 (-1)) 1 (-1)) 2 (-1)))), (q13, .inl (cI, 3, .inl (upd (upd (fun _ => 0) 0 (-100)) 1 (-100)))), (q20, .inl (cI, 3, .inl (upd (upd (fun _ => 0) 0 (-5)) 1 (-5))))] := hD
  refine lv_aload_n hx hb dX4_init_49 rfl (lv_at hl 1 rfl) ?_
  refine va_get (ci := 4) (C := RX4) (T := TX4) (N := 5) hx hb hts (fun w hw => List.mem_cons_of_mem _ (ab_Tin4 w hw)) hown hK hP 0 rfl rfl 1 (by decide) (hts _ (List.mem_cons_of_mem _ (ab_gt_of (List.mem_of_getElem? (i := 59) rfl) rfl))) (fun _ h9 => h9) rfl dX4_init_50 ?_
  refine lv_iload_n hx hb dX4_init_53 rfl (lv_at hl 0 rfl) ?_
  refine lv_bipush (v := (-100)) hx hb dX4_init_54 (by decide) ?_
  refine va_iast hx hb hK hP hD hS 2 0 rfl rfl (i := 2) (by unfold vp_in; decide) dX4_init_56 (fun H locs hP hD hS => ?_)
  have hP : va_P D vwCl [(h0, .inr (4, [.ref q6, .ref q13, .ref q20, .int 0, .int 0])), (q6, .inl (cI, 3, .inl (upd (upd (upd (fun _ => 0) 0 (-1)) 1 (-1)) 2 (-1)))), (q13, .inl (cI, 3, .inl (upd (upd (upd (fun _ => 0) 0 (-100)) 1 (-100)) 2 (-100)))), (q20, .inl (cI, 3, .inl (upd (upd (fun _ => 0) 0 (-5)) 1 (-5))))] H := hP
  have hD : va_D A [(h0, .inr (4, [.ref q6, .ref q13, .ref q20, .int 0, .int 0])), (q6, .inl (cI, 3, .inl (upd (upd (upd (fun _ => 0) 0 (-1)) 1 (-1)) 2 (-1)))), (q13, .inl (cI, 3, .inl (upd (upd (upd (fun _ => 0) 0 (-100)) 1 (-100)) 2 (-100)))), (q20, .inl (cI, 3, .inl (upd (upd (fun _ => 0) 0 (-5)) 1 (-5))))] := hD
  refine lv_aload_n hx hb dX4_init_57 rfl (lv_at hl 1 rfl) ?_
  refine va_get (ci := 4) (C := RX4) (T := TX4) (N := 5) hx hb hts (fun w hw => List.mem_cons_of_mem _ (ab_Tin4 w hw)) hown hK hP 0 rfl rfl 2 (by decide) (hts _ (List.mem_cons_of_mem _ (ab_gt_of (List.mem_of_getElem? (i := 60) rfl) rfl))) (fun _ h9 => h9) rfl dX4_init_58 ?_
  refine lv_iload_n hx hb dX4_init_61 rfl (lv_at hl 0 rfl) ?_
  refine lv_bipush (v := (-5)) hx hb dX4_init_62 (by decide) ?_
  refine va_iast hx hb hK hP hD hS 3 0 rfl rfl (i := 2) (by unfold vp_in; decide) dX4_init_64 (fun H locs hP hD hS => ?_)
  have hP : va_P D vwCl [(h0, .inr (4, [.ref q6, .ref q13, .ref q20, .int 0, .int 0])), (q6, .inl (cI, 3, .inl (upd (upd (upd (fun _ => 0) 0 (-1)) 1 (-1)) 2 (-1)))), (q13, .inl (cI, 3, .inl (upd (upd (upd (fun _ => 0) 0 (-100)) 1 (-100)) 2 (-100)))), (q20, .inl (cI, 3, .inl (upd (upd (upd (fun _ => 0) 0 (-5)) 1 (-5)) 2 (-5))))] H := hP
  have hD : va_D A [(h0, .inr (4, [.ref q6, .ref q13, .ref q20, .int 0, .int 0])), (q6, .inl (cI, 3, .inl (upd (upd (upd (fun _ => 0) 0 (-1)) 1 (-1)) 2 (-1)))), (q13, .inl (cI, 3, .inl (upd (upd (upd (fun _ => 0) 0 (-100)) 1 (-100)) 2 (-100)))), (q20, .inl (cI, 3, .inl (upd (upd (upd (fun _ => 0) 0 (-5)) 1 (-5)) 2 (-5))))] := hD
  refine lv_iinc (k := 0) (v := 3) (lv' := [(1, .int 3), (0, .ref h0)]) hx hb dX4_init_65 hl rfl (by decide) (by decide) rfl (fun ls hl => ?_)
  refine lv_goto (tgt := 37) hx hb dX4_init_68 (by decide) ?_
  refine lv_iload_n hx hb dX4_init_37 rfl (lv_at hl 0 rfl) ?_
  refine lv_iconst (v := 3) hx hb dX4_init_38 (by decide) ?_
  refine lv_icmp_ge (tgt := 71) hx hb dX4_init_39 (by decide) (fun _ => ?_) (fun h => absurd h (by decide))
  have e_564 : (upd (upd (upd (fun _ => 0) 0 (-1)) 1 (-1)) 2 (-1)) = (fun j => if j < 3 then (-1) else 0) := by funext j; match j with
    | 0 => rfl
    | 1 => rfl
    | 2 => rfl
    | n + 3 => simp [upd]
  rw [e_564] at hP hD
  have e_993 : (upd (upd (upd (fun _ => 0) 0 (-100)) 1 (-100)) 2 (-100)) = (fun j => if j < 3 then (-100) else 0) := by funext j; match j with
    | 0 => rfl
    | 1 => rfl
    | 2 => rfl
    | n + 3 => simp [upd]
  rw [e_993] at hP hD
  have e_746 : (upd (upd (upd (fun _ => 0) 0 (-5)) 1 (-5)) 2 (-5)) = (fun j => if j < 3 then (-5) else 0) := by funext j; match j with
    | 0 => rfl
    | 1 => rfl
    | 2 => rfl
    | n + 3 => simp [upd]
  rw [e_746] at hP hD
  exact W.vret hx hb hr (fun t ht hW => ⟨⟨(fun k => match k with | 0 => q6 | 1 => q13 | _ => q20), rfl, trivial, by rw [ht]; simp only [mk_w4, ite_self]; exact hP, by simp only [mk_w4, ite_self]; exact hD⟩, hS.F ht⟩) hS.2.2 dX4_init_71
def mk_w6 (cI cZ : ClassId) (h0 : Nat) (u : Nat → Nat) : va_W := [(h0, .inr (6, [.int 0, .ref (u 0), .ref (u 1), .ref (u 2), .ref (u 3), .ref (u 4), .ref (u 5), .ref (u 6), .int 0, .int 0, .int 0, .int 0, .int 0, .ref (u 7), .ref (u 8), .ref (u 9), .int 0, .ref (u 10), .ref (u 11), .int 0, .ref (u 12), .ref (u 13), .ref (u 14)])), ((u 0), .inl (cI, 12, .inl (fun j => if j < 12 then 0 else 0))), ((u 1), .inl (cI, 120, .inl (fun j => if j < 120 then 0 else 0))), ((u 2), .inl (cI, 120, .inl (fun j => if j < 120 then 0 else 0))), ((u 3), .inl (cI, 120, .inl (fun j => if j < 120 then 0 else 0))), ((u 4), .inl (cI, 3, .inl (fun j => if j < 3 then (-1) else 0))), ((u 5), .inl (cI, 3, .inl (fun j => if j < 3 then (-100) else 0))), ((u 6), .inl (cI, 3, .inl (fun j => if j < 3 then (-5) else 0))), ((u 7), .inl (cZ, 12, .inl (fun j => if j < 12 then 0 else 0))), ((u 8), .inl (cI, 12, .inl (fun j => if j < 12 then 0 else 0))), ((u 9), .inl (cI, 4, .inl (fun j => if j < 4 then 0 else 0))), ((u 10), .inl (cI, 10, .inl (fun j => if j < 10 then 0 else 0))), ((u 11), .inl (cI, 10, .inl (fun j => if j < 10 then 0 else 0))), ((u 12), .inl (cI, 6, .inl (fun j => if j < 6 then 0 else 0))), ((u 13), .inl (cI, 6, .inl (fun j => if j < 6 then 0 else 0))), ((u 14), .inl (cI, 77, .inl (fun j => if j < 77 then 0 else 0)))]
def mk_s6 (h0 : Nat) : va_W := [(h0, .inr (6, [.int 0, .null, .null, .null, .null, .null, .null, .null, .int 0, .int 0, .int 0, .int 0, .int 0, .null, .null, .null, .int 0, .null, .null, .int 0, .null, .null, .null]))]
set_option maxRecDepth 20000 in
theorem mk_c6 : Cond.code yX6_init cX6_init 1 none ∈ ab_gt := ab_gt_of (List.mem_of_getElem? (i := 511) rfl) rfl
set_option maxHeartbeats 4000000 in
set_option maxRecDepth 100000 in
theorem K6 (l : Launch) (D : va_G) (cI cZ cR : ClassId) (h0 sz : Nat) : Met l yX6_init (.code yX6_init cX6_init 1 none :: ab_gt) ({ frames := 1, cells := 15, slots := 518, locals := 12 }) (va_Pc [.ref h0] (fun U => U.heap.size = sz ∧ va_P D vwCl (mk_s6 h0) U.heap ∧ va_K D vwCl (ab_ty cI cZ cR) U ∧ va_D (fun _ => True) (mk_s6 h0))) (va_Qv (fun _ : Nat → Nat => True) (fun u t => va_P D vwCl (mk_w6 cI cZ h0 u) t.heap ∧ va_D (va_A (mk_s6 h0) sz) (mk_w6 cI cZ h0 u)) (va_A (mk_s6 h0) sz)) 15 518 (va_A (mk_s6 h0) sz) := by
  refine Met.ofW (cc := cX6_init) (maxL := 1) (ret := none) (by decide) rfl ?_
  intro p e s m args below meth c s₁ B hml hv
  obtain ⟨rfl, hsz, hP, hK, hD0⟩ := hv
  have hx := B.exec
  have hb := B.bytes
  have hr := B.returns
  have hts := atoms_spec (ws := .code yX6_init cX6_init 1 none :: ab_gt) B.pre
  have hown : s.vm.findClass RX6 = some m.cls := findClass_of_methodNamed B.named
  have hin : meth.name = "<init>" := (name_of_methodNamed B.named B.method).1
  subst hsz
  have hD := hD0.self (sz := s.heap.size)
  generalize hAe : va_A (mk_s6 h0) s.heap.size = A at hD ⊢
  have hA : ∀ q : Nat, s.heap.size ≤ q → A q := fun q h => by rw [← hAe]; exact Or.inr h
  have hS : va_S A s.heap s.heap [] := va_S.rf
  have hP : va_P D vwCl [(h0, .inr (6, [.int 0, .null, .null, .null, .null, .null, .null, .null, .int 0, .int 0, .int 0, .int 0, .int 0, .null, .null, .null, .int 0, .null, .null, .int 0, .null, .null, .null]))] s.heap := hP
  have hD : va_D A [(h0, .inr (6, [.int 0, .null, .null, .null, .null, .null, .null, .null, .int 0, .int 0, .int 0, .int 0, .int 0, .null, .null, .null, .int 0, .null, .null, .int 0, .null, .null, .null]))] := hD
  have hl := lv_entry ([.ref h0]) (n := 1) (Nat.le_of_ble_eq_true rfl)
  rw [lg_entry_eq]
  generalize (lg_sl ([.ref h0]) ++ List.replicate (1 - (lg_sl ([.ref h0])).length) Slot.unset).toArray = ls at hl ⊢
  have hl : lv_has ls 1 [(0, .ref h0)] := hl
  refine lv_aload_n hx hb dX6_init_0 rfl (lv_at hl 0 rfl) ?_
  refine W.objInit (own := RX6) (idx := 1) hx hb hown (hts _ (List.mem_cons_of_mem _ (ab_gt_of (List.mem_of_getElem? (i := 512) rfl) rfl))) (hts _ (List.mem_cons_of_mem _ (ab_gt_of (List.mem_of_getElem? (i := 48) rfl) rfl))) (hts _ (List.mem_cons_of_mem _ (ab_gt_of (List.mem_of_getElem? (i := 49) rfl) rfl))) rfl (by rw [hml]; exact hl.1) rfl dX6_init_1 (Nat.le_of_ble_eq_true rfl) (Nat.le_of_ble_eq_true rfl) ?_
  refine W.eq (g2 := F0 m 4 ls []) rfl ?_
  refine lv_aload_n hx hb dX6_init_4 rfl (lv_at hl 0 rfl) ?_
  refine lv_bipush (v := 12) hx hb dX6_init_5 (by decide) ?_
  refine va_newa (a0 := (12, .inl (fun _ => 0))) (N' := 12) hx hb (hts _ (List.mem_cons_of_mem _ (ab_gt_of (List.mem_of_getElem? (i := 74) rfl) rfl))) (ty := .int) rfl hK hP hD hS hA (fun _ => rfl) (by decide) (by decide) (by decide) (Nat.le_of_ble_eq_true rfl) (Nat.le_of_ble_eq_true rfl) dX6_init_7 (fun q7 c7 H hK7 hP hD hS => ?_)
  obtain rfl : cI = c7 := (mk_un 0 rfl hK7).symm
  have hP : va_P D vwCl [(h0, .inr (6, [.int 0, .null, .null, .null, .null, .null, .null, .null, .int 0, .int 0, .int 0, .int 0, .int 0, .null, .null, .null, .int 0, .null, .null, .int 0, .null, .null, .null])), (q7, .inl (cI, 12, .inl (fun _ => 0)))] H := hP
  have hD : va_D A [(h0, .inr (6, [.int 0, .null, .null, .null, .null, .null, .null, .null, .int 0, .int 0, .int 0, .int 0, .int 0, .null, .null, .null, .int 0, .null, .null, .int 0, .null, .null, .null])), (q7, .inl (cI, 12, .inl (fun _ => 0)))] := hD
  refine W.widen (k := 1) (n := 12) (by omega) (by omega) ?_
  refine va_putF (D := D) (ci := 6) (v := .ref q7) (ty := .array .int) (C := RX6) (T := TX6) (N := 23) hx hb hts (fun w hw => List.mem_cons_of_mem _ (ab_Tin6 w hw)) tyX6 tyX6_ok nmX6 hown hK hP hD hS 0 rfl rfl 1 (by decide) (hts _ (List.mem_cons_of_mem _ (ab_gt_of (List.mem_of_getElem? (i := 514) rfl) rfl))) (fun _ h9 => h9) rfl hin rfl (by decide +kernel) rfl rfl (Nat.le_of_ble_eq_true rfl) dX6_init_9 (fun H locs hP hD hS => ?_)
  have hP : va_P D vwCl [(h0, .inr (6, [.int 0, .ref q7, .null, .null, .null, .null, .null, .null, .int 0, .int 0, .int 0, .int 0, .int 0, .null, .null, .null, .int 0, .null, .null, .int 0, .null, .null, .null])), (q7, .inl (cI, 12, .inl (fun _ => 0)))] H := hP
  have hD : va_D A [(h0, .inr (6, [.int 0, .ref q7, .null, .null, .null, .null, .null, .null, .int 0, .int 0, .int 0, .int 0, .int 0, .null, .null, .null, .int 0, .null, .null, .int 0, .null, .null, .null])), (q7, .inl (cI, 12, .inl (fun _ => 0)))] := hD
  refine lv_aload_n hx hb dX6_init_12 rfl (lv_at hl 0 rfl) ?_
  refine lv_bipush (v := 120) hx hb dX6_init_13 (by decide) ?_
  refine va_newa (a0 := (120, .inl (fun _ => 0))) (N' := 120) hx hb (hts _ (List.mem_cons_of_mem _ (ab_gt_of (List.mem_of_getElem? (i := 74) rfl) rfl))) (ty := .int) rfl hK hP hD hS hA (fun _ => rfl) (by decide) (by decide) (by decide) (Nat.le_of_ble_eq_true rfl) (Nat.le_of_ble_eq_true rfl) dX6_init_15 (fun q15 c15 H hK15 hP hD hS => ?_)
  obtain rfl : cI = c15 := (mk_un 0 rfl hK15).symm
  have hP : va_P D vwCl [(h0, .inr (6, [.int 0, .ref q7, .null, .null, .null, .null, .null, .null, .int 0, .int 0, .int 0, .int 0, .int 0, .null, .null, .null, .int 0, .null, .null, .int 0, .null, .null, .null])), (q7, .inl (cI, 12, .inl (fun _ => 0))), (q15, .inl (cI, 120, .inl (fun _ => 0)))] H := hP
  have hD : va_D A [(h0, .inr (6, [.int 0, .ref q7, .null, .null, .null, .null, .null, .null, .int 0, .int 0, .int 0, .int 0, .int 0, .null, .null, .null, .int 0, .null, .null, .int 0, .null, .null, .null])), (q7, .inl (cI, 12, .inl (fun _ => 0))), (q15, .inl (cI, 120, .inl (fun _ => 0)))] := hD
  refine W.widen (k := 2) (n := 132) (by omega) (by omega) ?_
  refine va_putF (D := D) (ci := 6) (v := .ref q15) (ty := .array .int) (C := RX6) (T := TX6) (N := 23) hx hb hts (fun w hw => List.mem_cons_of_mem _ (ab_Tin6 w hw)) tyX6 tyX6_ok nmX6 hown hK hP hD hS 0 rfl rfl 2 (by decide) (hts _ (List.mem_cons_of_mem _ (ab_gt_of (List.mem_of_getElem? (i := 515) rfl) rfl))) (fun _ h9 => h9) rfl hin rfl (by decide +kernel) rfl rfl (Nat.le_of_ble_eq_true rfl) dX6_init_17 (fun H locs hP hD hS => ?_)
  have hP : va_P D vwCl [(h0, .inr (6, [.int 0, .ref q7, .ref q15, .null, .null, .null, .null, .null, .int 0, .int 0, .int 0, .int 0, .int 0, .null, .null, .null, .int 0, .null, .null, .int 0, .null, .null, .null])), (q7, .inl (cI, 12, .inl (fun _ => 0))), (q15, .inl (cI, 120, .inl (fun _ => 0)))] H := hP
  have hD : va_D A [(h0, .inr (6, [.int 0, .ref q7, .ref q15, .null, .null, .null, .null, .null, .int 0, .int 0, .int 0, .int 0, .int 0, .null, .null, .null, .int 0, .null, .null, .int 0, .null, .null, .null])), (q7, .inl (cI, 12, .inl (fun _ => 0))), (q15, .inl (cI, 120, .inl (fun _ => 0)))] := hD
  refine lv_aload_n hx hb dX6_init_20 rfl (lv_at hl 0 rfl) ?_
  refine lv_bipush (v := 120) hx hb dX6_init_21 (by decide) ?_
  refine va_newa (a0 := (120, .inl (fun _ => 0))) (N' := 120) hx hb (hts _ (List.mem_cons_of_mem _ (ab_gt_of (List.mem_of_getElem? (i := 74) rfl) rfl))) (ty := .int) rfl hK hP hD hS hA (fun _ => rfl) (by decide) (by decide) (by decide) (Nat.le_of_ble_eq_true rfl) (Nat.le_of_ble_eq_true rfl) dX6_init_23 (fun q23 c23 H hK23 hP hD hS => ?_)
  obtain rfl : cI = c23 := (mk_un 0 rfl hK23).symm
  have hP : va_P D vwCl [(h0, .inr (6, [.int 0, .ref q7, .ref q15, .null, .null, .null, .null, .null, .int 0, .int 0, .int 0, .int 0, .int 0, .null, .null, .null, .int 0, .null, .null, .int 0, .null, .null, .null])), (q7, .inl (cI, 12, .inl (fun _ => 0))), (q15, .inl (cI, 120, .inl (fun _ => 0))), (q23, .inl (cI, 120, .inl (fun _ => 0)))] H := hP
  have hD : va_D A [(h0, .inr (6, [.int 0, .ref q7, .ref q15, .null, .null, .null, .null, .null, .int 0, .int 0, .int 0, .int 0, .int 0, .null, .null, .null, .int 0, .null, .null, .int 0, .null, .null, .null])), (q7, .inl (cI, 12, .inl (fun _ => 0))), (q15, .inl (cI, 120, .inl (fun _ => 0))), (q23, .inl (cI, 120, .inl (fun _ => 0)))] := hD
  refine W.widen (k := 3) (n := 252) (by omega) (by omega) ?_
  refine va_putF (D := D) (ci := 6) (v := .ref q23) (ty := .array .int) (C := RX6) (T := TX6) (N := 23) hx hb hts (fun w hw => List.mem_cons_of_mem _ (ab_Tin6 w hw)) tyX6 tyX6_ok nmX6 hown hK hP hD hS 0 rfl rfl 3 (by decide) (hts _ (List.mem_cons_of_mem _ (ab_gt_of (List.mem_of_getElem? (i := 516) rfl) rfl))) (fun _ h9 => h9) rfl hin rfl (by decide +kernel) rfl rfl (Nat.le_of_ble_eq_true rfl) dX6_init_25 (fun H locs hP hD hS => ?_)
  have hP : va_P D vwCl [(h0, .inr (6, [.int 0, .ref q7, .ref q15, .ref q23, .null, .null, .null, .null, .int 0, .int 0, .int 0, .int 0, .int 0, .null, .null, .null, .int 0, .null, .null, .int 0, .null, .null, .null])), (q7, .inl (cI, 12, .inl (fun _ => 0))), (q15, .inl (cI, 120, .inl (fun _ => 0))), (q23, .inl (cI, 120, .inl (fun _ => 0)))] H := hP
  have hD : va_D A [(h0, .inr (6, [.int 0, .ref q7, .ref q15, .ref q23, .null, .null, .null, .null, .int 0, .int 0, .int 0, .int 0, .int 0, .null, .null, .null, .int 0, .null, .null, .int 0, .null, .null, .null])), (q7, .inl (cI, 12, .inl (fun _ => 0))), (q15, .inl (cI, 120, .inl (fun _ => 0))), (q23, .inl (cI, 120, .inl (fun _ => 0)))] := hD
  refine lv_aload_n hx hb dX6_init_28 rfl (lv_at hl 0 rfl) ?_
  refine lv_bipush (v := 120) hx hb dX6_init_29 (by decide) ?_
  refine va_newa (a0 := (120, .inl (fun _ => 0))) (N' := 120) hx hb (hts _ (List.mem_cons_of_mem _ (ab_gt_of (List.mem_of_getElem? (i := 74) rfl) rfl))) (ty := .int) rfl hK hP hD hS hA (fun _ => rfl) (by decide) (by decide) (by decide) (Nat.le_of_ble_eq_true rfl) (Nat.le_of_ble_eq_true rfl) dX6_init_31 (fun q31 c31 H hK31 hP hD hS => ?_)
  obtain rfl : cI = c31 := (mk_un 0 rfl hK31).symm
  have hP : va_P D vwCl [(h0, .inr (6, [.int 0, .ref q7, .ref q15, .ref q23, .null, .null, .null, .null, .int 0, .int 0, .int 0, .int 0, .int 0, .null, .null, .null, .int 0, .null, .null, .int 0, .null, .null, .null])), (q7, .inl (cI, 12, .inl (fun _ => 0))), (q15, .inl (cI, 120, .inl (fun _ => 0))), (q23, .inl (cI, 120, .inl (fun _ => 0))), (q31, .inl (cI, 120, .inl (fun _ => 0)))] H := hP
  have hD : va_D A [(h0, .inr (6, [.int 0, .ref q7, .ref q15, .ref q23, .null, .null, .null, .null, .int 0, .int 0, .int 0, .int 0, .int 0, .null, .null, .null, .int 0, .null, .null, .int 0, .null, .null, .null])), (q7, .inl (cI, 12, .inl (fun _ => 0))), (q15, .inl (cI, 120, .inl (fun _ => 0))), (q23, .inl (cI, 120, .inl (fun _ => 0))), (q31, .inl (cI, 120, .inl (fun _ => 0)))] := hD
  refine W.widen (k := 4) (n := 372) (by omega) (by omega) ?_
  refine va_putF (D := D) (ci := 6) (v := .ref q31) (ty := .array .int) (C := RX6) (T := TX6) (N := 23) hx hb hts (fun w hw => List.mem_cons_of_mem _ (ab_Tin6 w hw)) tyX6 tyX6_ok nmX6 hown hK hP hD hS 0 rfl rfl 4 (by decide) (hts _ (List.mem_cons_of_mem _ (ab_gt_of (List.mem_of_getElem? (i := 517) rfl) rfl))) (fun _ h9 => h9) rfl hin rfl (by decide +kernel) rfl rfl (Nat.le_of_ble_eq_true rfl) dX6_init_33 (fun H locs hP hD hS => ?_)
  have hP : va_P D vwCl [(h0, .inr (6, [.int 0, .ref q7, .ref q15, .ref q23, .ref q31, .null, .null, .null, .int 0, .int 0, .int 0, .int 0, .int 0, .null, .null, .null, .int 0, .null, .null, .int 0, .null, .null, .null])), (q7, .inl (cI, 12, .inl (fun _ => 0))), (q15, .inl (cI, 120, .inl (fun _ => 0))), (q23, .inl (cI, 120, .inl (fun _ => 0))), (q31, .inl (cI, 120, .inl (fun _ => 0)))] H := hP
  have hD : va_D A [(h0, .inr (6, [.int 0, .ref q7, .ref q15, .ref q23, .ref q31, .null, .null, .null, .int 0, .int 0, .int 0, .int 0, .int 0, .null, .null, .null, .int 0, .null, .null, .int 0, .null, .null, .null])), (q7, .inl (cI, 12, .inl (fun _ => 0))), (q15, .inl (cI, 120, .inl (fun _ => 0))), (q23, .inl (cI, 120, .inl (fun _ => 0))), (q31, .inl (cI, 120, .inl (fun _ => 0)))] := hD
  refine lv_aload_n hx hb dX6_init_36 rfl (lv_at hl 0 rfl) ?_
  refine lv_iconst (v := 3) hx hb dX6_init_37 (by decide) ?_
  refine va_newa (a0 := (3, .inl (fun _ => 0))) (N' := 3) hx hb (hts _ (List.mem_cons_of_mem _ (ab_gt_of (List.mem_of_getElem? (i := 74) rfl) rfl))) (ty := .int) rfl hK hP hD hS hA (fun _ => rfl) (by decide) (by decide) (by decide) (Nat.le_of_ble_eq_true rfl) (Nat.le_of_ble_eq_true rfl) dX6_init_38 (fun q38 c38 H hK38 hP hD hS => ?_)
  obtain rfl : cI = c38 := (mk_un 0 rfl hK38).symm
  have hP : va_P D vwCl [(h0, .inr (6, [.int 0, .ref q7, .ref q15, .ref q23, .ref q31, .null, .null, .null, .int 0, .int 0, .int 0, .int 0, .int 0, .null, .null, .null, .int 0, .null, .null, .int 0, .null, .null, .null])), (q7, .inl (cI, 12, .inl (fun _ => 0))), (q15, .inl (cI, 120, .inl (fun _ => 0))), (q23, .inl (cI, 120, .inl (fun _ => 0))), (q31, .inl (cI, 120, .inl (fun _ => 0))), (q38, .inl (cI, 3, .inl (fun _ => 0)))] H := hP
  have hD : va_D A [(h0, .inr (6, [.int 0, .ref q7, .ref q15, .ref q23, .ref q31, .null, .null, .null, .int 0, .int 0, .int 0, .int 0, .int 0, .null, .null, .null, .int 0, .null, .null, .int 0, .null, .null, .null])), (q7, .inl (cI, 12, .inl (fun _ => 0))), (q15, .inl (cI, 120, .inl (fun _ => 0))), (q23, .inl (cI, 120, .inl (fun _ => 0))), (q31, .inl (cI, 120, .inl (fun _ => 0))), (q38, .inl (cI, 3, .inl (fun _ => 0)))] := hD
  refine W.widen (k := 5) (n := 375) (by omega) (by omega) ?_
  refine lv_dup hx hb dX6_init_40 rfl ?_
  refine lv_iconst (v := 0) hx hb dX6_init_41 (by decide) ?_
  refine lv_iconst (v := (-1)) hx hb dX6_init_42 (by decide) ?_
  refine va_iast hx hb hK hP hD hS 5 0 rfl rfl (i := 0) (by unfold vp_in; decide) dX6_init_43 (fun H locs hP hD hS => ?_)
  have hP : va_P D vwCl [(h0, .inr (6, [.int 0, .ref q7, .ref q15, .ref q23, .ref q31, .null, .null, .null, .int 0, .int 0, .int 0, .int 0, .int 0, .null, .null, .null, .int 0, .null, .null, .int 0, .null, .null, .null])), (q7, .inl (cI, 12, .inl (fun _ => 0))), (q15, .inl (cI, 120, .inl (fun _ => 0))), (q23, .inl (cI, 120, .inl (fun _ => 0))), (q31, .inl (cI, 120, .inl (fun _ => 0))), (q38, .inl (cI, 3, .inl (upd (fun _ => 0) 0 (-1))))] H := hP
  have hD : va_D A [(h0, .inr (6, [.int 0, .ref q7, .ref q15, .ref q23, .ref q31, .null, .null, .null, .int 0, .int 0, .int 0, .int 0, .int 0, .null, .null, .null, .int 0, .null, .null, .int 0, .null, .null, .null])), (q7, .inl (cI, 12, .inl (fun _ => 0))), (q15, .inl (cI, 120, .inl (fun _ => 0))), (q23, .inl (cI, 120, .inl (fun _ => 0))), (q31, .inl (cI, 120, .inl (fun _ => 0))), (q38, .inl (cI, 3, .inl (upd (fun _ => 0) 0 (-1))))] := hD
  refine lv_dup hx hb dX6_init_44 rfl ?_
  refine lv_iconst (v := 1) hx hb dX6_init_45 (by decide) ?_
  refine lv_iconst (v := (-1)) hx hb dX6_init_46 (by decide) ?_
  refine va_iast hx hb hK hP hD hS 5 0 rfl rfl (i := 1) (by unfold vp_in; decide) dX6_init_47 (fun H locs hP hD hS => ?_)
  have hP : va_P D vwCl [(h0, .inr (6, [.int 0, .ref q7, .ref q15, .ref q23, .ref q31, .null, .null, .null, .int 0, .int 0, .int 0, .int 0, .int 0, .null, .null, .null, .int 0, .null, .null, .int 0, .null, .null, .null])), (q7, .inl (cI, 12, .inl (fun _ => 0))), (q15, .inl (cI, 120, .inl (fun _ => 0))), (q23, .inl (cI, 120, .inl (fun _ => 0))), (q31, .inl (cI, 120, .inl (fun _ => 0))), (q38, .inl (cI, 3, .inl (upd (upd (fun _ => 0) 0 (-1)) 1 (-1))))] H := hP
  have hD : va_D A [(h0, .inr (6, [.int 0, .ref q7, .ref q15, .ref q23, .ref q31, .null, .null, .null, .int 0, .int 0, .int 0, .int 0, .int 0, .null, .null, .null, .int 0, .null, .null, .int 0, .null, .null, .null])), (q7, .inl (cI, 12, .inl (fun _ => 0))), (q15, .inl (cI, 120, .inl (fun _ => 0))), (q23, .inl (cI, 120, .inl (fun _ => 0))), (q31, .inl (cI, 120, .inl (fun _ => 0))), (q38, .inl (cI, 3, .inl (upd (upd (fun _ => 0) 0 (-1)) 1 (-1))))] := hD
  refine lv_dup hx hb dX6_init_48 rfl ?_
  refine lv_iconst (v := 2) hx hb dX6_init_49 (by decide) ?_
  refine lv_iconst (v := (-1)) hx hb dX6_init_50 (by decide) ?_
  refine va_iast hx hb hK hP hD hS 5 0 rfl rfl (i := 2) (by unfold vp_in; decide) dX6_init_51 (fun H locs hP hD hS => ?_)
  have hP : va_P D vwCl [(h0, .inr (6, [.int 0, .ref q7, .ref q15, .ref q23, .ref q31, .null, .null, .null, .int 0, .int 0, .int 0, .int 0, .int 0, .null, .null, .null, .int 0, .null, .null, .int 0, .null, .null, .null])), (q7, .inl (cI, 12, .inl (fun _ => 0))), (q15, .inl (cI, 120, .inl (fun _ => 0))), (q23, .inl (cI, 120, .inl (fun _ => 0))), (q31, .inl (cI, 120, .inl (fun _ => 0))), (q38, .inl (cI, 3, .inl (upd (upd (upd (fun _ => 0) 0 (-1)) 1 (-1)) 2 (-1))))] H := hP
  have hD : va_D A [(h0, .inr (6, [.int 0, .ref q7, .ref q15, .ref q23, .ref q31, .null, .null, .null, .int 0, .int 0, .int 0, .int 0, .int 0, .null, .null, .null, .int 0, .null, .null, .int 0, .null, .null, .null])), (q7, .inl (cI, 12, .inl (fun _ => 0))), (q15, .inl (cI, 120, .inl (fun _ => 0))), (q23, .inl (cI, 120, .inl (fun _ => 0))), (q31, .inl (cI, 120, .inl (fun _ => 0))), (q38, .inl (cI, 3, .inl (upd (upd (upd (fun _ => 0) 0 (-1)) 1 (-1)) 2 (-1))))] := hD
  refine va_putF (D := D) (ci := 6) (v := .ref q38) (ty := .array .int) (C := RX6) (T := TX6) (N := 23) hx hb hts (fun w hw => List.mem_cons_of_mem _ (ab_Tin6 w hw)) tyX6 tyX6_ok nmX6 hown hK hP hD hS 0 rfl rfl 5 (by decide) (hts _ (List.mem_cons_of_mem _ (ab_gt_of (List.mem_of_getElem? (i := 518) rfl) rfl))) (fun _ h9 => h9) rfl hin rfl (by decide +kernel) rfl rfl (Nat.le_of_ble_eq_true rfl) dX6_init_52 (fun H locs hP hD hS => ?_)
  have hP : va_P D vwCl [(h0, .inr (6, [.int 0, .ref q7, .ref q15, .ref q23, .ref q31, .ref q38, .null, .null, .int 0, .int 0, .int 0, .int 0, .int 0, .null, .null, .null, .int 0, .null, .null, .int 0, .null, .null, .null])), (q7, .inl (cI, 12, .inl (fun _ => 0))), (q15, .inl (cI, 120, .inl (fun _ => 0))), (q23, .inl (cI, 120, .inl (fun _ => 0))), (q31, .inl (cI, 120, .inl (fun _ => 0))), (q38, .inl (cI, 3, .inl (upd (upd (upd (fun _ => 0) 0 (-1)) 1 (-1)) 2 (-1))))] H := hP
  have hD : va_D A [(h0, .inr (6, [.int 0, .ref q7, .ref q15, .ref q23, .ref q31, .ref q38, .null, .null, .int 0, .int 0, .int 0, .int 0, .int 0, .null, .null, .null, .int 0, .null, .null, .int 0, .null, .null, .null])), (q7, .inl (cI, 12, .inl (fun _ => 0))), (q15, .inl (cI, 120, .inl (fun _ => 0))), (q23, .inl (cI, 120, .inl (fun _ => 0))), (q31, .inl (cI, 120, .inl (fun _ => 0))), (q38, .inl (cI, 3, .inl (upd (upd (upd (fun _ => 0) 0 (-1)) 1 (-1)) 2 (-1))))] := hD
  refine lv_aload_n hx hb dX6_init_55 rfl (lv_at hl 0 rfl) ?_
  refine lv_iconst (v := 3) hx hb dX6_init_56 (by decide) ?_
  refine va_newa (a0 := (3, .inl (fun _ => 0))) (N' := 3) hx hb (hts _ (List.mem_cons_of_mem _ (ab_gt_of (List.mem_of_getElem? (i := 74) rfl) rfl))) (ty := .int) rfl hK hP hD hS hA (fun _ => rfl) (by decide) (by decide) (by decide) (Nat.le_of_ble_eq_true rfl) (Nat.le_of_ble_eq_true rfl) dX6_init_57 (fun q57 c57 H hK57 hP hD hS => ?_)
  obtain rfl : cI = c57 := (mk_un 0 rfl hK57).symm
  have hP : va_P D vwCl [(h0, .inr (6, [.int 0, .ref q7, .ref q15, .ref q23, .ref q31, .ref q38, .null, .null, .int 0, .int 0, .int 0, .int 0, .int 0, .null, .null, .null, .int 0, .null, .null, .int 0, .null, .null, .null])), (q7, .inl (cI, 12, .inl (fun _ => 0))), (q15, .inl (cI, 120, .inl (fun _ => 0))), (q23, .inl (cI, 120, .inl (fun _ => 0))), (q31, .inl (cI, 120, .inl (fun _ => 0))), (q38, .inl (cI, 3, .inl (upd (upd (upd (fun _ => 0) 0 (-1)) 1 (-1)) 2 (-1)))), (q57, .inl (cI, 3, .inl (fun _ => 0)))] H := hP
  have hD : va_D A [(h0, .inr (6, [.int 0, .ref q7, .ref q15, .ref q23, .ref q31, .ref q38, .null, .null, .int 0, .int 0, .int 0, .int 0, .int 0, .null, .null, .null, .int 0, .null, .null, .int 0, .null, .null, .null])), (q7, .inl (cI, 12, .inl (fun _ => 0))), (q15, .inl (cI, 120, .inl (fun _ => 0))), (q23, .inl (cI, 120, .inl (fun _ => 0))), (q31, .inl (cI, 120, .inl (fun _ => 0))), (q38, .inl (cI, 3, .inl (upd (upd (upd (fun _ => 0) 0 (-1)) 1 (-1)) 2 (-1)))), (q57, .inl (cI, 3, .inl (fun _ => 0)))] := hD
  refine W.widen (k := 6) (n := 378) (by omega) (by omega) ?_
  refine lv_dup hx hb dX6_init_59 rfl ?_
  refine lv_iconst (v := 0) hx hb dX6_init_60 (by decide) ?_
  refine lv_bipush (v := (-100)) hx hb dX6_init_61 (by decide) ?_
  refine va_iast hx hb hK hP hD hS 6 0 rfl rfl (i := 0) (by unfold vp_in; decide) dX6_init_63 (fun H locs hP hD hS => ?_)
  have hP : va_P D vwCl [(h0, .inr (6, [.int 0, .ref q7, .ref q15, .ref q23, .ref q31, .ref q38, .null, .null, .int 0, .int 0, .int 0, .int 0, .int 0, .null, .null, .null, .int 0, .null, .null, .int 0, .null, .null, .null])), (q7, .inl (cI, 12, .inl (fun _ => 0))), (q15, .inl (cI, 120, .inl (fun _ => 0))), (q23, .inl (cI, 120, .inl (fun _ => 0))), (q31, .inl (cI, 120, .inl (fun _ => 0))), (q38, .inl (cI, 3, .inl (upd (upd (upd (fun _ => 0) 0 (-1)) 1 (-1)) 2 (-1)))), (q57, .inl (cI, 3, .inl (upd (fun _ => 0) 0 (-100))))] H := hP
  have hD : va_D A [(h0, .inr (6, [.int 0, .ref q7, .ref q15, .ref q23, .ref q31, .ref q38, .null, .null, .int 0, .int 0, .int 0, .int 0, .int 0, .null, .null, .null, .int 0, .null, .null, .int 0, .null, .null, .null])), (q7, .inl (cI, 12, .inl (fun _ => 0))), (q15, .inl (cI, 120, .inl (fun _ => 0))), (q23, .inl (cI, 120, .inl (fun _ => 0))), (q31, .inl (cI, 120, .inl (fun _ => 0))), (q38, .inl (cI, 3, .inl (upd (upd (upd (fun _ => 0) 0 (-1)) 1 (-1)) 2 (-1)))), (q57, .inl (cI, 3, .inl (upd (fun _ => 0) 0 (-100))))] := hD
  refine lv_dup hx hb dX6_init_64 rfl ?_
  refine lv_iconst (v := 1) hx hb dX6_init_65 (by decide) ?_
  refine lv_bipush (v := (-100)) hx hb dX6_init_66 (by decide) ?_
  refine va_iast hx hb hK hP hD hS 6 0 rfl rfl (i := 1) (by unfold vp_in; decide) dX6_init_68 (fun H locs hP hD hS => ?_)
  have hP : va_P D vwCl [(h0, .inr (6, [.int 0, .ref q7, .ref q15, .ref q23, .ref q31, .ref q38, .null, .null, .int 0, .int 0, .int 0, .int 0, .int 0, .null, .null, .null, .int 0, .null, .null, .int 0, .null, .null, .null])), (q7, .inl (cI, 12, .inl (fun _ => 0))), (q15, .inl (cI, 120, .inl (fun _ => 0))), (q23, .inl (cI, 120, .inl (fun _ => 0))), (q31, .inl (cI, 120, .inl (fun _ => 0))), (q38, .inl (cI, 3, .inl (upd (upd (upd (fun _ => 0) 0 (-1)) 1 (-1)) 2 (-1)))), (q57, .inl (cI, 3, .inl (upd (upd (fun _ => 0) 0 (-100)) 1 (-100))))] H := hP
  have hD : va_D A [(h0, .inr (6, [.int 0, .ref q7, .ref q15, .ref q23, .ref q31, .ref q38, .null, .null, .int 0, .int 0, .int 0, .int 0, .int 0, .null, .null, .null, .int 0, .null, .null, .int 0, .null, .null, .null])), (q7, .inl (cI, 12, .inl (fun _ => 0))), (q15, .inl (cI, 120, .inl (fun _ => 0))), (q23, .inl (cI, 120, .inl (fun _ => 0))), (q31, .inl (cI, 120, .inl (fun _ => 0))), (q38, .inl (cI, 3, .inl (upd (upd (upd (fun _ => 0) 0 (-1)) 1 (-1)) 2 (-1)))), (q57, .inl (cI, 3, .inl (upd (upd (fun _ => 0) 0 (-100)) 1 (-100))))] := hD
  refine lv_dup hx hb dX6_init_69 rfl ?_
  refine lv_iconst (v := 2) hx hb dX6_init_70 (by decide) ?_
  refine lv_bipush (v := (-100)) hx hb dX6_init_71 (by decide) ?_
  refine va_iast hx hb hK hP hD hS 6 0 rfl rfl (i := 2) (by unfold vp_in; decide) dX6_init_73 (fun H locs hP hD hS => ?_)
  have hP : va_P D vwCl [(h0, .inr (6, [.int 0, .ref q7, .ref q15, .ref q23, .ref q31, .ref q38, .null, .null, .int 0, .int 0, .int 0, .int 0, .int 0, .null, .null, .null, .int 0, .null, .null, .int 0, .null, .null, .null])), (q7, .inl (cI, 12, .inl (fun _ => 0))), (q15, .inl (cI, 120, .inl (fun _ => 0))), (q23, .inl (cI, 120, .inl (fun _ => 0))), (q31, .inl (cI, 120, .inl (fun _ => 0))), (q38, .inl (cI, 3, .inl (upd (upd (upd (fun _ => 0) 0 (-1)) 1 (-1)) 2 (-1)))), (q57, .inl (cI, 3, .inl (upd (upd (upd (fun _ => 0) 0 (-100)) 1 (-100)) 2 (-100))))] H := hP
  have hD : va_D A [(h0, .inr (6, [.int 0, .ref q7, .ref q15, .ref q23, .ref q31, .ref q38, .null, .null, .int 0, .int 0, .int 0, .int 0, .int 0, .null, .null, .null, .int 0, .null, .null, .int 0, .null, .null, .null])), (q7, .inl (cI, 12, .inl (fun _ => 0))), (q15, .inl (cI, 120, .inl (fun _ => 0))), (q23, .inl (cI, 120, .inl (fun _ => 0))), (q31, .inl (cI, 120, .inl (fun _ => 0))), (q38, .inl (cI, 3, .inl (upd (upd (upd (fun _ => 0) 0 (-1)) 1 (-1)) 2 (-1)))), (q57, .inl (cI, 3, .inl (upd (upd (upd (fun _ => 0) 0 (-100)) 1 (-100)) 2 (-100))))] := hD
  refine va_putF (D := D) (ci := 6) (v := .ref q57) (ty := .array .int) (C := RX6) (T := TX6) (N := 23) hx hb hts (fun w hw => List.mem_cons_of_mem _ (ab_Tin6 w hw)) tyX6 tyX6_ok nmX6 hown hK hP hD hS 0 rfl rfl 6 (by decide) (hts _ (List.mem_cons_of_mem _ (ab_gt_of (List.mem_of_getElem? (i := 519) rfl) rfl))) (fun _ h9 => h9) rfl hin rfl (by decide +kernel) rfl rfl (Nat.le_of_ble_eq_true rfl) dX6_init_74 (fun H locs hP hD hS => ?_)
  have hP : va_P D vwCl [(h0, .inr (6, [.int 0, .ref q7, .ref q15, .ref q23, .ref q31, .ref q38, .ref q57, .null, .int 0, .int 0, .int 0, .int 0, .int 0, .null, .null, .null, .int 0, .null, .null, .int 0, .null, .null, .null])), (q7, .inl (cI, 12, .inl (fun _ => 0))), (q15, .inl (cI, 120, .inl (fun _ => 0))), (q23, .inl (cI, 120, .inl (fun _ => 0))), (q31, .inl (cI, 120, .inl (fun _ => 0))), (q38, .inl (cI, 3, .inl (upd (upd (upd (fun _ => 0) 0 (-1)) 1 (-1)) 2 (-1)))), (q57, .inl (cI, 3, .inl (upd (upd (upd (fun _ => 0) 0 (-100)) 1 (-100)) 2 (-100))))] H := hP
  have hD : va_D A [(h0, .inr (6, [.int 0, .ref q7, .ref q15, .ref q23, .ref q31, .ref q38, .ref q57, .null, .int 0, .int 0, .int 0, .int 0, .int 0, .null, .null, .null, .int 0, .null, .null, .int 0, .null, .null, .null])), (q7, .inl (cI, 12, .inl (fun _ => 0))), (q15, .inl (cI, 120, .inl (fun _ => 0))), (q23, .inl (cI, 120, .inl (fun _ => 0))), (q31, .inl (cI, 120, .inl (fun _ => 0))), (q38, .inl (cI, 3, .inl (upd (upd (upd (fun _ => 0) 0 (-1)) 1 (-1)) 2 (-1)))), (q57, .inl (cI, 3, .inl (upd (upd (upd (fun _ => 0) 0 (-100)) 1 (-100)) 2 (-100))))] := hD
  refine lv_aload_n hx hb dX6_init_77 rfl (lv_at hl 0 rfl) ?_
  refine lv_iconst (v := 3) hx hb dX6_init_78 (by decide) ?_
  refine va_newa (a0 := (3, .inl (fun _ => 0))) (N' := 3) hx hb (hts _ (List.mem_cons_of_mem _ (ab_gt_of (List.mem_of_getElem? (i := 74) rfl) rfl))) (ty := .int) rfl hK hP hD hS hA (fun _ => rfl) (by decide) (by decide) (by decide) (Nat.le_of_ble_eq_true rfl) (Nat.le_of_ble_eq_true rfl) dX6_init_79 (fun q79 c79 H hK79 hP hD hS => ?_)
  obtain rfl : cI = c79 := (mk_un 0 rfl hK79).symm
  have hP : va_P D vwCl [(h0, .inr (6, [.int 0, .ref q7, .ref q15, .ref q23, .ref q31, .ref q38, .ref q57, .null, .int 0, .int 0, .int 0, .int 0, .int 0, .null, .null, .null, .int 0, .null, .null, .int 0, .null, .null, .null])), (q7, .inl (cI, 12, .inl (fun _ => 0))), (q15, .inl (cI, 120, .inl (fun _ => 0))), (q23, .inl (cI, 120, .inl (fun _ => 0))), (q31, .inl (cI, 120, .inl (fun _ => 0))), (q38, .inl (cI, 3, .inl (upd (upd (upd (fun _ => 0) 0 (-1)) 1 (-1)) 2 (-1)))), (q57, .inl (cI, 3, .inl (upd (upd (upd (fun _ => 0) 0 (-100)) 1 (-100)) 2 (-100)))), (q79, .inl (cI, 3, .inl (fun _ => 0)))] H := hP
  have hD : va_D A [(h0, .inr (6, [.int 0, .ref q7, .ref q15, .ref q23, .ref q31, .ref q38, .ref q57, .null, .int 0, .int 0, .int 0, .int 0, .int 0, .null, .null, .null, .int 0, .null, .null, .int 0, .null, .null, .null])), (q7, .inl (cI, 12, .inl (fun _ => 0))), (q15, .inl (cI, 120, .inl (fun _ => 0))), (q23, .inl (cI, 120, .inl (fun _ => 0))), (q31, .inl (cI, 120, .inl (fun _ => 0))), (q38, .inl (cI, 3, .inl (upd (upd (upd (fun _ => 0) 0 (-1)) 1 (-1)) 2 (-1)))), (q57, .inl (cI, 3, .inl (upd (upd (upd (fun _ => 0) 0 (-100)) 1 (-100)) 2 (-100)))), (q79, .inl (cI, 3, .inl (fun _ => 0)))] := hD
  refine W.widen (k := 7) (n := 381) (by omega) (by omega) ?_
  refine lv_dup hx hb dX6_init_81 rfl ?_
  refine lv_iconst (v := 0) hx hb dX6_init_82 (by decide) ?_
  refine lv_bipush (v := (-5)) hx hb dX6_init_83 (by decide) ?_
  refine va_iast hx hb hK hP hD hS 7 0 rfl rfl (i := 0) (by unfold vp_in; decide) dX6_init_85 (fun H locs hP hD hS => ?_)
  have hP : va_P D vwCl [(h0, .inr (6, [.int 0, .ref q7, .ref q15, .ref q23, .ref q31, .ref q38, .ref q57, .null, .int 0, .int 0, .int 0, .int 0, .int 0, .null, .null, .null, .int 0, .null, .null, .int 0, .null, .null, .null])), (q7, .inl (cI, 12, .inl (fun _ => 0))), (q15, .inl (cI, 120, .inl (fun _ => 0))), (q23, .inl (cI, 120, .inl (fun _ => 0))), (q31, .inl (cI, 120, .inl (fun _ => 0))), (q38, .inl (cI, 3, .inl (upd (upd (upd (fun _ => 0) 0 (-1)) 1 (-1)) 2 (-1)))), (q57, .inl (cI, 3, .inl (upd (upd (upd (fun _ => 0) 0 (-100)) 1 (-100)) 2 (-100)))), (q79, .inl (cI, 3, .inl (upd (fun _ => 0) 0 (-5))))] H := hP
  have hD : va_D A [(h0, .inr (6, [.int 0, .ref q7, .ref q15, .ref q23, .ref q31, .ref q38, .ref q57, .null, .int 0, .int 0, .int 0, .int 0, .int 0, .null, .null, .null, .int 0, .null, .null, .int 0, .null, .null, .null])), (q7, .inl (cI, 12, .inl (fun _ => 0))), (q15, .inl (cI, 120, .inl (fun _ => 0))), (q23, .inl (cI, 120, .inl (fun _ => 0))), (q31, .inl (cI, 120, .inl (fun _ => 0))), (q38, .inl (cI, 3, .inl (upd (upd (upd (fun _ => 0) 0 (-1)) 1 (-1)) 2 (-1)))), (q57, .inl (cI, 3, .inl (upd (upd (upd (fun _ => 0) 0 (-100)) 1 (-100)) 2 (-100)))), (q79, .inl (cI, 3, .inl (upd (fun _ => 0) 0 (-5))))] := hD
  refine lv_dup hx hb dX6_init_86 rfl ?_
  refine lv_iconst (v := 1) hx hb dX6_init_87 (by decide) ?_
  refine lv_bipush (v := (-5)) hx hb dX6_init_88 (by decide) ?_
  refine va_iast hx hb hK hP hD hS 7 0 rfl rfl (i := 1) (by unfold vp_in; decide) dX6_init_90 (fun H locs hP hD hS => ?_)
  have hP : va_P D vwCl [(h0, .inr (6, [.int 0, .ref q7, .ref q15, .ref q23, .ref q31, .ref q38, .ref q57, .null, .int 0, .int 0, .int 0, .int 0, .int 0, .null, .null, .null, .int 0, .null, .null, .int 0, .null, .null, .null])), (q7, .inl (cI, 12, .inl (fun _ => 0))), (q15, .inl (cI, 120, .inl (fun _ => 0))), (q23, .inl (cI, 120, .inl (fun _ => 0))), (q31, .inl (cI, 120, .inl (fun _ => 0))), (q38, .inl (cI, 3, .inl (upd (upd (upd (fun _ => 0) 0 (-1)) 1 (-1)) 2 (-1)))), (q57, .inl (cI, 3, .inl (upd (upd (upd (fun _ => 0) 0 (-100)) 1 (-100)) 2 (-100)))), (q79, .inl (cI, 3, .inl (upd (upd (fun _ => 0) 0 (-5)) 1 (-5))))] H := hP
  have hD : va_D A [(h0, .inr (6, [.int 0, .ref q7, .ref q15, .ref q23, .ref q31, .ref q38, .ref q57, .null, .int 0, .int 0, .int 0, .int 0, .int 0, .null, .null, .null, .int 0, .null, .null, .int 0, .null, .null, .null])), (q7, .inl (cI, 12, .inl (fun _ => 0))), (q15, .inl (cI, 120, .inl (fun _ => 0))), (q23, .inl (cI, 120, .inl (fun _ => 0))), (q31, .inl (cI, 120, .inl (fun _ => 0))), (q38, .inl (cI, 3, .inl (upd (upd (upd (fun _ => 0) 0 (-1)) 1 (-1)) 2 (-1)))), (q57, .inl (cI, 3, .inl (upd (upd (upd (fun _ => 0) 0 (-100)) 1 (-100)) 2 (-100)))), (q79, .inl (cI, 3, .inl (upd (upd (fun _ => 0) 0 (-5)) 1 (-5))))] := hD
  refine lv_dup hx hb dX6_init_91 rfl ?_
  refine lv_iconst (v := 2) hx hb dX6_init_92 (by decide) ?_
  refine lv_bipush (v := (-5)) hx hb dX6_init_93 (by decide) ?_
  refine va_iast hx hb hK hP hD hS 7 0 rfl rfl (i := 2) (by unfold vp_in; decide) dX6_init_95 (fun H locs hP hD hS => ?_)
  have hP : va_P D vwCl [(h0, .inr (6, [.int 0, .ref q7, .ref q15, .ref q23, .ref q31, .ref q38, .ref q57, .null, .int 0, .int 0, .int 0, .int 0, .int 0, .null, .null, .null, .int 0, .null, .null, .int 0, .null, .null, .null])), (q7, .inl (cI, 12, .inl (fun _ => 0))), (q15, .inl (cI, 120, .inl (fun _ => 0))), (q23, .inl (cI, 120, .inl (fun _ => 0))), (q31, .inl (cI, 120, .inl (fun _ => 0))), (q38, .inl (cI, 3, .inl (upd (upd (upd (fun _ => 0) 0 (-1)) 1 (-1)) 2 (-1)))), (q57, .inl (cI, 3, .inl (upd (upd (upd (fun _ => 0) 0 (-100)) 1 (-100)) 2 (-100)))), (q79, .inl (cI, 3, .inl (upd (upd (upd (fun _ => 0) 0 (-5)) 1 (-5)) 2 (-5))))] H := hP
  have hD : va_D A [(h0, .inr (6, [.int 0, .ref q7, .ref q15, .ref q23, .ref q31, .ref q38, .ref q57, .null, .int 0, .int 0, .int 0, .int 0, .int 0, .null, .null, .null, .int 0, .null, .null, .int 0, .null, .null, .null])), (q7, .inl (cI, 12, .inl (fun _ => 0))), (q15, .inl (cI, 120, .inl (fun _ => 0))), (q23, .inl (cI, 120, .inl (fun _ => 0))), (q31, .inl (cI, 120, .inl (fun _ => 0))), (q38, .inl (cI, 3, .inl (upd (upd (upd (fun _ => 0) 0 (-1)) 1 (-1)) 2 (-1)))), (q57, .inl (cI, 3, .inl (upd (upd (upd (fun _ => 0) 0 (-100)) 1 (-100)) 2 (-100)))), (q79, .inl (cI, 3, .inl (upd (upd (upd (fun _ => 0) 0 (-5)) 1 (-5)) 2 (-5))))] := hD
  refine va_putF (D := D) (ci := 6) (v := .ref q79) (ty := .array .int) (C := RX6) (T := TX6) (N := 23) hx hb hts (fun w hw => List.mem_cons_of_mem _ (ab_Tin6 w hw)) tyX6 tyX6_ok nmX6 hown hK hP hD hS 0 rfl rfl 7 (by decide) (hts _ (List.mem_cons_of_mem _ (ab_gt_of (List.mem_of_getElem? (i := 520) rfl) rfl))) (fun _ h9 => h9) rfl hin rfl (by decide +kernel) rfl rfl (Nat.le_of_ble_eq_true rfl) dX6_init_96 (fun H locs hP hD hS => ?_)
  have hP : va_P D vwCl [(h0, .inr (6, [.int 0, .ref q7, .ref q15, .ref q23, .ref q31, .ref q38, .ref q57, .ref q79, .int 0, .int 0, .int 0, .int 0, .int 0, .null, .null, .null, .int 0, .null, .null, .int 0, .null, .null, .null])), (q7, .inl (cI, 12, .inl (fun _ => 0))), (q15, .inl (cI, 120, .inl (fun _ => 0))), (q23, .inl (cI, 120, .inl (fun _ => 0))), (q31, .inl (cI, 120, .inl (fun _ => 0))), (q38, .inl (cI, 3, .inl (upd (upd (upd (fun _ => 0) 0 (-1)) 1 (-1)) 2 (-1)))), (q57, .inl (cI, 3, .inl (upd (upd (upd (fun _ => 0) 0 (-100)) 1 (-100)) 2 (-100)))), (q79, .inl (cI, 3, .inl (upd (upd (upd (fun _ => 0) 0 (-5)) 1 (-5)) 2 (-5))))] H := hP
  have hD : va_D A [(h0, .inr (6, [.int 0, .ref q7, .ref q15, .ref q23, .ref q31, .ref q38, .ref q57, .ref q79, .int 0, .int 0, .int 0, .int 0, .int 0, .null, .null, .null, .int 0, .null, .null, .int 0, .null, .null, .null])), (q7, .inl (cI, 12, .inl (fun _ => 0))), (q15, .inl (cI, 120, .inl (fun _ => 0))), (q23, .inl (cI, 120, .inl (fun _ => 0))), (q31, .inl (cI, 120, .inl (fun _ => 0))), (q38, .inl (cI, 3, .inl (upd (upd (upd (fun _ => 0) 0 (-1)) 1 (-1)) 2 (-1)))), (q57, .inl (cI, 3, .inl (upd (upd (upd (fun _ => 0) 0 (-100)) 1 (-100)) 2 (-100)))), (q79, .inl (cI, 3, .inl (upd (upd (upd (fun _ => 0) 0 (-5)) 1 (-5)) 2 (-5))))] := hD
  refine lv_aload_n hx hb dX6_init_99 rfl (lv_at hl 0 rfl) ?_
  refine lv_bipush (v := 12) hx hb dX6_init_100 (by decide) ?_
  refine va_newa (a0 := (12, .inl (fun _ => 0))) (N' := 12) hx hb (hts _ (List.mem_cons_of_mem _ (ab_gt_of (List.mem_of_getElem? (i := 126) rfl) rfl))) (ty := .boolean) rfl hK hP hD hS hA (fun _ => rfl) (by decide) (by decide) (by decide) (Nat.le_of_ble_eq_true rfl) (Nat.le_of_ble_eq_true rfl) dX6_init_102 (fun q102 c102 H hK102 hP hD hS => ?_)
  obtain rfl : cZ = c102 := (mk_un 1 rfl hK102).symm
  have hP : va_P D vwCl [(h0, .inr (6, [.int 0, .ref q7, .ref q15, .ref q23, .ref q31, .ref q38, .ref q57, .ref q79, .int 0, .int 0, .int 0, .int 0, .int 0, .null, .null, .null, .int 0, .null, .null, .int 0, .null, .null, .null])), (q7, .inl (cI, 12, .inl (fun _ => 0))), (q15, .inl (cI, 120, .inl (fun _ => 0))), (q23, .inl (cI, 120, .inl (fun _ => 0))), (q31, .inl (cI, 120, .inl (fun _ => 0))), (q38, .inl (cI, 3, .inl (upd (upd (upd (fun _ => 0) 0 (-1)) 1 (-1)) 2 (-1)))), (q57, .inl (cI, 3, .inl (upd (upd (upd (fun _ => 0) 0 (-100)) 1 (-100)) 2 (-100)))), (q79, .inl (cI, 3, .inl (upd (upd (upd (fun _ => 0) 0 (-5)) 1 (-5)) 2 (-5)))), (q102, .inl (cZ, 12, .inl (fun _ => 0)))] H := hP
  have hD : va_D A [(h0, .inr (6, [.int 0, .ref q7, .ref q15, .ref q23, .ref q31, .ref q38, .ref q57, .ref q79, .int 0, .int 0, .int 0, .int 0, .int 0, .null, .null, .null, .int 0, .null, .null, .int 0, .null, .null, .null])), (q7, .inl (cI, 12, .inl (fun _ => 0))), (q15, .inl (cI, 120, .inl (fun _ => 0))), (q23, .inl (cI, 120, .inl (fun _ => 0))), (q31, .inl (cI, 120, .inl (fun _ => 0))), (q38, .inl (cI, 3, .inl (upd (upd (upd (fun _ => 0) 0 (-1)) 1 (-1)) 2 (-1)))), (q57, .inl (cI, 3, .inl (upd (upd (upd (fun _ => 0) 0 (-100)) 1 (-100)) 2 (-100)))), (q79, .inl (cI, 3, .inl (upd (upd (upd (fun _ => 0) 0 (-5)) 1 (-5)) 2 (-5)))), (q102, .inl (cZ, 12, .inl (fun _ => 0)))] := hD
  refine W.widen (k := 8) (n := 393) (by omega) (by omega) ?_
  refine va_putF (D := D) (ci := 6) (v := .ref q102) (ty := .array .boolean) (C := RX6) (T := TX6) (N := 23) hx hb hts (fun w hw => List.mem_cons_of_mem _ (ab_Tin6 w hw)) tyX6 tyX6_ok nmX6 hown hK hP hD hS 0 rfl rfl 13 (by decide) (hts _ (List.mem_cons_of_mem _ (ab_gt_of (List.mem_of_getElem? (i := 526) rfl) rfl))) (fun _ h9 => h9) rfl hin rfl (by decide +kernel) rfl rfl (Nat.le_of_ble_eq_true rfl) dX6_init_104 (fun H locs hP hD hS => ?_)
  have hP : va_P D vwCl [(h0, .inr (6, [.int 0, .ref q7, .ref q15, .ref q23, .ref q31, .ref q38, .ref q57, .ref q79, .int 0, .int 0, .int 0, .int 0, .int 0, .ref q102, .null, .null, .int 0, .null, .null, .int 0, .null, .null, .null])), (q7, .inl (cI, 12, .inl (fun _ => 0))), (q15, .inl (cI, 120, .inl (fun _ => 0))), (q23, .inl (cI, 120, .inl (fun _ => 0))), (q31, .inl (cI, 120, .inl (fun _ => 0))), (q38, .inl (cI, 3, .inl (upd (upd (upd (fun _ => 0) 0 (-1)) 1 (-1)) 2 (-1)))), (q57, .inl (cI, 3, .inl (upd (upd (upd (fun _ => 0) 0 (-100)) 1 (-100)) 2 (-100)))), (q79, .inl (cI, 3, .inl (upd (upd (upd (fun _ => 0) 0 (-5)) 1 (-5)) 2 (-5)))), (q102, .inl (cZ, 12, .inl (fun _ => 0)))] H := hP
  have hD : va_D A [(h0, .inr (6, [.int 0, .ref q7, .ref q15, .ref q23, .ref q31, .ref q38, .ref q57, .ref q79, .int 0, .int 0, .int 0, .int 0, .int 0, .ref q102, .null, .null, .int 0, .null, .null, .int 0, .null, .null, .null])), (q7, .inl (cI, 12, .inl (fun _ => 0))), (q15, .inl (cI, 120, .inl (fun _ => 0))), (q23, .inl (cI, 120, .inl (fun _ => 0))), (q31, .inl (cI, 120, .inl (fun _ => 0))), (q38, .inl (cI, 3, .inl (upd (upd (upd (fun _ => 0) 0 (-1)) 1 (-1)) 2 (-1)))), (q57, .inl (cI, 3, .inl (upd (upd (upd (fun _ => 0) 0 (-100)) 1 (-100)) 2 (-100)))), (q79, .inl (cI, 3, .inl (upd (upd (upd (fun _ => 0) 0 (-5)) 1 (-5)) 2 (-5)))), (q102, .inl (cZ, 12, .inl (fun _ => 0)))] := hD
  refine lv_aload_n hx hb dX6_init_107 rfl (lv_at hl 0 rfl) ?_
  refine lv_bipush (v := 12) hx hb dX6_init_108 (by decide) ?_
  refine va_newa (a0 := (12, .inl (fun _ => 0))) (N' := 12) hx hb (hts _ (List.mem_cons_of_mem _ (ab_gt_of (List.mem_of_getElem? (i := 74) rfl) rfl))) (ty := .int) rfl hK hP hD hS hA (fun _ => rfl) (by decide) (by decide) (by decide) (Nat.le_of_ble_eq_true rfl) (Nat.le_of_ble_eq_true rfl) dX6_init_110 (fun q110 c110 H hK110 hP hD hS => ?_)
  obtain rfl : cI = c110 := (mk_un 0 rfl hK110).symm
  have hP : va_P D vwCl [(h0, .inr (6, [.int 0, .ref q7, .ref q15, .ref q23, .ref q31, .ref q38, .ref q57, .ref q79, .int 0, .int 0, .int 0, .int 0, .int 0, .ref q102, .null, .null, .int 0, .null, .null, .int 0, .null, .null, .null])), (q7, .inl (cI, 12, .inl (fun _ => 0))), (q15, .inl (cI, 120, .inl (fun _ => 0))), (q23, .inl (cI, 120, .inl (fun _ => 0))), (q31, .inl (cI, 120, .inl (fun _ => 0))), (q38, .inl (cI, 3, .inl (upd (upd (upd (fun _ => 0) 0 (-1)) 1 (-1)) 2 (-1)))), (q57, .inl (cI, 3, .inl (upd (upd (upd (fun _ => 0) 0 (-100)) 1 (-100)) 2 (-100)))), (q79, .inl (cI, 3, .inl (upd (upd (upd (fun _ => 0) 0 (-5)) 1 (-5)) 2 (-5)))), (q102, .inl (cZ, 12, .inl (fun _ => 0))), (q110, .inl (cI, 12, .inl (fun _ => 0)))] H := hP
  have hD : va_D A [(h0, .inr (6, [.int 0, .ref q7, .ref q15, .ref q23, .ref q31, .ref q38, .ref q57, .ref q79, .int 0, .int 0, .int 0, .int 0, .int 0, .ref q102, .null, .null, .int 0, .null, .null, .int 0, .null, .null, .null])), (q7, .inl (cI, 12, .inl (fun _ => 0))), (q15, .inl (cI, 120, .inl (fun _ => 0))), (q23, .inl (cI, 120, .inl (fun _ => 0))), (q31, .inl (cI, 120, .inl (fun _ => 0))), (q38, .inl (cI, 3, .inl (upd (upd (upd (fun _ => 0) 0 (-1)) 1 (-1)) 2 (-1)))), (q57, .inl (cI, 3, .inl (upd (upd (upd (fun _ => 0) 0 (-100)) 1 (-100)) 2 (-100)))), (q79, .inl (cI, 3, .inl (upd (upd (upd (fun _ => 0) 0 (-5)) 1 (-5)) 2 (-5)))), (q102, .inl (cZ, 12, .inl (fun _ => 0))), (q110, .inl (cI, 12, .inl (fun _ => 0)))] := hD
  refine W.widen (k := 9) (n := 405) (by omega) (by omega) ?_
  refine va_putF (D := D) (ci := 6) (v := .ref q110) (ty := .array .int) (C := RX6) (T := TX6) (N := 23) hx hb hts (fun w hw => List.mem_cons_of_mem _ (ab_Tin6 w hw)) tyX6 tyX6_ok nmX6 hown hK hP hD hS 0 rfl rfl 14 (by decide) (hts _ (List.mem_cons_of_mem _ (ab_gt_of (List.mem_of_getElem? (i := 527) rfl) rfl))) (fun _ h9 => h9) rfl hin rfl (by decide +kernel) rfl rfl (Nat.le_of_ble_eq_true rfl) dX6_init_112 (fun H locs hP hD hS => ?_)
  have hP : va_P D vwCl [(h0, .inr (6, [.int 0, .ref q7, .ref q15, .ref q23, .ref q31, .ref q38, .ref q57, .ref q79, .int 0, .int 0, .int 0, .int 0, .int 0, .ref q102, .ref q110, .null, .int 0, .null, .null, .int 0, .null, .null, .null])), (q7, .inl (cI, 12, .inl (fun _ => 0))), (q15, .inl (cI, 120, .inl (fun _ => 0))), (q23, .inl (cI, 120, .inl (fun _ => 0))), (q31, .inl (cI, 120, .inl (fun _ => 0))), (q38, .inl (cI, 3, .inl (upd (upd (upd (fun _ => 0) 0 (-1)) 1 (-1)) 2 (-1)))), (q57, .inl (cI, 3, .inl (upd (upd (upd (fun _ => 0) 0 (-100)) 1 (-100)) 2 (-100)))), (q79, .inl (cI, 3, .inl (upd (upd (upd (fun _ => 0) 0 (-5)) 1 (-5)) 2 (-5)))), (q102, .inl (cZ, 12, .inl (fun _ => 0))), (q110, .inl (cI, 12, .inl (fun _ => 0)))] H := hP
  have hD : va_D A [(h0, .inr (6, [.int 0, .ref q7, .ref q15, .ref q23, .ref q31, .ref q38, .ref q57, .ref q79, .int 0, .int 0, .int 0, .int 0, .int 0, .ref q102, .ref q110, .null, .int 0, .null, .null, .int 0, .null, .null, .null])), (q7, .inl (cI, 12, .inl (fun _ => 0))), (q15, .inl (cI, 120, .inl (fun _ => 0))), (q23, .inl (cI, 120, .inl (fun _ => 0))), (q31, .inl (cI, 120, .inl (fun _ => 0))), (q38, .inl (cI, 3, .inl (upd (upd (upd (fun _ => 0) 0 (-1)) 1 (-1)) 2 (-1)))), (q57, .inl (cI, 3, .inl (upd (upd (upd (fun _ => 0) 0 (-100)) 1 (-100)) 2 (-100)))), (q79, .inl (cI, 3, .inl (upd (upd (upd (fun _ => 0) 0 (-5)) 1 (-5)) 2 (-5)))), (q102, .inl (cZ, 12, .inl (fun _ => 0))), (q110, .inl (cI, 12, .inl (fun _ => 0)))] := hD
  refine lv_aload_n hx hb dX6_init_115 rfl (lv_at hl 0 rfl) ?_
  refine lv_iconst (v := 4) hx hb dX6_init_116 (by decide) ?_
  refine va_newa (a0 := (4, .inl (fun _ => 0))) (N' := 4) hx hb (hts _ (List.mem_cons_of_mem _ (ab_gt_of (List.mem_of_getElem? (i := 74) rfl) rfl))) (ty := .int) rfl hK hP hD hS hA (fun _ => rfl) (by decide) (by decide) (by decide) (Nat.le_of_ble_eq_true rfl) (Nat.le_of_ble_eq_true rfl) dX6_init_117 (fun q117 c117 H hK117 hP hD hS => ?_)
  obtain rfl : cI = c117 := (mk_un 0 rfl hK117).symm
  have hP : va_P D vwCl [(h0, .inr (6, [.int 0, .ref q7, .ref q15, .ref q23, .ref q31, .ref q38, .ref q57, .ref q79, .int 0, .int 0, .int 0, .int 0, .int 0, .ref q102, .ref q110, .null, .int 0, .null, .null, .int 0, .null, .null, .null])), (q7, .inl (cI, 12, .inl (fun _ => 0))), (q15, .inl (cI, 120, .inl (fun _ => 0))), (q23, .inl (cI, 120, .inl (fun _ => 0))), (q31, .inl (cI, 120, .inl (fun _ => 0))), (q38, .inl (cI, 3, .inl (upd (upd (upd (fun _ => 0) 0 (-1)) 1 (-1)) 2 (-1)))), (q57, .inl (cI, 3, .inl (upd (upd (upd (fun _ => 0) 0 (-100)) 1 (-100)) 2 (-100)))), (q79, .inl (cI, 3, .inl (upd (upd (upd (fun _ => 0) 0 (-5)) 1 (-5)) 2 (-5)))), (q102, .inl (cZ, 12, .inl (fun _ => 0))), (q110, .inl (cI, 12, .inl (fun _ => 0))), (q117, .inl (cI, 4, .inl (fun _ => 0)))] H := hP
  have hD : va_D A [(h0, .inr (6, [.int 0, .ref q7, .ref q15, .ref q23, .ref q31, .ref q38, .ref q57, .ref q79, .int 0, .int 0, .int 0, .int 0, .int 0, .ref q102, .ref q110, .null, .int 0, .null, .null, .int 0, .null, .null, .null])), (q7, .inl (cI, 12, .inl (fun _ => 0))), (q15, .inl (cI, 120, .inl (fun _ => 0))), (q23, .inl (cI, 120, .inl (fun _ => 0))), (q31, .inl (cI, 120, .inl (fun _ => 0))), (q38, .inl (cI, 3, .inl (upd (upd (upd (fun _ => 0) 0 (-1)) 1 (-1)) 2 (-1)))), (q57, .inl (cI, 3, .inl (upd (upd (upd (fun _ => 0) 0 (-100)) 1 (-100)) 2 (-100)))), (q79, .inl (cI, 3, .inl (upd (upd (upd (fun _ => 0) 0 (-5)) 1 (-5)) 2 (-5)))), (q102, .inl (cZ, 12, .inl (fun _ => 0))), (q110, .inl (cI, 12, .inl (fun _ => 0))), (q117, .inl (cI, 4, .inl (fun _ => 0)))] := hD
  refine W.widen (k := 10) (n := 409) (by omega) (by omega) ?_
  refine va_putF (D := D) (ci := 6) (v := .ref q117) (ty := .array .int) (C := RX6) (T := TX6) (N := 23) hx hb hts (fun w hw => List.mem_cons_of_mem _ (ab_Tin6 w hw)) tyX6 tyX6_ok nmX6 hown hK hP hD hS 0 rfl rfl 15 (by decide) (hts _ (List.mem_cons_of_mem _ (ab_gt_of (List.mem_of_getElem? (i := 528) rfl) rfl))) (fun _ h9 => h9) rfl hin rfl (by decide +kernel) rfl rfl (Nat.le_of_ble_eq_true rfl) dX6_init_119 (fun H locs hP hD hS => ?_)
  have hP : va_P D vwCl [(h0, .inr (6, [.int 0, .ref q7, .ref q15, .ref q23, .ref q31, .ref q38, .ref q57, .ref q79, .int 0, .int 0, .int 0, .int 0, .int 0, .ref q102, .ref q110, .ref q117, .int 0, .null, .null, .int 0, .null, .null, .null])), (q7, .inl (cI, 12, .inl (fun _ => 0))), (q15, .inl (cI, 120, .inl (fun _ => 0))), (q23, .inl (cI, 120, .inl (fun _ => 0))), (q31, .inl (cI, 120, .inl (fun _ => 0))), (q38, .inl (cI, 3, .inl (upd (upd (upd (fun _ => 0) 0 (-1)) 1 (-1)) 2 (-1)))), (q57, .inl (cI, 3, .inl (upd (upd (upd (fun _ => 0) 0 (-100)) 1 (-100)) 2 (-100)))), (q79, .inl (cI, 3, .inl (upd (upd (upd (fun _ => 0) 0 (-5)) 1 (-5)) 2 (-5)))), (q102, .inl (cZ, 12, .inl (fun _ => 0))), (q110, .inl (cI, 12, .inl (fun _ => 0))), (q117, .inl (cI, 4, .inl (fun _ => 0)))] H := hP
  have hD : va_D A [(h0, .inr (6, [.int 0, .ref q7, .ref q15, .ref q23, .ref q31, .ref q38, .ref q57, .ref q79, .int 0, .int 0, .int 0, .int 0, .int 0, .ref q102, .ref q110, .ref q117, .int 0, .null, .null, .int 0, .null, .null, .null])), (q7, .inl (cI, 12, .inl (fun _ => 0))), (q15, .inl (cI, 120, .inl (fun _ => 0))), (q23, .inl (cI, 120, .inl (fun _ => 0))), (q31, .inl (cI, 120, .inl (fun _ => 0))), (q38, .inl (cI, 3, .inl (upd (upd (upd (fun _ => 0) 0 (-1)) 1 (-1)) 2 (-1)))), (q57, .inl (cI, 3, .inl (upd (upd (upd (fun _ => 0) 0 (-100)) 1 (-100)) 2 (-100)))), (q79, .inl (cI, 3, .inl (upd (upd (upd (fun _ => 0) 0 (-5)) 1 (-5)) 2 (-5)))), (q102, .inl (cZ, 12, .inl (fun _ => 0))), (q110, .inl (cI, 12, .inl (fun _ => 0))), (q117, .inl (cI, 4, .inl (fun _ => 0)))] := hD
  refine lv_aload_n hx hb dX6_init_122 rfl (lv_at hl 0 rfl) ?_
  refine lv_bipush (v := 10) hx hb dX6_init_123 (by decide) ?_
  refine va_newa (a0 := (10, .inl (fun _ => 0))) (N' := 10) hx hb (hts _ (List.mem_cons_of_mem _ (ab_gt_of (List.mem_of_getElem? (i := 74) rfl) rfl))) (ty := .int) rfl hK hP hD hS hA (fun _ => rfl) (by decide) (by decide) (by decide) (Nat.le_of_ble_eq_true rfl) (Nat.le_of_ble_eq_true rfl) dX6_init_125 (fun q125 c125 H hK125 hP hD hS => ?_)
  obtain rfl : cI = c125 := (mk_un 0 rfl hK125).symm
  have hP : va_P D vwCl [(h0, .inr (6, [.int 0, .ref q7, .ref q15, .ref q23, .ref q31, .ref q38, .ref q57, .ref q79, .int 0, .int 0, .int 0, .int 0, .int 0, .ref q102, .ref q110, .ref q117, .int 0, .null, .null, .int 0, .null, .null, .null])), (q7, .inl (cI, 12, .inl (fun _ => 0))), (q15, .inl (cI, 120, .inl (fun _ => 0))), (q23, .inl (cI, 120, .inl (fun _ => 0))), (q31, .inl (cI, 120, .inl (fun _ => 0))), (q38, .inl (cI, 3, .inl (upd (upd (upd (fun _ => 0) 0 (-1)) 1 (-1)) 2 (-1)))), (q57, .inl (cI, 3, .inl (upd (upd (upd (fun _ => 0) 0 (-100)) 1 (-100)) 2 (-100)))), (q79, .inl (cI, 3, .inl (upd (upd (upd (fun _ => 0) 0 (-5)) 1 (-5)) 2 (-5)))), (q102, .inl (cZ, 12, .inl (fun _ => 0))), (q110, .inl (cI, 12, .inl (fun _ => 0))), (q117, .inl (cI, 4, .inl (fun _ => 0))), (q125, .inl (cI, 10, .inl (fun _ => 0)))] H := hP
  have hD : va_D A [(h0, .inr (6, [.int 0, .ref q7, .ref q15, .ref q23, .ref q31, .ref q38, .ref q57, .ref q79, .int 0, .int 0, .int 0, .int 0, .int 0, .ref q102, .ref q110, .ref q117, .int 0, .null, .null, .int 0, .null, .null, .null])), (q7, .inl (cI, 12, .inl (fun _ => 0))), (q15, .inl (cI, 120, .inl (fun _ => 0))), (q23, .inl (cI, 120, .inl (fun _ => 0))), (q31, .inl (cI, 120, .inl (fun _ => 0))), (q38, .inl (cI, 3, .inl (upd (upd (upd (fun _ => 0) 0 (-1)) 1 (-1)) 2 (-1)))), (q57, .inl (cI, 3, .inl (upd (upd (upd (fun _ => 0) 0 (-100)) 1 (-100)) 2 (-100)))), (q79, .inl (cI, 3, .inl (upd (upd (upd (fun _ => 0) 0 (-5)) 1 (-5)) 2 (-5)))), (q102, .inl (cZ, 12, .inl (fun _ => 0))), (q110, .inl (cI, 12, .inl (fun _ => 0))), (q117, .inl (cI, 4, .inl (fun _ => 0))), (q125, .inl (cI, 10, .inl (fun _ => 0)))] := hD
  refine W.widen (k := 11) (n := 419) (by omega) (by omega) ?_
  refine va_putF (D := D) (ci := 6) (v := .ref q125) (ty := .array .int) (C := RX6) (T := TX6) (N := 23) hx hb hts (fun w hw => List.mem_cons_of_mem _ (ab_Tin6 w hw)) tyX6 tyX6_ok nmX6 hown hK hP hD hS 0 rfl rfl 17 (by decide) (hts _ (List.mem_cons_of_mem _ (ab_gt_of (List.mem_of_getElem? (i := 530) rfl) rfl))) (fun _ h9 => h9) rfl hin rfl (by decide +kernel) rfl rfl (Nat.le_of_ble_eq_true rfl) dX6_init_127 (fun H locs hP hD hS => ?_)
  have hP : va_P D vwCl [(h0, .inr (6, [.int 0, .ref q7, .ref q15, .ref q23, .ref q31, .ref q38, .ref q57, .ref q79, .int 0, .int 0, .int 0, .int 0, .int 0, .ref q102, .ref q110, .ref q117, .int 0, .ref q125, .null, .int 0, .null, .null, .null])), (q7, .inl (cI, 12, .inl (fun _ => 0))), (q15, .inl (cI, 120, .inl (fun _ => 0))), (q23, .inl (cI, 120, .inl (fun _ => 0))), (q31, .inl (cI, 120, .inl (fun _ => 0))), (q38, .inl (cI, 3, .inl (upd (upd (upd (fun _ => 0) 0 (-1)) 1 (-1)) 2 (-1)))), (q57, .inl (cI, 3, .inl (upd (upd (upd (fun _ => 0) 0 (-100)) 1 (-100)) 2 (-100)))), (q79, .inl (cI, 3, .inl (upd (upd (upd (fun _ => 0) 0 (-5)) 1 (-5)) 2 (-5)))), (q102, .inl (cZ, 12, .inl (fun _ => 0))), (q110, .inl (cI, 12, .inl (fun _ => 0))), (q117, .inl (cI, 4, .inl (fun _ => 0))), (q125, .inl (cI, 10, .inl (fun _ => 0)))] H := hP
  have hD : va_D A [(h0, .inr (6, [.int 0, .ref q7, .ref q15, .ref q23, .ref q31, .ref q38, .ref q57, .ref q79, .int 0, .int 0, .int 0, .int 0, .int 0, .ref q102, .ref q110, .ref q117, .int 0, .ref q125, .null, .int 0, .null, .null, .null])), (q7, .inl (cI, 12, .inl (fun _ => 0))), (q15, .inl (cI, 120, .inl (fun _ => 0))), (q23, .inl (cI, 120, .inl (fun _ => 0))), (q31, .inl (cI, 120, .inl (fun _ => 0))), (q38, .inl (cI, 3, .inl (upd (upd (upd (fun _ => 0) 0 (-1)) 1 (-1)) 2 (-1)))), (q57, .inl (cI, 3, .inl (upd (upd (upd (fun _ => 0) 0 (-100)) 1 (-100)) 2 (-100)))), (q79, .inl (cI, 3, .inl (upd (upd (upd (fun _ => 0) 0 (-5)) 1 (-5)) 2 (-5)))), (q102, .inl (cZ, 12, .inl (fun _ => 0))), (q110, .inl (cI, 12, .inl (fun _ => 0))), (q117, .inl (cI, 4, .inl (fun _ => 0))), (q125, .inl (cI, 10, .inl (fun _ => 0)))] := hD
  refine lv_aload_n hx hb dX6_init_130 rfl (lv_at hl 0 rfl) ?_
  refine lv_bipush (v := 10) hx hb dX6_init_131 (by decide) ?_
  refine va_newa (a0 := (10, .inl (fun _ => 0))) (N' := 10) hx hb (hts _ (List.mem_cons_of_mem _ (ab_gt_of (List.mem_of_getElem? (i := 74) rfl) rfl))) (ty := .int) rfl hK hP hD hS hA (fun _ => rfl) (by decide) (by decide) (by decide) (Nat.le_of_ble_eq_true rfl) (Nat.le_of_ble_eq_true rfl) dX6_init_133 (fun q133 c133 H hK133 hP hD hS => ?_)
  obtain rfl : cI = c133 := (mk_un 0 rfl hK133).symm
  have hP : va_P D vwCl [(h0, .inr (6, [.int 0, .ref q7, .ref q15, .ref q23, .ref q31, .ref q38, .ref q57, .ref q79, .int 0, .int 0, .int 0, .int 0, .int 0, .ref q102, .ref q110, .ref q117, .int 0, .ref q125, .null, .int 0, .null, .null, .null])), (q7, .inl (cI, 12, .inl (fun _ => 0))), (q15, .inl (cI, 120, .inl (fun _ => 0))), (q23, .inl (cI, 120, .inl (fun _ => 0))), (q31, .inl (cI, 120, .inl (fun _ => 0))), (q38, .inl (cI, 3, .inl (upd (upd (upd (fun _ => 0) 0 (-1)) 1 (-1)) 2 (-1)))), (q57, .inl (cI, 3, .inl (upd (upd (upd (fun _ => 0) 0 (-100)) 1 (-100)) 2 (-100)))), (q79, .inl (cI, 3, .inl (upd (upd (upd (fun _ => 0) 0 (-5)) 1 (-5)) 2 (-5)))), (q102, .inl (cZ, 12, .inl (fun _ => 0))), (q110, .inl (cI, 12, .inl (fun _ => 0))), (q117, .inl (cI, 4, .inl (fun _ => 0))), (q125, .inl (cI, 10, .inl (fun _ => 0))), (q133, .inl (cI, 10, .inl (fun _ => 0)))] H := hP
  have hD : va_D A [(h0, .inr (6, [.int 0, .ref q7, .ref q15, .ref q23, .ref q31, .ref q38, .ref q57, .ref q79, .int 0, .int 0, .int 0, .int 0, .int 0, .ref q102, .ref q110, .ref q117, .int 0, .ref q125, .null, .int 0, .null, .null, .null])), (q7, .inl (cI, 12, .inl (fun _ => 0))), (q15, .inl (cI, 120, .inl (fun _ => 0))), (q23, .inl (cI, 120, .inl (fun _ => 0))), (q31, .inl (cI, 120, .inl (fun _ => 0))), (q38, .inl (cI, 3, .inl (upd (upd (upd (fun _ => 0) 0 (-1)) 1 (-1)) 2 (-1)))), (q57, .inl (cI, 3, .inl (upd (upd (upd (fun _ => 0) 0 (-100)) 1 (-100)) 2 (-100)))), (q79, .inl (cI, 3, .inl (upd (upd (upd (fun _ => 0) 0 (-5)) 1 (-5)) 2 (-5)))), (q102, .inl (cZ, 12, .inl (fun _ => 0))), (q110, .inl (cI, 12, .inl (fun _ => 0))), (q117, .inl (cI, 4, .inl (fun _ => 0))), (q125, .inl (cI, 10, .inl (fun _ => 0))), (q133, .inl (cI, 10, .inl (fun _ => 0)))] := hD
  refine W.widen (k := 12) (n := 429) (by omega) (by omega) ?_
  refine va_putF (D := D) (ci := 6) (v := .ref q133) (ty := .array .int) (C := RX6) (T := TX6) (N := 23) hx hb hts (fun w hw => List.mem_cons_of_mem _ (ab_Tin6 w hw)) tyX6 tyX6_ok nmX6 hown hK hP hD hS 0 rfl rfl 18 (by decide) (hts _ (List.mem_cons_of_mem _ (ab_gt_of (List.mem_of_getElem? (i := 531) rfl) rfl))) (fun _ h9 => h9) rfl hin rfl (by decide +kernel) rfl rfl (Nat.le_of_ble_eq_true rfl) dX6_init_135 (fun H locs hP hD hS => ?_)
  have hP : va_P D vwCl [(h0, .inr (6, [.int 0, .ref q7, .ref q15, .ref q23, .ref q31, .ref q38, .ref q57, .ref q79, .int 0, .int 0, .int 0, .int 0, .int 0, .ref q102, .ref q110, .ref q117, .int 0, .ref q125, .ref q133, .int 0, .null, .null, .null])), (q7, .inl (cI, 12, .inl (fun _ => 0))), (q15, .inl (cI, 120, .inl (fun _ => 0))), (q23, .inl (cI, 120, .inl (fun _ => 0))), (q31, .inl (cI, 120, .inl (fun _ => 0))), (q38, .inl (cI, 3, .inl (upd (upd (upd (fun _ => 0) 0 (-1)) 1 (-1)) 2 (-1)))), (q57, .inl (cI, 3, .inl (upd (upd (upd (fun _ => 0) 0 (-100)) 1 (-100)) 2 (-100)))), (q79, .inl (cI, 3, .inl (upd (upd (upd (fun _ => 0) 0 (-5)) 1 (-5)) 2 (-5)))), (q102, .inl (cZ, 12, .inl (fun _ => 0))), (q110, .inl (cI, 12, .inl (fun _ => 0))), (q117, .inl (cI, 4, .inl (fun _ => 0))), (q125, .inl (cI, 10, .inl (fun _ => 0))), (q133, .inl (cI, 10, .inl (fun _ => 0)))] H := hP
  have hD : va_D A [(h0, .inr (6, [.int 0, .ref q7, .ref q15, .ref q23, .ref q31, .ref q38, .ref q57, .ref q79, .int 0, .int 0, .int 0, .int 0, .int 0, .ref q102, .ref q110, .ref q117, .int 0, .ref q125, .ref q133, .int 0, .null, .null, .null])), (q7, .inl (cI, 12, .inl (fun _ => 0))), (q15, .inl (cI, 120, .inl (fun _ => 0))), (q23, .inl (cI, 120, .inl (fun _ => 0))), (q31, .inl (cI, 120, .inl (fun _ => 0))), (q38, .inl (cI, 3, .inl (upd (upd (upd (fun _ => 0) 0 (-1)) 1 (-1)) 2 (-1)))), (q57, .inl (cI, 3, .inl (upd (upd (upd (fun _ => 0) 0 (-100)) 1 (-100)) 2 (-100)))), (q79, .inl (cI, 3, .inl (upd (upd (upd (fun _ => 0) 0 (-5)) 1 (-5)) 2 (-5)))), (q102, .inl (cZ, 12, .inl (fun _ => 0))), (q110, .inl (cI, 12, .inl (fun _ => 0))), (q117, .inl (cI, 4, .inl (fun _ => 0))), (q125, .inl (cI, 10, .inl (fun _ => 0))), (q133, .inl (cI, 10, .inl (fun _ => 0)))] := hD
  refine lv_aload_n hx hb dX6_init_138 rfl (lv_at hl 0 rfl) ?_
  refine lv_bipush (v := 6) hx hb dX6_init_139 (by decide) ?_
  refine va_newa (a0 := (6, .inl (fun _ => 0))) (N' := 6) hx hb (hts _ (List.mem_cons_of_mem _ (ab_gt_of (List.mem_of_getElem? (i := 74) rfl) rfl))) (ty := .int) rfl hK hP hD hS hA (fun _ => rfl) (by decide) (by decide) (by decide) (Nat.le_of_ble_eq_true rfl) (Nat.le_of_ble_eq_true rfl) dX6_init_141 (fun q141 c141 H hK141 hP hD hS => ?_)
  obtain rfl : cI = c141 := (mk_un 0 rfl hK141).symm
  have hP : va_P D vwCl [(h0, .inr (6, [.int 0, .ref q7, .ref q15, .ref q23, .ref q31, .ref q38, .ref q57, .ref q79, .int 0, .int 0, .int 0, .int 0, .int 0, .ref q102, .ref q110, .ref q117, .int 0, .ref q125, .ref q133, .int 0, .null, .null, .null])), (q7, .inl (cI, 12, .inl (fun _ => 0))), (q15, .inl (cI, 120, .inl (fun _ => 0))), (q23, .inl (cI, 120, .inl (fun _ => 0))), (q31, .inl (cI, 120, .inl (fun _ => 0))), (q38, .inl (cI, 3, .inl (upd (upd (upd (fun _ => 0) 0 (-1)) 1 (-1)) 2 (-1)))), (q57, .inl (cI, 3, .inl (upd (upd (upd (fun _ => 0) 0 (-100)) 1 (-100)) 2 (-100)))), (q79, .inl (cI, 3, .inl (upd (upd (upd (fun _ => 0) 0 (-5)) 1 (-5)) 2 (-5)))), (q102, .inl (cZ, 12, .inl (fun _ => 0))), (q110, .inl (cI, 12, .inl (fun _ => 0))), (q117, .inl (cI, 4, .inl (fun _ => 0))), (q125, .inl (cI, 10, .inl (fun _ => 0))), (q133, .inl (cI, 10, .inl (fun _ => 0))), (q141, .inl (cI, 6, .inl (fun _ => 0)))] H := hP
  have hD : va_D A [(h0, .inr (6, [.int 0, .ref q7, .ref q15, .ref q23, .ref q31, .ref q38, .ref q57, .ref q79, .int 0, .int 0, .int 0, .int 0, .int 0, .ref q102, .ref q110, .ref q117, .int 0, .ref q125, .ref q133, .int 0, .null, .null, .null])), (q7, .inl (cI, 12, .inl (fun _ => 0))), (q15, .inl (cI, 120, .inl (fun _ => 0))), (q23, .inl (cI, 120, .inl (fun _ => 0))), (q31, .inl (cI, 120, .inl (fun _ => 0))), (q38, .inl (cI, 3, .inl (upd (upd (upd (fun _ => 0) 0 (-1)) 1 (-1)) 2 (-1)))), (q57, .inl (cI, 3, .inl (upd (upd (upd (fun _ => 0) 0 (-100)) 1 (-100)) 2 (-100)))), (q79, .inl (cI, 3, .inl (upd (upd (upd (fun _ => 0) 0 (-5)) 1 (-5)) 2 (-5)))), (q102, .inl (cZ, 12, .inl (fun _ => 0))), (q110, .inl (cI, 12, .inl (fun _ => 0))), (q117, .inl (cI, 4, .inl (fun _ => 0))), (q125, .inl (cI, 10, .inl (fun _ => 0))), (q133, .inl (cI, 10, .inl (fun _ => 0))), (q141, .inl (cI, 6, .inl (fun _ => 0)))] := hD
  refine W.widen (k := 13) (n := 435) (by omega) (by omega) ?_
  refine va_putF (D := D) (ci := 6) (v := .ref q141) (ty := .array .int) (C := RX6) (T := TX6) (N := 23) hx hb hts (fun w hw => List.mem_cons_of_mem _ (ab_Tin6 w hw)) tyX6 tyX6_ok nmX6 hown hK hP hD hS 0 rfl rfl 20 (by decide) (hts _ (List.mem_cons_of_mem _ (ab_gt_of (List.mem_of_getElem? (i := 533) rfl) rfl))) (fun _ h9 => h9) rfl hin rfl (by decide +kernel) rfl rfl (Nat.le_of_ble_eq_true rfl) dX6_init_143 (fun H locs hP hD hS => ?_)
  have hP : va_P D vwCl [(h0, .inr (6, [.int 0, .ref q7, .ref q15, .ref q23, .ref q31, .ref q38, .ref q57, .ref q79, .int 0, .int 0, .int 0, .int 0, .int 0, .ref q102, .ref q110, .ref q117, .int 0, .ref q125, .ref q133, .int 0, .ref q141, .null, .null])), (q7, .inl (cI, 12, .inl (fun _ => 0))), (q15, .inl (cI, 120, .inl (fun _ => 0))), (q23, .inl (cI, 120, .inl (fun _ => 0))), (q31, .inl (cI, 120, .inl (fun _ => 0))), (q38, .inl (cI, 3, .inl (upd (upd (upd (fun _ => 0) 0 (-1)) 1 (-1)) 2 (-1)))), (q57, .inl (cI, 3, .inl (upd (upd (upd (fun _ => 0) 0 (-100)) 1 (-100)) 2 (-100)))), (q79, .inl (cI, 3, .inl (upd (upd (upd (fun _ => 0) 0 (-5)) 1 (-5)) 2 (-5)))), (q102, .inl (cZ, 12, .inl (fun _ => 0))), (q110, .inl (cI, 12, .inl (fun _ => 0))), (q117, .inl (cI, 4, .inl (fun _ => 0))), (q125, .inl (cI, 10, .inl (fun _ => 0))), (q133, .inl (cI, 10, .inl (fun _ => 0))), (q141, .inl (cI, 6, .inl (fun _ => 0)))] H := hP
  have hD : va_D A [(h0, .inr (6, [.int 0, .ref q7, .ref q15, .ref q23, .ref q31, .ref q38, .ref q57, .ref q79, .int 0, .int 0, .int 0, .int 0, .int 0, .ref q102, .ref q110, .ref q117, .int 0, .ref q125, .ref q133, .int 0, .ref q141, .null, .null])), (q7, .inl (cI, 12, .inl (fun _ => 0))), (q15, .inl (cI, 120, .inl (fun _ => 0))), (q23, .inl (cI, 120, .inl (fun _ => 0))), (q31, .inl (cI, 120, .inl (fun _ => 0))), (q38, .inl (cI, 3, .inl (upd (upd (upd (fun _ => 0) 0 (-1)) 1 (-1)) 2 (-1)))), (q57, .inl (cI, 3, .inl (upd (upd (upd (fun _ => 0) 0 (-100)) 1 (-100)) 2 (-100)))), (q79, .inl (cI, 3, .inl (upd (upd (upd (fun _ => 0) 0 (-5)) 1 (-5)) 2 (-5)))), (q102, .inl (cZ, 12, .inl (fun _ => 0))), (q110, .inl (cI, 12, .inl (fun _ => 0))), (q117, .inl (cI, 4, .inl (fun _ => 0))), (q125, .inl (cI, 10, .inl (fun _ => 0))), (q133, .inl (cI, 10, .inl (fun _ => 0))), (q141, .inl (cI, 6, .inl (fun _ => 0)))] := hD
  refine lv_aload_n hx hb dX6_init_146 rfl (lv_at hl 0 rfl) ?_
  refine lv_bipush (v := 6) hx hb dX6_init_147 (by decide) ?_
  refine va_newa (a0 := (6, .inl (fun _ => 0))) (N' := 6) hx hb (hts _ (List.mem_cons_of_mem _ (ab_gt_of (List.mem_of_getElem? (i := 74) rfl) rfl))) (ty := .int) rfl hK hP hD hS hA (fun _ => rfl) (by decide) (by decide) (by decide) (Nat.le_of_ble_eq_true rfl) (Nat.le_of_ble_eq_true rfl) dX6_init_149 (fun q149 c149 H hK149 hP hD hS => ?_)
  obtain rfl : cI = c149 := (mk_un 0 rfl hK149).symm
  have hP : va_P D vwCl [(h0, .inr (6, [.int 0, .ref q7, .ref q15, .ref q23, .ref q31, .ref q38, .ref q57, .ref q79, .int 0, .int 0, .int 0, .int 0, .int 0, .ref q102, .ref q110, .ref q117, .int 0, .ref q125, .ref q133, .int 0, .ref q141, .null, .null])), (q7, .inl (cI, 12, .inl (fun _ => 0))), (q15, .inl (cI, 120, .inl (fun _ => 0))), (q23, .inl (cI, 120, .inl (fun _ => 0))), (q31, .inl (cI, 120, .inl (fun _ => 0))), (q38, .inl (cI, 3, .inl (upd (upd (upd (fun _ => 0) 0 (-1)) 1 (-1)) 2 (-1)))), (q57, .inl (cI, 3, .inl (upd (upd (upd (fun _ => 0) 0 (-100)) 1 (-100)) 2 (-100)))), (q79, .inl (cI, 3, .inl (upd (upd (upd (fun _ => 0) 0 (-5)) 1 (-5)) 2 (-5)))), (q102, .inl (cZ, 12, .inl (fun _ => 0))), (q110, .inl (cI, 12, .inl (fun _ => 0))), (q117, .inl (cI, 4, .inl (fun _ => 0))), (q125, .inl (cI, 10, .inl (fun _ => 0))), (q133, .inl (cI, 10, .inl (fun _ => 0))), (q141, .inl (cI, 6, .inl (fun _ => 0))), (q149, .inl (cI, 6, .inl (fun _ => 0)))] H := hP
  have hD : va_D A [(h0, .inr (6, [.int 0, .ref q7, .ref q15, .ref q23, .ref q31, .ref q38, .ref q57, .ref q79, .int 0, .int 0, .int 0, .int 0, .int 0, .ref q102, .ref q110, .ref q117, .int 0, .ref q125, .ref q133, .int 0, .ref q141, .null, .null])), (q7, .inl (cI, 12, .inl (fun _ => 0))), (q15, .inl (cI, 120, .inl (fun _ => 0))), (q23, .inl (cI, 120, .inl (fun _ => 0))), (q31, .inl (cI, 120, .inl (fun _ => 0))), (q38, .inl (cI, 3, .inl (upd (upd (upd (fun _ => 0) 0 (-1)) 1 (-1)) 2 (-1)))), (q57, .inl (cI, 3, .inl (upd (upd (upd (fun _ => 0) 0 (-100)) 1 (-100)) 2 (-100)))), (q79, .inl (cI, 3, .inl (upd (upd (upd (fun _ => 0) 0 (-5)) 1 (-5)) 2 (-5)))), (q102, .inl (cZ, 12, .inl (fun _ => 0))), (q110, .inl (cI, 12, .inl (fun _ => 0))), (q117, .inl (cI, 4, .inl (fun _ => 0))), (q125, .inl (cI, 10, .inl (fun _ => 0))), (q133, .inl (cI, 10, .inl (fun _ => 0))), (q141, .inl (cI, 6, .inl (fun _ => 0))), (q149, .inl (cI, 6, .inl (fun _ => 0)))] := hD
  refine W.widen (k := 14) (n := 441) (by omega) (by omega) ?_
  refine va_putF (D := D) (ci := 6) (v := .ref q149) (ty := .array .int) (C := RX6) (T := TX6) (N := 23) hx hb hts (fun w hw => List.mem_cons_of_mem _ (ab_Tin6 w hw)) tyX6 tyX6_ok nmX6 hown hK hP hD hS 0 rfl rfl 21 (by decide) (hts _ (List.mem_cons_of_mem _ (ab_gt_of (List.mem_of_getElem? (i := 534) rfl) rfl))) (fun _ h9 => h9) rfl hin rfl (by decide +kernel) rfl rfl (Nat.le_of_ble_eq_true rfl) dX6_init_151 (fun H locs hP hD hS => ?_)
  have hP : va_P D vwCl [(h0, .inr (6, [.int 0, .ref q7, .ref q15, .ref q23, .ref q31, .ref q38, .ref q57, .ref q79, .int 0, .int 0, .int 0, .int 0, .int 0, .ref q102, .ref q110, .ref q117, .int 0, .ref q125, .ref q133, .int 0, .ref q141, .ref q149, .null])), (q7, .inl (cI, 12, .inl (fun _ => 0))), (q15, .inl (cI, 120, .inl (fun _ => 0))), (q23, .inl (cI, 120, .inl (fun _ => 0))), (q31, .inl (cI, 120, .inl (fun _ => 0))), (q38, .inl (cI, 3, .inl (upd (upd (upd (fun _ => 0) 0 (-1)) 1 (-1)) 2 (-1)))), (q57, .inl (cI, 3, .inl (upd (upd (upd (fun _ => 0) 0 (-100)) 1 (-100)) 2 (-100)))), (q79, .inl (cI, 3, .inl (upd (upd (upd (fun _ => 0) 0 (-5)) 1 (-5)) 2 (-5)))), (q102, .inl (cZ, 12, .inl (fun _ => 0))), (q110, .inl (cI, 12, .inl (fun _ => 0))), (q117, .inl (cI, 4, .inl (fun _ => 0))), (q125, .inl (cI, 10, .inl (fun _ => 0))), (q133, .inl (cI, 10, .inl (fun _ => 0))), (q141, .inl (cI, 6, .inl (fun _ => 0))), (q149, .inl (cI, 6, .inl (fun _ => 0)))] H := hP
  have hD : va_D A [(h0, .inr (6, [.int 0, .ref q7, .ref q15, .ref q23, .ref q31, .ref q38, .ref q57, .ref q79, .int 0, .int 0, .int 0, .int 0, .int 0, .ref q102, .ref q110, .ref q117, .int 0, .ref q125, .ref q133, .int 0, .ref q141, .ref q149, .null])), (q7, .inl (cI, 12, .inl (fun _ => 0))), (q15, .inl (cI, 120, .inl (fun _ => 0))), (q23, .inl (cI, 120, .inl (fun _ => 0))), (q31, .inl (cI, 120, .inl (fun _ => 0))), (q38, .inl (cI, 3, .inl (upd (upd (upd (fun _ => 0) 0 (-1)) 1 (-1)) 2 (-1)))), (q57, .inl (cI, 3, .inl (upd (upd (upd (fun _ => 0) 0 (-100)) 1 (-100)) 2 (-100)))), (q79, .inl (cI, 3, .inl (upd (upd (upd (fun _ => 0) 0 (-5)) 1 (-5)) 2 (-5)))), (q102, .inl (cZ, 12, .inl (fun _ => 0))), (q110, .inl (cI, 12, .inl (fun _ => 0))), (q117, .inl (cI, 4, .inl (fun _ => 0))), (q125, .inl (cI, 10, .inl (fun _ => 0))), (q133, .inl (cI, 10, .inl (fun _ => 0))), (q141, .inl (cI, 6, .inl (fun _ => 0))), (q149, .inl (cI, 6, .inl (fun _ => 0)))] := hD
  refine lv_aload_n hx hb dX6_init_154 rfl (lv_at hl 0 rfl) ?_
  refine lv_bipush (v := 77) hx hb dX6_init_155 (by decide) ?_
  refine va_newa (a0 := (77, .inl (fun _ => 0))) (N' := 77) hx hb (hts _ (List.mem_cons_of_mem _ (ab_gt_of (List.mem_of_getElem? (i := 74) rfl) rfl))) (ty := .int) rfl hK hP hD hS hA (fun _ => rfl) (by decide) (by decide) (by decide) (Nat.le_of_ble_eq_true rfl) (Nat.le_of_ble_eq_true rfl) dX6_init_157 (fun q157 c157 H hK157 hP hD hS => ?_)
  obtain rfl : cI = c157 := (mk_un 0 rfl hK157).symm
  have hP : va_P D vwCl [(h0, .inr (6, [.int 0, .ref q7, .ref q15, .ref q23, .ref q31, .ref q38, .ref q57, .ref q79, .int 0, .int 0, .int 0, .int 0, .int 0, .ref q102, .ref q110, .ref q117, .int 0, .ref q125, .ref q133, .int 0, .ref q141, .ref q149, .null])), (q7, .inl (cI, 12, .inl (fun _ => 0))), (q15, .inl (cI, 120, .inl (fun _ => 0))), (q23, .inl (cI, 120, .inl (fun _ => 0))), (q31, .inl (cI, 120, .inl (fun _ => 0))), (q38, .inl (cI, 3, .inl (upd (upd (upd (fun _ => 0) 0 (-1)) 1 (-1)) 2 (-1)))), (q57, .inl (cI, 3, .inl (upd (upd (upd (fun _ => 0) 0 (-100)) 1 (-100)) 2 (-100)))), (q79, .inl (cI, 3, .inl (upd (upd (upd (fun _ => 0) 0 (-5)) 1 (-5)) 2 (-5)))), (q102, .inl (cZ, 12, .inl (fun _ => 0))), (q110, .inl (cI, 12, .inl (fun _ => 0))), (q117, .inl (cI, 4, .inl (fun _ => 0))), (q125, .inl (cI, 10, .inl (fun _ => 0))), (q133, .inl (cI, 10, .inl (fun _ => 0))), (q141, .inl (cI, 6, .inl (fun _ => 0))), (q149, .inl (cI, 6, .inl (fun _ => 0))), (q157, .inl (cI, 77, .inl (fun _ => 0)))] H := hP
  have hD : va_D A [(h0, .inr (6, [.int 0, .ref q7, .ref q15, .ref q23, .ref q31, .ref q38, .ref q57, .ref q79, .int 0, .int 0, .int 0, .int 0, .int 0, .ref q102, .ref q110, .ref q117, .int 0, .ref q125, .ref q133, .int 0, .ref q141, .ref q149, .null])), (q7, .inl (cI, 12, .inl (fun _ => 0))), (q15, .inl (cI, 120, .inl (fun _ => 0))), (q23, .inl (cI, 120, .inl (fun _ => 0))), (q31, .inl (cI, 120, .inl (fun _ => 0))), (q38, .inl (cI, 3, .inl (upd (upd (upd (fun _ => 0) 0 (-1)) 1 (-1)) 2 (-1)))), (q57, .inl (cI, 3, .inl (upd (upd (upd (fun _ => 0) 0 (-100)) 1 (-100)) 2 (-100)))), (q79, .inl (cI, 3, .inl (upd (upd (upd (fun _ => 0) 0 (-5)) 1 (-5)) 2 (-5)))), (q102, .inl (cZ, 12, .inl (fun _ => 0))), (q110, .inl (cI, 12, .inl (fun _ => 0))), (q117, .inl (cI, 4, .inl (fun _ => 0))), (q125, .inl (cI, 10, .inl (fun _ => 0))), (q133, .inl (cI, 10, .inl (fun _ => 0))), (q141, .inl (cI, 6, .inl (fun _ => 0))), (q149, .inl (cI, 6, .inl (fun _ => 0))), (q157, .inl (cI, 77, .inl (fun _ => 0)))] := hD
  refine W.widen (k := 15) (n := 518) (by omega) (by omega) ?_
  refine va_putF (D := D) (ci := 6) (v := .ref q157) (ty := .array .int) (C := RX6) (T := TX6) (N := 23) hx hb hts (fun w hw => List.mem_cons_of_mem _ (ab_Tin6 w hw)) tyX6 tyX6_ok nmX6 hown hK hP hD hS 0 rfl rfl 22 (by decide) (hts _ (List.mem_cons_of_mem _ (ab_gt_of (List.mem_of_getElem? (i := 535) rfl) rfl))) (fun _ h9 => h9) rfl hin rfl (by decide +kernel) rfl rfl (Nat.le_of_ble_eq_true rfl) dX6_init_159 (fun H locs hP hD hS => ?_)
  have hP : va_P D vwCl [(h0, .inr (6, [.int 0, .ref q7, .ref q15, .ref q23, .ref q31, .ref q38, .ref q57, .ref q79, .int 0, .int 0, .int 0, .int 0, .int 0, .ref q102, .ref q110, .ref q117, .int 0, .ref q125, .ref q133, .int 0, .ref q141, .ref q149, .ref q157])), (q7, .inl (cI, 12, .inl (fun _ => 0))), (q15, .inl (cI, 120, .inl (fun _ => 0))), (q23, .inl (cI, 120, .inl (fun _ => 0))), (q31, .inl (cI, 120, .inl (fun _ => 0))), (q38, .inl (cI, 3, .inl (upd (upd (upd (fun _ => 0) 0 (-1)) 1 (-1)) 2 (-1)))), (q57, .inl (cI, 3, .inl (upd (upd (upd (fun _ => 0) 0 (-100)) 1 (-100)) 2 (-100)))), (q79, .inl (cI, 3, .inl (upd (upd (upd (fun _ => 0) 0 (-5)) 1 (-5)) 2 (-5)))), (q102, .inl (cZ, 12, .inl (fun _ => 0))), (q110, .inl (cI, 12, .inl (fun _ => 0))), (q117, .inl (cI, 4, .inl (fun _ => 0))), (q125, .inl (cI, 10, .inl (fun _ => 0))), (q133, .inl (cI, 10, .inl (fun _ => 0))), (q141, .inl (cI, 6, .inl (fun _ => 0))), (q149, .inl (cI, 6, .inl (fun _ => 0))), (q157, .inl (cI, 77, .inl (fun _ => 0)))] H := hP
  have hD : va_D A [(h0, .inr (6, [.int 0, .ref q7, .ref q15, .ref q23, .ref q31, .ref q38, .ref q57, .ref q79, .int 0, .int 0, .int 0, .int 0, .int 0, .ref q102, .ref q110, .ref q117, .int 0, .ref q125, .ref q133, .int 0, .ref q141, .ref q149, .ref q157])), (q7, .inl (cI, 12, .inl (fun _ => 0))), (q15, .inl (cI, 120, .inl (fun _ => 0))), (q23, .inl (cI, 120, .inl (fun _ => 0))), (q31, .inl (cI, 120, .inl (fun _ => 0))), (q38, .inl (cI, 3, .inl (upd (upd (upd (fun _ => 0) 0 (-1)) 1 (-1)) 2 (-1)))), (q57, .inl (cI, 3, .inl (upd (upd (upd (fun _ => 0) 0 (-100)) 1 (-100)) 2 (-100)))), (q79, .inl (cI, 3, .inl (upd (upd (upd (fun _ => 0) 0 (-5)) 1 (-5)) 2 (-5)))), (q102, .inl (cZ, 12, .inl (fun _ => 0))), (q110, .inl (cI, 12, .inl (fun _ => 0))), (q117, .inl (cI, 4, .inl (fun _ => 0))), (q125, .inl (cI, 10, .inl (fun _ => 0))), (q133, .inl (cI, 10, .inl (fun _ => 0))), (q141, .inl (cI, 6, .inl (fun _ => 0))), (q149, .inl (cI, 6, .inl (fun _ => 0))), (q157, .inl (cI, 77, .inl (fun _ => 0)))] := hD
  have e_564 : (upd (upd (upd (fun _ => 0) 0 (-1)) 1 (-1)) 2 (-1)) = (fun j => if j < 3 then (-1) else 0) := by funext j; match j with
    | 0 => rfl
    | 1 => rfl
    | 2 => rfl
    | n + 3 => simp [upd]
  rw [e_564] at hP hD
  have e_993 : (upd (upd (upd (fun _ => 0) 0 (-100)) 1 (-100)) 2 (-100)) = (fun j => if j < 3 then (-100) else 0) := by funext j; match j with
    | 0 => rfl
    | 1 => rfl
    | 2 => rfl
    | n + 3 => simp [upd]
  rw [e_993] at hP hD
  have e_746 : (upd (upd (upd (fun _ => 0) 0 (-5)) 1 (-5)) 2 (-5)) = (fun j => if j < 3 then (-5) else 0) := by funext j; match j with
    | 0 => rfl
    | 1 => rfl
    | 2 => rfl
    | n + 3 => simp [upd]
  rw [e_746] at hP hD
  exact W.vret hx hb hr (fun t ht hW => ⟨⟨(fun k => match k with | 0 => q7 | 1 => q15 | 2 => q23 | 3 => q31 | 4 => q38 | 5 => q57 | 6 => q79 | 7 => q102 | 8 => q110 | 9 => q117 | 10 => q125 | 11 => q133 | 12 => q141 | 13 => q149 | _ => q157), rfl, trivial, by rw [ht]; simp only [mk_w6, ite_self]; exact hP, by simp only [mk_w6, ite_self]; exact hD⟩, hS.F ht⟩) hS.2.2 dX6_init_162
