section ABU
variable {p : Program} {l : Launch} {e : Env} {R : Room} {s : State} {m : MethodId} {args : Array Value} {below : List Frame} {meth : Method} {c : Code} {cells slots : Nat} {Qz : State → Prop} {D : va_G} {ad : Nat → Nat} {cI cZ cR : ClassId} {nL o d : Nat} {A0 : Nat → Prop} {H0 : Heap} {cc : ByteArray}
theorem ab_ls_at {lsA : Array Slot} {ls : List Value} {i : Nat} {v : Value} (h : ab_ls ad lsA nL ls) (hv : ls[i]? = some v) (hn : v ≠ .null) : lsA[i]? = some (.val (ab_sh ad v)) := h.2.2.2.2 i v hv hn
theorem ab_if_else {H : Heap} {locs : List Loc} {pc : Nat} {lsA : Array Slot} {x : Int32} {r : List Value} {op : ClassFile.Cond} {off : Int} (hx : p.tables.exec = Jvm.exec) (hb : c.code = cc) (hd : decode cc pc = .ok (.ifCond op off, 3)) (hc : ¬ ab_c1 op x) (k : W p l e R s m args below meth c H locs cells slots Qz (F0 m (pc + 3) lsA r)) : W p l e R s m args below meth c H locs cells slots Qz (F0 m pc lsA (.int x :: r)) := by
  intro T hT X
  obtain ⟨t, a, b⟩ := k T hT X
  refine ⟨t, ?_, b⟩
  cases op <;> (simp only [ab_c1, Classical.not_not] at hc; jvm_step X.here [X.here.top, hx, hb, hd, Op.ifCond.holds, hc]; first | exact a | (rw [if_pos rfl]; exact a))
theorem ab_ic_else {H : Heap} {locs : List Loc} {pc : Nat} {lsA : Array Slot} {x y : Int32} {r : List Value} {op : ClassFile.Cond} {off : Int} (hx : p.tables.exec = Jvm.exec) (hb : c.code = cc) (hd : decode cc pc = .ok (.if_icmp op off, 3)) (hc : ¬ ab_c2 op x y) (k : W p l e R s m args below meth c H locs cells slots Qz (F0 m (pc + 3) lsA r)) : W p l e R s m args below meth c H locs cells slots Qz (F0 m pc lsA (.int y :: .int x :: r)) := by
  intro T hT X
  obtain ⟨t, a, b⟩ := k T hT X
  refine ⟨t, ?_, b⟩
  cases op <;> (simp only [ab_c2, Classical.not_not] at hc; jvm_step X.here [X.here.top, hx, hb, hd, Op.if_icmp.holds, hc]; first | exact a | (rw [if_pos rfl]; exact a))
theorem ab_stepJ (X : ab_X p R s m args c cells slots D ad cI cZ cR nL o d A0 cc) {cl : ab_CL} {rb : Nat} {Q : ab_Q}
    (HC : ∀ t as μ Q, t < ab_NM → as.length = ab_n t → (as.all ab_ok1) = true → cl t as μ Q → Met l (ab_y t) (ab_w t) (ab_rm d) (va_Pc (as.map (ab_sh ad)) (ab_MW D ad cI cZ cR μ)) (ab_Qc D ad cI cZ cR Q) 0 0 (ab_A ad))
    (HR : ∀ pc μ ls v, decode cc pc = .ok (.ireturn, 1) → (rb = 1 ∨ (rb = 2 ∧ (v = 0 ∨ v = 1))) → Q (some v) μ → ab_Jc p l e R s m args below meth c cells slots Qz D ad cI cZ cR nL A0 H0 pc μ ls [.int v])
    (HV : ∀ pc μ ls, decode cc pc = .ok (.return_, 1) → rb = 0 → Q none μ → ab_Jc p l e R s m args below meth c cells slots Qz D ad cI cZ cR nL A0 H0 pc μ ls [])
    {i : Instr} {n pc : Nat} {μ : ab_M} {ls st : List Value} (hd : decode cc pc = .ok (i, n)) (h : ab_ex cl o rb (ab_Jc p l e R s m args below meth c cells slots Qz D ad cI cZ cR nL A0 H0) (ab_Jc p l e R s m args below meth c cells slots Qz D ad cI cZ cR nL A0 H0) Q i n pc μ ls st) : ab_Jc p l e R s m args below meth c cells slots Qz D ad cI cZ cR nL A0 H0 pc μ ls st := by
  obtain ⟨hx, hb, -⟩ := id X
  cases i
  case iconst z => obtain ⟨rfl, h⟩ := h; exact fun H locs lsA hP hS hl => lv_iconst hx hb hd rfl (h H locs lsA hP hS hl)
  case bipush z => obtain ⟨rfl, h⟩ := h; exact fun H locs lsA hP hS hl => lv_bipush hx hb hd rfl (h H locs lsA hP hS hl)
  case sipush z => obtain ⟨rfl, h⟩ := h; exact fun H locs lsA hP hS hl => lv_sipush hx hb hd rfl (h H locs lsA hP hS hl)
  case iload_n k => obtain ⟨x, hv, rfl, h9⟩ := ab_li_e h; exact fun H locs lsA hP hS hl => lv_iload_n hx hb hd rfl (ab_ls_at hl hv (fun z => by cases z)) (h9 H locs lsA hP hS hl)
  case iload k => obtain ⟨x, hv, rfl, h9⟩ := ab_li_e h; exact fun H locs lsA hP hS hl => lv_iload hx hb hd (ab_ls_at hl hv (fun z => by cases z)) (h9 H locs lsA hP hS hl)
  case aload_n k => obtain ⟨x, hv, rfl, h9⟩ := ab_lr_e h; exact fun H locs lsA hP hS hl => lv_aload_n hx hb hd rfl (ab_ls_at hl hv (fun z => by cases z)) (h9 H locs lsA hP hS hl)
  case aload k => obtain ⟨x, hv, rfl, h9⟩ := ab_lr_e h; exact fun H locs lsA hP hS hl => lv_aload hx hb hd (ab_ls_at hl hv (fun z => by cases z)) (h9 H locs lsA hP hS hl)
  case istore_n k => obtain ⟨x, r, rfl, rfl, hk, h9⟩ := ab_p1_e h; exact fun H locs lsA hP hS hl => lv_istore_n hx hb hd rfl (ab_ls_has hl) (by rw [← hl.2.2.1]; exact hk) rfl (fun lsB hB => h9 H locs lsB hP hS (ab_ls_store hl hk rfl hB))
  case istore k => obtain ⟨x, r, rfl, rfl, hk, h9⟩ := ab_p1_e h; exact fun H locs lsA hP hS hl => lv_istore hx hb hd (ab_ls_has hl) (by rw [← hl.2.2.1]; exact hk) rfl (fun lsB hB => h9 H locs lsB hP hS (ab_ls_store hl hk rfl hB))
  case astore_n k => obtain ⟨x, r, rfl, rfl, hk, h9⟩ := ab_pr_e h; exact fun H locs lsA hP hS hl => lv_astore_n hx hb hd rfl (ab_ls_has hl) (by rw [← hl.2.2.1]; exact hk) rfl (fun lsB hB => h9 H locs lsB hP hS (ab_ls_store hl hk rfl hB))
  case astore k => obtain ⟨x, r, rfl, rfl, hk, h9⟩ := ab_pr_e h; exact fun H locs lsA hP hS hl => lv_astore hx hb hd (ab_ls_has hl) (by rw [← hl.2.2.1]; exact hk) rfl (fun lsB hB => h9 H locs lsB hP hS (ab_ls_store hl hk rfl hB))
  case iinc k z =>
    obtain ⟨x, hv, rfl, hk, h9⟩ := ab_li_e h
    intro H locs lsA hP hS hl
    obtain ⟨j, hj⟩ := List.getElem?_of_mem (ab_en_mem (ad := ad) (ls := ls) (q := (k, .int x)) |>.mpr ⟨.int x, hv, (fun z => by cases z), rfl⟩)
    exact lv_iinc hx hb hd (ab_ls_has hl) hj rfl (by rw [← hl.2.2.1]; exact hk) rfl (fun lsB hB => h9 H locs lsB hP hS (ab_ls_store hl hk rfl hB))
  case iadd => obtain ⟨x, y, r, rfl, rfl, h9⟩ := ab_p2_e h; exact fun H locs lsA hP hS hl => lv_iadd hx hb hd (h9 H locs lsA hP hS hl)
  case isub => obtain ⟨x, y, r, rfl, rfl, h9⟩ := ab_p2_e h; exact fun H locs lsA hP hS hl => lv_isub hx hb hd (h9 H locs lsA hP hS hl)
  case imul => obtain ⟨x, y, r, rfl, rfl, h9⟩ := ab_p2_e h; exact fun H locs lsA hP hS hl => lv_imul hx hb hd (h9 H locs lsA hP hS hl)
  case iand => obtain ⟨x, y, r, rfl, rfl, h9⟩ := ab_p2_e h; exact fun H locs lsA hP hS hl => lv_iand hx hb hd (h9 H locs lsA hP hS hl)
  case ior => obtain ⟨x, y, r, rfl, rfl, h9⟩ := ab_p2_e h; exact fun H locs lsA hP hS hl => lv_ior hx hb hd (h9 H locs lsA hP hS hl)
  case ishl => obtain ⟨x, y, r, rfl, rfl, h9⟩ := ab_p2_e h; exact fun H locs lsA hP hS hl => lv_ishl hx hb hd (h9 H locs lsA hP hS hl)
  case idiv => obtain ⟨x, y, r, rfl, rfl, h0, h9⟩ := ab_p2_e h; exact fun H locs lsA hP hS hl => lv_idiv hx hb hd h0 (h9 H locs lsA hP hS hl)
  case irem => obtain ⟨x, y, r, rfl, rfl, h0, h9⟩ := ab_p2_e h; exact fun H locs lsA hP hS hl => lv_irem hx hb hd h0 (h9 H locs lsA hP hS hl)
  case ineg => obtain ⟨x, r, rfl, rfl, h9⟩ := ab_p1_e h; exact fun H locs lsA hP hS hl => lv_ineg hx hb hd (h9 H locs lsA hP hS hl)
  case dup => obtain ⟨v, r, rfl, rfl, hv, h9⟩ := ab_pv_e h; exact fun H locs lsA hP hS hl => lv_dup hx hb hd (by rw [ab_sh_cat]; exact ab_ok_cat hv) (h9 H locs lsA hP hS hl)
  case dup2 => obtain ⟨v, w, r, rfl, rfl, hv, hw, h9⟩ := ab_pw_e h; exact fun H locs lsA hP hS hl => lv_dup2_11 hx hb hd (by rw [ab_sh_cat]; exact ab_ok_cat hv) (by rw [ab_sh_cat]; exact ab_ok_cat hw) (h9 H locs lsA hP hS hl)
  case ifCond op off =>
    obtain ⟨x, r, rfl, rfl, h1, h2⟩ := ab_p1_e h
    intro H locs lsA hP hS hl
    by_cases hc : ab_c1 op x
    · obtain ⟨tgt, ht, hj⟩ := ab_jp_e (h1 hc)
      have hj := hj H locs lsA hP hS hl
      cases op
      · exact lv_if_eq hx hb hd ht (fun _ => hj) (fun z => absurd hc z)
      · exact lv_if_ne hx hb hd ht (fun _ => hj) (fun z => absurd z hc)
      · exact lv_if_lt hx hb hd ht (fun _ => hj) (fun z => absurd hc z)
      · exact lv_if_ge hx hb hd ht (fun _ => hj) (fun z => absurd hc z)
      · exact lv_if_gt hx hb hd ht (fun _ => hj) (fun z => absurd hc z)
      · exact lv_if_le hx hb hd ht (fun _ => hj) (fun z => absurd hc z)
    · have hj := h2 hc H locs lsA hP hS hl
      exact ab_if_else hx hb hd hc hj
  case if_icmp op off =>
    obtain ⟨x, y, r, rfl, rfl, h1, h2⟩ := ab_p2_e h
    intro H locs lsA hP hS hl
    by_cases hc : ab_c2 op x y
    · obtain ⟨tgt, ht, hj⟩ := ab_jp_e (h1 hc)
      have hj := hj H locs lsA hP hS hl
      cases op
      · exact lv_icmp_eq hx hb hd ht (fun _ => hj) (fun z => absurd hc z)
      · exact lv_icmp_ne hx hb hd ht (fun _ => hj) (fun z => absurd z hc)
      · exact lv_icmp_lt hx hb hd ht (fun _ => hj) (fun z => absurd hc z)
      · exact lv_icmp_ge hx hb hd ht (fun _ => hj) (fun z => absurd hc z)
      · exact lv_icmp_gt hx hb hd ht (fun _ => hj) (fun z => absurd hc z)
      · exact lv_icmp_le hx hb hd ht (fun _ => hj) (fun z => absurd hc z)
    · have hj := h2 hc H locs lsA hP hS hl
      exact ab_ic_else hx hb hd hc hj
  case goto off => obtain ⟨rfl, h⟩ := h; obtain ⟨tgt, ht, hj⟩ := ab_jp_e h; exact fun H locs lsA hP hS hl => lv_goto hx hb hd ht (hj H locs lsA hP hS hl)
  case tableswitch df lo hi offs =>
    obtain ⟨x, r, rfl, h1, h2⟩ := ab_p1_e h
    intro H locs lsA hP hS hl
    by_cases hc : x.toInt < lo ∨ hi < x.toInt
    · obtain ⟨tgt, ht, hj⟩ := ab_jp_e (h1 hc)
      exact lv_tableOut hx hb hd hc ht (hj H locs lsA hP hS hl)
    · obtain ⟨off, ho, hj⟩ := h2 hc
      obtain ⟨tgt, ht, hj⟩ := ab_jp_e hj
      exact lv_tableIn hx hb hd (fun z => hc (Or.inl z)) (fun z => hc (Or.inr z)) ho ht (hj H locs lsA hP hS hl)
  case getfield idx => obtain ⟨a, r, rfl, rfl, q, h2, h3, h4⟩ := ab_pr_e h; exact ab_get X hd h2 h3 h4
  case putfield idx =>
    obtain ⟨v, a, r, rfl, rfl, q, h2, h3, h4, h5⟩ := ab_pi_e h
    obtain ⟨w1, w2, w3⟩ := ab_okF _ (ab_ft_mem h2)
    exact ab_put X hd h2 h3 h4 (ab_putI q w2 w3 a h3 h4) h5
  case iaload => obtain ⟨i, a, r, rfl, rfl, h2, h3, h4⟩ := ab_pi_e h; exact ab_iald X hd h2 h3 h4
  case baload => obtain ⟨i, a, r, rfl, rfl, h2, h3, h4⟩ := ab_pi_e h; exact ab_zald X hd h2 h3 h4
  case iastore => obtain ⟨v, i, a, r, rfl, rfl, h2, h3, h4⟩ := ab_ps_e h; exact ab_iast X hd h2 h3 h4
  case bastore => obtain ⟨v, i, a, r, rfl, rfl, h2, h3, h4, h5⟩ := ab_ps_e h; exact ab_zast X hd h2 h3 h4 h5
  case aaload => obtain ⟨i, a, r, rfl, rfl, rfl, h3, h4⟩ := ab_pi_e h; exact ab_aald X hd h3 h4
  case ireturn => obtain ⟨rfl, v, rfl, h3, h4⟩ := h; exact HR pc μ ls v hd h3 h4
  case return_ => obtain ⟨rfl, rfl, h2, h3⟩ := h; exact HV pc μ ls hd h2 h3
  case invokevirtual idx => obtain ⟨rfl, t, h2, h3⟩ := h; exact ab_callV X (fun as μ Q => HC t as μ Q) hd (ab_mt_mem h2) h3
  case invokestatic idx =>
    obtain ⟨rfl, q, h2, h3⟩ := h
    rcases ab_sc_e h2 with ⟨e1, hm⟩ | ⟨e1, hm⟩ | ⟨e1, hm⟩
    · rw [if_neg (by rw [e1]; decide)] at h3
      exact ab_callS X (fun as μ Q => HC q.2 as μ Q) hd (Or.inl hm) h3
    · rw [if_neg (by rw [e1]; decide)] at h3
      exact ab_callS X (fun as μ Q => HC q.2 as μ Q) hd (Or.inr hm) h3
    · rw [if_pos e1] at h3
      exact ab_math X hd hm h3
  all_goals exact h.elim
end ABU
theorem ab_sound (l : Launch) (D : va_G) (ad : Nat → Nat) (cI cZ cR : ClassId) (hinj : ∀ i j, i < 81 → j < 81 → ad i = ad j → i = j) : ∀ (d t : Nat) (as : List Value) (μ : ab_M) (Q : ab_Q), t < ab_NM → as.length = ab_n t → (as.all ab_ok1) = true → ab_Cl d t as μ Q → Met l (ab_y t) (ab_w t) (ab_rm d) (va_Pc (as.map (ab_sh ad)) (ab_MW D ad cI cZ cR μ)) (ab_Qc D ad cI cZ cR Q) 0 0 (ab_A ad) := by
  intro d
  induction d with
  | zero => intro t as μ Q _ _ _ h; exact h.elim
  | succ d ih =>
    intro t as μ Q ht hlen hok h
    have hq := ab_okM_at ht
    simp only [ab_okq, Bool.and_eq_true, decide_eq_true_eq] at hq
    obtain ⟨⟨⟨⟨q1, q2⟩, q3⟩, q4⟩, q5⟩ := hq
    have hn := ab_okn_at ht
    simp only [ab_okn, Bool.and_eq_true, decide_eq_true_eq, Bool.or_eq_true] at hn
    obtain ⟨⟨⟨⟨n1, n2⟩, n3⟩, n4⟩, n5⟩ := hn
    refine Met.ofW (cc := ab_c t) (maxL := ab_L t) (ret := ab_r t) (ws' := ab_gt) q2 rfl ?_
    intro p e s m args below meth c s₁ B hml hv
    obtain ⟨rfl, hP, hK, hN⟩ := hv
    have hts : ∀ w ∈ ab_gt, w.before _ s = true := fun w hw => atoms_spec (ws := ab_w t) B.pre w (List.mem_cons_of_mem _ hw)
    have hown : s.vm.findClass (ab_R (ab_o t)) = some m.cls := by rw [← q1]; exact findClass_of_methodNamed B.named
    have X : ab_X p (headSpec (ab_w t) (ab_rm (d + 1))).room s m (as.map (ab_sh ad)).toArray c 0 0 D ad cI cZ cR (ab_L t) (ab_o t) d (ab_A ad) (ab_c t) := ⟨B.exec, B.bytes, hml, hown, hts, hK, hN, hinj, fun _ h => h, Nat.le_refl _, Nat.le_refl _, Nat.zero_le _, Nat.zero_le _⟩
    have hr := B.returns
    have hlocks := B.notSynchronized
    have main := h (ab_Jc p l e (headSpec (ab_w t) (ab_rm (d + 1))).room s m (as.map (ab_sh ad)).toArray below meth c 0 0 (MQ below (ab_Qc D ad cI cZ cR Q) (as.map (ab_sh ad)).toArray s 0 0 (ab_A ad)) D ad cI cZ cR (ab_L t) (ab_A ad) s.heap) (fun pc μ ls st ⟨i, n, hd, hx⟩ => ab_stepJ X ih (fun pc μ ls v hd hb hQ => ?_) (fun pc μ ls hd hb hQ => ?_) hd hx)
    · have hS : va_S (ab_A ad) s.heap s.heap [] := va_S.rf
      rw [lg_entry_eq]
      have hsl : lg_sl (as.map (ab_sh ad)) = (as.map (ab_sh ad)).map Slot.val := by
        have key : ∀ as : List Value, (as.all ab_ok1) = true → lg_sl (as.map (ab_sh ad)) = (as.map (ab_sh ad)).map Slot.val := by
          intro as
          induction as with
          | nil => intro _; rfl
          | cons v r ihr =>
            intro hk
            simp only [List.all_cons, Bool.and_eq_true] at hk
            have hc : ¬ (ab_sh ad v).category = 2 := by rw [ab_sh_cat, ab_ok_cat hk.1]; decide
            have := ihr hk.2
            unfold lg_sl at this ⊢
            rw [List.map_cons, List.flatMap_cons, if_neg hc, this]
            rfl
        exact key as hok
      have hl := lv_entry (as.map (ab_sh ad)) (n := ab_L t) (by rw [hsl, List.length_map, List.length_map, hlen]; exact n1)
      refine main s.heap [] _ hP hS ⟨hl.1, hl.2.1, by rw [List.length_append, List.length_replicate, hlen]; omega, fun v hv => ?_, fun i v hv hnn => ?_⟩
      · rcases List.mem_append.mp hv with hv | hv
        · exact ab_ok_cat (List.all_eq_true.mp hok v hv)
        · rw [List.eq_of_mem_replicate hv]; rfl
      · by_cases hi : i < as.length
        · rw [List.getElem?_append_left hi] at hv
          rw [List.getElem?_toArray, hsl, List.getElem?_append_left (by simpa using hi), List.getElem?_map, List.getElem?_map, hv]
          rfl
        · rw [List.getElem?_append_right (by omega)] at hv
          exact absurd (List.eq_of_mem_replicate (List.mem_of_getElem? hv)) hnn
    · intro H locs lsA hP1 hS1 hl1
      have hq : ∀ t : State, t.heap = H → s.WarmedH t.vm → ab_Qc D ad cI cZ cR Q (as.map (ab_sh ad)).toArray s (.returned (some (.int v))) t := fun t ht hW => ⟨some v, μ, rfl, hQ, ⟨by rw [ht]; exact hP1, va_K.moved hW.alike hK, ab_nw_moved hN hW⟩, hS1.F ht⟩
      rcases n4 with (n4 | n4) | n4
      · rw [n4.2] at hb
        exact absurd hb (by simp)
      · rw [n4.1] at hr
        exact W.iret B.exec B.bytes hr hq hS1.2.2 hd
      · rw [n4.1] at hr
        rw [n4.2] at hb
        refine W.zret B.exec B.bytes hr ?_ hq hS1.2.2 hd
        rcases hb with hb | ⟨-, hb⟩
        · exact absurd hb (by decide)
        · rcases hb with rfl | rfl <;> rfl
    · intro H locs lsA hP1 hS1 hl1
      have hq : ∀ t : State, t.heap = H → s.WarmedH t.vm → ab_Qc D ad cI cZ cR Q (as.map (ab_sh ad)).toArray s (.returned none) t := fun t ht hW => ⟨none, μ, rfl, hQ, ⟨by rw [ht]; exact hP1, va_K.moved hW.alike hK, ab_nw_moved hN hW⟩, hS1.F ht⟩
      rcases n4 with (n4 | n4) | n4
      · rw [n4.1] at hr
        exact W.vret B.exec B.bytes hr hq hS1.2.2 hd
      · rw [n4.2] at hb
        exact absurd hb (by decide)
      · rw [n4.2] at hb
        exact absurd hb (by decide)
