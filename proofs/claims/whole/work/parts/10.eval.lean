section XE
variable {cl : ab_CL} {t : Nat} {J : ab_J} {Q : ab_Q} {k pc : Nat} {μ : ab_M} {ls st : List Value} {x y v : Int32} {a : Nat}
theorem xe {i : Instr} {n : Nat} (hd : decode (ab_c t) pc = .ok (i, n)) : ab_rn cl t J Q (k + 1) pc μ ls st = ab_ex cl (ab_o t) (ab_b t) J (ab_rn cl t J Q k) Q i n pc μ ls st :=
  propext ⟨fun ⟨i', n', h1, h2⟩ => by rw [hd] at h1; cases h1; exact h2, fun h => ⟨i, n, hd, h⟩⟩
theorem x_iconst {z : Int} {w : Int32} (hd : decode (ab_c t) pc = .ok (.iconst z, 1)) (hw : Int32.ofInt z = w) : ab_rn cl t J Q (k + 1) pc μ ls st = ab_rn cl t J Q k (pc + 1) μ ls (.int w :: st) := by subst hw; exact (xe hd).trans (propext ⟨fun h => h.2, fun h => ⟨rfl, h⟩⟩)
theorem x_bipush {z : Int} {w : Int32} (hd : decode (ab_c t) pc = .ok (.bipush z, 2)) (hw : (Int8.ofInt z).toInt32 = w) : ab_rn cl t J Q (k + 1) pc μ ls st = ab_rn cl t J Q k (pc + 2) μ ls (.int w :: st) := by subst hw; exact (xe hd).trans (propext ⟨fun h => h.2, fun h => ⟨rfl, h⟩⟩)
theorem x_sipush {z : Int} {w : Int32} (hd : decode (ab_c t) pc = .ok (.sipush z, 3)) (hw : (Int16.ofInt z).toInt32 = w) : ab_rn cl t J Q (k + 1) pc μ ls st = ab_rn cl t J Q k (pc + 3) μ ls (.int w :: st) := by subst hw; exact (xe hd).trans (propext ⟨fun h => h.2, fun h => ⟨rfl, h⟩⟩)
theorem x_iload_n {i : Fin 4} (hd : decode (ab_c t) pc = .ok (.iload_n i, 1)) (hl : ls[i.val]? = some (.int x)) : ab_rn cl t J Q (k + 1) pc μ ls st = ab_rn cl t J Q k (pc + 1) μ ls (.int x :: st) := ((xe hd).trans (ab_li_i hl)).trans (propext ⟨fun h => h.2, fun h => ⟨rfl, h⟩⟩)
theorem x_iload {i : Nat} (hd : decode (ab_c t) pc = .ok (.iload i, 2)) (hl : ls[i]? = some (.int x)) : ab_rn cl t J Q (k + 1) pc μ ls st = ab_rn cl t J Q k (pc + 2) μ ls (.int x :: st) := ((xe hd).trans (ab_li_i hl)).trans (propext ⟨fun h => h.2, fun h => ⟨rfl, h⟩⟩)
theorem x_aload_n {i : Fin 4} (hd : decode (ab_c t) pc = .ok (.aload_n i, 1)) (hl : ls[i.val]? = some (.ref a)) : ab_rn cl t J Q (k + 1) pc μ ls st = ab_rn cl t J Q k (pc + 1) μ ls (.ref a :: st) := ((xe hd).trans (ab_lr_i hl)).trans (propext ⟨fun h => h.2, fun h => ⟨rfl, h⟩⟩)
theorem x_aload {i : Nat} (hd : decode (ab_c t) pc = .ok (.aload i, 2)) (hl : ls[i]? = some (.ref a)) : ab_rn cl t J Q (k + 1) pc μ ls st = ab_rn cl t J Q k (pc + 2) μ ls (.ref a :: st) := ((xe hd).trans (ab_lr_i hl)).trans (propext ⟨fun h => h.2, fun h => ⟨rfl, h⟩⟩)
theorem x_istore_n {i : Fin 4} {ls' : List Value} (hd : decode (ab_c t) pc = .ok (.istore_n i, 1)) (hl : i.val < ls.length) (hs : ls.set i.val (.int x) = ls') : ab_rn cl t J Q (k + 1) pc μ ls (.int x :: st) = ab_rn cl t J Q k (pc + 1) μ ls' st := by subst hs; exact (xe hd).trans (propext ⟨fun h => h.2.2, fun h => ⟨rfl, hl, h⟩⟩)
theorem x_istore {i : Nat} {ls' : List Value} (hd : decode (ab_c t) pc = .ok (.istore i, 2)) (hl : i < ls.length) (hs : ls.set i (.int x) = ls') : ab_rn cl t J Q (k + 1) pc μ ls (.int x :: st) = ab_rn cl t J Q k (pc + 2) μ ls' st := by subst hs; exact (xe hd).trans (propext ⟨fun h => h.2.2, fun h => ⟨rfl, hl, h⟩⟩)
theorem x_astore_n {i : Fin 4} {ls' : List Value} (hd : decode (ab_c t) pc = .ok (.astore_n i, 1)) (hl : i.val < ls.length) (hs : ls.set i.val (.ref a) = ls') : ab_rn cl t J Q (k + 1) pc μ ls (.ref a :: st) = ab_rn cl t J Q k (pc + 1) μ ls' st := by subst hs; exact (xe hd).trans (propext ⟨fun h => h.2.2, fun h => ⟨rfl, hl, h⟩⟩)
theorem x_astore {i : Nat} {ls' : List Value} (hd : decode (ab_c t) pc = .ok (.astore i, 2)) (hl : i < ls.length) (hs : ls.set i (.ref a) = ls') : ab_rn cl t J Q (k + 1) pc μ ls (.ref a :: st) = ab_rn cl t J Q k (pc + 2) μ ls' st := by subst hs; exact (xe hd).trans (propext ⟨fun h => h.2.2, fun h => ⟨rfl, hl, h⟩⟩)
theorem x_iinc {i : Nat} {z : Int} {w : Int32} {ls' : List Value} (hd : decode (ab_c t) pc = .ok (.iinc i z, 3)) (hw : Int32.ofInt z = w) (hl : ls[i]? = some (.int x)) (hs : ls.set i (.int (x + w)) = ls') : ab_rn cl t J Q (k + 1) pc μ ls st = ab_rn cl t J Q k (pc + 3) μ ls' st := by
  subst hs
  subst hw
  exact ((xe hd).trans (ab_li_i hl)).trans (propext ⟨fun h => h.2.2, fun h => ⟨rfl, (List.getElem?_eq_some_iff.mp hl).1, h⟩⟩)
theorem x_iadd (hd : decode (ab_c t) pc = .ok (.iadd, 1)) : ab_rn cl t J Q (k + 1) pc μ ls (.int y :: .int x :: st) = ab_rn cl t J Q k (pc + 1) μ ls (.int (x + y) :: st) := (xe hd).trans (propext ⟨fun h => h.2, fun h => ⟨rfl, h⟩⟩)
theorem x_isub (hd : decode (ab_c t) pc = .ok (.isub, 1)) : ab_rn cl t J Q (k + 1) pc μ ls (.int y :: .int x :: st) = ab_rn cl t J Q k (pc + 1) μ ls (.int (x - y) :: st) := (xe hd).trans (propext ⟨fun h => h.2, fun h => ⟨rfl, h⟩⟩)
theorem x_imul (hd : decode (ab_c t) pc = .ok (.imul, 1)) : ab_rn cl t J Q (k + 1) pc μ ls (.int y :: .int x :: st) = ab_rn cl t J Q k (pc + 1) μ ls (.int (x * y) :: st) := (xe hd).trans (propext ⟨fun h => h.2, fun h => ⟨rfl, h⟩⟩)
theorem x_iand (hd : decode (ab_c t) pc = .ok (.iand, 1)) : ab_rn cl t J Q (k + 1) pc μ ls (.int y :: .int x :: st) = ab_rn cl t J Q k (pc + 1) μ ls (.int (x &&& y) :: st) := (xe hd).trans (propext ⟨fun h => h.2, fun h => ⟨rfl, h⟩⟩)
theorem x_ior (hd : decode (ab_c t) pc = .ok (.ior, 1)) : ab_rn cl t J Q (k + 1) pc μ ls (.int y :: .int x :: st) = ab_rn cl t J Q k (pc + 1) μ ls (.int (x ||| y) :: st) := (xe hd).trans (propext ⟨fun h => h.2, fun h => ⟨rfl, h⟩⟩)
theorem x_ishl (hd : decode (ab_c t) pc = .ok (.ishl, 1)) : ab_rn cl t J Q (k + 1) pc μ ls (.int y :: .int x :: st) = ab_rn cl t J Q k (pc + 1) μ ls (.int (x <<< (y &&& 31)) :: st) := (xe hd).trans (propext ⟨fun h => h.2, fun h => ⟨rfl, h⟩⟩)
theorem x_idiv (hd : decode (ab_c t) pc = .ok (.idiv, 1)) : ab_rn cl t J Q (k + 1) pc μ ls (.int y :: .int x :: st) = ((¬ y = 0) ∧ ab_rn cl t J Q k (pc + 1) μ ls (.int (x / y) :: st)) := (xe hd).trans (propext ⟨fun h => h.2, fun h => ⟨rfl, h⟩⟩)
theorem x_irem (hd : decode (ab_c t) pc = .ok (.irem, 1)) : ab_rn cl t J Q (k + 1) pc μ ls (.int y :: .int x :: st) = ((¬ y = 0) ∧ ab_rn cl t J Q k (pc + 1) μ ls (.int (x - x / y * y) :: st)) := (xe hd).trans (propext ⟨fun h => h.2, fun h => ⟨rfl, h⟩⟩)
theorem x_ineg (hd : decode (ab_c t) pc = .ok (.ineg, 1)) : ab_rn cl t J Q (k + 1) pc μ ls (.int x :: st) = ab_rn cl t J Q k (pc + 1) μ ls (.int (-x) :: st) := (xe hd).trans (propext ⟨fun h => h.2, fun h => ⟨rfl, h⟩⟩)
theorem x_dupi (hd : decode (ab_c t) pc = .ok (.dup, 1)) : ab_rn cl t J Q (k + 1) pc μ ls (.int x :: st) = ab_rn cl t J Q k (pc + 1) μ ls (.int x :: .int x :: st) := (xe hd).trans (propext ⟨fun h => h.2.2, fun h => ⟨rfl, rfl, h⟩⟩)
theorem x_dupr (hd : decode (ab_c t) pc = .ok (.dup, 1)) : ab_rn cl t J Q (k + 1) pc μ ls (.ref a :: st) = ab_rn cl t J Q k (pc + 1) μ ls (.ref a :: .ref a :: st) := (xe hd).trans (propext ⟨fun h => h.2.2, fun h => ⟨rfl, rfl, h⟩⟩)
theorem x_dup2 (hd : decode (ab_c t) pc = .ok (.dup2, 1)) : ab_rn cl t J Q (k + 1) pc μ ls (.int x :: .ref a :: st) = ab_rn cl t J Q k (pc + 1) μ ls (.int x :: .ref a :: .int x :: .ref a :: st) := (xe hd).trans (propext ⟨fun h => h.2.2.2, fun h => ⟨rfl, rfl, rfl, h⟩⟩)
theorem x_if {op : ClassFile.Cond} {off : Int} (hd : decode (ab_c t) pc = .ok (.ifCond op off, 3)) : ab_rn cl t J Q (k + 1) pc μ ls (.int x :: st) = ((ab_c1 op x → ab_jp J (ab_rn cl t J Q k) pc off μ ls st) ∧ (¬ ab_c1 op x → ab_rn cl t J Q k (pc + 3) μ ls st)) := (xe hd).trans (propext ⟨fun h => h.2, fun h => ⟨rfl, h⟩⟩)
theorem x_icmp {op : ClassFile.Cond} {off : Int} (hd : decode (ab_c t) pc = .ok (.if_icmp op off, 3)) : ab_rn cl t J Q (k + 1) pc μ ls (.int y :: .int x :: st) = ((ab_c2 op x y → ab_jp J (ab_rn cl t J Q k) pc off μ ls st) ∧ (¬ ab_c2 op x y → ab_rn cl t J Q k (pc + 3) μ ls st)) := (xe hd).trans (propext ⟨fun h => h.2, fun h => ⟨rfl, h⟩⟩)
theorem x_goto {off : Int} (hd : decode (ab_c t) pc = .ok (.goto off, 3)) : ab_rn cl t J Q (k + 1) pc μ ls st = ab_jp J (ab_rn cl t J Q k) pc off μ ls st := (xe hd).trans (propext ⟨fun h => h.2, fun h => ⟨rfl, h⟩⟩)
theorem x_tsi {n : Nat} {df lo hi off : Int} {offs : Array Int} (hd : decode (ab_c t) pc = .ok (.tableswitch df lo hi offs, n)) (h : ¬ (x.toInt < lo ∨ hi < x.toInt)) (ho : offs[(x.toInt - lo).toNat]? = some off) : ab_rn cl t J Q (k + 1) pc μ ls (.int x :: st) = ab_jp J (ab_rn cl t J Q k) pc off μ ls st :=
  (xe hd).trans (propext ⟨fun q => by obtain ⟨o2, e, q⟩ := q.2 h; rw [ho] at e; cases e; exact q, fun q => ⟨fun z => absurd z h, fun _ => ⟨off, ho, q⟩⟩⟩)
theorem x_tso {n : Nat} {df lo hi : Int} {offs : Array Int} (hd : decode (ab_c t) pc = .ok (.tableswitch df lo hi offs, n)) (h : x.toInt < lo ∨ hi < x.toInt) : ab_rn cl t J Q (k + 1) pc μ ls (.int x :: st) = ab_jp J (ab_rn cl t J Q k) pc df μ ls st :=
  (xe hd).trans (propext ⟨fun q => q.1 h, fun q => ⟨fun _ => q, fun z => absurd h z⟩⟩)
theorem x_get {idx ci j : Nat} (hd : decode (ab_c t) pc = .ok (.getfield idx, 3)) (hq : ab_ft (ab_o t) idx = some (ci, j)) : ab_rn cl t J Q (k + 1) pc μ ls (.ref a :: st) = (ab_ob a ci ∧ ab_rn cl t J Q k (pc + 3) μ ls (ab_fv μ a j :: st)) :=
  (xe hd).trans (propext ⟨fun h => by obtain ⟨-, q, e, h⟩ := h; rw [hq] at e; cases e; exact h, fun h => ⟨rfl, _, hq, h⟩⟩)
theorem x_put {idx ci j : Nat} (hd : decode (ab_c t) pc = .ok (.putfield idx, 3)) (hq : ab_ft (ab_o t) idx = some (ci, j)) : ab_rn cl t J Q (k + 1) pc μ ls (.int v :: .ref a :: st) = (ab_ob a ci ∧ ab_rf a j = none ∧ ab_rn cl t J Q k (pc + 3) (ab_up μ (ab_cmp a) (ab_off a + j) v) ls st) :=
  (xe hd).trans (propext ⟨fun h => by obtain ⟨-, q, e, h⟩ := h; rw [hq] at e; cases e; exact h, fun h => ⟨rfl, _, hq, h⟩⟩)
theorem x_iaload (hd : decode (ab_c t) pc = .ok (.iaload, 1)) : ab_rn cl t J Q (k + 1) pc μ ls (.int x :: .ref a :: st) = ((a < 81 ∧ ab_ak a = 0) ∧ vp_in x (ab_al a) ∧ ab_rn cl t J Q k (pc + 1) μ ls (.int (μ (ab_cmp a) (ab_off a + x.toNatClampNeg)) :: st)) := (xe hd).trans (propext ⟨fun h => h.2, fun h => ⟨rfl, h⟩⟩)
theorem x_baload (hd : decode (ab_c t) pc = .ok (.baload, 1)) : ab_rn cl t J Q (k + 1) pc μ ls (.int x :: .ref a :: st) = ((a < 81 ∧ ab_ak a = 1) ∧ vp_in x (ab_al a) ∧ ab_rn cl t J Q k (pc + 1) μ ls (.int (μ (ab_cmp a) (ab_off a + x.toNatClampNeg)) :: st)) := (xe hd).trans (propext ⟨fun h => h.2, fun h => ⟨rfl, h⟩⟩)
theorem x_iastore (hd : decode (ab_c t) pc = .ok (.iastore, 1)) : ab_rn cl t J Q (k + 1) pc μ ls (.int v :: .int x :: .ref a :: st) = ((a < 81 ∧ ab_ak a = 0) ∧ vp_in x (ab_al a) ∧ ab_rn cl t J Q k (pc + 1) (ab_up μ (ab_cmp a) (ab_off a + x.toNatClampNeg) v) ls st) := (xe hd).trans (propext ⟨fun h => h.2, fun h => ⟨rfl, h⟩⟩)
theorem x_bastore (hd : decode (ab_c t) pc = .ok (.bastore, 1)) : ab_rn cl t J Q (k + 1) pc μ ls (.int v :: .int x :: .ref a :: st) = ((a < 81 ∧ ab_ak a = 1) ∧ vp_in x (ab_al a) ∧ (v = 0 ∨ v = 1) ∧ ab_rn cl t J Q k (pc + 1) (ab_up μ (ab_cmp a) (ab_off a + x.toNatClampNeg) v) ls st) := (xe hd).trans (propext ⟨fun h => h.2, fun h => ⟨rfl, h⟩⟩)
theorem x_aaload (hd : decode (ab_c t) pc = .ok (.aaload, 1)) : ab_rn cl t J Q (k + 1) pc μ ls (.int x :: .ref 1 :: st) = (vp_in x 12 ∧ ab_rn cl t J Q k (pc + 1) μ ls (.ref (17 + 4 * x.toNatClampNeg) :: st)) := (xe hd).trans (propext ⟨fun h => h.2.2, fun h => ⟨rfl, rfl, h⟩⟩)
theorem x_iret (hd : decode (ab_c t) pc = .ok (.ireturn, 1)) (hb : ab_b t = 1) : ab_rn cl t J Q (k + 1) pc μ ls [.int v] = Q (some v) μ :=
  (xe hd).trans (propext ⟨fun h => by obtain ⟨-, w, e, -, h⟩ := h; cases e; exact h, fun h => ⟨rfl, v, rfl, Or.inl hb, h⟩⟩)
theorem x_zret (hd : decode (ab_c t) pc = .ok (.ireturn, 1)) (hb : ab_b t = 2) : ab_rn cl t J Q (k + 1) pc μ ls [.int v] = ((v = 0 ∨ v = 1) ∧ Q (some v) μ) :=
  (xe hd).trans (propext ⟨fun h => by
    obtain ⟨-, w, e, q, h⟩ := h
    cases e
    rcases q with q | q
    · rw [hb] at q; exact absurd q (by decide)
    · exact ⟨q.2, h⟩, fun h => ⟨rfl, v, rfl, Or.inr ⟨hb, h.1⟩, h.2⟩⟩)
theorem x_vret (hd : decode (ab_c t) pc = .ok (.return_, 1)) (hb : ab_b t = 0) : ab_rn cl t J Q (k + 1) pc μ ls [] = Q none μ :=
  (xe hd).trans (propext ⟨fun h => h.2.2.2, fun h => ⟨rfl, rfl, hb, h⟩⟩)
theorem x_inv {idx t' : Nat} (hd : decode (ab_c t) pc = .ok (.invokevirtual idx, 3)) (hm : ab_mt ab_cV (ab_o t) idx = some t') : ab_rn cl t J Q (k + 1) pc μ ls st = ab_ca cl t' true (ab_rn cl t J Q k) pc μ ls st :=
  (xe hd).trans (propext ⟨fun h => by obtain ⟨-, q, e, h⟩ := h; rw [hm] at e; cases e; exact h, fun h => ⟨rfl, _, hm, h⟩⟩)
theorem x_ins {idx b t' : Nat} (hd : decode (ab_c t) pc = .ok (.invokestatic idx, 3)) (hm : ab_sc (ab_o t) idx = some (b, t')) (hb : ¬ b = 2) : ab_rn cl t J Q (k + 1) pc μ ls st = ab_ca cl t' false (ab_rn cl t J Q k) pc μ ls st :=
  (xe hd).trans (propext ⟨fun h => by obtain ⟨-, q, e, h⟩ := h; rw [hm] at e; cases e; rw [if_neg hb] at h; exact h, fun h => ⟨rfl, _, hm, by rw [if_neg hb]; exact h⟩⟩)
theorem x_mth {idx f : Nat} (hd : decode (ab_c t) pc = .ok (.invokestatic idx, 3)) (hm : ab_sc (ab_o t) idx = some (2, f)) : ab_rn cl t J Q (k + 1) pc μ ls st = ab_mf f (ab_rn cl t J Q k) pc μ ls st :=
  (xe hd).trans (propext ⟨fun h => by obtain ⟨-, q, e, h⟩ := h; rw [hm] at e; cases e; rw [if_pos rfl] at h; exact h, fun h => ⟨rfl, _, hm, by rw [if_pos rfl]; exact h⟩⟩)
theorem x_ifF {op : ClassFile.Cond} {off : Int} {C : Prop} {tgt : Nat} (hd : decode (ab_c t) pc = .ok (.ifCond op off, 3)) (hc : ab_c1 op x = C) (hj : ∀ (J K : ab_J) (μ : ab_M) (ls st : List Value), ab_jp J K pc off μ ls st = K tgt μ ls st) : ab_rn cl t J Q (k + 1) pc μ ls (.int x :: st) = ((C → ab_rn cl t J Q k tgt μ ls st) ∧ ((¬ C) → ab_rn cl t J Q k (pc + 3) μ ls st)) := by
  subst hc; rw [x_if hd, hj]
theorem x_ifB {op : ClassFile.Cond} {off : Int} {C : Prop} {tgt : Nat} (hd : decode (ab_c t) pc = .ok (.ifCond op off, 3)) (hc : ab_c1 op x = C) (hj : ∀ (J K : ab_J) (μ : ab_M) (ls st : List Value), ab_jp J K pc off μ ls st = J tgt μ ls st) : ab_rn cl t J Q (k + 1) pc μ ls (.int x :: st) = ((C → J tgt μ ls st) ∧ ((¬ C) → ab_rn cl t J Q k (pc + 3) μ ls st)) := by
  subst hc; rw [x_if hd, hj]
theorem x_icmpF {op : ClassFile.Cond} {off : Int} {C : Prop} {tgt : Nat} (hd : decode (ab_c t) pc = .ok (.if_icmp op off, 3)) (hc : ab_c2 op x y = C) (hj : ∀ (J K : ab_J) (μ : ab_M) (ls st : List Value), ab_jp J K pc off μ ls st = K tgt μ ls st) : ab_rn cl t J Q (k + 1) pc μ ls (.int y :: .int x :: st) = ((C → ab_rn cl t J Q k tgt μ ls st) ∧ ((¬ C) → ab_rn cl t J Q k (pc + 3) μ ls st)) := by
  subst hc; rw [x_icmp hd, hj]
theorem x_icmpB {op : ClassFile.Cond} {off : Int} {C : Prop} {tgt : Nat} (hd : decode (ab_c t) pc = .ok (.if_icmp op off, 3)) (hc : ab_c2 op x y = C) (hj : ∀ (J K : ab_J) (μ : ab_M) (ls st : List Value), ab_jp J K pc off μ ls st = J tgt μ ls st) : ab_rn cl t J Q (k + 1) pc μ ls (.int y :: .int x :: st) = ((C → J tgt μ ls st) ∧ ((¬ C) → ab_rn cl t J Q k (pc + 3) μ ls st)) := by
  subst hc; rw [x_icmp hd, hj]
theorem x_gotoF {off : Int} {tgt : Nat} (hd : decode (ab_c t) pc = .ok (.goto off, 3)) (hj : ∀ (J K : ab_J) (μ : ab_M) (ls st : List Value), ab_jp J K pc off μ ls st = K tgt μ ls st) : ab_rn cl t J Q (k + 1) pc μ ls st = ab_rn cl t J Q k tgt μ ls st := by rw [x_goto hd, hj]
theorem x_gotoB {off : Int} {tgt : Nat} (hd : decode (ab_c t) pc = .ok (.goto off, 3)) (hj : ∀ (J K : ab_J) (μ : ab_M) (ls st : List Value), ab_jp J K pc off μ ls st = J tgt μ ls st) : ab_rn cl t J Q (k + 1) pc μ ls st = J tgt μ ls st := by rw [x_goto hd, hj]
theorem x_tsiF {n tgt : Nat} {df lo hi off : Int} {offs : Array Int} (hd : decode (ab_c t) pc = .ok (.tableswitch df lo hi offs, n)) (h : ¬ (x.toInt < lo ∨ hi < x.toInt)) (ho : offs[(x.toInt - lo).toNat]? = some off) (hj : ∀ (J K : ab_J) (μ : ab_M) (ls st : List Value), ab_jp J K pc off μ ls st = K tgt μ ls st) : ab_rn cl t J Q (k + 1) pc μ ls (.int x :: st) = ab_rn cl t J Q k tgt μ ls st := by rw [x_tsi hd h ho, hj]
theorem x_tsoF {n tgt : Nat} {df lo hi : Int} {offs : Array Int} (hd : decode (ab_c t) pc = .ok (.tableswitch df lo hi offs, n)) (h : x.toInt < lo ∨ hi < x.toInt) (hj : ∀ (J K : ab_J) (μ : ab_M) (ls st : List Value), ab_jp J K pc df μ ls st = K tgt μ ls st) : ab_rn cl t J Q (k + 1) pc μ ls (.int x :: st) = ab_rn cl t J Q k tgt μ ls st := by rw [x_tso hd h, hj]
theorem x_caV {as : List Value} {t' ci : Nat} {K : ab_J} (hn : ab_n t' = as.length + 1) (hok : (as.all ab_ok1) = true) (ho : ab_o t' = ci) : ab_ca cl t' true K pc μ ls (as.reverse ++ .ref a :: st) = (ab_ob a ci ∧ st.length ≤ 4 ∧ cl t' (.ref a :: as) μ (fun r μ' => K (pc + 3) μ' ls (ab_pu r st))) := by
  subst ho
  have e1 : (as.reverse ++ .ref a :: st).take (ab_n t') = as.reverse ++ [.ref a] := by
    rw [hn, show as.reverse ++ .ref a :: st = (as.reverse ++ [.ref a]) ++ st by simp]
    exact List.take_left' (by simp)
  have e2 : (as.reverse ++ .ref a :: st).drop (ab_n t') = st := by
    rw [hn, show as.reverse ++ .ref a :: st = (as.reverse ++ [.ref a]) ++ st by simp]
    exact List.drop_left' (by simp)
  have e3 : (as.reverse ++ [Value.ref a]).reverse = Value.ref a :: as := by simp
  unfold ab_ca
  rw [e1, e2, e3]
  refine propext ⟨fun h => ⟨h.2.2.1 rfl, h.2.2.2.1, h.2.2.2.2⟩, fun h => ⟨by rw [hn]; simp, by simp [ab_ok1, hok], fun _ => h.1, h.2.1, h.2.2⟩⟩
theorem x_caS {as : List Value} {t' : Nat} {K : ab_J} (hn : ab_n t' = as.length) (hok : (as.all ab_ok1) = true) : ab_ca cl t' false K pc μ ls (as.reverse ++ st) = (st.length ≤ 4 ∧ cl t' as μ (fun r μ' => K (pc + 3) μ' ls (ab_pu r st))) := by
  have e1 : (as.reverse ++ st).take (ab_n t') = as.reverse := by
    rw [hn]
    exact List.take_left' (by simp)
  have e2 : (as.reverse ++ st).drop (ab_n t') = st := by
    rw [hn]
    exact List.drop_left' (by simp)
  unfold ab_ca
  rw [e1, e2, List.reverse_reverse]
  refine propext ⟨fun h => ⟨h.2.2.2.1, h.2.2.2.2⟩, fun h => ⟨by rw [hn]; simp, hok, fun z => Bool.noConfusion z, h.1, h.2⟩⟩
theorem x_v {as sk : List Value} {idx t' ci : Nat} (hd : decode (ab_c t) pc = .ok (.invokevirtual idx, 3)) (hm : ab_mt ab_cV (ab_o t) idx = some t') (hn : ab_n t' = as.length + 1) (hok : (as.all ab_ok1) = true) (ho : ab_o t' = ci) (hs : sk = as.reverse ++ .ref a :: st) : ab_rn cl t J Q (k + 1) pc μ ls sk = (ab_ob a ci ∧ st.length ≤ 4 ∧ cl t' (.ref a :: as) μ (fun r μ' => ab_rn cl t J Q k (pc + 3) μ' ls (ab_pu r st))) := by
  subst hs; exact (x_inv hd hm).trans (x_caV hn hok ho)
theorem x_s {as sk : List Value} {idx b t' : Nat} (hd : decode (ab_c t) pc = .ok (.invokestatic idx, 3)) (hm : ab_sc (ab_o t) idx = some (b, t')) (hb : ¬ b = 2) (hn : ab_n t' = as.length) (hok : (as.all ab_ok1) = true) (hs : sk = as.reverse ++ st) : ab_rn cl t J Q (k + 1) pc μ ls sk = (st.length ≤ 4 ∧ cl t' as μ (fun r μ' => ab_rn cl t J Q k (pc + 3) μ' ls (ab_pu r st))) := by
  subst hs; exact (x_ins hd hm hb).trans (x_caS hn hok)
theorem x_abs {idx : Nat} (hd : decode (ab_c t) pc = .ok (.invokestatic idx, 3)) (hm : ab_sc (ab_o t) idx = some (2, 0)) : ab_rn cl t J Q (k + 1) pc μ ls (.int x :: st) = (st.length ≤ 4 ∧ ab_rn cl t J Q k (pc + 3) μ ls (.int (if 0 ≤ x then x else 0 - x) :: st)) := x_mth hd hm
theorem x_max {idx : Nat} (hd : decode (ab_c t) pc = .ok (.invokestatic idx, 3)) (hm : ab_sc (ab_o t) idx = some (2, 1)) : ab_rn cl t J Q (k + 1) pc μ ls (.int y :: .int x :: st) = (st.length ≤ 4 ∧ ab_rn cl t J Q k (pc + 3) μ ls (.int (if x < y then y else x) :: st)) := x_mth hd hm
theorem x_min {idx : Nat} (hd : decode (ab_c t) pc = .ok (.invokestatic idx, 3)) (hm : ab_sc (ab_o t) idx = some (2, 2)) : ab_rn cl t J Q (k + 1) pc μ ls (.int y :: .int x :: st) = (st.length ≤ 4 ∧ ab_rn cl t J Q k (pc + 3) μ ls (.int (if y < x then y else x) :: st)) := x_mth hd hm
end XE
