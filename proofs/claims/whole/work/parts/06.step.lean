/-! what one instruction asks, over the abstract machine -/
def ab_p1 (st : List Value) (f : Int32 → List Value → Prop) : Prop := match st with
  | .int x :: r => f x r
  | _ => False
def ab_p2 (st : List Value) (f : Int32 → Int32 → List Value → Prop) : Prop := match st with
  | .int y :: .int x :: r => f x y r
  | _ => False
def ab_pr (st : List Value) (f : Nat → List Value → Prop) : Prop := match st with
  | .ref a :: r => f a r
  | _ => False
def ab_pi (st : List Value) (f : Int32 → Nat → List Value → Prop) : Prop := match st with
  | .int i :: .ref a :: r => f i a r
  | _ => False
def ab_ps (st : List Value) (f : Int32 → Int32 → Nat → List Value → Prop) : Prop := match st with
  | .int v :: .int i :: .ref a :: r => f v i a r
  | _ => False
def ab_pv (st : List Value) (f : Value → List Value → Prop) : Prop := match st with
  | v :: r => f v r
  | _ => False
def ab_pw (st : List Value) (f : Value → Value → List Value → Prop) : Prop := match st with
  | v :: w :: r => f v w r
  | _ => False
def ab_li (ls : List Value) (k : Nat) (f : Int32 → Prop) : Prop := match ls[k]? with
  | some (.int x) => f x
  | _ => False
def ab_lr (ls : List Value) (k : Nat) (f : Nat → Prop) : Prop := match ls[k]? with
  | some (.ref a) => f a
  | _ => False
theorem ab_p1_e {st : List Value} {f : Int32 → List Value → Prop} (h : ab_p1 st f) : ∃ x r, st = .int x :: r ∧ f x r := by
  unfold ab_p1 at h
  split at h
  · exact ⟨_, _, rfl, h⟩
  · exact h.elim
theorem ab_p2_e {st : List Value} {f : Int32 → Int32 → List Value → Prop} (h : ab_p2 st f) : ∃ x y r, st = .int y :: .int x :: r ∧ f x y r := by
  unfold ab_p2 at h
  split at h
  · exact ⟨_, _, _, rfl, h⟩
  · exact h.elim
theorem ab_pr_e {st : List Value} {f : Nat → List Value → Prop} (h : ab_pr st f) : ∃ x r, st = .ref x :: r ∧ f x r := by
  unfold ab_pr at h
  split at h
  · exact ⟨_, _, rfl, h⟩
  · exact h.elim
theorem ab_pi_e {st : List Value} {f : Int32 → Nat → List Value → Prop} (h : ab_pi st f) : ∃ i a r, st = .int i :: .ref a :: r ∧ f i a r := by
  unfold ab_pi at h
  split at h
  · exact ⟨_, _, _, rfl, h⟩
  · exact h.elim
theorem ab_ps_e {st : List Value} {f : Int32 → Int32 → Nat → List Value → Prop} (h : ab_ps st f) : ∃ v i a r, st = .int v :: .int i :: .ref a :: r ∧ f v i a r := by
  unfold ab_ps at h
  split at h
  · exact ⟨_, _, _, _, rfl, h⟩
  · exact h.elim
theorem ab_pv_e {st : List Value} {f : Value → List Value → Prop} (h : ab_pv st f) : ∃ x r, st = x :: r ∧ f x r := by
  unfold ab_pv at h
  split at h
  · exact ⟨_, _, rfl, h⟩
  · exact h.elim
theorem ab_pw_e {st : List Value} {f : Value → Value → List Value → Prop} (h : ab_pw st f) : ∃ x y r, st = x :: y :: r ∧ f x y r := by
  unfold ab_pw at h
  split at h
  · exact ⟨_, _, _, rfl, h⟩
  · exact h.elim
theorem ab_li_e {ls : List Value} {k : Nat} {f : Int32 → Prop} (h : ab_li ls k f) : ∃ x, ls[k]? = some (.int x) ∧ f x := by
  unfold ab_li at h
  split at h
  · next x e => exact ⟨x, e, h⟩
  · exact h.elim
theorem ab_lr_e {ls : List Value} {k : Nat} {f : Nat → Prop} (h : ab_lr ls k f) : ∃ x, ls[k]? = some (.ref x) ∧ f x := by
  unfold ab_lr at h
  split at h
  · next x e => exact ⟨x, e, h⟩
  · exact h.elim
theorem ab_li_i {ls : List Value} {k : Nat} {f : Int32 → Prop} {x : Int32} (e : ls[k]? = some (.int x)) : ab_li ls k f = f x := by
  unfold ab_li
  rw [e]
theorem ab_lr_i {ls : List Value} {k : Nat} {f : Nat → Prop} {x : Nat} (e : ls[k]? = some (.ref x)) : ab_lr ls k f = f x := by
  unfold ab_lr
  rw [e]
def ab_jp (J K : ab_J) (pc : Nat) (off : Int) (μ : ab_M) (ls st : List Value) : Prop := match off with
  | .ofNat a => K (pc + a) μ ls st
  | .negSucc a => if a + 1 ≤ pc then J (pc - (a + 1)) μ ls st else False
theorem ab_jp_e {J : ab_J} {pc : Nat} {off : Int} {μ : ab_M} {ls st : List Value} (h : ab_jp J J pc off μ ls st) : ∃ tgt : Nat, (pc : Int) + off = (tgt : Int) ∧ J tgt μ ls st := by
  cases off with
  | ofNat a => exact ⟨pc + a, by simp, h⟩
  | negSucc a =>
    unfold ab_jp at h
    dsimp only at h
    split at h
    · next hl => exact ⟨pc - (a + 1), by omega, h⟩
    · exact h.elim
theorem ab_jp_m {J K K' : ab_J} (hK : ∀ pc μ ls st, K pc μ ls st → K' pc μ ls st) (hJ : ∀ pc μ ls st, J pc μ ls st → K' pc μ ls st) {pc : Nat} {off : Int} {μ : ab_M} {ls st : List Value} (h : ab_jp J K pc off μ ls st) : ab_jp K' K' pc off μ ls st := by
  cases off with
  | ofNat a => exact hK _ _ _ _ h
  | negSucc a =>
    unfold ab_jp at h ⊢
    dsimp only at h ⊢
    split at h
    · next hl => rw [if_pos hl]; exact hJ _ _ _ _ h
    · exact h.elim
def ab_c1 (op : ClassFile.Cond) (x : Int32) : Prop := match op with
  | .eq => x = 0
  | .ne => ¬ x = 0
  | .lt => x < 0
  | .ge => 0 ≤ x
  | .gt => 0 < x
  | .le => x ≤ 0
def ab_c2 (op : ClassFile.Cond) (x y : Int32) : Prop := match op with
  | .eq => x = y
  | .ne => ¬ x = y
  | .lt => x < y
  | .ge => y ≤ x
  | .gt => y < x
  | .le => x ≤ y
def ab_ok1 (v : Value) : Bool := match v with
  | .int _ => true
  | .ref _ => true
  | _ => false
def ab_ob (a ci : Nat) : Prop := a < 81 ∧ ab_oc a = ci
def ab_hd (as : List Value) (ci : Nat) : Prop := match as with
  | .ref a :: _ => ab_ob a ci
  | _ => False
def ab_pu (r : Option Int32) (st : List Value) : List Value := match r with
  | some v => .int v :: st
  | none => st
/-- a call: the callee's arguments are on the stack -/
def ab_ca (cl : ab_CL) (t : Nat) (V : Bool) (K : ab_J) (pc : Nat) (μ : ab_M) (ls st : List Value) : Prop :=
  ab_n t ≤ st.length ∧ ((st.take (ab_n t)).reverse.all ab_ok1) = true ∧ (V = true → ab_hd (st.take (ab_n t)).reverse (ab_o t)) ∧ (st.drop (ab_n t)).length ≤ 4 ∧ cl t (st.take (ab_n t)).reverse μ (fun r μ' => K (pc + 3) μ' ls (ab_pu r (st.drop (ab_n t))))
/-- java.lang.Math's abs, max, min -/
def ab_mf (f : Nat) (K : ab_J) (pc : Nat) (μ : ab_M) (ls st : List Value) : Prop := match f with
  | 0 => ab_p1 st fun x r => r.length ≤ 4 ∧ K (pc + 3) μ ls (.int (if 0 ≤ x then x else 0 - x) :: r)
  | 1 => ab_p2 st fun x y r => r.length ≤ 4 ∧ K (pc + 3) μ ls (.int (if x < y then y else x) :: r)
  | 2 => ab_p2 st fun x y r => r.length ≤ 4 ∧ K (pc + 3) μ ls (.int (if y < x then y else x) :: r)
  | _ => False
theorem ab_mf_m {f : Nat} {K K' : ab_J} (hK : ∀ pc μ ls st, K pc μ ls st → K' pc μ ls st) {pc : Nat} {μ : ab_M} {ls st : List Value} (h : ab_mf f K pc μ ls st) : ab_mf f K' pc μ ls st := by
  match f, h with
  | 0, h => obtain ⟨x, r, rfl, h⟩ := ab_p1_e h; exact ⟨h.1, hK _ _ _ _ h.2⟩
  | 1, h => obtain ⟨x, y, r, rfl, h⟩ := ab_p2_e h; exact ⟨h.1, hK _ _ _ _ h.2⟩
  | 2, h => obtain ⟨x, y, r, rfl, h⟩ := ab_p2_e h; exact ⟨h.1, hK _ _ _ _ h.2⟩
  | n + 3, h => exact h.elim
def ab_ex (cl : ab_CL) (o : Nat) (rb : Nat) (J K : ab_J) (Q : ab_Q) (i : Instr) (n pc : Nat) (μ : ab_M) (ls st : List Value) : Prop := match i with
  | .iconst z => n = 1 ∧ K (pc + 1) μ ls (.int (Int32.ofInt z) :: st)
  | .bipush z => n = 2 ∧ K (pc + 2) μ ls (.int (Int8.ofInt z).toInt32 :: st)
  | .sipush z => n = 3 ∧ K (pc + 3) μ ls (.int (Int16.ofInt z).toInt32 :: st)
  | .iload_n k => ab_li ls k.val fun x => n = 1 ∧ K (pc + 1) μ ls (.int x :: st)
  | .iload k => ab_li ls k fun x => n = 2 ∧ K (pc + 2) μ ls (.int x :: st)
  | .aload_n k => ab_lr ls k.val fun x => n = 1 ∧ K (pc + 1) μ ls (.ref x :: st)
  | .aload k => ab_lr ls k fun x => n = 2 ∧ K (pc + 2) μ ls (.ref x :: st)
  | .istore_n k => ab_p1 st fun x r => n = 1 ∧ k.val < ls.length ∧ K (pc + 1) μ (ls.set k.val (.int x)) r
  | .istore k => ab_p1 st fun x r => n = 2 ∧ k < ls.length ∧ K (pc + 2) μ (ls.set k (.int x)) r
  | .astore_n k => ab_pr st fun x r => n = 1 ∧ k.val < ls.length ∧ K (pc + 1) μ (ls.set k.val (.ref x)) r
  | .astore k => ab_pr st fun x r => n = 2 ∧ k < ls.length ∧ K (pc + 2) μ (ls.set k (.ref x)) r
  | .iinc k z => ab_li ls k fun x => n = 3 ∧ k < ls.length ∧ K (pc + 3) μ (ls.set k (.int (x + Int32.ofInt z))) st
  | .iadd => ab_p2 st fun x y r => n = 1 ∧ K (pc + 1) μ ls (.int (x + y) :: r)
  | .isub => ab_p2 st fun x y r => n = 1 ∧ K (pc + 1) μ ls (.int (x - y) :: r)
  | .imul => ab_p2 st fun x y r => n = 1 ∧ K (pc + 1) μ ls (.int (x * y) :: r)
  | .iand => ab_p2 st fun x y r => n = 1 ∧ K (pc + 1) μ ls (.int (x &&& y) :: r)
  | .ior => ab_p2 st fun x y r => n = 1 ∧ K (pc + 1) μ ls (.int (x ||| y) :: r)
  | .ishl => ab_p2 st fun x y r => n = 1 ∧ K (pc + 1) μ ls (.int (x <<< (y &&& 31)) :: r)
  | .idiv => ab_p2 st fun x y r => n = 1 ∧ (¬ y = 0) ∧ K (pc + 1) μ ls (.int (x / y) :: r)
  | .irem => ab_p2 st fun x y r => n = 1 ∧ (¬ y = 0) ∧ K (pc + 1) μ ls (.int (x - x / y * y) :: r)
  | .ineg => ab_p1 st fun x r => n = 1 ∧ K (pc + 1) μ ls (.int (-x) :: r)
  | .dup => ab_pv st fun v r => n = 1 ∧ ab_ok1 v = true ∧ K (pc + 1) μ ls (v :: v :: r)
  | .dup2 => ab_pw st fun v w r => n = 1 ∧ ab_ok1 v = true ∧ ab_ok1 w = true ∧ K (pc + 1) μ ls (v :: w :: v :: w :: r)
  | .ifCond op off => ab_p1 st fun x r => n = 3 ∧ (ab_c1 op x → ab_jp J K pc off μ ls r) ∧ (¬ ab_c1 op x → K (pc + 3) μ ls r)
  | .if_icmp op off => ab_p2 st fun x y r => n = 3 ∧ (ab_c2 op x y → ab_jp J K pc off μ ls r) ∧ (¬ ab_c2 op x y → K (pc + 3) μ ls r)
  | .goto off => n = 3 ∧ ab_jp J K pc off μ ls st
  | .tableswitch df lo hi offs => ab_p1 st fun x r => ((x.toInt < lo ∨ hi < x.toInt) → ab_jp J K pc df μ ls r) ∧ (¬ (x.toInt < lo ∨ hi < x.toInt) → ∃ off, offs[(x.toInt - lo).toNat]? = some off ∧ ab_jp J K pc off μ ls r)
  | .getfield idx => ab_pr st fun a r => n = 3 ∧ ∃ q, ab_ft o idx = some q ∧ ab_ob a q.1 ∧ K (pc + 3) μ ls (ab_fv μ a q.2 :: r)
  | .putfield idx => ab_pi st fun v a r => n = 3 ∧ ∃ q, ab_ft o idx = some q ∧ ab_ob a q.1 ∧ ab_rf a q.2 = none ∧ K (pc + 3) (ab_up μ (ab_cmp a) (ab_off a + q.2) v) ls r
  | .iaload => ab_pi st fun i a r => n = 1 ∧ (a < 81 ∧ ab_ak a = 0) ∧ vp_in i (ab_al a) ∧ K (pc + 1) μ ls (.int (μ (ab_cmp a) (ab_off a + i.toNatClampNeg)) :: r)
  | .baload => ab_pi st fun i a r => n = 1 ∧ (a < 81 ∧ ab_ak a = 1) ∧ vp_in i (ab_al a) ∧ K (pc + 1) μ ls (.int (μ (ab_cmp a) (ab_off a + i.toNatClampNeg)) :: r)
  | .iastore => ab_ps st fun v i a r => n = 1 ∧ (a < 81 ∧ ab_ak a = 0) ∧ vp_in i (ab_al a) ∧ K (pc + 1) (ab_up μ (ab_cmp a) (ab_off a + i.toNatClampNeg) v) ls r
  | .bastore => ab_ps st fun v i a r => n = 1 ∧ (a < 81 ∧ ab_ak a = 1) ∧ vp_in i (ab_al a) ∧ (v = 0 ∨ v = 1) ∧ K (pc + 1) (ab_up μ (ab_cmp a) (ab_off a + i.toNatClampNeg) v) ls r
  | .aaload => ab_pi st fun i a r => n = 1 ∧ a = 1 ∧ vp_in i 12 ∧ K (pc + 1) μ ls (.ref (17 + 4 * i.toNatClampNeg) :: r)
  | .ireturn => n = 1 ∧ ∃ v, st = [.int v] ∧ (rb = 1 ∨ (rb = 2 ∧ (v = 0 ∨ v = 1))) ∧ Q (some v) μ
  | .return_ => n = 1 ∧ st = [] ∧ rb = 0 ∧ Q none μ
  | .invokevirtual idx => n = 3 ∧ ∃ t, ab_mt ab_cV o idx = some t ∧ ab_ca cl t true K pc μ ls st
  | .invokestatic idx => n = 3 ∧ ∃ q, ab_sc o idx = some q ∧ (if q.1 = 2 then ab_mf q.2 K pc μ ls st else ab_ca cl q.2 false K pc μ ls st)
  | _ => False
def ab_st (cl : ab_CL) (t : Nat) (J K : ab_J) (Q : ab_Q) : ab_J := fun pc μ ls st => ∃ i n, decode (ab_c t) pc = .ok (i, n) ∧ ab_ex cl (ab_o t) (ab_b t) J K Q i n pc μ ls st
def ab_rn (cl : ab_CL) (t : Nat) (J : ab_J) (Q : ab_Q) : Nat → ab_J
  | 0 => J
  | k + 1 => ab_st cl t J (ab_rn cl t J Q k) Q
def ab_Cl : Nat → ab_CL
  | 0 => fun _ _ _ _ => False
  | d + 1 => fun t as μ Q => ∀ J : ab_J, (∀ pc μ ls st, ab_st (ab_Cl d) t J J Q pc μ ls st → J pc μ ls st) → J 0 μ (as ++ List.replicate (ab_L t - as.length) .null) []
def ab_mono (cl : ab_CL) : Prop := ∀ t as μ Q Q', (∀ r μ', Q r μ' → Q' r μ') → cl t as μ Q → cl t as μ Q'
theorem ab_ca_m {cl : ab_CL} (hc : ab_mono cl) {t : Nat} {V : Bool} {K K' : ab_J} (hK : ∀ pc μ ls st, K pc μ ls st → K' pc μ ls st) {pc : Nat} {μ : ab_M} {ls st : List Value} (h : ab_ca cl t V K pc μ ls st) : ab_ca cl t V K' pc μ ls st := by
  obtain ⟨h1, h2, h3, h4, h5⟩ := h
  exact ⟨h1, h2, h3, h4, hc _ _ _ _ _ (fun r μ' q => hK _ _ _ _ q) h5⟩
theorem ab_ex_m {cl : ab_CL} (hc : ab_mono cl) {o : Nat} {rb : Nat} {J K K' : ab_J} {Q Q' : ab_Q} (hK : ∀ pc μ ls st, K pc μ ls st → K' pc μ ls st) (hJ : ∀ pc μ ls st, J pc μ ls st → K' pc μ ls st) (hQ : ∀ r μ', Q r μ' → Q' r μ') {i : Instr} {n pc : Nat} {μ : ab_M} {ls st : List Value} (h : ab_ex cl o rb J K Q i n pc μ ls st) : ab_ex cl o rb K' K' Q' i n pc μ ls st := by
  cases i
  case iconst z => exact ⟨h.1, hK _ _ _ _ h.2⟩
  case bipush z => exact ⟨h.1, hK _ _ _ _ h.2⟩
  case sipush z => exact ⟨h.1, hK _ _ _ _ h.2⟩
  case iload_n k => obtain ⟨x, e, h⟩ := ab_li_e h; exact (ab_li_i e).mpr ⟨h.1, hK _ _ _ _ h.2⟩
  case iload k => obtain ⟨x, e, h⟩ := ab_li_e h; exact (ab_li_i e).mpr ⟨h.1, hK _ _ _ _ h.2⟩
  case aload_n k => obtain ⟨x, e, h⟩ := ab_lr_e h; exact (ab_lr_i e).mpr ⟨h.1, hK _ _ _ _ h.2⟩
  case aload k => obtain ⟨x, e, h⟩ := ab_lr_e h; exact (ab_lr_i e).mpr ⟨h.1, hK _ _ _ _ h.2⟩
  case istore_n k => obtain ⟨x, r, rfl, h⟩ := ab_p1_e h; exact ⟨h.1, h.2.1, hK _ _ _ _ h.2.2⟩
  case istore k => obtain ⟨x, r, rfl, h⟩ := ab_p1_e h; exact ⟨h.1, h.2.1, hK _ _ _ _ h.2.2⟩
  case astore_n k => obtain ⟨x, r, rfl, h⟩ := ab_pr_e h; exact ⟨h.1, h.2.1, hK _ _ _ _ h.2.2⟩
  case astore k => obtain ⟨x, r, rfl, h⟩ := ab_pr_e h; exact ⟨h.1, h.2.1, hK _ _ _ _ h.2.2⟩
  case iinc k z => obtain ⟨x, e, h⟩ := ab_li_e h; exact (ab_li_i e).mpr ⟨h.1, h.2.1, hK _ _ _ _ h.2.2⟩
  case iadd => obtain ⟨x, y, r, rfl, h⟩ := ab_p2_e h; exact ⟨h.1, hK _ _ _ _ h.2⟩
  case isub => obtain ⟨x, y, r, rfl, h⟩ := ab_p2_e h; exact ⟨h.1, hK _ _ _ _ h.2⟩
  case imul => obtain ⟨x, y, r, rfl, h⟩ := ab_p2_e h; exact ⟨h.1, hK _ _ _ _ h.2⟩
  case iand => obtain ⟨x, y, r, rfl, h⟩ := ab_p2_e h; exact ⟨h.1, hK _ _ _ _ h.2⟩
  case ior => obtain ⟨x, y, r, rfl, h⟩ := ab_p2_e h; exact ⟨h.1, hK _ _ _ _ h.2⟩
  case ishl => obtain ⟨x, y, r, rfl, h⟩ := ab_p2_e h; exact ⟨h.1, hK _ _ _ _ h.2⟩
  case idiv => obtain ⟨x, y, r, rfl, h⟩ := ab_p2_e h; exact ⟨h.1, h.2.1, hK _ _ _ _ h.2.2⟩
  case irem => obtain ⟨x, y, r, rfl, h⟩ := ab_p2_e h; exact ⟨h.1, h.2.1, hK _ _ _ _ h.2.2⟩
  case ineg => obtain ⟨x, r, rfl, h⟩ := ab_p1_e h; exact ⟨h.1, hK _ _ _ _ h.2⟩
  case dup => obtain ⟨x, r, rfl, h⟩ := ab_pv_e h; exact ⟨h.1, h.2.1, hK _ _ _ _ h.2.2⟩
  case dup2 => obtain ⟨x, y, r, rfl, h⟩ := ab_pw_e h; exact ⟨h.1, h.2.1, h.2.2.1, hK _ _ _ _ h.2.2.2⟩
  case ifCond op off => obtain ⟨x, r, rfl, h⟩ := ab_p1_e h; exact ⟨h.1, fun q => ab_jp_m hK hJ (h.2.1 q), fun q => hK _ _ _ _ (h.2.2 q)⟩
  case if_icmp op off => obtain ⟨x, y, r, rfl, h⟩ := ab_p2_e h; exact ⟨h.1, fun q => ab_jp_m hK hJ (h.2.1 q), fun q => hK _ _ _ _ (h.2.2 q)⟩
  case goto off => exact ⟨h.1, ab_jp_m hK hJ h.2⟩
  case tableswitch df lo hi offs => obtain ⟨x, r, rfl, h⟩ := ab_p1_e h; exact ⟨fun q => ab_jp_m hK hJ (h.1 q), fun q => by obtain ⟨off, e, h⟩ := h.2 q; exact ⟨off, e, ab_jp_m hK hJ h⟩⟩
  case getfield idx => obtain ⟨a, r, rfl, h1, q, h2, h3, h4⟩ := ab_pr_e h; exact ⟨h1, q, h2, h3, hK _ _ _ _ h4⟩
  case putfield idx => obtain ⟨v, a, r, rfl, h1, q, h2, h3, h4, h5⟩ := ab_pi_e h; exact ⟨h1, q, h2, h3, h4, hK _ _ _ _ h5⟩
  case iaload => obtain ⟨i, a, r, rfl, h1, h2, h3, h4⟩ := ab_pi_e h; exact ⟨h1, h2, h3, hK _ _ _ _ h4⟩
  case baload => obtain ⟨i, a, r, rfl, h1, h2, h3, h4⟩ := ab_pi_e h; exact ⟨h1, h2, h3, hK _ _ _ _ h4⟩
  case iastore => obtain ⟨v, i, a, r, rfl, h1, h2, h3, h4⟩ := ab_ps_e h; exact ⟨h1, h2, h3, hK _ _ _ _ h4⟩
  case bastore => obtain ⟨v, i, a, r, rfl, h1, h2, h3, h4, h5⟩ := ab_ps_e h; exact ⟨h1, h2, h3, h4, hK _ _ _ _ h5⟩
  case aaload => obtain ⟨i, a, r, rfl, h1, h2, h3, h4⟩ := ab_pi_e h; exact ⟨h1, h2, h3, hK _ _ _ _ h4⟩
  case ireturn => obtain ⟨h1, v, h2, h3, h4⟩ := h; exact ⟨h1, v, h2, h3, hQ _ _ h4⟩
  case return_ => exact ⟨h.1, h.2.1, h.2.2.1, hQ _ _ h.2.2.2⟩
  case invokevirtual idx => obtain ⟨h1, t, h2, h3⟩ := h; exact ⟨h1, t, h2, ab_ca_m hc hK h3⟩
  case invokestatic idx =>
    obtain ⟨h1, q, h2, h3⟩ := h
    refine ⟨h1, q, h2, ?_⟩
    split at h3
    · next e => rw [if_pos e]; exact ab_mf_m hK h3
    · next e => rw [if_neg e]; exact ab_ca_m hc hK h3
  all_goals exact h
theorem ab_Cl_m : ∀ d, ab_mono (ab_Cl d)
  | 0 => fun _ _ _ _ _ _ h => h
  | d + 1 => fun t as μ Q Q' hQ h J hJ => h J (fun pc μ ls st ⟨i, n, h1, h2⟩ => hJ pc μ ls st ⟨i, n, h1, ab_ex_m (ab_Cl_m d) (fun _ _ _ _ q => q) (fun _ _ _ _ q => q) hQ h2⟩)
theorem ab_run {cl : ab_CL} (hc : ab_mono cl) {t : Nat} {J : ab_J} {Q : ab_Q} (hJ : ∀ pc μ ls st, ab_st cl t J J Q pc μ ls st → J pc μ ls st) : ∀ k pc μ ls st, ab_rn cl t J Q k pc μ ls st → J pc μ ls st
  | 0 => fun _ _ _ _ h => h
  | k + 1 => fun pc μ ls st ⟨i, n, h1, h2⟩ => hJ pc μ ls st ⟨i, n, h1, ab_ex_m hc (ab_run hc hJ k) (fun _ _ _ _ q => q) (fun _ _ q => q) h2⟩
theorem ab_go {d t : Nat} {as : List Value} {μ : ab_M} {Q : ab_Q} (h : ∀ J : ab_J, (∀ k pc μ ls st, ab_rn (ab_Cl d) t J Q k pc μ ls st → J pc μ ls st) → J 0 μ (as ++ List.replicate (ab_L t - as.length) .null) []) : ab_Cl (d + 1) t as μ Q :=
  fun J hJ => h J (ab_run (ab_Cl_m d) hJ)
