/-! what the constructors need: the classes of arrays, and a made object's cells beside the rest -/
theorem mk_cls {args : Array Value} {s : State} {t : FieldType} (ht : t = .int ∨ t = .boolean) (h : (Cond.arrayClass t).before args s = true) : ∃ cA : ClassId, ArrOfT s cA t ∧ va_RA s cA t := by
  have key : ∃ (cA : ClassId) (kA : Class) (comp : ClassId), s.vm.findClass ("[" ++ t.toString) = some cA ∧ s.vm.classes[cA]? = some kA ∧ kA.kind = .array comp t := by
    simp only [Cond.before, Cond.holds, Cond.value, beq_iff_eq] at h
    cases hc : s.vm.findClass ("[" ++ t.toString) with
    | none => rw [hc] at h; simp at h
    | some cA =>
      rw [hc] at h
      simp only [Option.bind_some] at h
      cases hk : s.vm.classes[cA]? with
      | none => rw [hk] at h; simp at h
      | some kA =>
        rw [hk] at h
        simp only [Option.map_some, Option.some.injEq] at h
        cases hkd : kA.kind with
        | array comp ty =>
          rw [hkd] at h
          have : ty = t := by simpa using h
          subst this
          exact ⟨cA, kA, comp, rfl, hk, hkd⟩
        | _ => rw [hkd] at h; simp at h
  obtain ⟨cA, kA, comp, h1, h2, h3⟩ := key
  refine ⟨cA, fun N z => ⟨(fun k h => by cases h), kA, h2, comp, h3⟩, ?_⟩
  rcases ht with rfl | rfl
  · exact h1
  · exact h1
theorem mk_obj {C : String} {s : State} (h : va_AO C s) : ∃ cA : ClassId, ArrOfT s cA (.object C) ∧ va_RA s cA (.object C) := by
  obtain ⟨comp, c, k, h1, h2, h3, h4, h5⟩ := Cond.arrayOver_spec h
  exact ⟨c, fun N z => ⟨(fun k h => by cases h), k, h3, comp, h4⟩, k, comp, h3, h4, h1, h5⟩
theorem mk_un {D : va_G} {cl : List vw_C} {tys : List (ClassId × FieldType)} {cA cB : ClassId} {t : FieldType} {U : State} (i : Nat) (hi : tys[i]? = some (cB, t)) (h : va_K D cl (tys ++ [(cA, t)]) U) : cA = cB := by
  have h1 := (h.2 i (cB, t) (by rw [List.getElem?_append_left (List.getElem?_eq_some_iff.mp hi).1]; exact hi)).2
  have h2 := (h.2 tys.length (cA, t) (by simp)).2
  cases t with
  | object C =>
    obtain ⟨-, -, -, -, -, e1⟩ := h1
    obtain ⟨-, -, -, -, -, e2⟩ := h2
    exact Option.some.inj (e2.symm.trans e1)
  | _ => exact Option.some.inj (h2.symm.trans h1)
theorem mk_jn {A : Nat → Prop} {D : va_G} {cl : List vw_C} {ws w1 : va_W} {x : Nat × va_E} {H H1 : Heap} (hP : va_P D cl (ws ++ [x]) H) (hD : va_D A (ws ++ [x])) (hk : ∀ q : Nat, q < H.size → ¬ va_A [x] H.size q → H1[q]? = H[q]?) (hF : ∀ q, va_A [x] H.size q → A q) (hP1 : va_P D cl w1 H1) (hD1 : va_D (va_A [x] H.size) w1) : va_P D cl (ws ++ w1) H1 ∧ va_D A (ws ++ w1) := by
  have inl : ∀ (k : Nat) (q : Nat × va_E), ws[k]? = some q → (ws ++ [x])[k]? = some q := fun k q h => by rw [List.getElem?_append_left (List.getElem?_eq_some_iff.mp h).1]; exact h
  have apart : ∀ (k : Nat) (q : Nat × va_E), ws[k]? = some q → q.1 < H.size ∧ ¬ va_A [x] H.size q.1 := by
    intro k q hq
    have hl := (hP k q (inl k q hq)).lt
    refine ⟨hl, fun h => ?_⟩
    rcases h with ⟨k2, e, h⟩ | h
    · have hk2 : k2 = 0 := by have := (List.getElem?_eq_some_iff.mp h).1; simp at this; exact this
      subst hk2
      have hx : x = (q.1, e) := by simpa using h
      have := hD.1 k ws.length q x (inl k q hq) (by simp) (by rw [hx])
      have := (List.getElem?_eq_some_iff.mp hq).1
      omega
    · omega
  refine ⟨va_P.app (fun k q hq => ?_) hP1, va_D.app ⟨fun i j p q h1 h2 h3 => hD.1 i j p q (inl i p h1) (inl j q h2) h3, fun k q h => hD.2 k q (inl k q h)⟩ (hD1.weaken (fun k q _ h => hF q.1 h)) (fun i j y z hy hz hyz => ?_)⟩
  · obtain ⟨g1, g2⟩ := apart k q hq
    exact (hP k q (inl k q hq)).kept (hk q.1 g1 g2)
  · obtain ⟨g1, g2⟩ := apart i y hy
    exact g2 (by rw [hyz]; exact hD1.2 j z hz)
theorem mk_fr {A0 : Nat → Prop} {ws : va_W} {x : Nat × va_E} {H0 H : Heap} {locs : List Loc} (hD : va_D A0 (ws ++ [x])) (hS : va_S A0 H0 H locs) (hA : ∀ q, H0.size ≤ q → A0 q) : ∀ q, va_A [x] H.size q → A0 q := by
  intro q h
  rcases h with ⟨k, e, h⟩ | h
  · have hk2 : k = 0 := by have := (List.getElem?_eq_some_iff.mp h).1; simp at this; exact this
    subst hk2
    have hx : x = (q, e) := by simpa using h
    have := hD.2 ws.length x (by simp)
    rw [hx] at this
    exact this
  · exact hA q (Nat.le_trans hS.1 h)
theorem mk_pc {D : va_G} {cl : List vw_C} {ws : va_W} {x : Nat × va_E} {H : Heap} (hP : va_P D cl (ws ++ [x]) H) : va_P D cl [x] H := by
  intro k q h
  have hk2 : k = 0 := by have := (List.getElem?_eq_some_iff.mp h).1; simp at this; exact this
  subst hk2
  have hx : x = q := by simpa using h
  subst hx
  exact hP ws.length x (by simp)
theorem mk_dc {x : Nat × va_E} : va_D (fun _ => True) [x] := by
  refine ⟨fun i j p q h1 h2 _ => ?_, fun _ _ _ => trivial⟩
  have a := (List.getElem?_eq_some_iff.mp h1).1
  have b := (List.getElem?_eq_some_iff.mp h2).1
  simp at a b
  omega
theorem mk_in {y : MethodName} {cc : ByteArray} {n : Nat} {r : Option FieldType} {z : Cond} (h : Cond.code y cc n r ∈ ab_gt) : GoodIn (z :: ab_gt) (.code y cc n r :: ab_gt) := by
  intro w hw
  have hm : w ∈ ab_gt := by
    rcases List.mem_cons.mp hw with rfl | hw
    · exact h
    · exact hw
  exact ⟨List.mem_cons_of_mem _ hm, ab_gt_good hm⟩
