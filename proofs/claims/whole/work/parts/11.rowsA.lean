theorem ab_tso {x lo hi : Int32} (h : x < lo ∨ hi < x) : x.toInt < lo.toInt ∨ hi.toInt < x.toInt := h.imp Int32.lt_iff_toInt_lt.mp Int32.lt_iff_toInt_lt.mp
section EV
variable {cl : ab_CL} {J : ab_J} {Q : ab_Q} {k : Nat} {μ : ab_M} {st : List Value} {x y v : Int32} {a a0 a1 a2 : Nat} {x0 x1 x2 x3 : Int32} {v0 v1 v2 v3 v4 v5 v6 v7 v8 v9 : Value}
theorem e0_0 : ab_rn cl 0 J Q (k + 1) 0 μ [.ref a] st = ab_rn cl 0 J Q k 1 μ [.ref a] (.ref a :: st) := x_aload_n dX0_number_0 rfl
theorem e0_1 : ab_rn cl 0 J Q (k + 1) 1 μ [v0] (.ref a :: st) = (ab_ob a 0 ∧ ab_rn cl 0 J Q k 4 μ [v0] (ab_fv μ a 3 :: st)) := x_get dX0_number_1 rfl
theorem e0_4 : ab_rn cl 0 J Q (k + 1) 4 μ [v0] [.int v] = Q (some v) μ := x_iret dX0_number_4 rfl
theorem n0 {d : Nat} (h : ∀ J : ab_J, (∀ k pc μ ls st, ab_rn (ab_Cl d) 0 J Q k pc μ ls st → J pc μ ls st) → J 0 μ [v0] []) : ab_Cl (d + 1) 0 [v0] μ Q := ab_go h
theorem e1_0 : ab_rn cl 1 J Q (k + 1) 0 μ [.ref a, v1] st = ab_rn cl 1 J Q k 1 μ [.ref a, v1] (.ref a :: st) := x_aload_n dX0_empty_0 rfl
theorem e1_1 : ab_rn cl 1 J Q (k + 1) 1 μ [v0, v1] (.ref a :: st) = (ab_ob a 0 ∧ ab_rn cl 1 J Q k 4 μ [v0, v1] (ab_fv μ a 3 :: st)) := x_get dX0_empty_1 rfl
theorem e1_4 : ab_rn cl 1 J Q (k + 1) 4 μ [v0, v1] (.int x :: st) = ab_rn cl 1 J Q k 5 μ [v0, .int x] st := x_istore_n dX0_empty_4 (Nat.le_of_ble_eq_true rfl) rfl
theorem e1_5 : ab_rn cl 1 J Q (k + 1) 5 μ [.ref a, v1] st = ab_rn cl 1 J Q k 6 μ [.ref a, v1] (.ref a :: st) := x_aload_n dX0_empty_5 rfl
theorem e1_6 : ab_rn cl 1 J Q (k + 1) 6 μ [v0, v1] st = ab_rn cl 1 J Q k 7 μ [v0, v1] (.int 0 :: st) := x_iconst dX0_empty_6 (by decide)
theorem e1_7 : ab_rn cl 1 J Q (k + 1) 7 μ [v0, v1] (.int v :: .ref a :: st) = (ab_ob a 0 ∧ ab_rf a 3 = none ∧ ab_rn cl 1 J Q k 10 (ab_up μ (ab_cmp a) (ab_off a + 3) v) [v0, v1] st) := x_put dX0_empty_7 rfl
theorem e1_10 : ab_rn cl 1 J Q (k + 1) 10 μ [v0, .int x] st = ab_rn cl 1 J Q k 11 μ [v0, .int x] (.int x :: st) := x_iload_n dX0_empty_10 rfl
theorem e1_11 : ab_rn cl 1 J Q (k + 1) 11 μ [v0, v1] [.int v] = Q (some v) μ := x_iret dX0_empty_11 rfl
theorem n1 {d : Nat} (h : ∀ J : ab_J, (∀ k pc μ ls st, ab_rn (ab_Cl d) 1 J Q k pc μ ls st → J pc μ ls st) → J 0 μ [v0, .null] []) : ab_Cl (d + 1) 1 [v0] μ Q := ab_go h
theorem e2_0 : ab_rn cl 2 J Q (k + 1) 0 μ [.ref a, v1, v2] st = ab_rn cl 2 J Q k 1 μ [.ref a, v1, v2] (.ref a :: st) := x_aload_n dX0_addBelow_0 rfl
theorem e2_1 : ab_rn cl 2 J Q (k + 1) 1 μ [v0, v1, v2] (.ref a :: st) = (ab_ob a 0 ∧ ab_rn cl 2 J Q k 4 μ [v0, v1, v2] (ab_fv μ a 3 :: st)) := x_get dX0_addBelow_1 rfl
theorem e2_4 : ab_rn cl 2 J Q (k + 1) 4 μ [v0, v1, v2] st = ab_rn cl 2 J Q k 6 μ [v0, v1, v2] (.int 6 :: st) := x_bipush dX0_addBelow_4 (by decide)
theorem e2_6 : ab_rn cl 2 J Q (k + 1) 6 μ [v0, v1, v2] (.int y :: .int x :: st) = (((y ≤ x) → ab_rn cl 2 J Q k 30 μ [v0, v1, v2] st) ∧ ((¬ (y ≤ x)) → ab_rn cl 2 J Q k 9 μ [v0, v1, v2] st)) := x_icmpF dX0_addBelow_6 rfl (fun _ _ _ _ _ => rfl)
theorem e2_9 : ab_rn cl 2 J Q (k + 1) 9 μ [v0, .int x, v2] st = ab_rn cl 2 J Q k 10 μ [v0, .int x, v2] (.int x :: st) := x_iload_n dX0_addBelow_9 rfl
theorem e2_10 : ab_rn cl 2 J Q (k + 1) 10 μ [v0, v1, v2] (.int x :: st) = (((x < 0) → ab_rn cl 2 J Q k 30 μ [v0, v1, v2] st) ∧ ((¬ (x < 0)) → ab_rn cl 2 J Q k 13 μ [v0, v1, v2] st)) := x_ifF dX0_addBelow_10 rfl (fun _ _ _ _ _ => rfl)
theorem e2_13 : ab_rn cl 2 J Q (k + 1) 13 μ [v0, .int x, v2] st = ab_rn cl 2 J Q k 14 μ [v0, .int x, v2] (.int x :: st) := x_iload_n dX0_addBelow_13 rfl
theorem e2_14 : ab_rn cl 2 J Q (k + 1) 14 μ [v0, v1, v2] st = ab_rn cl 2 J Q k 15 μ [v0, v1, v2] (.int 3 :: st) := x_iconst dX0_addBelow_14 (by decide)
theorem e2_15 : ab_rn cl 2 J Q (k + 1) 15 μ [v0, v1, v2] (.int y :: .int x :: st) = (((y < x) → ab_rn cl 2 J Q k 30 μ [v0, v1, v2] st) ∧ ((¬ (y < x)) → ab_rn cl 2 J Q k 18 μ [v0, v1, v2] st)) := x_icmpF dX0_addBelow_15 rfl (fun _ _ _ _ _ => rfl)
theorem e2_18 : ab_rn cl 2 J Q (k + 1) 18 μ [v0, v1, .int x] st = ab_rn cl 2 J Q k 19 μ [v0, v1, .int x] (.int x :: st) := x_iload_n dX0_addBelow_18 rfl
theorem e2_19 : ab_rn cl 2 J Q (k + 1) 19 μ [v0, v1, v2] st = ab_rn cl 2 J Q k 20 μ [v0, v1, v2] (.int 1 :: st) := x_iconst dX0_addBelow_19 (by decide)
theorem e2_20 : ab_rn cl 2 J Q (k + 1) 20 μ [v0, v1, v2] (.int y :: .int x :: st) = (((x < y) → ab_rn cl 2 J Q k 30 μ [v0, v1, v2] st) ∧ ((¬ (x < y)) → ab_rn cl 2 J Q k 23 μ [v0, v1, v2] st)) := x_icmpF dX0_addBelow_20 rfl (fun _ _ _ _ _ => rfl)
theorem e2_23 : ab_rn cl 2 J Q (k + 1) 23 μ [v0, v1, .int x] st = ab_rn cl 2 J Q k 24 μ [v0, v1, .int x] (.int x :: st) := x_iload_n dX0_addBelow_23 rfl
theorem e2_24 : ab_rn cl 2 J Q (k + 1) 24 μ [v0, v1, v2] st = ab_rn cl 2 J Q k 27 μ [v0, v1, v2] (.int 9999 :: st) := x_sipush dX0_addBelow_24 (by decide)
theorem e2_27 : ab_rn cl 2 J Q (k + 1) 27 μ [v0, v1, v2] (.int y :: .int x :: st) = (((x ≤ y) → ab_rn cl 2 J Q k 32 μ [v0, v1, v2] st) ∧ ((¬ (x ≤ y)) → ab_rn cl 2 J Q k 30 μ [v0, v1, v2] st)) := x_icmpF dX0_addBelow_27 rfl (fun _ _ _ _ _ => rfl)
theorem e2_30 : ab_rn cl 2 J Q (k + 1) 30 μ [v0, v1, v2] st = ab_rn cl 2 J Q k 31 μ [v0, v1, v2] (.int (-1) :: st) := x_iconst dX0_addBelow_30 (by decide)
theorem e2_31 : ab_rn cl 2 J Q (k + 1) 31 μ [v0, v1, v2] [.int v] = Q (some v) μ := x_iret dX0_addBelow_31 rfl
theorem e2_32 : ab_rn cl 2 J Q (k + 1) 32 μ [.ref a, v1, v2] st = ab_rn cl 2 J Q k 33 μ [.ref a, v1, v2] (.ref a :: st) := x_aload_n dX0_addBelow_32 rfl
theorem e2_33 : ab_rn cl 2 J Q (k + 1) 33 μ [v0, v1, v2] (.ref a :: st) = (ab_ob a 0 ∧ ab_rn cl 2 J Q k 36 μ [v0, v1, v2] (ab_fv μ a 0 :: st)) := x_get dX0_addBelow_33 rfl
theorem e2_36 : ab_rn cl 2 J Q (k + 1) 36 μ [.ref a, v1, v2] st = ab_rn cl 2 J Q k 37 μ [.ref a, v1, v2] (.ref a :: st) := x_aload_n dX0_addBelow_36 rfl
theorem e2_37 : ab_rn cl 2 J Q (k + 1) 37 μ [v0, v1, v2] (.ref a :: st) = (ab_ob a 0 ∧ ab_rn cl 2 J Q k 40 μ [v0, v1, v2] (ab_fv μ a 3 :: st)) := x_get dX0_addBelow_37 rfl
theorem e2_40 : ab_rn cl 2 J Q (k + 1) 40 μ [v0, .int x, v2] st = ab_rn cl 2 J Q k 41 μ [v0, .int x, v2] (.int x :: st) := x_iload_n dX0_addBelow_40 rfl
theorem e2_41 : ab_rn cl 2 J Q (k + 1) 41 μ [v0, v1, v2] (.int v :: .int x :: .ref a :: st) = ((a < 81 ∧ ab_ak a = 0) ∧ vp_in x (ab_al a) ∧ ab_rn cl 2 J Q k 42 (ab_up μ (ab_cmp a) (ab_off a + x.toNatClampNeg) v) [v0, v1, v2] st) := x_iastore dX0_addBelow_41
theorem e2_42 : ab_rn cl 2 J Q (k + 1) 42 μ [.ref a, v1, v2] st = ab_rn cl 2 J Q k 43 μ [.ref a, v1, v2] (.ref a :: st) := x_aload_n dX0_addBelow_42 rfl
theorem e2_43 : ab_rn cl 2 J Q (k + 1) 43 μ [v0, v1, v2] (.ref a :: st) = (ab_ob a 0 ∧ ab_rn cl 2 J Q k 46 μ [v0, v1, v2] (ab_fv μ a 1 :: st)) := x_get dX0_addBelow_43 rfl
theorem e2_46 : ab_rn cl 2 J Q (k + 1) 46 μ [.ref a, v1, v2] st = ab_rn cl 2 J Q k 47 μ [.ref a, v1, v2] (.ref a :: st) := x_aload_n dX0_addBelow_46 rfl
theorem e2_47 : ab_rn cl 2 J Q (k + 1) 47 μ [v0, v1, v2] (.ref a :: st) = (ab_ob a 0 ∧ ab_rn cl 2 J Q k 50 μ [v0, v1, v2] (ab_fv μ a 3 :: st)) := x_get dX0_addBelow_47 rfl
theorem e2_50 : ab_rn cl 2 J Q (k + 1) 50 μ [v0, v1, .int x] st = ab_rn cl 2 J Q k 51 μ [v0, v1, .int x] (.int x :: st) := x_iload_n dX0_addBelow_50 rfl
theorem e2_51 : ab_rn cl 2 J Q (k + 1) 51 μ [v0, v1, v2] (.int v :: .int x :: .ref a :: st) = ((a < 81 ∧ ab_ak a = 0) ∧ vp_in x (ab_al a) ∧ ab_rn cl 2 J Q k 52 (ab_up μ (ab_cmp a) (ab_off a + x.toNatClampNeg) v) [v0, v1, v2] st) := x_iastore dX0_addBelow_51
theorem e2_52 : ab_rn cl 2 J Q (k + 1) 52 μ [.ref a, v1, v2] st = ab_rn cl 2 J Q k 53 μ [.ref a, v1, v2] (.ref a :: st) := x_aload_n dX0_addBelow_52 rfl
theorem e2_53i : ab_rn cl 2 J Q (k + 1) 53 μ [v0, v1, v2] (.int x :: st) = ab_rn cl 2 J Q k 54 μ [v0, v1, v2] (.int x :: .int x :: st) := x_dupi dX0_addBelow_53
theorem e2_53r : ab_rn cl 2 J Q (k + 1) 53 μ [v0, v1, v2] (.ref a :: st) = ab_rn cl 2 J Q k 54 μ [v0, v1, v2] (.ref a :: .ref a :: st) := x_dupr dX0_addBelow_53
theorem e2_54 : ab_rn cl 2 J Q (k + 1) 54 μ [v0, v1, v2] (.ref a :: st) = (ab_ob a 0 ∧ ab_rn cl 2 J Q k 57 μ [v0, v1, v2] (ab_fv μ a 3 :: st)) := x_get dX0_addBelow_54 rfl
theorem e2_57 : ab_rn cl 2 J Q (k + 1) 57 μ [v0, v1, v2] st = ab_rn cl 2 J Q k 58 μ [v0, v1, v2] (.int 1 :: st) := x_iconst dX0_addBelow_57 (by decide)
theorem e2_58 : ab_rn cl 2 J Q (k + 1) 58 μ [v0, v1, v2] (.int y :: .int x :: st) = ab_rn cl 2 J Q k 59 μ [v0, v1, v2] (.int (x + y) :: st) := x_iadd dX0_addBelow_58
theorem e2_59 : ab_rn cl 2 J Q (k + 1) 59 μ [v0, v1, v2] (.int v :: .ref a :: st) = (ab_ob a 0 ∧ ab_rf a 3 = none ∧ ab_rn cl 2 J Q k 62 (ab_up μ (ab_cmp a) (ab_off a + 3) v) [v0, v1, v2] st) := x_put dX0_addBelow_59 rfl
theorem e2_62 : ab_rn cl 2 J Q (k + 1) 62 μ [.ref a, v1, v2] st = ab_rn cl 2 J Q k 63 μ [.ref a, v1, v2] (.ref a :: st) := x_aload_n dX0_addBelow_62 rfl
theorem e2_63 : ab_rn cl 2 J Q (k + 1) 63 μ [v0, v1, v2] (.ref a :: st) = (ab_ob a 0 ∧ ab_rn cl 2 J Q k 66 μ [v0, v1, v2] (ab_fv μ a 3 :: st)) := x_get dX0_addBelow_63 rfl
theorem e2_66 : ab_rn cl 2 J Q (k + 1) 66 μ [v0, v1, v2] [.int v] = Q (some v) μ := x_iret dX0_addBelow_66 rfl
theorem n2 {d : Nat} (h : ∀ J : ab_J, (∀ k pc μ ls st, ab_rn (ab_Cl d) 2 J Q k pc μ ls st → J pc μ ls st) → J 0 μ [v0, v1, v2] []) : ab_Cl (d + 1) 2 [v0, v1, v2] μ Q := ab_go h
theorem e3_0 : ab_rn cl 3 J Q (k + 1) 0 μ [v0, .ref a, v2, v3, v4, v5, v6, v7] st = ab_rn cl 3 J Q k 1 μ [v0, .ref a, v2, v3, v4, v5, v6, v7] (.ref a :: st) := x_aload_n dX0_costAgainst_0 rfl
theorem e3_1 : ab_rn cl 3 J Q (k + 1) 1 μ [v0, v1, v2, v3, v4, v5, v6, v7] (.ref a :: st) = (ab_ob a 2 ∧ st.length ≤ 4 ∧ cl 10 [.ref a] μ (fun r μ' => ab_rn cl 3 J Q k 4 μ' [v0, v1, v2, v3, v4, v5, v6, v7] (ab_pu r st))) := x_v (as := []) dX0_costAgainst_1 rfl rfl rfl rfl rfl
theorem e3_4 : ab_rn cl 3 J Q (k + 1) 4 μ [v0, v1, v2, v3, v4, v5, v6, v7] st = ab_rn cl 3 J Q k 6 μ [v0, v1, v2, v3, v4, v5, v6, v7] (.int 10 :: st) := x_bipush dX0_costAgainst_4 (by decide)
theorem e3_6 : ab_rn cl 3 J Q (k + 1) 6 μ [v0, v1, v2, v3, v4, v5, v6, v7] (.int y :: .int x :: st) = (st.length ≤ 4 ∧ ab_rn cl 3 J Q k 9 μ [v0, v1, v2, v3, v4, v5, v6, v7] (.int (if y < x then y else x) :: st)) := x_min dX0_costAgainst_6 rfl
theorem e3_9 : ab_rn cl 3 J Q (k + 1) 9 μ [v0, v1, v2, v3, v4, v5, v6, v7] (.int x :: st) = ab_rn cl 3 J Q k 10 μ [v0, v1, .int x, v3, v4, v5, v6, v7] st := x_istore_n dX0_costAgainst_9 (Nat.le_of_ble_eq_true rfl) rfl
theorem e3_10 : ab_rn cl 3 J Q (k + 1) 10 μ [v0, v1, v2, v3, v4, v5, v6, v7] st = ab_rn cl 3 J Q k 11 μ [v0, v1, v2, v3, v4, v5, v6, v7] (.int 0 :: st) := x_iconst dX0_costAgainst_10 (by decide)
theorem e3_11 : ab_rn cl 3 J Q (k + 1) 11 μ [v0, v1, v2, v3, v4, v5, v6, v7] (.int x :: st) = ab_rn cl 3 J Q k 12 μ [v0, v1, v2, .int x, v4, v5, v6, v7] st := x_istore_n dX0_costAgainst_11 (Nat.le_of_ble_eq_true rfl) rfl
theorem e3_12 : ab_rn cl 3 J Q (k + 1) 12 μ [v0, v1, v2, .int x, v4, v5, v6, v7] st = ab_rn cl 3 J Q k 13 μ [v0, v1, v2, .int x, v4, v5, v6, v7] (.int x :: st) := x_iload_n dX0_costAgainst_12 rfl
theorem e3_13 : ab_rn cl 3 J Q (k + 1) 13 μ [v0, v1, .int x, v3, v4, v5, v6, v7] st = ab_rn cl 3 J Q k 14 μ [v0, v1, .int x, v3, v4, v5, v6, v7] (.int x :: st) := x_iload_n dX0_costAgainst_13 rfl
theorem e3_14 : ab_rn cl 3 J Q (k + 1) 14 μ [v0, v1, v2, v3, v4, v5, v6, v7] (.int y :: .int x :: st) = (((y < x) → ab_rn cl 3 J Q k 33 μ [v0, v1, v2, v3, v4, v5, v6, v7] st) ∧ ((¬ (y < x)) → ab_rn cl 3 J Q k 17 μ [v0, v1, v2, v3, v4, v5, v6, v7] st)) := x_icmpF dX0_costAgainst_14 rfl (fun _ _ _ _ _ => rfl)
theorem e3_17 : ab_rn cl 3 J Q (k + 1) 17 μ [.ref a, v1, v2, v3, v4, v5, v6, v7] st = ab_rn cl 3 J Q k 18 μ [.ref a, v1, v2, v3, v4, v5, v6, v7] (.ref a :: st) := x_aload_n dX0_costAgainst_17 rfl
theorem e3_18 : ab_rn cl 3 J Q (k + 1) 18 μ [v0, v1, v2, v3, v4, v5, v6, v7] (.ref a :: st) = (ab_ob a 0 ∧ ab_rn cl 3 J Q k 21 μ [v0, v1, v2, v3, v4, v5, v6, v7] (ab_fv μ a 2 :: st)) := x_get dX0_costAgainst_18 rfl
theorem e3_21 : ab_rn cl 3 J Q (k + 1) 21 μ [v0, v1, v2, .int x, v4, v5, v6, v7] st = ab_rn cl 3 J Q k 22 μ [v0, v1, v2, .int x, v4, v5, v6, v7] (.int x :: st) := x_iload_n dX0_costAgainst_21 rfl
theorem e3_22 : ab_rn cl 3 J Q (k + 1) 22 μ [v0, v1, v2, v3, v4, v5, v6, v7] st = ab_rn cl 3 J Q k 24 μ [v0, v1, v2, v3, v4, v5, v6, v7] (.int 30 :: st) := x_bipush dX0_costAgainst_22 (by decide)
theorem e3_24 : ab_rn cl 3 J Q (k + 1) 24 μ [v0, v1, v2, .int x, v4, v5, v6, v7] st = ab_rn cl 3 J Q k 25 μ [v0, v1, v2, .int x, v4, v5, v6, v7] (.int x :: st) := x_iload_n dX0_costAgainst_24 rfl
theorem e3_25 : ab_rn cl 3 J Q (k + 1) 25 μ [v0, v1, v2, v3, v4, v5, v6, v7] (.int y :: .int x :: st) = ab_rn cl 3 J Q k 26 μ [v0, v1, v2, v3, v4, v5, v6, v7] (.int (x * y) :: st) := x_imul dX0_costAgainst_25
theorem e3_26 : ab_rn cl 3 J Q (k + 1) 26 μ [v0, v1, v2, v3, v4, v5, v6, v7] (.int v :: .int x :: .ref a :: st) = ((a < 81 ∧ ab_ak a = 0) ∧ vp_in x (ab_al a) ∧ ab_rn cl 3 J Q k 27 (ab_up μ (ab_cmp a) (ab_off a + x.toNatClampNeg) v) [v0, v1, v2, v3, v4, v5, v6, v7] st) := x_iastore dX0_costAgainst_26
theorem e3_27 : ab_rn cl 3 J Q (k + 1) 27 μ [v0, v1, v2, .int x, v4, v5, v6, v7] st = ab_rn cl 3 J Q k 30 μ [v0, v1, v2, .int (x + 1), v4, v5, v6, v7] st := x_iinc dX0_costAgainst_27 (w := 1) (by decide) rfl rfl
theorem e3_30 : ab_rn cl 3 J Q (k + 1) 30 μ [v0, v1, v2, v3, v4, v5, v6, v7] st = J 12 μ [v0, v1, v2, v3, v4, v5, v6, v7] st := x_gotoB dX0_costAgainst_30 (fun _ _ _ _ _ => rfl)
theorem e3_33 : ab_rn cl 3 J Q (k + 1) 33 μ [v0, v1, v2, v3, v4, v5, v6, v7] st = ab_rn cl 3 J Q k 34 μ [v0, v1, v2, v3, v4, v5, v6, v7] (.int 0 :: st) := x_iconst dX0_costAgainst_33 (by decide)
theorem e3_34 : ab_rn cl 3 J Q (k + 1) 34 μ [v0, v1, v2, v3, v4, v5, v6, v7] (.int x :: st) = ab_rn cl 3 J Q k 35 μ [v0, v1, v2, .int x, v4, v5, v6, v7] st := x_istore_n dX0_costAgainst_34 (Nat.le_of_ble_eq_true rfl) rfl
theorem e3_35 : ab_rn cl 3 J Q (k + 1) 35 μ [v0, v1, v2, .int x, v4, v5, v6, v7] st = ab_rn cl 3 J Q k 36 μ [v0, v1, v2, .int x, v4, v5, v6, v7] (.int x :: st) := x_iload_n dX0_costAgainst_35 rfl
theorem e3_36 : ab_rn cl 3 J Q (k + 1) 36 μ [.ref a, v1, v2, v3, v4, v5, v6, v7] st = ab_rn cl 3 J Q k 37 μ [.ref a, v1, v2, v3, v4, v5, v6, v7] (.ref a :: st) := x_aload_n dX0_costAgainst_36 rfl
theorem e3_37 : ab_rn cl 3 J Q (k + 1) 37 μ [v0, v1, v2, v3, v4, v5, v6, v7] (.ref a :: st) = (ab_ob a 0 ∧ ab_rn cl 3 J Q k 40 μ [v0, v1, v2, v3, v4, v5, v6, v7] (ab_fv μ a 3 :: st)) := x_get dX0_costAgainst_37 rfl
theorem e3_40 : ab_rn cl 3 J Q (k + 1) 40 μ [v0, v1, v2, v3, v4, v5, v6, v7] (.int y :: .int x :: st) = (((y ≤ x) → ab_rn cl 3 J Q k 145 μ [v0, v1, v2, v3, v4, v5, v6, v7] st) ∧ ((¬ (y ≤ x)) → ab_rn cl 3 J Q k 43 μ [v0, v1, v2, v3, v4, v5, v6, v7] st)) := x_icmpF dX0_costAgainst_40 rfl (fun _ _ _ _ _ => rfl)
theorem e3_43 : ab_rn cl 3 J Q (k + 1) 43 μ [.ref a, v1, v2, v3, v4, v5, v6, v7] st = ab_rn cl 3 J Q k 44 μ [.ref a, v1, v2, v3, v4, v5, v6, v7] (.ref a :: st) := x_aload_n dX0_costAgainst_43 rfl
theorem e3_44 : ab_rn cl 3 J Q (k + 1) 44 μ [v0, v1, v2, v3, v4, v5, v6, v7] (.ref a :: st) = (ab_ob a 0 ∧ ab_rn cl 3 J Q k 47 μ [v0, v1, v2, v3, v4, v5, v6, v7] (ab_fv μ a 2 :: st)) := x_get dX0_costAgainst_44 rfl
theorem e3_47 : ab_rn cl 3 J Q (k + 1) 47 μ [v0, v1, v2, v3, v4, v5, v6, v7] st = ab_rn cl 3 J Q k 48 μ [v0, v1, v2, v3, v4, v5, v6, v7] (.int 0 :: st) := x_iconst dX0_costAgainst_47 (by decide)
theorem e3_48 : ab_rn cl 3 J Q (k + 1) 48 μ [v0, v1, v2, v3, v4, v5, v6, v7] (.int x :: .ref a :: st) = ((a < 81 ∧ ab_ak a = 0) ∧ vp_in x (ab_al a) ∧ ab_rn cl 3 J Q k 49 μ [v0, v1, v2, v3, v4, v5, v6, v7] (.int (μ (ab_cmp a) (ab_off a + x.toNatClampNeg)) :: st)) := x_iaload dX0_costAgainst_48
theorem e3_49 : ab_rn cl 3 J Q (k + 1) 49 μ [v0, v1, v2, v3, v4, v5, v6, v7] (.int x :: st) = ab_rn cl 3 J Q k 51 μ [v0, v1, v2, v3, .int x, v5, v6, v7] st := x_istore dX0_costAgainst_49 (Nat.le_of_ble_eq_true rfl) rfl
theorem e3_51 : ab_rn cl 3 J Q (k + 1) 51 μ [.ref a, v1, v2, v3, v4, v5, v6, v7] st = ab_rn cl 3 J Q k 52 μ [.ref a, v1, v2, v3, v4, v5, v6, v7] (.ref a :: st) := x_aload_n dX0_costAgainst_51 rfl
theorem e3_52 : ab_rn cl 3 J Q (k + 1) 52 μ [v0, v1, v2, v3, v4, v5, v6, v7] (.ref a :: st) = (ab_ob a 0 ∧ ab_rn cl 3 J Q k 55 μ [v0, v1, v2, v3, v4, v5, v6, v7] (ab_fv μ a 2 :: st)) := x_get dX0_costAgainst_52 rfl
theorem e3_55 : ab_rn cl 3 J Q (k + 1) 55 μ [v0, v1, v2, v3, v4, v5, v6, v7] st = ab_rn cl 3 J Q k 56 μ [v0, v1, v2, v3, v4, v5, v6, v7] (.int 0 :: st) := x_iconst dX0_costAgainst_55 (by decide)
theorem e3_56 : ab_rn cl 3 J Q (k + 1) 56 μ [v0, v1, v2, v3, v4, v5, v6, v7] (.int x :: .ref a :: st) = ab_rn cl 3 J Q k 57 μ [v0, v1, v2, v3, v4, v5, v6, v7] (.int x :: .ref a :: .int x :: .ref a :: st) := x_dup2 dX0_costAgainst_56
theorem e3_57 : ab_rn cl 3 J Q (k + 1) 57 μ [v0, v1, v2, v3, v4, v5, v6, v7] (.int x :: .ref a :: st) = ((a < 81 ∧ ab_ak a = 0) ∧ vp_in x (ab_al a) ∧ ab_rn cl 3 J Q k 58 μ [v0, v1, v2, v3, v4, v5, v6, v7] (.int (μ (ab_cmp a) (ab_off a + x.toNatClampNeg)) :: st)) := x_iaload dX0_costAgainst_57
theorem e3_58 : ab_rn cl 3 J Q (k + 1) 58 μ [v0, v1, v2, v3, v4, v5, v6, v7] st = ab_rn cl 3 J Q k 60 μ [v0, v1, v2, v3, v4, v5, v6, v7] (.int 30 :: st) := x_bipush dX0_costAgainst_58 (by decide)
theorem e3_60 : ab_rn cl 3 J Q (k + 1) 60 μ [v0, v1, v2, v3, v4, v5, v6, v7] (.int y :: .int x :: st) = ab_rn cl 3 J Q k 61 μ [v0, v1, v2, v3, v4, v5, v6, v7] (.int (x + y) :: st) := x_iadd dX0_costAgainst_60
theorem e3_61 : ab_rn cl 3 J Q (k + 1) 61 μ [v0, v1, v2, v3, v4, v5, v6, v7] (.int v :: .int x :: .ref a :: st) = ((a < 81 ∧ ab_ak a = 0) ∧ vp_in x (ab_al a) ∧ ab_rn cl 3 J Q k 62 (ab_up μ (ab_cmp a) (ab_off a + x.toNatClampNeg) v) [v0, v1, v2, v3, v4, v5, v6, v7] st) := x_iastore dX0_costAgainst_61
theorem e3_62 : ab_rn cl 3 J Q (k + 1) 62 μ [v0, v1, v2, v3, v4, v5, v6, v7] st = ab_rn cl 3 J Q k 63 μ [v0, v1, v2, v3, v4, v5, v6, v7] (.int 1 :: st) := x_iconst dX0_costAgainst_62 (by decide)
theorem e3_63 : ab_rn cl 3 J Q (k + 1) 63 μ [v0, v1, v2, v3, v4, v5, v6, v7] (.int x :: st) = ab_rn cl 3 J Q k 65 μ [v0, v1, v2, v3, v4, .int x, v6, v7] st := x_istore dX0_costAgainst_63 (Nat.le_of_ble_eq_true rfl) rfl
theorem e3_65 : ab_rn cl 3 J Q (k + 1) 65 μ [v0, v1, v2, v3, v4, .int x, v6, v7] st = ab_rn cl 3 J Q k 67 μ [v0, v1, v2, v3, v4, .int x, v6, v7] (.int x :: st) := x_iload dX0_costAgainst_65 rfl
theorem e3_67 : ab_rn cl 3 J Q (k + 1) 67 μ [v0, v1, .int x, v3, v4, v5, v6, v7] st = ab_rn cl 3 J Q k 68 μ [v0, v1, .int x, v3, v4, v5, v6, v7] (.int x :: st) := x_iload_n dX0_costAgainst_67 rfl
theorem e3_68 : ab_rn cl 3 J Q (k + 1) 68 μ [v0, v1, v2, v3, v4, v5, v6, v7] (.int y :: .int x :: st) = (((y < x) → ab_rn cl 3 J Q k 139 μ [v0, v1, v2, v3, v4, v5, v6, v7] st) ∧ ((¬ (y < x)) → ab_rn cl 3 J Q k 71 μ [v0, v1, v2, v3, v4, v5, v6, v7] st)) := x_icmpF dX0_costAgainst_68 rfl (fun _ _ _ _ _ => rfl)
theorem e3_71 : ab_rn cl 3 J Q (k + 1) 71 μ [v0, v1, v2, v3, .int x, v5, v6, v7] st = ab_rn cl 3 J Q k 73 μ [v0, v1, v2, v3, .int x, v5, v6, v7] (.int x :: st) := x_iload dX0_costAgainst_71 rfl
theorem e3_73 : ab_rn cl 3 J Q (k + 1) 73 μ [.ref a, v1, v2, v3, v4, v5, v6, v7] st = ab_rn cl 3 J Q k 74 μ [.ref a, v1, v2, v3, v4, v5, v6, v7] (.ref a :: st) := x_aload_n dX0_costAgainst_73 rfl
theorem e3_74 : ab_rn cl 3 J Q (k + 1) 74 μ [v0, v1, v2, .int x, v4, v5, v6, v7] st = ab_rn cl 3 J Q k 75 μ [v0, v1, v2, .int x, v4, v5, v6, v7] (.int x :: st) := x_iload_n dX0_costAgainst_74 rfl
theorem e3_75 : ab_rn cl 3 J Q (k + 1) 75 μ [v0, .ref a, v2, v3, v4, v5, v6, v7] st = ab_rn cl 3 J Q k 76 μ [v0, .ref a, v2, v3, v4, v5, v6, v7] (.ref a :: st) := x_aload_n dX0_costAgainst_75 rfl
theorem e3_76 : ab_rn cl 3 J Q (k + 1) 76 μ [v0, v1, .int x, v3, v4, v5, v6, v7] st = ab_rn cl 3 J Q k 77 μ [v0, v1, .int x, v3, v4, v5, v6, v7] (.int x :: st) := x_iload_n dX0_costAgainst_76 rfl
theorem e3_77 : ab_rn cl 3 J Q (k + 1) 77 μ [v0, v1, v2, v3, v4, .int x, v6, v7] st = ab_rn cl 3 J Q k 79 μ [v0, v1, v2, v3, v4, .int x, v6, v7] (.int x :: st) := x_iload dX0_costAgainst_77 rfl
theorem e3_79 : ab_rn cl 3 J Q (k + 1) 79 μ [v0, v1, v2, v3, v4, v5, v6, v7] (.int y :: .int x :: st) = ab_rn cl 3 J Q k 80 μ [v0, v1, v2, v3, v4, v5, v6, v7] (.int (x - y) :: st) := x_isub dX0_costAgainst_79
theorem e3_80 : ab_rn cl 3 J Q (k + 1) 80 μ [v0, v1, v2, v3, v4, v5, v6, v7] (.int x2 :: .ref a1 :: .int x0 :: .ref a :: st) = (ab_ob a 0 ∧ st.length ≤ 4 ∧ cl 4 [.ref a, .int x0, .ref a1, .int x2] μ (fun r μ' => ab_rn cl 3 J Q k 83 μ' [v0, v1, v2, v3, v4, v5, v6, v7] (ab_pu r st))) := x_v (as := [.int x0, .ref a1, .int x2]) dX0_costAgainst_80 rfl rfl rfl rfl rfl
theorem e3_83 : ab_rn cl 3 J Q (k + 1) 83 μ [v0, v1, v2, v3, v4, v5, v6, v7] (.int y :: .int x :: st) = ab_rn cl 3 J Q k 84 μ [v0, v1, v2, v3, v4, v5, v6, v7] (.int (x + y) :: st) := x_iadd dX0_costAgainst_83
theorem e3_84 : ab_rn cl 3 J Q (k + 1) 84 μ [v0, v1, v2, v3, v4, v5, v6, v7] (.int x :: st) = ab_rn cl 3 J Q k 86 μ [v0, v1, v2, v3, v4, v5, .int x, v7] st := x_istore dX0_costAgainst_84 (Nat.le_of_ble_eq_true rfl) rfl
theorem e3_86 : ab_rn cl 3 J Q (k + 1) 86 μ [.ref a, v1, v2, v3, v4, v5, v6, v7] st = ab_rn cl 3 J Q k 87 μ [.ref a, v1, v2, v3, v4, v5, v6, v7] (.ref a :: st) := x_aload_n dX0_costAgainst_86 rfl
theorem e3_87 : ab_rn cl 3 J Q (k + 1) 87 μ [v0, v1, v2, v3, v4, v5, v6, v7] (.ref a :: st) = (ab_ob a 0 ∧ ab_rn cl 3 J Q k 90 μ [v0, v1, v2, v3, v4, v5, v6, v7] (ab_fv μ a 2 :: st)) := x_get dX0_costAgainst_87 rfl
theorem e3_90 : ab_rn cl 3 J Q (k + 1) 90 μ [v0, v1, v2, v3, v4, .int x, v6, v7] st = ab_rn cl 3 J Q k 92 μ [v0, v1, v2, v3, v4, .int x, v6, v7] (.int x :: st) := x_iload dX0_costAgainst_90 rfl
theorem e3_92 : ab_rn cl 3 J Q (k + 1) 92 μ [v0, v1, v2, v3, v4, v5, v6, v7] (.int x :: .ref a :: st) = ((a < 81 ∧ ab_ak a = 0) ∧ vp_in x (ab_al a) ∧ ab_rn cl 3 J Q k 93 μ [v0, v1, v2, v3, v4, v5, v6, v7] (.int (μ (ab_cmp a) (ab_off a + x.toNatClampNeg)) :: st)) := x_iaload dX0_costAgainst_92
theorem e3_93 : ab_rn cl 3 J Q (k + 1) 93 μ [.ref a, v1, v2, v3, v4, v5, v6, v7] st = ab_rn cl 3 J Q k 94 μ [.ref a, v1, v2, v3, v4, v5, v6, v7] (.ref a :: st) := x_aload_n dX0_costAgainst_93 rfl
theorem e3_94 : ab_rn cl 3 J Q (k + 1) 94 μ [v0, v1, v2, v3, v4, v5, v6, v7] (.ref a :: st) = (ab_ob a 0 ∧ ab_rn cl 3 J Q k 97 μ [v0, v1, v2, v3, v4, v5, v6, v7] (ab_fv μ a 2 :: st)) := x_get dX0_costAgainst_94 rfl
theorem e3_97 : ab_rn cl 3 J Q (k + 1) 97 μ [v0, v1, v2, v3, v4, .int x, v6, v7] st = ab_rn cl 3 J Q k 99 μ [v0, v1, v2, v3, v4, .int x, v6, v7] (.int x :: st) := x_iload dX0_costAgainst_97 rfl
theorem e3_99 : ab_rn cl 3 J Q (k + 1) 99 μ [v0, v1, v2, v3, v4, v5, v6, v7] st = ab_rn cl 3 J Q k 100 μ [v0, v1, v2, v3, v4, v5, v6, v7] (.int 1 :: st) := x_iconst dX0_costAgainst_99 (by decide)
theorem e3_100 : ab_rn cl 3 J Q (k + 1) 100 μ [v0, v1, v2, v3, v4, v5, v6, v7] (.int y :: .int x :: st) = ab_rn cl 3 J Q k 101 μ [v0, v1, v2, v3, v4, v5, v6, v7] (.int (x - y) :: st) := x_isub dX0_costAgainst_100
theorem e3_101 : ab_rn cl 3 J Q (k + 1) 101 μ [v0, v1, v2, v3, v4, v5, v6, v7] (.int x :: .ref a :: st) = ((a < 81 ∧ ab_ak a = 0) ∧ vp_in x (ab_al a) ∧ ab_rn cl 3 J Q k 102 μ [v0, v1, v2, v3, v4, v5, v6, v7] (.int (μ (ab_cmp a) (ab_off a + x.toNatClampNeg)) :: st)) := x_iaload dX0_costAgainst_101
theorem e3_102 : ab_rn cl 3 J Q (k + 1) 102 μ [v0, v1, v2, v3, v4, v5, v6, v7] (.int y :: .int x :: st) = (st.length ≤ 4 ∧ ab_rn cl 3 J Q k 105 μ [v0, v1, v2, v3, v4, v5, v6, v7] (.int (if y < x then y else x) :: st)) := x_min dX0_costAgainst_102 rfl
theorem e3_105 : ab_rn cl 3 J Q (k + 1) 105 μ [v0, v1, v2, v3, v4, v5, v6, v7] st = ab_rn cl 3 J Q k 107 μ [v0, v1, v2, v3, v4, v5, v6, v7] (.int 30 :: st) := x_bipush dX0_costAgainst_105 (by decide)
theorem e3_107 : ab_rn cl 3 J Q (k + 1) 107 μ [v0, v1, v2, v3, v4, v5, v6, v7] (.int y :: .int x :: st) = ab_rn cl 3 J Q k 108 μ [v0, v1, v2, v3, v4, v5, v6, v7] (.int (x + y) :: st) := x_iadd dX0_costAgainst_107
theorem e3_108 : ab_rn cl 3 J Q (k + 1) 108 μ [v0, v1, v2, v3, v4, v5, v6, v7] (.int x :: st) = ab_rn cl 3 J Q k 110 μ [v0, v1, v2, v3, v4, v5, v6, .int x] st := x_istore dX0_costAgainst_108 (Nat.le_of_ble_eq_true rfl) rfl
theorem e3_110 : ab_rn cl 3 J Q (k + 1) 110 μ [.ref a, v1, v2, v3, v4, v5, v6, v7] st = ab_rn cl 3 J Q k 111 μ [.ref a, v1, v2, v3, v4, v5, v6, v7] (.ref a :: st) := x_aload_n dX0_costAgainst_110 rfl
theorem e3_111 : ab_rn cl 3 J Q (k + 1) 111 μ [v0, v1, v2, v3, v4, v5, v6, v7] (.ref a :: st) = (ab_ob a 0 ∧ ab_rn cl 3 J Q k 114 μ [v0, v1, v2, v3, v4, v5, v6, v7] (ab_fv μ a 2 :: st)) := x_get dX0_costAgainst_111 rfl
theorem e3_114 : ab_rn cl 3 J Q (k + 1) 114 μ [v0, v1, v2, v3, v4, .int x, v6, v7] st = ab_rn cl 3 J Q k 116 μ [v0, v1, v2, v3, v4, .int x, v6, v7] (.int x :: st) := x_iload dX0_costAgainst_114 rfl
theorem e3_116 : ab_rn cl 3 J Q (k + 1) 116 μ [v0, v1, v2, v3, v4, v5, v6, v7] (.int x :: .ref a :: st) = ((a < 81 ∧ ab_ak a = 0) ∧ vp_in x (ab_al a) ∧ ab_rn cl 3 J Q k 117 μ [v0, v1, v2, v3, v4, v5, v6, v7] (.int (μ (ab_cmp a) (ab_off a + x.toNatClampNeg)) :: st)) := x_iaload dX0_costAgainst_116
theorem e3_117 : ab_rn cl 3 J Q (k + 1) 117 μ [v0, v1, v2, v3, v4, v5, v6, v7] (.int x :: st) = ab_rn cl 3 J Q k 119 μ [v0, v1, v2, v3, .int x, v5, v6, v7] st := x_istore dX0_costAgainst_117 (Nat.le_of_ble_eq_true rfl) rfl
theorem e3_119 : ab_rn cl 3 J Q (k + 1) 119 μ [.ref a, v1, v2, v3, v4, v5, v6, v7] st = ab_rn cl 3 J Q k 120 μ [.ref a, v1, v2, v3, v4, v5, v6, v7] (.ref a :: st) := x_aload_n dX0_costAgainst_119 rfl
theorem e3_120 : ab_rn cl 3 J Q (k + 1) 120 μ [v0, v1, v2, v3, v4, v5, v6, v7] (.ref a :: st) = (ab_ob a 0 ∧ ab_rn cl 3 J Q k 123 μ [v0, v1, v2, v3, v4, v5, v6, v7] (ab_fv μ a 2 :: st)) := x_get dX0_costAgainst_120 rfl
theorem e3_123 : ab_rn cl 3 J Q (k + 1) 123 μ [v0, v1, v2, v3, v4, .int x, v6, v7] st = ab_rn cl 3 J Q k 125 μ [v0, v1, v2, v3, v4, .int x, v6, v7] (.int x :: st) := x_iload dX0_costAgainst_123 rfl
theorem e3_125 : ab_rn cl 3 J Q (k + 1) 125 μ [v0, v1, v2, v3, v4, v5, .int x, v7] st = ab_rn cl 3 J Q k 127 μ [v0, v1, v2, v3, v4, v5, .int x, v7] (.int x :: st) := x_iload dX0_costAgainst_125 rfl
theorem e3_127 : ab_rn cl 3 J Q (k + 1) 127 μ [v0, v1, v2, v3, v4, v5, v6, .int x] st = ab_rn cl 3 J Q k 129 μ [v0, v1, v2, v3, v4, v5, v6, .int x] (.int x :: st) := x_iload dX0_costAgainst_127 rfl
theorem e3_129 : ab_rn cl 3 J Q (k + 1) 129 μ [v0, v1, v2, v3, v4, v5, v6, v7] (.int y :: .int x :: st) = (st.length ≤ 4 ∧ ab_rn cl 3 J Q k 132 μ [v0, v1, v2, v3, v4, v5, v6, v7] (.int (if y < x then y else x) :: st)) := x_min dX0_costAgainst_129 rfl
theorem e3_132 : ab_rn cl 3 J Q (k + 1) 132 μ [v0, v1, v2, v3, v4, v5, v6, v7] (.int v :: .int x :: .ref a :: st) = ((a < 81 ∧ ab_ak a = 0) ∧ vp_in x (ab_al a) ∧ ab_rn cl 3 J Q k 133 (ab_up μ (ab_cmp a) (ab_off a + x.toNatClampNeg) v) [v0, v1, v2, v3, v4, v5, v6, v7] st) := x_iastore dX0_costAgainst_132
theorem e3_133 : ab_rn cl 3 J Q (k + 1) 133 μ [v0, v1, v2, v3, v4, .int x, v6, v7] st = ab_rn cl 3 J Q k 136 μ [v0, v1, v2, v3, v4, .int (x + 1), v6, v7] st := x_iinc dX0_costAgainst_133 (w := 1) (by decide) rfl rfl
theorem e3_136 : ab_rn cl 3 J Q (k + 1) 136 μ [v0, v1, v2, v3, v4, v5, v6, v7] st = J 65 μ [v0, v1, v2, v3, v4, v5, v6, v7] st := x_gotoB dX0_costAgainst_136 (fun _ _ _ _ _ => rfl)
theorem e3_139 : ab_rn cl 3 J Q (k + 1) 139 μ [v0, v1, v2, .int x, v4, v5, v6, v7] st = ab_rn cl 3 J Q k 142 μ [v0, v1, v2, .int (x + 1), v4, v5, v6, v7] st := x_iinc dX0_costAgainst_139 (w := 1) (by decide) rfl rfl
theorem e3_142 : ab_rn cl 3 J Q (k + 1) 142 μ [v0, v1, v2, v3, v4, v5, v6, v7] st = J 35 μ [v0, v1, v2, v3, v4, v5, v6, v7] st := x_gotoB dX0_costAgainst_142 (fun _ _ _ _ _ => rfl)
theorem e3_145 : ab_rn cl 3 J Q (k + 1) 145 μ [.ref a, v1, v2, v3, v4, v5, v6, v7] st = ab_rn cl 3 J Q k 146 μ [.ref a, v1, v2, v3, v4, v5, v6, v7] (.ref a :: st) := x_aload_n dX0_costAgainst_145 rfl
theorem e3_146 : ab_rn cl 3 J Q (k + 1) 146 μ [v0, v1, v2, v3, v4, v5, v6, v7] (.ref a :: st) = (ab_ob a 0 ∧ ab_rn cl 3 J Q k 149 μ [v0, v1, v2, v3, v4, v5, v6, v7] (ab_fv μ a 2 :: st)) := x_get dX0_costAgainst_146 rfl
theorem e3_149 : ab_rn cl 3 J Q (k + 1) 149 μ [v0, v1, .int x, v3, v4, v5, v6, v7] st = ab_rn cl 3 J Q k 150 μ [v0, v1, .int x, v3, v4, v5, v6, v7] (.int x :: st) := x_iload_n dX0_costAgainst_149 rfl
theorem e3_150 : ab_rn cl 3 J Q (k + 1) 150 μ [v0, v1, v2, v3, v4, v5, v6, v7] (.int x :: .ref a :: st) = ((a < 81 ∧ ab_ak a = 0) ∧ vp_in x (ab_al a) ∧ ab_rn cl 3 J Q k 151 μ [v0, v1, v2, v3, v4, v5, v6, v7] (.int (μ (ab_cmp a) (ab_off a + x.toNatClampNeg)) :: st)) := x_iaload dX0_costAgainst_150
theorem e3_151 : ab_rn cl 3 J Q (k + 1) 151 μ [v0, v1, v2, v3, v4, v5, v6, v7] [.int v] = Q (some v) μ := x_iret dX0_costAgainst_151 rfl
theorem n3 {d : Nat} (h : ∀ J : ab_J, (∀ k pc μ ls st, ab_rn (ab_Cl d) 3 J Q k pc μ ls st → J pc μ ls st) → J 0 μ [v0, v1, .null, .null, .null, .null, .null, .null] []) : ab_Cl (d + 1) 3 [v0, v1] μ Q := ab_go h
theorem e4_0 : ab_rn cl 4 J Q (k + 1) 0 μ [.ref a, v1, v2, v3, v4] st = ab_rn cl 4 J Q k 1 μ [.ref a, v1, v2, v3, v4] (.ref a :: st) := x_aload_n dX0_costOfPair_0 rfl
theorem e4_1 : ab_rn cl 4 J Q (k + 1) 1 μ [v0, v1, v2, v3, v4] (.ref a :: st) = (ab_ob a 0 ∧ ab_rn cl 4 J Q k 4 μ [v0, v1, v2, v3, v4] (ab_fv μ a 1 :: st)) := x_get dX0_costOfPair_1 rfl
theorem e4_4 : ab_rn cl 4 J Q (k + 1) 4 μ [v0, .int x, v2, v3, v4] st = ab_rn cl 4 J Q k 5 μ [v0, .int x, v2, v3, v4] (.int x :: st) := x_iload_n dX0_costOfPair_4 rfl
theorem e4_5 : ab_rn cl 4 J Q (k + 1) 5 μ [v0, v1, v2, v3, v4] (.int x :: .ref a :: st) = ((a < 81 ∧ ab_ak a = 0) ∧ vp_in x (ab_al a) ∧ ab_rn cl 4 J Q k 6 μ [v0, v1, v2, v3, v4] (.int (μ (ab_cmp a) (ab_off a + x.toNatClampNeg)) :: st)) := x_iaload dX0_costOfPair_5
theorem e4_6 : ab_rn cl 4 J Q (k + 1) 6 μ [v0, v1, .ref a, v3, v4] st = ab_rn cl 4 J Q k 7 μ [v0, v1, .ref a, v3, v4] (.ref a :: st) := x_aload_n dX0_costOfPair_6 rfl
theorem e4_7 : ab_rn cl 4 J Q (k + 1) 7 μ [v0, v1, v2, .int x, v4] st = ab_rn cl 4 J Q k 8 μ [v0, v1, v2, .int x, v4] (.int x :: st) := x_iload_n dX0_costOfPair_7 rfl
theorem e4_8 : ab_rn cl 4 J Q (k + 1) 8 μ [v0, v1, v2, v3, v4] (.int x0 :: .ref a :: st) = (ab_ob a 2 ∧ st.length ≤ 4 ∧ cl 13 [.ref a, .int x0] μ (fun r μ' => ab_rn cl 4 J Q k 11 μ' [v0, v1, v2, v3, v4] (ab_pu r st))) := x_v (as := [.int x0]) dX0_costOfPair_8 rfl rfl rfl rfl rfl
theorem e4_11 : ab_rn cl 4 J Q (k + 1) 11 μ [v0, v1, v2, v3, v4] (.int y :: .int x :: st) = ab_rn cl 4 J Q k 12 μ [v0, v1, v2, v3, v4] (.int (x - y) :: st) := x_isub dX0_costOfPair_11
theorem e4_12 : ab_rn cl 4 J Q (k + 1) 12 μ [v0, v1, v2, v3, v4] (.int x :: st) = (st.length ≤ 4 ∧ ab_rn cl 4 J Q k 15 μ [v0, v1, v2, v3, v4] (.int (if 0 ≤ x then x else 0 - x) :: st)) := x_abs dX0_costOfPair_12 rfl
theorem e4_15 : ab_rn cl 4 J Q (k + 1) 15 μ [v0, v1, v2, v3, v4] st = ab_rn cl 4 J Q k 17 μ [v0, v1, v2, v3, v4] (.int 10 :: st) := x_bipush dX0_costOfPair_15 (by decide)
theorem e4_17 : ab_rn cl 4 J Q (k + 1) 17 μ [v0, v1, v2, v3, v4] (.int y :: .int x :: st) = ((¬ y = 0) ∧ ab_rn cl 4 J Q k 18 μ [v0, v1, v2, v3, v4] (.int (x / y) :: st)) := x_idiv dX0_costOfPair_17
theorem e4_18 : ab_rn cl 4 J Q (k + 1) 18 μ [v0, v1, v2, v3, v4] (.int x :: st) = ab_rn cl 4 J Q k 20 μ [v0, v1, v2, v3, .int x] st := x_istore dX0_costOfPair_18 (Nat.le_of_ble_eq_true rfl) rfl
theorem e4_20 : ab_rn cl 4 J Q (k + 1) 20 μ [.ref a, v1, v2, v3, v4] st = ab_rn cl 4 J Q k 21 μ [.ref a, v1, v2, v3, v4] (.ref a :: st) := x_aload_n dX0_costOfPair_20 rfl
theorem e4_21 : ab_rn cl 4 J Q (k + 1) 21 μ [v0, v1, v2, v3, v4] (.ref a :: st) = (ab_ob a 0 ∧ ab_rn cl 4 J Q k 24 μ [v0, v1, v2, v3, v4] (ab_fv μ a 0 :: st)) := x_get dX0_costOfPair_21 rfl
theorem e4_24 : ab_rn cl 4 J Q (k + 1) 24 μ [v0, .int x, v2, v3, v4] st = ab_rn cl 4 J Q k 25 μ [v0, .int x, v2, v3, v4] (.int x :: st) := x_iload_n dX0_costOfPair_24 rfl
theorem e4_25 : ab_rn cl 4 J Q (k + 1) 25 μ [v0, v1, v2, v3, v4] (.int x :: .ref a :: st) = ((a < 81 ∧ ab_ak a = 0) ∧ vp_in x (ab_al a) ∧ ab_rn cl 4 J Q k 26 μ [v0, v1, v2, v3, v4] (.int (μ (ab_cmp a) (ab_off a + x.toNatClampNeg)) :: st)) := x_iaload dX0_costOfPair_25
theorem e4_26 : ab_rn cl 4 J Q (k + 1) 26 μ [v0, v1, .ref a, v3, v4] st = ab_rn cl 4 J Q k 27 μ [v0, v1, .ref a, v3, v4] (.ref a :: st) := x_aload_n dX0_costOfPair_26 rfl
theorem e4_27 : ab_rn cl 4 J Q (k + 1) 27 μ [v0, v1, v2, .int x, v4] st = ab_rn cl 4 J Q k 28 μ [v0, v1, v2, .int x, v4] (.int x :: st) := x_iload_n dX0_costOfPair_27 rfl
theorem e4_28 : ab_rn cl 4 J Q (k + 1) 28 μ [v0, v1, v2, v3, v4] (.int x0 :: .ref a :: st) = (ab_ob a 2 ∧ st.length ≤ 4 ∧ cl 12 [.ref a, .int x0] μ (fun r μ' => ab_rn cl 4 J Q k 31 μ' [v0, v1, v2, v3, v4] (ab_pu r st))) := x_v (as := [.int x0]) dX0_costOfPair_28 rfl rfl rfl rfl rfl
theorem e4_31 : ab_rn cl 4 J Q (k + 1) 31 μ [v0, v1, v2, v3, v4] (.int y :: .int x :: st) = (((¬ x = y) → ab_rn cl 4 J Q k 39 μ [v0, v1, v2, v3, v4] st) ∧ ((¬ (¬ x = y)) → ab_rn cl 4 J Q k 34 μ [v0, v1, v2, v3, v4] st)) := x_icmpF dX0_costOfPair_31 rfl (fun _ _ _ _ _ => rfl)
theorem e4_34 : ab_rn cl 4 J Q (k + 1) 34 μ [v0, v1, v2, v3, .int x] st = ab_rn cl 4 J Q k 36 μ [v0, v1, v2, v3, .int x] (.int x :: st) := x_iload dX0_costOfPair_34 rfl
theorem e4_36 : ab_rn cl 4 J Q (k + 1) 36 μ [v0, v1, v2, v3, v4] st = ab_rn cl 4 J Q k 44 μ [v0, v1, v2, v3, v4] st := x_gotoF dX0_costOfPair_36 (fun _ _ _ _ _ => rfl)
theorem e4_39 : ab_rn cl 4 J Q (k + 1) 39 μ [v0, v1, v2, v3, .int x] st = ab_rn cl 4 J Q k 41 μ [v0, v1, v2, v3, .int x] (.int x :: st) := x_iload dX0_costOfPair_39 rfl
theorem e4_41 : ab_rn cl 4 J Q (k + 1) 41 μ [v0, v1, v2, v3, v4] st = ab_rn cl 4 J Q k 43 μ [v0, v1, v2, v3, v4] (.int 40 :: st) := x_bipush dX0_costOfPair_41 (by decide)
theorem e4_43 : ab_rn cl 4 J Q (k + 1) 43 μ [v0, v1, v2, v3, v4] (.int y :: .int x :: st) = ab_rn cl 4 J Q k 44 μ [v0, v1, v2, v3, v4] (.int (x + y) :: st) := x_iadd dX0_costOfPair_43
theorem e4_44 : ab_rn cl 4 J Q (k + 1) 44 μ [v0, v1, v2, v3, v4] [.int v] = Q (some v) μ := x_iret dX0_costOfPair_44 rfl
theorem n4 {d : Nat} (h : ∀ J : ab_J, (∀ k pc μ ls st, ab_rn (ab_Cl d) 4 J Q k pc μ ls st → J pc μ ls st) → J 0 μ [v0, v1, v2, v3, .null] []) : ab_Cl (d + 1) 4 [v0, v1, v2, v3] μ Q := ab_go h
theorem e5_0 : ab_rn cl 5 J Q (k + 1) 0 μ [.ref a] st = ab_rn cl 5 J Q k 1 μ [.ref a] (.ref a :: st) := x_aload_n dX1_paths_0 rfl
theorem e5_1 : ab_rn cl 5 J Q (k + 1) 1 μ [v0] (.ref a :: st) = (ab_ob a 1 ∧ ab_rn cl 5 J Q k 4 μ [v0] (ab_fv μ a 2 :: st)) := x_get dX1_paths_1 rfl
theorem e5_4 : ab_rn cl 5 J Q (k + 1) 4 μ [v0] [.int v] = Q (some v) μ := x_iret dX1_paths_4 rfl
theorem n5 {d : Nat} (h : ∀ J : ab_J, (∀ k pc μ ls st, ab_rn (ab_Cl d) 5 J Q k pc μ ls st → J pc μ ls st) → J 0 μ [v0] []) : ab_Cl (d + 1) 5 [v0] μ Q := ab_go h
theorem e6_0 : ab_rn cl 6 J Q (k + 1) 0 μ [.ref a, v1, v2] st = ab_rn cl 6 J Q k 1 μ [.ref a, v1, v2] (.ref a :: st) := x_aload_n dX1_addPath_0 rfl
theorem e6_1 : ab_rn cl 6 J Q (k + 1) 1 μ [v0, v1, v2] (.ref a :: st) = (ab_ob a 1 ∧ ab_rn cl 6 J Q k 4 μ [v0, v1, v2] (ab_fv μ a 2 :: st)) := x_get dX1_addPath_1 rfl
theorem e6_4 : ab_rn cl 6 J Q (k + 1) 4 μ [v0, v1, v2] st = ab_rn cl 6 J Q k 6 μ [v0, v1, v2] (.int 10 :: st) := x_bipush dX1_addPath_4 (by decide)
theorem e6_6 : ab_rn cl 6 J Q (k + 1) 6 μ [v0, v1, v2] (.int y :: .int x :: st) = (((x < y) → ab_rn cl 6 J Q k 11 μ [v0, v1, v2] st) ∧ ((¬ (x < y)) → ab_rn cl 6 J Q k 9 μ [v0, v1, v2] st)) := x_icmpF dX1_addPath_6 rfl (fun _ _ _ _ _ => rfl)
theorem e6_9 : ab_rn cl 6 J Q (k + 1) 9 μ [v0, v1, v2] st = ab_rn cl 6 J Q k 10 μ [v0, v1, v2] (.int (-1) :: st) := x_iconst dX1_addPath_9 (by decide)
theorem e6_10 : ab_rn cl 6 J Q (k + 1) 10 μ [v0, v1, v2] [.int v] = Q (some v) μ := x_iret dX1_addPath_10 rfl
theorem e6_11 : ab_rn cl 6 J Q (k + 1) 11 μ [.ref a, v1, v2] st = ab_rn cl 6 J Q k 12 μ [.ref a, v1, v2] (.ref a :: st) := x_aload_n dX1_addPath_11 rfl
theorem e6_12 : ab_rn cl 6 J Q (k + 1) 12 μ [v0, v1, v2] (.ref a :: st) = (ab_ob a 1 ∧ ab_rn cl 6 J Q k 15 μ [v0, v1, v2] (ab_fv μ a 0 :: st)) := x_get dX1_addPath_12 rfl
theorem e6_15 : ab_rn cl 6 J Q (k + 1) 15 μ [.ref a, v1, v2] st = ab_rn cl 6 J Q k 16 μ [.ref a, v1, v2] (.ref a :: st) := x_aload_n dX1_addPath_15 rfl
theorem e6_16 : ab_rn cl 6 J Q (k + 1) 16 μ [v0, v1, v2] (.ref a :: st) = (ab_ob a 1 ∧ ab_rn cl 6 J Q k 19 μ [v0, v1, v2] (ab_fv μ a 2 :: st)) := x_get dX1_addPath_16 rfl
theorem e6_19 : ab_rn cl 6 J Q (k + 1) 19 μ [v0, .int x, v2] st = ab_rn cl 6 J Q k 20 μ [v0, .int x, v2] (.int x :: st) := x_iload_n dX1_addPath_19 rfl
theorem e6_20 : ab_rn cl 6 J Q (k + 1) 20 μ [v0, v1, v2] (.int v :: .int x :: .ref a :: st) = ((a < 81 ∧ ab_ak a = 0) ∧ vp_in x (ab_al a) ∧ ab_rn cl 6 J Q k 21 (ab_up μ (ab_cmp a) (ab_off a + x.toNatClampNeg) v) [v0, v1, v2] st) := x_iastore dX1_addPath_20
theorem e6_21 : ab_rn cl 6 J Q (k + 1) 21 μ [.ref a, v1, v2] st = ab_rn cl 6 J Q k 22 μ [.ref a, v1, v2] (.ref a :: st) := x_aload_n dX1_addPath_21 rfl
theorem e6_22 : ab_rn cl 6 J Q (k + 1) 22 μ [v0, v1, v2] (.ref a :: st) = (ab_ob a 1 ∧ ab_rn cl 6 J Q k 25 μ [v0, v1, v2] (ab_fv μ a 1 :: st)) := x_get dX1_addPath_22 rfl
theorem e6_25 : ab_rn cl 6 J Q (k + 1) 25 μ [.ref a, v1, v2] st = ab_rn cl 6 J Q k 26 μ [.ref a, v1, v2] (.ref a :: st) := x_aload_n dX1_addPath_25 rfl
theorem e6_26 : ab_rn cl 6 J Q (k + 1) 26 μ [v0, v1, v2] (.ref a :: st) = (ab_ob a 1 ∧ ab_rn cl 6 J Q k 29 μ [v0, v1, v2] (ab_fv μ a 2 :: st)) := x_get dX1_addPath_26 rfl
theorem e6_29 : ab_rn cl 6 J Q (k + 1) 29 μ [v0, v1, .int x] st = ab_rn cl 6 J Q k 30 μ [v0, v1, .int x] (.int x :: st) := x_iload_n dX1_addPath_29 rfl
theorem e6_30 : ab_rn cl 6 J Q (k + 1) 30 μ [v0, v1, v2] (.int v :: .int x :: .ref a :: st) = ((a < 81 ∧ ab_ak a = 0) ∧ vp_in x (ab_al a) ∧ ab_rn cl 6 J Q k 31 (ab_up μ (ab_cmp a) (ab_off a + x.toNatClampNeg) v) [v0, v1, v2] st) := x_iastore dX1_addPath_30
theorem e6_31 : ab_rn cl 6 J Q (k + 1) 31 μ [.ref a, v1, v2] st = ab_rn cl 6 J Q k 32 μ [.ref a, v1, v2] (.ref a :: st) := x_aload_n dX1_addPath_31 rfl
theorem e6_32i : ab_rn cl 6 J Q (k + 1) 32 μ [v0, v1, v2] (.int x :: st) = ab_rn cl 6 J Q k 33 μ [v0, v1, v2] (.int x :: .int x :: st) := x_dupi dX1_addPath_32
theorem e6_32r : ab_rn cl 6 J Q (k + 1) 32 μ [v0, v1, v2] (.ref a :: st) = ab_rn cl 6 J Q k 33 μ [v0, v1, v2] (.ref a :: .ref a :: st) := x_dupr dX1_addPath_32
theorem e6_33 : ab_rn cl 6 J Q (k + 1) 33 μ [v0, v1, v2] (.ref a :: st) = (ab_ob a 1 ∧ ab_rn cl 6 J Q k 36 μ [v0, v1, v2] (ab_fv μ a 2 :: st)) := x_get dX1_addPath_33 rfl
theorem e6_36 : ab_rn cl 6 J Q (k + 1) 36 μ [v0, v1, v2] st = ab_rn cl 6 J Q k 37 μ [v0, v1, v2] (.int 1 :: st) := x_iconst dX1_addPath_36 (by decide)
theorem e6_37 : ab_rn cl 6 J Q (k + 1) 37 μ [v0, v1, v2] (.int y :: .int x :: st) = ab_rn cl 6 J Q k 38 μ [v0, v1, v2] (.int (x + y) :: st) := x_iadd dX1_addPath_37
theorem e6_38 : ab_rn cl 6 J Q (k + 1) 38 μ [v0, v1, v2] (.int v :: .ref a :: st) = (ab_ob a 1 ∧ ab_rf a 2 = none ∧ ab_rn cl 6 J Q k 41 (ab_up μ (ab_cmp a) (ab_off a + 2) v) [v0, v1, v2] st) := x_put dX1_addPath_38 rfl
theorem e6_41 : ab_rn cl 6 J Q (k + 1) 41 μ [.ref a, v1, v2] st = ab_rn cl 6 J Q k 42 μ [.ref a, v1, v2] (.ref a :: st) := x_aload_n dX1_addPath_41 rfl
theorem e6_42 : ab_rn cl 6 J Q (k + 1) 42 μ [v0, v1, v2] (.ref a :: st) = (ab_ob a 1 ∧ ab_rn cl 6 J Q k 45 μ [v0, v1, v2] (ab_fv μ a 2 :: st)) := x_get dX1_addPath_42 rfl
theorem e6_45 : ab_rn cl 6 J Q (k + 1) 45 μ [v0, v1, v2] st = ab_rn cl 6 J Q k 46 μ [v0, v1, v2] (.int 1 :: st) := x_iconst dX1_addPath_45 (by decide)
theorem e6_46 : ab_rn cl 6 J Q (k + 1) 46 μ [v0, v1, v2] (.int y :: .int x :: st) = ab_rn cl 6 J Q k 47 μ [v0, v1, v2] (.int (x - y) :: st) := x_isub dX1_addPath_46
theorem e6_47 : ab_rn cl 6 J Q (k + 1) 47 μ [v0, v1, v2] [.int v] = Q (some v) μ := x_iret dX1_addPath_47 rfl
theorem n6 {d : Nat} (h : ∀ J : ab_J, (∀ k pc μ ls st, ab_rn (ab_Cl d) 6 J Q k pc μ ls st → J pc μ ls st) → J 0 μ [v0, v1, v2] []) : ab_Cl (d + 1) 6 [v0, v1, v2] μ Q := ab_go h
theorem e7_0 : ab_rn cl 7 J Q (k + 1) 0 μ [v0, .int x] st = ab_rn cl 7 J Q k 1 μ [v0, .int x] (.int x :: st) := x_iload_n dX1_classOf_0 rfl
theorem e7_1 : ab_rn cl 7 J Q (k + 1) 1 μ [v0, v1] (.int x :: st) = (((x < 0) → ab_rn cl 7 J Q k 21 μ [v0, v1] st) ∧ ((¬ (x < 0)) → ab_rn cl 7 J Q k 4 μ [v0, v1] st)) := x_ifF dX1_classOf_1 rfl (fun _ _ _ _ _ => rfl)
theorem e7_4 : ab_rn cl 7 J Q (k + 1) 4 μ [v0, .int x] st = ab_rn cl 7 J Q k 5 μ [v0, .int x] (.int x :: st) := x_iload_n dX1_classOf_4 rfl
theorem e7_5 : ab_rn cl 7 J Q (k + 1) 5 μ [.ref a, v1] st = ab_rn cl 7 J Q k 6 μ [.ref a, v1] (.ref a :: st) := x_aload_n dX1_classOf_5 rfl
theorem e7_6 : ab_rn cl 7 J Q (k + 1) 6 μ [v0, v1] (.ref a :: st) = (ab_ob a 1 ∧ ab_rn cl 7 J Q k 9 μ [v0, v1] (ab_fv μ a 2 :: st)) := x_get dX1_classOf_6 rfl
theorem e7_9 : ab_rn cl 7 J Q (k + 1) 9 μ [v0, v1] (.int y :: .int x :: st) = (((y ≤ x) → ab_rn cl 7 J Q k 21 μ [v0, v1] st) ∧ ((¬ (y ≤ x)) → ab_rn cl 7 J Q k 12 μ [v0, v1] st)) := x_icmpF dX1_classOf_9 rfl (fun _ _ _ _ _ => rfl)
theorem e7_12 : ab_rn cl 7 J Q (k + 1) 12 μ [.ref a, v1] st = ab_rn cl 7 J Q k 13 μ [.ref a, v1] (.ref a :: st) := x_aload_n dX1_classOf_12 rfl
theorem e7_13 : ab_rn cl 7 J Q (k + 1) 13 μ [v0, v1] (.ref a :: st) = (ab_ob a 1 ∧ ab_rn cl 7 J Q k 16 μ [v0, v1] (ab_fv μ a 0 :: st)) := x_get dX1_classOf_13 rfl
theorem e7_16 : ab_rn cl 7 J Q (k + 1) 16 μ [v0, .int x] st = ab_rn cl 7 J Q k 17 μ [v0, .int x] (.int x :: st) := x_iload_n dX1_classOf_16 rfl
theorem e7_17 : ab_rn cl 7 J Q (k + 1) 17 μ [v0, v1] (.int x :: .ref a :: st) = ((a < 81 ∧ ab_ak a = 0) ∧ vp_in x (ab_al a) ∧ ab_rn cl 7 J Q k 18 μ [v0, v1] (.int (μ (ab_cmp a) (ab_off a + x.toNatClampNeg)) :: st)) := x_iaload dX1_classOf_17
theorem e7_18 : ab_rn cl 7 J Q (k + 1) 18 μ [v0, v1] st = ab_rn cl 7 J Q k 22 μ [v0, v1] st := x_gotoF dX1_classOf_18 (fun _ _ _ _ _ => rfl)
theorem e7_21 : ab_rn cl 7 J Q (k + 1) 21 μ [v0, v1] st = ab_rn cl 7 J Q k 22 μ [v0, v1] (.int (-1) :: st) := x_iconst dX1_classOf_21 (by decide)
theorem e7_22 : ab_rn cl 7 J Q (k + 1) 22 μ [v0, v1] [.int v] = Q (some v) μ := x_iret dX1_classOf_22 rfl
theorem n7 {d : Nat} (h : ∀ J : ab_J, (∀ k pc μ ls st, ab_rn (ab_Cl d) 7 J Q k pc μ ls st → J pc μ ls st) → J 0 μ [v0, v1] []) : ab_Cl (d + 1) 7 [v0, v1] μ Q := ab_go h
theorem e8_0 : ab_rn cl 8 J Q (k + 1) 0 μ [v0, .int x] st = ab_rn cl 8 J Q k 1 μ [v0, .int x] (.int x :: st) := x_iload_n dX1_needOf_0 rfl
theorem e8_1 : ab_rn cl 8 J Q (k + 1) 1 μ [v0, v1] (.int x :: st) = (((x < 0) → ab_rn cl 8 J Q k 21 μ [v0, v1] st) ∧ ((¬ (x < 0)) → ab_rn cl 8 J Q k 4 μ [v0, v1] st)) := x_ifF dX1_needOf_1 rfl (fun _ _ _ _ _ => rfl)
theorem e8_4 : ab_rn cl 8 J Q (k + 1) 4 μ [v0, .int x] st = ab_rn cl 8 J Q k 5 μ [v0, .int x] (.int x :: st) := x_iload_n dX1_needOf_4 rfl
theorem e8_5 : ab_rn cl 8 J Q (k + 1) 5 μ [.ref a, v1] st = ab_rn cl 8 J Q k 6 μ [.ref a, v1] (.ref a :: st) := x_aload_n dX1_needOf_5 rfl
theorem e8_6 : ab_rn cl 8 J Q (k + 1) 6 μ [v0, v1] (.ref a :: st) = (ab_ob a 1 ∧ ab_rn cl 8 J Q k 9 μ [v0, v1] (ab_fv μ a 2 :: st)) := x_get dX1_needOf_6 rfl
theorem e8_9 : ab_rn cl 8 J Q (k + 1) 9 μ [v0, v1] (.int y :: .int x :: st) = (((y ≤ x) → ab_rn cl 8 J Q k 21 μ [v0, v1] st) ∧ ((¬ (y ≤ x)) → ab_rn cl 8 J Q k 12 μ [v0, v1] st)) := x_icmpF dX1_needOf_9 rfl (fun _ _ _ _ _ => rfl)
theorem e8_12 : ab_rn cl 8 J Q (k + 1) 12 μ [.ref a, v1] st = ab_rn cl 8 J Q k 13 μ [.ref a, v1] (.ref a :: st) := x_aload_n dX1_needOf_12 rfl
theorem e8_13 : ab_rn cl 8 J Q (k + 1) 13 μ [v0, v1] (.ref a :: st) = (ab_ob a 1 ∧ ab_rn cl 8 J Q k 16 μ [v0, v1] (ab_fv μ a 1 :: st)) := x_get dX1_needOf_13 rfl
theorem e8_16 : ab_rn cl 8 J Q (k + 1) 16 μ [v0, .int x] st = ab_rn cl 8 J Q k 17 μ [v0, .int x] (.int x :: st) := x_iload_n dX1_needOf_16 rfl
theorem e8_17 : ab_rn cl 8 J Q (k + 1) 17 μ [v0, v1] (.int x :: .ref a :: st) = ((a < 81 ∧ ab_ak a = 0) ∧ vp_in x (ab_al a) ∧ ab_rn cl 8 J Q k 18 μ [v0, v1] (.int (μ (ab_cmp a) (ab_off a + x.toNatClampNeg)) :: st)) := x_iaload dX1_needOf_17
theorem e8_18 : ab_rn cl 8 J Q (k + 1) 18 μ [v0, v1] st = ab_rn cl 8 J Q k 22 μ [v0, v1] st := x_gotoF dX1_needOf_18 (fun _ _ _ _ _ => rfl)
theorem e8_21 : ab_rn cl 8 J Q (k + 1) 21 μ [v0, v1] st = ab_rn cl 8 J Q k 22 μ [v0, v1] (.int 3 :: st) := x_iconst dX1_needOf_21 (by decide)
theorem e8_22 : ab_rn cl 8 J Q (k + 1) 22 μ [v0, v1] [.int v] = Q (some v) μ := x_iret dX1_needOf_22 rfl
theorem n8 {d : Nat} (h : ∀ J : ab_J, (∀ k pc μ ls st, ab_rn (ab_Cl d) 8 J Q k pc μ ls st → J pc μ ls st) → J 0 μ [v0, v1] []) : ab_Cl (d + 1) 8 [v0, v1] μ Q := ab_go h
theorem e9_0 : ab_rn cl 9 J Q (k + 1) 0 μ [v0, v1, v2, v3] st = ab_rn cl 9 J Q k 1 μ [v0, v1, v2, v3] (.int 3 :: st) := x_iconst dX1_leastNeedIn_0 (by decide)
theorem e9_1 : ab_rn cl 9 J Q (k + 1) 1 μ [v0, v1, v2, v3] (.int x :: st) = ab_rn cl 9 J Q k 2 μ [v0, v1, .int x, v3] st := x_istore_n dX1_leastNeedIn_1 (Nat.le_of_ble_eq_true rfl) rfl
theorem e9_2 : ab_rn cl 9 J Q (k + 1) 2 μ [v0, v1, v2, v3] st = ab_rn cl 9 J Q k 3 μ [v0, v1, v2, v3] (.int 0 :: st) := x_iconst dX1_leastNeedIn_2 (by decide)
theorem e9_3 : ab_rn cl 9 J Q (k + 1) 3 μ [v0, v1, v2, v3] (.int x :: st) = ab_rn cl 9 J Q k 4 μ [v0, v1, v2, .int x] st := x_istore_n dX1_leastNeedIn_3 (Nat.le_of_ble_eq_true rfl) rfl
theorem e9_4 : ab_rn cl 9 J Q (k + 1) 4 μ [v0, v1, v2, .int x] st = ab_rn cl 9 J Q k 5 μ [v0, v1, v2, .int x] (.int x :: st) := x_iload_n dX1_leastNeedIn_4 rfl
theorem e9_5 : ab_rn cl 9 J Q (k + 1) 5 μ [.ref a, v1, v2, v3] st = ab_rn cl 9 J Q k 6 μ [.ref a, v1, v2, v3] (.ref a :: st) := x_aload_n dX1_leastNeedIn_5 rfl
theorem e9_6 : ab_rn cl 9 J Q (k + 1) 6 μ [v0, v1, v2, v3] (.ref a :: st) = (ab_ob a 1 ∧ ab_rn cl 9 J Q k 9 μ [v0, v1, v2, v3] (ab_fv μ a 2 :: st)) := x_get dX1_leastNeedIn_6 rfl
theorem e9_9 : ab_rn cl 9 J Q (k + 1) 9 μ [v0, v1, v2, v3] (.int y :: .int x :: st) = (((y ≤ x) → ab_rn cl 9 J Q k 39 μ [v0, v1, v2, v3] st) ∧ ((¬ (y ≤ x)) → ab_rn cl 9 J Q k 12 μ [v0, v1, v2, v3] st)) := x_icmpF dX1_leastNeedIn_9 rfl (fun _ _ _ _ _ => rfl)
theorem e9_12 : ab_rn cl 9 J Q (k + 1) 12 μ [.ref a, v1, v2, v3] st = ab_rn cl 9 J Q k 13 μ [.ref a, v1, v2, v3] (.ref a :: st) := x_aload_n dX1_leastNeedIn_12 rfl
theorem e9_13 : ab_rn cl 9 J Q (k + 1) 13 μ [v0, v1, v2, v3] (.ref a :: st) = (ab_ob a 1 ∧ ab_rn cl 9 J Q k 16 μ [v0, v1, v2, v3] (ab_fv μ a 0 :: st)) := x_get dX1_leastNeedIn_13 rfl
theorem e9_16 : ab_rn cl 9 J Q (k + 1) 16 μ [v0, v1, v2, .int x] st = ab_rn cl 9 J Q k 17 μ [v0, v1, v2, .int x] (.int x :: st) := x_iload_n dX1_leastNeedIn_16 rfl
theorem e9_17 : ab_rn cl 9 J Q (k + 1) 17 μ [v0, v1, v2, v3] (.int x :: .ref a :: st) = ((a < 81 ∧ ab_ak a = 0) ∧ vp_in x (ab_al a) ∧ ab_rn cl 9 J Q k 18 μ [v0, v1, v2, v3] (.int (μ (ab_cmp a) (ab_off a + x.toNatClampNeg)) :: st)) := x_iaload dX1_leastNeedIn_17
theorem e9_18 : ab_rn cl 9 J Q (k + 1) 18 μ [v0, .int x, v2, v3] st = ab_rn cl 9 J Q k 19 μ [v0, .int x, v2, v3] (.int x :: st) := x_iload_n dX1_leastNeedIn_18 rfl
theorem e9_19 : ab_rn cl 9 J Q (k + 1) 19 μ [v0, v1, v2, v3] (.int y :: .int x :: st) = (((¬ x = y) → ab_rn cl 9 J Q k 33 μ [v0, v1, v2, v3] st) ∧ ((¬ (¬ x = y)) → ab_rn cl 9 J Q k 22 μ [v0, v1, v2, v3] st)) := x_icmpF dX1_leastNeedIn_19 rfl (fun _ _ _ _ _ => rfl)
theorem e9_22 : ab_rn cl 9 J Q (k + 1) 22 μ [v0, v1, .int x, v3] st = ab_rn cl 9 J Q k 23 μ [v0, v1, .int x, v3] (.int x :: st) := x_iload_n dX1_leastNeedIn_22 rfl
theorem e9_23 : ab_rn cl 9 J Q (k + 1) 23 μ [.ref a, v1, v2, v3] st = ab_rn cl 9 J Q k 24 μ [.ref a, v1, v2, v3] (.ref a :: st) := x_aload_n dX1_leastNeedIn_23 rfl
theorem e9_24 : ab_rn cl 9 J Q (k + 1) 24 μ [v0, v1, v2, v3] (.ref a :: st) = (ab_ob a 1 ∧ ab_rn cl 9 J Q k 27 μ [v0, v1, v2, v3] (ab_fv μ a 1 :: st)) := x_get dX1_leastNeedIn_24 rfl
theorem e9_27 : ab_rn cl 9 J Q (k + 1) 27 μ [v0, v1, v2, .int x] st = ab_rn cl 9 J Q k 28 μ [v0, v1, v2, .int x] (.int x :: st) := x_iload_n dX1_leastNeedIn_27 rfl
theorem e9_28 : ab_rn cl 9 J Q (k + 1) 28 μ [v0, v1, v2, v3] (.int x :: .ref a :: st) = ((a < 81 ∧ ab_ak a = 0) ∧ vp_in x (ab_al a) ∧ ab_rn cl 9 J Q k 29 μ [v0, v1, v2, v3] (.int (μ (ab_cmp a) (ab_off a + x.toNatClampNeg)) :: st)) := x_iaload dX1_leastNeedIn_28
theorem e9_29 : ab_rn cl 9 J Q (k + 1) 29 μ [v0, v1, v2, v3] (.int y :: .int x :: st) = (st.length ≤ 4 ∧ ab_rn cl 9 J Q k 32 μ [v0, v1, v2, v3] (.int (if y < x then y else x) :: st)) := x_min dX1_leastNeedIn_29 rfl
theorem e9_32 : ab_rn cl 9 J Q (k + 1) 32 μ [v0, v1, v2, v3] (.int x :: st) = ab_rn cl 9 J Q k 33 μ [v0, v1, .int x, v3] st := x_istore_n dX1_leastNeedIn_32 (Nat.le_of_ble_eq_true rfl) rfl
theorem e9_33 : ab_rn cl 9 J Q (k + 1) 33 μ [v0, v1, v2, .int x] st = ab_rn cl 9 J Q k 36 μ [v0, v1, v2, .int (x + 1)] st := x_iinc dX1_leastNeedIn_33 (w := 1) (by decide) rfl rfl
theorem e9_36 : ab_rn cl 9 J Q (k + 1) 36 μ [v0, v1, v2, v3] st = J 4 μ [v0, v1, v2, v3] st := x_gotoB dX1_leastNeedIn_36 (fun _ _ _ _ _ => rfl)
theorem e9_39 : ab_rn cl 9 J Q (k + 1) 39 μ [v0, v1, .int x, v3] st = ab_rn cl 9 J Q k 40 μ [v0, v1, .int x, v3] (.int x :: st) := x_iload_n dX1_leastNeedIn_39 rfl
theorem e9_40 : ab_rn cl 9 J Q (k + 1) 40 μ [v0, v1, v2, v3] [.int v] = Q (some v) μ := x_iret dX1_leastNeedIn_40 rfl
theorem n9 {d : Nat} (h : ∀ J : ab_J, (∀ k pc μ ls st, ab_rn (ab_Cl d) 9 J Q k pc μ ls st → J pc μ ls st) → J 0 μ [v0, v1, .null, .null] []) : ab_Cl (d + 1) 9 [v0, v1] μ Q := ab_go h
theorem e10_0 : ab_rn cl 10 J Q (k + 1) 0 μ [.ref a] st = ab_rn cl 10 J Q k 1 μ [.ref a] (.ref a :: st) := x_aload_n dX2_depth_0 rfl
theorem e10_1 : ab_rn cl 10 J Q (k + 1) 1 μ [v0] (.ref a :: st) = (ab_ob a 2 ∧ ab_rn cl 10 J Q k 4 μ [v0] (ab_fv μ a 3 :: st)) := x_get dX2_depth_1 rfl
theorem e10_4 : ab_rn cl 10 J Q (k + 1) 4 μ [v0] [.int v] = Q (some v) μ := x_iret dX2_depth_4 rfl
theorem n10 {d : Nat} (h : ∀ J : ab_J, (∀ k pc μ ls st, ab_rn (ab_Cl d) 10 J Q k pc μ ls st → J pc μ ls st) → J 0 μ [v0] []) : ab_Cl (d + 1) 10 [v0] μ Q := ab_go h
theorem e11_0 : ab_rn cl 11 J Q (k + 1) 0 μ [v0, .int x] st = ab_rn cl 11 J Q k 1 μ [v0, .int x] (.int x :: st) := x_iload_n dX2_has_0 rfl
theorem e11_1 : ab_rn cl 11 J Q (k + 1) 1 μ [v0, v1] (.int x :: st) = (((x < 0) → ab_rn cl 11 J Q k 16 μ [v0, v1] st) ∧ ((¬ (x < 0)) → ab_rn cl 11 J Q k 4 μ [v0, v1] st)) := x_ifF dX2_has_1 rfl (fun _ _ _ _ _ => rfl)
theorem e11_4 : ab_rn cl 11 J Q (k + 1) 4 μ [v0, .int x] st = ab_rn cl 11 J Q k 5 μ [v0, .int x] (.int x :: st) := x_iload_n dX2_has_4 rfl
theorem e11_5 : ab_rn cl 11 J Q (k + 1) 5 μ [.ref a, v1] st = ab_rn cl 11 J Q k 6 μ [.ref a, v1] (.ref a :: st) := x_aload_n dX2_has_5 rfl
theorem e11_6 : ab_rn cl 11 J Q (k + 1) 6 μ [v0, v1] (.ref a :: st) = (ab_ob a 2 ∧ ab_rn cl 11 J Q k 9 μ [v0, v1] (ab_fv μ a 3 :: st)) := x_get dX2_has_6 rfl
theorem e11_9 : ab_rn cl 11 J Q (k + 1) 9 μ [v0, v1] (.int y :: .int x :: st) = (((y ≤ x) → ab_rn cl 11 J Q k 16 μ [v0, v1] st) ∧ ((¬ (y ≤ x)) → ab_rn cl 11 J Q k 12 μ [v0, v1] st)) := x_icmpF dX2_has_9 rfl (fun _ _ _ _ _ => rfl)
theorem e11_12 : ab_rn cl 11 J Q (k + 1) 12 μ [v0, v1] st = ab_rn cl 11 J Q k 13 μ [v0, v1] (.int 1 :: st) := x_iconst dX2_has_12 (by decide)
theorem e11_13 : ab_rn cl 11 J Q (k + 1) 13 μ [v0, v1] st = ab_rn cl 11 J Q k 17 μ [v0, v1] st := x_gotoF dX2_has_13 (fun _ _ _ _ _ => rfl)
theorem e11_16 : ab_rn cl 11 J Q (k + 1) 16 μ [v0, v1] st = ab_rn cl 11 J Q k 17 μ [v0, v1] (.int 0 :: st) := x_iconst dX2_has_16 (by decide)
theorem e11_17 : ab_rn cl 11 J Q (k + 1) 17 μ [v0, v1] [.int v] = ((v = 0 ∨ v = 1) ∧ Q (some v) μ) := x_zret dX2_has_17 rfl
theorem n11 {d : Nat} (h : ∀ J : ab_J, (∀ k pc μ ls st, ab_rn (ab_Cl d) 11 J Q k pc μ ls st → J pc μ ls st) → J 0 μ [v0, v1] []) : ab_Cl (d + 1) 11 [v0, v1] μ Q := ab_go h
theorem e12_0 : ab_rn cl 12 J Q (k + 1) 0 μ [.ref a, v1] st = ab_rn cl 12 J Q k 1 μ [.ref a, v1] (.ref a :: st) := x_aload_n dX2_kindOf_0 rfl
theorem e12_1 : ab_rn cl 12 J Q (k + 1) 1 μ [v0, .int x] st = ab_rn cl 12 J Q k 2 μ [v0, .int x] (.int x :: st) := x_iload_n dX2_kindOf_1 rfl
theorem e12_2 : ab_rn cl 12 J Q (k + 1) 2 μ [v0, v1] (.int x0 :: .ref a :: st) = (ab_ob a 2 ∧ st.length ≤ 4 ∧ cl 11 [.ref a, .int x0] μ (fun r μ' => ab_rn cl 12 J Q k 5 μ' [v0, v1] (ab_pu r st))) := x_v (as := [.int x0]) dX2_kindOf_2 rfl rfl rfl rfl rfl
theorem e12_5 : ab_rn cl 12 J Q (k + 1) 5 μ [v0, v1] (.int x :: st) = (((x = 0) → ab_rn cl 12 J Q k 17 μ [v0, v1] st) ∧ ((¬ (x = 0)) → ab_rn cl 12 J Q k 8 μ [v0, v1] st)) := x_ifF dX2_kindOf_5 rfl (fun _ _ _ _ _ => rfl)
theorem e12_8 : ab_rn cl 12 J Q (k + 1) 8 μ [.ref a, v1] st = ab_rn cl 12 J Q k 9 μ [.ref a, v1] (.ref a :: st) := x_aload_n dX2_kindOf_8 rfl
theorem e12_9 : ab_rn cl 12 J Q (k + 1) 9 μ [v0, v1] (.ref a :: st) = (ab_ob a 2 ∧ ab_rn cl 12 J Q k 12 μ [v0, v1] (ab_fv μ a 0 :: st)) := x_get dX2_kindOf_9 rfl
theorem e12_12 : ab_rn cl 12 J Q (k + 1) 12 μ [v0, .int x] st = ab_rn cl 12 J Q k 13 μ [v0, .int x] (.int x :: st) := x_iload_n dX2_kindOf_12 rfl
theorem e12_13 : ab_rn cl 12 J Q (k + 1) 13 μ [v0, v1] (.int x :: .ref a :: st) = ((a < 81 ∧ ab_ak a = 0) ∧ vp_in x (ab_al a) ∧ ab_rn cl 12 J Q k 14 μ [v0, v1] (.int (μ (ab_cmp a) (ab_off a + x.toNatClampNeg)) :: st)) := x_iaload dX2_kindOf_13
theorem e12_14 : ab_rn cl 12 J Q (k + 1) 14 μ [v0, v1] st = ab_rn cl 12 J Q k 18 μ [v0, v1] st := x_gotoF dX2_kindOf_14 (fun _ _ _ _ _ => rfl)
theorem e12_17 : ab_rn cl 12 J Q (k + 1) 17 μ [v0, v1] st = ab_rn cl 12 J Q k 18 μ [v0, v1] (.int (-1) :: st) := x_iconst dX2_kindOf_17 (by decide)
theorem e12_18 : ab_rn cl 12 J Q (k + 1) 18 μ [v0, v1] [.int v] = Q (some v) μ := x_iret dX2_kindOf_18 rfl
theorem n12 {d : Nat} (h : ∀ J : ab_J, (∀ k pc μ ls st, ab_rn (ab_Cl d) 12 J Q k pc μ ls st → J pc μ ls st) → J 0 μ [v0, v1] []) : ab_Cl (d + 1) 12 [v0, v1] μ Q := ab_go h
theorem e13_0 : ab_rn cl 13 J Q (k + 1) 0 μ [.ref a, v1] st = ab_rn cl 13 J Q k 1 μ [.ref a, v1] (.ref a :: st) := x_aload_n dX2_massOf_0 rfl
theorem e13_1 : ab_rn cl 13 J Q (k + 1) 1 μ [v0, .int x] st = ab_rn cl 13 J Q k 2 μ [v0, .int x] (.int x :: st) := x_iload_n dX2_massOf_1 rfl
theorem e13_2 : ab_rn cl 13 J Q (k + 1) 2 μ [v0, v1] (.int x0 :: .ref a :: st) = (ab_ob a 2 ∧ st.length ≤ 4 ∧ cl 11 [.ref a, .int x0] μ (fun r μ' => ab_rn cl 13 J Q k 5 μ' [v0, v1] (ab_pu r st))) := x_v (as := [.int x0]) dX2_massOf_2 rfl rfl rfl rfl rfl
theorem e13_5 : ab_rn cl 13 J Q (k + 1) 5 μ [v0, v1] (.int x :: st) = (((x = 0) → ab_rn cl 13 J Q k 17 μ [v0, v1] st) ∧ ((¬ (x = 0)) → ab_rn cl 13 J Q k 8 μ [v0, v1] st)) := x_ifF dX2_massOf_5 rfl (fun _ _ _ _ _ => rfl)
theorem e13_8 : ab_rn cl 13 J Q (k + 1) 8 μ [.ref a, v1] st = ab_rn cl 13 J Q k 9 μ [.ref a, v1] (.ref a :: st) := x_aload_n dX2_massOf_8 rfl
theorem e13_9 : ab_rn cl 13 J Q (k + 1) 9 μ [v0, v1] (.ref a :: st) = (ab_ob a 2 ∧ ab_rn cl 13 J Q k 12 μ [v0, v1] (ab_fv μ a 1 :: st)) := x_get dX2_massOf_9 rfl
theorem e13_12 : ab_rn cl 13 J Q (k + 1) 12 μ [v0, .int x] st = ab_rn cl 13 J Q k 13 μ [v0, .int x] (.int x :: st) := x_iload_n dX2_massOf_12 rfl
theorem e13_13 : ab_rn cl 13 J Q (k + 1) 13 μ [v0, v1] (.int x :: .ref a :: st) = ((a < 81 ∧ ab_ak a = 0) ∧ vp_in x (ab_al a) ∧ ab_rn cl 13 J Q k 14 μ [v0, v1] (.int (μ (ab_cmp a) (ab_off a + x.toNatClampNeg)) :: st)) := x_iaload dX2_massOf_13
theorem e13_14 : ab_rn cl 13 J Q (k + 1) 14 μ [v0, v1] st = ab_rn cl 13 J Q k 18 μ [v0, v1] st := x_gotoF dX2_massOf_14 (fun _ _ _ _ _ => rfl)
theorem e13_17 : ab_rn cl 13 J Q (k + 1) 17 μ [v0, v1] st = ab_rn cl 13 J Q k 18 μ [v0, v1] (.int 0 :: st) := x_iconst dX2_massOf_17 (by decide)
theorem e13_18 : ab_rn cl 13 J Q (k + 1) 18 μ [v0, v1] [.int v] = Q (some v) μ := x_iret dX2_massOf_18 rfl
theorem n13 {d : Nat} (h : ∀ J : ab_J, (∀ k pc μ ls st, ab_rn (ab_Cl d) 13 J Q k pc μ ls st → J pc μ ls st) → J 0 μ [v0, v1] []) : ab_Cl (d + 1) 13 [v0, v1] μ Q := ab_go h
theorem e14_0 : ab_rn cl 14 J Q (k + 1) 0 μ [.ref a, v1] st = ab_rn cl 14 J Q k 1 μ [.ref a, v1] (.ref a :: st) := x_aload_n dX2_ageOf_0 rfl
theorem e14_1 : ab_rn cl 14 J Q (k + 1) 1 μ [v0, .int x] st = ab_rn cl 14 J Q k 2 μ [v0, .int x] (.int x :: st) := x_iload_n dX2_ageOf_1 rfl
theorem e14_2 : ab_rn cl 14 J Q (k + 1) 2 μ [v0, v1] (.int x0 :: .ref a :: st) = (ab_ob a 2 ∧ st.length ≤ 4 ∧ cl 11 [.ref a, .int x0] μ (fun r μ' => ab_rn cl 14 J Q k 5 μ' [v0, v1] (ab_pu r st))) := x_v (as := [.int x0]) dX2_ageOf_2 rfl rfl rfl rfl rfl
theorem e14_5 : ab_rn cl 14 J Q (k + 1) 5 μ [v0, v1] (.int x :: st) = (((x = 0) → ab_rn cl 14 J Q k 17 μ [v0, v1] st) ∧ ((¬ (x = 0)) → ab_rn cl 14 J Q k 8 μ [v0, v1] st)) := x_ifF dX2_ageOf_5 rfl (fun _ _ _ _ _ => rfl)
theorem e14_8 : ab_rn cl 14 J Q (k + 1) 8 μ [.ref a, v1] st = ab_rn cl 14 J Q k 9 μ [.ref a, v1] (.ref a :: st) := x_aload_n dX2_ageOf_8 rfl
theorem e14_9 : ab_rn cl 14 J Q (k + 1) 9 μ [v0, v1] (.ref a :: st) = (ab_ob a 2 ∧ ab_rn cl 14 J Q k 12 μ [v0, v1] (ab_fv μ a 2 :: st)) := x_get dX2_ageOf_9 rfl
theorem e14_12 : ab_rn cl 14 J Q (k + 1) 12 μ [v0, .int x] st = ab_rn cl 14 J Q k 13 μ [v0, .int x] (.int x :: st) := x_iload_n dX2_ageOf_12 rfl
theorem e14_13 : ab_rn cl 14 J Q (k + 1) 13 μ [v0, v1] (.int x :: .ref a :: st) = ((a < 81 ∧ ab_ak a = 0) ∧ vp_in x (ab_al a) ∧ ab_rn cl 14 J Q k 14 μ [v0, v1] (.int (μ (ab_cmp a) (ab_off a + x.toNatClampNeg)) :: st)) := x_iaload dX2_ageOf_13
theorem e14_14 : ab_rn cl 14 J Q (k + 1) 14 μ [v0, v1] st = ab_rn cl 14 J Q k 18 μ [v0, v1] st := x_gotoF dX2_ageOf_14 (fun _ _ _ _ _ => rfl)
theorem e14_17 : ab_rn cl 14 J Q (k + 1) 17 μ [v0, v1] st = ab_rn cl 14 J Q k 18 μ [v0, v1] (.int (-1) :: st) := x_iconst dX2_ageOf_17 (by decide)
theorem e14_18 : ab_rn cl 14 J Q (k + 1) 18 μ [v0, v1] [.int v] = Q (some v) μ := x_iret dX2_ageOf_18 rfl
theorem n14 {d : Nat} (h : ∀ J : ab_J, (∀ k pc μ ls st, ab_rn (ab_Cl d) 14 J Q k pc μ ls st → J pc μ ls st) → J 0 μ [v0, v1] []) : ab_Cl (d + 1) 14 [v0, v1] μ Q := ab_go h
theorem e15_0 : ab_rn cl 15 J Q (k + 1) 0 μ [.ref a, v1] st = ab_rn cl 15 J Q k 1 μ [.ref a, v1] (.ref a :: st) := x_aload_n dX2_indexOf_0 rfl
theorem e15_1 : ab_rn cl 15 J Q (k + 1) 1 μ [v0, .int x] st = ab_rn cl 15 J Q k 2 μ [v0, .int x] (.int x :: st) := x_iload_n dX2_indexOf_1 rfl
theorem e15_2 : ab_rn cl 15 J Q (k + 1) 2 μ [v0, v1] (.int x0 :: .ref a :: st) = (ab_ob a 2 ∧ st.length ≤ 4 ∧ cl 11 [.ref a, .int x0] μ (fun r μ' => ab_rn cl 15 J Q k 5 μ' [v0, v1] (ab_pu r st))) := x_v (as := [.int x0]) dX2_indexOf_2 rfl rfl rfl rfl rfl
theorem e15_5 : ab_rn cl 15 J Q (k + 1) 5 μ [v0, v1] (.int x :: st) = (((x = 0) → ab_rn cl 15 J Q k 34 μ [v0, v1] st) ∧ ((¬ (x = 0)) → ab_rn cl 15 J Q k 8 μ [v0, v1] st)) := x_ifF dX2_indexOf_5 rfl (fun _ _ _ _ _ => rfl)
theorem e15_8 : ab_rn cl 15 J Q (k + 1) 8 μ [.ref a, v1] st = ab_rn cl 15 J Q k 9 μ [.ref a, v1] (.ref a :: st) := x_aload_n dX2_indexOf_8 rfl
theorem e15_9 : ab_rn cl 15 J Q (k + 1) 9 μ [v0, v1] (.ref a :: st) = (ab_ob a 2 ∧ ab_rn cl 15 J Q k 12 μ [v0, v1] (ab_fv μ a 0 :: st)) := x_get dX2_indexOf_9 rfl
theorem e15_12 : ab_rn cl 15 J Q (k + 1) 12 μ [v0, .int x] st = ab_rn cl 15 J Q k 13 μ [v0, .int x] (.int x :: st) := x_iload_n dX2_indexOf_12 rfl
theorem e15_13 : ab_rn cl 15 J Q (k + 1) 13 μ [v0, v1] (.int x :: .ref a :: st) = ((a < 81 ∧ ab_ak a = 0) ∧ vp_in x (ab_al a) ∧ ab_rn cl 15 J Q k 14 μ [v0, v1] (.int (μ (ab_cmp a) (ab_off a + x.toNatClampNeg)) :: st)) := x_iaload dX2_indexOf_13
theorem e15_14 : ab_rn cl 15 J Q (k + 1) 14 μ [.ref a, v1] st = ab_rn cl 15 J Q k 15 μ [.ref a, v1] (.ref a :: st) := x_aload_n dX2_indexOf_14 rfl
theorem e15_15 : ab_rn cl 15 J Q (k + 1) 15 μ [v0, v1] (.ref a :: st) = (ab_ob a 2 ∧ ab_rn cl 15 J Q k 18 μ [v0, v1] (ab_fv μ a 2 :: st)) := x_get dX2_indexOf_15 rfl
theorem e15_18 : ab_rn cl 15 J Q (k + 1) 18 μ [v0, .int x] st = ab_rn cl 15 J Q k 19 μ [v0, .int x] (.int x :: st) := x_iload_n dX2_indexOf_18 rfl
theorem e15_19 : ab_rn cl 15 J Q (k + 1) 19 μ [v0, v1] (.int x :: .ref a :: st) = ((a < 81 ∧ ab_ak a = 0) ∧ vp_in x (ab_al a) ∧ ab_rn cl 15 J Q k 20 μ [v0, v1] (.int (μ (ab_cmp a) (ab_off a + x.toNatClampNeg)) :: st)) := x_iaload dX2_indexOf_19
theorem e15_20 : ab_rn cl 15 J Q (k + 1) 20 μ [v0, v1] (.int x1 :: .int x0 :: st) = (st.length ≤ 4 ∧ cl 31 [.int x0, .int x1] μ (fun r μ' => ab_rn cl 15 J Q k 23 μ' [v0, v1] (ab_pu r st))) := x_s (as := [.int x0, .int x1]) (b := 0) dX2_indexOf_20 rfl (by decide) rfl rfl rfl
theorem e15_23 : ab_rn cl 15 J Q (k + 1) 23 μ [.ref a, v1] st = ab_rn cl 15 J Q k 24 μ [.ref a, v1] (.ref a :: st) := x_aload_n dX2_indexOf_23 rfl
theorem e15_24 : ab_rn cl 15 J Q (k + 1) 24 μ [v0, .int x] st = ab_rn cl 15 J Q k 25 μ [v0, .int x] (.int x :: st) := x_iload_n dX2_indexOf_24 rfl
theorem e15_25 : ab_rn cl 15 J Q (k + 1) 25 μ [v0, v1] (.int x0 :: .ref a :: st) = (ab_ob a 2 ∧ st.length ≤ 4 ∧ cl 16 [.ref a, .int x0] μ (fun r μ' => ab_rn cl 15 J Q k 28 μ' [v0, v1] (ab_pu r st))) := x_v (as := [.int x0]) dX2_indexOf_25 rfl rfl rfl rfl rfl
theorem e15_28 : ab_rn cl 15 J Q (k + 1) 28 μ [v0, v1] (.int x1 :: .int x0 :: st) = (st.length ≤ 4 ∧ cl 30 [.int x0, .int x1] μ (fun r μ' => ab_rn cl 15 J Q k 31 μ' [v0, v1] (ab_pu r st))) := x_s (as := [.int x0, .int x1]) (b := 0) dX2_indexOf_28 rfl (by decide) rfl rfl rfl
theorem e15_31 : ab_rn cl 15 J Q (k + 1) 31 μ [v0, v1] st = ab_rn cl 15 J Q k 35 μ [v0, v1] st := x_gotoF dX2_indexOf_31 (fun _ _ _ _ _ => rfl)
theorem e15_34 : ab_rn cl 15 J Q (k + 1) 34 μ [v0, v1] st = ab_rn cl 15 J Q k 35 μ [v0, v1] (.int (-1) :: st) := x_iconst dX2_indexOf_34 (by decide)
theorem e15_35 : ab_rn cl 15 J Q (k + 1) 35 μ [v0, v1] [.int v] = Q (some v) μ := x_iret dX2_indexOf_35 rfl
theorem n15 {d : Nat} (h : ∀ J : ab_J, (∀ k pc μ ls st, ab_rn (ab_Cl d) 15 J Q k pc μ ls st → J pc μ ls st) → J 0 μ [v0, v1] []) : ab_Cl (d + 1) 15 [v0, v1] μ Q := ab_go h
theorem e16_0 : ab_rn cl 16 J Q (k + 1) 0 μ [.ref a, v1] st = ab_rn cl 16 J Q k 1 μ [.ref a, v1] (.ref a :: st) := x_aload_n dX2_massAbove_0 rfl
theorem e16_1 : ab_rn cl 16 J Q (k + 1) 1 μ [v0, .int x] st = ab_rn cl 16 J Q k 2 μ [v0, .int x] (.int x :: st) := x_iload_n dX2_massAbove_1 rfl
theorem e16_2 : ab_rn cl 16 J Q (k + 1) 2 μ [.ref a, v1] st = ab_rn cl 16 J Q k 3 μ [.ref a, v1] (.ref a :: st) := x_aload_n dX2_massAbove_2 rfl
theorem e16_3 : ab_rn cl 16 J Q (k + 1) 3 μ [v0, v1] (.ref a :: st) = (ab_ob a 2 ∧ ab_rn cl 16 J Q k 6 μ [v0, v1] (ab_fv μ a 3 :: st)) := x_get dX2_massAbove_3 rfl
theorem e16_6 : ab_rn cl 16 J Q (k + 1) 6 μ [v0, v1] (.int x1 :: .int x0 :: .ref a :: st) = (ab_ob a 2 ∧ st.length ≤ 4 ∧ cl 29 [.ref a, .int x0, .int x1] μ (fun r μ' => ab_rn cl 16 J Q k 9 μ' [v0, v1] (ab_pu r st))) := x_v (as := [.int x0, .int x1]) dX2_massAbove_6 rfl rfl rfl rfl rfl
theorem e16_9 : ab_rn cl 16 J Q (k + 1) 9 μ [v0, v1] [.int v] = Q (some v) μ := x_iret dX2_massAbove_9 rfl
theorem n16 {d : Nat} (h : ∀ J : ab_J, (∀ k pc μ ls st, ab_rn (ab_Cl d) 16 J Q k pc μ ls st → J pc μ ls st) → J 0 μ [v0, v1] []) : ab_Cl (d + 1) 16 [v0, v1] μ Q := ab_go h
theorem e17_0 : ab_rn cl 17 J Q (k + 1) 0 μ [v0, v1, v2, v3, v4, v5, v6] st = ab_rn cl 17 J Q k 1 μ [v0, v1, v2, v3, v4, v5, v6] (.int (-1) :: st) := x_iconst dX2_whyWithin_0 (by decide)
theorem e17_1 : ab_rn cl 17 J Q (k + 1) 1 μ [v0, v1, v2, v3, v4, v5, v6] (.int x :: st) = ab_rn cl 17 J Q k 2 μ [v0, v1, .int x, v3, v4, v5, v6] st := x_istore_n dX2_whyWithin_1 (Nat.le_of_ble_eq_true rfl) rfl
theorem e17_2 : ab_rn cl 17 J Q (k + 1) 2 μ [v0, v1, v2, v3, v4, v5, v6] st = ab_rn cl 17 J Q k 3 μ [v0, v1, v2, v3, v4, v5, v6] (.int 0 :: st) := x_iconst dX2_whyWithin_2 (by decide)
theorem e17_3 : ab_rn cl 17 J Q (k + 1) 3 μ [v0, v1, v2, v3, v4, v5, v6] (.int x :: st) = ab_rn cl 17 J Q k 4 μ [v0, v1, v2, .int x, v4, v5, v6] st := x_istore_n dX2_whyWithin_3 (Nat.le_of_ble_eq_true rfl) rfl
theorem e17_4 : ab_rn cl 17 J Q (k + 1) 4 μ [v0, v1, v2, v3, v4, v5, v6] st = ab_rn cl 17 J Q k 5 μ [v0, v1, v2, v3, v4, v5, v6] (.int 0 :: st) := x_iconst dX2_whyWithin_4 (by decide)
theorem e17_5 : ab_rn cl 17 J Q (k + 1) 5 μ [v0, v1, v2, v3, v4, v5, v6] (.int x :: st) = ab_rn cl 17 J Q k 7 μ [v0, v1, v2, v3, .int x, v5, v6] st := x_istore dX2_whyWithin_5 (Nat.le_of_ble_eq_true rfl) rfl
theorem e17_7 : ab_rn cl 17 J Q (k + 1) 7 μ [v0, .int x, v2, v3, v4, v5, v6] st = ab_rn cl 17 J Q k 8 μ [v0, .int x, v2, v3, v4, v5, v6] (.int x :: st) := x_iload_n dX2_whyWithin_7 rfl
theorem e17_8 : ab_rn cl 17 J Q (k + 1) 8 μ [.ref a, v1, v2, v3, v4, v5, v6] st = ab_rn cl 17 J Q k 9 μ [.ref a, v1, v2, v3, v4, v5, v6] (.ref a :: st) := x_aload_n dX2_whyWithin_8 rfl
theorem e17_9 : ab_rn cl 17 J Q (k + 1) 9 μ [v0, v1, v2, v3, v4, v5, v6] (.ref a :: st) = (ab_ob a 2 ∧ ab_rn cl 17 J Q k 12 μ [v0, v1, v2, v3, v4, v5, v6] (ab_fv μ a 3 :: st)) := x_get dX2_whyWithin_9 rfl
theorem e17_12 : ab_rn cl 17 J Q (k + 1) 12 μ [v0, v1, v2, v3, v4, v5, v6] (.int y :: .int x :: st) = (st.length ≤ 4 ∧ ab_rn cl 17 J Q k 15 μ [v0, v1, v2, v3, v4, v5, v6] (.int (if y < x then y else x) :: st)) := x_min dX2_whyWithin_12 rfl
theorem e17_15 : ab_rn cl 17 J Q (k + 1) 15 μ [v0, v1, v2, v3, v4, v5, v6] st = ab_rn cl 17 J Q k 16 μ [v0, v1, v2, v3, v4, v5, v6] (.int 1 :: st) := x_iconst dX2_whyWithin_15 (by decide)
theorem e17_16 : ab_rn cl 17 J Q (k + 1) 16 μ [v0, v1, v2, v3, v4, v5, v6] (.int y :: .int x :: st) = ab_rn cl 17 J Q k 17 μ [v0, v1, v2, v3, v4, v5, v6] (.int (x - y) :: st) := x_isub dX2_whyWithin_16
theorem e17_17 : ab_rn cl 17 J Q (k + 1) 17 μ [v0, v1, v2, v3, v4, v5, v6] (.int x :: st) = ab_rn cl 17 J Q k 19 μ [v0, v1, v2, v3, v4, .int x, v6] st := x_istore dX2_whyWithin_17 (Nat.le_of_ble_eq_true rfl) rfl
theorem e17_19 : ab_rn cl 17 J Q (k + 1) 19 μ [v0, v1, v2, v3, v4, .int x, v6] st = ab_rn cl 17 J Q k 21 μ [v0, v1, v2, v3, v4, .int x, v6] (.int x :: st) := x_iload dX2_whyWithin_19 rfl
theorem e17_21 : ab_rn cl 17 J Q (k + 1) 21 μ [v0, v1, v2, v3, v4, v5, v6] (.int x :: st) = (((x < 0) → ab_rn cl 17 J Q k 89 μ [v0, v1, v2, v3, v4, v5, v6] st) ∧ ((¬ (x < 0)) → ab_rn cl 17 J Q k 24 μ [v0, v1, v2, v3, v4, v5, v6] st)) := x_ifF dX2_whyWithin_21 rfl (fun _ _ _ _ _ => rfl)
theorem e17_24 : ab_rn cl 17 J Q (k + 1) 24 μ [.ref a, v1, v2, v3, v4, v5, v6] st = ab_rn cl 17 J Q k 25 μ [.ref a, v1, v2, v3, v4, v5, v6] (.ref a :: st) := x_aload_n dX2_whyWithin_24 rfl
theorem e17_25 : ab_rn cl 17 J Q (k + 1) 25 μ [v0, v1, v2, v3, v4, v5, v6] (.ref a :: st) = (ab_ob a 2 ∧ ab_rn cl 17 J Q k 28 μ [v0, v1, v2, v3, v4, v5, v6] (ab_fv μ a 0 :: st)) := x_get dX2_whyWithin_25 rfl
theorem e17_28 : ab_rn cl 17 J Q (k + 1) 28 μ [v0, v1, v2, v3, v4, .int x, v6] st = ab_rn cl 17 J Q k 30 μ [v0, v1, v2, v3, v4, .int x, v6] (.int x :: st) := x_iload dX2_whyWithin_28 rfl
theorem e17_30 : ab_rn cl 17 J Q (k + 1) 30 μ [v0, v1, v2, v3, v4, v5, v6] (.int x :: .ref a :: st) = ((a < 81 ∧ ab_ak a = 0) ∧ vp_in x (ab_al a) ∧ ab_rn cl 17 J Q k 31 μ [v0, v1, v2, v3, v4, v5, v6] (.int (μ (ab_cmp a) (ab_off a + x.toNatClampNeg)) :: st)) := x_iaload dX2_whyWithin_30
theorem e17_31 : ab_rn cl 17 J Q (k + 1) 31 μ [.ref a, v1, v2, v3, v4, v5, v6] st = ab_rn cl 17 J Q k 32 μ [.ref a, v1, v2, v3, v4, v5, v6] (.ref a :: st) := x_aload_n dX2_whyWithin_31 rfl
theorem e17_32 : ab_rn cl 17 J Q (k + 1) 32 μ [v0, v1, v2, v3, v4, v5, v6] (.ref a :: st) = (ab_ob a 2 ∧ ab_rn cl 17 J Q k 35 μ [v0, v1, v2, v3, v4, v5, v6] (ab_fv μ a 2 :: st)) := x_get dX2_whyWithin_32 rfl
theorem e17_35 : ab_rn cl 17 J Q (k + 1) 35 μ [v0, v1, v2, v3, v4, .int x, v6] st = ab_rn cl 17 J Q k 37 μ [v0, v1, v2, v3, v4, .int x, v6] (.int x :: st) := x_iload dX2_whyWithin_35 rfl
theorem e17_37 : ab_rn cl 17 J Q (k + 1) 37 μ [v0, v1, v2, v3, v4, v5, v6] (.int x :: .ref a :: st) = ((a < 81 ∧ ab_ak a = 0) ∧ vp_in x (ab_al a) ∧ ab_rn cl 17 J Q k 38 μ [v0, v1, v2, v3, v4, v5, v6] (.int (μ (ab_cmp a) (ab_off a + x.toNatClampNeg)) :: st)) := x_iaload dX2_whyWithin_37
theorem e17_38 : ab_rn cl 17 J Q (k + 1) 38 μ [v0, v1, v2, v3, v4, v5, v6] (.int x1 :: .int x0 :: st) = (st.length ≤ 4 ∧ cl 31 [.int x0, .int x1] μ (fun r μ' => ab_rn cl 17 J Q k 41 μ' [v0, v1, v2, v3, v4, v5, v6] (ab_pu r st))) := x_s (as := [.int x0, .int x1]) (b := 0) dX2_whyWithin_38 rfl (by decide) rfl rfl rfl
theorem e17_41 : ab_rn cl 17 J Q (k + 1) 41 μ [v0, v1, v2, v3, .int x, v5, v6] st = ab_rn cl 17 J Q k 43 μ [v0, v1, v2, v3, .int x, v5, v6] (.int x :: st) := x_iload dX2_whyWithin_41 rfl
theorem e17_43 : ab_rn cl 17 J Q (k + 1) 43 μ [v0, v1, v2, v3, v4, v5, v6] (.int x1 :: .int x0 :: st) = (st.length ≤ 4 ∧ cl 30 [.int x0, .int x1] μ (fun r μ' => ab_rn cl 17 J Q k 46 μ' [v0, v1, v2, v3, v4, v5, v6] (ab_pu r st))) := x_s (as := [.int x0, .int x1]) (b := 0) dX2_whyWithin_43 rfl (by decide) rfl rfl rfl
theorem e17_46 : ab_rn cl 17 J Q (k + 1) 46 μ [v0, v1, v2, v3, v4, v5, v6] (.int x :: st) = ab_rn cl 17 J Q k 48 μ [v0, v1, v2, v3, v4, v5, .int x] st := x_istore dX2_whyWithin_46 (Nat.le_of_ble_eq_true rfl) rfl
theorem e17_48 : ab_rn cl 17 J Q (k + 1) 48 μ [v0, v1, v2, v3, v4, v5, .int x] st = ab_rn cl 17 J Q k 50 μ [v0, v1, v2, v3, v4, v5, .int x] (.int x :: st) := x_iload dX2_whyWithin_48 rfl
theorem e17_50 : ab_rn cl 17 J Q (k + 1) 50 μ [v0, v1, v2, v3, v4, v5, v6] st = ab_rn cl 17 J Q k 51 μ [v0, v1, v2, v3, v4, v5, v6] (.int (-1) :: st) := x_iconst dX2_whyWithin_50 (by decide)
theorem e17_51 : ab_rn cl 17 J Q (k + 1) 51 μ [v0, v1, v2, v3, v4, v5, v6] (.int y :: .int x :: st) = (((x = y) → ab_rn cl 17 J Q k 71 μ [v0, v1, v2, v3, v4, v5, v6] st) ∧ ((¬ (x = y)) → ab_rn cl 17 J Q k 54 μ [v0, v1, v2, v3, v4, v5, v6] st)) := x_icmpF dX2_whyWithin_51 rfl (fun _ _ _ _ _ => rfl)
theorem e17_54 : ab_rn cl 17 J Q (k + 1) 54 μ [v0, v1, .int x, v3, v4, v5, v6] st = ab_rn cl 17 J Q k 55 μ [v0, v1, .int x, v3, v4, v5, v6] (.int x :: st) := x_iload_n dX2_whyWithin_54 rfl
theorem e17_55 : ab_rn cl 17 J Q (k + 1) 55 μ [v0, v1, v2, v3, v4, v5, v6] st = ab_rn cl 17 J Q k 56 μ [v0, v1, v2, v3, v4, v5, v6] (.int (-1) :: st) := x_iconst dX2_whyWithin_55 (by decide)
theorem e17_56 : ab_rn cl 17 J Q (k + 1) 56 μ [v0, v1, v2, v3, v4, v5, v6] (.int y :: .int x :: st) = (((x = y) → ab_rn cl 17 J Q k 65 μ [v0, v1, v2, v3, v4, v5, v6] st) ∧ ((¬ (x = y)) → ab_rn cl 17 J Q k 59 μ [v0, v1, v2, v3, v4, v5, v6] st)) := x_icmpF dX2_whyWithin_56 rfl (fun _ _ _ _ _ => rfl)
theorem e17_59 : ab_rn cl 17 J Q (k + 1) 59 μ [v0, v1, v2, v3, v4, v5, .int x] st = ab_rn cl 17 J Q k 61 μ [v0, v1, v2, v3, v4, v5, .int x] (.int x :: st) := x_iload dX2_whyWithin_59 rfl
theorem e17_61 : ab_rn cl 17 J Q (k + 1) 61 μ [v0, v1, v2, .int x, v4, v5, v6] st = ab_rn cl 17 J Q k 62 μ [v0, v1, v2, .int x, v4, v5, v6] (.int x :: st) := x_iload_n dX2_whyWithin_61 rfl
theorem e17_62 : ab_rn cl 17 J Q (k + 1) 62 μ [v0, v1, v2, v3, v4, v5, v6] (.int y :: .int x :: st) = (((y ≤ x) → ab_rn cl 17 J Q k 71 μ [v0, v1, v2, v3, v4, v5, v6] st) ∧ ((¬ (y ≤ x)) → ab_rn cl 17 J Q k 65 μ [v0, v1, v2, v3, v4, v5, v6] st)) := x_icmpF dX2_whyWithin_62 rfl (fun _ _ _ _ _ => rfl)
theorem e17_65 : ab_rn cl 17 J Q (k + 1) 65 μ [v0, v1, v2, v3, v4, .int x, v6] st = ab_rn cl 17 J Q k 67 μ [v0, v1, v2, v3, v4, .int x, v6] (.int x :: st) := x_iload dX2_whyWithin_65 rfl
theorem e17_67 : ab_rn cl 17 J Q (k + 1) 67 μ [v0, v1, v2, v3, v4, v5, v6] (.int x :: st) = ab_rn cl 17 J Q k 68 μ [v0, v1, .int x, v3, v4, v5, v6] st := x_istore_n dX2_whyWithin_67 (Nat.le_of_ble_eq_true rfl) rfl
theorem e17_68 : ab_rn cl 17 J Q (k + 1) 68 μ [v0, v1, v2, v3, v4, v5, .int x] st = ab_rn cl 17 J Q k 70 μ [v0, v1, v2, v3, v4, v5, .int x] (.int x :: st) := x_iload dX2_whyWithin_68 rfl
theorem e17_70 : ab_rn cl 17 J Q (k + 1) 70 μ [v0, v1, v2, v3, v4, v5, v6] (.int x :: st) = ab_rn cl 17 J Q k 71 μ [v0, v1, v2, .int x, v4, v5, v6] st := x_istore_n dX2_whyWithin_70 (Nat.le_of_ble_eq_true rfl) rfl
theorem e17_71 : ab_rn cl 17 J Q (k + 1) 71 μ [v0, v1, v2, v3, .int x, v5, v6] st = ab_rn cl 17 J Q k 73 μ [v0, v1, v2, v3, .int x, v5, v6] (.int x :: st) := x_iload dX2_whyWithin_71 rfl
theorem e17_73 : ab_rn cl 17 J Q (k + 1) 73 μ [.ref a, v1, v2, v3, v4, v5, v6] st = ab_rn cl 17 J Q k 74 μ [.ref a, v1, v2, v3, v4, v5, v6] (.ref a :: st) := x_aload_n dX2_whyWithin_73 rfl
theorem e17_74 : ab_rn cl 17 J Q (k + 1) 74 μ [v0, v1, v2, v3, v4, v5, v6] (.ref a :: st) = (ab_ob a 2 ∧ ab_rn cl 17 J Q k 77 μ [v0, v1, v2, v3, v4, v5, v6] (ab_fv μ a 1 :: st)) := x_get dX2_whyWithin_74 rfl
theorem e17_77 : ab_rn cl 17 J Q (k + 1) 77 μ [v0, v1, v2, v3, v4, .int x, v6] st = ab_rn cl 17 J Q k 79 μ [v0, v1, v2, v3, v4, .int x, v6] (.int x :: st) := x_iload dX2_whyWithin_77 rfl
theorem e17_79 : ab_rn cl 17 J Q (k + 1) 79 μ [v0, v1, v2, v3, v4, v5, v6] (.int x :: .ref a :: st) = ((a < 81 ∧ ab_ak a = 0) ∧ vp_in x (ab_al a) ∧ ab_rn cl 17 J Q k 80 μ [v0, v1, v2, v3, v4, v5, v6] (.int (μ (ab_cmp a) (ab_off a + x.toNatClampNeg)) :: st)) := x_iaload dX2_whyWithin_79
theorem e17_80 : ab_rn cl 17 J Q (k + 1) 80 μ [v0, v1, v2, v3, v4, v5, v6] (.int y :: .int x :: st) = ab_rn cl 17 J Q k 81 μ [v0, v1, v2, v3, v4, v5, v6] (.int (x + y) :: st) := x_iadd dX2_whyWithin_80
theorem e17_81 : ab_rn cl 17 J Q (k + 1) 81 μ [v0, v1, v2, v3, v4, v5, v6] (.int x :: st) = ab_rn cl 17 J Q k 83 μ [v0, v1, v2, v3, .int x, v5, v6] st := x_istore dX2_whyWithin_81 (Nat.le_of_ble_eq_true rfl) rfl
theorem e17_83 : ab_rn cl 17 J Q (k + 1) 83 μ [v0, v1, v2, v3, v4, .int x, v6] st = ab_rn cl 17 J Q k 86 μ [v0, v1, v2, v3, v4, .int (x + (-1)), v6] st := x_iinc dX2_whyWithin_83 (w := (-1)) (by decide) rfl rfl
theorem e17_86 : ab_rn cl 17 J Q (k + 1) 86 μ [v0, v1, v2, v3, v4, v5, v6] st = J 19 μ [v0, v1, v2, v3, v4, v5, v6] st := x_gotoB dX2_whyWithin_86 (fun _ _ _ _ _ => rfl)
theorem e17_89 : ab_rn cl 17 J Q (k + 1) 89 μ [v0, v1, .int x, v3, v4, v5, v6] st = ab_rn cl 17 J Q k 90 μ [v0, v1, .int x, v3, v4, v5, v6] (.int x :: st) := x_iload_n dX2_whyWithin_89 rfl
theorem e17_90 : ab_rn cl 17 J Q (k + 1) 90 μ [v0, v1, v2, v3, v4, v5, v6] [.int v] = Q (some v) μ := x_iret dX2_whyWithin_90 rfl
theorem n17 {d : Nat} (h : ∀ J : ab_J, (∀ k pc μ ls st, ab_rn (ab_Cl d) 17 J Q k pc μ ls st → J pc μ ls st) → J 0 μ [v0, v1, .null, .null, .null, .null, .null] []) : ab_Cl (d + 1) 17 [v0, v1] μ Q := ab_go h
theorem e18_0 : ab_rn cl 18 J Q (k + 1) 0 μ [.ref a, v1, v2, v3] st = ab_rn cl 18 J Q k 1 μ [.ref a, v1, v2, v3] (.ref a :: st) := x_aload_n dX2_likelyWithin_0 rfl
theorem e18_1 : ab_rn cl 18 J Q (k + 1) 1 μ [v0, .int x, v2, v3] st = ab_rn cl 18 J Q k 2 μ [v0, .int x, v2, v3] (.int x :: st) := x_iload_n dX2_likelyWithin_1 rfl
theorem e18_2 : ab_rn cl 18 J Q (k + 1) 2 μ [v0, v1, v2, v3] (.int x0 :: .ref a :: st) = (ab_ob a 2 ∧ st.length ≤ 4 ∧ cl 17 [.ref a, .int x0] μ (fun r μ' => ab_rn cl 18 J Q k 5 μ' [v0, v1, v2, v3] (ab_pu r st))) := x_v (as := [.int x0]) dX2_likelyWithin_2 rfl rfl rfl rfl rfl
theorem e18_5 : ab_rn cl 18 J Q (k + 1) 5 μ [v0, v1, v2, v3] (.int x :: st) = ab_rn cl 18 J Q k 6 μ [v0, v1, .int x, v3] st := x_istore_n dX2_likelyWithin_5 (Nat.le_of_ble_eq_true rfl) rfl
theorem e18_6 : ab_rn cl 18 J Q (k + 1) 6 μ [.ref a, v1, v2, v3] st = ab_rn cl 18 J Q k 7 μ [.ref a, v1, v2, v3] (.ref a :: st) := x_aload_n dX2_likelyWithin_6 rfl
theorem e18_7 : ab_rn cl 18 J Q (k + 1) 7 μ [v0, v1, .int x, v3] st = ab_rn cl 18 J Q k 8 μ [v0, v1, .int x, v3] (.int x :: st) := x_iload_n dX2_likelyWithin_7 rfl
theorem e18_8 : ab_rn cl 18 J Q (k + 1) 8 μ [v0, v1, v2, v3] (.int x0 :: .ref a :: st) = (ab_ob a 2 ∧ st.length ≤ 4 ∧ cl 11 [.ref a, .int x0] μ (fun r μ' => ab_rn cl 18 J Q k 11 μ' [v0, v1, v2, v3] (ab_pu r st))) := x_v (as := [.int x0]) dX2_likelyWithin_8 rfl rfl rfl rfl rfl
theorem e18_11 : ab_rn cl 18 J Q (k + 1) 11 μ [v0, v1, v2, v3] (.int x :: st) = (((¬ x = 0) → ab_rn cl 18 J Q k 16 μ [v0, v1, v2, v3] st) ∧ ((¬ (¬ x = 0)) → ab_rn cl 18 J Q k 14 μ [v0, v1, v2, v3] st)) := x_ifF dX2_likelyWithin_11 rfl (fun _ _ _ _ _ => rfl)
theorem e18_14 : ab_rn cl 18 J Q (k + 1) 14 μ [v0, v1, v2, v3] st = ab_rn cl 18 J Q k 15 μ [v0, v1, v2, v3] (.int 0 :: st) := x_iconst dX2_likelyWithin_14 (by decide)
theorem e18_15 : ab_rn cl 18 J Q (k + 1) 15 μ [v0, v1, v2, v3] [.int v] = Q (some v) μ := x_iret dX2_likelyWithin_15 rfl
theorem e18_16 : ab_rn cl 18 J Q (k + 1) 16 μ [.ref a, v1, v2, v3] st = ab_rn cl 18 J Q k 17 μ [.ref a, v1, v2, v3] (.ref a :: st) := x_aload_n dX2_likelyWithin_16 rfl
theorem e18_17 : ab_rn cl 18 J Q (k + 1) 17 μ [v0, v1, v2, v3] (.ref a :: st) = (ab_ob a 2 ∧ ab_rn cl 18 J Q k 20 μ [v0, v1, v2, v3] (ab_fv μ a 0 :: st)) := x_get dX2_likelyWithin_17 rfl
theorem e18_20 : ab_rn cl 18 J Q (k + 1) 20 μ [v0, v1, .int x, v3] st = ab_rn cl 18 J Q k 21 μ [v0, v1, .int x, v3] (.int x :: st) := x_iload_n dX2_likelyWithin_20 rfl
theorem e18_21 : ab_rn cl 18 J Q (k + 1) 21 μ [v0, v1, v2, v3] (.int x :: .ref a :: st) = ((a < 81 ∧ ab_ak a = 0) ∧ vp_in x (ab_al a) ∧ ab_rn cl 18 J Q k 22 μ [v0, v1, v2, v3] (.int (μ (ab_cmp a) (ab_off a + x.toNatClampNeg)) :: st)) := x_iaload dX2_likelyWithin_21
theorem e18_22 : ab_rn cl 18 J Q (k + 1) 22 μ [.ref a, v1, v2, v3] st = ab_rn cl 18 J Q k 23 μ [.ref a, v1, v2, v3] (.ref a :: st) := x_aload_n dX2_likelyWithin_22 rfl
theorem e18_23 : ab_rn cl 18 J Q (k + 1) 23 μ [v0, v1, v2, v3] (.ref a :: st) = (ab_ob a 2 ∧ ab_rn cl 18 J Q k 26 μ [v0, v1, v2, v3] (ab_fv μ a 2 :: st)) := x_get dX2_likelyWithin_23 rfl
theorem e18_26 : ab_rn cl 18 J Q (k + 1) 26 μ [v0, v1, .int x, v3] st = ab_rn cl 18 J Q k 27 μ [v0, v1, .int x, v3] (.int x :: st) := x_iload_n dX2_likelyWithin_26 rfl
theorem e18_27 : ab_rn cl 18 J Q (k + 1) 27 μ [v0, v1, v2, v3] (.int x :: .ref a :: st) = ((a < 81 ∧ ab_ak a = 0) ∧ vp_in x (ab_al a) ∧ ab_rn cl 18 J Q k 28 μ [v0, v1, v2, v3] (.int (μ (ab_cmp a) (ab_off a + x.toNatClampNeg)) :: st)) := x_iaload dX2_likelyWithin_27
theorem e18_28 : ab_rn cl 18 J Q (k + 1) 28 μ [v0, v1, v2, v3] (.int x1 :: .int x0 :: st) = (st.length ≤ 4 ∧ cl 31 [.int x0, .int x1] μ (fun r μ' => ab_rn cl 18 J Q k 31 μ' [v0, v1, v2, v3] (ab_pu r st))) := x_s (as := [.int x0, .int x1]) (b := 0) dX2_likelyWithin_28 rfl (by decide) rfl rfl rfl
theorem e18_31 : ab_rn cl 18 J Q (k + 1) 31 μ [.ref a, v1, v2, v3] st = ab_rn cl 18 J Q k 32 μ [.ref a, v1, v2, v3] (.ref a :: st) := x_aload_n dX2_likelyWithin_31 rfl
theorem e18_32 : ab_rn cl 18 J Q (k + 1) 32 μ [v0, v1, .int x, v3] st = ab_rn cl 18 J Q k 33 μ [v0, v1, .int x, v3] (.int x :: st) := x_iload_n dX2_likelyWithin_32 rfl
theorem e18_33 : ab_rn cl 18 J Q (k + 1) 33 μ [v0, .int x, v2, v3] st = ab_rn cl 18 J Q k 34 μ [v0, .int x, v2, v3] (.int x :: st) := x_iload_n dX2_likelyWithin_33 rfl
theorem e18_34 : ab_rn cl 18 J Q (k + 1) 34 μ [v0, v1, v2, v3] (.int x1 :: .int x0 :: .ref a :: st) = (ab_ob a 2 ∧ st.length ≤ 4 ∧ cl 29 [.ref a, .int x0, .int x1] μ (fun r μ' => ab_rn cl 18 J Q k 37 μ' [v0, v1, v2, v3] (ab_pu r st))) := x_v (as := [.int x0, .int x1]) dX2_likelyWithin_34 rfl rfl rfl rfl rfl
theorem e18_37 : ab_rn cl 18 J Q (k + 1) 37 μ [v0, v1, v2, v3] (.int x1 :: .int x0 :: st) = (st.length ≤ 4 ∧ cl 30 [.int x0, .int x1] μ (fun r μ' => ab_rn cl 18 J Q k 40 μ' [v0, v1, v2, v3] (ab_pu r st))) := x_s (as := [.int x0, .int x1]) (b := 0) dX2_likelyWithin_37 rfl (by decide) rfl rfl rfl
theorem e18_40 : ab_rn cl 18 J Q (k + 1) 40 μ [v0, v1, v2, v3] (.int x :: st) = ab_rn cl 18 J Q k 41 μ [v0, v1, v2, .int x] st := x_istore_n dX2_likelyWithin_40 (Nat.le_of_ble_eq_true rfl) rfl
theorem e18_41 : ab_rn cl 18 J Q (k + 1) 41 μ [v0, v1, v2, .int x] st = ab_rn cl 18 J Q k 42 μ [v0, v1, v2, .int x] (.int x :: st) := x_iload_n dX2_likelyWithin_41 rfl
theorem e18_42 : ab_rn cl 18 J Q (k + 1) 42 μ [v0, v1, v2, v3] st = ab_rn cl 18 J Q k 44 μ [v0, v1, v2, v3] (.int 100 :: st) := x_bipush dX2_likelyWithin_42 (by decide)
theorem e18_44 : ab_rn cl 18 J Q (k + 1) 44 μ [v0, v1, v2, v3] (.int y :: .int x :: st) = (((y ≤ x) → ab_rn cl 18 J Q k 49 μ [v0, v1, v2, v3] st) ∧ ((¬ (y ≤ x)) → ab_rn cl 18 J Q k 47 μ [v0, v1, v2, v3] st)) := x_icmpF dX2_likelyWithin_44 rfl (fun _ _ _ _ _ => rfl)
theorem e18_47 : ab_rn cl 18 J Q (k + 1) 47 μ [v0, v1, v2, v3] st = ab_rn cl 18 J Q k 48 μ [v0, v1, v2, v3] (.int 3 :: st) := x_iconst dX2_likelyWithin_47 (by decide)
theorem e18_48 : ab_rn cl 18 J Q (k + 1) 48 μ [v0, v1, v2, v3] [.int v] = Q (some v) μ := x_iret dX2_likelyWithin_48 rfl
theorem e18_49 : ab_rn cl 18 J Q (k + 1) 49 μ [v0, v1, v2, .int x] st = ab_rn cl 18 J Q k 50 μ [v0, v1, v2, .int x] (.int x :: st) := x_iload_n dX2_likelyWithin_49 rfl
theorem e18_50 : ab_rn cl 18 J Q (k + 1) 50 μ [v0, v1, v2, v3] st = ab_rn cl 18 J Q k 53 μ [v0, v1, v2, v3] (.int 150 :: st) := x_sipush dX2_likelyWithin_50 (by decide)
theorem e18_53 : ab_rn cl 18 J Q (k + 1) 53 μ [v0, v1, v2, v3] (.int y :: .int x :: st) = (((y ≤ x) → ab_rn cl 18 J Q k 58 μ [v0, v1, v2, v3] st) ∧ ((¬ (y ≤ x)) → ab_rn cl 18 J Q k 56 μ [v0, v1, v2, v3] st)) := x_icmpF dX2_likelyWithin_53 rfl (fun _ _ _ _ _ => rfl)
theorem e18_56 : ab_rn cl 18 J Q (k + 1) 56 μ [v0, v1, v2, v3] st = ab_rn cl 18 J Q k 57 μ [v0, v1, v2, v3] (.int 2 :: st) := x_iconst dX2_likelyWithin_56 (by decide)
theorem e18_57 : ab_rn cl 18 J Q (k + 1) 57 μ [v0, v1, v2, v3] [.int v] = Q (some v) μ := x_iret dX2_likelyWithin_57 rfl
theorem e18_58 : ab_rn cl 18 J Q (k + 1) 58 μ [v0, v1, v2, .int x] st = ab_rn cl 18 J Q k 59 μ [v0, v1, v2, .int x] (.int x :: st) := x_iload_n dX2_likelyWithin_58 rfl
theorem e18_59 : ab_rn cl 18 J Q (k + 1) 59 μ [v0, v1, v2, v3] st = ab_rn cl 18 J Q k 62 μ [v0, v1, v2, v3] (.int 300 :: st) := x_sipush dX2_likelyWithin_59 (by decide)
theorem e18_62 : ab_rn cl 18 J Q (k + 1) 62 μ [v0, v1, v2, v3] (.int y :: .int x :: st) = (((y ≤ x) → ab_rn cl 18 J Q k 69 μ [v0, v1, v2, v3] st) ∧ ((¬ (y ≤ x)) → ab_rn cl 18 J Q k 65 μ [v0, v1, v2, v3] st)) := x_icmpF dX2_likelyWithin_62 rfl (fun _ _ _ _ _ => rfl)
theorem e18_65 : ab_rn cl 18 J Q (k + 1) 65 μ [v0, v1, v2, v3] st = ab_rn cl 18 J Q k 66 μ [v0, v1, v2, v3] (.int 1 :: st) := x_iconst dX2_likelyWithin_65 (by decide)
theorem e18_66 : ab_rn cl 18 J Q (k + 1) 66 μ [v0, v1, v2, v3] st = ab_rn cl 18 J Q k 70 μ [v0, v1, v2, v3] st := x_gotoF dX2_likelyWithin_66 (fun _ _ _ _ _ => rfl)
theorem e18_69 : ab_rn cl 18 J Q (k + 1) 69 μ [v0, v1, v2, v3] st = ab_rn cl 18 J Q k 70 μ [v0, v1, v2, v3] (.int 0 :: st) := x_iconst dX2_likelyWithin_69 (by decide)
theorem e18_70 : ab_rn cl 18 J Q (k + 1) 70 μ [v0, v1, v2, v3] [.int v] = Q (some v) μ := x_iret dX2_likelyWithin_70 rfl
theorem n18 {d : Nat} (h : ∀ J : ab_J, (∀ k pc μ ls st, ab_rn (ab_Cl d) 18 J Q k pc μ ls st → J pc μ ls st) → J 0 μ [v0, v1, .null, .null] []) : ab_Cl (d + 1) 18 [v0, v1] μ Q := ab_go h
theorem e19_0 : ab_rn cl 19 J Q (k + 1) 0 μ [.ref a, v1, v2, v3] st = ab_rn cl 19 J Q k 1 μ [.ref a, v1, v2, v3] (.ref a :: st) := x_aload_n dX2_sizeWithin_0 rfl
theorem e19_1 : ab_rn cl 19 J Q (k + 1) 1 μ [v0, .int x, v2, v3] st = ab_rn cl 19 J Q k 2 μ [v0, .int x, v2, v3] (.int x :: st) := x_iload_n dX2_sizeWithin_1 rfl
theorem e19_2 : ab_rn cl 19 J Q (k + 1) 2 μ [v0, v1, v2, v3] (.int x0 :: .ref a :: st) = (ab_ob a 2 ∧ st.length ≤ 4 ∧ cl 17 [.ref a, .int x0] μ (fun r μ' => ab_rn cl 19 J Q k 5 μ' [v0, v1, v2, v3] (ab_pu r st))) := x_v (as := [.int x0]) dX2_sizeWithin_2 rfl rfl rfl rfl rfl
theorem e19_5 : ab_rn cl 19 J Q (k + 1) 5 μ [v0, v1, v2, v3] (.int x :: st) = ab_rn cl 19 J Q k 6 μ [v0, v1, .int x, v3] st := x_istore_n dX2_sizeWithin_5 (Nat.le_of_ble_eq_true rfl) rfl
theorem e19_6 : ab_rn cl 19 J Q (k + 1) 6 μ [v0, v1, .int x, v3] st = ab_rn cl 19 J Q k 7 μ [v0, v1, .int x, v3] (.int x :: st) := x_iload_n dX2_sizeWithin_6 rfl
theorem e19_7 : ab_rn cl 19 J Q (k + 1) 7 μ [v0, v1, v2, v3] st = ab_rn cl 19 J Q k 8 μ [v0, v1, v2, v3] (.int (-1) :: st) := x_iconst dX2_sizeWithin_7 (by decide)
theorem e19_8 : ab_rn cl 19 J Q (k + 1) 8 μ [v0, v1, v2, v3] (.int y :: .int x :: st) = (((¬ x = y) → ab_rn cl 19 J Q k 15 μ [v0, v1, v2, v3] st) ∧ ((¬ (¬ x = y)) → ab_rn cl 19 J Q k 11 μ [v0, v1, v2, v3] st)) := x_icmpF dX2_sizeWithin_8 rfl (fun _ _ _ _ _ => rfl)
theorem e19_11 : ab_rn cl 19 J Q (k + 1) 11 μ [v0, v1, v2, v3] st = ab_rn cl 19 J Q k 12 μ [v0, v1, v2, v3] (.int 0 :: st) := x_iconst dX2_sizeWithin_11 (by decide)
theorem e19_12 : ab_rn cl 19 J Q (k + 1) 12 μ [v0, v1, v2, v3] st = ab_rn cl 19 J Q k 21 μ [v0, v1, v2, v3] st := x_gotoF dX2_sizeWithin_12 (fun _ _ _ _ _ => rfl)
theorem e19_15 : ab_rn cl 19 J Q (k + 1) 15 μ [.ref a, v1, v2, v3] st = ab_rn cl 19 J Q k 16 μ [.ref a, v1, v2, v3] (.ref a :: st) := x_aload_n dX2_sizeWithin_15 rfl
theorem e19_16 : ab_rn cl 19 J Q (k + 1) 16 μ [v0, v1, .int x, v3] st = ab_rn cl 19 J Q k 17 μ [v0, v1, .int x, v3] (.int x :: st) := x_iload_n dX2_sizeWithin_16 rfl
theorem e19_17 : ab_rn cl 19 J Q (k + 1) 17 μ [v0, .int x, v2, v3] st = ab_rn cl 19 J Q k 18 μ [v0, .int x, v2, v3] (.int x :: st) := x_iload_n dX2_sizeWithin_17 rfl
theorem e19_18 : ab_rn cl 19 J Q (k + 1) 18 μ [v0, v1, v2, v3] (.int x1 :: .int x0 :: .ref a :: st) = (ab_ob a 2 ∧ st.length ≤ 4 ∧ cl 29 [.ref a, .int x0, .int x1] μ (fun r μ' => ab_rn cl 19 J Q k 21 μ' [v0, v1, v2, v3] (ab_pu r st))) := x_v (as := [.int x0, .int x1]) dX2_sizeWithin_18 rfl rfl rfl rfl rfl
theorem e19_21 : ab_rn cl 19 J Q (k + 1) 21 μ [v0, v1, v2, v3] (.int x :: st) = ab_rn cl 19 J Q k 22 μ [v0, v1, v2, .int x] st := x_istore_n dX2_sizeWithin_21 (Nat.le_of_ble_eq_true rfl) rfl
theorem e19_22 : ab_rn cl 19 J Q (k + 1) 22 μ [v0, v1, v2, .int x] st = ab_rn cl 19 J Q k 23 μ [v0, v1, v2, .int x] (.int x :: st) := x_iload_n dX2_sizeWithin_22 rfl
theorem e19_23 : ab_rn cl 19 J Q (k + 1) 23 μ [v0, v1, v2, v3] st = ab_rn cl 19 J Q k 26 μ [v0, v1, v2, v3] (.int 500 :: st) := x_sipush dX2_sizeWithin_23 (by decide)
theorem e19_26 : ab_rn cl 19 J Q (k + 1) 26 μ [v0, v1, v2, v3] (.int y :: .int x :: st) = (((x < y) → ab_rn cl 19 J Q k 31 μ [v0, v1, v2, v3] st) ∧ ((¬ (x < y)) → ab_rn cl 19 J Q k 29 μ [v0, v1, v2, v3] st)) := x_icmpF dX2_sizeWithin_26 rfl (fun _ _ _ _ _ => rfl)
theorem e19_29 : ab_rn cl 19 J Q (k + 1) 29 μ [v0, v1, v2, v3] st = ab_rn cl 19 J Q k 30 μ [v0, v1, v2, v3] (.int 2 :: st) := x_iconst dX2_sizeWithin_29 (by decide)
theorem e19_30 : ab_rn cl 19 J Q (k + 1) 30 μ [v0, v1, v2, v3] [.int v] = Q (some v) μ := x_iret dX2_sizeWithin_30 rfl
theorem e19_31 : ab_rn cl 19 J Q (k + 1) 31 μ [v0, v1, v2, .int x] st = ab_rn cl 19 J Q k 32 μ [v0, v1, v2, .int x] (.int x :: st) := x_iload_n dX2_sizeWithin_31 rfl
theorem e19_32 : ab_rn cl 19 J Q (k + 1) 32 μ [v0, v1, v2, v3] st = ab_rn cl 19 J Q k 35 μ [v0, v1, v2, v3] (.int 200 :: st) := x_sipush dX2_sizeWithin_32 (by decide)
theorem e19_35 : ab_rn cl 19 J Q (k + 1) 35 μ [v0, v1, v2, v3] (.int y :: .int x :: st) = (((x < y) → ab_rn cl 19 J Q k 42 μ [v0, v1, v2, v3] st) ∧ ((¬ (x < y)) → ab_rn cl 19 J Q k 38 μ [v0, v1, v2, v3] st)) := x_icmpF dX2_sizeWithin_35 rfl (fun _ _ _ _ _ => rfl)
theorem e19_38 : ab_rn cl 19 J Q (k + 1) 38 μ [v0, v1, v2, v3] st = ab_rn cl 19 J Q k 39 μ [v0, v1, v2, v3] (.int 1 :: st) := x_iconst dX2_sizeWithin_38 (by decide)
theorem e19_39 : ab_rn cl 19 J Q (k + 1) 39 μ [v0, v1, v2, v3] st = ab_rn cl 19 J Q k 43 μ [v0, v1, v2, v3] st := x_gotoF dX2_sizeWithin_39 (fun _ _ _ _ _ => rfl)
theorem e19_42 : ab_rn cl 19 J Q (k + 1) 42 μ [v0, v1, v2, v3] st = ab_rn cl 19 J Q k 43 μ [v0, v1, v2, v3] (.int 0 :: st) := x_iconst dX2_sizeWithin_42 (by decide)
theorem e19_43 : ab_rn cl 19 J Q (k + 1) 43 μ [v0, v1, v2, v3] [.int v] = Q (some v) μ := x_iret dX2_sizeWithin_43 rfl
theorem n19 {d : Nat} (h : ∀ J : ab_J, (∀ k pc μ ls st, ab_rn (ab_Cl d) 19 J Q k pc μ ls st → J pc μ ls st) → J 0 μ [v0, v1, .null, .null] []) : ab_Cl (d + 1) 19 [v0, v1] μ Q := ab_go h
theorem e20_0 : ab_rn cl 20 J Q (k + 1) 0 μ [.ref a, v1, v2] st = ab_rn cl 20 J Q k 1 μ [.ref a, v1, v2] (.ref a :: st) := x_aload_n dX2_reaches_0 rfl
theorem e20_1 : ab_rn cl 20 J Q (k + 1) 1 μ [v0, v1, .int x] st = ab_rn cl 20 J Q k 2 μ [v0, v1, .int x] (.int x :: st) := x_iload_n dX2_reaches_1 rfl
theorem e20_2 : ab_rn cl 20 J Q (k + 1) 2 μ [v0, v1, v2] (.int x0 :: .ref a :: st) = (ab_ob a 2 ∧ st.length ≤ 4 ∧ cl 18 [.ref a, .int x0] μ (fun r μ' => ab_rn cl 20 J Q k 5 μ' [v0, v1, v2] (ab_pu r st))) := x_v (as := [.int x0]) dX2_reaches_2 rfl rfl rfl rfl rfl
theorem e20_5 : ab_rn cl 20 J Q (k + 1) 5 μ [v0, v1, v2] st = ab_rn cl 20 J Q k 6 μ [v0, v1, v2] (.int 2 :: st) := x_iconst dX2_reaches_5 (by decide)
theorem e20_6 : ab_rn cl 20 J Q (k + 1) 6 μ [v0, v1, v2] (.int y :: .int x :: st) = (((x < y) → ab_rn cl 20 J Q k 22 μ [v0, v1, v2] st) ∧ ((¬ (x < y)) → ab_rn cl 20 J Q k 9 μ [v0, v1, v2] st)) := x_icmpF dX2_reaches_6 rfl (fun _ _ _ _ _ => rfl)
theorem e20_9 : ab_rn cl 20 J Q (k + 1) 9 μ [.ref a, v1, v2] st = ab_rn cl 20 J Q k 10 μ [.ref a, v1, v2] (.ref a :: st) := x_aload_n dX2_reaches_9 rfl
theorem e20_10 : ab_rn cl 20 J Q (k + 1) 10 μ [v0, v1, .int x] st = ab_rn cl 20 J Q k 11 μ [v0, v1, .int x] (.int x :: st) := x_iload_n dX2_reaches_10 rfl
theorem e20_11 : ab_rn cl 20 J Q (k + 1) 11 μ [v0, v1, v2] (.int x0 :: .ref a :: st) = (ab_ob a 2 ∧ st.length ≤ 4 ∧ cl 19 [.ref a, .int x0] μ (fun r μ' => ab_rn cl 20 J Q k 14 μ' [v0, v1, v2] (ab_pu r st))) := x_v (as := [.int x0]) dX2_reaches_11 rfl rfl rfl rfl rfl
theorem e20_14 : ab_rn cl 20 J Q (k + 1) 14 μ [v0, .int x, v2] st = ab_rn cl 20 J Q k 15 μ [v0, .int x, v2] (.int x :: st) := x_iload_n dX2_reaches_14 rfl
theorem e20_15 : ab_rn cl 20 J Q (k + 1) 15 μ [v0, v1, v2] (.int y :: .int x :: st) = (((x < y) → ab_rn cl 20 J Q k 22 μ [v0, v1, v2] st) ∧ ((¬ (x < y)) → ab_rn cl 20 J Q k 18 μ [v0, v1, v2] st)) := x_icmpF dX2_reaches_15 rfl (fun _ _ _ _ _ => rfl)
theorem e20_18 : ab_rn cl 20 J Q (k + 1) 18 μ [v0, v1, v2] st = ab_rn cl 20 J Q k 19 μ [v0, v1, v2] (.int 1 :: st) := x_iconst dX2_reaches_18 (by decide)
theorem e20_19 : ab_rn cl 20 J Q (k + 1) 19 μ [v0, v1, v2] st = ab_rn cl 20 J Q k 23 μ [v0, v1, v2] st := x_gotoF dX2_reaches_19 (fun _ _ _ _ _ => rfl)
theorem e20_22 : ab_rn cl 20 J Q (k + 1) 22 μ [v0, v1, v2] st = ab_rn cl 20 J Q k 23 μ [v0, v1, v2] (.int 0 :: st) := x_iconst dX2_reaches_22 (by decide)
theorem e20_23 : ab_rn cl 20 J Q (k + 1) 23 μ [v0, v1, v2] [.int v] = ((v = 0 ∨ v = 1) ∧ Q (some v) μ) := x_zret dX2_reaches_23 rfl
theorem n20 {d : Nat} (h : ∀ J : ab_J, (∀ k pc μ ls st, ab_rn (ab_Cl d) 20 J Q k pc μ ls st → J pc μ ls st) → J 0 μ [v0, v1, v2] []) : ab_Cl (d + 1) 20 [v0, v1, v2] μ Q := ab_go h
theorem e21_0 : ab_rn cl 21 J Q (k + 1) 0 μ [v0, v1] st = ab_rn cl 21 J Q k 1 μ [v0, v1] (.int 0 :: st) := x_iconst dX2_growOlder_0 (by decide)
theorem e21_1 : ab_rn cl 21 J Q (k + 1) 1 μ [v0, v1] (.int x :: st) = ab_rn cl 21 J Q k 2 μ [v0, .int x] st := x_istore_n dX2_growOlder_1 (Nat.le_of_ble_eq_true rfl) rfl
theorem e21_2 : ab_rn cl 21 J Q (k + 1) 2 μ [v0, .int x] st = ab_rn cl 21 J Q k 3 μ [v0, .int x] (.int x :: st) := x_iload_n dX2_growOlder_2 rfl
theorem e21_3 : ab_rn cl 21 J Q (k + 1) 3 μ [.ref a, v1] st = ab_rn cl 21 J Q k 4 μ [.ref a, v1] (.ref a :: st) := x_aload_n dX2_growOlder_3 rfl
theorem e21_4 : ab_rn cl 21 J Q (k + 1) 4 μ [v0, v1] (.ref a :: st) = (ab_ob a 2 ∧ ab_rn cl 21 J Q k 7 μ [v0, v1] (ab_fv μ a 3 :: st)) := x_get dX2_growOlder_4 rfl
theorem e21_7 : ab_rn cl 21 J Q (k + 1) 7 μ [v0, v1] (.int y :: .int x :: st) = (((y ≤ x) → ab_rn cl 21 J Q k 26 μ [v0, v1] st) ∧ ((¬ (y ≤ x)) → ab_rn cl 21 J Q k 10 μ [v0, v1] st)) := x_icmpF dX2_growOlder_7 rfl (fun _ _ _ _ _ => rfl)
theorem e21_10 : ab_rn cl 21 J Q (k + 1) 10 μ [.ref a, v1] st = ab_rn cl 21 J Q k 11 μ [.ref a, v1] (.ref a :: st) := x_aload_n dX2_growOlder_10 rfl
theorem e21_11 : ab_rn cl 21 J Q (k + 1) 11 μ [v0, v1] (.ref a :: st) = (ab_ob a 2 ∧ ab_rn cl 21 J Q k 14 μ [v0, v1] (ab_fv μ a 2 :: st)) := x_get dX2_growOlder_11 rfl
theorem e21_14 : ab_rn cl 21 J Q (k + 1) 14 μ [v0, .int x] st = ab_rn cl 21 J Q k 15 μ [v0, .int x] (.int x :: st) := x_iload_n dX2_growOlder_14 rfl
theorem e21_15 : ab_rn cl 21 J Q (k + 1) 15 μ [v0, v1] (.int x :: .ref a :: st) = ab_rn cl 21 J Q k 16 μ [v0, v1] (.int x :: .ref a :: .int x :: .ref a :: st) := x_dup2 dX2_growOlder_15
theorem e21_16 : ab_rn cl 21 J Q (k + 1) 16 μ [v0, v1] (.int x :: .ref a :: st) = ((a < 81 ∧ ab_ak a = 0) ∧ vp_in x (ab_al a) ∧ ab_rn cl 21 J Q k 17 μ [v0, v1] (.int (μ (ab_cmp a) (ab_off a + x.toNatClampNeg)) :: st)) := x_iaload dX2_growOlder_16
theorem e21_17 : ab_rn cl 21 J Q (k + 1) 17 μ [v0, v1] st = ab_rn cl 21 J Q k 18 μ [v0, v1] (.int 1 :: st) := x_iconst dX2_growOlder_17 (by decide)
theorem e21_18 : ab_rn cl 21 J Q (k + 1) 18 μ [v0, v1] (.int y :: .int x :: st) = ab_rn cl 21 J Q k 19 μ [v0, v1] (.int (x + y) :: st) := x_iadd dX2_growOlder_18
theorem e21_19 : ab_rn cl 21 J Q (k + 1) 19 μ [v0, v1] (.int v :: .int x :: .ref a :: st) = ((a < 81 ∧ ab_ak a = 0) ∧ vp_in x (ab_al a) ∧ ab_rn cl 21 J Q k 20 (ab_up μ (ab_cmp a) (ab_off a + x.toNatClampNeg) v) [v0, v1] st) := x_iastore dX2_growOlder_19
theorem e21_20 : ab_rn cl 21 J Q (k + 1) 20 μ [v0, .int x] st = ab_rn cl 21 J Q k 23 μ [v0, .int (x + 1)] st := x_iinc dX2_growOlder_20 (w := 1) (by decide) rfl rfl
theorem e21_23 : ab_rn cl 21 J Q (k + 1) 23 μ [v0, v1] st = J 2 μ [v0, v1] st := x_gotoB dX2_growOlder_23 (fun _ _ _ _ _ => rfl)
theorem e21_26 : ab_rn cl 21 J Q (k + 1) 26 μ [v0, v1] [] = Q none μ := x_vret dX2_growOlder_26 rfl
theorem n21 {d : Nat} (h : ∀ J : ab_J, (∀ k pc μ ls st, ab_rn (ab_Cl d) 21 J Q k pc μ ls st → J pc μ ls st) → J 0 μ [v0, .null] []) : ab_Cl (d + 1) 21 [v0] μ Q := ab_go h
theorem e22_0 : ab_rn cl 22 J Q (k + 1) 0 μ [v0, .int x] st = ab_rn cl 22 J Q k 1 μ [v0, .int x] (.int x :: st) := x_iload_n dX2_addNew_0 rfl
theorem e22_1 : ab_rn cl 22 J Q (k + 1) 1 μ [v0, v1] (.int x :: st) = (((0 < x) → ab_rn cl 22 J Q k 5 μ [v0, v1] st) ∧ ((¬ (0 < x)) → ab_rn cl 22 J Q k 4 μ [v0, v1] st)) := x_ifF dX2_addNew_1 rfl (fun _ _ _ _ _ => rfl)
theorem e22_4 : ab_rn cl 22 J Q (k + 1) 4 μ [v0, v1] [] = Q none μ := x_vret dX2_addNew_4 rfl
theorem e22_5 : ab_rn cl 22 J Q (k + 1) 5 μ [.ref a, v1] st = ab_rn cl 22 J Q k 6 μ [.ref a, v1] (.ref a :: st) := x_aload_n dX2_addNew_5 rfl
theorem e22_6 : ab_rn cl 22 J Q (k + 1) 6 μ [v0, v1] (.ref a :: st) = (ab_ob a 2 ∧ ab_rn cl 22 J Q k 9 μ [v0, v1] (ab_fv μ a 3 :: st)) := x_get dX2_addNew_6 rfl
theorem e22_9 : ab_rn cl 22 J Q (k + 1) 9 μ [v0, v1] st = ab_rn cl 22 J Q k 11 μ [v0, v1] (.int 10 :: st) := x_bipush dX2_addNew_9 (by decide)
theorem e22_11 : ab_rn cl 22 J Q (k + 1) 11 μ [v0, v1] (.int y :: .int x :: st) = (((x < y) → ab_rn cl 22 J Q k 18 μ [v0, v1] st) ∧ ((¬ (x < y)) → ab_rn cl 22 J Q k 14 μ [v0, v1] st)) := x_icmpF dX2_addNew_11 rfl (fun _ _ _ _ _ => rfl)
theorem e22_14 : ab_rn cl 22 J Q (k + 1) 14 μ [.ref a, v1] st = ab_rn cl 22 J Q k 15 μ [.ref a, v1] (.ref a :: st) := x_aload_n dX2_addNew_14 rfl
theorem e22_15 : ab_rn cl 22 J Q (k + 1) 15 μ [v0, v1] (.ref a :: st) = (ab_ob a 2 ∧ st.length ≤ 4 ∧ cl 32 [.ref a] μ (fun r μ' => ab_rn cl 22 J Q k 18 μ' [v0, v1] (ab_pu r st))) := x_v (as := []) dX2_addNew_15 rfl rfl rfl rfl rfl
theorem e22_18 : ab_rn cl 22 J Q (k + 1) 18 μ [.ref a, v1] st = ab_rn cl 22 J Q k 19 μ [.ref a, v1] (.ref a :: st) := x_aload_n dX2_addNew_18 rfl
theorem e22_19 : ab_rn cl 22 J Q (k + 1) 19 μ [v0, v1] (.ref a :: st) = (ab_ob a 2 ∧ ab_rn cl 22 J Q k 22 μ [v0, v1] (ab_fv μ a 0 :: st)) := x_get dX2_addNew_19 rfl
theorem e22_22 : ab_rn cl 22 J Q (k + 1) 22 μ [.ref a, v1] st = ab_rn cl 22 J Q k 23 μ [.ref a, v1] (.ref a :: st) := x_aload_n dX2_addNew_22 rfl
theorem e22_23 : ab_rn cl 22 J Q (k + 1) 23 μ [v0, v1] (.ref a :: st) = (ab_ob a 2 ∧ ab_rn cl 22 J Q k 26 μ [v0, v1] (ab_fv μ a 3 :: st)) := x_get dX2_addNew_23 rfl
theorem e22_26 : ab_rn cl 22 J Q (k + 1) 26 μ [v0, v1] st = ab_rn cl 22 J Q k 27 μ [v0, v1] (.int 0 :: st) := x_iconst dX2_addNew_26 (by decide)
theorem e22_27 : ab_rn cl 22 J Q (k + 1) 27 μ [v0, v1] (.int v :: .int x :: .ref a :: st) = ((a < 81 ∧ ab_ak a = 0) ∧ vp_in x (ab_al a) ∧ ab_rn cl 22 J Q k 28 (ab_up μ (ab_cmp a) (ab_off a + x.toNatClampNeg) v) [v0, v1] st) := x_iastore dX2_addNew_27
theorem e22_28 : ab_rn cl 22 J Q (k + 1) 28 μ [.ref a, v1] st = ab_rn cl 22 J Q k 29 μ [.ref a, v1] (.ref a :: st) := x_aload_n dX2_addNew_28 rfl
theorem e22_29 : ab_rn cl 22 J Q (k + 1) 29 μ [v0, v1] (.ref a :: st) = (ab_ob a 2 ∧ ab_rn cl 22 J Q k 32 μ [v0, v1] (ab_fv μ a 1 :: st)) := x_get dX2_addNew_29 rfl
theorem e22_32 : ab_rn cl 22 J Q (k + 1) 32 μ [.ref a, v1] st = ab_rn cl 22 J Q k 33 μ [.ref a, v1] (.ref a :: st) := x_aload_n dX2_addNew_32 rfl
theorem e22_33 : ab_rn cl 22 J Q (k + 1) 33 μ [v0, v1] (.ref a :: st) = (ab_ob a 2 ∧ ab_rn cl 22 J Q k 36 μ [v0, v1] (ab_fv μ a 3 :: st)) := x_get dX2_addNew_33 rfl
theorem e22_36 : ab_rn cl 22 J Q (k + 1) 36 μ [v0, .int x] st = ab_rn cl 22 J Q k 37 μ [v0, .int x] (.int x :: st) := x_iload_n dX2_addNew_36 rfl
theorem e22_37 : ab_rn cl 22 J Q (k + 1) 37 μ [v0, v1] (.int v :: .int x :: .ref a :: st) = ((a < 81 ∧ ab_ak a = 0) ∧ vp_in x (ab_al a) ∧ ab_rn cl 22 J Q k 38 (ab_up μ (ab_cmp a) (ab_off a + x.toNatClampNeg) v) [v0, v1] st) := x_iastore dX2_addNew_37
theorem e22_38 : ab_rn cl 22 J Q (k + 1) 38 μ [.ref a, v1] st = ab_rn cl 22 J Q k 39 μ [.ref a, v1] (.ref a :: st) := x_aload_n dX2_addNew_38 rfl
theorem e22_39 : ab_rn cl 22 J Q (k + 1) 39 μ [v0, v1] (.ref a :: st) = (ab_ob a 2 ∧ ab_rn cl 22 J Q k 42 μ [v0, v1] (ab_fv μ a 2 :: st)) := x_get dX2_addNew_39 rfl
theorem e22_42 : ab_rn cl 22 J Q (k + 1) 42 μ [.ref a, v1] st = ab_rn cl 22 J Q k 43 μ [.ref a, v1] (.ref a :: st) := x_aload_n dX2_addNew_42 rfl
theorem e22_43 : ab_rn cl 22 J Q (k + 1) 43 μ [v0, v1] (.ref a :: st) = (ab_ob a 2 ∧ ab_rn cl 22 J Q k 46 μ [v0, v1] (ab_fv μ a 3 :: st)) := x_get dX2_addNew_43 rfl
theorem e22_46 : ab_rn cl 22 J Q (k + 1) 46 μ [v0, v1] st = ab_rn cl 22 J Q k 47 μ [v0, v1] (.int 0 :: st) := x_iconst dX2_addNew_46 (by decide)
theorem e22_47 : ab_rn cl 22 J Q (k + 1) 47 μ [v0, v1] (.int v :: .int x :: .ref a :: st) = ((a < 81 ∧ ab_ak a = 0) ∧ vp_in x (ab_al a) ∧ ab_rn cl 22 J Q k 48 (ab_up μ (ab_cmp a) (ab_off a + x.toNatClampNeg) v) [v0, v1] st) := x_iastore dX2_addNew_47
theorem e22_48 : ab_rn cl 22 J Q (k + 1) 48 μ [.ref a, v1] st = ab_rn cl 22 J Q k 49 μ [.ref a, v1] (.ref a :: st) := x_aload_n dX2_addNew_48 rfl
theorem e22_49i : ab_rn cl 22 J Q (k + 1) 49 μ [v0, v1] (.int x :: st) = ab_rn cl 22 J Q k 50 μ [v0, v1] (.int x :: .int x :: st) := x_dupi dX2_addNew_49
theorem e22_49r : ab_rn cl 22 J Q (k + 1) 49 μ [v0, v1] (.ref a :: st) = ab_rn cl 22 J Q k 50 μ [v0, v1] (.ref a :: .ref a :: st) := x_dupr dX2_addNew_49
theorem e22_50 : ab_rn cl 22 J Q (k + 1) 50 μ [v0, v1] (.ref a :: st) = (ab_ob a 2 ∧ ab_rn cl 22 J Q k 53 μ [v0, v1] (ab_fv μ a 3 :: st)) := x_get dX2_addNew_50 rfl
theorem e22_53 : ab_rn cl 22 J Q (k + 1) 53 μ [v0, v1] st = ab_rn cl 22 J Q k 54 μ [v0, v1] (.int 1 :: st) := x_iconst dX2_addNew_53 (by decide)
theorem e22_54 : ab_rn cl 22 J Q (k + 1) 54 μ [v0, v1] (.int y :: .int x :: st) = ab_rn cl 22 J Q k 55 μ [v0, v1] (.int (x + y) :: st) := x_iadd dX2_addNew_54
theorem e22_55 : ab_rn cl 22 J Q (k + 1) 55 μ [v0, v1] (.int v :: .ref a :: st) = (ab_ob a 2 ∧ ab_rf a 3 = none ∧ ab_rn cl 22 J Q k 58 (ab_up μ (ab_cmp a) (ab_off a + 3) v) [v0, v1] st) := x_put dX2_addNew_55 rfl
theorem e22_58 : ab_rn cl 22 J Q (k + 1) 58 μ [v0, v1] [] = Q none μ := x_vret dX2_addNew_58 rfl
theorem n22 {d : Nat} (h : ∀ J : ab_J, (∀ k pc μ ls st, ab_rn (ab_Cl d) 22 J Q k pc μ ls st → J pc μ ls st) → J 0 μ [v0, v1] []) : ab_Cl (d + 1) 22 [v0, v1] μ Q := ab_go h
theorem e23_0 : ab_rn cl 23 J Q (k + 1) 0 μ [.ref a, v1, v2] st = ab_rn cl 23 J Q k 1 μ [.ref a, v1, v2] (.ref a :: st) := x_aload_n dX2_giveToWind_0 rfl
theorem e23_1 : ab_rn cl 23 J Q (k + 1) 1 μ [v0, v1, v2] (.ref a :: st) = (ab_ob a 2 ∧ st.length ≤ 4 ∧ cl 28 [.ref a] μ (fun r μ' => ab_rn cl 23 J Q k 4 μ' [v0, v1, v2] (ab_pu r st))) := x_v (as := []) dX2_giveToWind_1 rfl rfl rfl rfl rfl
theorem e23_4 : ab_rn cl 23 J Q (k + 1) 4 μ [v0, v1, v2] (.int x :: st) = (((¬ x = 0) → ab_rn cl 23 J Q k 9 μ [v0, v1, v2] st) ∧ ((¬ (¬ x = 0)) → ab_rn cl 23 J Q k 7 μ [v0, v1, v2] st)) := x_ifF dX2_giveToWind_4 rfl (fun _ _ _ _ _ => rfl)
theorem e23_7 : ab_rn cl 23 J Q (k + 1) 7 μ [v0, v1, v2] st = ab_rn cl 23 J Q k 8 μ [v0, v1, v2] (.int 0 :: st) := x_iconst dX2_giveToWind_7 (by decide)
theorem e23_8 : ab_rn cl 23 J Q (k + 1) 8 μ [v0, v1, v2] [.int v] = Q (some v) μ := x_iret dX2_giveToWind_8 rfl
theorem e23_9 : ab_rn cl 23 J Q (k + 1) 9 μ [.ref a, v1, v2] st = ab_rn cl 23 J Q k 10 μ [.ref a, v1, v2] (.ref a :: st) := x_aload_n dX2_giveToWind_9 rfl
theorem e23_10 : ab_rn cl 23 J Q (k + 1) 10 μ [v0, v1, v2] (.ref a :: st) = (ab_ob a 2 ∧ ab_rn cl 23 J Q k 13 μ [v0, v1, v2] (ab_fv μ a 1 :: st)) := x_get dX2_giveToWind_10 rfl
theorem e23_13 : ab_rn cl 23 J Q (k + 1) 13 μ [.ref a, v1, v2] st = ab_rn cl 23 J Q k 14 μ [.ref a, v1, v2] (.ref a :: st) := x_aload_n dX2_giveToWind_13 rfl
theorem e23_14 : ab_rn cl 23 J Q (k + 1) 14 μ [v0, v1, v2] (.ref a :: st) = (ab_ob a 2 ∧ ab_rn cl 23 J Q k 17 μ [v0, v1, v2] (ab_fv μ a 3 :: st)) := x_get dX2_giveToWind_14 rfl
theorem e23_17 : ab_rn cl 23 J Q (k + 1) 17 μ [v0, v1, v2] st = ab_rn cl 23 J Q k 18 μ [v0, v1, v2] (.int 1 :: st) := x_iconst dX2_giveToWind_17 (by decide)
theorem e23_18 : ab_rn cl 23 J Q (k + 1) 18 μ [v0, v1, v2] (.int y :: .int x :: st) = ab_rn cl 23 J Q k 19 μ [v0, v1, v2] (.int (x - y) :: st) := x_isub dX2_giveToWind_18
theorem e23_19 : ab_rn cl 23 J Q (k + 1) 19 μ [v0, v1, v2] (.int x :: .ref a :: st) = ((a < 81 ∧ ab_ak a = 0) ∧ vp_in x (ab_al a) ∧ ab_rn cl 23 J Q k 20 μ [v0, v1, v2] (.int (μ (ab_cmp a) (ab_off a + x.toNatClampNeg)) :: st)) := x_iaload dX2_giveToWind_19
theorem e23_20 : ab_rn cl 23 J Q (k + 1) 20 μ [v0, .int x, v2] st = ab_rn cl 23 J Q k 21 μ [v0, .int x, v2] (.int x :: st) := x_iload_n dX2_giveToWind_20 rfl
theorem e23_21 : ab_rn cl 23 J Q (k + 1) 21 μ [v0, v1, v2] (.int y :: .int x :: st) = ab_rn cl 23 J Q k 22 μ [v0, v1, v2] (.int (x * y) :: st) := x_imul dX2_giveToWind_21
theorem e23_22 : ab_rn cl 23 J Q (k + 1) 22 μ [v0, v1, v2] st = ab_rn cl 23 J Q k 24 μ [v0, v1, v2] (.int 100 :: st) := x_bipush dX2_giveToWind_22 (by decide)
theorem e23_24 : ab_rn cl 23 J Q (k + 1) 24 μ [v0, v1, v2] (.int y :: .int x :: st) = ((¬ y = 0) ∧ ab_rn cl 23 J Q k 25 μ [v0, v1, v2] (.int (x / y) :: st)) := x_idiv dX2_giveToWind_24
theorem e23_25 : ab_rn cl 23 J Q (k + 1) 25 μ [v0, v1, v2] (.int x :: st) = ab_rn cl 23 J Q k 26 μ [v0, v1, .int x] st := x_istore_n dX2_giveToWind_25 (Nat.le_of_ble_eq_true rfl) rfl
theorem e23_26 : ab_rn cl 23 J Q (k + 1) 26 μ [.ref a, v1, v2] st = ab_rn cl 23 J Q k 27 μ [.ref a, v1, v2] (.ref a :: st) := x_aload_n dX2_giveToWind_26 rfl
theorem e23_27 : ab_rn cl 23 J Q (k + 1) 27 μ [v0, v1, v2] (.ref a :: st) = (ab_ob a 2 ∧ ab_rn cl 23 J Q k 30 μ [v0, v1, v2] (ab_fv μ a 1 :: st)) := x_get dX2_giveToWind_27 rfl
theorem e23_30 : ab_rn cl 23 J Q (k + 1) 30 μ [.ref a, v1, v2] st = ab_rn cl 23 J Q k 31 μ [.ref a, v1, v2] (.ref a :: st) := x_aload_n dX2_giveToWind_30 rfl
theorem e23_31 : ab_rn cl 23 J Q (k + 1) 31 μ [v0, v1, v2] (.ref a :: st) = (ab_ob a 2 ∧ ab_rn cl 23 J Q k 34 μ [v0, v1, v2] (ab_fv μ a 3 :: st)) := x_get dX2_giveToWind_31 rfl
theorem e23_34 : ab_rn cl 23 J Q (k + 1) 34 μ [v0, v1, v2] st = ab_rn cl 23 J Q k 35 μ [v0, v1, v2] (.int 1 :: st) := x_iconst dX2_giveToWind_34 (by decide)
theorem e23_35 : ab_rn cl 23 J Q (k + 1) 35 μ [v0, v1, v2] (.int y :: .int x :: st) = ab_rn cl 23 J Q k 36 μ [v0, v1, v2] (.int (x - y) :: st) := x_isub dX2_giveToWind_35
theorem e23_36 : ab_rn cl 23 J Q (k + 1) 36 μ [v0, v1, v2] (.int x :: .ref a :: st) = ab_rn cl 23 J Q k 37 μ [v0, v1, v2] (.int x :: .ref a :: .int x :: .ref a :: st) := x_dup2 dX2_giveToWind_36
theorem e23_37 : ab_rn cl 23 J Q (k + 1) 37 μ [v0, v1, v2] (.int x :: .ref a :: st) = ((a < 81 ∧ ab_ak a = 0) ∧ vp_in x (ab_al a) ∧ ab_rn cl 23 J Q k 38 μ [v0, v1, v2] (.int (μ (ab_cmp a) (ab_off a + x.toNatClampNeg)) :: st)) := x_iaload dX2_giveToWind_37
theorem e23_38 : ab_rn cl 23 J Q (k + 1) 38 μ [v0, v1, .int x] st = ab_rn cl 23 J Q k 39 μ [v0, v1, .int x] (.int x :: st) := x_iload_n dX2_giveToWind_38 rfl
theorem e23_39 : ab_rn cl 23 J Q (k + 1) 39 μ [v0, v1, v2] (.int y :: .int x :: st) = ab_rn cl 23 J Q k 40 μ [v0, v1, v2] (.int (x - y) :: st) := x_isub dX2_giveToWind_39
theorem e23_40 : ab_rn cl 23 J Q (k + 1) 40 μ [v0, v1, v2] (.int v :: .int x :: .ref a :: st) = ((a < 81 ∧ ab_ak a = 0) ∧ vp_in x (ab_al a) ∧ ab_rn cl 23 J Q k 41 (ab_up μ (ab_cmp a) (ab_off a + x.toNatClampNeg) v) [v0, v1, v2] st) := x_iastore dX2_giveToWind_40
theorem e23_41 : ab_rn cl 23 J Q (k + 1) 41 μ [v0, v1, .int x] st = ab_rn cl 23 J Q k 42 μ [v0, v1, .int x] (.int x :: st) := x_iload_n dX2_giveToWind_41 rfl
theorem e23_42 : ab_rn cl 23 J Q (k + 1) 42 μ [v0, v1, v2] [.int v] = Q (some v) μ := x_iret dX2_giveToWind_42 rfl
theorem n23 {d : Nat} (h : ∀ J : ab_J, (∀ k pc μ ls st, ab_rn (ab_Cl d) 23 J Q k pc μ ls st → J pc μ ls st) → J 0 μ [v0, v1, .null] []) : ab_Cl (d + 1) 23 [v0, v1] μ Q := ab_go h
theorem e24_0 : ab_rn cl 24 J Q (k + 1) 0 μ [.ref a, v1] st = ab_rn cl 24 J Q k 1 μ [.ref a, v1] (.ref a :: st) := x_aload_n dX2_takeFromWind_0 rfl
theorem e24_1 : ab_rn cl 24 J Q (k + 1) 1 μ [v0, v1] (.ref a :: st) = (ab_ob a 2 ∧ st.length ≤ 4 ∧ cl 28 [.ref a] μ (fun r μ' => ab_rn cl 24 J Q k 4 μ' [v0, v1] (ab_pu r st))) := x_v (as := []) dX2_takeFromWind_1 rfl rfl rfl rfl rfl
theorem e24_4 : ab_rn cl 24 J Q (k + 1) 4 μ [v0, v1] (.int x :: st) = (((x = 0) → ab_rn cl 24 J Q k 25 μ [v0, v1] st) ∧ ((¬ (x = 0)) → ab_rn cl 24 J Q k 7 μ [v0, v1] st)) := x_ifF dX2_takeFromWind_4 rfl (fun _ _ _ _ _ => rfl)
theorem e24_7 : ab_rn cl 24 J Q (k + 1) 7 μ [.ref a, v1] st = ab_rn cl 24 J Q k 8 μ [.ref a, v1] (.ref a :: st) := x_aload_n dX2_takeFromWind_7 rfl
theorem e24_8 : ab_rn cl 24 J Q (k + 1) 8 μ [v0, v1] (.ref a :: st) = (ab_ob a 2 ∧ ab_rn cl 24 J Q k 11 μ [v0, v1] (ab_fv μ a 1 :: st)) := x_get dX2_takeFromWind_8 rfl
theorem e24_11 : ab_rn cl 24 J Q (k + 1) 11 μ [.ref a, v1] st = ab_rn cl 24 J Q k 12 μ [.ref a, v1] (.ref a :: st) := x_aload_n dX2_takeFromWind_11 rfl
theorem e24_12 : ab_rn cl 24 J Q (k + 1) 12 μ [v0, v1] (.ref a :: st) = (ab_ob a 2 ∧ ab_rn cl 24 J Q k 15 μ [v0, v1] (ab_fv μ a 3 :: st)) := x_get dX2_takeFromWind_12 rfl
theorem e24_15 : ab_rn cl 24 J Q (k + 1) 15 μ [v0, v1] st = ab_rn cl 24 J Q k 16 μ [v0, v1] (.int 1 :: st) := x_iconst dX2_takeFromWind_15 (by decide)
theorem e24_16 : ab_rn cl 24 J Q (k + 1) 16 μ [v0, v1] (.int y :: .int x :: st) = ab_rn cl 24 J Q k 17 μ [v0, v1] (.int (x - y) :: st) := x_isub dX2_takeFromWind_16
theorem e24_17 : ab_rn cl 24 J Q (k + 1) 17 μ [v0, v1] (.int x :: .ref a :: st) = ab_rn cl 24 J Q k 18 μ [v0, v1] (.int x :: .ref a :: .int x :: .ref a :: st) := x_dup2 dX2_takeFromWind_17
theorem e24_18 : ab_rn cl 24 J Q (k + 1) 18 μ [v0, v1] (.int x :: .ref a :: st) = ((a < 81 ∧ ab_ak a = 0) ∧ vp_in x (ab_al a) ∧ ab_rn cl 24 J Q k 19 μ [v0, v1] (.int (μ (ab_cmp a) (ab_off a + x.toNatClampNeg)) :: st)) := x_iaload dX2_takeFromWind_18
theorem e24_19 : ab_rn cl 24 J Q (k + 1) 19 μ [v0, .int x] st = ab_rn cl 24 J Q k 20 μ [v0, .int x] (.int x :: st) := x_iload_n dX2_takeFromWind_19 rfl
theorem e24_20 : ab_rn cl 24 J Q (k + 1) 20 μ [v0, v1] (.int y :: .int x :: st) = ab_rn cl 24 J Q k 21 μ [v0, v1] (.int (x + y) :: st) := x_iadd dX2_takeFromWind_20
theorem e24_21 : ab_rn cl 24 J Q (k + 1) 21 μ [v0, v1] (.int v :: .int x :: .ref a :: st) = ((a < 81 ∧ ab_ak a = 0) ∧ vp_in x (ab_al a) ∧ ab_rn cl 24 J Q k 22 (ab_up μ (ab_cmp a) (ab_off a + x.toNatClampNeg) v) [v0, v1] st) := x_iastore dX2_takeFromWind_21
theorem e24_22 : ab_rn cl 24 J Q (k + 1) 22 μ [v0, v1] st = ab_rn cl 24 J Q k 30 μ [v0, v1] st := x_gotoF dX2_takeFromWind_22 (fun _ _ _ _ _ => rfl)
theorem e24_25 : ab_rn cl 24 J Q (k + 1) 25 μ [.ref a, v1] st = ab_rn cl 24 J Q k 26 μ [.ref a, v1] (.ref a :: st) := x_aload_n dX2_takeFromWind_25 rfl
theorem e24_26 : ab_rn cl 24 J Q (k + 1) 26 μ [v0, .int x] st = ab_rn cl 24 J Q k 27 μ [v0, .int x] (.int x :: st) := x_iload_n dX2_takeFromWind_26 rfl
theorem e24_27 : ab_rn cl 24 J Q (k + 1) 27 μ [v0, v1] (.int x0 :: .ref a :: st) = (ab_ob a 2 ∧ st.length ≤ 4 ∧ cl 22 [.ref a, .int x0] μ (fun r μ' => ab_rn cl 24 J Q k 30 μ' [v0, v1] (ab_pu r st))) := x_v (as := [.int x0]) dX2_takeFromWind_27 rfl rfl rfl rfl rfl
theorem e24_30 : ab_rn cl 24 J Q (k + 1) 30 μ [v0, v1] [] = Q none μ := x_vret dX2_takeFromWind_30 rfl
theorem n24 {d : Nat} (h : ∀ J : ab_J, (∀ k pc μ ls st, ab_rn (ab_Cl d) 24 J Q k pc μ ls st → J pc μ ls st) → J 0 μ [v0, v1] []) : ab_Cl (d + 1) 24 [v0, v1] μ Q := ab_go h
theorem e25_0 : ab_rn cl 25 J Q (k + 1) 0 μ [v0, v1, v2, v3] st = ab_rn cl 25 J Q k 1 μ [v0, v1, v2, v3] (.int 0 :: st) := x_iconst dX2_changeKinds_0 (by decide)
theorem e25_1 : ab_rn cl 25 J Q (k + 1) 1 μ [v0, v1, v2, v3] (.int x :: st) = ab_rn cl 25 J Q k 2 μ [v0, v1, .int x, v3] st := x_istore_n dX2_changeKinds_1 (Nat.le_of_ble_eq_true rfl) rfl
theorem e25_2 : ab_rn cl 25 J Q (k + 1) 2 μ [v0, v1, .int x, v3] st = ab_rn cl 25 J Q k 3 μ [v0, v1, .int x, v3] (.int x :: st) := x_iload_n dX2_changeKinds_2 rfl
theorem e25_3 : ab_rn cl 25 J Q (k + 1) 3 μ [.ref a, v1, v2, v3] st = ab_rn cl 25 J Q k 4 μ [.ref a, v1, v2, v3] (.ref a :: st) := x_aload_n dX2_changeKinds_3 rfl
theorem e25_4 : ab_rn cl 25 J Q (k + 1) 4 μ [v0, v1, v2, v3] (.ref a :: st) = (ab_ob a 2 ∧ ab_rn cl 25 J Q k 7 μ [v0, v1, v2, v3] (ab_fv μ a 3 :: st)) := x_get dX2_changeKinds_4 rfl
theorem e25_7 : ab_rn cl 25 J Q (k + 1) 7 μ [v0, v1, v2, v3] (.int y :: .int x :: st) = (((y ≤ x) → ab_rn cl 25 J Q k 102 μ [v0, v1, v2, v3] st) ∧ ((¬ (y ≤ x)) → ab_rn cl 25 J Q k 10 μ [v0, v1, v2, v3] st)) := x_icmpF dX2_changeKinds_7 rfl (fun _ _ _ _ _ => rfl)
theorem e25_10 : ab_rn cl 25 J Q (k + 1) 10 μ [.ref a, v1, v2, v3] st = ab_rn cl 25 J Q k 11 μ [.ref a, v1, v2, v3] (.ref a :: st) := x_aload_n dX2_changeKinds_10 rfl
theorem e25_11 : ab_rn cl 25 J Q (k + 1) 11 μ [v0, v1, v2, v3] (.ref a :: st) = (ab_ob a 2 ∧ ab_rn cl 25 J Q k 14 μ [v0, v1, v2, v3] (ab_fv μ a 0 :: st)) := x_get dX2_changeKinds_11 rfl
theorem e25_14 : ab_rn cl 25 J Q (k + 1) 14 μ [v0, v1, .int x, v3] st = ab_rn cl 25 J Q k 15 μ [v0, v1, .int x, v3] (.int x :: st) := x_iload_n dX2_changeKinds_14 rfl
theorem e25_15 : ab_rn cl 25 J Q (k + 1) 15 μ [v0, v1, v2, v3] (.int x :: .ref a :: st) = ((a < 81 ∧ ab_ak a = 0) ∧ vp_in x (ab_al a) ∧ ab_rn cl 25 J Q k 16 μ [v0, v1, v2, v3] (.int (μ (ab_cmp a) (ab_off a + x.toNatClampNeg)) :: st)) := x_iaload dX2_changeKinds_15
theorem e25_16 : ab_rn cl 25 J Q (k + 1) 16 μ [v0, v1, v2, v3] (.int x :: st) = (((¬ x = 0) → ab_rn cl 25 J Q k 68 μ [v0, v1, v2, v3] st) ∧ ((¬ (¬ x = 0)) → ab_rn cl 25 J Q k 19 μ [v0, v1, v2, v3] st)) := x_ifF dX2_changeKinds_16 rfl (fun _ _ _ _ _ => rfl)
theorem e25_19 : ab_rn cl 25 J Q (k + 1) 19 μ [.ref a, v1, v2, v3] st = ab_rn cl 25 J Q k 20 μ [.ref a, v1, v2, v3] (.ref a :: st) := x_aload_n dX2_changeKinds_19 rfl
theorem e25_20 : ab_rn cl 25 J Q (k + 1) 20 μ [v0, v1, v2, v3] (.ref a :: st) = (ab_ob a 2 ∧ ab_rn cl 25 J Q k 23 μ [v0, v1, v2, v3] (ab_fv μ a 2 :: st)) := x_get dX2_changeKinds_20 rfl
theorem e25_23 : ab_rn cl 25 J Q (k + 1) 23 μ [v0, v1, .int x, v3] st = ab_rn cl 25 J Q k 24 μ [v0, v1, .int x, v3] (.int x :: st) := x_iload_n dX2_changeKinds_23 rfl
theorem e25_24 : ab_rn cl 25 J Q (k + 1) 24 μ [v0, v1, v2, v3] (.int x :: .ref a :: st) = ((a < 81 ∧ ab_ak a = 0) ∧ vp_in x (ab_al a) ∧ ab_rn cl 25 J Q k 25 μ [v0, v1, v2, v3] (.int (μ (ab_cmp a) (ab_off a + x.toNatClampNeg)) :: st)) := x_iaload dX2_changeKinds_24
theorem e25_25 : ab_rn cl 25 J Q (k + 1) 25 μ [v0, v1, v2, v3] st = ab_rn cl 25 J Q k 26 μ [v0, v1, v2, v3] (.int 3 :: st) := x_iconst dX2_changeKinds_25 (by decide)
theorem e25_26 : ab_rn cl 25 J Q (k + 1) 26 μ [v0, v1, v2, v3] (.int y :: .int x :: st) = (((x < y) → ab_rn cl 25 J Q k 68 μ [v0, v1, v2, v3] st) ∧ ((¬ (x < y)) → ab_rn cl 25 J Q k 29 μ [v0, v1, v2, v3] st)) := x_icmpF dX2_changeKinds_26 rfl (fun _ _ _ _ _ => rfl)
theorem e25_29 : ab_rn cl 25 J Q (k + 1) 29 μ [v0, .int x, v2, v3] st = ab_rn cl 25 J Q k 30 μ [v0, .int x, v2, v3] (.int x :: st) := x_iload_n dX2_changeKinds_29 rfl
theorem e25_30 : ab_rn cl 25 J Q (k + 1) 30 μ [v0, v1, v2, v3] st = ab_rn cl 25 J Q k 32 μ [v0, v1, v2, v3] (.int (-8) :: st) := x_bipush dX2_changeKinds_30 (by decide)
theorem e25_32 : ab_rn cl 25 J Q (k + 1) 32 μ [v0, v1, v2, v3] (.int y :: .int x :: st) = (((y < x) → ab_rn cl 25 J Q k 51 μ [v0, v1, v2, v3] st) ∧ ((¬ (y < x)) → ab_rn cl 25 J Q k 35 μ [v0, v1, v2, v3] st)) := x_icmpF dX2_changeKinds_32 rfl (fun _ _ _ _ _ => rfl)
theorem e25_35 : ab_rn cl 25 J Q (k + 1) 35 μ [.ref a, v1, v2, v3] st = ab_rn cl 25 J Q k 36 μ [.ref a, v1, v2, v3] (.ref a :: st) := x_aload_n dX2_changeKinds_35 rfl
theorem e25_36 : ab_rn cl 25 J Q (k + 1) 36 μ [v0, v1, v2, v3] (.ref a :: st) = (ab_ob a 2 ∧ ab_rn cl 25 J Q k 39 μ [v0, v1, v2, v3] (ab_fv μ a 1 :: st)) := x_get dX2_changeKinds_36 rfl
theorem e25_39 : ab_rn cl 25 J Q (k + 1) 39 μ [v0, v1, .int x, v3] st = ab_rn cl 25 J Q k 40 μ [v0, v1, .int x, v3] (.int x :: st) := x_iload_n dX2_changeKinds_39 rfl
theorem e25_40 : ab_rn cl 25 J Q (k + 1) 40 μ [v0, v1, v2, v3] (.int x :: .ref a :: st) = ((a < 81 ∧ ab_ak a = 0) ∧ vp_in x (ab_al a) ∧ ab_rn cl 25 J Q k 41 μ [v0, v1, v2, v3] (.int (μ (ab_cmp a) (ab_off a + x.toNatClampNeg)) :: st)) := x_iaload dX2_changeKinds_40
theorem e25_41 : ab_rn cl 25 J Q (k + 1) 41 μ [v0, v1, v2, v3] st = ab_rn cl 25 J Q k 44 μ [v0, v1, v2, v3] (.int 300 :: st) := x_sipush dX2_changeKinds_41 (by decide)
theorem e25_44 : ab_rn cl 25 J Q (k + 1) 44 μ [v0, v1, v2, v3] (.int y :: .int x :: st) = (((y ≤ x) → ab_rn cl 25 J Q k 51 μ [v0, v1, v2, v3] st) ∧ ((¬ (y ≤ x)) → ab_rn cl 25 J Q k 47 μ [v0, v1, v2, v3] st)) := x_icmpF dX2_changeKinds_44 rfl (fun _ _ _ _ _ => rfl)
theorem e25_47 : ab_rn cl 25 J Q (k + 1) 47 μ [v0, v1, v2, v3] st = ab_rn cl 25 J Q k 48 μ [v0, v1, v2, v3] (.int 1 :: st) := x_iconst dX2_changeKinds_47 (by decide)
theorem e25_48 : ab_rn cl 25 J Q (k + 1) 48 μ [v0, v1, v2, v3] st = ab_rn cl 25 J Q k 52 μ [v0, v1, v2, v3] st := x_gotoF dX2_changeKinds_48 (fun _ _ _ _ _ => rfl)
theorem e25_51 : ab_rn cl 25 J Q (k + 1) 51 μ [v0, v1, v2, v3] st = ab_rn cl 25 J Q k 52 μ [v0, v1, v2, v3] (.int 0 :: st) := x_iconst dX2_changeKinds_51 (by decide)
theorem e25_52 : ab_rn cl 25 J Q (k + 1) 52 μ [v0, v1, v2, v3] (.int x :: st) = ab_rn cl 25 J Q k 53 μ [v0, v1, v2, .int x] st := x_istore_n dX2_changeKinds_52 (Nat.le_of_ble_eq_true rfl) rfl
theorem e25_53 : ab_rn cl 25 J Q (k + 1) 53 μ [.ref a, v1, v2, v3] st = ab_rn cl 25 J Q k 54 μ [.ref a, v1, v2, v3] (.ref a :: st) := x_aload_n dX2_changeKinds_53 rfl
theorem e25_54 : ab_rn cl 25 J Q (k + 1) 54 μ [v0, v1, v2, v3] (.ref a :: st) = (ab_ob a 2 ∧ ab_rn cl 25 J Q k 57 μ [v0, v1, v2, v3] (ab_fv μ a 0 :: st)) := x_get dX2_changeKinds_54 rfl
theorem e25_57 : ab_rn cl 25 J Q (k + 1) 57 μ [v0, v1, .int x, v3] st = ab_rn cl 25 J Q k 58 μ [v0, v1, .int x, v3] (.int x :: st) := x_iload_n dX2_changeKinds_57 rfl
theorem e25_58 : ab_rn cl 25 J Q (k + 1) 58 μ [v0, v1, v2, .int x] st = ab_rn cl 25 J Q k 59 μ [v0, v1, v2, .int x] (.int x :: st) := x_iload_n dX2_changeKinds_58 rfl
theorem e25_59 : ab_rn cl 25 J Q (k + 1) 59 μ [v0, v1, v2, v3] (.int x :: st) = (((x = 0) → ab_rn cl 25 J Q k 66 μ [v0, v1, v2, v3] st) ∧ ((¬ (x = 0)) → ab_rn cl 25 J Q k 62 μ [v0, v1, v2, v3] st)) := x_ifF dX2_changeKinds_59 rfl (fun _ _ _ _ _ => rfl)
theorem e25_62 : ab_rn cl 25 J Q (k + 1) 62 μ [v0, v1, v2, v3] st = ab_rn cl 25 J Q k 63 μ [v0, v1, v2, v3] (.int 2 :: st) := x_iconst dX2_changeKinds_62 (by decide)
theorem e25_63 : ab_rn cl 25 J Q (k + 1) 63 μ [v0, v1, v2, v3] st = ab_rn cl 25 J Q k 67 μ [v0, v1, v2, v3] st := x_gotoF dX2_changeKinds_63 (fun _ _ _ _ _ => rfl)
theorem e25_66 : ab_rn cl 25 J Q (k + 1) 66 μ [v0, v1, v2, v3] st = ab_rn cl 25 J Q k 67 μ [v0, v1, v2, v3] (.int 1 :: st) := x_iconst dX2_changeKinds_66 (by decide)
theorem e25_67 : ab_rn cl 25 J Q (k + 1) 67 μ [v0, v1, v2, v3] (.int v :: .int x :: .ref a :: st) = ((a < 81 ∧ ab_ak a = 0) ∧ vp_in x (ab_al a) ∧ ab_rn cl 25 J Q k 68 (ab_up μ (ab_cmp a) (ab_off a + x.toNatClampNeg) v) [v0, v1, v2, v3] st) := x_iastore dX2_changeKinds_67
theorem e25_68 : ab_rn cl 25 J Q (k + 1) 68 μ [.ref a, v1, v2, v3] st = ab_rn cl 25 J Q k 69 μ [.ref a, v1, v2, v3] (.ref a :: st) := x_aload_n dX2_changeKinds_68 rfl
theorem e25_69 : ab_rn cl 25 J Q (k + 1) 69 μ [v0, v1, v2, v3] (.ref a :: st) = (ab_ob a 2 ∧ ab_rn cl 25 J Q k 72 μ [v0, v1, v2, v3] (ab_fv μ a 0 :: st)) := x_get dX2_changeKinds_69 rfl
theorem e25_72 : ab_rn cl 25 J Q (k + 1) 72 μ [v0, v1, .int x, v3] st = ab_rn cl 25 J Q k 73 μ [v0, v1, .int x, v3] (.int x :: st) := x_iload_n dX2_changeKinds_72 rfl
theorem e25_73 : ab_rn cl 25 J Q (k + 1) 73 μ [v0, v1, v2, v3] (.int x :: .ref a :: st) = ((a < 81 ∧ ab_ak a = 0) ∧ vp_in x (ab_al a) ∧ ab_rn cl 25 J Q k 74 μ [v0, v1, v2, v3] (.int (μ (ab_cmp a) (ab_off a + x.toNatClampNeg)) :: st)) := x_iaload dX2_changeKinds_73
theorem e25_74 : ab_rn cl 25 J Q (k + 1) 74 μ [v0, v1, v2, v3] st = ab_rn cl 25 J Q k 75 μ [v0, v1, v2, v3] (.int 2 :: st) := x_iconst dX2_changeKinds_74 (by decide)
theorem e25_75 : ab_rn cl 25 J Q (k + 1) 75 μ [v0, v1, v2, v3] (.int y :: .int x :: st) = (((¬ x = y) → ab_rn cl 25 J Q k 96 μ [v0, v1, v2, v3] st) ∧ ((¬ (¬ x = y)) → ab_rn cl 25 J Q k 78 μ [v0, v1, v2, v3] st)) := x_icmpF dX2_changeKinds_75 rfl (fun _ _ _ _ _ => rfl)
theorem e25_78 : ab_rn cl 25 J Q (k + 1) 78 μ [.ref a, v1, v2, v3] st = ab_rn cl 25 J Q k 79 μ [.ref a, v1, v2, v3] (.ref a :: st) := x_aload_n dX2_changeKinds_78 rfl
theorem e25_79 : ab_rn cl 25 J Q (k + 1) 79 μ [v0, v1, v2, v3] (.ref a :: st) = (ab_ob a 2 ∧ ab_rn cl 25 J Q k 82 μ [v0, v1, v2, v3] (ab_fv μ a 2 :: st)) := x_get dX2_changeKinds_79 rfl
theorem e25_82 : ab_rn cl 25 J Q (k + 1) 82 μ [v0, v1, .int x, v3] st = ab_rn cl 25 J Q k 83 μ [v0, v1, .int x, v3] (.int x :: st) := x_iload_n dX2_changeKinds_82 rfl
theorem e25_83 : ab_rn cl 25 J Q (k + 1) 83 μ [v0, v1, v2, v3] (.int x :: .ref a :: st) = ((a < 81 ∧ ab_ak a = 0) ∧ vp_in x (ab_al a) ∧ ab_rn cl 25 J Q k 84 μ [v0, v1, v2, v3] (.int (μ (ab_cmp a) (ab_off a + x.toNatClampNeg)) :: st)) := x_iaload dX2_changeKinds_83
theorem e25_84 : ab_rn cl 25 J Q (k + 1) 84 μ [v0, v1, v2, v3] st = ab_rn cl 25 J Q k 86 μ [v0, v1, v2, v3] (.int 20 :: st) := x_bipush dX2_changeKinds_84 (by decide)
theorem e25_86 : ab_rn cl 25 J Q (k + 1) 86 μ [v0, v1, v2, v3] (.int y :: .int x :: st) = (((x < y) → ab_rn cl 25 J Q k 96 μ [v0, v1, v2, v3] st) ∧ ((¬ (x < y)) → ab_rn cl 25 J Q k 89 μ [v0, v1, v2, v3] st)) := x_icmpF dX2_changeKinds_86 rfl (fun _ _ _ _ _ => rfl)
theorem e25_89 : ab_rn cl 25 J Q (k + 1) 89 μ [.ref a, v1, v2, v3] st = ab_rn cl 25 J Q k 90 μ [.ref a, v1, v2, v3] (.ref a :: st) := x_aload_n dX2_changeKinds_89 rfl
theorem e25_90 : ab_rn cl 25 J Q (k + 1) 90 μ [v0, v1, v2, v3] (.ref a :: st) = (ab_ob a 2 ∧ ab_rn cl 25 J Q k 93 μ [v0, v1, v2, v3] (ab_fv μ a 0 :: st)) := x_get dX2_changeKinds_90 rfl
theorem e25_93 : ab_rn cl 25 J Q (k + 1) 93 μ [v0, v1, .int x, v3] st = ab_rn cl 25 J Q k 94 μ [v0, v1, .int x, v3] (.int x :: st) := x_iload_n dX2_changeKinds_93 rfl
theorem e25_94 : ab_rn cl 25 J Q (k + 1) 94 μ [v0, v1, v2, v3] st = ab_rn cl 25 J Q k 95 μ [v0, v1, v2, v3] (.int 1 :: st) := x_iconst dX2_changeKinds_94 (by decide)
theorem e25_95 : ab_rn cl 25 J Q (k + 1) 95 μ [v0, v1, v2, v3] (.int v :: .int x :: .ref a :: st) = ((a < 81 ∧ ab_ak a = 0) ∧ vp_in x (ab_al a) ∧ ab_rn cl 25 J Q k 96 (ab_up μ (ab_cmp a) (ab_off a + x.toNatClampNeg) v) [v0, v1, v2, v3] st) := x_iastore dX2_changeKinds_95
theorem e25_96 : ab_rn cl 25 J Q (k + 1) 96 μ [v0, v1, .int x, v3] st = ab_rn cl 25 J Q k 99 μ [v0, v1, .int (x + 1), v3] st := x_iinc dX2_changeKinds_96 (w := 1) (by decide) rfl rfl
theorem e25_99 : ab_rn cl 25 J Q (k + 1) 99 μ [v0, v1, v2, v3] st = J 2 μ [v0, v1, v2, v3] st := x_gotoB dX2_changeKinds_99 (fun _ _ _ _ _ => rfl)
theorem e25_102 : ab_rn cl 25 J Q (k + 1) 102 μ [v0, v1, v2, v3] [] = Q none μ := x_vret dX2_changeKinds_102 rfl
theorem n25 {d : Nat} (h : ∀ J : ab_J, (∀ k pc μ ls st, ab_rn (ab_Cl d) 25 J Q k pc μ ls st → J pc μ ls st) → J 0 μ [v0, v1, .null, .null] []) : ab_Cl (d + 1) 25 [v0, v1] μ Q := ab_go h
theorem e26_0 : ab_rn cl 26 J Q (k + 1) 0 μ [v0, .int x, v2, v3] st = ab_rn cl 26 J Q k 1 μ [v0, .int x, v2, v3] (.int x :: st) := x_iload_n dX2_melt_0 rfl
theorem e26_1 : ab_rn cl 26 J Q (k + 1) 1 μ [v0, v1, v2, v3] (.int x :: st) = (((0 < x) → ab_rn cl 26 J Q k 6 μ [v0, v1, v2, v3] st) ∧ ((¬ (0 < x)) → ab_rn cl 26 J Q k 4 μ [v0, v1, v2, v3] st)) := x_ifF dX2_melt_1 rfl (fun _ _ _ _ _ => rfl)
theorem e26_4 : ab_rn cl 26 J Q (k + 1) 4 μ [v0, v1, v2, v3] st = ab_rn cl 26 J Q k 5 μ [v0, v1, v2, v3] (.int 0 :: st) := x_iconst dX2_melt_4 (by decide)
theorem e26_5 : ab_rn cl 26 J Q (k + 1) 5 μ [v0, v1, v2, v3] [.int v] = Q (some v) μ := x_iret dX2_melt_5 rfl
theorem e26_6 : ab_rn cl 26 J Q (k + 1) 6 μ [v0, v1, v2, v3] st = ab_rn cl 26 J Q k 8 μ [v0, v1, v2, v3] (.int 6 :: st) := x_bipush dX2_melt_6 (by decide)
theorem e26_8 : ab_rn cl 26 J Q (k + 1) 8 μ [v0, .int x, v2, v3] st = ab_rn cl 26 J Q k 9 μ [v0, .int x, v2, v3] (.int x :: st) := x_iload_n dX2_melt_8 rfl
theorem e26_9 : ab_rn cl 26 J Q (k + 1) 9 μ [v0, v1, v2, v3] (.int y :: .int x :: st) = ab_rn cl 26 J Q k 10 μ [v0, v1, v2, v3] (.int (x * y) :: st) := x_imul dX2_melt_9
theorem e26_10 : ab_rn cl 26 J Q (k + 1) 10 μ [v0, v1, v2, v3] (.int x :: st) = ab_rn cl 26 J Q k 11 μ [v0, v1, .int x, v3] st := x_istore_n dX2_melt_10 (Nat.le_of_ble_eq_true rfl) rfl
theorem e26_11 : ab_rn cl 26 J Q (k + 1) 11 μ [v0, v1, .int x, v3] st = ab_rn cl 26 J Q k 12 μ [v0, v1, .int x, v3] (.int x :: st) := x_iload_n dX2_melt_11 rfl
theorem e26_12 : ab_rn cl 26 J Q (k + 1) 12 μ [v0, v1, v2, v3] (.int x :: st) = ab_rn cl 26 J Q k 13 μ [v0, v1, v2, .int x] st := x_istore_n dX2_melt_12 (Nat.le_of_ble_eq_true rfl) rfl
theorem e26_13 : ab_rn cl 26 J Q (k + 1) 13 μ [.ref a, v1, v2, v3] st = ab_rn cl 26 J Q k 14 μ [.ref a, v1, v2, v3] (.ref a :: st) := x_aload_n dX2_melt_13 rfl
theorem e26_14 : ab_rn cl 26 J Q (k + 1) 14 μ [v0, v1, v2, v3] (.ref a :: st) = (ab_ob a 2 ∧ ab_rn cl 26 J Q k 17 μ [v0, v1, v2, v3] (ab_fv μ a 3 :: st)) := x_get dX2_melt_14 rfl
theorem e26_17 : ab_rn cl 26 J Q (k + 1) 17 μ [v0, v1, v2, v3] (.int x :: st) = (((x ≤ 0) → ab_rn cl 26 J Q k 62 μ [v0, v1, v2, v3] st) ∧ ((¬ (x ≤ 0)) → ab_rn cl 26 J Q k 20 μ [v0, v1, v2, v3] st)) := x_ifF dX2_melt_17 rfl (fun _ _ _ _ _ => rfl)
theorem e26_20 : ab_rn cl 26 J Q (k + 1) 20 μ [v0, v1, v2, .int x] st = ab_rn cl 26 J Q k 21 μ [v0, v1, v2, .int x] (.int x :: st) := x_iload_n dX2_melt_20 rfl
theorem e26_21 : ab_rn cl 26 J Q (k + 1) 21 μ [.ref a, v1, v2, v3] st = ab_rn cl 26 J Q k 22 μ [.ref a, v1, v2, v3] (.ref a :: st) := x_aload_n dX2_melt_21 rfl
theorem e26_22 : ab_rn cl 26 J Q (k + 1) 22 μ [v0, v1, v2, v3] (.ref a :: st) = (ab_ob a 2 ∧ ab_rn cl 26 J Q k 25 μ [v0, v1, v2, v3] (ab_fv μ a 1 :: st)) := x_get dX2_melt_22 rfl
theorem e26_25 : ab_rn cl 26 J Q (k + 1) 25 μ [.ref a, v1, v2, v3] st = ab_rn cl 26 J Q k 26 μ [.ref a, v1, v2, v3] (.ref a :: st) := x_aload_n dX2_melt_25 rfl
theorem e26_26 : ab_rn cl 26 J Q (k + 1) 26 μ [v0, v1, v2, v3] (.ref a :: st) = (ab_ob a 2 ∧ ab_rn cl 26 J Q k 29 μ [v0, v1, v2, v3] (ab_fv μ a 3 :: st)) := x_get dX2_melt_26 rfl
theorem e26_29 : ab_rn cl 26 J Q (k + 1) 29 μ [v0, v1, v2, v3] st = ab_rn cl 26 J Q k 30 μ [v0, v1, v2, v3] (.int 1 :: st) := x_iconst dX2_melt_29 (by decide)
theorem e26_30 : ab_rn cl 26 J Q (k + 1) 30 μ [v0, v1, v2, v3] (.int y :: .int x :: st) = ab_rn cl 26 J Q k 31 μ [v0, v1, v2, v3] (.int (x - y) :: st) := x_isub dX2_melt_30
theorem e26_31 : ab_rn cl 26 J Q (k + 1) 31 μ [v0, v1, v2, v3] (.int x :: .ref a :: st) = ((a < 81 ∧ ab_ak a = 0) ∧ vp_in x (ab_al a) ∧ ab_rn cl 26 J Q k 32 μ [v0, v1, v2, v3] (.int (μ (ab_cmp a) (ab_off a + x.toNatClampNeg)) :: st)) := x_iaload dX2_melt_31
theorem e26_32 : ab_rn cl 26 J Q (k + 1) 32 μ [v0, v1, v2, v3] (.int y :: .int x :: st) = (((x < y) → ab_rn cl 26 J Q k 62 μ [v0, v1, v2, v3] st) ∧ ((¬ (x < y)) → ab_rn cl 26 J Q k 35 μ [v0, v1, v2, v3] st)) := x_icmpF dX2_melt_32 rfl (fun _ _ _ _ _ => rfl)
theorem e26_35 : ab_rn cl 26 J Q (k + 1) 35 μ [v0, v1, v2, .int x] st = ab_rn cl 26 J Q k 36 μ [v0, v1, v2, .int x] (.int x :: st) := x_iload_n dX2_melt_35 rfl
theorem e26_36 : ab_rn cl 26 J Q (k + 1) 36 μ [.ref a, v1, v2, v3] st = ab_rn cl 26 J Q k 37 μ [.ref a, v1, v2, v3] (.ref a :: st) := x_aload_n dX2_melt_36 rfl
theorem e26_37 : ab_rn cl 26 J Q (k + 1) 37 μ [v0, v1, v2, v3] (.ref a :: st) = (ab_ob a 2 ∧ ab_rn cl 26 J Q k 40 μ [v0, v1, v2, v3] (ab_fv μ a 1 :: st)) := x_get dX2_melt_37 rfl
theorem e26_40 : ab_rn cl 26 J Q (k + 1) 40 μ [.ref a, v1, v2, v3] st = ab_rn cl 26 J Q k 41 μ [.ref a, v1, v2, v3] (.ref a :: st) := x_aload_n dX2_melt_40 rfl
theorem e26_41 : ab_rn cl 26 J Q (k + 1) 41 μ [v0, v1, v2, v3] (.ref a :: st) = (ab_ob a 2 ∧ ab_rn cl 26 J Q k 44 μ [v0, v1, v2, v3] (ab_fv μ a 3 :: st)) := x_get dX2_melt_41 rfl
theorem e26_44 : ab_rn cl 26 J Q (k + 1) 44 μ [v0, v1, v2, v3] st = ab_rn cl 26 J Q k 45 μ [v0, v1, v2, v3] (.int 1 :: st) := x_iconst dX2_melt_44 (by decide)
theorem e26_45 : ab_rn cl 26 J Q (k + 1) 45 μ [v0, v1, v2, v3] (.int y :: .int x :: st) = ab_rn cl 26 J Q k 46 μ [v0, v1, v2, v3] (.int (x - y) :: st) := x_isub dX2_melt_45
theorem e26_46 : ab_rn cl 26 J Q (k + 1) 46 μ [v0, v1, v2, v3] (.int x :: .ref a :: st) = ((a < 81 ∧ ab_ak a = 0) ∧ vp_in x (ab_al a) ∧ ab_rn cl 26 J Q k 47 μ [v0, v1, v2, v3] (.int (μ (ab_cmp a) (ab_off a + x.toNatClampNeg)) :: st)) := x_iaload dX2_melt_46
theorem e26_47 : ab_rn cl 26 J Q (k + 1) 47 μ [v0, v1, v2, v3] (.int y :: .int x :: st) = ab_rn cl 26 J Q k 48 μ [v0, v1, v2, v3] (.int (x - y) :: st) := x_isub dX2_melt_47
theorem e26_48 : ab_rn cl 26 J Q (k + 1) 48 μ [v0, v1, v2, v3] (.int x :: st) = ab_rn cl 26 J Q k 49 μ [v0, v1, v2, .int x] st := x_istore_n dX2_melt_48 (Nat.le_of_ble_eq_true rfl) rfl
theorem e26_49 : ab_rn cl 26 J Q (k + 1) 49 μ [.ref a, v1, v2, v3] st = ab_rn cl 26 J Q k 50 μ [.ref a, v1, v2, v3] (.ref a :: st) := x_aload_n dX2_melt_49 rfl
theorem e26_50i : ab_rn cl 26 J Q (k + 1) 50 μ [v0, v1, v2, v3] (.int x :: st) = ab_rn cl 26 J Q k 51 μ [v0, v1, v2, v3] (.int x :: .int x :: st) := x_dupi dX2_melt_50
theorem e26_50r : ab_rn cl 26 J Q (k + 1) 50 μ [v0, v1, v2, v3] (.ref a :: st) = ab_rn cl 26 J Q k 51 μ [v0, v1, v2, v3] (.ref a :: .ref a :: st) := x_dupr dX2_melt_50
theorem e26_51 : ab_rn cl 26 J Q (k + 1) 51 μ [v0, v1, v2, v3] (.ref a :: st) = (ab_ob a 2 ∧ ab_rn cl 26 J Q k 54 μ [v0, v1, v2, v3] (ab_fv μ a 3 :: st)) := x_get dX2_melt_51 rfl
theorem e26_54 : ab_rn cl 26 J Q (k + 1) 54 μ [v0, v1, v2, v3] st = ab_rn cl 26 J Q k 55 μ [v0, v1, v2, v3] (.int 1 :: st) := x_iconst dX2_melt_54 (by decide)
theorem e26_55 : ab_rn cl 26 J Q (k + 1) 55 μ [v0, v1, v2, v3] (.int y :: .int x :: st) = ab_rn cl 26 J Q k 56 μ [v0, v1, v2, v3] (.int (x - y) :: st) := x_isub dX2_melt_55
theorem e26_56 : ab_rn cl 26 J Q (k + 1) 56 μ [v0, v1, v2, v3] (.int v :: .ref a :: st) = (ab_ob a 2 ∧ ab_rf a 3 = none ∧ ab_rn cl 26 J Q k 59 (ab_up μ (ab_cmp a) (ab_off a + 3) v) [v0, v1, v2, v3] st) := x_put dX2_melt_56 rfl
theorem e26_59 : ab_rn cl 26 J Q (k + 1) 59 μ [v0, v1, v2, v3] st = J 13 μ [v0, v1, v2, v3] st := x_gotoB dX2_melt_59 (fun _ _ _ _ _ => rfl)
theorem e26_62 : ab_rn cl 26 J Q (k + 1) 62 μ [.ref a, v1, v2, v3] st = ab_rn cl 26 J Q k 63 μ [.ref a, v1, v2, v3] (.ref a :: st) := x_aload_n dX2_melt_62 rfl
theorem e26_63 : ab_rn cl 26 J Q (k + 1) 63 μ [v0, v1, v2, v3] (.ref a :: st) = (ab_ob a 2 ∧ ab_rn cl 26 J Q k 66 μ [v0, v1, v2, v3] (ab_fv μ a 3 :: st)) := x_get dX2_melt_63 rfl
theorem e26_66 : ab_rn cl 26 J Q (k + 1) 66 μ [v0, v1, v2, v3] (.int x :: st) = (((¬ x = 0) → ab_rn cl 26 J Q k 73 μ [v0, v1, v2, v3] st) ∧ ((¬ (¬ x = 0)) → ab_rn cl 26 J Q k 69 μ [v0, v1, v2, v3] st)) := x_ifF dX2_melt_66 rfl (fun _ _ _ _ _ => rfl)
theorem e26_69 : ab_rn cl 26 J Q (k + 1) 69 μ [v0, v1, .int x, v3] st = ab_rn cl 26 J Q k 70 μ [v0, v1, .int x, v3] (.int x :: st) := x_iload_n dX2_melt_69 rfl
theorem e26_70 : ab_rn cl 26 J Q (k + 1) 70 μ [v0, v1, v2, .int x] st = ab_rn cl 26 J Q k 71 μ [v0, v1, v2, .int x] (.int x :: st) := x_iload_n dX2_melt_70 rfl
theorem e26_71 : ab_rn cl 26 J Q (k + 1) 71 μ [v0, v1, v2, v3] (.int y :: .int x :: st) = ab_rn cl 26 J Q k 72 μ [v0, v1, v2, v3] (.int (x - y) :: st) := x_isub dX2_melt_71
theorem e26_72 : ab_rn cl 26 J Q (k + 1) 72 μ [v0, v1, v2, v3] [.int v] = Q (some v) μ := x_iret dX2_melt_72 rfl
theorem e26_73 : ab_rn cl 26 J Q (k + 1) 73 μ [.ref a, v1, v2, v3] st = ab_rn cl 26 J Q k 74 μ [.ref a, v1, v2, v3] (.ref a :: st) := x_aload_n dX2_melt_73 rfl
theorem e26_74 : ab_rn cl 26 J Q (k + 1) 74 μ [v0, v1, v2, v3] (.ref a :: st) = (ab_ob a 2 ∧ ab_rn cl 26 J Q k 77 μ [v0, v1, v2, v3] (ab_fv μ a 1 :: st)) := x_get dX2_melt_74 rfl
theorem e26_77 : ab_rn cl 26 J Q (k + 1) 77 μ [.ref a, v1, v2, v3] st = ab_rn cl 26 J Q k 78 μ [.ref a, v1, v2, v3] (.ref a :: st) := x_aload_n dX2_melt_77 rfl
theorem e26_78 : ab_rn cl 26 J Q (k + 1) 78 μ [v0, v1, v2, v3] (.ref a :: st) = (ab_ob a 2 ∧ ab_rn cl 26 J Q k 81 μ [v0, v1, v2, v3] (ab_fv μ a 3 :: st)) := x_get dX2_melt_78 rfl
theorem e26_81 : ab_rn cl 26 J Q (k + 1) 81 μ [v0, v1, v2, v3] st = ab_rn cl 26 J Q k 82 μ [v0, v1, v2, v3] (.int 1 :: st) := x_iconst dX2_melt_81 (by decide)
theorem e26_82 : ab_rn cl 26 J Q (k + 1) 82 μ [v0, v1, v2, v3] (.int y :: .int x :: st) = ab_rn cl 26 J Q k 83 μ [v0, v1, v2, v3] (.int (x - y) :: st) := x_isub dX2_melt_82
theorem e26_83 : ab_rn cl 26 J Q (k + 1) 83 μ [v0, v1, v2, v3] (.int x :: .ref a :: st) = ab_rn cl 26 J Q k 84 μ [v0, v1, v2, v3] (.int x :: .ref a :: .int x :: .ref a :: st) := x_dup2 dX2_melt_83
theorem e26_84 : ab_rn cl 26 J Q (k + 1) 84 μ [v0, v1, v2, v3] (.int x :: .ref a :: st) = ((a < 81 ∧ ab_ak a = 0) ∧ vp_in x (ab_al a) ∧ ab_rn cl 26 J Q k 85 μ [v0, v1, v2, v3] (.int (μ (ab_cmp a) (ab_off a + x.toNatClampNeg)) :: st)) := x_iaload dX2_melt_84
theorem e26_85 : ab_rn cl 26 J Q (k + 1) 85 μ [v0, v1, v2, .int x] st = ab_rn cl 26 J Q k 86 μ [v0, v1, v2, .int x] (.int x :: st) := x_iload_n dX2_melt_85 rfl
theorem e26_86 : ab_rn cl 26 J Q (k + 1) 86 μ [v0, v1, v2, v3] (.int y :: .int x :: st) = ab_rn cl 26 J Q k 87 μ [v0, v1, v2, v3] (.int (x - y) :: st) := x_isub dX2_melt_86
theorem e26_87 : ab_rn cl 26 J Q (k + 1) 87 μ [v0, v1, v2, v3] (.int v :: .int x :: .ref a :: st) = ((a < 81 ∧ ab_ak a = 0) ∧ vp_in x (ab_al a) ∧ ab_rn cl 26 J Q k 88 (ab_up μ (ab_cmp a) (ab_off a + x.toNatClampNeg) v) [v0, v1, v2, v3] st) := x_iastore dX2_melt_87
theorem e26_88 : ab_rn cl 26 J Q (k + 1) 88 μ [.ref a, v1, v2, v3] st = ab_rn cl 26 J Q k 89 μ [.ref a, v1, v2, v3] (.ref a :: st) := x_aload_n dX2_melt_88 rfl
theorem e26_89 : ab_rn cl 26 J Q (k + 1) 89 μ [v0, v1, v2, v3] (.ref a :: st) = (ab_ob a 2 ∧ ab_rn cl 26 J Q k 92 μ [v0, v1, v2, v3] (ab_fv μ a 0 :: st)) := x_get dX2_melt_89 rfl
theorem e26_92 : ab_rn cl 26 J Q (k + 1) 92 μ [.ref a, v1, v2, v3] st = ab_rn cl 26 J Q k 93 μ [.ref a, v1, v2, v3] (.ref a :: st) := x_aload_n dX2_melt_92 rfl
theorem e26_93 : ab_rn cl 26 J Q (k + 1) 93 μ [v0, v1, v2, v3] (.ref a :: st) = (ab_ob a 2 ∧ ab_rn cl 26 J Q k 96 μ [v0, v1, v2, v3] (ab_fv μ a 3 :: st)) := x_get dX2_melt_93 rfl
theorem e26_96 : ab_rn cl 26 J Q (k + 1) 96 μ [v0, v1, v2, v3] st = ab_rn cl 26 J Q k 97 μ [v0, v1, v2, v3] (.int 1 :: st) := x_iconst dX2_melt_96 (by decide)
theorem e26_97 : ab_rn cl 26 J Q (k + 1) 97 μ [v0, v1, v2, v3] (.int y :: .int x :: st) = ab_rn cl 26 J Q k 98 μ [v0, v1, v2, v3] (.int (x - y) :: st) := x_isub dX2_melt_97
theorem e26_98 : ab_rn cl 26 J Q (k + 1) 98 μ [v0, v1, v2, v3] st = ab_rn cl 26 J Q k 99 μ [v0, v1, v2, v3] (.int 3 :: st) := x_iconst dX2_melt_98 (by decide)
theorem e26_99 : ab_rn cl 26 J Q (k + 1) 99 μ [v0, v1, v2, v3] (.int v :: .int x :: .ref a :: st) = ((a < 81 ∧ ab_ak a = 0) ∧ vp_in x (ab_al a) ∧ ab_rn cl 26 J Q k 100 (ab_up μ (ab_cmp a) (ab_off a + x.toNatClampNeg) v) [v0, v1, v2, v3] st) := x_iastore dX2_melt_99
theorem e26_100 : ab_rn cl 26 J Q (k + 1) 100 μ [v0, v1, .int x, v3] st = ab_rn cl 26 J Q k 101 μ [v0, v1, .int x, v3] (.int x :: st) := x_iload_n dX2_melt_100 rfl
theorem e26_101 : ab_rn cl 26 J Q (k + 1) 101 μ [v0, v1, v2, v3] [.int v] = Q (some v) μ := x_iret dX2_melt_101 rfl
theorem n26 {d : Nat} (h : ∀ J : ab_J, (∀ k pc μ ls st, ab_rn (ab_Cl d) 26 J Q k pc μ ls st → J pc μ ls st) → J 0 μ [v0, v1, .null, .null] []) : ab_Cl (d + 1) 26 [v0, v1] μ Q := ab_go h
theorem e27_0 : ab_rn cl 27 J Q (k + 1) 0 μ [.ref a, v1, v2] st = ab_rn cl 27 J Q k 1 μ [.ref a, v1, v2] (.ref a :: st) := x_aload_n dX2_removeAbove_0 rfl
theorem e27_1 : ab_rn cl 27 J Q (k + 1) 1 μ [v0, .int x, v2] st = ab_rn cl 27 J Q k 2 μ [v0, .int x, v2] (.int x :: st) := x_iload_n dX2_removeAbove_1 rfl
theorem e27_2 : ab_rn cl 27 J Q (k + 1) 2 μ [v0, v1, v2] (.int x0 :: .ref a :: st) = (ab_ob a 2 ∧ st.length ≤ 4 ∧ cl 11 [.ref a, .int x0] μ (fun r μ' => ab_rn cl 27 J Q k 5 μ' [v0, v1, v2] (ab_pu r st))) := x_v (as := [.int x0]) dX2_removeAbove_2 rfl rfl rfl rfl rfl
theorem e27_5 : ab_rn cl 27 J Q (k + 1) 5 μ [v0, v1, v2] (.int x :: st) = (((¬ x = 0) → ab_rn cl 27 J Q k 10 μ [v0, v1, v2] st) ∧ ((¬ (¬ x = 0)) → ab_rn cl 27 J Q k 8 μ [v0, v1, v2] st)) := x_ifF dX2_removeAbove_5 rfl (fun _ _ _ _ _ => rfl)
theorem e27_8 : ab_rn cl 27 J Q (k + 1) 8 μ [v0, v1, v2] st = ab_rn cl 27 J Q k 9 μ [v0, v1, v2] (.int 0 :: st) := x_iconst dX2_removeAbove_8 (by decide)
theorem e27_9 : ab_rn cl 27 J Q (k + 1) 9 μ [v0, v1, v2] [.int v] = Q (some v) μ := x_iret dX2_removeAbove_9 rfl
theorem e27_10 : ab_rn cl 27 J Q (k + 1) 10 μ [.ref a, v1, v2] st = ab_rn cl 27 J Q k 11 μ [.ref a, v1, v2] (.ref a :: st) := x_aload_n dX2_removeAbove_10 rfl
theorem e27_11 : ab_rn cl 27 J Q (k + 1) 11 μ [v0, .int x, v2] st = ab_rn cl 27 J Q k 12 μ [v0, .int x, v2] (.int x :: st) := x_iload_n dX2_removeAbove_11 rfl
theorem e27_12 : ab_rn cl 27 J Q (k + 1) 12 μ [v0, v1, v2] (.int x0 :: .ref a :: st) = (ab_ob a 2 ∧ st.length ≤ 4 ∧ cl 16 [.ref a, .int x0] μ (fun r μ' => ab_rn cl 27 J Q k 15 μ' [v0, v1, v2] (ab_pu r st))) := x_v (as := [.int x0]) dX2_removeAbove_12 rfl rfl rfl rfl rfl
theorem e27_15 : ab_rn cl 27 J Q (k + 1) 15 μ [v0, v1, v2] (.int x :: st) = ab_rn cl 27 J Q k 16 μ [v0, v1, .int x] st := x_istore_n dX2_removeAbove_15 (Nat.le_of_ble_eq_true rfl) rfl
theorem e27_16 : ab_rn cl 27 J Q (k + 1) 16 μ [.ref a, v1, v2] st = ab_rn cl 27 J Q k 17 μ [.ref a, v1, v2] (.ref a :: st) := x_aload_n dX2_removeAbove_16 rfl
theorem e27_17 : ab_rn cl 27 J Q (k + 1) 17 μ [v0, .int x, v2] st = ab_rn cl 27 J Q k 18 μ [v0, .int x, v2] (.int x :: st) := x_iload_n dX2_removeAbove_17 rfl
theorem e27_18 : ab_rn cl 27 J Q (k + 1) 18 μ [v0, v1, v2] st = ab_rn cl 27 J Q k 19 μ [v0, v1, v2] (.int 1 :: st) := x_iconst dX2_removeAbove_18 (by decide)
theorem e27_19 : ab_rn cl 27 J Q (k + 1) 19 μ [v0, v1, v2] (.int y :: .int x :: st) = ab_rn cl 27 J Q k 20 μ [v0, v1, v2] (.int (x + y) :: st) := x_iadd dX2_removeAbove_19
theorem e27_20 : ab_rn cl 27 J Q (k + 1) 20 μ [v0, v1, v2] (.int v :: .ref a :: st) = (ab_ob a 2 ∧ ab_rf a 3 = none ∧ ab_rn cl 27 J Q k 23 (ab_up μ (ab_cmp a) (ab_off a + 3) v) [v0, v1, v2] st) := x_put dX2_removeAbove_20 rfl
theorem e27_23 : ab_rn cl 27 J Q (k + 1) 23 μ [v0, v1, .int x] st = ab_rn cl 27 J Q k 24 μ [v0, v1, .int x] (.int x :: st) := x_iload_n dX2_removeAbove_23 rfl
theorem e27_24 : ab_rn cl 27 J Q (k + 1) 24 μ [v0, v1, v2] [.int v] = Q (some v) μ := x_iret dX2_removeAbove_24 rfl
theorem n27 {d : Nat} (h : ∀ J : ab_J, (∀ k pc μ ls st, ab_rn (ab_Cl d) 27 J Q k pc μ ls st → J pc μ ls st) → J 0 μ [v0, v1, .null] []) : ab_Cl (d + 1) 27 [v0, v1] μ Q := ab_go h
theorem e28_0 : ab_rn cl 28 J Q (k + 1) 0 μ [.ref a] st = ab_rn cl 28 J Q k 1 μ [.ref a] (.ref a :: st) := x_aload_n dX2_isTopNew_0 rfl
theorem e28_1 : ab_rn cl 28 J Q (k + 1) 1 μ [v0] (.ref a :: st) = (ab_ob a 2 ∧ ab_rn cl 28 J Q k 4 μ [v0] (ab_fv μ a 3 :: st)) := x_get dX2_isTopNew_1 rfl
theorem e28_4 : ab_rn cl 28 J Q (k + 1) 4 μ [v0] (.int x :: st) = (((x ≤ 0) → ab_rn cl 28 J Q k 25 μ [v0] st) ∧ ((¬ (x ≤ 0)) → ab_rn cl 28 J Q k 7 μ [v0] st)) := x_ifF dX2_isTopNew_4 rfl (fun _ _ _ _ _ => rfl)
theorem e28_7 : ab_rn cl 28 J Q (k + 1) 7 μ [.ref a] st = ab_rn cl 28 J Q k 8 μ [.ref a] (.ref a :: st) := x_aload_n dX2_isTopNew_7 rfl
theorem e28_8 : ab_rn cl 28 J Q (k + 1) 8 μ [v0] (.ref a :: st) = (ab_ob a 2 ∧ ab_rn cl 28 J Q k 11 μ [v0] (ab_fv μ a 0 :: st)) := x_get dX2_isTopNew_8 rfl
theorem e28_11 : ab_rn cl 28 J Q (k + 1) 11 μ [.ref a] st = ab_rn cl 28 J Q k 12 μ [.ref a] (.ref a :: st) := x_aload_n dX2_isTopNew_11 rfl
theorem e28_12 : ab_rn cl 28 J Q (k + 1) 12 μ [v0] (.ref a :: st) = (ab_ob a 2 ∧ ab_rn cl 28 J Q k 15 μ [v0] (ab_fv μ a 3 :: st)) := x_get dX2_isTopNew_12 rfl
theorem e28_15 : ab_rn cl 28 J Q (k + 1) 15 μ [v0] st = ab_rn cl 28 J Q k 16 μ [v0] (.int 1 :: st) := x_iconst dX2_isTopNew_15 (by decide)
theorem e28_16 : ab_rn cl 28 J Q (k + 1) 16 μ [v0] (.int y :: .int x :: st) = ab_rn cl 28 J Q k 17 μ [v0] (.int (x - y) :: st) := x_isub dX2_isTopNew_16
theorem e28_17 : ab_rn cl 28 J Q (k + 1) 17 μ [v0] (.int x :: .ref a :: st) = ((a < 81 ∧ ab_ak a = 0) ∧ vp_in x (ab_al a) ∧ ab_rn cl 28 J Q k 18 μ [v0] (.int (μ (ab_cmp a) (ab_off a + x.toNatClampNeg)) :: st)) := x_iaload dX2_isTopNew_17
theorem e28_18 : ab_rn cl 28 J Q (k + 1) 18 μ [v0] (.int x :: st) = (((¬ x = 0) → ab_rn cl 28 J Q k 25 μ [v0] st) ∧ ((¬ (¬ x = 0)) → ab_rn cl 28 J Q k 21 μ [v0] st)) := x_ifF dX2_isTopNew_18 rfl (fun _ _ _ _ _ => rfl)
theorem e28_21 : ab_rn cl 28 J Q (k + 1) 21 μ [v0] st = ab_rn cl 28 J Q k 22 μ [v0] (.int 1 :: st) := x_iconst dX2_isTopNew_21 (by decide)
theorem e28_22 : ab_rn cl 28 J Q (k + 1) 22 μ [v0] st = ab_rn cl 28 J Q k 26 μ [v0] st := x_gotoF dX2_isTopNew_22 (fun _ _ _ _ _ => rfl)
theorem e28_25 : ab_rn cl 28 J Q (k + 1) 25 μ [v0] st = ab_rn cl 28 J Q k 26 μ [v0] (.int 0 :: st) := x_iconst dX2_isTopNew_25 (by decide)
theorem e28_26 : ab_rn cl 28 J Q (k + 1) 26 μ [v0] [.int v] = ((v = 0 ∨ v = 1) ∧ Q (some v) μ) := x_zret dX2_isTopNew_26 rfl
theorem n28 {d : Nat} (h : ∀ J : ab_J, (∀ k pc μ ls st, ab_rn (ab_Cl d) 28 J Q k pc μ ls st → J pc μ ls st) → J 0 μ [v0] []) : ab_Cl (d + 1) 28 [v0] μ Q := ab_go h
theorem e29_0 : ab_rn cl 29 J Q (k + 1) 0 μ [v0, v1, v2, v3, v4] st = ab_rn cl 29 J Q k 1 μ [v0, v1, v2, v3, v4] (.int 0 :: st) := x_iconst dX2_massBetween_0 (by decide)
theorem e29_1 : ab_rn cl 29 J Q (k + 1) 1 μ [v0, v1, v2, v3, v4] (.int x :: st) = ab_rn cl 29 J Q k 2 μ [v0, v1, v2, .int x, v4] st := x_istore_n dX2_massBetween_1 (Nat.le_of_ble_eq_true rfl) rfl
theorem e29_2 : ab_rn cl 29 J Q (k + 1) 2 μ [v0, .int x, v2, v3, v4] st = ab_rn cl 29 J Q k 3 μ [v0, .int x, v2, v3, v4] (.int x :: st) := x_iload_n dX2_massBetween_2 rfl
theorem e29_3 : ab_rn cl 29 J Q (k + 1) 3 μ [v0, v1, v2, v3, v4] st = ab_rn cl 29 J Q k 4 μ [v0, v1, v2, v3, v4] (.int 1 :: st) := x_iconst dX2_massBetween_3 (by decide)
theorem e29_4 : ab_rn cl 29 J Q (k + 1) 4 μ [v0, v1, v2, v3, v4] (.int y :: .int x :: st) = ab_rn cl 29 J Q k 5 μ [v0, v1, v2, v3, v4] (.int (x + y) :: st) := x_iadd dX2_massBetween_4
theorem e29_5 : ab_rn cl 29 J Q (k + 1) 5 μ [v0, v1, v2, v3, v4] st = ab_rn cl 29 J Q k 6 μ [v0, v1, v2, v3, v4] (.int 0 :: st) := x_iconst dX2_massBetween_5 (by decide)
theorem e29_6 : ab_rn cl 29 J Q (k + 1) 6 μ [v0, v1, v2, v3, v4] (.int y :: .int x :: st) = (st.length ≤ 4 ∧ ab_rn cl 29 J Q k 9 μ [v0, v1, v2, v3, v4] (.int (if x < y then y else x) :: st)) := x_max dX2_massBetween_6 rfl
theorem e29_9 : ab_rn cl 29 J Q (k + 1) 9 μ [v0, v1, v2, v3, v4] (.int x :: st) = ab_rn cl 29 J Q k 11 μ [v0, v1, v2, v3, .int x] st := x_istore dX2_massBetween_9 (Nat.le_of_ble_eq_true rfl) rfl
theorem e29_11 : ab_rn cl 29 J Q (k + 1) 11 μ [v0, v1, v2, v3, .int x] st = ab_rn cl 29 J Q k 13 μ [v0, v1, v2, v3, .int x] (.int x :: st) := x_iload dX2_massBetween_11 rfl
theorem e29_13 : ab_rn cl 29 J Q (k + 1) 13 μ [v0, v1, .int x, v3, v4] st = ab_rn cl 29 J Q k 14 μ [v0, v1, .int x, v3, v4] (.int x :: st) := x_iload_n dX2_massBetween_13 rfl
theorem e29_14 : ab_rn cl 29 J Q (k + 1) 14 μ [v0, v1, v2, v3, v4] (.int y :: .int x :: st) = (((y ≤ x) → ab_rn cl 29 J Q k 42 μ [v0, v1, v2, v3, v4] st) ∧ ((¬ (y ≤ x)) → ab_rn cl 29 J Q k 17 μ [v0, v1, v2, v3, v4] st)) := x_icmpF dX2_massBetween_14 rfl (fun _ _ _ _ _ => rfl)
theorem e29_17 : ab_rn cl 29 J Q (k + 1) 17 μ [v0, v1, v2, v3, .int x] st = ab_rn cl 29 J Q k 19 μ [v0, v1, v2, v3, .int x] (.int x :: st) := x_iload dX2_massBetween_17 rfl
theorem e29_19 : ab_rn cl 29 J Q (k + 1) 19 μ [.ref a, v1, v2, v3, v4] st = ab_rn cl 29 J Q k 20 μ [.ref a, v1, v2, v3, v4] (.ref a :: st) := x_aload_n dX2_massBetween_19 rfl
theorem e29_20 : ab_rn cl 29 J Q (k + 1) 20 μ [v0, v1, v2, v3, v4] (.ref a :: st) = (ab_ob a 2 ∧ ab_rn cl 29 J Q k 23 μ [v0, v1, v2, v3, v4] (ab_fv μ a 3 :: st)) := x_get dX2_massBetween_20 rfl
theorem e29_23 : ab_rn cl 29 J Q (k + 1) 23 μ [v0, v1, v2, v3, v4] (.int y :: .int x :: st) = (((y ≤ x) → ab_rn cl 29 J Q k 42 μ [v0, v1, v2, v3, v4] st) ∧ ((¬ (y ≤ x)) → ab_rn cl 29 J Q k 26 μ [v0, v1, v2, v3, v4] st)) := x_icmpF dX2_massBetween_23 rfl (fun _ _ _ _ _ => rfl)
theorem e29_26 : ab_rn cl 29 J Q (k + 1) 26 μ [v0, v1, v2, .int x, v4] st = ab_rn cl 29 J Q k 27 μ [v0, v1, v2, .int x, v4] (.int x :: st) := x_iload_n dX2_massBetween_26 rfl
theorem e29_27 : ab_rn cl 29 J Q (k + 1) 27 μ [.ref a, v1, v2, v3, v4] st = ab_rn cl 29 J Q k 28 μ [.ref a, v1, v2, v3, v4] (.ref a :: st) := x_aload_n dX2_massBetween_27 rfl
theorem e29_28 : ab_rn cl 29 J Q (k + 1) 28 μ [v0, v1, v2, v3, v4] (.ref a :: st) = (ab_ob a 2 ∧ ab_rn cl 29 J Q k 31 μ [v0, v1, v2, v3, v4] (ab_fv μ a 1 :: st)) := x_get dX2_massBetween_28 rfl
theorem e29_31 : ab_rn cl 29 J Q (k + 1) 31 μ [v0, v1, v2, v3, .int x] st = ab_rn cl 29 J Q k 33 μ [v0, v1, v2, v3, .int x] (.int x :: st) := x_iload dX2_massBetween_31 rfl
theorem e29_33 : ab_rn cl 29 J Q (k + 1) 33 μ [v0, v1, v2, v3, v4] (.int x :: .ref a :: st) = ((a < 81 ∧ ab_ak a = 0) ∧ vp_in x (ab_al a) ∧ ab_rn cl 29 J Q k 34 μ [v0, v1, v2, v3, v4] (.int (μ (ab_cmp a) (ab_off a + x.toNatClampNeg)) :: st)) := x_iaload dX2_massBetween_33
theorem e29_34 : ab_rn cl 29 J Q (k + 1) 34 μ [v0, v1, v2, v3, v4] (.int y :: .int x :: st) = ab_rn cl 29 J Q k 35 μ [v0, v1, v2, v3, v4] (.int (x + y) :: st) := x_iadd dX2_massBetween_34
theorem e29_35 : ab_rn cl 29 J Q (k + 1) 35 μ [v0, v1, v2, v3, v4] (.int x :: st) = ab_rn cl 29 J Q k 36 μ [v0, v1, v2, .int x, v4] st := x_istore_n dX2_massBetween_35 (Nat.le_of_ble_eq_true rfl) rfl
theorem e29_36 : ab_rn cl 29 J Q (k + 1) 36 μ [v0, v1, v2, v3, .int x] st = ab_rn cl 29 J Q k 39 μ [v0, v1, v2, v3, .int (x + 1)] st := x_iinc dX2_massBetween_36 (w := 1) (by decide) rfl rfl
theorem e29_39 : ab_rn cl 29 J Q (k + 1) 39 μ [v0, v1, v2, v3, v4] st = J 11 μ [v0, v1, v2, v3, v4] st := x_gotoB dX2_massBetween_39 (fun _ _ _ _ _ => rfl)
theorem e29_42 : ab_rn cl 29 J Q (k + 1) 42 μ [v0, v1, v2, .int x, v4] st = ab_rn cl 29 J Q k 43 μ [v0, v1, v2, .int x, v4] (.int x :: st) := x_iload_n dX2_massBetween_42 rfl
theorem e29_43 : ab_rn cl 29 J Q (k + 1) 43 μ [v0, v1, v2, v3, v4] [.int v] = Q (some v) μ := x_iret dX2_massBetween_43 rfl
theorem n29 {d : Nat} (h : ∀ J : ab_J, (∀ k pc μ ls st, ab_rn (ab_Cl d) 29 J Q k pc μ ls st → J pc μ ls st) → J 0 μ [v0, v1, v2, .null, .null] []) : ab_Cl (d + 1) 29 [v0, v1, v2] μ Q := ab_go h
theorem e30_0 : ab_rn cl 30 J Q (k + 1) 0 μ [v0, .int x, v2] st = ab_rn cl 30 J Q k 1 μ [v0, .int x, v2] (.int x :: st) := x_iload_n dX2_indexUnder_0 rfl
theorem e30_1 : ab_rn cl 30 J Q (k + 1) 1 μ [v0, v1, v2] (.int x :: st) = (((0 < x) → ab_rn cl 30 J Q k 6 μ [v0, v1, v2] st) ∧ ((¬ (0 < x)) → ab_rn cl 30 J Q k 4 μ [v0, v1, v2] st)) := x_ifF dX2_indexUnder_1 rfl (fun _ _ _ _ _ => rfl)
theorem e30_4 : ab_rn cl 30 J Q (k + 1) 4 μ [v0, v1, v2] st = ab_rn cl 30 J Q k 5 μ [v0, v1, v2] (.int (-1) :: st) := x_iconst dX2_indexUnder_4 (by decide)
theorem e30_5 : ab_rn cl 30 J Q (k + 1) 5 μ [v0, v1, v2] [.int v] = Q (some v) μ := x_iret dX2_indexUnder_5 rfl
theorem e30_6 : ab_rn cl 30 J Q (k + 1) 6 μ [v0, v1, v2] st = ab_rn cl 30 J Q k 8 μ [v0, v1, v2] (.int 100 :: st) := x_bipush dX2_indexUnder_6 (by decide)
theorem e30_8 : ab_rn cl 30 J Q (k + 1) 8 μ [.int x, v1, v2] st = ab_rn cl 30 J Q k 9 μ [.int x, v1, v2] (.int x :: st) := x_iload_n dX2_indexUnder_8 rfl
theorem e30_9 : ab_rn cl 30 J Q (k + 1) 9 μ [v0, v1, v2] (.int y :: .int x :: st) = ab_rn cl 30 J Q k 10 μ [v0, v1, v2] (.int (x * y) :: st) := x_imul dX2_indexUnder_9
theorem e30_10 : ab_rn cl 30 J Q (k + 1) 10 μ [v0, .int x, v2] st = ab_rn cl 30 J Q k 11 μ [v0, .int x, v2] (.int x :: st) := x_iload_n dX2_indexUnder_10 rfl
theorem e30_11 : ab_rn cl 30 J Q (k + 1) 11 μ [v0, v1, v2] (.int y :: .int x :: st) = ((¬ y = 0) ∧ ab_rn cl 30 J Q k 12 μ [v0, v1, v2] (.int (x / y) :: st)) := x_idiv dX2_indexUnder_11
theorem e30_12 : ab_rn cl 30 J Q (k + 1) 12 μ [v0, v1, v2] (.int x :: st) = ab_rn cl 30 J Q k 13 μ [v0, v1, .int x] st := x_istore_n dX2_indexUnder_12 (Nat.le_of_ble_eq_true rfl) rfl
theorem e30_13 : ab_rn cl 30 J Q (k + 1) 13 μ [v0, v1, .int x] st = ab_rn cl 30 J Q k 14 μ [v0, v1, .int x] (.int x :: st) := x_iload_n dX2_indexUnder_13 rfl
theorem e30_14 : ab_rn cl 30 J Q (k + 1) 14 μ [v0, v1, v2] st = ab_rn cl 30 J Q k 17 μ [v0, v1, v2] (.int 999 :: st) := x_sipush dX2_indexUnder_14 (by decide)
theorem e30_17 : ab_rn cl 30 J Q (k + 1) 17 μ [v0, v1, v2] (.int y :: .int x :: st) = (((x ≤ y) → ab_rn cl 30 J Q k 26 μ [v0, v1, v2] st) ∧ ((¬ (x ≤ y)) → ab_rn cl 30 J Q k 20 μ [v0, v1, v2] st)) := x_icmpF dX2_indexUnder_17 rfl (fun _ _ _ _ _ => rfl)
theorem e30_20 : ab_rn cl 30 J Q (k + 1) 20 μ [v0, v1, v2] st = ab_rn cl 30 J Q k 23 μ [v0, v1, v2] (.int 999 :: st) := x_sipush dX2_indexUnder_20 (by decide)
theorem e30_23 : ab_rn cl 30 J Q (k + 1) 23 μ [v0, v1, v2] st = ab_rn cl 30 J Q k 27 μ [v0, v1, v2] st := x_gotoF dX2_indexUnder_23 (fun _ _ _ _ _ => rfl)
theorem e30_26 : ab_rn cl 30 J Q (k + 1) 26 μ [v0, v1, .int x] st = ab_rn cl 30 J Q k 27 μ [v0, v1, .int x] (.int x :: st) := x_iload_n dX2_indexUnder_26 rfl
theorem e30_27 : ab_rn cl 30 J Q (k + 1) 27 μ [v0, v1, v2] [.int v] = Q (some v) μ := x_iret dX2_indexUnder_27 rfl
theorem n30 {d : Nat} (h : ∀ J : ab_J, (∀ k pc μ ls st, ab_rn (ab_Cl d) 30 J Q k pc μ ls st → J pc μ ls st) → J 0 μ [v0, v1, .null] []) : ab_Cl (d + 1) 30 [v0, v1] μ Q := ab_go h
theorem e31_0 : ab_rn cl 31 J Q (k + 1) 0 μ [.int x, v1] st = ab_rn cl 31 J Q k 1 μ [.int x, v1] (.int x :: st) := x_iload_n dX2_bearingOf_0 rfl
theorem e31_1_0 : ab_rn cl 31 J Q (k + 1) 1 μ [v0, v1] (.int 0 :: st) = ab_rn cl 31 J Q k 32 μ [v0, v1] st := x_tsiF dX2_bearingOf_1 (by decide) (off := 31) (by decide +kernel) (fun _ _ _ _ _ => rfl)
theorem e31_1_1 : ab_rn cl 31 J Q (k + 1) 1 μ [v0, v1] (.int 1 :: st) = ab_rn cl 31 J Q k 36 μ [v0, v1] st := x_tsiF dX2_bearingOf_1 (by decide) (off := 35) (by decide +kernel) (fun _ _ _ _ _ => rfl)
theorem e31_1_2 : ab_rn cl 31 J Q (k + 1) 1 μ [v0, v1] (.int 2 :: st) = ab_rn cl 31 J Q k 40 μ [v0, v1] st := x_tsiF dX2_bearingOf_1 (by decide) (off := 39) (by decide +kernel) (fun _ _ _ _ _ => rfl)
theorem e31_1_3 : ab_rn cl 31 J Q (k + 1) 1 μ [v0, v1] (.int 3 :: st) = ab_rn cl 31 J Q k 49 μ [v0, v1] st := x_tsiF dX2_bearingOf_1 (by decide) (off := 48) (by decide +kernel) (fun _ _ _ _ _ => rfl)
theorem e31_1d (h : x < 0 ∨ 3 < x) : ab_rn cl 31 J Q (k + 1) 1 μ [v0, v1] (.int x :: st) = ab_rn cl 31 J Q k 53 μ [v0, v1] st := x_tsoF dX2_bearingOf_1 (ab_tso h) (fun _ _ _ _ _ => rfl)
theorem e31_32 : ab_rn cl 31 J Q (k + 1) 32 μ [v0, v1] st = ab_rn cl 31 J Q k 35 μ [v0, v1] (.int 400 :: st) := x_sipush dX2_bearingOf_32 (by decide)
theorem e31_35 : ab_rn cl 31 J Q (k + 1) 35 μ [v0, v1] [.int v] = Q (some v) μ := x_iret dX2_bearingOf_35 rfl
theorem e31_36 : ab_rn cl 31 J Q (k + 1) 36 μ [v0, v1] st = ab_rn cl 31 J Q k 39 μ [v0, v1] (.int 900 :: st) := x_sipush dX2_bearingOf_36 (by decide)
theorem e31_39 : ab_rn cl 31 J Q (k + 1) 39 μ [v0, v1] [.int v] = Q (some v) μ := x_iret dX2_bearingOf_39 rfl
theorem e31_40 : ab_rn cl 31 J Q (k + 1) 40 μ [v0, v1] st = ab_rn cl 31 J Q k 43 μ [v0, v1] (.int 250 :: st) := x_sipush dX2_bearingOf_40 (by decide)
theorem e31_43 : ab_rn cl 31 J Q (k + 1) 43 μ [v0, v1] st = ab_rn cl 31 J Q k 45 μ [v0, v1] (.int 15 :: st) := x_bipush dX2_bearingOf_43 (by decide)
theorem e31_45 : ab_rn cl 31 J Q (k + 1) 45 μ [v0, .int x] st = ab_rn cl 31 J Q k 46 μ [v0, .int x] (.int x :: st) := x_iload_n dX2_bearingOf_45 rfl
theorem e31_46 : ab_rn cl 31 J Q (k + 1) 46 μ [v0, v1] (.int y :: .int x :: st) = ab_rn cl 31 J Q k 47 μ [v0, v1] (.int (x * y) :: st) := x_imul dX2_bearingOf_46
theorem e31_47 : ab_rn cl 31 J Q (k + 1) 47 μ [v0, v1] (.int y :: .int x :: st) = ab_rn cl 31 J Q k 48 μ [v0, v1] (.int (x + y) :: st) := x_iadd dX2_bearingOf_47
theorem e31_48 : ab_rn cl 31 J Q (k + 1) 48 μ [v0, v1] [.int v] = Q (some v) μ := x_iret dX2_bearingOf_48 rfl
theorem e31_49 : ab_rn cl 31 J Q (k + 1) 49 μ [v0, v1] st = ab_rn cl 31 J Q k 52 μ [v0, v1] (.int 3000 :: st) := x_sipush dX2_bearingOf_49 (by decide)
theorem e31_52 : ab_rn cl 31 J Q (k + 1) 52 μ [v0, v1] [.int v] = Q (some v) μ := x_iret dX2_bearingOf_52 rfl
theorem e31_53 : ab_rn cl 31 J Q (k + 1) 53 μ [v0, v1] st = ab_rn cl 31 J Q k 54 μ [v0, v1] (.int 0 :: st) := x_iconst dX2_bearingOf_53 (by decide)
theorem e31_54 : ab_rn cl 31 J Q (k + 1) 54 μ [v0, v1] [.int v] = Q (some v) μ := x_iret dX2_bearingOf_54 rfl
theorem n31 {d : Nat} (h : ∀ J : ab_J, (∀ k pc μ ls st, ab_rn (ab_Cl d) 31 J Q k pc μ ls st → J pc μ ls st) → J 0 μ [v0, v1] []) : ab_Cl (d + 1) 31 [v0, v1] μ Q := ab_go h
theorem e32_0 : ab_rn cl 32 J Q (k + 1) 0 μ [.ref a, v1] st = ab_rn cl 32 J Q k 1 μ [.ref a, v1] (.ref a :: st) := x_aload_n dX2_joinLowest_0 rfl
theorem e32_1 : ab_rn cl 32 J Q (k + 1) 1 μ [v0, v1] (.ref a :: st) = (ab_ob a 2 ∧ ab_rn cl 32 J Q k 4 μ [v0, v1] (ab_fv μ a 1 :: st)) := x_get dX2_joinLowest_1 rfl
theorem e32_4 : ab_rn cl 32 J Q (k + 1) 4 μ [v0, v1] st = ab_rn cl 32 J Q k 5 μ [v0, v1] (.int 1 :: st) := x_iconst dX2_joinLowest_4 (by decide)
theorem e32_5 : ab_rn cl 32 J Q (k + 1) 5 μ [v0, v1] (.int x :: .ref a :: st) = ab_rn cl 32 J Q k 6 μ [v0, v1] (.int x :: .ref a :: .int x :: .ref a :: st) := x_dup2 dX2_joinLowest_5
theorem e32_6 : ab_rn cl 32 J Q (k + 1) 6 μ [v0, v1] (.int x :: .ref a :: st) = ((a < 81 ∧ ab_ak a = 0) ∧ vp_in x (ab_al a) ∧ ab_rn cl 32 J Q k 7 μ [v0, v1] (.int (μ (ab_cmp a) (ab_off a + x.toNatClampNeg)) :: st)) := x_iaload dX2_joinLowest_6
theorem e32_7 : ab_rn cl 32 J Q (k + 1) 7 μ [.ref a, v1] st = ab_rn cl 32 J Q k 8 μ [.ref a, v1] (.ref a :: st) := x_aload_n dX2_joinLowest_7 rfl
theorem e32_8 : ab_rn cl 32 J Q (k + 1) 8 μ [v0, v1] (.ref a :: st) = (ab_ob a 2 ∧ ab_rn cl 32 J Q k 11 μ [v0, v1] (ab_fv μ a 1 :: st)) := x_get dX2_joinLowest_8 rfl
theorem e32_11 : ab_rn cl 32 J Q (k + 1) 11 μ [v0, v1] st = ab_rn cl 32 J Q k 12 μ [v0, v1] (.int 0 :: st) := x_iconst dX2_joinLowest_11 (by decide)
theorem e32_12 : ab_rn cl 32 J Q (k + 1) 12 μ [v0, v1] (.int x :: .ref a :: st) = ((a < 81 ∧ ab_ak a = 0) ∧ vp_in x (ab_al a) ∧ ab_rn cl 32 J Q k 13 μ [v0, v1] (.int (μ (ab_cmp a) (ab_off a + x.toNatClampNeg)) :: st)) := x_iaload dX2_joinLowest_12
theorem e32_13 : ab_rn cl 32 J Q (k + 1) 13 μ [v0, v1] (.int y :: .int x :: st) = ab_rn cl 32 J Q k 14 μ [v0, v1] (.int (x + y) :: st) := x_iadd dX2_joinLowest_13
theorem e32_14 : ab_rn cl 32 J Q (k + 1) 14 μ [v0, v1] (.int v :: .int x :: .ref a :: st) = ((a < 81 ∧ ab_ak a = 0) ∧ vp_in x (ab_al a) ∧ ab_rn cl 32 J Q k 15 (ab_up μ (ab_cmp a) (ab_off a + x.toNatClampNeg) v) [v0, v1] st) := x_iastore dX2_joinLowest_14
theorem e32_15 : ab_rn cl 32 J Q (k + 1) 15 μ [.ref a, v1] st = ab_rn cl 32 J Q k 16 μ [.ref a, v1] (.ref a :: st) := x_aload_n dX2_joinLowest_15 rfl
theorem e32_16 : ab_rn cl 32 J Q (k + 1) 16 μ [v0, v1] (.ref a :: st) = (ab_ob a 2 ∧ ab_rn cl 32 J Q k 19 μ [v0, v1] (ab_fv μ a 2 :: st)) := x_get dX2_joinLowest_16 rfl
theorem e32_19 : ab_rn cl 32 J Q (k + 1) 19 μ [v0, v1] st = ab_rn cl 32 J Q k 20 μ [v0, v1] (.int 1 :: st) := x_iconst dX2_joinLowest_19 (by decide)
theorem e32_20 : ab_rn cl 32 J Q (k + 1) 20 μ [.ref a, v1] st = ab_rn cl 32 J Q k 21 μ [.ref a, v1] (.ref a :: st) := x_aload_n dX2_joinLowest_20 rfl
theorem e32_21 : ab_rn cl 32 J Q (k + 1) 21 μ [v0, v1] (.ref a :: st) = (ab_ob a 2 ∧ ab_rn cl 32 J Q k 24 μ [v0, v1] (ab_fv μ a 2 :: st)) := x_get dX2_joinLowest_21 rfl
theorem e32_24 : ab_rn cl 32 J Q (k + 1) 24 μ [v0, v1] st = ab_rn cl 32 J Q k 25 μ [v0, v1] (.int 0 :: st) := x_iconst dX2_joinLowest_24 (by decide)
theorem e32_25 : ab_rn cl 32 J Q (k + 1) 25 μ [v0, v1] (.int x :: .ref a :: st) = ((a < 81 ∧ ab_ak a = 0) ∧ vp_in x (ab_al a) ∧ ab_rn cl 32 J Q k 26 μ [v0, v1] (.int (μ (ab_cmp a) (ab_off a + x.toNatClampNeg)) :: st)) := x_iaload dX2_joinLowest_25
theorem e32_26 : ab_rn cl 32 J Q (k + 1) 26 μ [.ref a, v1] st = ab_rn cl 32 J Q k 27 μ [.ref a, v1] (.ref a :: st) := x_aload_n dX2_joinLowest_26 rfl
theorem e32_27 : ab_rn cl 32 J Q (k + 1) 27 μ [v0, v1] (.ref a :: st) = (ab_ob a 2 ∧ ab_rn cl 32 J Q k 30 μ [v0, v1] (ab_fv μ a 2 :: st)) := x_get dX2_joinLowest_27 rfl
theorem e32_30 : ab_rn cl 32 J Q (k + 1) 30 μ [v0, v1] st = ab_rn cl 32 J Q k 31 μ [v0, v1] (.int 1 :: st) := x_iconst dX2_joinLowest_30 (by decide)
theorem e32_31 : ab_rn cl 32 J Q (k + 1) 31 μ [v0, v1] (.int x :: .ref a :: st) = ((a < 81 ∧ ab_ak a = 0) ∧ vp_in x (ab_al a) ∧ ab_rn cl 32 J Q k 32 μ [v0, v1] (.int (μ (ab_cmp a) (ab_off a + x.toNatClampNeg)) :: st)) := x_iaload dX2_joinLowest_31
theorem e32_32 : ab_rn cl 32 J Q (k + 1) 32 μ [v0, v1] (.int y :: .int x :: st) = (st.length ≤ 4 ∧ ab_rn cl 32 J Q k 35 μ [v0, v1] (.int (if x < y then y else x) :: st)) := x_max dX2_joinLowest_32 rfl
theorem e32_35 : ab_rn cl 32 J Q (k + 1) 35 μ [v0, v1] (.int v :: .int x :: .ref a :: st) = ((a < 81 ∧ ab_ak a = 0) ∧ vp_in x (ab_al a) ∧ ab_rn cl 32 J Q k 36 (ab_up μ (ab_cmp a) (ab_off a + x.toNatClampNeg) v) [v0, v1] st) := x_iastore dX2_joinLowest_35
theorem e32_36 : ab_rn cl 32 J Q (k + 1) 36 μ [v0, v1] st = ab_rn cl 32 J Q k 37 μ [v0, v1] (.int 1 :: st) := x_iconst dX2_joinLowest_36 (by decide)
theorem e32_37 : ab_rn cl 32 J Q (k + 1) 37 μ [v0, v1] (.int x :: st) = ab_rn cl 32 J Q k 38 μ [v0, .int x] st := x_istore_n dX2_joinLowest_37 (Nat.le_of_ble_eq_true rfl) rfl
theorem e32_38 : ab_rn cl 32 J Q (k + 1) 38 μ [v0, .int x] st = ab_rn cl 32 J Q k 39 μ [v0, .int x] (.int x :: st) := x_iload_n dX2_joinLowest_38 rfl
theorem e32_39 : ab_rn cl 32 J Q (k + 1) 39 μ [.ref a, v1] st = ab_rn cl 32 J Q k 40 μ [.ref a, v1] (.ref a :: st) := x_aload_n dX2_joinLowest_39 rfl
theorem e32_40 : ab_rn cl 32 J Q (k + 1) 40 μ [v0, v1] (.ref a :: st) = (ab_ob a 2 ∧ ab_rn cl 32 J Q k 43 μ [v0, v1] (ab_fv μ a 3 :: st)) := x_get dX2_joinLowest_40 rfl
theorem e32_43 : ab_rn cl 32 J Q (k + 1) 43 μ [v0, v1] (.int y :: .int x :: st) = (((y ≤ x) → ab_rn cl 32 J Q k 94 μ [v0, v1] st) ∧ ((¬ (y ≤ x)) → ab_rn cl 32 J Q k 46 μ [v0, v1] st)) := x_icmpF dX2_joinLowest_43 rfl (fun _ _ _ _ _ => rfl)
theorem e32_46 : ab_rn cl 32 J Q (k + 1) 46 μ [.ref a, v1] st = ab_rn cl 32 J Q k 47 μ [.ref a, v1] (.ref a :: st) := x_aload_n dX2_joinLowest_46 rfl
theorem e32_47 : ab_rn cl 32 J Q (k + 1) 47 μ [v0, v1] (.ref a :: st) = (ab_ob a 2 ∧ ab_rn cl 32 J Q k 50 μ [v0, v1] (ab_fv μ a 0 :: st)) := x_get dX2_joinLowest_47 rfl
theorem e32_50 : ab_rn cl 32 J Q (k + 1) 50 μ [v0, .int x] st = ab_rn cl 32 J Q k 51 μ [v0, .int x] (.int x :: st) := x_iload_n dX2_joinLowest_50 rfl
theorem e32_51 : ab_rn cl 32 J Q (k + 1) 51 μ [v0, v1] st = ab_rn cl 32 J Q k 52 μ [v0, v1] (.int 1 :: st) := x_iconst dX2_joinLowest_51 (by decide)
theorem e32_52 : ab_rn cl 32 J Q (k + 1) 52 μ [v0, v1] (.int y :: .int x :: st) = ab_rn cl 32 J Q k 53 μ [v0, v1] (.int (x - y) :: st) := x_isub dX2_joinLowest_52
theorem e32_53 : ab_rn cl 32 J Q (k + 1) 53 μ [.ref a, v1] st = ab_rn cl 32 J Q k 54 μ [.ref a, v1] (.ref a :: st) := x_aload_n dX2_joinLowest_53 rfl
theorem e32_54 : ab_rn cl 32 J Q (k + 1) 54 μ [v0, v1] (.ref a :: st) = (ab_ob a 2 ∧ ab_rn cl 32 J Q k 57 μ [v0, v1] (ab_fv μ a 0 :: st)) := x_get dX2_joinLowest_54 rfl
theorem e32_57 : ab_rn cl 32 J Q (k + 1) 57 μ [v0, .int x] st = ab_rn cl 32 J Q k 58 μ [v0, .int x] (.int x :: st) := x_iload_n dX2_joinLowest_57 rfl
theorem e32_58 : ab_rn cl 32 J Q (k + 1) 58 μ [v0, v1] (.int x :: .ref a :: st) = ((a < 81 ∧ ab_ak a = 0) ∧ vp_in x (ab_al a) ∧ ab_rn cl 32 J Q k 59 μ [v0, v1] (.int (μ (ab_cmp a) (ab_off a + x.toNatClampNeg)) :: st)) := x_iaload dX2_joinLowest_58
theorem e32_59 : ab_rn cl 32 J Q (k + 1) 59 μ [v0, v1] (.int v :: .int x :: .ref a :: st) = ((a < 81 ∧ ab_ak a = 0) ∧ vp_in x (ab_al a) ∧ ab_rn cl 32 J Q k 60 (ab_up μ (ab_cmp a) (ab_off a + x.toNatClampNeg) v) [v0, v1] st) := x_iastore dX2_joinLowest_59
theorem e32_60 : ab_rn cl 32 J Q (k + 1) 60 μ [.ref a, v1] st = ab_rn cl 32 J Q k 61 μ [.ref a, v1] (.ref a :: st) := x_aload_n dX2_joinLowest_60 rfl
theorem e32_61 : ab_rn cl 32 J Q (k + 1) 61 μ [v0, v1] (.ref a :: st) = (ab_ob a 2 ∧ ab_rn cl 32 J Q k 64 μ [v0, v1] (ab_fv μ a 1 :: st)) := x_get dX2_joinLowest_61 rfl
theorem e32_64 : ab_rn cl 32 J Q (k + 1) 64 μ [v0, .int x] st = ab_rn cl 32 J Q k 65 μ [v0, .int x] (.int x :: st) := x_iload_n dX2_joinLowest_64 rfl
theorem e32_65 : ab_rn cl 32 J Q (k + 1) 65 μ [v0, v1] st = ab_rn cl 32 J Q k 66 μ [v0, v1] (.int 1 :: st) := x_iconst dX2_joinLowest_65 (by decide)
theorem e32_66 : ab_rn cl 32 J Q (k + 1) 66 μ [v0, v1] (.int y :: .int x :: st) = ab_rn cl 32 J Q k 67 μ [v0, v1] (.int (x - y) :: st) := x_isub dX2_joinLowest_66
theorem e32_67 : ab_rn cl 32 J Q (k + 1) 67 μ [.ref a, v1] st = ab_rn cl 32 J Q k 68 μ [.ref a, v1] (.ref a :: st) := x_aload_n dX2_joinLowest_67 rfl
theorem e32_68 : ab_rn cl 32 J Q (k + 1) 68 μ [v0, v1] (.ref a :: st) = (ab_ob a 2 ∧ ab_rn cl 32 J Q k 71 μ [v0, v1] (ab_fv μ a 1 :: st)) := x_get dX2_joinLowest_68 rfl
theorem e32_71 : ab_rn cl 32 J Q (k + 1) 71 μ [v0, .int x] st = ab_rn cl 32 J Q k 72 μ [v0, .int x] (.int x :: st) := x_iload_n dX2_joinLowest_71 rfl
theorem e32_72 : ab_rn cl 32 J Q (k + 1) 72 μ [v0, v1] (.int x :: .ref a :: st) = ((a < 81 ∧ ab_ak a = 0) ∧ vp_in x (ab_al a) ∧ ab_rn cl 32 J Q k 73 μ [v0, v1] (.int (μ (ab_cmp a) (ab_off a + x.toNatClampNeg)) :: st)) := x_iaload dX2_joinLowest_72
theorem e32_73 : ab_rn cl 32 J Q (k + 1) 73 μ [v0, v1] (.int v :: .int x :: .ref a :: st) = ((a < 81 ∧ ab_ak a = 0) ∧ vp_in x (ab_al a) ∧ ab_rn cl 32 J Q k 74 (ab_up μ (ab_cmp a) (ab_off a + x.toNatClampNeg) v) [v0, v1] st) := x_iastore dX2_joinLowest_73
theorem e32_74 : ab_rn cl 32 J Q (k + 1) 74 μ [.ref a, v1] st = ab_rn cl 32 J Q k 75 μ [.ref a, v1] (.ref a :: st) := x_aload_n dX2_joinLowest_74 rfl
theorem e32_75 : ab_rn cl 32 J Q (k + 1) 75 μ [v0, v1] (.ref a :: st) = (ab_ob a 2 ∧ ab_rn cl 32 J Q k 78 μ [v0, v1] (ab_fv μ a 2 :: st)) := x_get dX2_joinLowest_75 rfl
theorem e32_78 : ab_rn cl 32 J Q (k + 1) 78 μ [v0, .int x] st = ab_rn cl 32 J Q k 79 μ [v0, .int x] (.int x :: st) := x_iload_n dX2_joinLowest_78 rfl
theorem e32_79 : ab_rn cl 32 J Q (k + 1) 79 μ [v0, v1] st = ab_rn cl 32 J Q k 80 μ [v0, v1] (.int 1 :: st) := x_iconst dX2_joinLowest_79 (by decide)
theorem e32_80 : ab_rn cl 32 J Q (k + 1) 80 μ [v0, v1] (.int y :: .int x :: st) = ab_rn cl 32 J Q k 81 μ [v0, v1] (.int (x - y) :: st) := x_isub dX2_joinLowest_80
theorem e32_81 : ab_rn cl 32 J Q (k + 1) 81 μ [.ref a, v1] st = ab_rn cl 32 J Q k 82 μ [.ref a, v1] (.ref a :: st) := x_aload_n dX2_joinLowest_81 rfl
theorem e32_82 : ab_rn cl 32 J Q (k + 1) 82 μ [v0, v1] (.ref a :: st) = (ab_ob a 2 ∧ ab_rn cl 32 J Q k 85 μ [v0, v1] (ab_fv μ a 2 :: st)) := x_get dX2_joinLowest_82 rfl
theorem e32_85 : ab_rn cl 32 J Q (k + 1) 85 μ [v0, .int x] st = ab_rn cl 32 J Q k 86 μ [v0, .int x] (.int x :: st) := x_iload_n dX2_joinLowest_85 rfl
theorem e32_86 : ab_rn cl 32 J Q (k + 1) 86 μ [v0, v1] (.int x :: .ref a :: st) = ((a < 81 ∧ ab_ak a = 0) ∧ vp_in x (ab_al a) ∧ ab_rn cl 32 J Q k 87 μ [v0, v1] (.int (μ (ab_cmp a) (ab_off a + x.toNatClampNeg)) :: st)) := x_iaload dX2_joinLowest_86
theorem e32_87 : ab_rn cl 32 J Q (k + 1) 87 μ [v0, v1] (.int v :: .int x :: .ref a :: st) = ((a < 81 ∧ ab_ak a = 0) ∧ vp_in x (ab_al a) ∧ ab_rn cl 32 J Q k 88 (ab_up μ (ab_cmp a) (ab_off a + x.toNatClampNeg) v) [v0, v1] st) := x_iastore dX2_joinLowest_87
theorem e32_88 : ab_rn cl 32 J Q (k + 1) 88 μ [v0, .int x] st = ab_rn cl 32 J Q k 91 μ [v0, .int (x + 1)] st := x_iinc dX2_joinLowest_88 (w := 1) (by decide) rfl rfl
theorem e32_91 : ab_rn cl 32 J Q (k + 1) 91 μ [v0, v1] st = J 38 μ [v0, v1] st := x_gotoB dX2_joinLowest_91 (fun _ _ _ _ _ => rfl)
theorem e32_94 : ab_rn cl 32 J Q (k + 1) 94 μ [.ref a, v1] st = ab_rn cl 32 J Q k 95 μ [.ref a, v1] (.ref a :: st) := x_aload_n dX2_joinLowest_94 rfl
theorem e32_95i : ab_rn cl 32 J Q (k + 1) 95 μ [v0, v1] (.int x :: st) = ab_rn cl 32 J Q k 96 μ [v0, v1] (.int x :: .int x :: st) := x_dupi dX2_joinLowest_95
theorem e32_95r : ab_rn cl 32 J Q (k + 1) 95 μ [v0, v1] (.ref a :: st) = ab_rn cl 32 J Q k 96 μ [v0, v1] (.ref a :: .ref a :: st) := x_dupr dX2_joinLowest_95
theorem e32_96 : ab_rn cl 32 J Q (k + 1) 96 μ [v0, v1] (.ref a :: st) = (ab_ob a 2 ∧ ab_rn cl 32 J Q k 99 μ [v0, v1] (ab_fv μ a 3 :: st)) := x_get dX2_joinLowest_96 rfl
theorem e32_99 : ab_rn cl 32 J Q (k + 1) 99 μ [v0, v1] st = ab_rn cl 32 J Q k 100 μ [v0, v1] (.int 1 :: st) := x_iconst dX2_joinLowest_99 (by decide)
theorem e32_100 : ab_rn cl 32 J Q (k + 1) 100 μ [v0, v1] (.int y :: .int x :: st) = ab_rn cl 32 J Q k 101 μ [v0, v1] (.int (x - y) :: st) := x_isub dX2_joinLowest_100
theorem e32_101 : ab_rn cl 32 J Q (k + 1) 101 μ [v0, v1] (.int v :: .ref a :: st) = (ab_ob a 2 ∧ ab_rf a 3 = none ∧ ab_rn cl 32 J Q k 104 (ab_up μ (ab_cmp a) (ab_off a + 3) v) [v0, v1] st) := x_put dX2_joinLowest_101 rfl
theorem e32_104 : ab_rn cl 32 J Q (k + 1) 104 μ [v0, v1] [] = Q none μ := x_vret dX2_joinLowest_104 rfl
theorem n32 {d : Nat} (h : ∀ J : ab_J, (∀ k pc μ ls st, ab_rn (ab_Cl d) 32 J Q k pc μ ls st → J pc μ ls st) → J 0 μ [v0, .null] []) : ab_Cl (d + 1) 32 [v0] μ Q := ab_go h
theorem e33_0 : ab_rn cl 33 J Q (k + 1) 0 μ [v0, .int x] st = ab_rn cl 33 J Q k 1 μ [v0, .int x] (.int x :: st) := x_iload_n dX3_noteSlide_0 rfl
theorem e33_1 : ab_rn cl 33 J Q (k + 1) 1 μ [v0, v1] (.int x0 :: st) = (st.length ≤ 4 ∧ cl 69 [.int x0] μ (fun r μ' => ab_rn cl 33 J Q k 4 μ' [v0, v1] (ab_pu r st))) := x_s (as := [.int x0]) (b := 1) dX3_noteSlide_1 rfl (by decide) rfl rfl rfl
theorem e33_4 : ab_rn cl 33 J Q (k + 1) 4 μ [v0, v1] (.int x :: st) = (((x = 0) → ab_rn cl 33 J Q k 14 μ [v0, v1] st) ∧ ((¬ (x = 0)) → ab_rn cl 33 J Q k 7 μ [v0, v1] st)) := x_ifF dX3_noteSlide_4 rfl (fun _ _ _ _ _ => rfl)
theorem e33_7 : ab_rn cl 33 J Q (k + 1) 7 μ [.ref a, v1] st = ab_rn cl 33 J Q k 8 μ [.ref a, v1] (.ref a :: st) := x_aload_n dX3_noteSlide_7 rfl
theorem e33_8 : ab_rn cl 33 J Q (k + 1) 8 μ [v0, v1] (.ref a :: st) = (ab_ob a 3 ∧ ab_rn cl 33 J Q k 11 μ [v0, v1] (ab_fv μ a 1 :: st)) := x_get dX3_noteSlide_8 rfl
theorem e33_11 : ab_rn cl 33 J Q (k + 1) 11 μ [v0, .int x] st = ab_rn cl 33 J Q k 12 μ [v0, .int x] (.int x :: st) := x_iload_n dX3_noteSlide_11 rfl
theorem e33_12 : ab_rn cl 33 J Q (k + 1) 12 μ [v0, v1] st = ab_rn cl 33 J Q k 13 μ [v0, v1] (.int 1 :: st) := x_iconst dX3_noteSlide_12 (by decide)
theorem e33_13 : ab_rn cl 33 J Q (k + 1) 13 μ [v0, v1] (.int v :: .int x :: .ref a :: st) = ((a < 81 ∧ ab_ak a = 1) ∧ vp_in x (ab_al a) ∧ (v = 0 ∨ v = 1) ∧ ab_rn cl 33 J Q k 14 (ab_up μ (ab_cmp a) (ab_off a + x.toNatClampNeg) v) [v0, v1] st) := x_bastore dX3_noteSlide_13
theorem e33_14 : ab_rn cl 33 J Q (k + 1) 14 μ [v0, v1] [] = Q none μ := x_vret dX3_noteSlide_14 rfl
theorem n33 {d : Nat} (h : ∀ J : ab_J, (∀ k pc μ ls st, ab_rn (ab_Cl d) 33 J Q k pc μ ls st → J pc μ ls st) → J 0 μ [v0, v1] []) : ab_Cl (d + 1) 33 [v0, v1] μ Q := ab_go h
theorem e34_0 : ab_rn cl 34 J Q (k + 1) 0 μ [v0, .int x, v2] st = ab_rn cl 34 J Q k 1 μ [v0, .int x, v2] (.int x :: st) := x_iload_n dX3_noteDanger_0 rfl
theorem e34_1 : ab_rn cl 34 J Q (k + 1) 1 μ [v0, v1, v2] (.int x0 :: st) = (st.length ≤ 4 ∧ cl 69 [.int x0] μ (fun r μ' => ab_rn cl 34 J Q k 4 μ' [v0, v1, v2] (ab_pu r st))) := x_s (as := [.int x0]) (b := 1) dX3_noteDanger_1 rfl (by decide) rfl rfl rfl
theorem e34_4 : ab_rn cl 34 J Q (k + 1) 4 μ [v0, v1, v2] (.int x :: st) = (((x = 0) → ab_rn cl 34 J Q k 23 μ [v0, v1, v2] st) ∧ ((¬ (x = 0)) → ab_rn cl 34 J Q k 7 μ [v0, v1, v2] st)) := x_ifF dX3_noteDanger_4 rfl (fun _ _ _ _ _ => rfl)
theorem e34_7 : ab_rn cl 34 J Q (k + 1) 7 μ [.ref a, v1, v2] st = ab_rn cl 34 J Q k 8 μ [.ref a, v1, v2] (.ref a :: st) := x_aload_n dX3_noteDanger_7 rfl
theorem e34_8 : ab_rn cl 34 J Q (k + 1) 8 μ [v0, v1, v2] (.ref a :: st) = (ab_ob a 3 ∧ ab_rn cl 34 J Q k 11 μ [v0, v1, v2] (ab_fv μ a 0 :: st)) := x_get dX3_noteDanger_8 rfl
theorem e34_11 : ab_rn cl 34 J Q (k + 1) 11 μ [v0, .int x, v2] st = ab_rn cl 34 J Q k 12 μ [v0, .int x, v2] (.int x :: st) := x_iload_n dX3_noteDanger_11 rfl
theorem e34_12 : ab_rn cl 34 J Q (k + 1) 12 μ [v0, v1, v2] (.int x :: .ref a :: st) = ((a < 81 ∧ ab_ak a = 0) ∧ vp_in x (ab_al a) ∧ ab_rn cl 34 J Q k 13 μ [v0, v1, v2] (.int (μ (ab_cmp a) (ab_off a + x.toNatClampNeg)) :: st)) := x_iaload dX3_noteDanger_12
theorem e34_13 : ab_rn cl 34 J Q (k + 1) 13 μ [v0, v1, v2] (.int x :: st) = (((¬ x = 0) → ab_rn cl 34 J Q k 23 μ [v0, v1, v2] st) ∧ ((¬ (¬ x = 0)) → ab_rn cl 34 J Q k 16 μ [v0, v1, v2] st)) := x_ifF dX3_noteDanger_13 rfl (fun _ _ _ _ _ => rfl)
theorem e34_16 : ab_rn cl 34 J Q (k + 1) 16 μ [.ref a, v1, v2] st = ab_rn cl 34 J Q k 17 μ [.ref a, v1, v2] (.ref a :: st) := x_aload_n dX3_noteDanger_16 rfl
theorem e34_17 : ab_rn cl 34 J Q (k + 1) 17 μ [v0, v1, v2] (.ref a :: st) = (ab_ob a 3 ∧ ab_rn cl 34 J Q k 20 μ [v0, v1, v2] (ab_fv μ a 0 :: st)) := x_get dX3_noteDanger_17 rfl
theorem e34_20 : ab_rn cl 34 J Q (k + 1) 20 μ [v0, .int x, v2] st = ab_rn cl 34 J Q k 21 μ [v0, .int x, v2] (.int x :: st) := x_iload_n dX3_noteDanger_20 rfl
theorem e34_21 : ab_rn cl 34 J Q (k + 1) 21 μ [v0, v1, .int x] st = ab_rn cl 34 J Q k 22 μ [v0, v1, .int x] (.int x :: st) := x_iload_n dX3_noteDanger_21 rfl
theorem e34_22 : ab_rn cl 34 J Q (k + 1) 22 μ [v0, v1, v2] (.int v :: .int x :: .ref a :: st) = ((a < 81 ∧ ab_ak a = 0) ∧ vp_in x (ab_al a) ∧ ab_rn cl 34 J Q k 23 (ab_up μ (ab_cmp a) (ab_off a + x.toNatClampNeg) v) [v0, v1, v2] st) := x_iastore dX3_noteDanger_22
theorem e34_23 : ab_rn cl 34 J Q (k + 1) 23 μ [v0, v1, v2] [] = Q none μ := x_vret dX3_noteDanger_23 rfl
theorem n34 {d : Nat} (h : ∀ J : ab_J, (∀ k pc μ ls st, ab_rn (ab_Cl d) 34 J Q k pc μ ls st → J pc μ ls st) → J 0 μ [v0, v1, v2] []) : ab_Cl (d + 1) 34 [v0, v1, v2] μ Q := ab_go h
theorem e35_0 : ab_rn cl 35 J Q (k + 1) 0 μ [v0, .int x] st = ab_rn cl 35 J Q k 1 μ [v0, .int x] (.int x :: st) := x_iload_n dX3_tallyOf_0 rfl
theorem e35_1 : ab_rn cl 35 J Q (k + 1) 1 μ [v0, v1] (.int x :: st) = (((x < 0) → ab_rn cl 35 J Q k 18 μ [v0, v1] st) ∧ ((¬ (x < 0)) → ab_rn cl 35 J Q k 4 μ [v0, v1] st)) := x_ifF dX3_tallyOf_1 rfl (fun _ _ _ _ _ => rfl)
theorem e35_4 : ab_rn cl 35 J Q (k + 1) 4 μ [v0, .int x] st = ab_rn cl 35 J Q k 5 μ [v0, .int x] (.int x :: st) := x_iload_n dX3_tallyOf_4 rfl
theorem e35_5 : ab_rn cl 35 J Q (k + 1) 5 μ [v0, v1] st = ab_rn cl 35 J Q k 6 μ [v0, v1] (.int 4 :: st) := x_iconst dX3_tallyOf_5 (by decide)
theorem e35_6 : ab_rn cl 35 J Q (k + 1) 6 μ [v0, v1] (.int y :: .int x :: st) = (((y ≤ x) → ab_rn cl 35 J Q k 18 μ [v0, v1] st) ∧ ((¬ (y ≤ x)) → ab_rn cl 35 J Q k 9 μ [v0, v1] st)) := x_icmpF dX3_tallyOf_6 rfl (fun _ _ _ _ _ => rfl)
theorem e35_9 : ab_rn cl 35 J Q (k + 1) 9 μ [.ref a, v1] st = ab_rn cl 35 J Q k 10 μ [.ref a, v1] (.ref a :: st) := x_aload_n dX3_tallyOf_9 rfl
theorem e35_10 : ab_rn cl 35 J Q (k + 1) 10 μ [v0, v1] (.ref a :: st) = (ab_ob a 3 ∧ ab_rn cl 35 J Q k 13 μ [v0, v1] (ab_fv μ a 2 :: st)) := x_get dX3_tallyOf_10 rfl
theorem e35_13 : ab_rn cl 35 J Q (k + 1) 13 μ [v0, .int x] st = ab_rn cl 35 J Q k 14 μ [v0, .int x] (.int x :: st) := x_iload_n dX3_tallyOf_13 rfl
theorem e35_14 : ab_rn cl 35 J Q (k + 1) 14 μ [v0, v1] (.int x :: .ref a :: st) = ((a < 81 ∧ ab_ak a = 0) ∧ vp_in x (ab_al a) ∧ ab_rn cl 35 J Q k 15 μ [v0, v1] (.int (μ (ab_cmp a) (ab_off a + x.toNatClampNeg)) :: st)) := x_iaload dX3_tallyOf_14
theorem e35_15 : ab_rn cl 35 J Q (k + 1) 15 μ [v0, v1] st = ab_rn cl 35 J Q k 19 μ [v0, v1] st := x_gotoF dX3_tallyOf_15 (fun _ _ _ _ _ => rfl)
theorem e35_18 : ab_rn cl 35 J Q (k + 1) 18 μ [v0, v1] st = ab_rn cl 35 J Q k 19 μ [v0, v1] (.int (-1) :: st) := x_iconst dX3_tallyOf_18 (by decide)
theorem e35_19 : ab_rn cl 35 J Q (k + 1) 19 μ [v0, v1] [.int v] = Q (some v) μ := x_iret dX3_tallyOf_19 rfl
theorem n35 {d : Nat} (h : ∀ J : ab_J, (∀ k pc μ ls st, ab_rn (ab_Cl d) 35 J Q k pc μ ls st → J pc μ ls st) → J 0 μ [v0, v1] []) : ab_Cl (d + 1) 35 [v0, v1] μ Q := ab_go h
theorem e36_0 : ab_rn cl 36 J Q (k + 1) 0 μ [v0, v1, v2] st = ab_rn cl 36 J Q k 1 μ [v0, v1, v2] (.int 0 :: st) := x_iconst dX3_judgeDay_0 (by decide)
theorem e36_1 : ab_rn cl 36 J Q (k + 1) 1 μ [v0, v1, v2] (.int x :: st) = ab_rn cl 36 J Q k 2 μ [v0, .int x, v2] st := x_istore_n dX3_judgeDay_1 (Nat.le_of_ble_eq_true rfl) rfl
theorem e36_2 : ab_rn cl 36 J Q (k + 1) 2 μ [v0, .int x, v2] st = ab_rn cl 36 J Q k 3 μ [v0, .int x, v2] (.int x :: st) := x_iload_n dX3_judgeDay_2 rfl
theorem e36_3 : ab_rn cl 36 J Q (k + 1) 3 μ [v0, v1, v2] st = ab_rn cl 36 J Q k 5 μ [v0, v1, v2] (.int 12 :: st) := x_bipush dX3_judgeDay_3 (by decide)
theorem e36_5 : ab_rn cl 36 J Q (k + 1) 5 μ [v0, v1, v2] (.int y :: .int x :: st) = (((y ≤ x) → ab_rn cl 36 J Q k 78 μ [v0, v1, v2] st) ∧ ((¬ (y ≤ x)) → ab_rn cl 36 J Q k 8 μ [v0, v1, v2] st)) := x_icmpF dX3_judgeDay_5 rfl (fun _ _ _ _ _ => rfl)
theorem e36_8 : ab_rn cl 36 J Q (k + 1) 8 μ [.ref a, v1, v2] st = ab_rn cl 36 J Q k 9 μ [.ref a, v1, v2] (.ref a :: st) := x_aload_n dX3_judgeDay_8 rfl
theorem e36_9 : ab_rn cl 36 J Q (k + 1) 9 μ [v0, v1, v2] (.ref a :: st) = (ab_ob a 3 ∧ ab_rn cl 36 J Q k 12 μ [v0, v1, v2] (ab_fv μ a 0 :: st)) := x_get dX3_judgeDay_9 rfl
theorem e36_12 : ab_rn cl 36 J Q (k + 1) 12 μ [v0, .int x, v2] st = ab_rn cl 36 J Q k 13 μ [v0, .int x, v2] (.int x :: st) := x_iload_n dX3_judgeDay_12 rfl
theorem e36_13 : ab_rn cl 36 J Q (k + 1) 13 μ [v0, v1, v2] (.int x :: .ref a :: st) = ((a < 81 ∧ ab_ak a = 0) ∧ vp_in x (ab_al a) ∧ ab_rn cl 36 J Q k 14 μ [v0, v1, v2] (.int (μ (ab_cmp a) (ab_off a + x.toNatClampNeg)) :: st)) := x_iaload dX3_judgeDay_13
theorem e36_14 : ab_rn cl 36 J Q (k + 1) 14 μ [v0, v1, v2] (.int x :: st) = (((x = 0) → ab_rn cl 36 J Q k 58 μ [v0, v1, v2] st) ∧ ((¬ (x = 0)) → ab_rn cl 36 J Q k 17 μ [v0, v1, v2] st)) := x_ifF dX3_judgeDay_14 rfl (fun _ _ _ _ _ => rfl)
theorem e36_17 : ab_rn cl 36 J Q (k + 1) 17 μ [.ref a, v1, v2] st = ab_rn cl 36 J Q k 18 μ [.ref a, v1, v2] (.ref a :: st) := x_aload_n dX3_judgeDay_17 rfl
theorem e36_18 : ab_rn cl 36 J Q (k + 1) 18 μ [v0, v1, v2] (.ref a :: st) = (ab_ob a 3 ∧ ab_rn cl 36 J Q k 21 μ [v0, v1, v2] (ab_fv μ a 0 :: st)) := x_get dX3_judgeDay_18 rfl
theorem e36_21 : ab_rn cl 36 J Q (k + 1) 21 μ [v0, .int x, v2] st = ab_rn cl 36 J Q k 22 μ [v0, .int x, v2] (.int x :: st) := x_iload_n dX3_judgeDay_21 rfl
theorem e36_22 : ab_rn cl 36 J Q (k + 1) 22 μ [v0, v1, v2] (.int x :: .ref a :: st) = ((a < 81 ∧ ab_ak a = 0) ∧ vp_in x (ab_al a) ∧ ab_rn cl 36 J Q k 23 μ [v0, v1, v2] (.int (μ (ab_cmp a) (ab_off a + x.toNatClampNeg)) :: st)) := x_iaload dX3_judgeDay_22
theorem e36_23 : ab_rn cl 36 J Q (k + 1) 23 μ [v0, v1, v2] st = ab_rn cl 36 J Q k 24 μ [v0, v1, v2] (.int 3 :: st) := x_iconst dX3_judgeDay_23 (by decide)
theorem e36_24 : ab_rn cl 36 J Q (k + 1) 24 μ [v0, v1, v2] (.int y :: .int x :: st) = (((x < y) → ab_rn cl 36 J Q k 31 μ [v0, v1, v2] st) ∧ ((¬ (x < y)) → ab_rn cl 36 J Q k 27 μ [v0, v1, v2] st)) := x_icmpF dX3_judgeDay_24 rfl (fun _ _ _ _ _ => rfl)
theorem e36_27 : ab_rn cl 36 J Q (k + 1) 27 μ [v0, v1, v2] st = ab_rn cl 36 J Q k 28 μ [v0, v1, v2] (.int 0 :: st) := x_iconst dX3_judgeDay_27 (by decide)
theorem e36_28 : ab_rn cl 36 J Q (k + 1) 28 μ [v0, v1, v2] st = ab_rn cl 36 J Q k 32 μ [v0, v1, v2] st := x_gotoF dX3_judgeDay_28 (fun _ _ _ _ _ => rfl)
theorem e36_31 : ab_rn cl 36 J Q (k + 1) 31 μ [v0, v1, v2] st = ab_rn cl 36 J Q k 32 μ [v0, v1, v2] (.int 2 :: st) := x_iconst dX3_judgeDay_31 (by decide)
theorem e36_32 : ab_rn cl 36 J Q (k + 1) 32 μ [.ref a, v1, v2] st = ab_rn cl 36 J Q k 33 μ [.ref a, v1, v2] (.ref a :: st) := x_aload_n dX3_judgeDay_32 rfl
theorem e36_33 : ab_rn cl 36 J Q (k + 1) 33 μ [v0, v1, v2] (.ref a :: st) = (ab_ob a 3 ∧ ab_rn cl 36 J Q k 36 μ [v0, v1, v2] (ab_fv μ a 1 :: st)) := x_get dX3_judgeDay_33 rfl
theorem e36_36 : ab_rn cl 36 J Q (k + 1) 36 μ [v0, .int x, v2] st = ab_rn cl 36 J Q k 37 μ [v0, .int x, v2] (.int x :: st) := x_iload_n dX3_judgeDay_36 rfl
theorem e36_37 : ab_rn cl 36 J Q (k + 1) 37 μ [v0, v1, v2] (.int x :: .ref a :: st) = ((a < 81 ∧ ab_ak a = 1) ∧ vp_in x (ab_al a) ∧ ab_rn cl 36 J Q k 38 μ [v0, v1, v2] (.int (μ (ab_cmp a) (ab_off a + x.toNatClampNeg)) :: st)) := x_baload dX3_judgeDay_37
theorem e36_38 : ab_rn cl 36 J Q (k + 1) 38 μ [v0, v1, v2] (.int x :: st) = (((x = 0) → ab_rn cl 36 J Q k 45 μ [v0, v1, v2] st) ∧ ((¬ (x = 0)) → ab_rn cl 36 J Q k 41 μ [v0, v1, v2] st)) := x_ifF dX3_judgeDay_38 rfl (fun _ _ _ _ _ => rfl)
theorem e36_41 : ab_rn cl 36 J Q (k + 1) 41 μ [v0, v1, v2] st = ab_rn cl 36 J Q k 42 μ [v0, v1, v2] (.int 0 :: st) := x_iconst dX3_judgeDay_41 (by decide)
theorem e36_42 : ab_rn cl 36 J Q (k + 1) 42 μ [v0, v1, v2] st = ab_rn cl 36 J Q k 46 μ [v0, v1, v2] st := x_gotoF dX3_judgeDay_42 (fun _ _ _ _ _ => rfl)
theorem e36_45 : ab_rn cl 36 J Q (k + 1) 45 μ [v0, v1, v2] st = ab_rn cl 36 J Q k 46 μ [v0, v1, v2] (.int 1 :: st) := x_iconst dX3_judgeDay_45 (by decide)
theorem e36_46 : ab_rn cl 36 J Q (k + 1) 46 μ [v0, v1, v2] (.int y :: .int x :: st) = ab_rn cl 36 J Q k 47 μ [v0, v1, v2] (.int (x + y) :: st) := x_iadd dX3_judgeDay_46
theorem e36_47 : ab_rn cl 36 J Q (k + 1) 47 μ [v0, v1, v2] (.int x :: st) = ab_rn cl 36 J Q k 48 μ [v0, v1, .int x] st := x_istore_n dX3_judgeDay_47 (Nat.le_of_ble_eq_true rfl) rfl
theorem e36_48 : ab_rn cl 36 J Q (k + 1) 48 μ [.ref a, v1, v2] st = ab_rn cl 36 J Q k 49 μ [.ref a, v1, v2] (.ref a :: st) := x_aload_n dX3_judgeDay_48 rfl
theorem e36_49 : ab_rn cl 36 J Q (k + 1) 49 μ [v0, v1, v2] (.ref a :: st) = (ab_ob a 3 ∧ ab_rn cl 36 J Q k 52 μ [v0, v1, v2] (ab_fv μ a 2 :: st)) := x_get dX3_judgeDay_49 rfl
theorem e36_52 : ab_rn cl 36 J Q (k + 1) 52 μ [v0, v1, .int x] st = ab_rn cl 36 J Q k 53 μ [v0, v1, .int x] (.int x :: st) := x_iload_n dX3_judgeDay_52 rfl
theorem e36_53 : ab_rn cl 36 J Q (k + 1) 53 μ [v0, v1, v2] (.int x :: .ref a :: st) = ab_rn cl 36 J Q k 54 μ [v0, v1, v2] (.int x :: .ref a :: .int x :: .ref a :: st) := x_dup2 dX3_judgeDay_53
theorem e36_54 : ab_rn cl 36 J Q (k + 1) 54 μ [v0, v1, v2] (.int x :: .ref a :: st) = ((a < 81 ∧ ab_ak a = 0) ∧ vp_in x (ab_al a) ∧ ab_rn cl 36 J Q k 55 μ [v0, v1, v2] (.int (μ (ab_cmp a) (ab_off a + x.toNatClampNeg)) :: st)) := x_iaload dX3_judgeDay_54
theorem e36_55 : ab_rn cl 36 J Q (k + 1) 55 μ [v0, v1, v2] st = ab_rn cl 36 J Q k 56 μ [v0, v1, v2] (.int 1 :: st) := x_iconst dX3_judgeDay_55 (by decide)
theorem e36_56 : ab_rn cl 36 J Q (k + 1) 56 μ [v0, v1, v2] (.int y :: .int x :: st) = ab_rn cl 36 J Q k 57 μ [v0, v1, v2] (.int (x + y) :: st) := x_iadd dX3_judgeDay_56
theorem e36_57 : ab_rn cl 36 J Q (k + 1) 57 μ [v0, v1, v2] (.int v :: .int x :: .ref a :: st) = ((a < 81 ∧ ab_ak a = 0) ∧ vp_in x (ab_al a) ∧ ab_rn cl 36 J Q k 58 (ab_up μ (ab_cmp a) (ab_off a + x.toNatClampNeg) v) [v0, v1, v2] st) := x_iastore dX3_judgeDay_57
theorem e36_58 : ab_rn cl 36 J Q (k + 1) 58 μ [.ref a, v1, v2] st = ab_rn cl 36 J Q k 59 μ [.ref a, v1, v2] (.ref a :: st) := x_aload_n dX3_judgeDay_58 rfl
theorem e36_59 : ab_rn cl 36 J Q (k + 1) 59 μ [v0, v1, v2] (.ref a :: st) = (ab_ob a 3 ∧ ab_rn cl 36 J Q k 62 μ [v0, v1, v2] (ab_fv μ a 0 :: st)) := x_get dX3_judgeDay_59 rfl
theorem e36_62 : ab_rn cl 36 J Q (k + 1) 62 μ [v0, .int x, v2] st = ab_rn cl 36 J Q k 63 μ [v0, .int x, v2] (.int x :: st) := x_iload_n dX3_judgeDay_62 rfl
theorem e36_63 : ab_rn cl 36 J Q (k + 1) 63 μ [v0, v1, v2] st = ab_rn cl 36 J Q k 64 μ [v0, v1, v2] (.int 0 :: st) := x_iconst dX3_judgeDay_63 (by decide)
theorem e36_64 : ab_rn cl 36 J Q (k + 1) 64 μ [v0, v1, v2] (.int v :: .int x :: .ref a :: st) = ((a < 81 ∧ ab_ak a = 0) ∧ vp_in x (ab_al a) ∧ ab_rn cl 36 J Q k 65 (ab_up μ (ab_cmp a) (ab_off a + x.toNatClampNeg) v) [v0, v1, v2] st) := x_iastore dX3_judgeDay_64
theorem e36_65 : ab_rn cl 36 J Q (k + 1) 65 μ [.ref a, v1, v2] st = ab_rn cl 36 J Q k 66 μ [.ref a, v1, v2] (.ref a :: st) := x_aload_n dX3_judgeDay_65 rfl
theorem e36_66 : ab_rn cl 36 J Q (k + 1) 66 μ [v0, v1, v2] (.ref a :: st) = (ab_ob a 3 ∧ ab_rn cl 36 J Q k 69 μ [v0, v1, v2] (ab_fv μ a 1 :: st)) := x_get dX3_judgeDay_66 rfl
theorem e36_69 : ab_rn cl 36 J Q (k + 1) 69 μ [v0, .int x, v2] st = ab_rn cl 36 J Q k 70 μ [v0, .int x, v2] (.int x :: st) := x_iload_n dX3_judgeDay_69 rfl
theorem e36_70 : ab_rn cl 36 J Q (k + 1) 70 μ [v0, v1, v2] st = ab_rn cl 36 J Q k 71 μ [v0, v1, v2] (.int 0 :: st) := x_iconst dX3_judgeDay_70 (by decide)
theorem e36_71 : ab_rn cl 36 J Q (k + 1) 71 μ [v0, v1, v2] (.int v :: .int x :: .ref a :: st) = ((a < 81 ∧ ab_ak a = 1) ∧ vp_in x (ab_al a) ∧ (v = 0 ∨ v = 1) ∧ ab_rn cl 36 J Q k 72 (ab_up μ (ab_cmp a) (ab_off a + x.toNatClampNeg) v) [v0, v1, v2] st) := x_bastore dX3_judgeDay_71
theorem e36_72 : ab_rn cl 36 J Q (k + 1) 72 μ [v0, .int x, v2] st = ab_rn cl 36 J Q k 75 μ [v0, .int (x + 1), v2] st := x_iinc dX3_judgeDay_72 (w := 1) (by decide) rfl rfl
theorem e36_75 : ab_rn cl 36 J Q (k + 1) 75 μ [v0, v1, v2] st = J 2 μ [v0, v1, v2] st := x_gotoB dX3_judgeDay_75 (fun _ _ _ _ _ => rfl)
theorem e36_78 : ab_rn cl 36 J Q (k + 1) 78 μ [v0, v1, v2] [] = Q none μ := x_vret dX3_judgeDay_78 rfl
theorem n36 {d : Nat} (h : ∀ J : ab_J, (∀ k pc μ ls st, ab_rn (ab_Cl d) 36 J Q k pc μ ls st → J pc μ ls st) → J 0 μ [v0, .null, .null] []) : ab_Cl (d + 1) 36 [v0] μ Q := ab_go h
theorem e37_0 : ab_rn cl 37 J Q (k + 1) 0 μ [.int x] st = ab_rn cl 37 J Q k 1 μ [.int x] (.int x :: st) := x_iload_n dX4_canSnow_0 rfl
theorem e37_1 : ab_rn cl 37 J Q (k + 1) 1 μ [v0] st = ab_rn cl 37 J Q k 2 μ [v0] (.int (-1) :: st) := x_iconst dX4_canSnow_1 (by decide)
theorem e37_2 : ab_rn cl 37 J Q (k + 1) 2 μ [v0] (.int y :: .int x :: st) = (((x = y) → ab_rn cl 37 J Q k 16 μ [v0] st) ∧ ((¬ (x = y)) → ab_rn cl 37 J Q k 5 μ [v0] st)) := x_icmpF dX4_canSnow_2 rfl (fun _ _ _ _ _ => rfl)
theorem e37_5 : ab_rn cl 37 J Q (k + 1) 5 μ [.int x] st = ab_rn cl 37 J Q k 6 μ [.int x] (.int x :: st) := x_iload_n dX4_canSnow_5 rfl
theorem e37_6 : ab_rn cl 37 J Q (k + 1) 6 μ [v0] (.int x :: st) = (((x < 0) → ab_rn cl 37 J Q k 20 μ [v0] st) ∧ ((¬ (x < 0)) → ab_rn cl 37 J Q k 9 μ [v0] st)) := x_ifF dX4_canSnow_6 rfl (fun _ _ _ _ _ => rfl)
theorem e37_9 : ab_rn cl 37 J Q (k + 1) 9 μ [.int x] st = ab_rn cl 37 J Q k 10 μ [.int x] (.int x :: st) := x_iload_n dX4_canSnow_9 rfl
theorem e37_10 : ab_rn cl 37 J Q (k + 1) 10 μ [v0] st = ab_rn cl 37 J Q k 13 μ [v0] (.int 200 :: st) := x_sipush dX4_canSnow_10 (by decide)
theorem e37_13 : ab_rn cl 37 J Q (k + 1) 13 μ [v0] (.int y :: .int x :: st) = (((y < x) → ab_rn cl 37 J Q k 20 μ [v0] st) ∧ ((¬ (y < x)) → ab_rn cl 37 J Q k 16 μ [v0] st)) := x_icmpF dX4_canSnow_13 rfl (fun _ _ _ _ _ => rfl)
theorem e37_16 : ab_rn cl 37 J Q (k + 1) 16 μ [v0] st = ab_rn cl 37 J Q k 17 μ [v0] (.int 1 :: st) := x_iconst dX4_canSnow_16 (by decide)
theorem e37_17 : ab_rn cl 37 J Q (k + 1) 17 μ [v0] st = ab_rn cl 37 J Q k 21 μ [v0] st := x_gotoF dX4_canSnow_17 (fun _ _ _ _ _ => rfl)
theorem e37_20 : ab_rn cl 37 J Q (k + 1) 20 μ [v0] st = ab_rn cl 37 J Q k 21 μ [v0] (.int 0 :: st) := x_iconst dX4_canSnow_20 (by decide)
theorem e37_21 : ab_rn cl 37 J Q (k + 1) 21 μ [v0] [.int v] = ((v = 0 ∨ v = 1) ∧ Q (some v) μ) := x_zret dX4_canSnow_21 rfl
theorem n37 {d : Nat} (h : ∀ J : ab_J, (∀ k pc μ ls st, ab_rn (ab_Cl d) 37 J Q k pc μ ls st → J pc μ ls st) → J 0 μ [v0] []) : ab_Cl (d + 1) 37 [v0] μ Q := ab_go h
theorem e38_0 : ab_rn cl 38 J Q (k + 1) 0 μ [.int x] st = ab_rn cl 38 J Q k 1 μ [.int x] (.int x :: st) := x_iload_n dX4_canBeWarm_0 rfl
theorem e38_1 : ab_rn cl 38 J Q (k + 1) 1 μ [v0] st = ab_rn cl 38 J Q k 3 μ [v0] (.int (-100) :: st) := x_bipush dX4_canBeWarm_1 (by decide)
theorem e38_3 : ab_rn cl 38 J Q (k + 1) 3 μ [v0] (.int y :: .int x :: st) = (((x = y) → ab_rn cl 38 J Q k 18 μ [v0] st) ∧ ((¬ (x = y)) → ab_rn cl 38 J Q k 6 μ [v0] st)) := x_icmpF dX4_canBeWarm_3 rfl (fun _ _ _ _ _ => rfl)
theorem e38_6 : ab_rn cl 38 J Q (k + 1) 6 μ [.int x] st = ab_rn cl 38 J Q k 7 μ [.int x] (.int x :: st) := x_iload_n dX4_canBeWarm_6 rfl
theorem e38_7 : ab_rn cl 38 J Q (k + 1) 7 μ [v0] st = ab_rn cl 38 J Q k 9 μ [v0] (.int (-30) :: st) := x_bipush dX4_canBeWarm_7 (by decide)
theorem e38_9 : ab_rn cl 38 J Q (k + 1) 9 μ [v0] (.int y :: .int x :: st) = (((x < y) → ab_rn cl 38 J Q k 22 μ [v0] st) ∧ ((¬ (x < y)) → ab_rn cl 38 J Q k 12 μ [v0] st)) := x_icmpF dX4_canBeWarm_9 rfl (fun _ _ _ _ _ => rfl)
theorem e38_12 : ab_rn cl 38 J Q (k + 1) 12 μ [.int x] st = ab_rn cl 38 J Q k 13 μ [.int x] (.int x :: st) := x_iload_n dX4_canBeWarm_12 rfl
theorem e38_13 : ab_rn cl 38 J Q (k + 1) 13 μ [v0] st = ab_rn cl 38 J Q k 15 μ [v0] (.int 10 :: st) := x_bipush dX4_canBeWarm_13 (by decide)
theorem e38_15 : ab_rn cl 38 J Q (k + 1) 15 μ [v0] (.int y :: .int x :: st) = (((y < x) → ab_rn cl 38 J Q k 22 μ [v0] st) ∧ ((¬ (y < x)) → ab_rn cl 38 J Q k 18 μ [v0] st)) := x_icmpF dX4_canBeWarm_15 rfl (fun _ _ _ _ _ => rfl)
theorem e38_18 : ab_rn cl 38 J Q (k + 1) 18 μ [v0] st = ab_rn cl 38 J Q k 19 μ [v0] (.int 1 :: st) := x_iconst dX4_canBeWarm_18 (by decide)
theorem e38_19 : ab_rn cl 38 J Q (k + 1) 19 μ [v0] st = ab_rn cl 38 J Q k 23 μ [v0] st := x_gotoF dX4_canBeWarm_19 (fun _ _ _ _ _ => rfl)
theorem e38_22 : ab_rn cl 38 J Q (k + 1) 22 μ [v0] st = ab_rn cl 38 J Q k 23 μ [v0] (.int 0 :: st) := x_iconst dX4_canBeWarm_22 (by decide)
theorem e38_23 : ab_rn cl 38 J Q (k + 1) 23 μ [v0] [.int v] = ((v = 0 ∨ v = 1) ∧ Q (some v) μ) := x_zret dX4_canBeWarm_23 rfl
theorem n38 {d : Nat} (h : ∀ J : ab_J, (∀ k pc μ ls st, ab_rn (ab_Cl d) 38 J Q k pc μ ls st → J pc μ ls st) → J 0 μ [v0] []) : ab_Cl (d + 1) 38 [v0] μ Q := ab_go h
theorem e39_0 : ab_rn cl 39 J Q (k + 1) 0 μ [.int x] st = ab_rn cl 39 J Q k 1 μ [.int x] (.int x :: st) := x_iload_n dX4_canBlow_0 rfl
theorem e39_1 : ab_rn cl 39 J Q (k + 1) 1 μ [v0] (.int x :: st) = (((x < 0) → ab_rn cl 39 J Q k 14 μ [v0] st) ∧ ((¬ (x < 0)) → ab_rn cl 39 J Q k 4 μ [v0] st)) := x_ifF dX4_canBlow_1 rfl (fun _ _ _ _ _ => rfl)
theorem e39_4 : ab_rn cl 39 J Q (k + 1) 4 μ [.int x] st = ab_rn cl 39 J Q k 5 μ [.int x] (.int x :: st) := x_iload_n dX4_canBlow_4 rfl
theorem e39_5 : ab_rn cl 39 J Q (k + 1) 5 μ [v0] st = ab_rn cl 39 J Q k 7 μ [v0] (.int 9 :: st) := x_bipush dX4_canBlow_5 (by decide)
theorem e39_7 : ab_rn cl 39 J Q (k + 1) 7 μ [v0] (.int y :: .int x :: st) = (((y < x) → ab_rn cl 39 J Q k 14 μ [v0] st) ∧ ((¬ (y < x)) → ab_rn cl 39 J Q k 10 μ [v0] st)) := x_icmpF dX4_canBlow_7 rfl (fun _ _ _ _ _ => rfl)
theorem e39_10 : ab_rn cl 39 J Q (k + 1) 10 μ [v0] st = ab_rn cl 39 J Q k 11 μ [v0] (.int 1 :: st) := x_iconst dX4_canBlow_10 (by decide)
theorem e39_11 : ab_rn cl 39 J Q (k + 1) 11 μ [v0] st = ab_rn cl 39 J Q k 15 μ [v0] st := x_gotoF dX4_canBlow_11 (fun _ _ _ _ _ => rfl)
theorem e39_14 : ab_rn cl 39 J Q (k + 1) 14 μ [v0] st = ab_rn cl 39 J Q k 15 μ [v0] (.int 0 :: st) := x_iconst dX4_canBlow_14 (by decide)
theorem e39_15 : ab_rn cl 39 J Q (k + 1) 15 μ [v0] [.int v] = ((v = 0 ∨ v = 1) ∧ Q (some v) μ) := x_zret dX4_canBlow_15 rfl
theorem n39 {d : Nat} (h : ∀ J : ab_J, (∀ k pc μ ls st, ab_rn (ab_Cl d) 39 J Q k pc μ ls st → J pc μ ls st) → J 0 μ [v0] []) : ab_Cl (d + 1) 39 [v0] μ Q := ab_go h
theorem e40_0 : ab_rn cl 40 J Q (k + 1) 0 μ [v0, .int x, v2] st = ab_rn cl 40 J Q k 1 μ [v0, .int x, v2] (.int x :: st) := x_iload_n dX4_tellSnow_0 rfl
theorem e40_1 : ab_rn cl 40 J Q (k + 1) 1 μ [v0, v1, v2] (.int x0 :: st) = (st.length ≤ 4 ∧ cl 68 [.int x0] μ (fun r μ' => ab_rn cl 40 J Q k 4 μ' [v0, v1, v2] (ab_pu r st))) := x_s (as := [.int x0]) (b := 1) dX4_tellSnow_1 rfl (by decide) rfl rfl rfl
theorem e40_4 : ab_rn cl 40 J Q (k + 1) 4 μ [v0, v1, v2] (.int x :: st) = (((x = 0) → ab_rn cl 40 J Q k 14 μ [v0, v1, v2] st) ∧ ((¬ (x = 0)) → ab_rn cl 40 J Q k 7 μ [v0, v1, v2] st)) := x_ifF dX4_tellSnow_4 rfl (fun _ _ _ _ _ => rfl)
theorem e40_7 : ab_rn cl 40 J Q (k + 1) 7 μ [.ref a, v1, v2] st = ab_rn cl 40 J Q k 8 μ [.ref a, v1, v2] (.ref a :: st) := x_aload_n dX4_tellSnow_7 rfl
theorem e40_8 : ab_rn cl 40 J Q (k + 1) 8 μ [v0, v1, v2] (.ref a :: st) = (ab_ob a 4 ∧ ab_rn cl 40 J Q k 11 μ [v0, v1, v2] (ab_fv μ a 0 :: st)) := x_get dX4_tellSnow_8 rfl
theorem e40_11 : ab_rn cl 40 J Q (k + 1) 11 μ [v0, .int x, v2] st = ab_rn cl 40 J Q k 12 μ [v0, .int x, v2] (.int x :: st) := x_iload_n dX4_tellSnow_11 rfl
theorem e40_12 : ab_rn cl 40 J Q (k + 1) 12 μ [v0, v1, .int x] st = ab_rn cl 40 J Q k 13 μ [v0, v1, .int x] (.int x :: st) := x_iload_n dX4_tellSnow_12 rfl
theorem e40_13 : ab_rn cl 40 J Q (k + 1) 13 μ [v0, v1, v2] (.int v :: .int x :: .ref a :: st) = ((a < 81 ∧ ab_ak a = 0) ∧ vp_in x (ab_al a) ∧ ab_rn cl 40 J Q k 14 (ab_up μ (ab_cmp a) (ab_off a + x.toNatClampNeg) v) [v0, v1, v2] st) := x_iastore dX4_tellSnow_13
theorem e40_14 : ab_rn cl 40 J Q (k + 1) 14 μ [v0, v1, v2] [] = Q none μ := x_vret dX4_tellSnow_14 rfl
theorem n40 {d : Nat} (h : ∀ J : ab_J, (∀ k pc μ ls st, ab_rn (ab_Cl d) 40 J Q k pc μ ls st → J pc μ ls st) → J 0 μ [v0, v1, v2] []) : ab_Cl (d + 1) 40 [v0, v1, v2] μ Q := ab_go h
theorem e41_0 : ab_rn cl 41 J Q (k + 1) 0 μ [v0, .int x, v2] st = ab_rn cl 41 J Q k 1 μ [v0, .int x, v2] (.int x :: st) := x_iload_n dX4_tellWarmth_0 rfl
theorem e41_1 : ab_rn cl 41 J Q (k + 1) 1 μ [v0, v1, v2] (.int x0 :: st) = (st.length ≤ 4 ∧ cl 68 [.int x0] μ (fun r μ' => ab_rn cl 41 J Q k 4 μ' [v0, v1, v2] (ab_pu r st))) := x_s (as := [.int x0]) (b := 1) dX4_tellWarmth_1 rfl (by decide) rfl rfl rfl
theorem e41_4 : ab_rn cl 41 J Q (k + 1) 4 μ [v0, v1, v2] (.int x :: st) = (((x = 0) → ab_rn cl 41 J Q k 14 μ [v0, v1, v2] st) ∧ ((¬ (x = 0)) → ab_rn cl 41 J Q k 7 μ [v0, v1, v2] st)) := x_ifF dX4_tellWarmth_4 rfl (fun _ _ _ _ _ => rfl)
theorem e41_7 : ab_rn cl 41 J Q (k + 1) 7 μ [.ref a, v1, v2] st = ab_rn cl 41 J Q k 8 μ [.ref a, v1, v2] (.ref a :: st) := x_aload_n dX4_tellWarmth_7 rfl
theorem e41_8 : ab_rn cl 41 J Q (k + 1) 8 μ [v0, v1, v2] (.ref a :: st) = (ab_ob a 4 ∧ ab_rn cl 41 J Q k 11 μ [v0, v1, v2] (ab_fv μ a 1 :: st)) := x_get dX4_tellWarmth_8 rfl
theorem e41_11 : ab_rn cl 41 J Q (k + 1) 11 μ [v0, .int x, v2] st = ab_rn cl 41 J Q k 12 μ [v0, .int x, v2] (.int x :: st) := x_iload_n dX4_tellWarmth_11 rfl
theorem e41_12 : ab_rn cl 41 J Q (k + 1) 12 μ [v0, v1, .int x] st = ab_rn cl 41 J Q k 13 μ [v0, v1, .int x] (.int x :: st) := x_iload_n dX4_tellWarmth_12 rfl
theorem e41_13 : ab_rn cl 41 J Q (k + 1) 13 μ [v0, v1, v2] (.int v :: .int x :: .ref a :: st) = ((a < 81 ∧ ab_ak a = 0) ∧ vp_in x (ab_al a) ∧ ab_rn cl 41 J Q k 14 (ab_up μ (ab_cmp a) (ab_off a + x.toNatClampNeg) v) [v0, v1, v2] st) := x_iastore dX4_tellWarmth_13
theorem e41_14 : ab_rn cl 41 J Q (k + 1) 14 μ [v0, v1, v2] [] = Q none μ := x_vret dX4_tellWarmth_14 rfl
theorem n41 {d : Nat} (h : ∀ J : ab_J, (∀ k pc μ ls st, ab_rn (ab_Cl d) 41 J Q k pc μ ls st → J pc μ ls st) → J 0 μ [v0, v1, v2] []) : ab_Cl (d + 1) 41 [v0, v1, v2] μ Q := ab_go h
theorem e42_0 : ab_rn cl 42 J Q (k + 1) 0 μ [.ref a, v1, v2] st = ab_rn cl 42 J Q k 1 μ [.ref a, v1, v2] (.ref a :: st) := x_aload_n dX4_tellWind_0 rfl
theorem e42_1 : ab_rn cl 42 J Q (k + 1) 1 μ [v0, .int x, v2] st = ab_rn cl 42 J Q k 2 μ [v0, .int x, v2] (.int x :: st) := x_iload_n dX4_tellWind_1 rfl
theorem e42_2 : ab_rn cl 42 J Q (k + 1) 2 μ [v0, v1, v2] (.int v :: .ref a :: st) = (ab_ob a 4 ∧ ab_rf a 3 = none ∧ ab_rn cl 42 J Q k 5 (ab_up μ (ab_cmp a) (ab_off a + 3) v) [v0, v1, v2] st) := x_put dX4_tellWind_2 rfl
theorem e42_5 : ab_rn cl 42 J Q (k + 1) 5 μ [.ref a, v1, v2] st = ab_rn cl 42 J Q k 6 μ [.ref a, v1, v2] (.ref a :: st) := x_aload_n dX4_tellWind_5 rfl
theorem e42_6 : ab_rn cl 42 J Q (k + 1) 6 μ [v0, v1, .int x] st = ab_rn cl 42 J Q k 7 μ [v0, v1, .int x] (.int x :: st) := x_iload_n dX4_tellWind_6 rfl
theorem e42_7 : ab_rn cl 42 J Q (k + 1) 7 μ [v0, v1, v2] (.int v :: .ref a :: st) = (ab_ob a 4 ∧ ab_rf a 4 = none ∧ ab_rn cl 42 J Q k 10 (ab_up μ (ab_cmp a) (ab_off a + 4) v) [v0, v1, v2] st) := x_put dX4_tellWind_7 rfl
theorem e42_10 : ab_rn cl 42 J Q (k + 1) 10 μ [v0, v1, v2] [] = Q none μ := x_vret dX4_tellWind_10 rfl
theorem n42 {d : Nat} (h : ∀ J : ab_J, (∀ k pc μ ls st, ab_rn (ab_Cl d) 42 J Q k pc μ ls st → J pc μ ls st) → J 0 μ [v0, v1, v2] []) : ab_Cl (d + 1) 42 [v0, v1, v2] μ Q := ab_go h
theorem e43_0 : ab_rn cl 43 J Q (k + 1) 0 μ [v0, .int x] st = ab_rn cl 43 J Q k 1 μ [v0, .int x] (.int x :: st) := x_iload_n dX4_fallingMassAt_0 rfl
theorem e43_1 : ab_rn cl 43 J Q (k + 1) 1 μ [v0, v1] (.int x0 :: st) = (st.length ≤ 4 ∧ cl 68 [.int x0] μ (fun r μ' => ab_rn cl 43 J Q k 4 μ' [v0, v1] (ab_pu r st))) := x_s (as := [.int x0]) (b := 1) dX4_fallingMassAt_1 rfl (by decide) rfl rfl rfl
theorem e43_4 : ab_rn cl 43 J Q (k + 1) 4 μ [v0, v1] (.int x :: st) = (((¬ x = 0) → ab_rn cl 43 J Q k 9 μ [v0, v1] st) ∧ ((¬ (¬ x = 0)) → ab_rn cl 43 J Q k 7 μ [v0, v1] st)) := x_ifF dX4_fallingMassAt_4 rfl (fun _ _ _ _ _ => rfl)
theorem e43_7 : ab_rn cl 43 J Q (k + 1) 7 μ [v0, v1] st = ab_rn cl 43 J Q k 8 μ [v0, v1] (.int 0 :: st) := x_iconst dX4_fallingMassAt_7 (by decide)
theorem e43_8 : ab_rn cl 43 J Q (k + 1) 8 μ [v0, v1] [.int v] = Q (some v) μ := x_iret dX4_fallingMassAt_8 rfl
theorem e43_9 : ab_rn cl 43 J Q (k + 1) 9 μ [v0, v1] st = ab_rn cl 43 J Q k 11 μ [v0, v1] (.int 10 :: st) := x_bipush dX4_fallingMassAt_9 (by decide)
theorem e43_11 : ab_rn cl 43 J Q (k + 1) 11 μ [.ref a, v1] st = ab_rn cl 43 J Q k 12 μ [.ref a, v1] (.ref a :: st) := x_aload_n dX4_fallingMassAt_11 rfl
theorem e43_12 : ab_rn cl 43 J Q (k + 1) 12 μ [v0, v1] (.ref a :: st) = (ab_ob a 4 ∧ ab_rn cl 43 J Q k 15 μ [v0, v1] (ab_fv μ a 0 :: st)) := x_get dX4_fallingMassAt_12 rfl
theorem e43_15 : ab_rn cl 43 J Q (k + 1) 15 μ [v0, .int x] st = ab_rn cl 43 J Q k 16 μ [v0, .int x] (.int x :: st) := x_iload_n dX4_fallingMassAt_15 rfl
theorem e43_16 : ab_rn cl 43 J Q (k + 1) 16 μ [v0, v1] (.int x :: .ref a :: st) = ((a < 81 ∧ ab_ak a = 0) ∧ vp_in x (ab_al a) ∧ ab_rn cl 43 J Q k 17 μ [v0, v1] (.int (μ (ab_cmp a) (ab_off a + x.toNatClampNeg)) :: st)) := x_iaload dX4_fallingMassAt_16
theorem e43_17 : ab_rn cl 43 J Q (k + 1) 17 μ [v0, v1] st = ab_rn cl 43 J Q k 18 μ [v0, v1] (.int (-1) :: st) := x_iconst dX4_fallingMassAt_17 (by decide)
theorem e43_18 : ab_rn cl 43 J Q (k + 1) 18 μ [v0, v1] (.int y :: .int x :: st) = (((¬ x = y) → ab_rn cl 43 J Q k 28 μ [v0, v1] st) ∧ ((¬ (¬ x = y)) → ab_rn cl 43 J Q k 21 μ [v0, v1] st)) := x_icmpF dX4_fallingMassAt_18 rfl (fun _ _ _ _ _ => rfl)
theorem e43_21 : ab_rn cl 43 J Q (k + 1) 21 μ [.ref a, v1] st = ab_rn cl 43 J Q k 22 μ [.ref a, v1] (.ref a :: st) := x_aload_n dX4_fallingMassAt_21 rfl
theorem e43_22 : ab_rn cl 43 J Q (k + 1) 22 μ [v0, v1] (.ref a :: st) = (ab_ob a 4 ∧ st.length ≤ 4 ∧ cl 49 [.ref a] μ (fun r μ' => ab_rn cl 43 J Q k 25 μ' [v0, v1] (ab_pu r st))) := x_v (as := []) dX4_fallingMassAt_22 rfl rfl rfl rfl rfl
theorem e43_25 : ab_rn cl 43 J Q (k + 1) 25 μ [v0, v1] st = ab_rn cl 43 J Q k 34 μ [v0, v1] st := x_gotoF dX4_fallingMassAt_25 (fun _ _ _ _ _ => rfl)
theorem e43_28 : ab_rn cl 43 J Q (k + 1) 28 μ [.ref a, v1] st = ab_rn cl 43 J Q k 29 μ [.ref a, v1] (.ref a :: st) := x_aload_n dX4_fallingMassAt_28 rfl
theorem e43_29 : ab_rn cl 43 J Q (k + 1) 29 μ [v0, v1] (.ref a :: st) = (ab_ob a 4 ∧ ab_rn cl 43 J Q k 32 μ [v0, v1] (ab_fv μ a 0 :: st)) := x_get dX4_fallingMassAt_29 rfl
theorem e43_32 : ab_rn cl 43 J Q (k + 1) 32 μ [v0, .int x] st = ab_rn cl 43 J Q k 33 μ [v0, .int x] (.int x :: st) := x_iload_n dX4_fallingMassAt_32 rfl
theorem e43_33 : ab_rn cl 43 J Q (k + 1) 33 μ [v0, v1] (.int x :: .ref a :: st) = ((a < 81 ∧ ab_ak a = 0) ∧ vp_in x (ab_al a) ∧ ab_rn cl 43 J Q k 34 μ [v0, v1] (.int (μ (ab_cmp a) (ab_off a + x.toNatClampNeg)) :: st)) := x_iaload dX4_fallingMassAt_33
theorem e43_34 : ab_rn cl 43 J Q (k + 1) 34 μ [v0, v1] (.int y :: .int x :: st) = ab_rn cl 43 J Q k 35 μ [v0, v1] (.int (x * y) :: st) := x_imul dX4_fallingMassAt_34
theorem e43_35 : ab_rn cl 43 J Q (k + 1) 35 μ [v0, v1] [.int v] = Q (some v) μ := x_iret dX4_fallingMassAt_35 rfl
theorem n43 {d : Nat} (h : ∀ J : ab_J, (∀ k pc μ ls st, ab_rn (ab_Cl d) 43 J Q k pc μ ls st → J pc μ ls st) → J 0 μ [v0, v1] []) : ab_Cl (d + 1) 43 [v0, v1] μ Q := ab_go h
theorem e44_0 : ab_rn cl 44 J Q (k + 1) 0 μ [v0, .int x] st = ab_rn cl 44 J Q k 1 μ [v0, .int x] (.int x :: st) := x_iload_n dX4_warmthAt_0 rfl
theorem e44_1 : ab_rn cl 44 J Q (k + 1) 1 μ [v0, v1] (.int x0 :: st) = (st.length ≤ 4 ∧ cl 68 [.int x0] μ (fun r μ' => ab_rn cl 44 J Q k 4 μ' [v0, v1] (ab_pu r st))) := x_s (as := [.int x0]) (b := 1) dX4_warmthAt_1 rfl (by decide) rfl rfl rfl
theorem e44_4 : ab_rn cl 44 J Q (k + 1) 4 μ [v0, v1] (.int x :: st) = (((¬ x = 0) → ab_rn cl 44 J Q k 10 μ [v0, v1] st) ∧ ((¬ (¬ x = 0)) → ab_rn cl 44 J Q k 7 μ [v0, v1] st)) := x_ifF dX4_warmthAt_4 rfl (fun _ _ _ _ _ => rfl)
theorem e44_7 : ab_rn cl 44 J Q (k + 1) 7 μ [v0, v1] st = ab_rn cl 44 J Q k 9 μ [v0, v1] (.int (-5) :: st) := x_bipush dX4_warmthAt_7 (by decide)
theorem e44_9 : ab_rn cl 44 J Q (k + 1) 9 μ [v0, v1] [.int v] = Q (some v) μ := x_iret dX4_warmthAt_9 rfl
theorem e44_10 : ab_rn cl 44 J Q (k + 1) 10 μ [.ref a, v1] st = ab_rn cl 44 J Q k 11 μ [.ref a, v1] (.ref a :: st) := x_aload_n dX4_warmthAt_10 rfl
theorem e44_11 : ab_rn cl 44 J Q (k + 1) 11 μ [v0, v1] (.ref a :: st) = (ab_ob a 4 ∧ ab_rn cl 44 J Q k 14 μ [v0, v1] (ab_fv μ a 1 :: st)) := x_get dX4_warmthAt_11 rfl
theorem e44_14 : ab_rn cl 44 J Q (k + 1) 14 μ [v0, .int x] st = ab_rn cl 44 J Q k 15 μ [v0, .int x] (.int x :: st) := x_iload_n dX4_warmthAt_14 rfl
theorem e44_15 : ab_rn cl 44 J Q (k + 1) 15 μ [v0, v1] (.int x :: .ref a :: st) = ((a < 81 ∧ ab_ak a = 0) ∧ vp_in x (ab_al a) ∧ ab_rn cl 44 J Q k 16 μ [v0, v1] (.int (μ (ab_cmp a) (ab_off a + x.toNatClampNeg)) :: st)) := x_iaload dX4_warmthAt_15
theorem e44_16 : ab_rn cl 44 J Q (k + 1) 16 μ [v0, v1] st = ab_rn cl 44 J Q k 18 μ [v0, v1] (.int (-100) :: st) := x_bipush dX4_warmthAt_16 (by decide)
theorem e44_18 : ab_rn cl 44 J Q (k + 1) 18 μ [v0, v1] (.int y :: .int x :: st) = (((¬ x = y) → ab_rn cl 44 J Q k 30 μ [v0, v1] st) ∧ ((¬ (¬ x = y)) → ab_rn cl 44 J Q k 21 μ [v0, v1] st)) := x_icmpF dX4_warmthAt_18 rfl (fun _ _ _ _ _ => rfl)
theorem e44_21 : ab_rn cl 44 J Q (k + 1) 21 μ [.ref a, v1] st = ab_rn cl 44 J Q k 22 μ [.ref a, v1] (.ref a :: st) := x_aload_n dX4_warmthAt_21 rfl
theorem e44_22 : ab_rn cl 44 J Q (k + 1) 22 μ [v0, v1] (.ref a :: st) = (ab_ob a 4 ∧ ab_rn cl 44 J Q k 25 μ [v0, v1] (ab_fv μ a 2 :: st)) := x_get dX4_warmthAt_22 rfl
theorem e44_25 : ab_rn cl 44 J Q (k + 1) 25 μ [v0, .int x] st = ab_rn cl 44 J Q k 26 μ [v0, .int x] (.int x :: st) := x_iload_n dX4_warmthAt_25 rfl
theorem e44_26 : ab_rn cl 44 J Q (k + 1) 26 μ [v0, v1] (.int x :: .ref a :: st) = ((a < 81 ∧ ab_ak a = 0) ∧ vp_in x (ab_al a) ∧ ab_rn cl 44 J Q k 27 μ [v0, v1] (.int (μ (ab_cmp a) (ab_off a + x.toNatClampNeg)) :: st)) := x_iaload dX4_warmthAt_26
theorem e44_27 : ab_rn cl 44 J Q (k + 1) 27 μ [v0, v1] st = ab_rn cl 44 J Q k 36 μ [v0, v1] st := x_gotoF dX4_warmthAt_27 (fun _ _ _ _ _ => rfl)
theorem e44_30 : ab_rn cl 44 J Q (k + 1) 30 μ [.ref a, v1] st = ab_rn cl 44 J Q k 31 μ [.ref a, v1] (.ref a :: st) := x_aload_n dX4_warmthAt_30 rfl
theorem e44_31 : ab_rn cl 44 J Q (k + 1) 31 μ [v0, v1] (.ref a :: st) = (ab_ob a 4 ∧ ab_rn cl 44 J Q k 34 μ [v0, v1] (ab_fv μ a 1 :: st)) := x_get dX4_warmthAt_31 rfl
theorem e44_34 : ab_rn cl 44 J Q (k + 1) 34 μ [v0, .int x] st = ab_rn cl 44 J Q k 35 μ [v0, .int x] (.int x :: st) := x_iload_n dX4_warmthAt_34 rfl
theorem e44_35 : ab_rn cl 44 J Q (k + 1) 35 μ [v0, v1] (.int x :: .ref a :: st) = ((a < 81 ∧ ab_ak a = 0) ∧ vp_in x (ab_al a) ∧ ab_rn cl 44 J Q k 36 μ [v0, v1] (.int (μ (ab_cmp a) (ab_off a + x.toNatClampNeg)) :: st)) := x_iaload dX4_warmthAt_35
theorem e44_36 : ab_rn cl 44 J Q (k + 1) 36 μ [v0, v1] [.int v] = Q (some v) μ := x_iret dX4_warmthAt_36 rfl
theorem n44 {d : Nat} (h : ∀ J : ab_J, (∀ k pc μ ls st, ab_rn (ab_Cl d) 44 J Q k pc μ ls st → J pc μ ls st) → J 0 μ [v0, v1] []) : ab_Cl (d + 1) 44 [v0, v1] μ Q := ab_go h
theorem e45_0 : ab_rn cl 45 J Q (k + 1) 0 μ [.ref a] st = ab_rn cl 45 J Q k 1 μ [.ref a] (.ref a :: st) := x_aload_n dX4_isDrifting_0 rfl
theorem e45_1 : ab_rn cl 45 J Q (k + 1) 1 μ [v0] (.ref a :: st) = (ab_ob a 4 ∧ ab_rn cl 45 J Q k 4 μ [v0] (ab_fv μ a 4 :: st)) := x_get dX4_isDrifting_1 rfl
theorem e45_4 : ab_rn cl 45 J Q (k + 1) 4 μ [v0] st = ab_rn cl 45 J Q k 5 μ [v0] (.int 3 :: st) := x_iconst dX4_isDrifting_4 (by decide)
theorem e45_5 : ab_rn cl 45 J Q (k + 1) 5 μ [v0] (.int y :: .int x :: st) = (((x ≤ y) → ab_rn cl 45 J Q k 12 μ [v0] st) ∧ ((¬ (x ≤ y)) → ab_rn cl 45 J Q k 8 μ [v0] st)) := x_icmpF dX4_isDrifting_5 rfl (fun _ _ _ _ _ => rfl)
theorem e45_8 : ab_rn cl 45 J Q (k + 1) 8 μ [v0] st = ab_rn cl 45 J Q k 9 μ [v0] (.int 1 :: st) := x_iconst dX4_isDrifting_8 (by decide)
theorem e45_9 : ab_rn cl 45 J Q (k + 1) 9 μ [v0] st = ab_rn cl 45 J Q k 13 μ [v0] st := x_gotoF dX4_isDrifting_9 (fun _ _ _ _ _ => rfl)
theorem e45_12 : ab_rn cl 45 J Q (k + 1) 12 μ [v0] st = ab_rn cl 45 J Q k 13 μ [v0] (.int 0 :: st) := x_iconst dX4_isDrifting_12 (by decide)
theorem e45_13 : ab_rn cl 45 J Q (k + 1) 13 μ [v0] [.int v] = ((v = 0 ∨ v = 1) ∧ Q (some v) μ) := x_zret dX4_isDrifting_13 rfl
theorem n45 {d : Nat} (h : ∀ J : ab_J, (∀ k pc μ ls st, ab_rn (ab_Cl d) 45 J Q k pc μ ls st → J pc μ ls st) → J 0 μ [v0] []) : ab_Cl (d + 1) 45 [v0] μ Q := ab_go h
theorem e46_0 : ab_rn cl 46 J Q (k + 1) 0 μ [.ref a] st = ab_rn cl 46 J Q k 1 μ [.ref a] (.ref a :: st) := x_aload_n dX4_windSide_0 rfl
theorem e46_1 : ab_rn cl 46 J Q (k + 1) 1 μ [v0] (.ref a :: st) = (ab_ob a 4 ∧ ab_rn cl 46 J Q k 4 μ [v0] (ab_fv μ a 3 :: st)) := x_get dX4_windSide_1 rfl
theorem e46_4 : ab_rn cl 46 J Q (k + 1) 4 μ [v0] [.int v] = Q (some v) μ := x_iret dX4_windSide_4 rfl
theorem n46 {d : Nat} (h : ∀ J : ab_J, (∀ k pc μ ls st, ab_rn (ab_Cl d) 46 J Q k pc μ ls st → J pc μ ls st) → J 0 μ [v0] []) : ab_Cl (d + 1) 46 [v0] μ Q := ab_go h
theorem e47_0 : ab_rn cl 47 J Q (k + 1) 0 μ [v0] st = ab_rn cl 47 J Q k 1 μ [v0] (.int 4 :: st) := x_iconst dX4_driftingParts_0 (by decide)
theorem e47_1 : ab_rn cl 47 J Q (k + 1) 1 μ [.ref a] st = ab_rn cl 47 J Q k 2 μ [.ref a] (.ref a :: st) := x_aload_n dX4_driftingParts_1 rfl
theorem e47_2 : ab_rn cl 47 J Q (k + 1) 2 μ [v0] (.ref a :: st) = (ab_ob a 4 ∧ ab_rn cl 47 J Q k 5 μ [v0] (ab_fv μ a 4 :: st)) := x_get dX4_driftingParts_2 rfl
theorem e47_5 : ab_rn cl 47 J Q (k + 1) 5 μ [v0] (.int y :: .int x :: st) = ab_rn cl 47 J Q k 6 μ [v0] (.int (x * y) :: st) := x_imul dX4_driftingParts_5
theorem e47_6 : ab_rn cl 47 J Q (k + 1) 6 μ [v0] [.int v] = Q (some v) μ := x_iret dX4_driftingParts_6 rfl
theorem n47 {d : Nat} (h : ∀ J : ab_J, (∀ k pc μ ls st, ab_rn (ab_Cl d) 47 J Q k pc μ ls st → J pc μ ls st) → J 0 μ [v0] []) : ab_Cl (d + 1) 47 [v0] μ Q := ab_go h
theorem e48_0 : ab_rn cl 48 J Q (k + 1) 0 μ [v0, v1] st = ab_rn cl 48 J Q k 1 μ [v0, v1] (.int 0 :: st) := x_iconst dX4_endDay_0 (by decide)
theorem e48_1 : ab_rn cl 48 J Q (k + 1) 1 μ [v0, v1] (.int x :: st) = ab_rn cl 48 J Q k 2 μ [v0, .int x] st := x_istore_n dX4_endDay_1 (Nat.le_of_ble_eq_true rfl) rfl
theorem e48_2 : ab_rn cl 48 J Q (k + 1) 2 μ [v0, .int x] st = ab_rn cl 48 J Q k 3 μ [v0, .int x] (.int x :: st) := x_iload_n dX4_endDay_2 rfl
theorem e48_3 : ab_rn cl 48 J Q (k + 1) 3 μ [v0, v1] st = ab_rn cl 48 J Q k 4 μ [v0, v1] (.int 3 :: st) := x_iconst dX4_endDay_3 (by decide)
theorem e48_4 : ab_rn cl 48 J Q (k + 1) 4 μ [v0, v1] (.int y :: .int x :: st) = (((y ≤ x) → ab_rn cl 48 J Q k 39 μ [v0, v1] st) ∧ ((¬ (y ≤ x)) → ab_rn cl 48 J Q k 7 μ [v0, v1] st)) := x_icmpF dX4_endDay_4 rfl (fun _ _ _ _ _ => rfl)
theorem e48_7 : ab_rn cl 48 J Q (k + 1) 7 μ [.ref a, v1] st = ab_rn cl 48 J Q k 8 μ [.ref a, v1] (.ref a :: st) := x_aload_n dX4_endDay_7 rfl
theorem e48_8 : ab_rn cl 48 J Q (k + 1) 8 μ [v0, v1] (.ref a :: st) = (ab_ob a 4 ∧ ab_rn cl 48 J Q k 11 μ [v0, v1] (ab_fv μ a 2 :: st)) := x_get dX4_endDay_8 rfl
theorem e48_11 : ab_rn cl 48 J Q (k + 1) 11 μ [v0, .int x] st = ab_rn cl 48 J Q k 12 μ [v0, .int x] (.int x :: st) := x_iload_n dX4_endDay_11 rfl
theorem e48_12 : ab_rn cl 48 J Q (k + 1) 12 μ [.ref a, v1] st = ab_rn cl 48 J Q k 13 μ [.ref a, v1] (.ref a :: st) := x_aload_n dX4_endDay_12 rfl
theorem e48_13 : ab_rn cl 48 J Q (k + 1) 13 μ [v0, .int x] st = ab_rn cl 48 J Q k 14 μ [v0, .int x] (.int x :: st) := x_iload_n dX4_endDay_13 rfl
theorem e48_14 : ab_rn cl 48 J Q (k + 1) 14 μ [v0, v1] (.int x0 :: .ref a :: st) = (ab_ob a 4 ∧ st.length ≤ 4 ∧ cl 44 [.ref a, .int x0] μ (fun r μ' => ab_rn cl 48 J Q k 17 μ' [v0, v1] (ab_pu r st))) := x_v (as := [.int x0]) dX4_endDay_14 rfl rfl rfl rfl rfl
theorem e48_17 : ab_rn cl 48 J Q (k + 1) 17 μ [v0, v1] (.int v :: .int x :: .ref a :: st) = ((a < 81 ∧ ab_ak a = 0) ∧ vp_in x (ab_al a) ∧ ab_rn cl 48 J Q k 18 (ab_up μ (ab_cmp a) (ab_off a + x.toNatClampNeg) v) [v0, v1] st) := x_iastore dX4_endDay_17
theorem e48_18 : ab_rn cl 48 J Q (k + 1) 18 μ [.ref a, v1] st = ab_rn cl 48 J Q k 19 μ [.ref a, v1] (.ref a :: st) := x_aload_n dX4_endDay_18 rfl
theorem e48_19 : ab_rn cl 48 J Q (k + 1) 19 μ [v0, v1] (.ref a :: st) = (ab_ob a 4 ∧ ab_rn cl 48 J Q k 22 μ [v0, v1] (ab_fv μ a 1 :: st)) := x_get dX4_endDay_19 rfl
theorem e48_22 : ab_rn cl 48 J Q (k + 1) 22 μ [v0, .int x] st = ab_rn cl 48 J Q k 23 μ [v0, .int x] (.int x :: st) := x_iload_n dX4_endDay_22 rfl
theorem e48_23 : ab_rn cl 48 J Q (k + 1) 23 μ [v0, v1] st = ab_rn cl 48 J Q k 25 μ [v0, v1] (.int (-100) :: st) := x_bipush dX4_endDay_23 (by decide)
theorem e48_25 : ab_rn cl 48 J Q (k + 1) 25 μ [v0, v1] (.int v :: .int x :: .ref a :: st) = ((a < 81 ∧ ab_ak a = 0) ∧ vp_in x (ab_al a) ∧ ab_rn cl 48 J Q k 26 (ab_up μ (ab_cmp a) (ab_off a + x.toNatClampNeg) v) [v0, v1] st) := x_iastore dX4_endDay_25
theorem e48_26 : ab_rn cl 48 J Q (k + 1) 26 μ [.ref a, v1] st = ab_rn cl 48 J Q k 27 μ [.ref a, v1] (.ref a :: st) := x_aload_n dX4_endDay_26 rfl
theorem e48_27 : ab_rn cl 48 J Q (k + 1) 27 μ [v0, v1] (.ref a :: st) = (ab_ob a 4 ∧ ab_rn cl 48 J Q k 30 μ [v0, v1] (ab_fv μ a 0 :: st)) := x_get dX4_endDay_27 rfl
theorem e48_30 : ab_rn cl 48 J Q (k + 1) 30 μ [v0, .int x] st = ab_rn cl 48 J Q k 31 μ [v0, .int x] (.int x :: st) := x_iload_n dX4_endDay_30 rfl
theorem e48_31 : ab_rn cl 48 J Q (k + 1) 31 μ [v0, v1] st = ab_rn cl 48 J Q k 32 μ [v0, v1] (.int (-1) :: st) := x_iconst dX4_endDay_31 (by decide)
theorem e48_32 : ab_rn cl 48 J Q (k + 1) 32 μ [v0, v1] (.int v :: .int x :: .ref a :: st) = ((a < 81 ∧ ab_ak a = 0) ∧ vp_in x (ab_al a) ∧ ab_rn cl 48 J Q k 33 (ab_up μ (ab_cmp a) (ab_off a + x.toNatClampNeg) v) [v0, v1] st) := x_iastore dX4_endDay_32
theorem e48_33 : ab_rn cl 48 J Q (k + 1) 33 μ [v0, .int x] st = ab_rn cl 48 J Q k 36 μ [v0, .int (x + 1)] st := x_iinc dX4_endDay_33 (w := 1) (by decide) rfl rfl
theorem e48_36 : ab_rn cl 48 J Q (k + 1) 36 μ [v0, v1] st = J 2 μ [v0, v1] st := x_gotoB dX4_endDay_36 (fun _ _ _ _ _ => rfl)
theorem e48_39 : ab_rn cl 48 J Q (k + 1) 39 μ [.ref a, v1] st = ab_rn cl 48 J Q k 40 μ [.ref a, v1] (.ref a :: st) := x_aload_n dX4_endDay_39 rfl
theorem e48_40 : ab_rn cl 48 J Q (k + 1) 40 μ [v0, v1] st = ab_rn cl 48 J Q k 41 μ [v0, v1] (.int 0 :: st) := x_iconst dX4_endDay_40 (by decide)
theorem e48_41 : ab_rn cl 48 J Q (k + 1) 41 μ [v0, v1] (.int v :: .ref a :: st) = (ab_ob a 4 ∧ ab_rf a 4 = none ∧ ab_rn cl 48 J Q k 44 (ab_up μ (ab_cmp a) (ab_off a + 4) v) [v0, v1] st) := x_put dX4_endDay_41 rfl
theorem e48_44 : ab_rn cl 48 J Q (k + 1) 44 μ [v0, v1] [] = Q none μ := x_vret dX4_endDay_44 rfl
theorem n48 {d : Nat} (h : ∀ J : ab_J, (∀ k pc μ ls st, ab_rn (ab_Cl d) 48 J Q k pc μ ls st → J pc μ ls st) → J 0 μ [v0, .null] []) : ab_Cl (d + 1) 48 [v0] μ Q := ab_go h
theorem e49_0 : ab_rn cl 49 J Q (k + 1) 0 μ [v0, v1, v2, v3] st = ab_rn cl 49 J Q k 1 μ [v0, v1, v2, v3] (.int 0 :: st) := x_iconst dX4_meanSnow_0 (by decide)
theorem e49_1 : ab_rn cl 49 J Q (k + 1) 1 μ [v0, v1, v2, v3] (.int x :: st) = ab_rn cl 49 J Q k 2 μ [v0, .int x, v2, v3] st := x_istore_n dX4_meanSnow_1 (Nat.le_of_ble_eq_true rfl) rfl
theorem e49_2 : ab_rn cl 49 J Q (k + 1) 2 μ [v0, v1, v2, v3] st = ab_rn cl 49 J Q k 3 μ [v0, v1, v2, v3] (.int 0 :: st) := x_iconst dX4_meanSnow_2 (by decide)
theorem e49_3 : ab_rn cl 49 J Q (k + 1) 3 μ [v0, v1, v2, v3] (.int x :: st) = ab_rn cl 49 J Q k 4 μ [v0, v1, .int x, v3] st := x_istore_n dX4_meanSnow_3 (Nat.le_of_ble_eq_true rfl) rfl
theorem e49_4 : ab_rn cl 49 J Q (k + 1) 4 μ [v0, v1, v2, v3] st = ab_rn cl 49 J Q k 5 μ [v0, v1, v2, v3] (.int 0 :: st) := x_iconst dX4_meanSnow_4 (by decide)
theorem e49_5 : ab_rn cl 49 J Q (k + 1) 5 μ [v0, v1, v2, v3] (.int x :: st) = ab_rn cl 49 J Q k 6 μ [v0, v1, v2, .int x] st := x_istore_n dX4_meanSnow_5 (Nat.le_of_ble_eq_true rfl) rfl
theorem e49_6 : ab_rn cl 49 J Q (k + 1) 6 μ [v0, v1, v2, .int x] st = ab_rn cl 49 J Q k 7 μ [v0, v1, v2, .int x] (.int x :: st) := x_iload_n dX4_meanSnow_6 rfl
theorem e49_7 : ab_rn cl 49 J Q (k + 1) 7 μ [v0, v1, v2, v3] st = ab_rn cl 49 J Q k 8 μ [v0, v1, v2, v3] (.int 3 :: st) := x_iconst dX4_meanSnow_7 (by decide)
theorem e49_8 : ab_rn cl 49 J Q (k + 1) 8 μ [v0, v1, v2, v3] (.int y :: .int x :: st) = (((y ≤ x) → ab_rn cl 49 J Q k 39 μ [v0, v1, v2, v3] st) ∧ ((¬ (y ≤ x)) → ab_rn cl 49 J Q k 11 μ [v0, v1, v2, v3] st)) := x_icmpF dX4_meanSnow_8 rfl (fun _ _ _ _ _ => rfl)
theorem e49_11 : ab_rn cl 49 J Q (k + 1) 11 μ [.ref a, v1, v2, v3] st = ab_rn cl 49 J Q k 12 μ [.ref a, v1, v2, v3] (.ref a :: st) := x_aload_n dX4_meanSnow_11 rfl
theorem e49_12 : ab_rn cl 49 J Q (k + 1) 12 μ [v0, v1, v2, v3] (.ref a :: st) = (ab_ob a 4 ∧ ab_rn cl 49 J Q k 15 μ [v0, v1, v2, v3] (ab_fv μ a 0 :: st)) := x_get dX4_meanSnow_12 rfl
theorem e49_15 : ab_rn cl 49 J Q (k + 1) 15 μ [v0, v1, v2, .int x] st = ab_rn cl 49 J Q k 16 μ [v0, v1, v2, .int x] (.int x :: st) := x_iload_n dX4_meanSnow_15 rfl
theorem e49_16 : ab_rn cl 49 J Q (k + 1) 16 μ [v0, v1, v2, v3] (.int x :: .ref a :: st) = ((a < 81 ∧ ab_ak a = 0) ∧ vp_in x (ab_al a) ∧ ab_rn cl 49 J Q k 17 μ [v0, v1, v2, v3] (.int (μ (ab_cmp a) (ab_off a + x.toNatClampNeg)) :: st)) := x_iaload dX4_meanSnow_16
theorem e49_17 : ab_rn cl 49 J Q (k + 1) 17 μ [v0, v1, v2, v3] st = ab_rn cl 49 J Q k 18 μ [v0, v1, v2, v3] (.int (-1) :: st) := x_iconst dX4_meanSnow_17 (by decide)
theorem e49_18 : ab_rn cl 49 J Q (k + 1) 18 μ [v0, v1, v2, v3] (.int y :: .int x :: st) = (((x = y) → ab_rn cl 49 J Q k 33 μ [v0, v1, v2, v3] st) ∧ ((¬ (x = y)) → ab_rn cl 49 J Q k 21 μ [v0, v1, v2, v3] st)) := x_icmpF dX4_meanSnow_18 rfl (fun _ _ _ _ _ => rfl)
theorem e49_21 : ab_rn cl 49 J Q (k + 1) 21 μ [v0, .int x, v2, v3] st = ab_rn cl 49 J Q k 22 μ [v0, .int x, v2, v3] (.int x :: st) := x_iload_n dX4_meanSnow_21 rfl
theorem e49_22 : ab_rn cl 49 J Q (k + 1) 22 μ [.ref a, v1, v2, v3] st = ab_rn cl 49 J Q k 23 μ [.ref a, v1, v2, v3] (.ref a :: st) := x_aload_n dX4_meanSnow_22 rfl
theorem e49_23 : ab_rn cl 49 J Q (k + 1) 23 μ [v0, v1, v2, v3] (.ref a :: st) = (ab_ob a 4 ∧ ab_rn cl 49 J Q k 26 μ [v0, v1, v2, v3] (ab_fv μ a 0 :: st)) := x_get dX4_meanSnow_23 rfl
theorem e49_26 : ab_rn cl 49 J Q (k + 1) 26 μ [v0, v1, v2, .int x] st = ab_rn cl 49 J Q k 27 μ [v0, v1, v2, .int x] (.int x :: st) := x_iload_n dX4_meanSnow_26 rfl
theorem e49_27 : ab_rn cl 49 J Q (k + 1) 27 μ [v0, v1, v2, v3] (.int x :: .ref a :: st) = ((a < 81 ∧ ab_ak a = 0) ∧ vp_in x (ab_al a) ∧ ab_rn cl 49 J Q k 28 μ [v0, v1, v2, v3] (.int (μ (ab_cmp a) (ab_off a + x.toNatClampNeg)) :: st)) := x_iaload dX4_meanSnow_27
theorem e49_28 : ab_rn cl 49 J Q (k + 1) 28 μ [v0, v1, v2, v3] (.int y :: .int x :: st) = ab_rn cl 49 J Q k 29 μ [v0, v1, v2, v3] (.int (x + y) :: st) := x_iadd dX4_meanSnow_28
theorem e49_29 : ab_rn cl 49 J Q (k + 1) 29 μ [v0, v1, v2, v3] (.int x :: st) = ab_rn cl 49 J Q k 30 μ [v0, .int x, v2, v3] st := x_istore_n dX4_meanSnow_29 (Nat.le_of_ble_eq_true rfl) rfl
theorem e49_30 : ab_rn cl 49 J Q (k + 1) 30 μ [v0, v1, .int x, v3] st = ab_rn cl 49 J Q k 33 μ [v0, v1, .int (x + 1), v3] st := x_iinc dX4_meanSnow_30 (w := 1) (by decide) rfl rfl
theorem e49_33 : ab_rn cl 49 J Q (k + 1) 33 μ [v0, v1, v2, .int x] st = ab_rn cl 49 J Q k 36 μ [v0, v1, v2, .int (x + 1)] st := x_iinc dX4_meanSnow_33 (w := 1) (by decide) rfl rfl
theorem e49_36 : ab_rn cl 49 J Q (k + 1) 36 μ [v0, v1, v2, v3] st = J 6 μ [v0, v1, v2, v3] st := x_gotoB dX4_meanSnow_36 (fun _ _ _ _ _ => rfl)
theorem e49_39 : ab_rn cl 49 J Q (k + 1) 39 μ [v0, v1, .int x, v3] st = ab_rn cl 49 J Q k 40 μ [v0, v1, .int x, v3] (.int x :: st) := x_iload_n dX4_meanSnow_39 rfl
theorem e49_40 : ab_rn cl 49 J Q (k + 1) 40 μ [v0, v1, v2, v3] (.int x :: st) = (((¬ x = 0) → ab_rn cl 49 J Q k 47 μ [v0, v1, v2, v3] st) ∧ ((¬ (¬ x = 0)) → ab_rn cl 49 J Q k 43 μ [v0, v1, v2, v3] st)) := x_ifF dX4_meanSnow_40 rfl (fun _ _ _ _ _ => rfl)
theorem e49_43 : ab_rn cl 49 J Q (k + 1) 43 μ [v0, v1, v2, v3] st = ab_rn cl 49 J Q k 44 μ [v0, v1, v2, v3] (.int 0 :: st) := x_iconst dX4_meanSnow_43 (by decide)
theorem e49_44 : ab_rn cl 49 J Q (k + 1) 44 μ [v0, v1, v2, v3] st = ab_rn cl 49 J Q k 50 μ [v0, v1, v2, v3] st := x_gotoF dX4_meanSnow_44 (fun _ _ _ _ _ => rfl)
theorem e49_47 : ab_rn cl 49 J Q (k + 1) 47 μ [v0, .int x, v2, v3] st = ab_rn cl 49 J Q k 48 μ [v0, .int x, v2, v3] (.int x :: st) := x_iload_n dX4_meanSnow_47 rfl
theorem e49_48 : ab_rn cl 49 J Q (k + 1) 48 μ [v0, v1, .int x, v3] st = ab_rn cl 49 J Q k 49 μ [v0, v1, .int x, v3] (.int x :: st) := x_iload_n dX4_meanSnow_48 rfl
theorem e49_49 : ab_rn cl 49 J Q (k + 1) 49 μ [v0, v1, v2, v3] (.int y :: .int x :: st) = ((¬ y = 0) ∧ ab_rn cl 49 J Q k 50 μ [v0, v1, v2, v3] (.int (x / y) :: st)) := x_idiv dX4_meanSnow_49
theorem e49_50 : ab_rn cl 49 J Q (k + 1) 50 μ [v0, v1, v2, v3] [.int v] = Q (some v) μ := x_iret dX4_meanSnow_50 rfl
theorem n49 {d : Nat} (h : ∀ J : ab_J, (∀ k pc μ ls st, ab_rn (ab_Cl d) 49 J Q k pc μ ls st → J pc μ ls st) → J 0 μ [v0, .null, .null, .null] []) : ab_Cl (d + 1) 49 [v0] μ Q := ab_go h
end EV
