section EV
variable {cl : ab_CL} {J : ab_J} {Q : ab_Q} {k : Nat} {μ : ab_M} {st : List Value} {x y v : Int32} {a a0 a1 a2 : Nat} {x0 x1 x2 x3 : Int32} {v0 v1 v2 v3 v4 v5 v6 v7 v8 v9 : Value}
theorem e79_0 : ab_rn cl 79 J Q (k + 1) 0 μ [.int x, v1, v2] st = ab_rn cl 79 J Q k 1 μ [.int x, v1, v2] (.int x :: st) := x_iload_n dX6_in_0 rfl
theorem e79_1 : ab_rn cl 79 J Q (k + 1) 1 μ [v0, .int x, v2] st = ab_rn cl 79 J Q k 2 μ [v0, .int x, v2] (.int x :: st) := x_iload_n dX6_in_1 rfl
theorem e79_2 : ab_rn cl 79 J Q (k + 1) 2 μ [v0, v1, v2] (.int y :: .int x :: st) = (((x < y) → ab_rn cl 79 J Q k 14 μ [v0, v1, v2] st) ∧ ((¬ (x < y)) → ab_rn cl 79 J Q k 5 μ [v0, v1, v2] st)) := x_icmpF dX6_in_2 rfl (fun _ _ _ _ _ => rfl)
theorem e79_5 : ab_rn cl 79 J Q (k + 1) 5 μ [.int x, v1, v2] st = ab_rn cl 79 J Q k 6 μ [.int x, v1, v2] (.int x :: st) := x_iload_n dX6_in_5 rfl
theorem e79_6 : ab_rn cl 79 J Q (k + 1) 6 μ [v0, v1, .int x] st = ab_rn cl 79 J Q k 7 μ [v0, v1, .int x] (.int x :: st) := x_iload_n dX6_in_6 rfl
theorem e79_7 : ab_rn cl 79 J Q (k + 1) 7 μ [v0, v1, v2] (.int y :: .int x :: st) = (((y < x) → ab_rn cl 79 J Q k 14 μ [v0, v1, v2] st) ∧ ((¬ (y < x)) → ab_rn cl 79 J Q k 10 μ [v0, v1, v2] st)) := x_icmpF dX6_in_7 rfl (fun _ _ _ _ _ => rfl)
theorem e79_10 : ab_rn cl 79 J Q (k + 1) 10 μ [v0, v1, v2] st = ab_rn cl 79 J Q k 11 μ [v0, v1, v2] (.int 1 :: st) := x_iconst dX6_in_10 (by decide)
theorem e79_11 : ab_rn cl 79 J Q (k + 1) 11 μ [v0, v1, v2] st = ab_rn cl 79 J Q k 15 μ [v0, v1, v2] st := x_gotoF dX6_in_11 (fun _ _ _ _ _ => rfl)
theorem e79_14 : ab_rn cl 79 J Q (k + 1) 14 μ [v0, v1, v2] st = ab_rn cl 79 J Q k 15 μ [v0, v1, v2] (.int 0 :: st) := x_iconst dX6_in_14 (by decide)
theorem e79_15 : ab_rn cl 79 J Q (k + 1) 15 μ [v0, v1, v2] [.int v] = ((v = 0 ∨ v = 1) ∧ Q (some v) μ) := x_zret dX6_in_15 rfl
theorem n79 {d : Nat} (h : ∀ J : ab_J, (∀ k pc μ ls st, ab_rn (ab_Cl d) 79 J Q k pc μ ls st → J pc μ ls st) → J 0 μ [v0, v1, v2] []) : ab_Cl (d + 1) 79 [v0, v1, v2] μ Q := ab_go h
theorem e80_0 : ab_rn cl 80 J Q (k + 1) 0 μ [.int x] st = ab_rn cl 80 J Q k 1 μ [.int x] (.int x :: st) := x_iload_n dX6_isClass_0 rfl
theorem e80_1 : ab_rn cl 80 J Q (k + 1) 1 μ [v0] st = ab_rn cl 80 J Q k 2 μ [v0] (.int 0 :: st) := x_iconst dX6_isClass_1 (by decide)
theorem e80_2 : ab_rn cl 80 J Q (k + 1) 2 μ [v0] st = ab_rn cl 80 J Q k 4 μ [v0] (.int 11 :: st) := x_bipush dX6_isClass_2 (by decide)
theorem e80_4 : ab_rn cl 80 J Q (k + 1) 4 μ [v0] (.int x2 :: .int x1 :: .int x0 :: st) = (st.length ≤ 4 ∧ cl 79 [.int x0, .int x1, .int x2] μ (fun r μ' => ab_rn cl 80 J Q k 7 μ' [v0] (ab_pu r st))) := x_s (as := [.int x0, .int x1, .int x2]) (b := 0) dX6_isClass_4 rfl (by decide) rfl rfl rfl
theorem e80_7 : ab_rn cl 80 J Q (k + 1) 7 μ [v0] [.int v] = ((v = 0 ∨ v = 1) ∧ Q (some v) μ) := x_zret dX6_isClass_7 rfl
theorem n80 {d : Nat} (h : ∀ J : ab_J, (∀ k pc μ ls st, ab_rn (ab_Cl d) 80 J Q k pc μ ls st → J pc μ ls st) → J 0 μ [v0] []) : ab_Cl (d + 1) 80 [v0] μ Q := ab_go h
theorem e81_0 : ab_rn cl 81 J Q (k + 1) 0 μ [v0, .int x, v2] st = ab_rn cl 81 J Q k 1 μ [v0, .int x, v2] (.int x :: st) := x_iload_n dX6_snow_0 rfl
theorem e81_1 : ab_rn cl 81 J Q (k + 1) 1 μ [v0, v1, v2] st = ab_rn cl 81 J Q k 2 μ [v0, v1, v2] (.int 0 :: st) := x_iconst dX6_snow_1 (by decide)
theorem e81_2 : ab_rn cl 81 J Q (k + 1) 2 μ [v0, v1, v2] st = ab_rn cl 81 J Q k 3 μ [v0, v1, v2] (.int 2 :: st) := x_iconst dX6_snow_2 (by decide)
theorem e81_3 : ab_rn cl 81 J Q (k + 1) 3 μ [v0, v1, v2] (.int x2 :: .int x1 :: .int x0 :: st) = (st.length ≤ 4 ∧ cl 79 [.int x0, .int x1, .int x2] μ (fun r μ' => ab_rn cl 81 J Q k 6 μ' [v0, v1, v2] (ab_pu r st))) := x_s (as := [.int x0, .int x1, .int x2]) (b := 0) dX6_snow_3 rfl (by decide) rfl rfl rfl
theorem e81_6 : ab_rn cl 81 J Q (k + 1) 6 μ [v0, v1, v2] (.int x :: st) = (((x = 0) → ab_rn cl 81 J Q k 30 μ [v0, v1, v2] st) ∧ ((¬ (x = 0)) → ab_rn cl 81 J Q k 9 μ [v0, v1, v2] st)) := x_ifF dX6_snow_6 rfl (fun _ _ _ _ _ => rfl)
theorem e81_9 : ab_rn cl 81 J Q (k + 1) 9 μ [v0, v1, .int x] st = ab_rn cl 81 J Q k 10 μ [v0, v1, .int x] (.int x :: st) := x_iload_n dX6_snow_9 rfl
theorem e81_10 : ab_rn cl 81 J Q (k + 1) 10 μ [v0, v1, v2] st = ab_rn cl 81 J Q k 11 μ [v0, v1, v2] (.int (-1) :: st) := x_iconst dX6_snow_10 (by decide)
theorem e81_11 : ab_rn cl 81 J Q (k + 1) 11 μ [v0, v1, v2] st = ab_rn cl 81 J Q k 14 μ [v0, v1, v2] (.int 200 :: st) := x_sipush dX6_snow_11 (by decide)
theorem e81_14 : ab_rn cl 81 J Q (k + 1) 14 μ [v0, v1, v2] (.int x2 :: .int x1 :: .int x0 :: st) = (st.length ≤ 4 ∧ cl 79 [.int x0, .int x1, .int x2] μ (fun r μ' => ab_rn cl 81 J Q k 17 μ' [v0, v1, v2] (ab_pu r st))) := x_s (as := [.int x0, .int x1, .int x2]) (b := 0) dX6_snow_14 rfl (by decide) rfl rfl rfl
theorem e81_17 : ab_rn cl 81 J Q (k + 1) 17 μ [v0, v1, v2] (.int x :: st) = (((x = 0) → ab_rn cl 81 J Q k 30 μ [v0, v1, v2] st) ∧ ((¬ (x = 0)) → ab_rn cl 81 J Q k 20 μ [v0, v1, v2] st)) := x_ifF dX6_snow_17 rfl (fun _ _ _ _ _ => rfl)
theorem e81_20 : ab_rn cl 81 J Q (k + 1) 20 μ [.ref a, v1, v2] st = ab_rn cl 81 J Q k 21 μ [.ref a, v1, v2] (.ref a :: st) := x_aload_n dX6_snow_20 rfl
theorem e81_21 : ab_rn cl 81 J Q (k + 1) 21 μ [v0, v1, v2] (.ref a :: st) = (ab_ob a 6 ∧ ab_rn cl 81 J Q k 24 μ [v0, v1, v2] (ab_fv μ a 0 :: st)) := x_get dX6_snow_21 rfl
theorem e81_24 : ab_rn cl 81 J Q (k + 1) 24 μ [v0, v1, v2] st = ab_rn cl 81 J Q k 27 μ [v0, v1, v2] (.int 400 :: st) := x_sipush dX6_snow_24 (by decide)
theorem e81_27 : ab_rn cl 81 J Q (k + 1) 27 μ [v0, v1, v2] (.int y :: .int x :: st) = (((¬ x = y) → ab_rn cl 81 J Q k 32 μ [v0, v1, v2] st) ∧ ((¬ (¬ x = y)) → ab_rn cl 81 J Q k 30 μ [v0, v1, v2] st)) := x_icmpF dX6_snow_27 rfl (fun _ _ _ _ _ => rfl)
theorem e81_30 : ab_rn cl 81 J Q (k + 1) 30 μ [v0, v1, v2] st = ab_rn cl 81 J Q k 31 μ [v0, v1, v2] (.int 0 :: st) := x_iconst dX6_snow_30 (by decide)
theorem e81_31 : ab_rn cl 81 J Q (k + 1) 31 μ [v0, v1, v2] [.int v] = ((v = 0 ∨ v = 1) ∧ Q (some v) μ) := x_zret dX6_snow_31 rfl
theorem e81_32 : ab_rn cl 81 J Q (k + 1) 32 μ [.ref a, v1, v2] st = ab_rn cl 81 J Q k 33 μ [.ref a, v1, v2] (.ref a :: st) := x_aload_n dX6_snow_32 rfl
theorem e81_33 : ab_rn cl 81 J Q (k + 1) 33 μ [v0, v1, v2] (.ref a :: st) = (ab_ob a 6 ∧ ab_rn cl 81 J Q k 36 μ [v0, v1, v2] (ab_fv μ a 5 :: st)) := x_get dX6_snow_33 rfl
theorem e81_36 : ab_rn cl 81 J Q (k + 1) 36 μ [v0, .int x, v2] st = ab_rn cl 81 J Q k 37 μ [v0, .int x, v2] (.int x :: st) := x_iload_n dX6_snow_36 rfl
theorem e81_37 : ab_rn cl 81 J Q (k + 1) 37 μ [v0, v1, .int x] st = ab_rn cl 81 J Q k 38 μ [v0, v1, .int x] (.int x :: st) := x_iload_n dX6_snow_37 rfl
theorem e81_38 : ab_rn cl 81 J Q (k + 1) 38 μ [v0, v1, v2] (.int v :: .int x :: .ref a :: st) = ((a < 81 ∧ ab_ak a = 0) ∧ vp_in x (ab_al a) ∧ ab_rn cl 81 J Q k 39 (ab_up μ (ab_cmp a) (ab_off a + x.toNatClampNeg) v) [v0, v1, v2] st) := x_iastore dX6_snow_38
theorem e81_39 : ab_rn cl 81 J Q (k + 1) 39 μ [v0, v1, v2] st = ab_rn cl 81 J Q k 40 μ [v0, v1, v2] (.int 1 :: st) := x_iconst dX6_snow_39 (by decide)
theorem e81_40 : ab_rn cl 81 J Q (k + 1) 40 μ [v0, v1, v2] [.int v] = ((v = 0 ∨ v = 1) ∧ Q (some v) μ) := x_zret dX6_snow_40 rfl
theorem n81 {d : Nat} (h : ∀ J : ab_J, (∀ k pc μ ls st, ab_rn (ab_Cl d) 81 J Q k pc μ ls st → J pc μ ls st) → J 0 μ [v0, v1, v2] []) : ab_Cl (d + 1) 81 [v0, v1, v2] μ Q := ab_go h
theorem e82_0 : ab_rn cl 82 J Q (k + 1) 0 μ [v0, .int x, v2] st = ab_rn cl 82 J Q k 1 μ [v0, .int x, v2] (.int x :: st) := x_iload_n dX6_warmth_0 rfl
theorem e82_1 : ab_rn cl 82 J Q (k + 1) 1 μ [v0, v1, v2] st = ab_rn cl 82 J Q k 2 μ [v0, v1, v2] (.int 0 :: st) := x_iconst dX6_warmth_1 (by decide)
theorem e82_2 : ab_rn cl 82 J Q (k + 1) 2 μ [v0, v1, v2] st = ab_rn cl 82 J Q k 3 μ [v0, v1, v2] (.int 2 :: st) := x_iconst dX6_warmth_2 (by decide)
theorem e82_3 : ab_rn cl 82 J Q (k + 1) 3 μ [v0, v1, v2] (.int x2 :: .int x1 :: .int x0 :: st) = (st.length ≤ 4 ∧ cl 79 [.int x0, .int x1, .int x2] μ (fun r μ' => ab_rn cl 82 J Q k 6 μ' [v0, v1, v2] (ab_pu r st))) := x_s (as := [.int x0, .int x1, .int x2]) (b := 0) dX6_warmth_3 rfl (by decide) rfl rfl rfl
theorem e82_6 : ab_rn cl 82 J Q (k + 1) 6 μ [v0, v1, v2] (.int x :: st) = (((x = 0) → ab_rn cl 82 J Q k 36 μ [v0, v1, v2] st) ∧ ((¬ (x = 0)) → ab_rn cl 82 J Q k 9 μ [v0, v1, v2] st)) := x_ifF dX6_warmth_6 rfl (fun _ _ _ _ _ => rfl)
theorem e82_9 : ab_rn cl 82 J Q (k + 1) 9 μ [v0, v1, .int x] st = ab_rn cl 82 J Q k 10 μ [v0, v1, .int x] (.int x :: st) := x_iload_n dX6_warmth_9 rfl
theorem e82_10 : ab_rn cl 82 J Q (k + 1) 10 μ [v0, v1, v2] st = ab_rn cl 82 J Q k 12 μ [v0, v1, v2] (.int (-100) :: st) := x_bipush dX6_warmth_10 (by decide)
theorem e82_12 : ab_rn cl 82 J Q (k + 1) 12 μ [v0, v1, v2] (.int y :: .int x :: st) = (((x = y) → ab_rn cl 82 J Q k 26 μ [v0, v1, v2] st) ∧ ((¬ (x = y)) → ab_rn cl 82 J Q k 15 μ [v0, v1, v2] st)) := x_icmpF dX6_warmth_12 rfl (fun _ _ _ _ _ => rfl)
theorem e82_15 : ab_rn cl 82 J Q (k + 1) 15 μ [v0, v1, .int x] st = ab_rn cl 82 J Q k 16 μ [v0, v1, .int x] (.int x :: st) := x_iload_n dX6_warmth_15 rfl
theorem e82_16 : ab_rn cl 82 J Q (k + 1) 16 μ [v0, v1, v2] st = ab_rn cl 82 J Q k 18 μ [v0, v1, v2] (.int (-30) :: st) := x_bipush dX6_warmth_16 (by decide)
theorem e82_18 : ab_rn cl 82 J Q (k + 1) 18 μ [v0, v1, v2] st = ab_rn cl 82 J Q k 20 μ [v0, v1, v2] (.int 10 :: st) := x_bipush dX6_warmth_18 (by decide)
theorem e82_20 : ab_rn cl 82 J Q (k + 1) 20 μ [v0, v1, v2] (.int x2 :: .int x1 :: .int x0 :: st) = (st.length ≤ 4 ∧ cl 79 [.int x0, .int x1, .int x2] μ (fun r μ' => ab_rn cl 82 J Q k 23 μ' [v0, v1, v2] (ab_pu r st))) := x_s (as := [.int x0, .int x1, .int x2]) (b := 0) dX6_warmth_20 rfl (by decide) rfl rfl rfl
theorem e82_23 : ab_rn cl 82 J Q (k + 1) 23 μ [v0, v1, v2] (.int x :: st) = (((x = 0) → ab_rn cl 82 J Q k 36 μ [v0, v1, v2] st) ∧ ((¬ (x = 0)) → ab_rn cl 82 J Q k 26 μ [v0, v1, v2] st)) := x_ifF dX6_warmth_23 rfl (fun _ _ _ _ _ => rfl)
theorem e82_26 : ab_rn cl 82 J Q (k + 1) 26 μ [.ref a, v1, v2] st = ab_rn cl 82 J Q k 27 μ [.ref a, v1, v2] (.ref a :: st) := x_aload_n dX6_warmth_26 rfl
theorem e82_27 : ab_rn cl 82 J Q (k + 1) 27 μ [v0, v1, v2] (.ref a :: st) = (ab_ob a 6 ∧ ab_rn cl 82 J Q k 30 μ [v0, v1, v2] (ab_fv μ a 0 :: st)) := x_get dX6_warmth_27 rfl
theorem e82_30 : ab_rn cl 82 J Q (k + 1) 30 μ [v0, v1, v2] st = ab_rn cl 82 J Q k 33 μ [v0, v1, v2] (.int 400 :: st) := x_sipush dX6_warmth_30 (by decide)
theorem e82_33 : ab_rn cl 82 J Q (k + 1) 33 μ [v0, v1, v2] (.int y :: .int x :: st) = (((¬ x = y) → ab_rn cl 82 J Q k 38 μ [v0, v1, v2] st) ∧ ((¬ (¬ x = y)) → ab_rn cl 82 J Q k 36 μ [v0, v1, v2] st)) := x_icmpF dX6_warmth_33 rfl (fun _ _ _ _ _ => rfl)
theorem e82_36 : ab_rn cl 82 J Q (k + 1) 36 μ [v0, v1, v2] st = ab_rn cl 82 J Q k 37 μ [v0, v1, v2] (.int 0 :: st) := x_iconst dX6_warmth_36 (by decide)
theorem e82_37 : ab_rn cl 82 J Q (k + 1) 37 μ [v0, v1, v2] [.int v] = ((v = 0 ∨ v = 1) ∧ Q (some v) μ) := x_zret dX6_warmth_37 rfl
theorem e82_38 : ab_rn cl 82 J Q (k + 1) 38 μ [.ref a, v1, v2] st = ab_rn cl 82 J Q k 39 μ [.ref a, v1, v2] (.ref a :: st) := x_aload_n dX6_warmth_38 rfl
theorem e82_39 : ab_rn cl 82 J Q (k + 1) 39 μ [v0, v1, v2] (.ref a :: st) = (ab_ob a 6 ∧ ab_rn cl 82 J Q k 42 μ [v0, v1, v2] (ab_fv μ a 6 :: st)) := x_get dX6_warmth_39 rfl
theorem e82_42 : ab_rn cl 82 J Q (k + 1) 42 μ [v0, .int x, v2] st = ab_rn cl 82 J Q k 43 μ [v0, .int x, v2] (.int x :: st) := x_iload_n dX6_warmth_42 rfl
theorem e82_43 : ab_rn cl 82 J Q (k + 1) 43 μ [v0, v1, .int x] st = ab_rn cl 82 J Q k 44 μ [v0, v1, .int x] (.int x :: st) := x_iload_n dX6_warmth_43 rfl
theorem e82_44 : ab_rn cl 82 J Q (k + 1) 44 μ [v0, v1, v2] (.int v :: .int x :: .ref a :: st) = ((a < 81 ∧ ab_ak a = 0) ∧ vp_in x (ab_al a) ∧ ab_rn cl 82 J Q k 45 (ab_up μ (ab_cmp a) (ab_off a + x.toNatClampNeg) v) [v0, v1, v2] st) := x_iastore dX6_warmth_44
theorem e82_45 : ab_rn cl 82 J Q (k + 1) 45 μ [v0, v1, v2] st = ab_rn cl 82 J Q k 46 μ [v0, v1, v2] (.int 1 :: st) := x_iconst dX6_warmth_45 (by decide)
theorem e82_46 : ab_rn cl 82 J Q (k + 1) 46 μ [v0, v1, v2] [.int v] = ((v = 0 ∨ v = 1) ∧ Q (some v) μ) := x_zret dX6_warmth_46 rfl
theorem n82 {d : Nat} (h : ∀ J : ab_J, (∀ k pc μ ls st, ab_rn (ab_Cl d) 82 J Q k pc μ ls st → J pc μ ls st) → J 0 μ [v0, v1, v2] []) : ab_Cl (d + 1) 82 [v0, v1, v2] μ Q := ab_go h
theorem e83_0 : ab_rn cl 83 J Q (k + 1) 0 μ [v0, .int x, v2] st = ab_rn cl 83 J Q k 1 μ [v0, .int x, v2] (.int x :: st) := x_iload_n dX6_wind_0 rfl
theorem e83_1 : ab_rn cl 83 J Q (k + 1) 1 μ [v0, v1, v2] st = ab_rn cl 83 J Q k 2 μ [v0, v1, v2] (.int 0 :: st) := x_iconst dX6_wind_1 (by decide)
theorem e83_2 : ab_rn cl 83 J Q (k + 1) 2 μ [v0, v1, v2] st = ab_rn cl 83 J Q k 3 μ [v0, v1, v2] (.int 3 :: st) := x_iconst dX6_wind_2 (by decide)
theorem e83_3 : ab_rn cl 83 J Q (k + 1) 3 μ [v0, v1, v2] (.int x2 :: .int x1 :: .int x0 :: st) = (st.length ≤ 4 ∧ cl 79 [.int x0, .int x1, .int x2] μ (fun r μ' => ab_rn cl 83 J Q k 6 μ' [v0, v1, v2] (ab_pu r st))) := x_s (as := [.int x0, .int x1, .int x2]) (b := 0) dX6_wind_3 rfl (by decide) rfl rfl rfl
theorem e83_6 : ab_rn cl 83 J Q (k + 1) 6 μ [v0, v1, v2] (.int x :: st) = (((x = 0) → ab_rn cl 83 J Q k 29 μ [v0, v1, v2] st) ∧ ((¬ (x = 0)) → ab_rn cl 83 J Q k 9 μ [v0, v1, v2] st)) := x_ifF dX6_wind_6 rfl (fun _ _ _ _ _ => rfl)
theorem e83_9 : ab_rn cl 83 J Q (k + 1) 9 μ [v0, v1, .int x] st = ab_rn cl 83 J Q k 10 μ [v0, v1, .int x] (.int x :: st) := x_iload_n dX6_wind_9 rfl
theorem e83_10 : ab_rn cl 83 J Q (k + 1) 10 μ [v0, v1, v2] st = ab_rn cl 83 J Q k 11 μ [v0, v1, v2] (.int 0 :: st) := x_iconst dX6_wind_10 (by decide)
theorem e83_11 : ab_rn cl 83 J Q (k + 1) 11 μ [v0, v1, v2] st = ab_rn cl 83 J Q k 13 μ [v0, v1, v2] (.int 9 :: st) := x_bipush dX6_wind_11 (by decide)
theorem e83_13 : ab_rn cl 83 J Q (k + 1) 13 μ [v0, v1, v2] (.int x2 :: .int x1 :: .int x0 :: st) = (st.length ≤ 4 ∧ cl 79 [.int x0, .int x1, .int x2] μ (fun r μ' => ab_rn cl 83 J Q k 16 μ' [v0, v1, v2] (ab_pu r st))) := x_s (as := [.int x0, .int x1, .int x2]) (b := 0) dX6_wind_13 rfl (by decide) rfl rfl rfl
theorem e83_16 : ab_rn cl 83 J Q (k + 1) 16 μ [v0, v1, v2] (.int x :: st) = (((x = 0) → ab_rn cl 83 J Q k 29 μ [v0, v1, v2] st) ∧ ((¬ (x = 0)) → ab_rn cl 83 J Q k 19 μ [v0, v1, v2] st)) := x_ifF dX6_wind_16 rfl (fun _ _ _ _ _ => rfl)
theorem e83_19 : ab_rn cl 83 J Q (k + 1) 19 μ [.ref a, v1, v2] st = ab_rn cl 83 J Q k 20 μ [.ref a, v1, v2] (.ref a :: st) := x_aload_n dX6_wind_19 rfl
theorem e83_20 : ab_rn cl 83 J Q (k + 1) 20 μ [v0, v1, v2] (.ref a :: st) = (ab_ob a 6 ∧ ab_rn cl 83 J Q k 23 μ [v0, v1, v2] (ab_fv μ a 0 :: st)) := x_get dX6_wind_20 rfl
theorem e83_23 : ab_rn cl 83 J Q (k + 1) 23 μ [v0, v1, v2] st = ab_rn cl 83 J Q k 26 μ [v0, v1, v2] (.int 400 :: st) := x_sipush dX6_wind_23 (by decide)
theorem e83_26 : ab_rn cl 83 J Q (k + 1) 26 μ [v0, v1, v2] (.int y :: .int x :: st) = (((¬ x = y) → ab_rn cl 83 J Q k 31 μ [v0, v1, v2] st) ∧ ((¬ (¬ x = y)) → ab_rn cl 83 J Q k 29 μ [v0, v1, v2] st)) := x_icmpF dX6_wind_26 rfl (fun _ _ _ _ _ => rfl)
theorem e83_29 : ab_rn cl 83 J Q (k + 1) 29 μ [v0, v1, v2] st = ab_rn cl 83 J Q k 30 μ [v0, v1, v2] (.int 0 :: st) := x_iconst dX6_wind_29 (by decide)
theorem e83_30 : ab_rn cl 83 J Q (k + 1) 30 μ [v0, v1, v2] [.int v] = ((v = 0 ∨ v = 1) ∧ Q (some v) μ) := x_zret dX6_wind_30 rfl
theorem e83_31 : ab_rn cl 83 J Q (k + 1) 31 μ [.ref a, v1, v2] st = ab_rn cl 83 J Q k 32 μ [.ref a, v1, v2] (.ref a :: st) := x_aload_n dX6_wind_31 rfl
theorem e83_32 : ab_rn cl 83 J Q (k + 1) 32 μ [v0, .int x, v2] st = ab_rn cl 83 J Q k 33 μ [v0, .int x, v2] (.int x :: st) := x_iload_n dX6_wind_32 rfl
theorem e83_33 : ab_rn cl 83 J Q (k + 1) 33 μ [v0, v1, v2] (.int v :: .ref a :: st) = (ab_ob a 6 ∧ ab_rf a 8 = none ∧ ab_rn cl 83 J Q k 36 (ab_up μ (ab_cmp a) (ab_off a + 8) v) [v0, v1, v2] st) := x_put dX6_wind_33 rfl
theorem e83_36 : ab_rn cl 83 J Q (k + 1) 36 μ [.ref a, v1, v2] st = ab_rn cl 83 J Q k 37 μ [.ref a, v1, v2] (.ref a :: st) := x_aload_n dX6_wind_36 rfl
theorem e83_37 : ab_rn cl 83 J Q (k + 1) 37 μ [v0, v1, .int x] st = ab_rn cl 83 J Q k 38 μ [v0, v1, .int x] (.int x :: st) := x_iload_n dX6_wind_37 rfl
theorem e83_38 : ab_rn cl 83 J Q (k + 1) 38 μ [v0, v1, v2] (.int v :: .ref a :: st) = (ab_ob a 6 ∧ ab_rf a 9 = none ∧ ab_rn cl 83 J Q k 41 (ab_up μ (ab_cmp a) (ab_off a + 9) v) [v0, v1, v2] st) := x_put dX6_wind_38 rfl
theorem e83_41 : ab_rn cl 83 J Q (k + 1) 41 μ [v0, v1, v2] st = ab_rn cl 83 J Q k 42 μ [v0, v1, v2] (.int 1 :: st) := x_iconst dX6_wind_41 (by decide)
theorem e83_42 : ab_rn cl 83 J Q (k + 1) 42 μ [v0, v1, v2] [.int v] = ((v = 0 ∨ v = 1) ∧ Q (some v) μ) := x_zret dX6_wind_42 rfl
theorem n83 {d : Nat} (h : ∀ J : ab_J, (∀ k pc μ ls st, ab_rn (ab_Cl d) 83 J Q k pc μ ls st → J pc μ ls st) → J 0 μ [v0, v1, v2] []) : ab_Cl (d + 1) 83 [v0, v1, v2] μ Q := ab_go h
theorem e84_0 : ab_rn cl 84 J Q (k + 1) 0 μ [v0, v1, v2, v3, v4] st = ab_rn cl 84 J Q k 2 μ [v0, v1, v2, v3, v4] (.int 10 :: st) := x_bipush dX6_falls_0 (by decide)
theorem e84_2 : ab_rn cl 84 J Q (k + 1) 2 μ [v0, .int x, v2, v3, v4] st = ab_rn cl 84 J Q k 3 μ [v0, .int x, v2, v3, v4] (.int x :: st) := x_iload_n dX6_falls_2 rfl
theorem e84_3 : ab_rn cl 84 J Q (k + 1) 3 μ [v0, v1, v2, v3, v4] (.int y :: .int x :: st) = ab_rn cl 84 J Q k 4 μ [v0, v1, v2, v3, v4] (.int (x * y) :: st) := x_imul dX6_falls_3
theorem e84_4 : ab_rn cl 84 J Q (k + 1) 4 μ [v0, v1, v2, v3, v4] (.int x :: st) = ab_rn cl 84 J Q k 5 μ [v0, v1, v2, .int x, v4] st := x_istore_n dX6_falls_4 (Nat.le_of_ble_eq_true rfl) rfl
theorem e84_5 : ab_rn cl 84 J Q (k + 1) 5 μ [.ref a, v1, v2, v3, v4] st = ab_rn cl 84 J Q k 6 μ [.ref a, v1, v2, v3, v4] (.ref a :: st) := x_aload_n dX6_falls_5 rfl
theorem e84_6 : ab_rn cl 84 J Q (k + 1) 6 μ [v0, v1, v2, v3, v4] (.ref a :: st) = (ab_ob a 6 ∧ ab_rn cl 84 J Q k 9 μ [v0, v1, v2, v3, v4] (ab_fv μ a 1 :: st)) := x_get dX6_falls_6 rfl
theorem e84_9 : ab_rn cl 84 J Q (k + 1) 9 μ [v0, .int x, v2, v3, v4] st = ab_rn cl 84 J Q k 10 μ [v0, .int x, v2, v3, v4] (.int x :: st) := x_iload_n dX6_falls_9 rfl
theorem e84_10 : ab_rn cl 84 J Q (k + 1) 10 μ [v0, v1, v2, v3, v4] (.int x :: .ref a :: st) = ((a < 81 ∧ ab_ak a = 0) ∧ vp_in x (ab_al a) ∧ ab_rn cl 84 J Q k 11 μ [v0, v1, v2, v3, v4] (.int (μ (ab_cmp a) (ab_off a + x.toNatClampNeg)) :: st)) := x_iaload dX6_falls_10
theorem e84_11 : ab_rn cl 84 J Q (k + 1) 11 μ [v0, v1, v2, v3, v4] st = ab_rn cl 84 J Q k 13 μ [v0, v1, v2, v3, v4] (.int 10 :: st) := x_bipush dX6_falls_11 (by decide)
theorem e84_13 : ab_rn cl 84 J Q (k + 1) 13 μ [v0, v1, v2, v3, v4] (.int y :: .int x :: st) = (((¬ x = y) → ab_rn cl 84 J Q k 152 μ [v0, v1, v2, v3, v4] st) ∧ ((¬ (¬ x = y)) → ab_rn cl 84 J Q k 16 μ [v0, v1, v2, v3, v4] st)) := x_icmpF dX6_falls_13 rfl (fun _ _ _ _ _ => rfl)
theorem e84_16 : ab_rn cl 84 J Q (k + 1) 16 μ [.ref a, v1, v2, v3, v4] st = ab_rn cl 84 J Q k 17 μ [.ref a, v1, v2, v3, v4] (.ref a :: st) := x_aload_n dX6_falls_16 rfl
theorem e84_17 : ab_rn cl 84 J Q (k + 1) 17 μ [v0, v1, v2, v3, v4] (.ref a :: st) = (ab_ob a 6 ∧ ab_rn cl 84 J Q k 20 μ [v0, v1, v2, v3, v4] (ab_fv μ a 3 :: st)) := x_get dX6_falls_17 rfl
theorem e84_20 : ab_rn cl 84 J Q (k + 1) 20 μ [v0, v1, v2, .int x, v4] st = ab_rn cl 84 J Q k 21 μ [v0, v1, v2, .int x, v4] (.int x :: st) := x_iload_n dX6_falls_20 rfl
theorem e84_21 : ab_rn cl 84 J Q (k + 1) 21 μ [v0, v1, v2, v3, v4] st = ab_rn cl 84 J Q k 22 μ [v0, v1, v2, v3, v4] (.int 1 :: st) := x_iconst dX6_falls_21 (by decide)
theorem e84_22 : ab_rn cl 84 J Q (k + 1) 22 μ [v0, v1, v2, v3, v4] (.int y :: .int x :: st) = ab_rn cl 84 J Q k 23 μ [v0, v1, v2, v3, v4] (.int (x + y) :: st) := x_iadd dX6_falls_22
theorem e84_23 : ab_rn cl 84 J Q (k + 1) 23 μ [v0, v1, v2, v3, v4] (.int x :: .ref a :: st) = ab_rn cl 84 J Q k 24 μ [v0, v1, v2, v3, v4] (.int x :: .ref a :: .int x :: .ref a :: st) := x_dup2 dX6_falls_23
theorem e84_24 : ab_rn cl 84 J Q (k + 1) 24 μ [v0, v1, v2, v3, v4] (.int x :: .ref a :: st) = ((a < 81 ∧ ab_ak a = 0) ∧ vp_in x (ab_al a) ∧ ab_rn cl 84 J Q k 25 μ [v0, v1, v2, v3, v4] (.int (μ (ab_cmp a) (ab_off a + x.toNatClampNeg)) :: st)) := x_iaload dX6_falls_24
theorem e84_25 : ab_rn cl 84 J Q (k + 1) 25 μ [.ref a, v1, v2, v3, v4] st = ab_rn cl 84 J Q k 26 μ [.ref a, v1, v2, v3, v4] (.ref a :: st) := x_aload_n dX6_falls_25 rfl
theorem e84_26 : ab_rn cl 84 J Q (k + 1) 26 μ [v0, v1, v2, v3, v4] (.ref a :: st) = (ab_ob a 6 ∧ ab_rn cl 84 J Q k 29 μ [v0, v1, v2, v3, v4] (ab_fv μ a 3 :: st)) := x_get dX6_falls_26 rfl
theorem e84_29 : ab_rn cl 84 J Q (k + 1) 29 μ [v0, v1, v2, .int x, v4] st = ab_rn cl 84 J Q k 30 μ [v0, v1, v2, .int x, v4] (.int x :: st) := x_iload_n dX6_falls_29 rfl
theorem e84_30 : ab_rn cl 84 J Q (k + 1) 30 μ [v0, v1, v2, v3, v4] (.int x :: .ref a :: st) = ((a < 81 ∧ ab_ak a = 0) ∧ vp_in x (ab_al a) ∧ ab_rn cl 84 J Q k 31 μ [v0, v1, v2, v3, v4] (.int (μ (ab_cmp a) (ab_off a + x.toNatClampNeg)) :: st)) := x_iaload dX6_falls_30
theorem e84_31 : ab_rn cl 84 J Q (k + 1) 31 μ [v0, v1, v2, v3, v4] (.int y :: .int x :: st) = ab_rn cl 84 J Q k 32 μ [v0, v1, v2, v3, v4] (.int (x + y) :: st) := x_iadd dX6_falls_31
theorem e84_32 : ab_rn cl 84 J Q (k + 1) 32 μ [v0, v1, v2, v3, v4] (.int v :: .int x :: .ref a :: st) = ((a < 81 ∧ ab_ak a = 0) ∧ vp_in x (ab_al a) ∧ ab_rn cl 84 J Q k 33 (ab_up μ (ab_cmp a) (ab_off a + x.toNatClampNeg) v) [v0, v1, v2, v3, v4] st) := x_iastore dX6_falls_32
theorem e84_33 : ab_rn cl 84 J Q (k + 1) 33 μ [.ref a, v1, v2, v3, v4] st = ab_rn cl 84 J Q k 34 μ [.ref a, v1, v2, v3, v4] (.ref a :: st) := x_aload_n dX6_falls_33 rfl
theorem e84_34 : ab_rn cl 84 J Q (k + 1) 34 μ [v0, v1, v2, v3, v4] (.ref a :: st) = (ab_ob a 6 ∧ ab_rn cl 84 J Q k 37 μ [v0, v1, v2, v3, v4] (ab_fv μ a 4 :: st)) := x_get dX6_falls_34 rfl
theorem e84_37 : ab_rn cl 84 J Q (k + 1) 37 μ [v0, v1, v2, .int x, v4] st = ab_rn cl 84 J Q k 38 μ [v0, v1, v2, .int x, v4] (.int x :: st) := x_iload_n dX6_falls_37 rfl
theorem e84_38 : ab_rn cl 84 J Q (k + 1) 38 μ [v0, v1, v2, v3, v4] (.int x :: .ref a :: st) = ((a < 81 ∧ ab_ak a = 0) ∧ vp_in x (ab_al a) ∧ ab_rn cl 84 J Q k 39 μ [v0, v1, v2, v3, v4] (.int (μ (ab_cmp a) (ab_off a + x.toNatClampNeg)) :: st)) := x_iaload dX6_falls_38
theorem e84_39 : ab_rn cl 84 J Q (k + 1) 39 μ [.ref a, v1, v2, v3, v4] st = ab_rn cl 84 J Q k 40 μ [.ref a, v1, v2, v3, v4] (.ref a :: st) := x_aload_n dX6_falls_39 rfl
theorem e84_40 : ab_rn cl 84 J Q (k + 1) 40 μ [v0, v1, v2, v3, v4] (.ref a :: st) = (ab_ob a 6 ∧ ab_rn cl 84 J Q k 43 μ [v0, v1, v2, v3, v4] (ab_fv μ a 4 :: st)) := x_get dX6_falls_40 rfl
theorem e84_43 : ab_rn cl 84 J Q (k + 1) 43 μ [v0, v1, v2, .int x, v4] st = ab_rn cl 84 J Q k 44 μ [v0, v1, v2, .int x, v4] (.int x :: st) := x_iload_n dX6_falls_43 rfl
theorem e84_44 : ab_rn cl 84 J Q (k + 1) 44 μ [v0, v1, v2, v3, v4] st = ab_rn cl 84 J Q k 45 μ [v0, v1, v2, v3, v4] (.int 1 :: st) := x_iconst dX6_falls_44 (by decide)
theorem e84_45 : ab_rn cl 84 J Q (k + 1) 45 μ [v0, v1, v2, v3, v4] (.int y :: .int x :: st) = ab_rn cl 84 J Q k 46 μ [v0, v1, v2, v3, v4] (.int (x + y) :: st) := x_iadd dX6_falls_45
theorem e84_46 : ab_rn cl 84 J Q (k + 1) 46 μ [v0, v1, v2, v3, v4] (.int x :: .ref a :: st) = ((a < 81 ∧ ab_ak a = 0) ∧ vp_in x (ab_al a) ∧ ab_rn cl 84 J Q k 47 μ [v0, v1, v2, v3, v4] (.int (μ (ab_cmp a) (ab_off a + x.toNatClampNeg)) :: st)) := x_iaload dX6_falls_46
theorem e84_47 : ab_rn cl 84 J Q (k + 1) 47 μ [v0, v1, v2, v3, v4] (.int y :: .int x :: st) = (((x ≤ y) → ab_rn cl 84 J Q k 64 μ [v0, v1, v2, v3, v4] st) ∧ ((¬ (x ≤ y)) → ab_rn cl 84 J Q k 50 μ [v0, v1, v2, v3, v4] st)) := x_icmpF dX6_falls_47 rfl (fun _ _ _ _ _ => rfl)
theorem e84_50 : ab_rn cl 84 J Q (k + 1) 50 μ [.ref a, v1, v2, v3, v4] st = ab_rn cl 84 J Q k 51 μ [.ref a, v1, v2, v3, v4] (.ref a :: st) := x_aload_n dX6_falls_50 rfl
theorem e84_51 : ab_rn cl 84 J Q (k + 1) 51 μ [v0, v1, v2, v3, v4] (.ref a :: st) = (ab_ob a 6 ∧ ab_rn cl 84 J Q k 54 μ [v0, v1, v2, v3, v4] (ab_fv μ a 4 :: st)) := x_get dX6_falls_51 rfl
theorem e84_54 : ab_rn cl 84 J Q (k + 1) 54 μ [v0, v1, v2, .int x, v4] st = ab_rn cl 84 J Q k 55 μ [v0, v1, v2, .int x, v4] (.int x :: st) := x_iload_n dX6_falls_54 rfl
theorem e84_55 : ab_rn cl 84 J Q (k + 1) 55 μ [v0, v1, v2, v3, v4] st = ab_rn cl 84 J Q k 56 μ [v0, v1, v2, v3, v4] (.int 1 :: st) := x_iconst dX6_falls_55 (by decide)
theorem e84_56 : ab_rn cl 84 J Q (k + 1) 56 μ [v0, v1, v2, v3, v4] (.int y :: .int x :: st) = ab_rn cl 84 J Q k 57 μ [v0, v1, v2, v3, v4] (.int (x + y) :: st) := x_iadd dX6_falls_56
theorem e84_57 : ab_rn cl 84 J Q (k + 1) 57 μ [.ref a, v1, v2, v3, v4] st = ab_rn cl 84 J Q k 58 μ [.ref a, v1, v2, v3, v4] (.ref a :: st) := x_aload_n dX6_falls_57 rfl
theorem e84_58 : ab_rn cl 84 J Q (k + 1) 58 μ [v0, v1, v2, v3, v4] (.ref a :: st) = (ab_ob a 6 ∧ ab_rn cl 84 J Q k 61 μ [v0, v1, v2, v3, v4] (ab_fv μ a 4 :: st)) := x_get dX6_falls_58 rfl
theorem e84_61 : ab_rn cl 84 J Q (k + 1) 61 μ [v0, v1, v2, .int x, v4] st = ab_rn cl 84 J Q k 62 μ [v0, v1, v2, .int x, v4] (.int x :: st) := x_iload_n dX6_falls_61 rfl
theorem e84_62 : ab_rn cl 84 J Q (k + 1) 62 μ [v0, v1, v2, v3, v4] (.int x :: .ref a :: st) = ((a < 81 ∧ ab_ak a = 0) ∧ vp_in x (ab_al a) ∧ ab_rn cl 84 J Q k 63 μ [v0, v1, v2, v3, v4] (.int (μ (ab_cmp a) (ab_off a + x.toNatClampNeg)) :: st)) := x_iaload dX6_falls_62
theorem e84_63 : ab_rn cl 84 J Q (k + 1) 63 μ [v0, v1, v2, v3, v4] (.int v :: .int x :: .ref a :: st) = ((a < 81 ∧ ab_ak a = 0) ∧ vp_in x (ab_al a) ∧ ab_rn cl 84 J Q k 64 (ab_up μ (ab_cmp a) (ab_off a + x.toNatClampNeg) v) [v0, v1, v2, v3, v4] st) := x_iastore dX6_falls_63
theorem e84_64 : ab_rn cl 84 J Q (k + 1) 64 μ [v0, v1, v2, v3, v4] st = ab_rn cl 84 J Q k 65 μ [v0, v1, v2, v3, v4] (.int 0 :: st) := x_iconst dX6_falls_64 (by decide)
theorem e84_65 : ab_rn cl 84 J Q (k + 1) 65 μ [v0, v1, v2, v3, v4] (.int x :: st) = ab_rn cl 84 J Q k 67 μ [v0, v1, v2, v3, .int x] st := x_istore dX6_falls_65 (Nat.le_of_ble_eq_true rfl) rfl
theorem e84_67 : ab_rn cl 84 J Q (k + 1) 67 μ [v0, v1, v2, v3, .int x] st = ab_rn cl 84 J Q k 69 μ [v0, v1, v2, v3, .int x] (.int x :: st) := x_iload dX6_falls_67 rfl
theorem e84_69 : ab_rn cl 84 J Q (k + 1) 69 μ [v0, v1, v2, v3, v4] st = ab_rn cl 84 J Q k 70 μ [v0, v1, v2, v3, v4] (.int 1 :: st) := x_iconst dX6_falls_69 (by decide)
theorem e84_70 : ab_rn cl 84 J Q (k + 1) 70 μ [v0, v1, v2, v3, v4] (.int y :: .int x :: st) = ab_rn cl 84 J Q k 71 μ [v0, v1, v2, v3, v4] (.int (x + y) :: st) := x_iadd dX6_falls_70
theorem e84_71 : ab_rn cl 84 J Q (k + 1) 71 μ [v0, v1, v2, v3, v4] st = ab_rn cl 84 J Q k 73 μ [v0, v1, v2, v3, v4] (.int 10 :: st) := x_bipush dX6_falls_71 (by decide)
theorem e84_73 : ab_rn cl 84 J Q (k + 1) 73 μ [v0, v1, v2, v3, v4] (.int y :: .int x :: st) = (((y ≤ x) → ab_rn cl 84 J Q k 142 μ [v0, v1, v2, v3, v4] st) ∧ ((¬ (y ≤ x)) → ab_rn cl 84 J Q k 76 μ [v0, v1, v2, v3, v4] st)) := x_icmpF dX6_falls_73 rfl (fun _ _ _ _ _ => rfl)
theorem e84_76 : ab_rn cl 84 J Q (k + 1) 76 μ [.ref a, v1, v2, v3, v4] st = ab_rn cl 84 J Q k 77 μ [.ref a, v1, v2, v3, v4] (.ref a :: st) := x_aload_n dX6_falls_76 rfl
theorem e84_77 : ab_rn cl 84 J Q (k + 1) 77 μ [v0, v1, v2, v3, v4] (.ref a :: st) = (ab_ob a 6 ∧ ab_rn cl 84 J Q k 80 μ [v0, v1, v2, v3, v4] (ab_fv μ a 2 :: st)) := x_get dX6_falls_77 rfl
theorem e84_80 : ab_rn cl 84 J Q (k + 1) 80 μ [v0, v1, v2, .int x, v4] st = ab_rn cl 84 J Q k 81 μ [v0, v1, v2, .int x, v4] (.int x :: st) := x_iload_n dX6_falls_80 rfl
theorem e84_81 : ab_rn cl 84 J Q (k + 1) 81 μ [v0, v1, v2, v3, .int x] st = ab_rn cl 84 J Q k 83 μ [v0, v1, v2, v3, .int x] (.int x :: st) := x_iload dX6_falls_81 rfl
theorem e84_83 : ab_rn cl 84 J Q (k + 1) 83 μ [v0, v1, v2, v3, v4] (.int y :: .int x :: st) = ab_rn cl 84 J Q k 84 μ [v0, v1, v2, v3, v4] (.int (x + y) :: st) := x_iadd dX6_falls_83
theorem e84_84 : ab_rn cl 84 J Q (k + 1) 84 μ [.ref a, v1, v2, v3, v4] st = ab_rn cl 84 J Q k 85 μ [.ref a, v1, v2, v3, v4] (.ref a :: st) := x_aload_n dX6_falls_84 rfl
theorem e84_85 : ab_rn cl 84 J Q (k + 1) 85 μ [v0, v1, v2, v3, v4] (.ref a :: st) = (ab_ob a 6 ∧ ab_rn cl 84 J Q k 88 μ [v0, v1, v2, v3, v4] (ab_fv μ a 2 :: st)) := x_get dX6_falls_85 rfl
theorem e84_88 : ab_rn cl 84 J Q (k + 1) 88 μ [v0, v1, v2, .int x, v4] st = ab_rn cl 84 J Q k 89 μ [v0, v1, v2, .int x, v4] (.int x :: st) := x_iload_n dX6_falls_88 rfl
theorem e84_89 : ab_rn cl 84 J Q (k + 1) 89 μ [v0, v1, v2, v3, .int x] st = ab_rn cl 84 J Q k 91 μ [v0, v1, v2, v3, .int x] (.int x :: st) := x_iload dX6_falls_89 rfl
theorem e84_91 : ab_rn cl 84 J Q (k + 1) 91 μ [v0, v1, v2, v3, v4] (.int y :: .int x :: st) = ab_rn cl 84 J Q k 92 μ [v0, v1, v2, v3, v4] (.int (x + y) :: st) := x_iadd dX6_falls_91
theorem e84_92 : ab_rn cl 84 J Q (k + 1) 92 μ [v0, v1, v2, v3, v4] st = ab_rn cl 84 J Q k 93 μ [v0, v1, v2, v3, v4] (.int 1 :: st) := x_iconst dX6_falls_92 (by decide)
theorem e84_93 : ab_rn cl 84 J Q (k + 1) 93 μ [v0, v1, v2, v3, v4] (.int y :: .int x :: st) = ab_rn cl 84 J Q k 94 μ [v0, v1, v2, v3, v4] (.int (x + y) :: st) := x_iadd dX6_falls_93
theorem e84_94 : ab_rn cl 84 J Q (k + 1) 94 μ [v0, v1, v2, v3, v4] (.int x :: .ref a :: st) = ((a < 81 ∧ ab_ak a = 0) ∧ vp_in x (ab_al a) ∧ ab_rn cl 84 J Q k 95 μ [v0, v1, v2, v3, v4] (.int (μ (ab_cmp a) (ab_off a + x.toNatClampNeg)) :: st)) := x_iaload dX6_falls_94
theorem e84_95 : ab_rn cl 84 J Q (k + 1) 95 μ [v0, v1, v2, v3, v4] (.int v :: .int x :: .ref a :: st) = ((a < 81 ∧ ab_ak a = 0) ∧ vp_in x (ab_al a) ∧ ab_rn cl 84 J Q k 96 (ab_up μ (ab_cmp a) (ab_off a + x.toNatClampNeg) v) [v0, v1, v2, v3, v4] st) := x_iastore dX6_falls_95
theorem e84_96 : ab_rn cl 84 J Q (k + 1) 96 μ [.ref a, v1, v2, v3, v4] st = ab_rn cl 84 J Q k 97 μ [.ref a, v1, v2, v3, v4] (.ref a :: st) := x_aload_n dX6_falls_96 rfl
theorem e84_97 : ab_rn cl 84 J Q (k + 1) 97 μ [v0, v1, v2, v3, v4] (.ref a :: st) = (ab_ob a 6 ∧ ab_rn cl 84 J Q k 100 μ [v0, v1, v2, v3, v4] (ab_fv μ a 3 :: st)) := x_get dX6_falls_97 rfl
theorem e84_100 : ab_rn cl 84 J Q (k + 1) 100 μ [v0, v1, v2, .int x, v4] st = ab_rn cl 84 J Q k 101 μ [v0, v1, v2, .int x, v4] (.int x :: st) := x_iload_n dX6_falls_100 rfl
theorem e84_101 : ab_rn cl 84 J Q (k + 1) 101 μ [v0, v1, v2, v3, .int x] st = ab_rn cl 84 J Q k 103 μ [v0, v1, v2, v3, .int x] (.int x :: st) := x_iload dX6_falls_101 rfl
theorem e84_103 : ab_rn cl 84 J Q (k + 1) 103 μ [v0, v1, v2, v3, v4] (.int y :: .int x :: st) = ab_rn cl 84 J Q k 104 μ [v0, v1, v2, v3, v4] (.int (x + y) :: st) := x_iadd dX6_falls_103
theorem e84_104 : ab_rn cl 84 J Q (k + 1) 104 μ [.ref a, v1, v2, v3, v4] st = ab_rn cl 84 J Q k 105 μ [.ref a, v1, v2, v3, v4] (.ref a :: st) := x_aload_n dX6_falls_104 rfl
theorem e84_105 : ab_rn cl 84 J Q (k + 1) 105 μ [v0, v1, v2, v3, v4] (.ref a :: st) = (ab_ob a 6 ∧ ab_rn cl 84 J Q k 108 μ [v0, v1, v2, v3, v4] (ab_fv μ a 3 :: st)) := x_get dX6_falls_105 rfl
theorem e84_108 : ab_rn cl 84 J Q (k + 1) 108 μ [v0, v1, v2, .int x, v4] st = ab_rn cl 84 J Q k 109 μ [v0, v1, v2, .int x, v4] (.int x :: st) := x_iload_n dX6_falls_108 rfl
theorem e84_109 : ab_rn cl 84 J Q (k + 1) 109 μ [v0, v1, v2, v3, .int x] st = ab_rn cl 84 J Q k 111 μ [v0, v1, v2, v3, .int x] (.int x :: st) := x_iload dX6_falls_109 rfl
theorem e84_111 : ab_rn cl 84 J Q (k + 1) 111 μ [v0, v1, v2, v3, v4] (.int y :: .int x :: st) = ab_rn cl 84 J Q k 112 μ [v0, v1, v2, v3, v4] (.int (x + y) :: st) := x_iadd dX6_falls_111
theorem e84_112 : ab_rn cl 84 J Q (k + 1) 112 μ [v0, v1, v2, v3, v4] st = ab_rn cl 84 J Q k 113 μ [v0, v1, v2, v3, v4] (.int 1 :: st) := x_iconst dX6_falls_112 (by decide)
theorem e84_113 : ab_rn cl 84 J Q (k + 1) 113 μ [v0, v1, v2, v3, v4] (.int y :: .int x :: st) = ab_rn cl 84 J Q k 114 μ [v0, v1, v2, v3, v4] (.int (x + y) :: st) := x_iadd dX6_falls_113
theorem e84_114 : ab_rn cl 84 J Q (k + 1) 114 μ [v0, v1, v2, v3, v4] (.int x :: .ref a :: st) = ((a < 81 ∧ ab_ak a = 0) ∧ vp_in x (ab_al a) ∧ ab_rn cl 84 J Q k 115 μ [v0, v1, v2, v3, v4] (.int (μ (ab_cmp a) (ab_off a + x.toNatClampNeg)) :: st)) := x_iaload dX6_falls_114
theorem e84_115 : ab_rn cl 84 J Q (k + 1) 115 μ [v0, v1, v2, v3, v4] (.int v :: .int x :: .ref a :: st) = ((a < 81 ∧ ab_ak a = 0) ∧ vp_in x (ab_al a) ∧ ab_rn cl 84 J Q k 116 (ab_up μ (ab_cmp a) (ab_off a + x.toNatClampNeg) v) [v0, v1, v2, v3, v4] st) := x_iastore dX6_falls_115
theorem e84_116 : ab_rn cl 84 J Q (k + 1) 116 μ [.ref a, v1, v2, v3, v4] st = ab_rn cl 84 J Q k 117 μ [.ref a, v1, v2, v3, v4] (.ref a :: st) := x_aload_n dX6_falls_116 rfl
theorem e84_117 : ab_rn cl 84 J Q (k + 1) 117 μ [v0, v1, v2, v3, v4] (.ref a :: st) = (ab_ob a 6 ∧ ab_rn cl 84 J Q k 120 μ [v0, v1, v2, v3, v4] (ab_fv μ a 4 :: st)) := x_get dX6_falls_117 rfl
theorem e84_120 : ab_rn cl 84 J Q (k + 1) 120 μ [v0, v1, v2, .int x, v4] st = ab_rn cl 84 J Q k 121 μ [v0, v1, v2, .int x, v4] (.int x :: st) := x_iload_n dX6_falls_120 rfl
theorem e84_121 : ab_rn cl 84 J Q (k + 1) 121 μ [v0, v1, v2, v3, .int x] st = ab_rn cl 84 J Q k 123 μ [v0, v1, v2, v3, .int x] (.int x :: st) := x_iload dX6_falls_121 rfl
theorem e84_123 : ab_rn cl 84 J Q (k + 1) 123 μ [v0, v1, v2, v3, v4] (.int y :: .int x :: st) = ab_rn cl 84 J Q k 124 μ [v0, v1, v2, v3, v4] (.int (x + y) :: st) := x_iadd dX6_falls_123
theorem e84_124 : ab_rn cl 84 J Q (k + 1) 124 μ [.ref a, v1, v2, v3, v4] st = ab_rn cl 84 J Q k 125 μ [.ref a, v1, v2, v3, v4] (.ref a :: st) := x_aload_n dX6_falls_124 rfl
theorem e84_125 : ab_rn cl 84 J Q (k + 1) 125 μ [v0, v1, v2, v3, v4] (.ref a :: st) = (ab_ob a 6 ∧ ab_rn cl 84 J Q k 128 μ [v0, v1, v2, v3, v4] (ab_fv μ a 4 :: st)) := x_get dX6_falls_125 rfl
theorem e84_128 : ab_rn cl 84 J Q (k + 1) 128 μ [v0, v1, v2, .int x, v4] st = ab_rn cl 84 J Q k 129 μ [v0, v1, v2, .int x, v4] (.int x :: st) := x_iload_n dX6_falls_128 rfl
theorem e84_129 : ab_rn cl 84 J Q (k + 1) 129 μ [v0, v1, v2, v3, .int x] st = ab_rn cl 84 J Q k 131 μ [v0, v1, v2, v3, .int x] (.int x :: st) := x_iload dX6_falls_129 rfl
theorem e84_131 : ab_rn cl 84 J Q (k + 1) 131 μ [v0, v1, v2, v3, v4] (.int y :: .int x :: st) = ab_rn cl 84 J Q k 132 μ [v0, v1, v2, v3, v4] (.int (x + y) :: st) := x_iadd dX6_falls_131
theorem e84_132 : ab_rn cl 84 J Q (k + 1) 132 μ [v0, v1, v2, v3, v4] st = ab_rn cl 84 J Q k 133 μ [v0, v1, v2, v3, v4] (.int 1 :: st) := x_iconst dX6_falls_132 (by decide)
theorem e84_133 : ab_rn cl 84 J Q (k + 1) 133 μ [v0, v1, v2, v3, v4] (.int y :: .int x :: st) = ab_rn cl 84 J Q k 134 μ [v0, v1, v2, v3, v4] (.int (x + y) :: st) := x_iadd dX6_falls_133
theorem e84_134 : ab_rn cl 84 J Q (k + 1) 134 μ [v0, v1, v2, v3, v4] (.int x :: .ref a :: st) = ((a < 81 ∧ ab_ak a = 0) ∧ vp_in x (ab_al a) ∧ ab_rn cl 84 J Q k 135 μ [v0, v1, v2, v3, v4] (.int (μ (ab_cmp a) (ab_off a + x.toNatClampNeg)) :: st)) := x_iaload dX6_falls_134
theorem e84_135 : ab_rn cl 84 J Q (k + 1) 135 μ [v0, v1, v2, v3, v4] (.int v :: .int x :: .ref a :: st) = ((a < 81 ∧ ab_ak a = 0) ∧ vp_in x (ab_al a) ∧ ab_rn cl 84 J Q k 136 (ab_up μ (ab_cmp a) (ab_off a + x.toNatClampNeg) v) [v0, v1, v2, v3, v4] st) := x_iastore dX6_falls_135
theorem e84_136 : ab_rn cl 84 J Q (k + 1) 136 μ [v0, v1, v2, v3, .int x] st = ab_rn cl 84 J Q k 139 μ [v0, v1, v2, v3, .int (x + 1)] st := x_iinc dX6_falls_136 (w := 1) (by decide) rfl rfl
theorem e84_139 : ab_rn cl 84 J Q (k + 1) 139 μ [v0, v1, v2, v3, v4] st = J 67 μ [v0, v1, v2, v3, v4] st := x_gotoB dX6_falls_139 (fun _ _ _ _ _ => rfl)
theorem e84_142 : ab_rn cl 84 J Q (k + 1) 142 μ [.ref a, v1, v2, v3, v4] st = ab_rn cl 84 J Q k 143 μ [.ref a, v1, v2, v3, v4] (.ref a :: st) := x_aload_n dX6_falls_142 rfl
theorem e84_143 : ab_rn cl 84 J Q (k + 1) 143 μ [v0, v1, v2, v3, v4] (.ref a :: st) = (ab_ob a 6 ∧ ab_rn cl 84 J Q k 146 μ [v0, v1, v2, v3, v4] (ab_fv μ a 1 :: st)) := x_get dX6_falls_143 rfl
theorem e84_146 : ab_rn cl 84 J Q (k + 1) 146 μ [v0, .int x, v2, v3, v4] st = ab_rn cl 84 J Q k 147 μ [v0, .int x, v2, v3, v4] (.int x :: st) := x_iload_n dX6_falls_146 rfl
theorem e84_147 : ab_rn cl 84 J Q (k + 1) 147 μ [v0, v1, v2, v3, v4] (.int x :: .ref a :: st) = ab_rn cl 84 J Q k 148 μ [v0, v1, v2, v3, v4] (.int x :: .ref a :: .int x :: .ref a :: st) := x_dup2 dX6_falls_147
theorem e84_148 : ab_rn cl 84 J Q (k + 1) 148 μ [v0, v1, v2, v3, v4] (.int x :: .ref a :: st) = ((a < 81 ∧ ab_ak a = 0) ∧ vp_in x (ab_al a) ∧ ab_rn cl 84 J Q k 149 μ [v0, v1, v2, v3, v4] (.int (μ (ab_cmp a) (ab_off a + x.toNatClampNeg)) :: st)) := x_iaload dX6_falls_148
theorem e84_149 : ab_rn cl 84 J Q (k + 1) 149 μ [v0, v1, v2, v3, v4] st = ab_rn cl 84 J Q k 150 μ [v0, v1, v2, v3, v4] (.int 1 :: st) := x_iconst dX6_falls_149 (by decide)
theorem e84_150 : ab_rn cl 84 J Q (k + 1) 150 μ [v0, v1, v2, v3, v4] (.int y :: .int x :: st) = ab_rn cl 84 J Q k 151 μ [v0, v1, v2, v3, v4] (.int (x - y) :: st) := x_isub dX6_falls_150
theorem e84_151 : ab_rn cl 84 J Q (k + 1) 151 μ [v0, v1, v2, v3, v4] (.int v :: .int x :: .ref a :: st) = ((a < 81 ∧ ab_ak a = 0) ∧ vp_in x (ab_al a) ∧ ab_rn cl 84 J Q k 152 (ab_up μ (ab_cmp a) (ab_off a + x.toNatClampNeg) v) [v0, v1, v2, v3, v4] st) := x_iastore dX6_falls_151
theorem e84_152 : ab_rn cl 84 J Q (k + 1) 152 μ [.ref a, v1, v2, v3, v4] st = ab_rn cl 84 J Q k 153 μ [.ref a, v1, v2, v3, v4] (.ref a :: st) := x_aload_n dX6_falls_152 rfl
theorem e84_153 : ab_rn cl 84 J Q (k + 1) 153 μ [v0, v1, v2, v3, v4] (.ref a :: st) = (ab_ob a 6 ∧ ab_rn cl 84 J Q k 156 μ [v0, v1, v2, v3, v4] (ab_fv μ a 2 :: st)) := x_get dX6_falls_153 rfl
theorem e84_156 : ab_rn cl 84 J Q (k + 1) 156 μ [v0, v1, v2, .int x, v4] st = ab_rn cl 84 J Q k 157 μ [v0, v1, v2, .int x, v4] (.int x :: st) := x_iload_n dX6_falls_156 rfl
theorem e84_157 : ab_rn cl 84 J Q (k + 1) 157 μ [.ref a, v1, v2, v3, v4] st = ab_rn cl 84 J Q k 158 μ [.ref a, v1, v2, v3, v4] (.ref a :: st) := x_aload_n dX6_falls_157 rfl
theorem e84_158 : ab_rn cl 84 J Q (k + 1) 158 μ [v0, v1, v2, v3, v4] (.ref a :: st) = (ab_ob a 6 ∧ ab_rn cl 84 J Q k 161 μ [v0, v1, v2, v3, v4] (ab_fv μ a 1 :: st)) := x_get dX6_falls_158 rfl
theorem e84_161 : ab_rn cl 84 J Q (k + 1) 161 μ [v0, .int x, v2, v3, v4] st = ab_rn cl 84 J Q k 162 μ [v0, .int x, v2, v3, v4] (.int x :: st) := x_iload_n dX6_falls_161 rfl
theorem e84_162 : ab_rn cl 84 J Q (k + 1) 162 μ [v0, v1, v2, v3, v4] (.int x :: .ref a :: st) = ((a < 81 ∧ ab_ak a = 0) ∧ vp_in x (ab_al a) ∧ ab_rn cl 84 J Q k 163 μ [v0, v1, v2, v3, v4] (.int (μ (ab_cmp a) (ab_off a + x.toNatClampNeg)) :: st)) := x_iaload dX6_falls_162
theorem e84_163 : ab_rn cl 84 J Q (k + 1) 163 μ [v0, v1, v2, v3, v4] (.int y :: .int x :: st) = ab_rn cl 84 J Q k 164 μ [v0, v1, v2, v3, v4] (.int (x + y) :: st) := x_iadd dX6_falls_163
theorem e84_164 : ab_rn cl 84 J Q (k + 1) 164 μ [v0, v1, v2, v3, v4] st = ab_rn cl 84 J Q k 165 μ [v0, v1, v2, v3, v4] (.int 0 :: st) := x_iconst dX6_falls_164 (by decide)
theorem e84_165 : ab_rn cl 84 J Q (k + 1) 165 μ [v0, v1, v2, v3, v4] (.int v :: .int x :: .ref a :: st) = ((a < 81 ∧ ab_ak a = 0) ∧ vp_in x (ab_al a) ∧ ab_rn cl 84 J Q k 166 (ab_up μ (ab_cmp a) (ab_off a + x.toNatClampNeg) v) [v0, v1, v2, v3, v4] st) := x_iastore dX6_falls_165
theorem e84_166 : ab_rn cl 84 J Q (k + 1) 166 μ [.ref a, v1, v2, v3, v4] st = ab_rn cl 84 J Q k 167 μ [.ref a, v1, v2, v3, v4] (.ref a :: st) := x_aload_n dX6_falls_166 rfl
theorem e84_167 : ab_rn cl 84 J Q (k + 1) 167 μ [v0, v1, v2, v3, v4] (.ref a :: st) = (ab_ob a 6 ∧ ab_rn cl 84 J Q k 170 μ [v0, v1, v2, v3, v4] (ab_fv μ a 3 :: st)) := x_get dX6_falls_167 rfl
theorem e84_170 : ab_rn cl 84 J Q (k + 1) 170 μ [v0, v1, v2, .int x, v4] st = ab_rn cl 84 J Q k 171 μ [v0, v1, v2, .int x, v4] (.int x :: st) := x_iload_n dX6_falls_170 rfl
theorem e84_171 : ab_rn cl 84 J Q (k + 1) 171 μ [.ref a, v1, v2, v3, v4] st = ab_rn cl 84 J Q k 172 μ [.ref a, v1, v2, v3, v4] (.ref a :: st) := x_aload_n dX6_falls_171 rfl
theorem e84_172 : ab_rn cl 84 J Q (k + 1) 172 μ [v0, v1, v2, v3, v4] (.ref a :: st) = (ab_ob a 6 ∧ ab_rn cl 84 J Q k 175 μ [v0, v1, v2, v3, v4] (ab_fv μ a 1 :: st)) := x_get dX6_falls_172 rfl
theorem e84_175 : ab_rn cl 84 J Q (k + 1) 175 μ [v0, .int x, v2, v3, v4] st = ab_rn cl 84 J Q k 176 μ [v0, .int x, v2, v3, v4] (.int x :: st) := x_iload_n dX6_falls_175 rfl
theorem e84_176 : ab_rn cl 84 J Q (k + 1) 176 μ [v0, v1, v2, v3, v4] (.int x :: .ref a :: st) = ((a < 81 ∧ ab_ak a = 0) ∧ vp_in x (ab_al a) ∧ ab_rn cl 84 J Q k 177 μ [v0, v1, v2, v3, v4] (.int (μ (ab_cmp a) (ab_off a + x.toNatClampNeg)) :: st)) := x_iaload dX6_falls_176
theorem e84_177 : ab_rn cl 84 J Q (k + 1) 177 μ [v0, v1, v2, v3, v4] (.int y :: .int x :: st) = ab_rn cl 84 J Q k 178 μ [v0, v1, v2, v3, v4] (.int (x + y) :: st) := x_iadd dX6_falls_177
theorem e84_178 : ab_rn cl 84 J Q (k + 1) 178 μ [v0, v1, .int x, v3, v4] st = ab_rn cl 84 J Q k 179 μ [v0, v1, .int x, v3, v4] (.int x :: st) := x_iload_n dX6_falls_178 rfl
theorem e84_179 : ab_rn cl 84 J Q (k + 1) 179 μ [v0, v1, v2, v3, v4] (.int v :: .int x :: .ref a :: st) = ((a < 81 ∧ ab_ak a = 0) ∧ vp_in x (ab_al a) ∧ ab_rn cl 84 J Q k 180 (ab_up μ (ab_cmp a) (ab_off a + x.toNatClampNeg) v) [v0, v1, v2, v3, v4] st) := x_iastore dX6_falls_179
theorem e84_180 : ab_rn cl 84 J Q (k + 1) 180 μ [.ref a, v1, v2, v3, v4] st = ab_rn cl 84 J Q k 181 μ [.ref a, v1, v2, v3, v4] (.ref a :: st) := x_aload_n dX6_falls_180 rfl
theorem e84_181 : ab_rn cl 84 J Q (k + 1) 181 μ [v0, v1, v2, v3, v4] (.ref a :: st) = (ab_ob a 6 ∧ ab_rn cl 84 J Q k 184 μ [v0, v1, v2, v3, v4] (ab_fv μ a 4 :: st)) := x_get dX6_falls_181 rfl
theorem e84_184 : ab_rn cl 84 J Q (k + 1) 184 μ [v0, v1, v2, .int x, v4] st = ab_rn cl 84 J Q k 185 μ [v0, v1, v2, .int x, v4] (.int x :: st) := x_iload_n dX6_falls_184 rfl
theorem e84_185 : ab_rn cl 84 J Q (k + 1) 185 μ [.ref a, v1, v2, v3, v4] st = ab_rn cl 84 J Q k 186 μ [.ref a, v1, v2, v3, v4] (.ref a :: st) := x_aload_n dX6_falls_185 rfl
theorem e84_186 : ab_rn cl 84 J Q (k + 1) 186 μ [v0, v1, v2, v3, v4] (.ref a :: st) = (ab_ob a 6 ∧ ab_rn cl 84 J Q k 189 μ [v0, v1, v2, v3, v4] (ab_fv μ a 1 :: st)) := x_get dX6_falls_186 rfl
theorem e84_189 : ab_rn cl 84 J Q (k + 1) 189 μ [v0, .int x, v2, v3, v4] st = ab_rn cl 84 J Q k 190 μ [v0, .int x, v2, v3, v4] (.int x :: st) := x_iload_n dX6_falls_189 rfl
theorem e84_190 : ab_rn cl 84 J Q (k + 1) 190 μ [v0, v1, v2, v3, v4] (.int x :: .ref a :: st) = ((a < 81 ∧ ab_ak a = 0) ∧ vp_in x (ab_al a) ∧ ab_rn cl 84 J Q k 191 μ [v0, v1, v2, v3, v4] (.int (μ (ab_cmp a) (ab_off a + x.toNatClampNeg)) :: st)) := x_iaload dX6_falls_190
theorem e84_191 : ab_rn cl 84 J Q (k + 1) 191 μ [v0, v1, v2, v3, v4] (.int y :: .int x :: st) = ab_rn cl 84 J Q k 192 μ [v0, v1, v2, v3, v4] (.int (x + y) :: st) := x_iadd dX6_falls_191
theorem e84_192 : ab_rn cl 84 J Q (k + 1) 192 μ [v0, v1, v2, v3, v4] st = ab_rn cl 84 J Q k 193 μ [v0, v1, v2, v3, v4] (.int 0 :: st) := x_iconst dX6_falls_192 (by decide)
theorem e84_193 : ab_rn cl 84 J Q (k + 1) 193 μ [v0, v1, v2, v3, v4] (.int v :: .int x :: .ref a :: st) = ((a < 81 ∧ ab_ak a = 0) ∧ vp_in x (ab_al a) ∧ ab_rn cl 84 J Q k 194 (ab_up μ (ab_cmp a) (ab_off a + x.toNatClampNeg) v) [v0, v1, v2, v3, v4] st) := x_iastore dX6_falls_193
theorem e84_194 : ab_rn cl 84 J Q (k + 1) 194 μ [.ref a, v1, v2, v3, v4] st = ab_rn cl 84 J Q k 195 μ [.ref a, v1, v2, v3, v4] (.ref a :: st) := x_aload_n dX6_falls_194 rfl
theorem e84_195 : ab_rn cl 84 J Q (k + 1) 195 μ [v0, v1, v2, v3, v4] (.ref a :: st) = (ab_ob a 6 ∧ ab_rn cl 84 J Q k 198 μ [v0, v1, v2, v3, v4] (ab_fv μ a 1 :: st)) := x_get dX6_falls_195 rfl
theorem e84_198 : ab_rn cl 84 J Q (k + 1) 198 μ [v0, .int x, v2, v3, v4] st = ab_rn cl 84 J Q k 199 μ [v0, .int x, v2, v3, v4] (.int x :: st) := x_iload_n dX6_falls_198 rfl
theorem e84_199 : ab_rn cl 84 J Q (k + 1) 199 μ [v0, v1, v2, v3, v4] (.int x :: .ref a :: st) = ab_rn cl 84 J Q k 200 μ [v0, v1, v2, v3, v4] (.int x :: .ref a :: .int x :: .ref a :: st) := x_dup2 dX6_falls_199
theorem e84_200 : ab_rn cl 84 J Q (k + 1) 200 μ [v0, v1, v2, v3, v4] (.int x :: .ref a :: st) = ((a < 81 ∧ ab_ak a = 0) ∧ vp_in x (ab_al a) ∧ ab_rn cl 84 J Q k 201 μ [v0, v1, v2, v3, v4] (.int (μ (ab_cmp a) (ab_off a + x.toNatClampNeg)) :: st)) := x_iaload dX6_falls_200
theorem e84_201 : ab_rn cl 84 J Q (k + 1) 201 μ [v0, v1, v2, v3, v4] st = ab_rn cl 84 J Q k 202 μ [v0, v1, v2, v3, v4] (.int 1 :: st) := x_iconst dX6_falls_201 (by decide)
theorem e84_202 : ab_rn cl 84 J Q (k + 1) 202 μ [v0, v1, v2, v3, v4] (.int y :: .int x :: st) = ab_rn cl 84 J Q k 203 μ [v0, v1, v2, v3, v4] (.int (x + y) :: st) := x_iadd dX6_falls_202
theorem e84_203 : ab_rn cl 84 J Q (k + 1) 203 μ [v0, v1, v2, v3, v4] (.int v :: .int x :: .ref a :: st) = ((a < 81 ∧ ab_ak a = 0) ∧ vp_in x (ab_al a) ∧ ab_rn cl 84 J Q k 204 (ab_up μ (ab_cmp a) (ab_off a + x.toNatClampNeg) v) [v0, v1, v2, v3, v4] st) := x_iastore dX6_falls_203
theorem e84_204 : ab_rn cl 84 J Q (k + 1) 204 μ [v0, v1, v2, v3, v4] [] = Q none μ := x_vret dX6_falls_204 rfl
theorem n84 {d : Nat} (h : ∀ J : ab_J, (∀ k pc μ ls st, ab_rn (ab_Cl d) 84 J Q k pc μ ls st → J pc μ ls st) → J 0 μ [v0, v1, v2, .null, .null] []) : ab_Cl (d + 1) 84 [v0, v1, v2] μ Q := ab_go h
theorem e85_0 : ab_rn cl 85 J Q (k + 1) 0 μ [.ref a, v1, v2, v3, v4] st = ab_rn cl 85 J Q k 1 μ [.ref a, v1, v2, v3, v4] (.ref a :: st) := x_aload_n dX6_snowAt_0 rfl
theorem e85_1 : ab_rn cl 85 J Q (k + 1) 1 μ [v0, v1, v2, v3, v4] (.ref a :: st) = (ab_ob a 6 ∧ ab_rn cl 85 J Q k 4 μ [v0, v1, v2, v3, v4] (ab_fv μ a 5 :: st)) := x_get dX6_snowAt_1 rfl
theorem e85_4 : ab_rn cl 85 J Q (k + 1) 4 μ [v0, .int x, v2, v3, v4] st = ab_rn cl 85 J Q k 5 μ [v0, .int x, v2, v3, v4] (.int x :: st) := x_iload_n dX6_snowAt_4 rfl
theorem e85_5 : ab_rn cl 85 J Q (k + 1) 5 μ [v0, v1, v2, v3, v4] (.int x :: .ref a :: st) = ((a < 81 ∧ ab_ak a = 0) ∧ vp_in x (ab_al a) ∧ ab_rn cl 85 J Q k 6 μ [v0, v1, v2, v3, v4] (.int (μ (ab_cmp a) (ab_off a + x.toNatClampNeg)) :: st)) := x_iaload dX6_snowAt_5
theorem e85_6 : ab_rn cl 85 J Q (k + 1) 6 μ [v0, v1, v2, v3, v4] st = ab_rn cl 85 J Q k 7 μ [v0, v1, v2, v3, v4] (.int (-1) :: st) := x_iconst dX6_snowAt_6 (by decide)
theorem e85_7 : ab_rn cl 85 J Q (k + 1) 7 μ [v0, v1, v2, v3, v4] (.int y :: .int x :: st) = (((x = y) → ab_rn cl 85 J Q k 17 μ [v0, v1, v2, v3, v4] st) ∧ ((¬ (x = y)) → ab_rn cl 85 J Q k 10 μ [v0, v1, v2, v3, v4] st)) := x_icmpF dX6_snowAt_7 rfl (fun _ _ _ _ _ => rfl)
theorem e85_10 : ab_rn cl 85 J Q (k + 1) 10 μ [.ref a, v1, v2, v3, v4] st = ab_rn cl 85 J Q k 11 μ [.ref a, v1, v2, v3, v4] (.ref a :: st) := x_aload_n dX6_snowAt_10 rfl
theorem e85_11 : ab_rn cl 85 J Q (k + 1) 11 μ [v0, v1, v2, v3, v4] (.ref a :: st) = (ab_ob a 6 ∧ ab_rn cl 85 J Q k 14 μ [v0, v1, v2, v3, v4] (ab_fv μ a 5 :: st)) := x_get dX6_snowAt_11 rfl
theorem e85_14 : ab_rn cl 85 J Q (k + 1) 14 μ [v0, .int x, v2, v3, v4] st = ab_rn cl 85 J Q k 15 μ [v0, .int x, v2, v3, v4] (.int x :: st) := x_iload_n dX6_snowAt_14 rfl
theorem e85_15 : ab_rn cl 85 J Q (k + 1) 15 μ [v0, v1, v2, v3, v4] (.int x :: .ref a :: st) = ((a < 81 ∧ ab_ak a = 0) ∧ vp_in x (ab_al a) ∧ ab_rn cl 85 J Q k 16 μ [v0, v1, v2, v3, v4] (.int (μ (ab_cmp a) (ab_off a + x.toNatClampNeg)) :: st)) := x_iaload dX6_snowAt_15
theorem e85_16 : ab_rn cl 85 J Q (k + 1) 16 μ [v0, v1, v2, v3, v4] [.int v] = Q (some v) μ := x_iret dX6_snowAt_16 rfl
theorem e85_17 : ab_rn cl 85 J Q (k + 1) 17 μ [v0, v1, v2, v3, v4] st = ab_rn cl 85 J Q k 18 μ [v0, v1, v2, v3, v4] (.int 0 :: st) := x_iconst dX6_snowAt_17 (by decide)
theorem e85_18 : ab_rn cl 85 J Q (k + 1) 18 μ [v0, v1, v2, v3, v4] (.int x :: st) = ab_rn cl 85 J Q k 19 μ [v0, v1, .int x, v3, v4] st := x_istore_n dX6_snowAt_18 (Nat.le_of_ble_eq_true rfl) rfl
theorem e85_19 : ab_rn cl 85 J Q (k + 1) 19 μ [v0, v1, v2, v3, v4] st = ab_rn cl 85 J Q k 20 μ [v0, v1, v2, v3, v4] (.int 0 :: st) := x_iconst dX6_snowAt_19 (by decide)
theorem e85_20 : ab_rn cl 85 J Q (k + 1) 20 μ [v0, v1, v2, v3, v4] (.int x :: st) = ab_rn cl 85 J Q k 21 μ [v0, v1, v2, .int x, v4] st := x_istore_n dX6_snowAt_20 (Nat.le_of_ble_eq_true rfl) rfl
theorem e85_21 : ab_rn cl 85 J Q (k + 1) 21 μ [v0, v1, v2, v3, v4] st = ab_rn cl 85 J Q k 22 μ [v0, v1, v2, v3, v4] (.int 0 :: st) := x_iconst dX6_snowAt_21 (by decide)
theorem e85_22 : ab_rn cl 85 J Q (k + 1) 22 μ [v0, v1, v2, v3, v4] (.int x :: st) = ab_rn cl 85 J Q k 24 μ [v0, v1, v2, v3, .int x] st := x_istore dX6_snowAt_22 (Nat.le_of_ble_eq_true rfl) rfl
theorem e85_24 : ab_rn cl 85 J Q (k + 1) 24 μ [v0, v1, v2, v3, .int x] st = ab_rn cl 85 J Q k 26 μ [v0, v1, v2, v3, .int x] (.int x :: st) := x_iload dX6_snowAt_24 rfl
theorem e85_26 : ab_rn cl 85 J Q (k + 1) 26 μ [v0, v1, v2, v3, v4] st = ab_rn cl 85 J Q k 27 μ [v0, v1, v2, v3, v4] (.int 3 :: st) := x_iconst dX6_snowAt_26 (by decide)
theorem e85_27 : ab_rn cl 85 J Q (k + 1) 27 μ [v0, v1, v2, v3, v4] (.int y :: .int x :: st) = (((y ≤ x) → ab_rn cl 85 J Q k 63 μ [v0, v1, v2, v3, v4] st) ∧ ((¬ (y ≤ x)) → ab_rn cl 85 J Q k 30 μ [v0, v1, v2, v3, v4] st)) := x_icmpF dX6_snowAt_27 rfl (fun _ _ _ _ _ => rfl)
theorem e85_30 : ab_rn cl 85 J Q (k + 1) 30 μ [.ref a, v1, v2, v3, v4] st = ab_rn cl 85 J Q k 31 μ [.ref a, v1, v2, v3, v4] (.ref a :: st) := x_aload_n dX6_snowAt_30 rfl
theorem e85_31 : ab_rn cl 85 J Q (k + 1) 31 μ [v0, v1, v2, v3, v4] (.ref a :: st) = (ab_ob a 6 ∧ ab_rn cl 85 J Q k 34 μ [v0, v1, v2, v3, v4] (ab_fv μ a 5 :: st)) := x_get dX6_snowAt_31 rfl
theorem e85_34 : ab_rn cl 85 J Q (k + 1) 34 μ [v0, v1, v2, v3, .int x] st = ab_rn cl 85 J Q k 36 μ [v0, v1, v2, v3, .int x] (.int x :: st) := x_iload dX6_snowAt_34 rfl
theorem e85_36 : ab_rn cl 85 J Q (k + 1) 36 μ [v0, v1, v2, v3, v4] (.int x :: .ref a :: st) = ((a < 81 ∧ ab_ak a = 0) ∧ vp_in x (ab_al a) ∧ ab_rn cl 85 J Q k 37 μ [v0, v1, v2, v3, v4] (.int (μ (ab_cmp a) (ab_off a + x.toNatClampNeg)) :: st)) := x_iaload dX6_snowAt_36
theorem e85_37 : ab_rn cl 85 J Q (k + 1) 37 μ [v0, v1, v2, v3, v4] st = ab_rn cl 85 J Q k 38 μ [v0, v1, v2, v3, v4] (.int (-1) :: st) := x_iconst dX6_snowAt_37 (by decide)
theorem e85_38 : ab_rn cl 85 J Q (k + 1) 38 μ [v0, v1, v2, v3, v4] (.int y :: .int x :: st) = (((¬ x = y) → ab_rn cl 85 J Q k 44 μ [v0, v1, v2, v3, v4] st) ∧ ((¬ (¬ x = y)) → ab_rn cl 85 J Q k 41 μ [v0, v1, v2, v3, v4] st)) := x_icmpF dX6_snowAt_38 rfl (fun _ _ _ _ _ => rfl)
theorem e85_41 : ab_rn cl 85 J Q (k + 1) 41 μ [v0, v1, v2, v3, v4] st = ab_rn cl 85 J Q k 57 μ [v0, v1, v2, v3, v4] st := x_gotoF dX6_snowAt_41 (fun _ _ _ _ _ => rfl)
theorem e85_44 : ab_rn cl 85 J Q (k + 1) 44 μ [v0, v1, .int x, v3, v4] st = ab_rn cl 85 J Q k 47 μ [v0, v1, .int (x + 1), v3, v4] st := x_iinc dX6_snowAt_44 (w := 1) (by decide) rfl rfl
theorem e85_47 : ab_rn cl 85 J Q (k + 1) 47 μ [v0, v1, v2, .int x, v4] st = ab_rn cl 85 J Q k 48 μ [v0, v1, v2, .int x, v4] (.int x :: st) := x_iload_n dX6_snowAt_47 rfl
theorem e85_48 : ab_rn cl 85 J Q (k + 1) 48 μ [.ref a, v1, v2, v3, v4] st = ab_rn cl 85 J Q k 49 μ [.ref a, v1, v2, v3, v4] (.ref a :: st) := x_aload_n dX6_snowAt_48 rfl
theorem e85_49 : ab_rn cl 85 J Q (k + 1) 49 μ [v0, v1, v2, v3, v4] (.ref a :: st) = (ab_ob a 6 ∧ ab_rn cl 85 J Q k 52 μ [v0, v1, v2, v3, v4] (ab_fv μ a 5 :: st)) := x_get dX6_snowAt_49 rfl
theorem e85_52 : ab_rn cl 85 J Q (k + 1) 52 μ [v0, v1, v2, v3, .int x] st = ab_rn cl 85 J Q k 54 μ [v0, v1, v2, v3, .int x] (.int x :: st) := x_iload dX6_snowAt_52 rfl
theorem e85_54 : ab_rn cl 85 J Q (k + 1) 54 μ [v0, v1, v2, v3, v4] (.int x :: .ref a :: st) = ((a < 81 ∧ ab_ak a = 0) ∧ vp_in x (ab_al a) ∧ ab_rn cl 85 J Q k 55 μ [v0, v1, v2, v3, v4] (.int (μ (ab_cmp a) (ab_off a + x.toNatClampNeg)) :: st)) := x_iaload dX6_snowAt_54
theorem e85_55 : ab_rn cl 85 J Q (k + 1) 55 μ [v0, v1, v2, v3, v4] (.int y :: .int x :: st) = ab_rn cl 85 J Q k 56 μ [v0, v1, v2, v3, v4] (.int (x + y) :: st) := x_iadd dX6_snowAt_55
theorem e85_56 : ab_rn cl 85 J Q (k + 1) 56 μ [v0, v1, v2, v3, v4] (.int x :: st) = ab_rn cl 85 J Q k 57 μ [v0, v1, v2, .int x, v4] st := x_istore_n dX6_snowAt_56 (Nat.le_of_ble_eq_true rfl) rfl
theorem e85_57 : ab_rn cl 85 J Q (k + 1) 57 μ [v0, v1, v2, v3, .int x] st = ab_rn cl 85 J Q k 60 μ [v0, v1, v2, v3, .int (x + 1)] st := x_iinc dX6_snowAt_57 (w := 1) (by decide) rfl rfl
theorem e85_60 : ab_rn cl 85 J Q (k + 1) 60 μ [v0, v1, v2, v3, v4] st = J 24 μ [v0, v1, v2, v3, v4] st := x_gotoB dX6_snowAt_60 (fun _ _ _ _ _ => rfl)
theorem e85_63 : ab_rn cl 85 J Q (k + 1) 63 μ [v0, v1, .int x, v3, v4] st = ab_rn cl 85 J Q k 64 μ [v0, v1, .int x, v3, v4] (.int x :: st) := x_iload_n dX6_snowAt_63 rfl
theorem e85_64 : ab_rn cl 85 J Q (k + 1) 64 μ [v0, v1, v2, v3, v4] (.int x :: st) = (((¬ x = 0) → ab_rn cl 85 J Q k 71 μ [v0, v1, v2, v3, v4] st) ∧ ((¬ (¬ x = 0)) → ab_rn cl 85 J Q k 67 μ [v0, v1, v2, v3, v4] st)) := x_ifF dX6_snowAt_64 rfl (fun _ _ _ _ _ => rfl)
theorem e85_67 : ab_rn cl 85 J Q (k + 1) 67 μ [v0, v1, v2, v3, v4] st = ab_rn cl 85 J Q k 68 μ [v0, v1, v2, v3, v4] (.int 0 :: st) := x_iconst dX6_snowAt_67 (by decide)
theorem e85_68 : ab_rn cl 85 J Q (k + 1) 68 μ [v0, v1, v2, v3, v4] st = ab_rn cl 85 J Q k 74 μ [v0, v1, v2, v3, v4] st := x_gotoF dX6_snowAt_68 (fun _ _ _ _ _ => rfl)
theorem e85_71 : ab_rn cl 85 J Q (k + 1) 71 μ [v0, v1, v2, .int x, v4] st = ab_rn cl 85 J Q k 72 μ [v0, v1, v2, .int x, v4] (.int x :: st) := x_iload_n dX6_snowAt_71 rfl
theorem e85_72 : ab_rn cl 85 J Q (k + 1) 72 μ [v0, v1, .int x, v3, v4] st = ab_rn cl 85 J Q k 73 μ [v0, v1, .int x, v3, v4] (.int x :: st) := x_iload_n dX6_snowAt_72 rfl
theorem e85_73 : ab_rn cl 85 J Q (k + 1) 73 μ [v0, v1, v2, v3, v4] (.int y :: .int x :: st) = ((¬ y = 0) ∧ ab_rn cl 85 J Q k 74 μ [v0, v1, v2, v3, v4] (.int (x / y) :: st)) := x_idiv dX6_snowAt_73
theorem e85_74 : ab_rn cl 85 J Q (k + 1) 74 μ [v0, v1, v2, v3, v4] [.int v] = Q (some v) μ := x_iret dX6_snowAt_74 rfl
theorem n85 {d : Nat} (h : ∀ J : ab_J, (∀ k pc μ ls st, ab_rn (ab_Cl d) 85 J Q k pc μ ls st → J pc μ ls st) → J 0 μ [v0, v1, .null, .null, .null] []) : ab_Cl (d + 1) 85 [v0, v1] μ Q := ab_go h
theorem e86_0 : ab_rn cl 86 J Q (k + 1) 0 μ [v0, v1] st = ab_rn cl 86 J Q k 2 μ [v0, v1] (.int 10 :: st) := x_bipush dX6_top_0 (by decide)
theorem e86_2 : ab_rn cl 86 J Q (k + 1) 2 μ [v0, .int x] st = ab_rn cl 86 J Q k 3 μ [v0, .int x] (.int x :: st) := x_iload_n dX6_top_2 rfl
theorem e86_3 : ab_rn cl 86 J Q (k + 1) 3 μ [v0, v1] (.int y :: .int x :: st) = ab_rn cl 86 J Q k 4 μ [v0, v1] (.int (x * y) :: st) := x_imul dX6_top_3
theorem e86_4 : ab_rn cl 86 J Q (k + 1) 4 μ [.ref a, v1] st = ab_rn cl 86 J Q k 5 μ [.ref a, v1] (.ref a :: st) := x_aload_n dX6_top_4 rfl
theorem e86_5 : ab_rn cl 86 J Q (k + 1) 5 μ [v0, v1] (.ref a :: st) = (ab_ob a 6 ∧ ab_rn cl 86 J Q k 8 μ [v0, v1] (ab_fv μ a 1 :: st)) := x_get dX6_top_5 rfl
theorem e86_8 : ab_rn cl 86 J Q (k + 1) 8 μ [v0, .int x] st = ab_rn cl 86 J Q k 9 μ [v0, .int x] (.int x :: st) := x_iload_n dX6_top_8 rfl
theorem e86_9 : ab_rn cl 86 J Q (k + 1) 9 μ [v0, v1] (.int x :: .ref a :: st) = ((a < 81 ∧ ab_ak a = 0) ∧ vp_in x (ab_al a) ∧ ab_rn cl 86 J Q k 10 μ [v0, v1] (.int (μ (ab_cmp a) (ab_off a + x.toNatClampNeg)) :: st)) := x_iaload dX6_top_9
theorem e86_10 : ab_rn cl 86 J Q (k + 1) 10 μ [v0, v1] (.int y :: .int x :: st) = ab_rn cl 86 J Q k 11 μ [v0, v1] (.int (x + y) :: st) := x_iadd dX6_top_10
theorem e86_11 : ab_rn cl 86 J Q (k + 1) 11 μ [v0, v1] st = ab_rn cl 86 J Q k 12 μ [v0, v1] (.int 1 :: st) := x_iconst dX6_top_11 (by decide)
theorem e86_12 : ab_rn cl 86 J Q (k + 1) 12 μ [v0, v1] (.int y :: .int x :: st) = ab_rn cl 86 J Q k 13 μ [v0, v1] (.int (x - y) :: st) := x_isub dX6_top_12
theorem e86_13 : ab_rn cl 86 J Q (k + 1) 13 μ [v0, v1] [.int v] = Q (some v) μ := x_iret dX6_top_13 rfl
theorem n86 {d : Nat} (h : ∀ J : ab_J, (∀ k pc μ ls st, ab_rn (ab_Cl d) 86 J Q k pc μ ls st → J pc μ ls st) → J 0 μ [v0, v1] []) : ab_Cl (d + 1) 86 [v0, v1] μ Q := ab_go h
theorem e87_0 : ab_rn cl 87 J Q (k + 1) 0 μ [.ref a, v1] st = ab_rn cl 87 J Q k 1 μ [.ref a, v1] (.ref a :: st) := x_aload_n dX6_isNewOn_0 rfl
theorem e87_1 : ab_rn cl 87 J Q (k + 1) 1 μ [v0, v1] (.ref a :: st) = (ab_ob a 6 ∧ ab_rn cl 87 J Q k 4 μ [v0, v1] (ab_fv μ a 1 :: st)) := x_get dX6_isNewOn_1 rfl
theorem e87_4 : ab_rn cl 87 J Q (k + 1) 4 μ [v0, .int x] st = ab_rn cl 87 J Q k 5 μ [v0, .int x] (.int x :: st) := x_iload_n dX6_isNewOn_4 rfl
theorem e87_5 : ab_rn cl 87 J Q (k + 1) 5 μ [v0, v1] (.int x :: .ref a :: st) = ((a < 81 ∧ ab_ak a = 0) ∧ vp_in x (ab_al a) ∧ ab_rn cl 87 J Q k 6 μ [v0, v1] (.int (μ (ab_cmp a) (ab_off a + x.toNatClampNeg)) :: st)) := x_iaload dX6_isNewOn_5
theorem e87_6 : ab_rn cl 87 J Q (k + 1) 6 μ [v0, v1] (.int x :: st) = (((x ≤ 0) → ab_rn cl 87 J Q k 26 μ [v0, v1] st) ∧ ((¬ (x ≤ 0)) → ab_rn cl 87 J Q k 9 μ [v0, v1] st)) := x_ifF dX6_isNewOn_6 rfl (fun _ _ _ _ _ => rfl)
theorem e87_9 : ab_rn cl 87 J Q (k + 1) 9 μ [.ref a, v1] st = ab_rn cl 87 J Q k 10 μ [.ref a, v1] (.ref a :: st) := x_aload_n dX6_isNewOn_9 rfl
theorem e87_10 : ab_rn cl 87 J Q (k + 1) 10 μ [v0, v1] (.ref a :: st) = (ab_ob a 6 ∧ ab_rn cl 87 J Q k 13 μ [v0, v1] (ab_fv μ a 2 :: st)) := x_get dX6_isNewOn_10 rfl
theorem e87_13 : ab_rn cl 87 J Q (k + 1) 13 μ [.ref a, v1] st = ab_rn cl 87 J Q k 14 μ [.ref a, v1] (.ref a :: st) := x_aload_n dX6_isNewOn_13 rfl
theorem e87_14 : ab_rn cl 87 J Q (k + 1) 14 μ [v0, .int x] st = ab_rn cl 87 J Q k 15 μ [v0, .int x] (.int x :: st) := x_iload_n dX6_isNewOn_14 rfl
theorem e87_15 : ab_rn cl 87 J Q (k + 1) 15 μ [v0, v1] (.int x0 :: .ref a :: st) = (ab_ob a 6 ∧ st.length ≤ 4 ∧ cl 86 [.ref a, .int x0] μ (fun r μ' => ab_rn cl 87 J Q k 18 μ' [v0, v1] (ab_pu r st))) := x_v (as := [.int x0]) dX6_isNewOn_15 rfl rfl rfl rfl rfl
theorem e87_18 : ab_rn cl 87 J Q (k + 1) 18 μ [v0, v1] (.int x :: .ref a :: st) = ((a < 81 ∧ ab_ak a = 0) ∧ vp_in x (ab_al a) ∧ ab_rn cl 87 J Q k 19 μ [v0, v1] (.int (μ (ab_cmp a) (ab_off a + x.toNatClampNeg)) :: st)) := x_iaload dX6_isNewOn_18
theorem e87_19 : ab_rn cl 87 J Q (k + 1) 19 μ [v0, v1] (.int x :: st) = (((¬ x = 0) → ab_rn cl 87 J Q k 26 μ [v0, v1] st) ∧ ((¬ (¬ x = 0)) → ab_rn cl 87 J Q k 22 μ [v0, v1] st)) := x_ifF dX6_isNewOn_19 rfl (fun _ _ _ _ _ => rfl)
theorem e87_22 : ab_rn cl 87 J Q (k + 1) 22 μ [v0, v1] st = ab_rn cl 87 J Q k 23 μ [v0, v1] (.int 1 :: st) := x_iconst dX6_isNewOn_22 (by decide)
theorem e87_23 : ab_rn cl 87 J Q (k + 1) 23 μ [v0, v1] st = ab_rn cl 87 J Q k 27 μ [v0, v1] st := x_gotoF dX6_isNewOn_23 (fun _ _ _ _ _ => rfl)
theorem e87_26 : ab_rn cl 87 J Q (k + 1) 26 μ [v0, v1] st = ab_rn cl 87 J Q k 27 μ [v0, v1] (.int 0 :: st) := x_iconst dX6_isNewOn_26 (by decide)
theorem e87_27 : ab_rn cl 87 J Q (k + 1) 27 μ [v0, v1] [.int v] = ((v = 0 ∨ v = 1) ∧ Q (some v) μ) := x_zret dX6_isNewOn_27 rfl
theorem n87 {d : Nat} (h : ∀ J : ab_J, (∀ k pc μ ls st, ab_rn (ab_Cl d) 87 J Q k pc μ ls st → J pc μ ls st) → J 0 μ [v0, v1] []) : ab_Cl (d + 1) 87 [v0, v1] μ Q := ab_go h
theorem e88_0 : ab_rn cl 88 J Q (k + 1) 0 μ [.ref a, v1, v2, v3] st = ab_rn cl 88 J Q k 1 μ [.ref a, v1, v2, v3] (.ref a :: st) := x_aload_n dX6_drifts_0 rfl
theorem e88_1 : ab_rn cl 88 J Q (k + 1) 1 μ [v0, .int x, v2, v3] st = ab_rn cl 88 J Q k 2 μ [v0, .int x, v2, v3] (.int x :: st) := x_iload_n dX6_drifts_1 rfl
theorem e88_2 : ab_rn cl 88 J Q (k + 1) 2 μ [v0, v1, v2, v3] (.int x0 :: .ref a :: st) = (ab_ob a 6 ∧ st.length ≤ 4 ∧ cl 87 [.ref a, .int x0] μ (fun r μ' => ab_rn cl 88 J Q k 5 μ' [v0, v1, v2, v3] (ab_pu r st))) := x_v (as := [.int x0]) dX6_drifts_2 rfl rfl rfl rfl rfl
theorem e88_5 : ab_rn cl 88 J Q (k + 1) 5 μ [v0, v1, v2, v3] (.int x :: st) = (((¬ x = 0) → ab_rn cl 88 J Q k 9 μ [v0, v1, v2, v3] st) ∧ ((¬ (¬ x = 0)) → ab_rn cl 88 J Q k 8 μ [v0, v1, v2, v3] st)) := x_ifF dX6_drifts_5 rfl (fun _ _ _ _ _ => rfl)
theorem e88_8 : ab_rn cl 88 J Q (k + 1) 8 μ [v0, v1, v2, v3] [] = Q none μ := x_vret dX6_drifts_8 rfl
theorem e88_9 : ab_rn cl 88 J Q (k + 1) 9 μ [.ref a, v1, v2, v3] st = ab_rn cl 88 J Q k 10 μ [.ref a, v1, v2, v3] (.ref a :: st) := x_aload_n dX6_drifts_9 rfl
theorem e88_10 : ab_rn cl 88 J Q (k + 1) 10 μ [v0, v1, v2, v3] (.ref a :: st) = (ab_ob a 6 ∧ ab_rn cl 88 J Q k 13 μ [v0, v1, v2, v3] (ab_fv μ a 3 :: st)) := x_get dX6_drifts_10 rfl
theorem e88_13 : ab_rn cl 88 J Q (k + 1) 13 μ [.ref a, v1, v2, v3] st = ab_rn cl 88 J Q k 14 μ [.ref a, v1, v2, v3] (.ref a :: st) := x_aload_n dX6_drifts_13 rfl
theorem e88_14 : ab_rn cl 88 J Q (k + 1) 14 μ [v0, .int x, v2, v3] st = ab_rn cl 88 J Q k 15 μ [v0, .int x, v2, v3] (.int x :: st) := x_iload_n dX6_drifts_14 rfl
theorem e88_15 : ab_rn cl 88 J Q (k + 1) 15 μ [v0, v1, v2, v3] (.int x0 :: .ref a :: st) = (ab_ob a 6 ∧ st.length ≤ 4 ∧ cl 86 [.ref a, .int x0] μ (fun r μ' => ab_rn cl 88 J Q k 18 μ' [v0, v1, v2, v3] (ab_pu r st))) := x_v (as := [.int x0]) dX6_drifts_15 rfl rfl rfl rfl rfl
theorem e88_18 : ab_rn cl 88 J Q (k + 1) 18 μ [v0, v1, v2, v3] (.int x :: .ref a :: st) = ((a < 81 ∧ ab_ak a = 0) ∧ vp_in x (ab_al a) ∧ ab_rn cl 88 J Q k 19 μ [v0, v1, v2, v3] (.int (μ (ab_cmp a) (ab_off a + x.toNatClampNeg)) :: st)) := x_iaload dX6_drifts_18
theorem e88_19 : ab_rn cl 88 J Q (k + 1) 19 μ [.ref a, v1, v2, v3] st = ab_rn cl 88 J Q k 20 μ [.ref a, v1, v2, v3] (.ref a :: st) := x_aload_n dX6_drifts_19 rfl
theorem e88_20 : ab_rn cl 88 J Q (k + 1) 20 μ [v0, v1, v2, v3] (.ref a :: st) = (ab_ob a 6 ∧ ab_rn cl 88 J Q k 23 μ [v0, v1, v2, v3] (ab_fv μ a 9 :: st)) := x_get dX6_drifts_20 rfl
theorem e88_23 : ab_rn cl 88 J Q (k + 1) 23 μ [v0, v1, v2, v3] (.int y :: .int x :: st) = ab_rn cl 88 J Q k 24 μ [v0, v1, v2, v3] (.int (x * y) :: st) := x_imul dX6_drifts_23
theorem e88_24 : ab_rn cl 88 J Q (k + 1) 24 μ [v0, v1, v2, v3] st = ab_rn cl 88 J Q k 25 μ [v0, v1, v2, v3] (.int 4 :: st) := x_iconst dX6_drifts_24 (by decide)
theorem e88_25 : ab_rn cl 88 J Q (k + 1) 25 μ [v0, v1, v2, v3] (.int y :: .int x :: st) = ab_rn cl 88 J Q k 26 μ [v0, v1, v2, v3] (.int (x * y) :: st) := x_imul dX6_drifts_25
theorem e88_26 : ab_rn cl 88 J Q (k + 1) 26 μ [v0, v1, v2, v3] st = ab_rn cl 88 J Q k 28 μ [v0, v1, v2, v3] (.int 100 :: st) := x_bipush dX6_drifts_26 (by decide)
theorem e88_28 : ab_rn cl 88 J Q (k + 1) 28 μ [v0, v1, v2, v3] (.int y :: .int x :: st) = ((¬ y = 0) ∧ ab_rn cl 88 J Q k 29 μ [v0, v1, v2, v3] (.int (x / y) :: st)) := x_idiv dX6_drifts_28
theorem e88_29 : ab_rn cl 88 J Q (k + 1) 29 μ [v0, v1, v2, v3] (.int x :: st) = ab_rn cl 88 J Q k 30 μ [v0, v1, v2, .int x] st := x_istore_n dX6_drifts_29 (Nat.le_of_ble_eq_true rfl) rfl
theorem e88_30 : ab_rn cl 88 J Q (k + 1) 30 μ [v0, v1, v2, .int x] st = ab_rn cl 88 J Q k 31 μ [v0, v1, v2, .int x] (.int x :: st) := x_iload_n dX6_drifts_30 rfl
theorem e88_31 : ab_rn cl 88 J Q (k + 1) 31 μ [v0, v1, v2, v3] (.int x :: st) = (((¬ x = 0) → ab_rn cl 88 J Q k 35 μ [v0, v1, v2, v3] st) ∧ ((¬ (¬ x = 0)) → ab_rn cl 88 J Q k 34 μ [v0, v1, v2, v3] st)) := x_ifF dX6_drifts_31 rfl (fun _ _ _ _ _ => rfl)
theorem e88_34 : ab_rn cl 88 J Q (k + 1) 34 μ [v0, v1, v2, v3] [] = Q none μ := x_vret dX6_drifts_34 rfl
theorem e88_35 : ab_rn cl 88 J Q (k + 1) 35 μ [.ref a, v1, v2, v3] st = ab_rn cl 88 J Q k 36 μ [.ref a, v1, v2, v3] (.ref a :: st) := x_aload_n dX6_drifts_35 rfl
theorem e88_36 : ab_rn cl 88 J Q (k + 1) 36 μ [v0, v1, v2, v3] (.ref a :: st) = (ab_ob a 6 ∧ ab_rn cl 88 J Q k 39 μ [v0, v1, v2, v3] (ab_fv μ a 3 :: st)) := x_get dX6_drifts_36 rfl
theorem e88_39 : ab_rn cl 88 J Q (k + 1) 39 μ [.ref a, v1, v2, v3] st = ab_rn cl 88 J Q k 40 μ [.ref a, v1, v2, v3] (.ref a :: st) := x_aload_n dX6_drifts_39 rfl
theorem e88_40 : ab_rn cl 88 J Q (k + 1) 40 μ [v0, .int x, v2, v3] st = ab_rn cl 88 J Q k 41 μ [v0, .int x, v2, v3] (.int x :: st) := x_iload_n dX6_drifts_40 rfl
theorem e88_41 : ab_rn cl 88 J Q (k + 1) 41 μ [v0, v1, v2, v3] (.int x0 :: .ref a :: st) = (ab_ob a 6 ∧ st.length ≤ 4 ∧ cl 86 [.ref a, .int x0] μ (fun r μ' => ab_rn cl 88 J Q k 44 μ' [v0, v1, v2, v3] (ab_pu r st))) := x_v (as := [.int x0]) dX6_drifts_41 rfl rfl rfl rfl rfl
theorem e88_44 : ab_rn cl 88 J Q (k + 1) 44 μ [v0, v1, v2, v3] (.int x :: .ref a :: st) = ab_rn cl 88 J Q k 45 μ [v0, v1, v2, v3] (.int x :: .ref a :: .int x :: .ref a :: st) := x_dup2 dX6_drifts_44
theorem e88_45 : ab_rn cl 88 J Q (k + 1) 45 μ [v0, v1, v2, v3] (.int x :: .ref a :: st) = ((a < 81 ∧ ab_ak a = 0) ∧ vp_in x (ab_al a) ∧ ab_rn cl 88 J Q k 46 μ [v0, v1, v2, v3] (.int (μ (ab_cmp a) (ab_off a + x.toNatClampNeg)) :: st)) := x_iaload dX6_drifts_45
theorem e88_46 : ab_rn cl 88 J Q (k + 1) 46 μ [v0, v1, v2, .int x] st = ab_rn cl 88 J Q k 47 μ [v0, v1, v2, .int x] (.int x :: st) := x_iload_n dX6_drifts_46 rfl
theorem e88_47 : ab_rn cl 88 J Q (k + 1) 47 μ [v0, v1, v2, v3] (.int y :: .int x :: st) = ab_rn cl 88 J Q k 48 μ [v0, v1, v2, v3] (.int (x - y) :: st) := x_isub dX6_drifts_47
theorem e88_48 : ab_rn cl 88 J Q (k + 1) 48 μ [v0, v1, v2, v3] (.int v :: .int x :: .ref a :: st) = ((a < 81 ∧ ab_ak a = 0) ∧ vp_in x (ab_al a) ∧ ab_rn cl 88 J Q k 49 (ab_up μ (ab_cmp a) (ab_off a + x.toNatClampNeg) v) [v0, v1, v2, v3] st) := x_iastore dX6_drifts_48
theorem e88_49 : ab_rn cl 88 J Q (k + 1) 49 μ [.ref a, v1, v2, v3] st = ab_rn cl 88 J Q k 50 μ [.ref a, v1, v2, v3] (.ref a :: st) := x_aload_n dX6_drifts_49 rfl
theorem e88_50 : ab_rn cl 88 J Q (k + 1) 50 μ [v0, v1, .int x, v3] st = ab_rn cl 88 J Q k 51 μ [v0, v1, .int x, v3] (.int x :: st) := x_iload_n dX6_drifts_50 rfl
theorem e88_51 : ab_rn cl 88 J Q (k + 1) 51 μ [v0, v1, v2, v3] (.int x0 :: .ref a :: st) = (ab_ob a 6 ∧ st.length ≤ 4 ∧ cl 87 [.ref a, .int x0] μ (fun r μ' => ab_rn cl 88 J Q k 54 μ' [v0, v1, v2, v3] (ab_pu r st))) := x_v (as := [.int x0]) dX6_drifts_51 rfl rfl rfl rfl rfl
theorem e88_54 : ab_rn cl 88 J Q (k + 1) 54 μ [v0, v1, v2, v3] (.int x :: st) = (((x = 0) → ab_rn cl 88 J Q k 74 μ [v0, v1, v2, v3] st) ∧ ((¬ (x = 0)) → ab_rn cl 88 J Q k 57 μ [v0, v1, v2, v3] st)) := x_ifF dX6_drifts_54 rfl (fun _ _ _ _ _ => rfl)
theorem e88_57 : ab_rn cl 88 J Q (k + 1) 57 μ [.ref a, v1, v2, v3] st = ab_rn cl 88 J Q k 58 μ [.ref a, v1, v2, v3] (.ref a :: st) := x_aload_n dX6_drifts_57 rfl
theorem e88_58 : ab_rn cl 88 J Q (k + 1) 58 μ [v0, v1, v2, v3] (.ref a :: st) = (ab_ob a 6 ∧ ab_rn cl 88 J Q k 61 μ [v0, v1, v2, v3] (ab_fv μ a 3 :: st)) := x_get dX6_drifts_58 rfl
theorem e88_61 : ab_rn cl 88 J Q (k + 1) 61 μ [.ref a, v1, v2, v3] st = ab_rn cl 88 J Q k 62 μ [.ref a, v1, v2, v3] (.ref a :: st) := x_aload_n dX6_drifts_61 rfl
theorem e88_62 : ab_rn cl 88 J Q (k + 1) 62 μ [v0, v1, .int x, v3] st = ab_rn cl 88 J Q k 63 μ [v0, v1, .int x, v3] (.int x :: st) := x_iload_n dX6_drifts_62 rfl
theorem e88_63 : ab_rn cl 88 J Q (k + 1) 63 μ [v0, v1, v2, v3] (.int x0 :: .ref a :: st) = (ab_ob a 6 ∧ st.length ≤ 4 ∧ cl 86 [.ref a, .int x0] μ (fun r μ' => ab_rn cl 88 J Q k 66 μ' [v0, v1, v2, v3] (ab_pu r st))) := x_v (as := [.int x0]) dX6_drifts_63 rfl rfl rfl rfl rfl
theorem e88_66 : ab_rn cl 88 J Q (k + 1) 66 μ [v0, v1, v2, v3] (.int x :: .ref a :: st) = ab_rn cl 88 J Q k 67 μ [v0, v1, v2, v3] (.int x :: .ref a :: .int x :: .ref a :: st) := x_dup2 dX6_drifts_66
theorem e88_67 : ab_rn cl 88 J Q (k + 1) 67 μ [v0, v1, v2, v3] (.int x :: .ref a :: st) = ((a < 81 ∧ ab_ak a = 0) ∧ vp_in x (ab_al a) ∧ ab_rn cl 88 J Q k 68 μ [v0, v1, v2, v3] (.int (μ (ab_cmp a) (ab_off a + x.toNatClampNeg)) :: st)) := x_iaload dX6_drifts_67
theorem e88_68 : ab_rn cl 88 J Q (k + 1) 68 μ [v0, v1, v2, .int x] st = ab_rn cl 88 J Q k 69 μ [v0, v1, v2, .int x] (.int x :: st) := x_iload_n dX6_drifts_68 rfl
theorem e88_69 : ab_rn cl 88 J Q (k + 1) 69 μ [v0, v1, v2, v3] (.int y :: .int x :: st) = ab_rn cl 88 J Q k 70 μ [v0, v1, v2, v3] (.int (x + y) :: st) := x_iadd dX6_drifts_69
theorem e88_70 : ab_rn cl 88 J Q (k + 1) 70 μ [v0, v1, v2, v3] (.int v :: .int x :: .ref a :: st) = ((a < 81 ∧ ab_ak a = 0) ∧ vp_in x (ab_al a) ∧ ab_rn cl 88 J Q k 71 (ab_up μ (ab_cmp a) (ab_off a + x.toNatClampNeg) v) [v0, v1, v2, v3] st) := x_iastore dX6_drifts_70
theorem e88_71 : ab_rn cl 88 J Q (k + 1) 71 μ [v0, v1, v2, v3] st = ab_rn cl 88 J Q k 80 μ [v0, v1, v2, v3] st := x_gotoF dX6_drifts_71 (fun _ _ _ _ _ => rfl)
theorem e88_74 : ab_rn cl 88 J Q (k + 1) 74 μ [.ref a, v1, v2, v3] st = ab_rn cl 88 J Q k 75 μ [.ref a, v1, v2, v3] (.ref a :: st) := x_aload_n dX6_drifts_74 rfl
theorem e88_75 : ab_rn cl 88 J Q (k + 1) 75 μ [v0, v1, .int x, v3] st = ab_rn cl 88 J Q k 76 μ [v0, v1, .int x, v3] (.int x :: st) := x_iload_n dX6_drifts_75 rfl
theorem e88_76 : ab_rn cl 88 J Q (k + 1) 76 μ [v0, v1, v2, .int x] st = ab_rn cl 88 J Q k 77 μ [v0, v1, v2, .int x] (.int x :: st) := x_iload_n dX6_drifts_76 rfl
theorem e88_77 : ab_rn cl 88 J Q (k + 1) 77 μ [v0, v1, v2, v3] (.int x1 :: .int x0 :: .ref a :: st) = (ab_ob a 6 ∧ st.length ≤ 4 ∧ cl 84 [.ref a, .int x0, .int x1] μ (fun r μ' => ab_rn cl 88 J Q k 80 μ' [v0, v1, v2, v3] (ab_pu r st))) := x_v (as := [.int x0, .int x1]) dX6_drifts_77 rfl rfl rfl rfl rfl
theorem e88_80 : ab_rn cl 88 J Q (k + 1) 80 μ [v0, v1, v2, v3] [] = Q none μ := x_vret dX6_drifts_80 rfl
theorem n88 {d : Nat} (h : ∀ J : ab_J, (∀ k pc μ ls st, ab_rn (ab_Cl d) 88 J Q k pc μ ls st → J pc μ ls st) → J 0 μ [v0, v1, v2, .null] []) : ab_Cl (d + 1) 88 [v0, v1, v2] μ Q := ab_go h
theorem e89_0 : ab_rn cl 89 J Q (k + 1) 0 μ [v0, v1, v2] st = ab_rn cl 89 J Q k 2 μ [v0, v1, v2] (.int 10 :: st) := x_bipush dX6_ages_0 (by decide)
theorem e89_2 : ab_rn cl 89 J Q (k + 1) 2 μ [v0, .int x, v2] st = ab_rn cl 89 J Q k 3 μ [v0, .int x, v2] (.int x :: st) := x_iload_n dX6_ages_2 rfl
theorem e89_3 : ab_rn cl 89 J Q (k + 1) 3 μ [v0, v1, v2] (.int y :: .int x :: st) = ab_rn cl 89 J Q k 4 μ [v0, v1, v2] (.int (x * y) :: st) := x_imul dX6_ages_3
theorem e89_4 : ab_rn cl 89 J Q (k + 1) 4 μ [v0, v1, v2] (.int x :: st) = ab_rn cl 89 J Q k 5 μ [v0, v1, .int x] st := x_istore_n dX6_ages_4 (Nat.le_of_ble_eq_true rfl) rfl
theorem e89_5 : ab_rn cl 89 J Q (k + 1) 5 μ [v0, v1, .int x] st = ab_rn cl 89 J Q k 6 μ [v0, v1, .int x] (.int x :: st) := x_iload_n dX6_ages_5 rfl
theorem e89_6 : ab_rn cl 89 J Q (k + 1) 6 μ [v0, v1, v2] st = ab_rn cl 89 J Q k 8 μ [v0, v1, v2] (.int 10 :: st) := x_bipush dX6_ages_6 (by decide)
theorem e89_8 : ab_rn cl 89 J Q (k + 1) 8 μ [v0, .int x, v2] st = ab_rn cl 89 J Q k 9 μ [v0, .int x, v2] (.int x :: st) := x_iload_n dX6_ages_8 rfl
theorem e89_9 : ab_rn cl 89 J Q (k + 1) 9 μ [v0, v1, v2] (.int y :: .int x :: st) = ab_rn cl 89 J Q k 10 μ [v0, v1, v2] (.int (x * y) :: st) := x_imul dX6_ages_9
theorem e89_10 : ab_rn cl 89 J Q (k + 1) 10 μ [.ref a, v1, v2] st = ab_rn cl 89 J Q k 11 μ [.ref a, v1, v2] (.ref a :: st) := x_aload_n dX6_ages_10 rfl
theorem e89_11 : ab_rn cl 89 J Q (k + 1) 11 μ [v0, v1, v2] (.ref a :: st) = (ab_ob a 6 ∧ ab_rn cl 89 J Q k 14 μ [v0, v1, v2] (ab_fv μ a 1 :: st)) := x_get dX6_ages_11 rfl
theorem e89_14 : ab_rn cl 89 J Q (k + 1) 14 μ [v0, .int x, v2] st = ab_rn cl 89 J Q k 15 μ [v0, .int x, v2] (.int x :: st) := x_iload_n dX6_ages_14 rfl
theorem e89_15 : ab_rn cl 89 J Q (k + 1) 15 μ [v0, v1, v2] (.int x :: .ref a :: st) = ((a < 81 ∧ ab_ak a = 0) ∧ vp_in x (ab_al a) ∧ ab_rn cl 89 J Q k 16 μ [v0, v1, v2] (.int (μ (ab_cmp a) (ab_off a + x.toNatClampNeg)) :: st)) := x_iaload dX6_ages_15
theorem e89_16 : ab_rn cl 89 J Q (k + 1) 16 μ [v0, v1, v2] (.int y :: .int x :: st) = ab_rn cl 89 J Q k 17 μ [v0, v1, v2] (.int (x + y) :: st) := x_iadd dX6_ages_16
theorem e89_17 : ab_rn cl 89 J Q (k + 1) 17 μ [v0, v1, v2] (.int y :: .int x :: st) = (((y ≤ x) → ab_rn cl 89 J Q k 109 μ [v0, v1, v2] st) ∧ ((¬ (y ≤ x)) → ab_rn cl 89 J Q k 20 μ [v0, v1, v2] st)) := x_icmpF dX6_ages_17 rfl (fun _ _ _ _ _ => rfl)
theorem e89_20 : ab_rn cl 89 J Q (k + 1) 20 μ [.ref a, v1, v2] st = ab_rn cl 89 J Q k 21 μ [.ref a, v1, v2] (.ref a :: st) := x_aload_n dX6_ages_20 rfl
theorem e89_21 : ab_rn cl 89 J Q (k + 1) 21 μ [v0, v1, v2] (.ref a :: st) = (ab_ob a 6 ∧ ab_rn cl 89 J Q k 24 μ [v0, v1, v2] (ab_fv μ a 2 :: st)) := x_get dX6_ages_21 rfl
theorem e89_24 : ab_rn cl 89 J Q (k + 1) 24 μ [v0, v1, .int x] st = ab_rn cl 89 J Q k 25 μ [v0, v1, .int x] (.int x :: st) := x_iload_n dX6_ages_24 rfl
theorem e89_25 : ab_rn cl 89 J Q (k + 1) 25 μ [v0, v1, v2] (.int x :: .ref a :: st) = ((a < 81 ∧ ab_ak a = 0) ∧ vp_in x (ab_al a) ∧ ab_rn cl 89 J Q k 26 μ [v0, v1, v2] (.int (μ (ab_cmp a) (ab_off a + x.toNatClampNeg)) :: st)) := x_iaload dX6_ages_25
theorem e89_26 : ab_rn cl 89 J Q (k + 1) 26 μ [v0, v1, v2] (.int x :: st) = (((¬ x = 0) → ab_rn cl 89 J Q k 75 μ [v0, v1, v2] st) ∧ ((¬ (¬ x = 0)) → ab_rn cl 89 J Q k 29 μ [v0, v1, v2] st)) := x_ifF dX6_ages_26 rfl (fun _ _ _ _ _ => rfl)
theorem e89_29 : ab_rn cl 89 J Q (k + 1) 29 μ [.ref a, v1, v2] st = ab_rn cl 89 J Q k 30 μ [.ref a, v1, v2] (.ref a :: st) := x_aload_n dX6_ages_29 rfl
theorem e89_30 : ab_rn cl 89 J Q (k + 1) 30 μ [v0, v1, v2] (.ref a :: st) = (ab_ob a 6 ∧ ab_rn cl 89 J Q k 33 μ [v0, v1, v2] (ab_fv μ a 4 :: st)) := x_get dX6_ages_30 rfl
theorem e89_33 : ab_rn cl 89 J Q (k + 1) 33 μ [v0, v1, .int x] st = ab_rn cl 89 J Q k 34 μ [v0, v1, .int x] (.int x :: st) := x_iload_n dX6_ages_33 rfl
theorem e89_34 : ab_rn cl 89 J Q (k + 1) 34 μ [v0, v1, v2] (.int x :: .ref a :: st) = ((a < 81 ∧ ab_ak a = 0) ∧ vp_in x (ab_al a) ∧ ab_rn cl 89 J Q k 35 μ [v0, v1, v2] (.int (μ (ab_cmp a) (ab_off a + x.toNatClampNeg)) :: st)) := x_iaload dX6_ages_34
theorem e89_35 : ab_rn cl 89 J Q (k + 1) 35 μ [v0, v1, v2] st = ab_rn cl 89 J Q k 36 μ [v0, v1, v2] (.int 3 :: st) := x_iconst dX6_ages_35 (by decide)
theorem e89_36 : ab_rn cl 89 J Q (k + 1) 36 μ [v0, v1, v2] (.int y :: .int x :: st) = (((x < y) → ab_rn cl 89 J Q k 75 μ [v0, v1, v2] st) ∧ ((¬ (x < y)) → ab_rn cl 89 J Q k 39 μ [v0, v1, v2] st)) := x_icmpF dX6_ages_36 rfl (fun _ _ _ _ _ => rfl)
theorem e89_39 : ab_rn cl 89 J Q (k + 1) 39 μ [.ref a, v1, v2] st = ab_rn cl 89 J Q k 40 μ [.ref a, v1, v2] (.ref a :: st) := x_aload_n dX6_ages_39 rfl
theorem e89_40 : ab_rn cl 89 J Q (k + 1) 40 μ [v0, v1, v2] (.ref a :: st) = (ab_ob a 6 ∧ ab_rn cl 89 J Q k 43 μ [v0, v1, v2] (ab_fv μ a 2 :: st)) := x_get dX6_ages_40 rfl
theorem e89_43 : ab_rn cl 89 J Q (k + 1) 43 μ [v0, v1, .int x] st = ab_rn cl 89 J Q k 44 μ [v0, v1, .int x] (.int x :: st) := x_iload_n dX6_ages_43 rfl
theorem e89_44 : ab_rn cl 89 J Q (k + 1) 44 μ [.ref a, v1, v2] st = ab_rn cl 89 J Q k 45 μ [.ref a, v1, v2] (.ref a :: st) := x_aload_n dX6_ages_44 rfl
theorem e89_45 : ab_rn cl 89 J Q (k + 1) 45 μ [v0, v1, v2] (.ref a :: st) = (ab_ob a 6 ∧ ab_rn cl 89 J Q k 48 μ [v0, v1, v2] (ab_fv μ a 7 :: st)) := x_get dX6_ages_45 rfl
theorem e89_48 : ab_rn cl 89 J Q (k + 1) 48 μ [v0, .int x, v2] st = ab_rn cl 89 J Q k 49 μ [v0, .int x, v2] (.int x :: st) := x_iload_n dX6_ages_48 rfl
theorem e89_49 : ab_rn cl 89 J Q (k + 1) 49 μ [v0, v1, v2] st = ab_rn cl 89 J Q k 50 μ [v0, v1, v2] (.int 4 :: st) := x_iconst dX6_ages_49 (by decide)
theorem e89_50 : ab_rn cl 89 J Q (k + 1) 50 μ [v0, v1, v2] (.int y :: .int x :: st) = ((¬ y = 0) ∧ ab_rn cl 89 J Q k 51 μ [v0, v1, v2] (.int (x / y) :: st)) := x_idiv dX6_ages_50
theorem e89_51 : ab_rn cl 89 J Q (k + 1) 51 μ [v0, v1, v2] (.int x :: .ref a :: st) = ((a < 81 ∧ ab_ak a = 0) ∧ vp_in x (ab_al a) ∧ ab_rn cl 89 J Q k 52 μ [v0, v1, v2] (.int (μ (ab_cmp a) (ab_off a + x.toNatClampNeg)) :: st)) := x_iaload dX6_ages_51
theorem e89_52 : ab_rn cl 89 J Q (k + 1) 52 μ [v0, v1, v2] st = ab_rn cl 89 J Q k 54 μ [v0, v1, v2] (.int (-8) :: st) := x_bipush dX6_ages_52 (by decide)
theorem e89_54 : ab_rn cl 89 J Q (k + 1) 54 μ [v0, v1, v2] (.int y :: .int x :: st) = (((y < x) → ab_rn cl 89 J Q k 69 μ [v0, v1, v2] st) ∧ ((¬ (y < x)) → ab_rn cl 89 J Q k 57 μ [v0, v1, v2] st)) := x_icmpF dX6_ages_54 rfl (fun _ _ _ _ _ => rfl)
theorem e89_57 : ab_rn cl 89 J Q (k + 1) 57 μ [.ref a, v1, v2] st = ab_rn cl 89 J Q k 58 μ [.ref a, v1, v2] (.ref a :: st) := x_aload_n dX6_ages_57 rfl
theorem e89_58 : ab_rn cl 89 J Q (k + 1) 58 μ [v0, v1, v2] (.ref a :: st) = (ab_ob a 6 ∧ ab_rn cl 89 J Q k 61 μ [v0, v1, v2] (ab_fv μ a 3 :: st)) := x_get dX6_ages_58 rfl
theorem e89_61 : ab_rn cl 89 J Q (k + 1) 61 μ [v0, v1, .int x] st = ab_rn cl 89 J Q k 62 μ [v0, v1, .int x] (.int x :: st) := x_iload_n dX6_ages_61 rfl
theorem e89_62 : ab_rn cl 89 J Q (k + 1) 62 μ [v0, v1, v2] (.int x :: .ref a :: st) = ((a < 81 ∧ ab_ak a = 0) ∧ vp_in x (ab_al a) ∧ ab_rn cl 89 J Q k 63 μ [v0, v1, v2] (.int (μ (ab_cmp a) (ab_off a + x.toNatClampNeg)) :: st)) := x_iaload dX6_ages_62
theorem e89_63 : ab_rn cl 89 J Q (k + 1) 63 μ [v0, v1, v2] st = ab_rn cl 89 J Q k 66 μ [v0, v1, v2] (.int 300 :: st) := x_sipush dX6_ages_63 (by decide)
theorem e89_66 : ab_rn cl 89 J Q (k + 1) 66 μ [v0, v1, v2] (.int y :: .int x :: st) = (((x < y) → ab_rn cl 89 J Q k 73 μ [v0, v1, v2] st) ∧ ((¬ (x < y)) → ab_rn cl 89 J Q k 69 μ [v0, v1, v2] st)) := x_icmpF dX6_ages_66 rfl (fun _ _ _ _ _ => rfl)
theorem e89_69 : ab_rn cl 89 J Q (k + 1) 69 μ [v0, v1, v2] st = ab_rn cl 89 J Q k 70 μ [v0, v1, v2] (.int 1 :: st) := x_iconst dX6_ages_69 (by decide)
theorem e89_70 : ab_rn cl 89 J Q (k + 1) 70 μ [v0, v1, v2] st = ab_rn cl 89 J Q k 74 μ [v0, v1, v2] st := x_gotoF dX6_ages_70 (fun _ _ _ _ _ => rfl)
theorem e89_73 : ab_rn cl 89 J Q (k + 1) 73 μ [v0, v1, v2] st = ab_rn cl 89 J Q k 74 μ [v0, v1, v2] (.int 2 :: st) := x_iconst dX6_ages_73 (by decide)
theorem e89_74 : ab_rn cl 89 J Q (k + 1) 74 μ [v0, v1, v2] (.int v :: .int x :: .ref a :: st) = ((a < 81 ∧ ab_ak a = 0) ∧ vp_in x (ab_al a) ∧ ab_rn cl 89 J Q k 75 (ab_up μ (ab_cmp a) (ab_off a + x.toNatClampNeg) v) [v0, v1, v2] st) := x_iastore dX6_ages_74
theorem e89_75 : ab_rn cl 89 J Q (k + 1) 75 μ [.ref a, v1, v2] st = ab_rn cl 89 J Q k 76 μ [.ref a, v1, v2] (.ref a :: st) := x_aload_n dX6_ages_75 rfl
theorem e89_76 : ab_rn cl 89 J Q (k + 1) 76 μ [v0, v1, v2] (.ref a :: st) = (ab_ob a 6 ∧ ab_rn cl 89 J Q k 79 μ [v0, v1, v2] (ab_fv μ a 2 :: st)) := x_get dX6_ages_76 rfl
theorem e89_79 : ab_rn cl 89 J Q (k + 1) 79 μ [v0, v1, .int x] st = ab_rn cl 89 J Q k 80 μ [v0, v1, .int x] (.int x :: st) := x_iload_n dX6_ages_79 rfl
theorem e89_80 : ab_rn cl 89 J Q (k + 1) 80 μ [v0, v1, v2] (.int x :: .ref a :: st) = ((a < 81 ∧ ab_ak a = 0) ∧ vp_in x (ab_al a) ∧ ab_rn cl 89 J Q k 81 μ [v0, v1, v2] (.int (μ (ab_cmp a) (ab_off a + x.toNatClampNeg)) :: st)) := x_iaload dX6_ages_80
theorem e89_81 : ab_rn cl 89 J Q (k + 1) 81 μ [v0, v1, v2] st = ab_rn cl 89 J Q k 82 μ [v0, v1, v2] (.int 2 :: st) := x_iconst dX6_ages_81 (by decide)
theorem e89_82 : ab_rn cl 89 J Q (k + 1) 82 μ [v0, v1, v2] (.int y :: .int x :: st) = (((¬ x = y) → ab_rn cl 89 J Q k 103 μ [v0, v1, v2] st) ∧ ((¬ (¬ x = y)) → ab_rn cl 89 J Q k 85 μ [v0, v1, v2] st)) := x_icmpF dX6_ages_82 rfl (fun _ _ _ _ _ => rfl)
theorem e89_85 : ab_rn cl 89 J Q (k + 1) 85 μ [.ref a, v1, v2] st = ab_rn cl 89 J Q k 86 μ [.ref a, v1, v2] (.ref a :: st) := x_aload_n dX6_ages_85 rfl
theorem e89_86 : ab_rn cl 89 J Q (k + 1) 86 μ [v0, v1, v2] (.ref a :: st) = (ab_ob a 6 ∧ ab_rn cl 89 J Q k 89 μ [v0, v1, v2] (ab_fv μ a 4 :: st)) := x_get dX6_ages_86 rfl
theorem e89_89 : ab_rn cl 89 J Q (k + 1) 89 μ [v0, v1, .int x] st = ab_rn cl 89 J Q k 90 μ [v0, v1, .int x] (.int x :: st) := x_iload_n dX6_ages_89 rfl
theorem e89_90 : ab_rn cl 89 J Q (k + 1) 90 μ [v0, v1, v2] (.int x :: .ref a :: st) = ((a < 81 ∧ ab_ak a = 0) ∧ vp_in x (ab_al a) ∧ ab_rn cl 89 J Q k 91 μ [v0, v1, v2] (.int (μ (ab_cmp a) (ab_off a + x.toNatClampNeg)) :: st)) := x_iaload dX6_ages_90
theorem e89_91 : ab_rn cl 89 J Q (k + 1) 91 μ [v0, v1, v2] st = ab_rn cl 89 J Q k 93 μ [v0, v1, v2] (.int 20 :: st) := x_bipush dX6_ages_91 (by decide)
theorem e89_93 : ab_rn cl 89 J Q (k + 1) 93 μ [v0, v1, v2] (.int y :: .int x :: st) = (((x < y) → ab_rn cl 89 J Q k 103 μ [v0, v1, v2] st) ∧ ((¬ (x < y)) → ab_rn cl 89 J Q k 96 μ [v0, v1, v2] st)) := x_icmpF dX6_ages_93 rfl (fun _ _ _ _ _ => rfl)
theorem e89_96 : ab_rn cl 89 J Q (k + 1) 96 μ [.ref a, v1, v2] st = ab_rn cl 89 J Q k 97 μ [.ref a, v1, v2] (.ref a :: st) := x_aload_n dX6_ages_96 rfl
theorem e89_97 : ab_rn cl 89 J Q (k + 1) 97 μ [v0, v1, v2] (.ref a :: st) = (ab_ob a 6 ∧ ab_rn cl 89 J Q k 100 μ [v0, v1, v2] (ab_fv μ a 2 :: st)) := x_get dX6_ages_97 rfl
theorem e89_100 : ab_rn cl 89 J Q (k + 1) 100 μ [v0, v1, .int x] st = ab_rn cl 89 J Q k 101 μ [v0, v1, .int x] (.int x :: st) := x_iload_n dX6_ages_100 rfl
theorem e89_101 : ab_rn cl 89 J Q (k + 1) 101 μ [v0, v1, v2] st = ab_rn cl 89 J Q k 102 μ [v0, v1, v2] (.int 1 :: st) := x_iconst dX6_ages_101 (by decide)
theorem e89_102 : ab_rn cl 89 J Q (k + 1) 102 μ [v0, v1, v2] (.int v :: .int x :: .ref a :: st) = ((a < 81 ∧ ab_ak a = 0) ∧ vp_in x (ab_al a) ∧ ab_rn cl 89 J Q k 103 (ab_up μ (ab_cmp a) (ab_off a + x.toNatClampNeg) v) [v0, v1, v2] st) := x_iastore dX6_ages_102
theorem e89_103 : ab_rn cl 89 J Q (k + 1) 103 μ [v0, v1, .int x] st = ab_rn cl 89 J Q k 106 μ [v0, v1, .int (x + 1)] st := x_iinc dX6_ages_103 (w := 1) (by decide) rfl rfl
theorem e89_106 : ab_rn cl 89 J Q (k + 1) 106 μ [v0, v1, v2] st = J 5 μ [v0, v1, v2] st := x_gotoB dX6_ages_106 (fun _ _ _ _ _ => rfl)
theorem e89_109 : ab_rn cl 89 J Q (k + 1) 109 μ [v0, v1, v2] [] = Q none μ := x_vret dX6_ages_109 rfl
theorem n89 {d : Nat} (h : ∀ J : ab_J, (∀ k pc μ ls st, ab_rn (ab_Cl d) 89 J Q k pc μ ls st → J pc μ ls st) → J 0 μ [v0, v1, .null] []) : ab_Cl (d + 1) 89 [v0, v1] μ Q := ab_go h
theorem e90_0 : ab_rn cl 90 J Q (k + 1) 0 μ [v0, v1, v2, v3] st = ab_rn cl 90 J Q k 2 μ [v0, v1, v2, v3] (.int 6 :: st) := x_bipush dX6_melts_0 (by decide)
theorem e90_2 : ab_rn cl 90 J Q (k + 1) 2 μ [.ref a, v1, v2, v3] st = ab_rn cl 90 J Q k 3 μ [.ref a, v1, v2, v3] (.ref a :: st) := x_aload_n dX6_melts_2 rfl
theorem e90_3 : ab_rn cl 90 J Q (k + 1) 3 μ [v0, v1, v2, v3] (.ref a :: st) = (ab_ob a 6 ∧ ab_rn cl 90 J Q k 6 μ [v0, v1, v2, v3] (ab_fv μ a 7 :: st)) := x_get dX6_melts_3 rfl
theorem e90_6 : ab_rn cl 90 J Q (k + 1) 6 μ [v0, .int x, v2, v3] st = ab_rn cl 90 J Q k 7 μ [v0, .int x, v2, v3] (.int x :: st) := x_iload_n dX6_melts_6 rfl
theorem e90_7 : ab_rn cl 90 J Q (k + 1) 7 μ [v0, v1, v2, v3] st = ab_rn cl 90 J Q k 8 μ [v0, v1, v2, v3] (.int 4 :: st) := x_iconst dX6_melts_7 (by decide)
theorem e90_8 : ab_rn cl 90 J Q (k + 1) 8 μ [v0, v1, v2, v3] (.int y :: .int x :: st) = ((¬ y = 0) ∧ ab_rn cl 90 J Q k 9 μ [v0, v1, v2, v3] (.int (x / y) :: st)) := x_idiv dX6_melts_8
theorem e90_9 : ab_rn cl 90 J Q (k + 1) 9 μ [v0, v1, v2, v3] (.int x :: .ref a :: st) = ((a < 81 ∧ ab_ak a = 0) ∧ vp_in x (ab_al a) ∧ ab_rn cl 90 J Q k 10 μ [v0, v1, v2, v3] (.int (μ (ab_cmp a) (ab_off a + x.toNatClampNeg)) :: st)) := x_iaload dX6_melts_9
theorem e90_10 : ab_rn cl 90 J Q (k + 1) 10 μ [v0, v1, v2, v3] (.int y :: .int x :: st) = ab_rn cl 90 J Q k 11 μ [v0, v1, v2, v3] (.int (x * y) :: st) := x_imul dX6_melts_10
theorem e90_11 : ab_rn cl 90 J Q (k + 1) 11 μ [v0, v1, v2, v3] (.int x :: st) = ab_rn cl 90 J Q k 12 μ [v0, v1, .int x, v3] st := x_istore_n dX6_melts_11 (Nat.le_of_ble_eq_true rfl) rfl
theorem e90_12 : ab_rn cl 90 J Q (k + 1) 12 μ [v0, v1, .int x, v3] st = ab_rn cl 90 J Q k 13 μ [v0, v1, .int x, v3] (.int x :: st) := x_iload_n dX6_melts_12 rfl
theorem e90_13 : ab_rn cl 90 J Q (k + 1) 13 μ [v0, v1, v2, v3] (.int x :: st) = (((0 < x) → ab_rn cl 90 J Q k 17 μ [v0, v1, v2, v3] st) ∧ ((¬ (0 < x)) → ab_rn cl 90 J Q k 16 μ [v0, v1, v2, v3] st)) := x_ifF dX6_melts_13 rfl (fun _ _ _ _ _ => rfl)
theorem e90_16 : ab_rn cl 90 J Q (k + 1) 16 μ [v0, v1, v2, v3] [] = Q none μ := x_vret dX6_melts_16 rfl
theorem e90_17 : ab_rn cl 90 J Q (k + 1) 17 μ [v0, v1, .int x, v3] st = ab_rn cl 90 J Q k 18 μ [v0, v1, .int x, v3] (.int x :: st) := x_iload_n dX6_melts_17 rfl
theorem e90_18 : ab_rn cl 90 J Q (k + 1) 18 μ [v0, v1, v2, v3] (.int x :: st) = (((x ≤ 0) → ab_rn cl 90 J Q k 113 μ [v0, v1, v2, v3] st) ∧ ((¬ (x ≤ 0)) → ab_rn cl 90 J Q k 21 μ [v0, v1, v2, v3] st)) := x_ifF dX6_melts_18 rfl (fun _ _ _ _ _ => rfl)
theorem e90_21 : ab_rn cl 90 J Q (k + 1) 21 μ [.ref a, v1, v2, v3] st = ab_rn cl 90 J Q k 22 μ [.ref a, v1, v2, v3] (.ref a :: st) := x_aload_n dX6_melts_21 rfl
theorem e90_22 : ab_rn cl 90 J Q (k + 1) 22 μ [v0, v1, v2, v3] (.ref a :: st) = (ab_ob a 6 ∧ ab_rn cl 90 J Q k 25 μ [v0, v1, v2, v3] (ab_fv μ a 1 :: st)) := x_get dX6_melts_22 rfl
theorem e90_25 : ab_rn cl 90 J Q (k + 1) 25 μ [v0, .int x, v2, v3] st = ab_rn cl 90 J Q k 26 μ [v0, .int x, v2, v3] (.int x :: st) := x_iload_n dX6_melts_25 rfl
theorem e90_26 : ab_rn cl 90 J Q (k + 1) 26 μ [v0, v1, v2, v3] (.int x :: .ref a :: st) = ((a < 81 ∧ ab_ak a = 0) ∧ vp_in x (ab_al a) ∧ ab_rn cl 90 J Q k 27 μ [v0, v1, v2, v3] (.int (μ (ab_cmp a) (ab_off a + x.toNatClampNeg)) :: st)) := x_iaload dX6_melts_26
theorem e90_27 : ab_rn cl 90 J Q (k + 1) 27 μ [v0, v1, v2, v3] (.int x :: st) = (((x ≤ 0) → ab_rn cl 90 J Q k 113 μ [v0, v1, v2, v3] st) ∧ ((¬ (x ≤ 0)) → ab_rn cl 90 J Q k 30 μ [v0, v1, v2, v3] st)) := x_ifF dX6_melts_27 rfl (fun _ _ _ _ _ => rfl)
theorem e90_30 : ab_rn cl 90 J Q (k + 1) 30 μ [.ref a, v1, v2, v3] st = ab_rn cl 90 J Q k 31 μ [.ref a, v1, v2, v3] (.ref a :: st) := x_aload_n dX6_melts_30 rfl
theorem e90_31 : ab_rn cl 90 J Q (k + 1) 31 μ [v0, v1, v2, v3] (.ref a :: st) = (ab_ob a 6 ∧ ab_rn cl 90 J Q k 34 μ [v0, v1, v2, v3] (ab_fv μ a 3 :: st)) := x_get dX6_melts_31 rfl
theorem e90_34 : ab_rn cl 90 J Q (k + 1) 34 μ [.ref a, v1, v2, v3] st = ab_rn cl 90 J Q k 35 μ [.ref a, v1, v2, v3] (.ref a :: st) := x_aload_n dX6_melts_34 rfl
theorem e90_35 : ab_rn cl 90 J Q (k + 1) 35 μ [v0, .int x, v2, v3] st = ab_rn cl 90 J Q k 36 μ [v0, .int x, v2, v3] (.int x :: st) := x_iload_n dX6_melts_35 rfl
theorem e90_36 : ab_rn cl 90 J Q (k + 1) 36 μ [v0, v1, v2, v3] (.int x0 :: .ref a :: st) = (ab_ob a 6 ∧ st.length ≤ 4 ∧ cl 86 [.ref a, .int x0] μ (fun r μ' => ab_rn cl 90 J Q k 39 μ' [v0, v1, v2, v3] (ab_pu r st))) := x_v (as := [.int x0]) dX6_melts_36 rfl rfl rfl rfl rfl
theorem e90_39 : ab_rn cl 90 J Q (k + 1) 39 μ [v0, v1, v2, v3] (.int x :: .ref a :: st) = ((a < 81 ∧ ab_ak a = 0) ∧ vp_in x (ab_al a) ∧ ab_rn cl 90 J Q k 40 μ [v0, v1, v2, v3] (.int (μ (ab_cmp a) (ab_off a + x.toNatClampNeg)) :: st)) := x_iaload dX6_melts_39
theorem e90_40 : ab_rn cl 90 J Q (k + 1) 40 μ [v0, v1, .int x, v3] st = ab_rn cl 90 J Q k 41 μ [v0, v1, .int x, v3] (.int x :: st) := x_iload_n dX6_melts_40 rfl
theorem e90_41 : ab_rn cl 90 J Q (k + 1) 41 μ [v0, v1, v2, v3] (.int y :: .int x :: st) = (((y ≤ x) → ab_rn cl 90 J Q k 57 μ [v0, v1, v2, v3] st) ∧ ((¬ (y ≤ x)) → ab_rn cl 90 J Q k 44 μ [v0, v1, v2, v3] st)) := x_icmpF dX6_melts_41 rfl (fun _ _ _ _ _ => rfl)
theorem e90_44 : ab_rn cl 90 J Q (k + 1) 44 μ [.ref a, v1, v2, v3] st = ab_rn cl 90 J Q k 45 μ [.ref a, v1, v2, v3] (.ref a :: st) := x_aload_n dX6_melts_44 rfl
theorem e90_45 : ab_rn cl 90 J Q (k + 1) 45 μ [v0, v1, v2, v3] (.ref a :: st) = (ab_ob a 6 ∧ ab_rn cl 90 J Q k 48 μ [v0, v1, v2, v3] (ab_fv μ a 3 :: st)) := x_get dX6_melts_45 rfl
theorem e90_48 : ab_rn cl 90 J Q (k + 1) 48 μ [.ref a, v1, v2, v3] st = ab_rn cl 90 J Q k 49 μ [.ref a, v1, v2, v3] (.ref a :: st) := x_aload_n dX6_melts_48 rfl
theorem e90_49 : ab_rn cl 90 J Q (k + 1) 49 μ [v0, .int x, v2, v3] st = ab_rn cl 90 J Q k 50 μ [v0, .int x, v2, v3] (.int x :: st) := x_iload_n dX6_melts_49 rfl
theorem e90_50 : ab_rn cl 90 J Q (k + 1) 50 μ [v0, v1, v2, v3] (.int x0 :: .ref a :: st) = (ab_ob a 6 ∧ st.length ≤ 4 ∧ cl 86 [.ref a, .int x0] μ (fun r μ' => ab_rn cl 90 J Q k 53 μ' [v0, v1, v2, v3] (ab_pu r st))) := x_v (as := [.int x0]) dX6_melts_50 rfl rfl rfl rfl rfl
theorem e90_53 : ab_rn cl 90 J Q (k + 1) 53 μ [v0, v1, v2, v3] (.int x :: .ref a :: st) = ((a < 81 ∧ ab_ak a = 0) ∧ vp_in x (ab_al a) ∧ ab_rn cl 90 J Q k 54 μ [v0, v1, v2, v3] (.int (μ (ab_cmp a) (ab_off a + x.toNatClampNeg)) :: st)) := x_iaload dX6_melts_53
theorem e90_54 : ab_rn cl 90 J Q (k + 1) 54 μ [v0, v1, v2, v3] st = ab_rn cl 90 J Q k 58 μ [v0, v1, v2, v3] st := x_gotoF dX6_melts_54 (fun _ _ _ _ _ => rfl)
theorem e90_57 : ab_rn cl 90 J Q (k + 1) 57 μ [v0, v1, .int x, v3] st = ab_rn cl 90 J Q k 58 μ [v0, v1, .int x, v3] (.int x :: st) := x_iload_n dX6_melts_57 rfl
theorem e90_58 : ab_rn cl 90 J Q (k + 1) 58 μ [v0, v1, v2, v3] (.int x :: st) = ab_rn cl 90 J Q k 59 μ [v0, v1, v2, .int x] st := x_istore_n dX6_melts_58 (Nat.le_of_ble_eq_true rfl) rfl
theorem e90_59 : ab_rn cl 90 J Q (k + 1) 59 μ [.ref a, v1, v2, v3] st = ab_rn cl 90 J Q k 60 μ [.ref a, v1, v2, v3] (.ref a :: st) := x_aload_n dX6_melts_59 rfl
theorem e90_60 : ab_rn cl 90 J Q (k + 1) 60 μ [v0, v1, v2, v3] (.ref a :: st) = (ab_ob a 6 ∧ ab_rn cl 90 J Q k 63 μ [v0, v1, v2, v3] (ab_fv μ a 3 :: st)) := x_get dX6_melts_60 rfl
theorem e90_63 : ab_rn cl 90 J Q (k + 1) 63 μ [.ref a, v1, v2, v3] st = ab_rn cl 90 J Q k 64 μ [.ref a, v1, v2, v3] (.ref a :: st) := x_aload_n dX6_melts_63 rfl
theorem e90_64 : ab_rn cl 90 J Q (k + 1) 64 μ [v0, .int x, v2, v3] st = ab_rn cl 90 J Q k 65 μ [v0, .int x, v2, v3] (.int x :: st) := x_iload_n dX6_melts_64 rfl
theorem e90_65 : ab_rn cl 90 J Q (k + 1) 65 μ [v0, v1, v2, v3] (.int x0 :: .ref a :: st) = (ab_ob a 6 ∧ st.length ≤ 4 ∧ cl 86 [.ref a, .int x0] μ (fun r μ' => ab_rn cl 90 J Q k 68 μ' [v0, v1, v2, v3] (ab_pu r st))) := x_v (as := [.int x0]) dX6_melts_65 rfl rfl rfl rfl rfl
theorem e90_68 : ab_rn cl 90 J Q (k + 1) 68 μ [v0, v1, v2, v3] (.int x :: .ref a :: st) = ab_rn cl 90 J Q k 69 μ [v0, v1, v2, v3] (.int x :: .ref a :: .int x :: .ref a :: st) := x_dup2 dX6_melts_68
theorem e90_69 : ab_rn cl 90 J Q (k + 1) 69 μ [v0, v1, v2, v3] (.int x :: .ref a :: st) = ((a < 81 ∧ ab_ak a = 0) ∧ vp_in x (ab_al a) ∧ ab_rn cl 90 J Q k 70 μ [v0, v1, v2, v3] (.int (μ (ab_cmp a) (ab_off a + x.toNatClampNeg)) :: st)) := x_iaload dX6_melts_69
theorem e90_70 : ab_rn cl 90 J Q (k + 1) 70 μ [v0, v1, v2, .int x] st = ab_rn cl 90 J Q k 71 μ [v0, v1, v2, .int x] (.int x :: st) := x_iload_n dX6_melts_70 rfl
theorem e90_71 : ab_rn cl 90 J Q (k + 1) 71 μ [v0, v1, v2, v3] (.int y :: .int x :: st) = ab_rn cl 90 J Q k 72 μ [v0, v1, v2, v3] (.int (x - y) :: st) := x_isub dX6_melts_71
theorem e90_72 : ab_rn cl 90 J Q (k + 1) 72 μ [v0, v1, v2, v3] (.int v :: .int x :: .ref a :: st) = ((a < 81 ∧ ab_ak a = 0) ∧ vp_in x (ab_al a) ∧ ab_rn cl 90 J Q k 73 (ab_up μ (ab_cmp a) (ab_off a + x.toNatClampNeg) v) [v0, v1, v2, v3] st) := x_iastore dX6_melts_72
theorem e90_73 : ab_rn cl 90 J Q (k + 1) 73 μ [.ref a, v1, v2, v3] st = ab_rn cl 90 J Q k 74 μ [.ref a, v1, v2, v3] (.ref a :: st) := x_aload_n dX6_melts_73 rfl
theorem e90_74i : ab_rn cl 90 J Q (k + 1) 74 μ [v0, v1, v2, v3] (.int x :: st) = ab_rn cl 90 J Q k 75 μ [v0, v1, v2, v3] (.int x :: .int x :: st) := x_dupi dX6_melts_74
theorem e90_74r : ab_rn cl 90 J Q (k + 1) 74 μ [v0, v1, v2, v3] (.ref a :: st) = ab_rn cl 90 J Q k 75 μ [v0, v1, v2, v3] (.ref a :: .ref a :: st) := x_dupr dX6_melts_74
theorem e90_75 : ab_rn cl 90 J Q (k + 1) 75 μ [v0, v1, v2, v3] (.ref a :: st) = (ab_ob a 6 ∧ ab_rn cl 90 J Q k 78 μ [v0, v1, v2, v3] (ab_fv μ a 11 :: st)) := x_get dX6_melts_75 rfl
theorem e90_78 : ab_rn cl 90 J Q (k + 1) 78 μ [v0, v1, v2, .int x] st = ab_rn cl 90 J Q k 79 μ [v0, v1, v2, .int x] (.int x :: st) := x_iload_n dX6_melts_78 rfl
theorem e90_79 : ab_rn cl 90 J Q (k + 1) 79 μ [v0, v1, v2, v3] (.int y :: .int x :: st) = ab_rn cl 90 J Q k 80 μ [v0, v1, v2, v3] (.int (x + y) :: st) := x_iadd dX6_melts_79
theorem e90_80 : ab_rn cl 90 J Q (k + 1) 80 μ [v0, v1, v2, v3] (.int v :: .ref a :: st) = (ab_ob a 6 ∧ ab_rf a 11 = none ∧ ab_rn cl 90 J Q k 83 (ab_up μ (ab_cmp a) (ab_off a + 11) v) [v0, v1, v2, v3] st) := x_put dX6_melts_80 rfl
theorem e90_83 : ab_rn cl 90 J Q (k + 1) 83 μ [v0, v1, .int x, v3] st = ab_rn cl 90 J Q k 84 μ [v0, v1, .int x, v3] (.int x :: st) := x_iload_n dX6_melts_83 rfl
theorem e90_84 : ab_rn cl 90 J Q (k + 1) 84 μ [v0, v1, v2, .int x] st = ab_rn cl 90 J Q k 85 μ [v0, v1, v2, .int x] (.int x :: st) := x_iload_n dX6_melts_84 rfl
theorem e90_85 : ab_rn cl 90 J Q (k + 1) 85 μ [v0, v1, v2, v3] (.int y :: .int x :: st) = ab_rn cl 90 J Q k 86 μ [v0, v1, v2, v3] (.int (x - y) :: st) := x_isub dX6_melts_85
theorem e90_86 : ab_rn cl 90 J Q (k + 1) 86 μ [v0, v1, v2, v3] (.int x :: st) = ab_rn cl 90 J Q k 87 μ [v0, v1, .int x, v3] st := x_istore_n dX6_melts_86 (Nat.le_of_ble_eq_true rfl) rfl
theorem e90_87 : ab_rn cl 90 J Q (k + 1) 87 μ [.ref a, v1, v2, v3] st = ab_rn cl 90 J Q k 88 μ [.ref a, v1, v2, v3] (.ref a :: st) := x_aload_n dX6_melts_87 rfl
theorem e90_88 : ab_rn cl 90 J Q (k + 1) 88 μ [v0, v1, v2, v3] (.ref a :: st) = (ab_ob a 6 ∧ ab_rn cl 90 J Q k 91 μ [v0, v1, v2, v3] (ab_fv μ a 3 :: st)) := x_get dX6_melts_88 rfl
theorem e90_91 : ab_rn cl 90 J Q (k + 1) 91 μ [.ref a, v1, v2, v3] st = ab_rn cl 90 J Q k 92 μ [.ref a, v1, v2, v3] (.ref a :: st) := x_aload_n dX6_melts_91 rfl
theorem e90_92 : ab_rn cl 90 J Q (k + 1) 92 μ [v0, .int x, v2, v3] st = ab_rn cl 90 J Q k 93 μ [v0, .int x, v2, v3] (.int x :: st) := x_iload_n dX6_melts_92 rfl
theorem e90_93 : ab_rn cl 90 J Q (k + 1) 93 μ [v0, v1, v2, v3] (.int x0 :: .ref a :: st) = (ab_ob a 6 ∧ st.length ≤ 4 ∧ cl 86 [.ref a, .int x0] μ (fun r μ' => ab_rn cl 90 J Q k 96 μ' [v0, v1, v2, v3] (ab_pu r st))) := x_v (as := [.int x0]) dX6_melts_93 rfl rfl rfl rfl rfl
theorem e90_96 : ab_rn cl 90 J Q (k + 1) 96 μ [v0, v1, v2, v3] (.int x :: .ref a :: st) = ((a < 81 ∧ ab_ak a = 0) ∧ vp_in x (ab_al a) ∧ ab_rn cl 90 J Q k 97 μ [v0, v1, v2, v3] (.int (μ (ab_cmp a) (ab_off a + x.toNatClampNeg)) :: st)) := x_iaload dX6_melts_96
theorem e90_97 : ab_rn cl 90 J Q (k + 1) 97 μ [v0, v1, v2, v3] (.int x :: st) = (((¬ x = 0) → ab_rn cl 90 J Q k 110 μ [v0, v1, v2, v3] st) ∧ ((¬ (¬ x = 0)) → ab_rn cl 90 J Q k 100 μ [v0, v1, v2, v3] st)) := x_ifF dX6_melts_97 rfl (fun _ _ _ _ _ => rfl)
theorem e90_100 : ab_rn cl 90 J Q (k + 1) 100 μ [.ref a, v1, v2, v3] st = ab_rn cl 90 J Q k 101 μ [.ref a, v1, v2, v3] (.ref a :: st) := x_aload_n dX6_melts_100 rfl
theorem e90_101 : ab_rn cl 90 J Q (k + 1) 101 μ [v0, v1, v2, v3] (.ref a :: st) = (ab_ob a 6 ∧ ab_rn cl 90 J Q k 104 μ [v0, v1, v2, v3] (ab_fv μ a 1 :: st)) := x_get dX6_melts_101 rfl
theorem e90_104 : ab_rn cl 90 J Q (k + 1) 104 μ [v0, .int x, v2, v3] st = ab_rn cl 90 J Q k 105 μ [v0, .int x, v2, v3] (.int x :: st) := x_iload_n dX6_melts_104 rfl
theorem e90_105 : ab_rn cl 90 J Q (k + 1) 105 μ [v0, v1, v2, v3] (.int x :: .ref a :: st) = ab_rn cl 90 J Q k 106 μ [v0, v1, v2, v3] (.int x :: .ref a :: .int x :: .ref a :: st) := x_dup2 dX6_melts_105
theorem e90_106 : ab_rn cl 90 J Q (k + 1) 106 μ [v0, v1, v2, v3] (.int x :: .ref a :: st) = ((a < 81 ∧ ab_ak a = 0) ∧ vp_in x (ab_al a) ∧ ab_rn cl 90 J Q k 107 μ [v0, v1, v2, v3] (.int (μ (ab_cmp a) (ab_off a + x.toNatClampNeg)) :: st)) := x_iaload dX6_melts_106
theorem e90_107 : ab_rn cl 90 J Q (k + 1) 107 μ [v0, v1, v2, v3] st = ab_rn cl 90 J Q k 108 μ [v0, v1, v2, v3] (.int 1 :: st) := x_iconst dX6_melts_107 (by decide)
theorem e90_108 : ab_rn cl 90 J Q (k + 1) 108 μ [v0, v1, v2, v3] (.int y :: .int x :: st) = ab_rn cl 90 J Q k 109 μ [v0, v1, v2, v3] (.int (x - y) :: st) := x_isub dX6_melts_108
theorem e90_109 : ab_rn cl 90 J Q (k + 1) 109 μ [v0, v1, v2, v3] (.int v :: .int x :: .ref a :: st) = ((a < 81 ∧ ab_ak a = 0) ∧ vp_in x (ab_al a) ∧ ab_rn cl 90 J Q k 110 (ab_up μ (ab_cmp a) (ab_off a + x.toNatClampNeg) v) [v0, v1, v2, v3] st) := x_iastore dX6_melts_109
theorem e90_110 : ab_rn cl 90 J Q (k + 1) 110 μ [v0, v1, v2, v3] st = J 17 μ [v0, v1, v2, v3] st := x_gotoB dX6_melts_110 (fun _ _ _ _ _ => rfl)
theorem e90_113 : ab_rn cl 90 J Q (k + 1) 113 μ [.ref a, v1, v2, v3] st = ab_rn cl 90 J Q k 114 μ [.ref a, v1, v2, v3] (.ref a :: st) := x_aload_n dX6_melts_113 rfl
theorem e90_114 : ab_rn cl 90 J Q (k + 1) 114 μ [v0, v1, v2, v3] (.ref a :: st) = (ab_ob a 6 ∧ ab_rn cl 90 J Q k 117 μ [v0, v1, v2, v3] (ab_fv μ a 1 :: st)) := x_get dX6_melts_114 rfl
theorem e90_117 : ab_rn cl 90 J Q (k + 1) 117 μ [v0, .int x, v2, v3] st = ab_rn cl 90 J Q k 118 μ [v0, .int x, v2, v3] (.int x :: st) := x_iload_n dX6_melts_117 rfl
theorem e90_118 : ab_rn cl 90 J Q (k + 1) 118 μ [v0, v1, v2, v3] (.int x :: .ref a :: st) = ((a < 81 ∧ ab_ak a = 0) ∧ vp_in x (ab_al a) ∧ ab_rn cl 90 J Q k 119 μ [v0, v1, v2, v3] (.int (μ (ab_cmp a) (ab_off a + x.toNatClampNeg)) :: st)) := x_iaload dX6_melts_118
theorem e90_119 : ab_rn cl 90 J Q (k + 1) 119 μ [v0, v1, v2, v3] (.int x :: st) = (((x ≤ 0) → ab_rn cl 90 J Q k 133 μ [v0, v1, v2, v3] st) ∧ ((¬ (x ≤ 0)) → ab_rn cl 90 J Q k 122 μ [v0, v1, v2, v3] st)) := x_ifF dX6_melts_119 rfl (fun _ _ _ _ _ => rfl)
theorem e90_122 : ab_rn cl 90 J Q (k + 1) 122 μ [.ref a, v1, v2, v3] st = ab_rn cl 90 J Q k 123 μ [.ref a, v1, v2, v3] (.ref a :: st) := x_aload_n dX6_melts_122 rfl
theorem e90_123 : ab_rn cl 90 J Q (k + 1) 123 μ [v0, v1, v2, v3] (.ref a :: st) = (ab_ob a 6 ∧ ab_rn cl 90 J Q k 126 μ [v0, v1, v2, v3] (ab_fv μ a 2 :: st)) := x_get dX6_melts_123 rfl
theorem e90_126 : ab_rn cl 90 J Q (k + 1) 126 μ [.ref a, v1, v2, v3] st = ab_rn cl 90 J Q k 127 μ [.ref a, v1, v2, v3] (.ref a :: st) := x_aload_n dX6_melts_126 rfl
theorem e90_127 : ab_rn cl 90 J Q (k + 1) 127 μ [v0, .int x, v2, v3] st = ab_rn cl 90 J Q k 128 μ [v0, .int x, v2, v3] (.int x :: st) := x_iload_n dX6_melts_127 rfl
theorem e90_128 : ab_rn cl 90 J Q (k + 1) 128 μ [v0, v1, v2, v3] (.int x0 :: .ref a :: st) = (ab_ob a 6 ∧ st.length ≤ 4 ∧ cl 86 [.ref a, .int x0] μ (fun r μ' => ab_rn cl 90 J Q k 131 μ' [v0, v1, v2, v3] (ab_pu r st))) := x_v (as := [.int x0]) dX6_melts_128 rfl rfl rfl rfl rfl
theorem e90_131 : ab_rn cl 90 J Q (k + 1) 131 μ [v0, v1, v2, v3] st = ab_rn cl 90 J Q k 132 μ [v0, v1, v2, v3] (.int 3 :: st) := x_iconst dX6_melts_131 (by decide)
theorem e90_132 : ab_rn cl 90 J Q (k + 1) 132 μ [v0, v1, v2, v3] (.int v :: .int x :: .ref a :: st) = ((a < 81 ∧ ab_ak a = 0) ∧ vp_in x (ab_al a) ∧ ab_rn cl 90 J Q k 133 (ab_up μ (ab_cmp a) (ab_off a + x.toNatClampNeg) v) [v0, v1, v2, v3] st) := x_iastore dX6_melts_132
theorem e90_133 : ab_rn cl 90 J Q (k + 1) 133 μ [v0, v1, v2, v3] [] = Q none μ := x_vret dX6_melts_133 rfl
theorem n90 {d : Nat} (h : ∀ J : ab_J, (∀ k pc μ ls st, ab_rn (ab_Cl d) 90 J Q k pc μ ls st → J pc μ ls st) → J 0 μ [v0, v1, .null, .null] []) : ab_Cl (d + 1) 90 [v0, v1] μ Q := ab_go h
theorem e91_0 : ab_rn cl 91 J Q (k + 1) 0 μ [v0, v1] st = ab_rn cl 91 J Q k 1 μ [v0, v1] (.int 0 :: st) := x_iconst dX6_judges_0 (by decide)
theorem e91_1 : ab_rn cl 91 J Q (k + 1) 1 μ [v0, v1] (.int x :: st) = ab_rn cl 91 J Q k 2 μ [v0, .int x] st := x_istore_n dX6_judges_1 (Nat.le_of_ble_eq_true rfl) rfl
theorem e91_2 : ab_rn cl 91 J Q (k + 1) 2 μ [v0, .int x] st = ab_rn cl 91 J Q k 3 μ [v0, .int x] (.int x :: st) := x_iload_n dX6_judges_2 rfl
theorem e91_3 : ab_rn cl 91 J Q (k + 1) 3 μ [v0, v1] st = ab_rn cl 91 J Q k 5 μ [v0, v1] (.int 12 :: st) := x_bipush dX6_judges_3 (by decide)
theorem e91_5 : ab_rn cl 91 J Q (k + 1) 5 μ [v0, v1] (.int y :: .int x :: st) = (((y ≤ x) → ab_rn cl 91 J Q k 76 μ [v0, v1] st) ∧ ((¬ (y ≤ x)) → ab_rn cl 91 J Q k 8 μ [v0, v1] st)) := x_icmpF dX6_judges_5 rfl (fun _ _ _ _ _ => rfl)
theorem e91_8 : ab_rn cl 91 J Q (k + 1) 8 μ [.ref a, v1] st = ab_rn cl 91 J Q k 9 μ [.ref a, v1] (.ref a :: st) := x_aload_n dX6_judges_8 rfl
theorem e91_9 : ab_rn cl 91 J Q (k + 1) 9 μ [v0, v1] (.ref a :: st) = (ab_ob a 6 ∧ ab_rn cl 91 J Q k 12 μ [v0, v1] (ab_fv μ a 14 :: st)) := x_get dX6_judges_9 rfl
theorem e91_12 : ab_rn cl 91 J Q (k + 1) 12 μ [v0, .int x] st = ab_rn cl 91 J Q k 13 μ [v0, .int x] (.int x :: st) := x_iload_n dX6_judges_12 rfl
theorem e91_13 : ab_rn cl 91 J Q (k + 1) 13 μ [v0, v1] (.int x :: .ref a :: st) = ((a < 81 ∧ ab_ak a = 0) ∧ vp_in x (ab_al a) ∧ ab_rn cl 91 J Q k 14 μ [v0, v1] (.int (μ (ab_cmp a) (ab_off a + x.toNatClampNeg)) :: st)) := x_iaload dX6_judges_13
theorem e91_14 : ab_rn cl 91 J Q (k + 1) 14 μ [v0, v1] (.int x :: st) = (((x ≤ 0) → ab_rn cl 91 J Q k 56 μ [v0, v1] st) ∧ ((¬ (x ≤ 0)) → ab_rn cl 91 J Q k 17 μ [v0, v1] st)) := x_ifF dX6_judges_14 rfl (fun _ _ _ _ _ => rfl)
theorem e91_17 : ab_rn cl 91 J Q (k + 1) 17 μ [.ref a, v1] st = ab_rn cl 91 J Q k 18 μ [.ref a, v1] (.ref a :: st) := x_aload_n dX6_judges_17 rfl
theorem e91_18 : ab_rn cl 91 J Q (k + 1) 18 μ [v0, v1] (.ref a :: st) = (ab_ob a 6 ∧ ab_rn cl 91 J Q k 21 μ [v0, v1] (ab_fv μ a 15 :: st)) := x_get dX6_judges_18 rfl
theorem e91_21 : ab_rn cl 91 J Q (k + 1) 21 μ [.ref a, v1] st = ab_rn cl 91 J Q k 22 μ [.ref a, v1] (.ref a :: st) := x_aload_n dX6_judges_21 rfl
theorem e91_22 : ab_rn cl 91 J Q (k + 1) 22 μ [v0, v1] (.ref a :: st) = (ab_ob a 6 ∧ ab_rn cl 91 J Q k 25 μ [v0, v1] (ab_fv μ a 14 :: st)) := x_get dX6_judges_22 rfl
theorem e91_25 : ab_rn cl 91 J Q (k + 1) 25 μ [v0, .int x] st = ab_rn cl 91 J Q k 26 μ [v0, .int x] (.int x :: st) := x_iload_n dX6_judges_25 rfl
theorem e91_26 : ab_rn cl 91 J Q (k + 1) 26 μ [v0, v1] (.int x :: .ref a :: st) = ((a < 81 ∧ ab_ak a = 0) ∧ vp_in x (ab_al a) ∧ ab_rn cl 91 J Q k 27 μ [v0, v1] (.int (μ (ab_cmp a) (ab_off a + x.toNatClampNeg)) :: st)) := x_iaload dX6_judges_26
theorem e91_27 : ab_rn cl 91 J Q (k + 1) 27 μ [v0, v1] st = ab_rn cl 91 J Q k 28 μ [v0, v1] (.int 3 :: st) := x_iconst dX6_judges_27 (by decide)
theorem e91_28 : ab_rn cl 91 J Q (k + 1) 28 μ [v0, v1] (.int y :: .int x :: st) = (((x < y) → ab_rn cl 91 J Q k 35 μ [v0, v1] st) ∧ ((¬ (x < y)) → ab_rn cl 91 J Q k 31 μ [v0, v1] st)) := x_icmpF dX6_judges_28 rfl (fun _ _ _ _ _ => rfl)
theorem e91_31 : ab_rn cl 91 J Q (k + 1) 31 μ [v0, v1] st = ab_rn cl 91 J Q k 32 μ [v0, v1] (.int 0 :: st) := x_iconst dX6_judges_31 (by decide)
theorem e91_32 : ab_rn cl 91 J Q (k + 1) 32 μ [v0, v1] st = ab_rn cl 91 J Q k 36 μ [v0, v1] st := x_gotoF dX6_judges_32 (fun _ _ _ _ _ => rfl)
theorem e91_35 : ab_rn cl 91 J Q (k + 1) 35 μ [v0, v1] st = ab_rn cl 91 J Q k 36 μ [v0, v1] (.int 2 :: st) := x_iconst dX6_judges_35 (by decide)
theorem e91_36 : ab_rn cl 91 J Q (k + 1) 36 μ [.ref a, v1] st = ab_rn cl 91 J Q k 37 μ [.ref a, v1] (.ref a :: st) := x_aload_n dX6_judges_36 rfl
theorem e91_37 : ab_rn cl 91 J Q (k + 1) 37 μ [v0, v1] (.ref a :: st) = (ab_ob a 6 ∧ ab_rn cl 91 J Q k 40 μ [v0, v1] (ab_fv μ a 13 :: st)) := x_get dX6_judges_37 rfl
theorem e91_40 : ab_rn cl 91 J Q (k + 1) 40 μ [v0, .int x] st = ab_rn cl 91 J Q k 41 μ [v0, .int x] (.int x :: st) := x_iload_n dX6_judges_40 rfl
theorem e91_41 : ab_rn cl 91 J Q (k + 1) 41 μ [v0, v1] (.int x :: .ref a :: st) = ((a < 81 ∧ ab_ak a = 1) ∧ vp_in x (ab_al a) ∧ ab_rn cl 91 J Q k 42 μ [v0, v1] (.int (μ (ab_cmp a) (ab_off a + x.toNatClampNeg)) :: st)) := x_baload dX6_judges_41
theorem e91_42 : ab_rn cl 91 J Q (k + 1) 42 μ [v0, v1] (.int x :: st) = (((x = 0) → ab_rn cl 91 J Q k 49 μ [v0, v1] st) ∧ ((¬ (x = 0)) → ab_rn cl 91 J Q k 45 μ [v0, v1] st)) := x_ifF dX6_judges_42 rfl (fun _ _ _ _ _ => rfl)
theorem e91_45 : ab_rn cl 91 J Q (k + 1) 45 μ [v0, v1] st = ab_rn cl 91 J Q k 46 μ [v0, v1] (.int 0 :: st) := x_iconst dX6_judges_45 (by decide)
theorem e91_46 : ab_rn cl 91 J Q (k + 1) 46 μ [v0, v1] st = ab_rn cl 91 J Q k 50 μ [v0, v1] st := x_gotoF dX6_judges_46 (fun _ _ _ _ _ => rfl)
theorem e91_49 : ab_rn cl 91 J Q (k + 1) 49 μ [v0, v1] st = ab_rn cl 91 J Q k 50 μ [v0, v1] (.int 1 :: st) := x_iconst dX6_judges_49 (by decide)
theorem e91_50 : ab_rn cl 91 J Q (k + 1) 50 μ [v0, v1] (.int y :: .int x :: st) = ab_rn cl 91 J Q k 51 μ [v0, v1] (.int (x + y) :: st) := x_iadd dX6_judges_50
theorem e91_51 : ab_rn cl 91 J Q (k + 1) 51 μ [v0, v1] (.int x :: .ref a :: st) = ab_rn cl 91 J Q k 52 μ [v0, v1] (.int x :: .ref a :: .int x :: .ref a :: st) := x_dup2 dX6_judges_51
theorem e91_52 : ab_rn cl 91 J Q (k + 1) 52 μ [v0, v1] (.int x :: .ref a :: st) = ((a < 81 ∧ ab_ak a = 0) ∧ vp_in x (ab_al a) ∧ ab_rn cl 91 J Q k 53 μ [v0, v1] (.int (μ (ab_cmp a) (ab_off a + x.toNatClampNeg)) :: st)) := x_iaload dX6_judges_52
theorem e91_53 : ab_rn cl 91 J Q (k + 1) 53 μ [v0, v1] st = ab_rn cl 91 J Q k 54 μ [v0, v1] (.int 1 :: st) := x_iconst dX6_judges_53 (by decide)
theorem e91_54 : ab_rn cl 91 J Q (k + 1) 54 μ [v0, v1] (.int y :: .int x :: st) = ab_rn cl 91 J Q k 55 μ [v0, v1] (.int (x + y) :: st) := x_iadd dX6_judges_54
theorem e91_55 : ab_rn cl 91 J Q (k + 1) 55 μ [v0, v1] (.int v :: .int x :: .ref a :: st) = ((a < 81 ∧ ab_ak a = 0) ∧ vp_in x (ab_al a) ∧ ab_rn cl 91 J Q k 56 (ab_up μ (ab_cmp a) (ab_off a + x.toNatClampNeg) v) [v0, v1] st) := x_iastore dX6_judges_55
theorem e91_56 : ab_rn cl 91 J Q (k + 1) 56 μ [.ref a, v1] st = ab_rn cl 91 J Q k 57 μ [.ref a, v1] (.ref a :: st) := x_aload_n dX6_judges_56 rfl
theorem e91_57 : ab_rn cl 91 J Q (k + 1) 57 μ [v0, v1] (.ref a :: st) = (ab_ob a 6 ∧ ab_rn cl 91 J Q k 60 μ [v0, v1] (ab_fv μ a 14 :: st)) := x_get dX6_judges_57 rfl
theorem e91_60 : ab_rn cl 91 J Q (k + 1) 60 μ [v0, .int x] st = ab_rn cl 91 J Q k 61 μ [v0, .int x] (.int x :: st) := x_iload_n dX6_judges_60 rfl
theorem e91_61 : ab_rn cl 91 J Q (k + 1) 61 μ [v0, v1] st = ab_rn cl 91 J Q k 62 μ [v0, v1] (.int 0 :: st) := x_iconst dX6_judges_61 (by decide)
theorem e91_62 : ab_rn cl 91 J Q (k + 1) 62 μ [v0, v1] (.int v :: .int x :: .ref a :: st) = ((a < 81 ∧ ab_ak a = 0) ∧ vp_in x (ab_al a) ∧ ab_rn cl 91 J Q k 63 (ab_up μ (ab_cmp a) (ab_off a + x.toNatClampNeg) v) [v0, v1] st) := x_iastore dX6_judges_62
theorem e91_63 : ab_rn cl 91 J Q (k + 1) 63 μ [.ref a, v1] st = ab_rn cl 91 J Q k 64 μ [.ref a, v1] (.ref a :: st) := x_aload_n dX6_judges_63 rfl
theorem e91_64 : ab_rn cl 91 J Q (k + 1) 64 μ [v0, v1] (.ref a :: st) = (ab_ob a 6 ∧ ab_rn cl 91 J Q k 67 μ [v0, v1] (ab_fv μ a 13 :: st)) := x_get dX6_judges_64 rfl
theorem e91_67 : ab_rn cl 91 J Q (k + 1) 67 μ [v0, .int x] st = ab_rn cl 91 J Q k 68 μ [v0, .int x] (.int x :: st) := x_iload_n dX6_judges_67 rfl
theorem e91_68 : ab_rn cl 91 J Q (k + 1) 68 μ [v0, v1] st = ab_rn cl 91 J Q k 69 μ [v0, v1] (.int 0 :: st) := x_iconst dX6_judges_68 (by decide)
theorem e91_69 : ab_rn cl 91 J Q (k + 1) 69 μ [v0, v1] (.int v :: .int x :: .ref a :: st) = ((a < 81 ∧ ab_ak a = 1) ∧ vp_in x (ab_al a) ∧ (v = 0 ∨ v = 1) ∧ ab_rn cl 91 J Q k 70 (ab_up μ (ab_cmp a) (ab_off a + x.toNatClampNeg) v) [v0, v1] st) := x_bastore dX6_judges_69
theorem e91_70 : ab_rn cl 91 J Q (k + 1) 70 μ [v0, .int x] st = ab_rn cl 91 J Q k 73 μ [v0, .int (x + 1)] st := x_iinc dX6_judges_70 (w := 1) (by decide) rfl rfl
theorem e91_73 : ab_rn cl 91 J Q (k + 1) 73 μ [v0, v1] st = J 2 μ [v0, v1] st := x_gotoB dX6_judges_73 (fun _ _ _ _ _ => rfl)
theorem e91_76 : ab_rn cl 91 J Q (k + 1) 76 μ [v0, v1] [] = Q none μ := x_vret dX6_judges_76 rfl
theorem n91 {d : Nat} (h : ∀ J : ab_J, (∀ k pc μ ls st, ab_rn (ab_Cl d) 91 J Q k pc μ ls st → J pc μ ls st) → J 0 μ [v0, .null] []) : ab_Cl (d + 1) 91 [v0] μ Q := ab_go h
theorem e92_0 : ab_rn cl 92 J Q (k + 1) 0 μ [.ref a, v1, v2] st = ab_rn cl 92 J Q k 1 μ [.ref a, v1, v2] (.ref a :: st) := x_aload_n dX6_day_0 rfl
theorem e92_1 : ab_rn cl 92 J Q (k + 1) 1 μ [v0, v1, v2] (.ref a :: st) = (ab_ob a 6 ∧ st.length ≤ 4 ∧ cl 91 [.ref a] μ (fun r μ' => ab_rn cl 92 J Q k 4 μ' [v0, v1, v2] (ab_pu r st))) := x_v (as := []) dX6_day_1 rfl rfl rfl rfl rfl
theorem e92_4 : ab_rn cl 92 J Q (k + 1) 4 μ [v0, v1, v2] st = ab_rn cl 92 J Q k 5 μ [v0, v1, v2] (.int 0 :: st) := x_iconst dX6_day_4 (by decide)
theorem e92_5 : ab_rn cl 92 J Q (k + 1) 5 μ [v0, v1, v2] (.int x :: st) = ab_rn cl 92 J Q k 6 μ [v0, .int x, v2] st := x_istore_n dX6_day_5 (Nat.le_of_ble_eq_true rfl) rfl
theorem e92_6 : ab_rn cl 92 J Q (k + 1) 6 μ [v0, .int x, v2] st = ab_rn cl 92 J Q k 7 μ [v0, .int x, v2] (.int x :: st) := x_iload_n dX6_day_6 rfl
theorem e92_7 : ab_rn cl 92 J Q (k + 1) 7 μ [v0, v1, v2] st = ab_rn cl 92 J Q k 8 μ [v0, v1, v2] (.int 3 :: st) := x_iconst dX6_day_7 (by decide)
theorem e92_8 : ab_rn cl 92 J Q (k + 1) 8 μ [v0, v1, v2] (.int y :: .int x :: st) = (((y ≤ x) → ab_rn cl 92 J Q k 40 μ [v0, v1, v2] st) ∧ ((¬ (y ≤ x)) → ab_rn cl 92 J Q k 11 μ [v0, v1, v2] st)) := x_icmpF dX6_day_8 rfl (fun _ _ _ _ _ => rfl)
theorem e92_11 : ab_rn cl 92 J Q (k + 1) 11 μ [.ref a, v1, v2] st = ab_rn cl 92 J Q k 12 μ [.ref a, v1, v2] (.ref a :: st) := x_aload_n dX6_day_11 rfl
theorem e92_12 : ab_rn cl 92 J Q (k + 1) 12 μ [v0, v1, v2] (.ref a :: st) = (ab_ob a 6 ∧ ab_rn cl 92 J Q k 15 μ [v0, v1, v2] (ab_fv μ a 6 :: st)) := x_get dX6_day_12 rfl
theorem e92_15 : ab_rn cl 92 J Q (k + 1) 15 μ [v0, .int x, v2] st = ab_rn cl 92 J Q k 16 μ [v0, .int x, v2] (.int x :: st) := x_iload_n dX6_day_15 rfl
theorem e92_16 : ab_rn cl 92 J Q (k + 1) 16 μ [v0, v1, v2] (.int x :: .ref a :: st) = ((a < 81 ∧ ab_ak a = 0) ∧ vp_in x (ab_al a) ∧ ab_rn cl 92 J Q k 17 μ [v0, v1, v2] (.int (μ (ab_cmp a) (ab_off a + x.toNatClampNeg)) :: st)) := x_iaload dX6_day_16
theorem e92_17 : ab_rn cl 92 J Q (k + 1) 17 μ [v0, v1, v2] st = ab_rn cl 92 J Q k 19 μ [v0, v1, v2] (.int (-100) :: st) := x_bipush dX6_day_17 (by decide)
theorem e92_19 : ab_rn cl 92 J Q (k + 1) 19 μ [v0, v1, v2] (.int y :: .int x :: st) = (((x = y) → ab_rn cl 92 J Q k 34 μ [v0, v1, v2] st) ∧ ((¬ (x = y)) → ab_rn cl 92 J Q k 22 μ [v0, v1, v2] st)) := x_icmpF dX6_day_19 rfl (fun _ _ _ _ _ => rfl)
theorem e92_22 : ab_rn cl 92 J Q (k + 1) 22 μ [.ref a, v1, v2] st = ab_rn cl 92 J Q k 23 μ [.ref a, v1, v2] (.ref a :: st) := x_aload_n dX6_day_22 rfl
theorem e92_23 : ab_rn cl 92 J Q (k + 1) 23 μ [v0, v1, v2] (.ref a :: st) = (ab_ob a 6 ∧ ab_rn cl 92 J Q k 26 μ [v0, v1, v2] (ab_fv μ a 7 :: st)) := x_get dX6_day_23 rfl
theorem e92_26 : ab_rn cl 92 J Q (k + 1) 26 μ [v0, .int x, v2] st = ab_rn cl 92 J Q k 27 μ [v0, .int x, v2] (.int x :: st) := x_iload_n dX6_day_26 rfl
theorem e92_27 : ab_rn cl 92 J Q (k + 1) 27 μ [.ref a, v1, v2] st = ab_rn cl 92 J Q k 28 μ [.ref a, v1, v2] (.ref a :: st) := x_aload_n dX6_day_27 rfl
theorem e92_28 : ab_rn cl 92 J Q (k + 1) 28 μ [v0, v1, v2] (.ref a :: st) = (ab_ob a 6 ∧ ab_rn cl 92 J Q k 31 μ [v0, v1, v2] (ab_fv μ a 6 :: st)) := x_get dX6_day_28 rfl
theorem e92_31 : ab_rn cl 92 J Q (k + 1) 31 μ [v0, .int x, v2] st = ab_rn cl 92 J Q k 32 μ [v0, .int x, v2] (.int x :: st) := x_iload_n dX6_day_31 rfl
theorem e92_32 : ab_rn cl 92 J Q (k + 1) 32 μ [v0, v1, v2] (.int x :: .ref a :: st) = ((a < 81 ∧ ab_ak a = 0) ∧ vp_in x (ab_al a) ∧ ab_rn cl 92 J Q k 33 μ [v0, v1, v2] (.int (μ (ab_cmp a) (ab_off a + x.toNatClampNeg)) :: st)) := x_iaload dX6_day_32
theorem e92_33 : ab_rn cl 92 J Q (k + 1) 33 μ [v0, v1, v2] (.int v :: .int x :: .ref a :: st) = ((a < 81 ∧ ab_ak a = 0) ∧ vp_in x (ab_al a) ∧ ab_rn cl 92 J Q k 34 (ab_up μ (ab_cmp a) (ab_off a + x.toNatClampNeg) v) [v0, v1, v2] st) := x_iastore dX6_day_33
theorem e92_34 : ab_rn cl 92 J Q (k + 1) 34 μ [v0, .int x, v2] st = ab_rn cl 92 J Q k 37 μ [v0, .int (x + 1), v2] st := x_iinc dX6_day_34 (w := 1) (by decide) rfl rfl
theorem e92_37 : ab_rn cl 92 J Q (k + 1) 37 μ [v0, v1, v2] st = J 6 μ [v0, v1, v2] st := x_gotoB dX6_day_37 (fun _ _ _ _ _ => rfl)
theorem e92_40 : ab_rn cl 92 J Q (k + 1) 40 μ [v0, v1, v2] st = ab_rn cl 92 J Q k 41 μ [v0, v1, v2] (.int 0 :: st) := x_iconst dX6_day_40 (by decide)
theorem e92_41 : ab_rn cl 92 J Q (k + 1) 41 μ [v0, v1, v2] (.int x :: st) = ab_rn cl 92 J Q k 42 μ [v0, .int x, v2] st := x_istore_n dX6_day_41 (Nat.le_of_ble_eq_true rfl) rfl
theorem e92_42 : ab_rn cl 92 J Q (k + 1) 42 μ [v0, .int x, v2] st = ab_rn cl 92 J Q k 43 μ [v0, .int x, v2] (.int x :: st) := x_iload_n dX6_day_42 rfl
theorem e92_43 : ab_rn cl 92 J Q (k + 1) 43 μ [v0, v1, v2] st = ab_rn cl 92 J Q k 45 μ [v0, v1, v2] (.int 12 :: st) := x_bipush dX6_day_43 (by decide)
theorem e92_45 : ab_rn cl 92 J Q (k + 1) 45 μ [v0, v1, v2] (.int y :: .int x :: st) = (((y ≤ x) → ab_rn cl 92 J Q k 124 μ [v0, v1, v2] st) ∧ ((¬ (y ≤ x)) → ab_rn cl 92 J Q k 48 μ [v0, v1, v2] st)) := x_icmpF dX6_day_45 rfl (fun _ _ _ _ _ => rfl)
theorem e92_48 : ab_rn cl 92 J Q (k + 1) 48 μ [v0, v1, v2] st = ab_rn cl 92 J Q k 50 μ [v0, v1, v2] (.int 10 :: st) := x_bipush dX6_day_48 (by decide)
theorem e92_50 : ab_rn cl 92 J Q (k + 1) 50 μ [v0, .int x, v2] st = ab_rn cl 92 J Q k 51 μ [v0, .int x, v2] (.int x :: st) := x_iload_n dX6_day_50 rfl
theorem e92_51 : ab_rn cl 92 J Q (k + 1) 51 μ [v0, v1, v2] (.int y :: .int x :: st) = ab_rn cl 92 J Q k 52 μ [v0, v1, v2] (.int (x * y) :: st) := x_imul dX6_day_51
theorem e92_52 : ab_rn cl 92 J Q (k + 1) 52 μ [v0, v1, v2] (.int x :: st) = ab_rn cl 92 J Q k 53 μ [v0, v1, .int x] st := x_istore_n dX6_day_52 (Nat.le_of_ble_eq_true rfl) rfl
theorem e92_53 : ab_rn cl 92 J Q (k + 1) 53 μ [v0, v1, .int x] st = ab_rn cl 92 J Q k 54 μ [v0, v1, .int x] (.int x :: st) := x_iload_n dX6_day_53 rfl
theorem e92_54 : ab_rn cl 92 J Q (k + 1) 54 μ [v0, v1, v2] st = ab_rn cl 92 J Q k 56 μ [v0, v1, v2] (.int 10 :: st) := x_bipush dX6_day_54 (by decide)
theorem e92_56 : ab_rn cl 92 J Q (k + 1) 56 μ [v0, .int x, v2] st = ab_rn cl 92 J Q k 57 μ [v0, .int x, v2] (.int x :: st) := x_iload_n dX6_day_56 rfl
theorem e92_57 : ab_rn cl 92 J Q (k + 1) 57 μ [v0, v1, v2] (.int y :: .int x :: st) = ab_rn cl 92 J Q k 58 μ [v0, v1, v2] (.int (x * y) :: st) := x_imul dX6_day_57
theorem e92_58 : ab_rn cl 92 J Q (k + 1) 58 μ [.ref a, v1, v2] st = ab_rn cl 92 J Q k 59 μ [.ref a, v1, v2] (.ref a :: st) := x_aload_n dX6_day_58 rfl
theorem e92_59 : ab_rn cl 92 J Q (k + 1) 59 μ [v0, v1, v2] (.ref a :: st) = (ab_ob a 6 ∧ ab_rn cl 92 J Q k 62 μ [v0, v1, v2] (ab_fv μ a 1 :: st)) := x_get dX6_day_59 rfl
theorem e92_62 : ab_rn cl 92 J Q (k + 1) 62 μ [v0, .int x, v2] st = ab_rn cl 92 J Q k 63 μ [v0, .int x, v2] (.int x :: st) := x_iload_n dX6_day_62 rfl
theorem e92_63 : ab_rn cl 92 J Q (k + 1) 63 μ [v0, v1, v2] (.int x :: .ref a :: st) = ((a < 81 ∧ ab_ak a = 0) ∧ vp_in x (ab_al a) ∧ ab_rn cl 92 J Q k 64 μ [v0, v1, v2] (.int (μ (ab_cmp a) (ab_off a + x.toNatClampNeg)) :: st)) := x_iaload dX6_day_63
theorem e92_64 : ab_rn cl 92 J Q (k + 1) 64 μ [v0, v1, v2] (.int y :: .int x :: st) = ab_rn cl 92 J Q k 65 μ [v0, v1, v2] (.int (x + y) :: st) := x_iadd dX6_day_64
theorem e92_65 : ab_rn cl 92 J Q (k + 1) 65 μ [v0, v1, v2] (.int y :: .int x :: st) = (((y ≤ x) → ab_rn cl 92 J Q k 84 μ [v0, v1, v2] st) ∧ ((¬ (y ≤ x)) → ab_rn cl 92 J Q k 68 μ [v0, v1, v2] st)) := x_icmpF dX6_day_65 rfl (fun _ _ _ _ _ => rfl)
theorem e92_68 : ab_rn cl 92 J Q (k + 1) 68 μ [.ref a, v1, v2] st = ab_rn cl 92 J Q k 69 μ [.ref a, v1, v2] (.ref a :: st) := x_aload_n dX6_day_68 rfl
theorem e92_69 : ab_rn cl 92 J Q (k + 1) 69 μ [v0, v1, v2] (.ref a :: st) = (ab_ob a 6 ∧ ab_rn cl 92 J Q k 72 μ [v0, v1, v2] (ab_fv μ a 4 :: st)) := x_get dX6_day_69 rfl
theorem e92_72 : ab_rn cl 92 J Q (k + 1) 72 μ [v0, v1, .int x] st = ab_rn cl 92 J Q k 73 μ [v0, v1, .int x] (.int x :: st) := x_iload_n dX6_day_72 rfl
theorem e92_73 : ab_rn cl 92 J Q (k + 1) 73 μ [v0, v1, v2] (.int x :: .ref a :: st) = ab_rn cl 92 J Q k 74 μ [v0, v1, v2] (.int x :: .ref a :: .int x :: .ref a :: st) := x_dup2 dX6_day_73
theorem e92_74 : ab_rn cl 92 J Q (k + 1) 74 μ [v0, v1, v2] (.int x :: .ref a :: st) = ((a < 81 ∧ ab_ak a = 0) ∧ vp_in x (ab_al a) ∧ ab_rn cl 92 J Q k 75 μ [v0, v1, v2] (.int (μ (ab_cmp a) (ab_off a + x.toNatClampNeg)) :: st)) := x_iaload dX6_day_74
theorem e92_75 : ab_rn cl 92 J Q (k + 1) 75 μ [v0, v1, v2] st = ab_rn cl 92 J Q k 76 μ [v0, v1, v2] (.int 1 :: st) := x_iconst dX6_day_75 (by decide)
theorem e92_76 : ab_rn cl 92 J Q (k + 1) 76 μ [v0, v1, v2] (.int y :: .int x :: st) = ab_rn cl 92 J Q k 77 μ [v0, v1, v2] (.int (x + y) :: st) := x_iadd dX6_day_76
theorem e92_77 : ab_rn cl 92 J Q (k + 1) 77 μ [v0, v1, v2] (.int v :: .int x :: .ref a :: st) = ((a < 81 ∧ ab_ak a = 0) ∧ vp_in x (ab_al a) ∧ ab_rn cl 92 J Q k 78 (ab_up μ (ab_cmp a) (ab_off a + x.toNatClampNeg) v) [v0, v1, v2] st) := x_iastore dX6_day_77
theorem e92_78 : ab_rn cl 92 J Q (k + 1) 78 μ [v0, v1, .int x] st = ab_rn cl 92 J Q k 81 μ [v0, v1, .int (x + 1)] st := x_iinc dX6_day_78 (w := 1) (by decide) rfl rfl
theorem e92_81 : ab_rn cl 92 J Q (k + 1) 81 μ [v0, v1, v2] st = J 53 μ [v0, v1, v2] st := x_gotoB dX6_day_81 (fun _ _ _ _ _ => rfl)
theorem e92_84 : ab_rn cl 92 J Q (k + 1) 84 μ [v0, v1, v2] st = ab_rn cl 92 J Q k 86 μ [v0, v1, v2] (.int 10 :: st) := x_bipush dX6_day_84 (by decide)
theorem e92_86 : ab_rn cl 92 J Q (k + 1) 86 μ [.ref a, v1, v2] st = ab_rn cl 92 J Q k 87 μ [.ref a, v1, v2] (.ref a :: st) := x_aload_n dX6_day_86 rfl
theorem e92_87 : ab_rn cl 92 J Q (k + 1) 87 μ [v0, .int x, v2] st = ab_rn cl 92 J Q k 88 μ [v0, .int x, v2] (.int x :: st) := x_iload_n dX6_day_87 rfl
theorem e92_88 : ab_rn cl 92 J Q (k + 1) 88 μ [v0, v1, v2] st = ab_rn cl 92 J Q k 89 μ [v0, v1, v2] (.int 4 :: st) := x_iconst dX6_day_88 (by decide)
theorem e92_89 : ab_rn cl 92 J Q (k + 1) 89 μ [v0, v1, v2] (.int y :: .int x :: st) = ((¬ y = 0) ∧ ab_rn cl 92 J Q k 90 μ [v0, v1, v2] (.int (x / y) :: st)) := x_idiv dX6_day_89
theorem e92_90 : ab_rn cl 92 J Q (k + 1) 90 μ [v0, v1, v2] (.int x0 :: .ref a :: st) = (ab_ob a 6 ∧ st.length ≤ 4 ∧ cl 85 [.ref a, .int x0] μ (fun r μ' => ab_rn cl 92 J Q k 93 μ' [v0, v1, v2] (ab_pu r st))) := x_v (as := [.int x0]) dX6_day_90 rfl rfl rfl rfl rfl
theorem e92_93 : ab_rn cl 92 J Q (k + 1) 93 μ [v0, v1, v2] (.int y :: .int x :: st) = ab_rn cl 92 J Q k 94 μ [v0, v1, v2] (.int (x * y) :: st) := x_imul dX6_day_93
theorem e92_94 : ab_rn cl 92 J Q (k + 1) 94 μ [v0, v1, v2] (.int x :: st) = ab_rn cl 92 J Q k 95 μ [v0, v1, .int x] st := x_istore_n dX6_day_94 (Nat.le_of_ble_eq_true rfl) rfl
theorem e92_95 : ab_rn cl 92 J Q (k + 1) 95 μ [v0, v1, .int x] st = ab_rn cl 92 J Q k 96 μ [v0, v1, .int x] (.int x :: st) := x_iload_n dX6_day_95 rfl
theorem e92_96 : ab_rn cl 92 J Q (k + 1) 96 μ [v0, v1, v2] (.int x :: st) = (((¬ x = 0) → ab_rn cl 92 J Q k 102 μ [v0, v1, v2] st) ∧ ((¬ (¬ x = 0)) → ab_rn cl 92 J Q k 99 μ [v0, v1, v2] st)) := x_ifF dX6_day_96 rfl (fun _ _ _ _ _ => rfl)
theorem e92_99 : ab_rn cl 92 J Q (k + 1) 99 μ [v0, v1, v2] st = ab_rn cl 92 J Q k 118 μ [v0, v1, v2] st := x_gotoF dX6_day_99 (fun _ _ _ _ _ => rfl)
theorem e92_102 : ab_rn cl 92 J Q (k + 1) 102 μ [.ref a, v1, v2] st = ab_rn cl 92 J Q k 103 μ [.ref a, v1, v2] (.ref a :: st) := x_aload_n dX6_day_102 rfl
theorem e92_103 : ab_rn cl 92 J Q (k + 1) 103 μ [v0, .int x, v2] st = ab_rn cl 92 J Q k 104 μ [v0, .int x, v2] (.int x :: st) := x_iload_n dX6_day_103 rfl
theorem e92_104 : ab_rn cl 92 J Q (k + 1) 104 μ [v0, v1, .int x] st = ab_rn cl 92 J Q k 105 μ [v0, v1, .int x] (.int x :: st) := x_iload_n dX6_day_104 rfl
theorem e92_105 : ab_rn cl 92 J Q (k + 1) 105 μ [v0, v1, v2] (.int x1 :: .int x0 :: .ref a :: st) = (ab_ob a 6 ∧ st.length ≤ 4 ∧ cl 84 [.ref a, .int x0, .int x1] μ (fun r μ' => ab_rn cl 92 J Q k 108 μ' [v0, v1, v2] (ab_pu r st))) := x_v (as := [.int x0, .int x1]) dX6_day_105 rfl rfl rfl rfl rfl
theorem e92_108 : ab_rn cl 92 J Q (k + 1) 108 μ [.ref a, v1, v2] st = ab_rn cl 92 J Q k 109 μ [.ref a, v1, v2] (.ref a :: st) := x_aload_n dX6_day_108 rfl
theorem e92_109i : ab_rn cl 92 J Q (k + 1) 109 μ [v0, v1, v2] (.int x :: st) = ab_rn cl 92 J Q k 110 μ [v0, v1, v2] (.int x :: .int x :: st) := x_dupi dX6_day_109
theorem e92_109r : ab_rn cl 92 J Q (k + 1) 109 μ [v0, v1, v2] (.ref a :: st) = ab_rn cl 92 J Q k 110 μ [v0, v1, v2] (.ref a :: .ref a :: st) := x_dupr dX6_day_109
theorem e92_110 : ab_rn cl 92 J Q (k + 1) 110 μ [v0, v1, v2] (.ref a :: st) = (ab_ob a 6 ∧ ab_rn cl 92 J Q k 113 μ [v0, v1, v2] (ab_fv μ a 10 :: st)) := x_get dX6_day_110 rfl
theorem e92_113 : ab_rn cl 92 J Q (k + 1) 113 μ [v0, v1, .int x] st = ab_rn cl 92 J Q k 114 μ [v0, v1, .int x] (.int x :: st) := x_iload_n dX6_day_113 rfl
theorem e92_114 : ab_rn cl 92 J Q (k + 1) 114 μ [v0, v1, v2] (.int y :: .int x :: st) = ab_rn cl 92 J Q k 115 μ [v0, v1, v2] (.int (x + y) :: st) := x_iadd dX6_day_114
theorem e92_115 : ab_rn cl 92 J Q (k + 1) 115 μ [v0, v1, v2] (.int v :: .ref a :: st) = (ab_ob a 6 ∧ ab_rf a 10 = none ∧ ab_rn cl 92 J Q k 118 (ab_up μ (ab_cmp a) (ab_off a + 10) v) [v0, v1, v2] st) := x_put dX6_day_115 rfl
theorem e92_118 : ab_rn cl 92 J Q (k + 1) 118 μ [v0, .int x, v2] st = ab_rn cl 92 J Q k 121 μ [v0, .int (x + 1), v2] st := x_iinc dX6_day_118 (w := 1) (by decide) rfl rfl
theorem e92_121 : ab_rn cl 92 J Q (k + 1) 121 μ [v0, v1, v2] st = J 42 μ [v0, v1, v2] st := x_gotoB dX6_day_121 (fun _ _ _ _ _ => rfl)
theorem e92_124 : ab_rn cl 92 J Q (k + 1) 124 μ [v0, v1, v2] st = ab_rn cl 92 J Q k 125 μ [v0, v1, v2] (.int 0 :: st) := x_iconst dX6_day_124 (by decide)
theorem e92_125 : ab_rn cl 92 J Q (k + 1) 125 μ [v0, v1, v2] (.int x :: st) = ab_rn cl 92 J Q k 126 μ [v0, .int x, v2] st := x_istore_n dX6_day_125 (Nat.le_of_ble_eq_true rfl) rfl
theorem e92_126 : ab_rn cl 92 J Q (k + 1) 126 μ [v0, .int x, v2] st = ab_rn cl 92 J Q k 127 μ [v0, .int x, v2] (.int x :: st) := x_iload_n dX6_day_126 rfl
theorem e92_127 : ab_rn cl 92 J Q (k + 1) 127 μ [v0, v1, v2] st = ab_rn cl 92 J Q k 128 μ [v0, v1, v2] (.int 3 :: st) := x_iconst dX6_day_127 (by decide)
theorem e92_128 : ab_rn cl 92 J Q (k + 1) 128 μ [v0, v1, v2] (.int y :: .int x :: st) = (((y ≤ x) → ab_rn cl 92 J Q k 169 μ [v0, v1, v2] st) ∧ ((¬ (y ≤ x)) → ab_rn cl 92 J Q k 131 μ [v0, v1, v2] st)) := x_icmpF dX6_day_128 rfl (fun _ _ _ _ _ => rfl)
theorem e92_131 : ab_rn cl 92 J Q (k + 1) 131 μ [.ref a, v1, v2] st = ab_rn cl 92 J Q k 132 μ [.ref a, v1, v2] (.ref a :: st) := x_aload_n dX6_day_131 rfl
theorem e92_132 : ab_rn cl 92 J Q (k + 1) 132 μ [v0, v1, v2] (.ref a :: st) = (ab_ob a 6 ∧ ab_rn cl 92 J Q k 135 μ [v0, v1, v2] (ab_fv μ a 9 :: st)) := x_get dX6_day_132 rfl
theorem e92_135 : ab_rn cl 92 J Q (k + 1) 135 μ [v0, v1, v2] st = ab_rn cl 92 J Q k 136 μ [v0, v1, v2] (.int 3 :: st) := x_iconst dX6_day_135 (by decide)
theorem e92_136 : ab_rn cl 92 J Q (k + 1) 136 μ [v0, v1, v2] (.int y :: .int x :: st) = (((x ≤ y) → ab_rn cl 92 J Q k 169 μ [v0, v1, v2] st) ∧ ((¬ (x ≤ y)) → ab_rn cl 92 J Q k 139 μ [v0, v1, v2] st)) := x_icmpF dX6_day_136 rfl (fun _ _ _ _ _ => rfl)
theorem e92_139 : ab_rn cl 92 J Q (k + 1) 139 μ [.ref a, v1, v2] st = ab_rn cl 92 J Q k 140 μ [.ref a, v1, v2] (.ref a :: st) := x_aload_n dX6_day_139 rfl
theorem e92_140 : ab_rn cl 92 J Q (k + 1) 140 μ [v0, v1, v2] st = ab_rn cl 92 J Q k 141 μ [v0, v1, v2] (.int 4 :: st) := x_iconst dX6_day_140 (by decide)
theorem e92_141 : ab_rn cl 92 J Q (k + 1) 141 μ [v0, .int x, v2] st = ab_rn cl 92 J Q k 142 μ [v0, .int x, v2] (.int x :: st) := x_iload_n dX6_day_141 rfl
theorem e92_142 : ab_rn cl 92 J Q (k + 1) 142 μ [v0, v1, v2] (.int y :: .int x :: st) = ab_rn cl 92 J Q k 143 μ [v0, v1, v2] (.int (x * y) :: st) := x_imul dX6_day_142
theorem e92_143 : ab_rn cl 92 J Q (k + 1) 143 μ [.ref a, v1, v2] st = ab_rn cl 92 J Q k 144 μ [.ref a, v1, v2] (.ref a :: st) := x_aload_n dX6_day_143 rfl
theorem e92_144 : ab_rn cl 92 J Q (k + 1) 144 μ [v0, v1, v2] (.ref a :: st) = (ab_ob a 6 ∧ ab_rn cl 92 J Q k 147 μ [v0, v1, v2] (ab_fv μ a 8 :: st)) := x_get dX6_day_144 rfl
theorem e92_147 : ab_rn cl 92 J Q (k + 1) 147 μ [v0, v1, v2] (.int y :: .int x :: st) = ab_rn cl 92 J Q k 148 μ [v0, v1, v2] (.int (x + y) :: st) := x_iadd dX6_day_147
theorem e92_148 : ab_rn cl 92 J Q (k + 1) 148 μ [v0, v1, v2] st = ab_rn cl 92 J Q k 149 μ [v0, v1, v2] (.int 4 :: st) := x_iconst dX6_day_148 (by decide)
theorem e92_149 : ab_rn cl 92 J Q (k + 1) 149 μ [v0, .int x, v2] st = ab_rn cl 92 J Q k 150 μ [v0, .int x, v2] (.int x :: st) := x_iload_n dX6_day_149 rfl
theorem e92_150 : ab_rn cl 92 J Q (k + 1) 150 μ [v0, v1, v2] (.int y :: .int x :: st) = ab_rn cl 92 J Q k 151 μ [v0, v1, v2] (.int (x * y) :: st) := x_imul dX6_day_150
theorem e92_151 : ab_rn cl 92 J Q (k + 1) 151 μ [.ref a, v1, v2] st = ab_rn cl 92 J Q k 152 μ [.ref a, v1, v2] (.ref a :: st) := x_aload_n dX6_day_151 rfl
theorem e92_152 : ab_rn cl 92 J Q (k + 1) 152 μ [v0, v1, v2] (.ref a :: st) = (ab_ob a 6 ∧ ab_rn cl 92 J Q k 155 μ [v0, v1, v2] (ab_fv μ a 8 :: st)) := x_get dX6_day_152 rfl
theorem e92_155 : ab_rn cl 92 J Q (k + 1) 155 μ [v0, v1, v2] st = ab_rn cl 92 J Q k 156 μ [v0, v1, v2] (.int 2 :: st) := x_iconst dX6_day_155 (by decide)
theorem e92_156 : ab_rn cl 92 J Q (k + 1) 156 μ [v0, v1, v2] (.int y :: .int x :: st) = ab_rn cl 92 J Q k 157 μ [v0, v1, v2] (.int (x + y) :: st) := x_iadd dX6_day_156
theorem e92_157 : ab_rn cl 92 J Q (k + 1) 157 μ [v0, v1, v2] st = ab_rn cl 92 J Q k 158 μ [v0, v1, v2] (.int 4 :: st) := x_iconst dX6_day_157 (by decide)
theorem e92_158 : ab_rn cl 92 J Q (k + 1) 158 μ [v0, v1, v2] (.int y :: .int x :: st) = ((¬ y = 0) ∧ ab_rn cl 92 J Q k 159 μ [v0, v1, v2] (.int (x - x / y * y) :: st)) := x_irem dX6_day_158
theorem e92_159 : ab_rn cl 92 J Q (k + 1) 159 μ [v0, v1, v2] (.int y :: .int x :: st) = ab_rn cl 92 J Q k 160 μ [v0, v1, v2] (.int (x + y) :: st) := x_iadd dX6_day_159
theorem e92_160 : ab_rn cl 92 J Q (k + 1) 160 μ [v0, v1, v2] (.int x1 :: .int x0 :: .ref a :: st) = (ab_ob a 6 ∧ st.length ≤ 4 ∧ cl 88 [.ref a, .int x0, .int x1] μ (fun r μ' => ab_rn cl 92 J Q k 163 μ' [v0, v1, v2] (ab_pu r st))) := x_v (as := [.int x0, .int x1]) dX6_day_160 rfl rfl rfl rfl rfl
theorem e92_163 : ab_rn cl 92 J Q (k + 1) 163 μ [v0, .int x, v2] st = ab_rn cl 92 J Q k 166 μ [v0, .int (x + 1), v2] st := x_iinc dX6_day_163 (w := 1) (by decide) rfl rfl
theorem e92_166 : ab_rn cl 92 J Q (k + 1) 166 μ [v0, v1, v2] st = J 126 μ [v0, v1, v2] st := x_gotoB dX6_day_166 (fun _ _ _ _ _ => rfl)
theorem e92_169 : ab_rn cl 92 J Q (k + 1) 169 μ [v0, v1, v2] st = ab_rn cl 92 J Q k 170 μ [v0, v1, v2] (.int 0 :: st) := x_iconst dX6_day_169 (by decide)
theorem e92_170 : ab_rn cl 92 J Q (k + 1) 170 μ [v0, v1, v2] (.int x :: st) = ab_rn cl 92 J Q k 171 μ [v0, .int x, v2] st := x_istore_n dX6_day_170 (Nat.le_of_ble_eq_true rfl) rfl
theorem e92_171 : ab_rn cl 92 J Q (k + 1) 171 μ [v0, .int x, v2] st = ab_rn cl 92 J Q k 172 μ [v0, .int x, v2] (.int x :: st) := x_iload_n dX6_day_171 rfl
theorem e92_172 : ab_rn cl 92 J Q (k + 1) 172 μ [v0, v1, v2] st = ab_rn cl 92 J Q k 174 μ [v0, v1, v2] (.int 12 :: st) := x_bipush dX6_day_172 (by decide)
theorem e92_174 : ab_rn cl 92 J Q (k + 1) 174 μ [v0, v1, v2] (.int y :: .int x :: st) = (((y ≤ x) → ab_rn cl 92 J Q k 193 μ [v0, v1, v2] st) ∧ ((¬ (y ≤ x)) → ab_rn cl 92 J Q k 177 μ [v0, v1, v2] st)) := x_icmpF dX6_day_174 rfl (fun _ _ _ _ _ => rfl)
theorem e92_177 : ab_rn cl 92 J Q (k + 1) 177 μ [.ref a, v1, v2] st = ab_rn cl 92 J Q k 178 μ [.ref a, v1, v2] (.ref a :: st) := x_aload_n dX6_day_177 rfl
theorem e92_178 : ab_rn cl 92 J Q (k + 1) 178 μ [v0, .int x, v2] st = ab_rn cl 92 J Q k 179 μ [v0, .int x, v2] (.int x :: st) := x_iload_n dX6_day_178 rfl
theorem e92_179 : ab_rn cl 92 J Q (k + 1) 179 μ [v0, v1, v2] (.int x0 :: .ref a :: st) = (ab_ob a 6 ∧ st.length ≤ 4 ∧ cl 89 [.ref a, .int x0] μ (fun r μ' => ab_rn cl 92 J Q k 182 μ' [v0, v1, v2] (ab_pu r st))) := x_v (as := [.int x0]) dX6_day_179 rfl rfl rfl rfl rfl
theorem e92_182 : ab_rn cl 92 J Q (k + 1) 182 μ [.ref a, v1, v2] st = ab_rn cl 92 J Q k 183 μ [.ref a, v1, v2] (.ref a :: st) := x_aload_n dX6_day_182 rfl
theorem e92_183 : ab_rn cl 92 J Q (k + 1) 183 μ [v0, .int x, v2] st = ab_rn cl 92 J Q k 184 μ [v0, .int x, v2] (.int x :: st) := x_iload_n dX6_day_183 rfl
theorem e92_184 : ab_rn cl 92 J Q (k + 1) 184 μ [v0, v1, v2] (.int x0 :: .ref a :: st) = (ab_ob a 6 ∧ st.length ≤ 4 ∧ cl 90 [.ref a, .int x0] μ (fun r μ' => ab_rn cl 92 J Q k 187 μ' [v0, v1, v2] (ab_pu r st))) := x_v (as := [.int x0]) dX6_day_184 rfl rfl rfl rfl rfl
theorem e92_187 : ab_rn cl 92 J Q (k + 1) 187 μ [v0, .int x, v2] st = ab_rn cl 92 J Q k 190 μ [v0, .int (x + 1), v2] st := x_iinc dX6_day_187 (w := 1) (by decide) rfl rfl
theorem e92_190 : ab_rn cl 92 J Q (k + 1) 190 μ [v0, v1, v2] st = J 171 μ [v0, v1, v2] st := x_gotoB dX6_day_190 (fun _ _ _ _ _ => rfl)
theorem e92_193 : ab_rn cl 92 J Q (k + 1) 193 μ [.ref a, v1, v2] st = ab_rn cl 92 J Q k 194 μ [.ref a, v1, v2] (.ref a :: st) := x_aload_n dX6_day_193 rfl
theorem e92_194i : ab_rn cl 92 J Q (k + 1) 194 μ [v0, v1, v2] (.int x :: st) = ab_rn cl 92 J Q k 195 μ [v0, v1, v2] (.int x :: .int x :: st) := x_dupi dX6_day_194
theorem e92_194r : ab_rn cl 92 J Q (k + 1) 194 μ [v0, v1, v2] (.ref a :: st) = ab_rn cl 92 J Q k 195 μ [v0, v1, v2] (.ref a :: .ref a :: st) := x_dupr dX6_day_194
theorem e92_195 : ab_rn cl 92 J Q (k + 1) 195 μ [v0, v1, v2] (.ref a :: st) = (ab_ob a 6 ∧ ab_rn cl 92 J Q k 198 μ [v0, v1, v2] (ab_fv μ a 0 :: st)) := x_get dX6_day_195 rfl
theorem e92_198 : ab_rn cl 92 J Q (k + 1) 198 μ [v0, v1, v2] st = ab_rn cl 92 J Q k 199 μ [v0, v1, v2] (.int 1 :: st) := x_iconst dX6_day_198 (by decide)
theorem e92_199 : ab_rn cl 92 J Q (k + 1) 199 μ [v0, v1, v2] (.int y :: .int x :: st) = ab_rn cl 92 J Q k 200 μ [v0, v1, v2] (.int (x + y) :: st) := x_iadd dX6_day_199
theorem e92_200 : ab_rn cl 92 J Q (k + 1) 200 μ [v0, v1, v2] (.int v :: .ref a :: st) = (ab_ob a 6 ∧ ab_rf a 0 = none ∧ ab_rn cl 92 J Q k 203 (ab_up μ (ab_cmp a) (ab_off a + 0) v) [v0, v1, v2] st) := x_put dX6_day_200 rfl
theorem e92_203 : ab_rn cl 92 J Q (k + 1) 203 μ [v0, v1, v2] st = ab_rn cl 92 J Q k 204 μ [v0, v1, v2] (.int 0 :: st) := x_iconst dX6_day_203 (by decide)
theorem e92_204 : ab_rn cl 92 J Q (k + 1) 204 μ [v0, v1, v2] (.int x :: st) = ab_rn cl 92 J Q k 205 μ [v0, .int x, v2] st := x_istore_n dX6_day_204 (Nat.le_of_ble_eq_true rfl) rfl
theorem e92_205 : ab_rn cl 92 J Q (k + 1) 205 μ [v0, .int x, v2] st = ab_rn cl 92 J Q k 206 μ [v0, .int x, v2] (.int x :: st) := x_iload_n dX6_day_205 rfl
theorem e92_206 : ab_rn cl 92 J Q (k + 1) 206 μ [v0, v1, v2] st = ab_rn cl 92 J Q k 207 μ [v0, v1, v2] (.int 3 :: st) := x_iconst dX6_day_206 (by decide)
theorem e92_207 : ab_rn cl 92 J Q (k + 1) 207 μ [v0, v1, v2] (.int y :: .int x :: st) = (((y ≤ x) → ab_rn cl 92 J Q k 231 μ [v0, v1, v2] st) ∧ ((¬ (y ≤ x)) → ab_rn cl 92 J Q k 210 μ [v0, v1, v2] st)) := x_icmpF dX6_day_207 rfl (fun _ _ _ _ _ => rfl)
theorem e92_210 : ab_rn cl 92 J Q (k + 1) 210 μ [.ref a, v1, v2] st = ab_rn cl 92 J Q k 211 μ [.ref a, v1, v2] (.ref a :: st) := x_aload_n dX6_day_210 rfl
theorem e92_211 : ab_rn cl 92 J Q (k + 1) 211 μ [v0, v1, v2] (.ref a :: st) = (ab_ob a 6 ∧ ab_rn cl 92 J Q k 214 μ [v0, v1, v2] (ab_fv μ a 5 :: st)) := x_get dX6_day_211 rfl
theorem e92_214 : ab_rn cl 92 J Q (k + 1) 214 μ [v0, .int x, v2] st = ab_rn cl 92 J Q k 215 μ [v0, .int x, v2] (.int x :: st) := x_iload_n dX6_day_214 rfl
theorem e92_215 : ab_rn cl 92 J Q (k + 1) 215 μ [v0, v1, v2] st = ab_rn cl 92 J Q k 216 μ [v0, v1, v2] (.int (-1) :: st) := x_iconst dX6_day_215 (by decide)
theorem e92_216 : ab_rn cl 92 J Q (k + 1) 216 μ [v0, v1, v2] (.int v :: .int x :: .ref a :: st) = ((a < 81 ∧ ab_ak a = 0) ∧ vp_in x (ab_al a) ∧ ab_rn cl 92 J Q k 217 (ab_up μ (ab_cmp a) (ab_off a + x.toNatClampNeg) v) [v0, v1, v2] st) := x_iastore dX6_day_216
theorem e92_217 : ab_rn cl 92 J Q (k + 1) 217 μ [.ref a, v1, v2] st = ab_rn cl 92 J Q k 218 μ [.ref a, v1, v2] (.ref a :: st) := x_aload_n dX6_day_217 rfl
theorem e92_218 : ab_rn cl 92 J Q (k + 1) 218 μ [v0, v1, v2] (.ref a :: st) = (ab_ob a 6 ∧ ab_rn cl 92 J Q k 221 μ [v0, v1, v2] (ab_fv μ a 6 :: st)) := x_get dX6_day_218 rfl
theorem e92_221 : ab_rn cl 92 J Q (k + 1) 221 μ [v0, .int x, v2] st = ab_rn cl 92 J Q k 222 μ [v0, .int x, v2] (.int x :: st) := x_iload_n dX6_day_221 rfl
theorem e92_222 : ab_rn cl 92 J Q (k + 1) 222 μ [v0, v1, v2] st = ab_rn cl 92 J Q k 224 μ [v0, v1, v2] (.int (-100) :: st) := x_bipush dX6_day_222 (by decide)
theorem e92_224 : ab_rn cl 92 J Q (k + 1) 224 μ [v0, v1, v2] (.int v :: .int x :: .ref a :: st) = ((a < 81 ∧ ab_ak a = 0) ∧ vp_in x (ab_al a) ∧ ab_rn cl 92 J Q k 225 (ab_up μ (ab_cmp a) (ab_off a + x.toNatClampNeg) v) [v0, v1, v2] st) := x_iastore dX6_day_224
theorem e92_225 : ab_rn cl 92 J Q (k + 1) 225 μ [v0, .int x, v2] st = ab_rn cl 92 J Q k 228 μ [v0, .int (x + 1), v2] st := x_iinc dX6_day_225 (w := 1) (by decide) rfl rfl
theorem e92_228 : ab_rn cl 92 J Q (k + 1) 228 μ [v0, v1, v2] st = J 205 μ [v0, v1, v2] st := x_gotoB dX6_day_228 (fun _ _ _ _ _ => rfl)
theorem e92_231 : ab_rn cl 92 J Q (k + 1) 231 μ [.ref a, v1, v2] st = ab_rn cl 92 J Q k 232 μ [.ref a, v1, v2] (.ref a :: st) := x_aload_n dX6_day_231 rfl
theorem e92_232 : ab_rn cl 92 J Q (k + 1) 232 μ [v0, v1, v2] st = ab_rn cl 92 J Q k 233 μ [v0, v1, v2] (.int 0 :: st) := x_iconst dX6_day_232 (by decide)
theorem e92_233 : ab_rn cl 92 J Q (k + 1) 233 μ [v0, v1, v2] (.int v :: .ref a :: st) = (ab_ob a 6 ∧ ab_rf a 9 = none ∧ ab_rn cl 92 J Q k 236 (ab_up μ (ab_cmp a) (ab_off a + 9) v) [v0, v1, v2] st) := x_put dX6_day_233 rfl
theorem e92_236 : ab_rn cl 92 J Q (k + 1) 236 μ [v0, v1, v2] [] = Q none μ := x_vret dX6_day_236 rfl
theorem n92 {d : Nat} (h : ∀ J : ab_J, (∀ k pc μ ls st, ab_rn (ab_Cl d) 92 J Q k pc μ ls st → J pc μ ls st) → J 0 μ [v0, .null, .null] []) : ab_Cl (d + 1) 92 [v0] μ Q := ab_go h
theorem e93_0 : ab_rn cl 93 J Q (k + 1) 0 μ [v0, .int x, v2] st = ab_rn cl 93 J Q k 1 μ [v0, .int x, v2] (.int x :: st) := x_iload_n dX6_go_0 rfl
theorem e93_1 : ab_rn cl 93 J Q (k + 1) 1 μ [v0, v1, v2] st = ab_rn cl 93 J Q k 2 μ [v0, v1, v2] (.int 0 :: st) := x_iconst dX6_go_1 (by decide)
theorem e93_2 : ab_rn cl 93 J Q (k + 1) 2 μ [v0, v1, v2] st = ab_rn cl 93 J Q k 4 μ [v0, v1, v2] (.int 30 :: st) := x_bipush dX6_go_2 (by decide)
theorem e93_4 : ab_rn cl 93 J Q (k + 1) 4 μ [v0, v1, v2] (.int x2 :: .int x1 :: .int x0 :: st) = (st.length ≤ 4 ∧ cl 79 [.int x0, .int x1, .int x2] μ (fun r μ' => ab_rn cl 93 J Q k 7 μ' [v0, v1, v2] (ab_pu r st))) := x_s (as := [.int x0, .int x1, .int x2]) (b := 0) dX6_go_4 rfl (by decide) rfl rfl rfl
theorem e93_7 : ab_rn cl 93 J Q (k + 1) 7 μ [v0, v1, v2] (.int x :: st) = (((¬ x = 0) → ab_rn cl 93 J Q k 12 μ [v0, v1, v2] st) ∧ ((¬ (¬ x = 0)) → ab_rn cl 93 J Q k 10 μ [v0, v1, v2] st)) := x_ifF dX6_go_7 rfl (fun _ _ _ _ _ => rfl)
theorem e93_10 : ab_rn cl 93 J Q (k + 1) 10 μ [v0, v1, v2] st = ab_rn cl 93 J Q k 11 μ [v0, v1, v2] (.int (-1) :: st) := x_iconst dX6_go_10 (by decide)
theorem e93_11 : ab_rn cl 93 J Q (k + 1) 11 μ [v0, v1, v2] [.int v] = Q (some v) μ := x_iret dX6_go_11 rfl
theorem e93_12 : ab_rn cl 93 J Q (k + 1) 12 μ [v0, v1, v2] st = ab_rn cl 93 J Q k 13 μ [v0, v1, v2] (.int 0 :: st) := x_iconst dX6_go_12 (by decide)
theorem e93_13 : ab_rn cl 93 J Q (k + 1) 13 μ [v0, v1, v2] (.int x :: st) = ab_rn cl 93 J Q k 14 μ [v0, v1, .int x] st := x_istore_n dX6_go_13 (Nat.le_of_ble_eq_true rfl) rfl
theorem e93_14 : ab_rn cl 93 J Q (k + 1) 14 μ [v0, v1, .int x] st = ab_rn cl 93 J Q k 15 μ [v0, v1, .int x] (.int x :: st) := x_iload_n dX6_go_14 rfl
theorem e93_15 : ab_rn cl 93 J Q (k + 1) 15 μ [v0, .int x, v2] st = ab_rn cl 93 J Q k 16 μ [v0, .int x, v2] (.int x :: st) := x_iload_n dX6_go_15 rfl
theorem e93_16 : ab_rn cl 93 J Q (k + 1) 16 μ [v0, v1, v2] (.int y :: .int x :: st) = (((y ≤ x) → ab_rn cl 93 J Q k 39 μ [v0, v1, v2] st) ∧ ((¬ (y ≤ x)) → ab_rn cl 93 J Q k 19 μ [v0, v1, v2] st)) := x_icmpF dX6_go_16 rfl (fun _ _ _ _ _ => rfl)
theorem e93_19 : ab_rn cl 93 J Q (k + 1) 19 μ [.ref a, v1, v2] st = ab_rn cl 93 J Q k 20 μ [.ref a, v1, v2] (.ref a :: st) := x_aload_n dX6_go_19 rfl
theorem e93_20 : ab_rn cl 93 J Q (k + 1) 20 μ [v0, v1, v2] (.ref a :: st) = (ab_ob a 6 ∧ ab_rn cl 93 J Q k 23 μ [v0, v1, v2] (ab_fv μ a 0 :: st)) := x_get dX6_go_20 rfl
theorem e93_23 : ab_rn cl 93 J Q (k + 1) 23 μ [v0, v1, v2] st = ab_rn cl 93 J Q k 26 μ [v0, v1, v2] (.int 400 :: st) := x_sipush dX6_go_23 (by decide)
theorem e93_26 : ab_rn cl 93 J Q (k + 1) 26 μ [v0, v1, v2] (.int y :: .int x :: st) = (((y ≤ x) → ab_rn cl 93 J Q k 39 μ [v0, v1, v2] st) ∧ ((¬ (y ≤ x)) → ab_rn cl 93 J Q k 29 μ [v0, v1, v2] st)) := x_icmpF dX6_go_26 rfl (fun _ _ _ _ _ => rfl)
theorem e93_29 : ab_rn cl 93 J Q (k + 1) 29 μ [.ref a, v1, v2] st = ab_rn cl 93 J Q k 30 μ [.ref a, v1, v2] (.ref a :: st) := x_aload_n dX6_go_29 rfl
theorem e93_30 : ab_rn cl 93 J Q (k + 1) 30 μ [v0, v1, v2] (.ref a :: st) = (ab_ob a 6 ∧ st.length ≤ 4 ∧ cl 92 [.ref a] μ (fun r μ' => ab_rn cl 93 J Q k 33 μ' [v0, v1, v2] (ab_pu r st))) := x_v (as := []) dX6_go_30 rfl rfl rfl rfl rfl
theorem e93_33 : ab_rn cl 93 J Q (k + 1) 33 μ [v0, v1, .int x] st = ab_rn cl 93 J Q k 36 μ [v0, v1, .int (x + 1)] st := x_iinc dX6_go_33 (w := 1) (by decide) rfl rfl
theorem e93_36 : ab_rn cl 93 J Q (k + 1) 36 μ [v0, v1, v2] st = J 14 μ [v0, v1, v2] st := x_gotoB dX6_go_36 (fun _ _ _ _ _ => rfl)
theorem e93_39 : ab_rn cl 93 J Q (k + 1) 39 μ [.ref a, v1, v2] st = ab_rn cl 93 J Q k 40 μ [.ref a, v1, v2] (.ref a :: st) := x_aload_n dX6_go_39 rfl
theorem e93_40 : ab_rn cl 93 J Q (k + 1) 40 μ [v0, v1, v2] (.ref a :: st) = (ab_ob a 6 ∧ ab_rn cl 93 J Q k 43 μ [v0, v1, v2] (ab_fv μ a 0 :: st)) := x_get dX6_go_40 rfl
theorem e93_43 : ab_rn cl 93 J Q (k + 1) 43 μ [v0, v1, v2] [.int v] = Q (some v) μ := x_iret dX6_go_43 rfl
theorem n93 {d : Nat} (h : ∀ J : ab_J, (∀ k pc μ ls st, ab_rn (ab_Cl d) 93 J Q k pc μ ls st → J pc μ ls st) → J 0 μ [v0, v1, .null] []) : ab_Cl (d + 1) 93 [v0, v1] μ Q := ab_go h
theorem e94_0 : ab_rn cl 94 J Q (k + 1) 0 μ [v0, v1, v2, v3, v4] st = ab_rn cl 94 J Q k 1 μ [v0, v1, v2, v3, v4] (.int 0 :: st) := x_iconst dX6_load_0 (by decide)
theorem e94_1 : ab_rn cl 94 J Q (k + 1) 1 μ [v0, v1, v2, v3, v4] (.int x :: st) = ab_rn cl 94 J Q k 2 μ [v0, v1, v2, .int x, v4] st := x_istore_n dX6_load_1 (Nat.le_of_ble_eq_true rfl) rfl
theorem e94_2 : ab_rn cl 94 J Q (k + 1) 2 μ [v0, v1, .int x, v3, v4] st = ab_rn cl 94 J Q k 3 μ [v0, v1, .int x, v3, v4] (.int x :: st) := x_iload_n dX6_load_2 rfl
theorem e94_3 : ab_rn cl 94 J Q (k + 1) 3 μ [v0, v1, v2, v3, v4] st = ab_rn cl 94 J Q k 4 μ [v0, v1, v2, v3, v4] (.int 1 :: st) := x_iconst dX6_load_3 (by decide)
theorem e94_4 : ab_rn cl 94 J Q (k + 1) 4 μ [v0, v1, v2, v3, v4] (.int y :: .int x :: st) = ab_rn cl 94 J Q k 5 μ [v0, v1, v2, v3, v4] (.int (x + y) :: st) := x_iadd dX6_load_4
theorem e94_5 : ab_rn cl 94 J Q (k + 1) 5 μ [v0, v1, v2, v3, v4] (.int x :: st) = ab_rn cl 94 J Q k 7 μ [v0, v1, v2, v3, .int x] st := x_istore dX6_load_5 (Nat.le_of_ble_eq_true rfl) rfl
theorem e94_7 : ab_rn cl 94 J Q (k + 1) 7 μ [v0, v1, v2, v3, .int x] st = ab_rn cl 94 J Q k 9 μ [v0, v1, v2, v3, .int x] (.int x :: st) := x_iload dX6_load_7 rfl
theorem e94_9 : ab_rn cl 94 J Q (k + 1) 9 μ [.ref a, v1, v2, v3, v4] st = ab_rn cl 94 J Q k 10 μ [.ref a, v1, v2, v3, v4] (.ref a :: st) := x_aload_n dX6_load_9 rfl
theorem e94_10 : ab_rn cl 94 J Q (k + 1) 10 μ [v0, v1, v2, v3, v4] (.ref a :: st) = (ab_ob a 6 ∧ ab_rn cl 94 J Q k 13 μ [v0, v1, v2, v3, v4] (ab_fv μ a 1 :: st)) := x_get dX6_load_10 rfl
theorem e94_13 : ab_rn cl 94 J Q (k + 1) 13 μ [v0, .int x, v2, v3, v4] st = ab_rn cl 94 J Q k 14 μ [v0, .int x, v2, v3, v4] (.int x :: st) := x_iload_n dX6_load_13 rfl
theorem e94_14 : ab_rn cl 94 J Q (k + 1) 14 μ [v0, v1, v2, v3, v4] (.int x :: .ref a :: st) = ((a < 81 ∧ ab_ak a = 0) ∧ vp_in x (ab_al a) ∧ ab_rn cl 94 J Q k 15 μ [v0, v1, v2, v3, v4] (.int (μ (ab_cmp a) (ab_off a + x.toNatClampNeg)) :: st)) := x_iaload dX6_load_14
theorem e94_15 : ab_rn cl 94 J Q (k + 1) 15 μ [v0, v1, v2, v3, v4] (.int y :: .int x :: st) = (((y ≤ x) → ab_rn cl 94 J Q k 39 μ [v0, v1, v2, v3, v4] st) ∧ ((¬ (y ≤ x)) → ab_rn cl 94 J Q k 18 μ [v0, v1, v2, v3, v4] st)) := x_icmpF dX6_load_15 rfl (fun _ _ _ _ _ => rfl)
theorem e94_18 : ab_rn cl 94 J Q (k + 1) 18 μ [v0, v1, v2, .int x, v4] st = ab_rn cl 94 J Q k 19 μ [v0, v1, v2, .int x, v4] (.int x :: st) := x_iload_n dX6_load_18 rfl
theorem e94_19 : ab_rn cl 94 J Q (k + 1) 19 μ [.ref a, v1, v2, v3, v4] st = ab_rn cl 94 J Q k 20 μ [.ref a, v1, v2, v3, v4] (.ref a :: st) := x_aload_n dX6_load_19 rfl
theorem e94_20 : ab_rn cl 94 J Q (k + 1) 20 μ [v0, v1, v2, v3, v4] (.ref a :: st) = (ab_ob a 6 ∧ ab_rn cl 94 J Q k 23 μ [v0, v1, v2, v3, v4] (ab_fv μ a 3 :: st)) := x_get dX6_load_20 rfl
theorem e94_23 : ab_rn cl 94 J Q (k + 1) 23 μ [v0, v1, v2, v3, v4] st = ab_rn cl 94 J Q k 25 μ [v0, v1, v2, v3, v4] (.int 10 :: st) := x_bipush dX6_load_23 (by decide)
theorem e94_25 : ab_rn cl 94 J Q (k + 1) 25 μ [v0, .int x, v2, v3, v4] st = ab_rn cl 94 J Q k 26 μ [v0, .int x, v2, v3, v4] (.int x :: st) := x_iload_n dX6_load_25 rfl
theorem e94_26 : ab_rn cl 94 J Q (k + 1) 26 μ [v0, v1, v2, v3, v4] (.int y :: .int x :: st) = ab_rn cl 94 J Q k 27 μ [v0, v1, v2, v3, v4] (.int (x * y) :: st) := x_imul dX6_load_26
theorem e94_27 : ab_rn cl 94 J Q (k + 1) 27 μ [v0, v1, v2, v3, .int x] st = ab_rn cl 94 J Q k 29 μ [v0, v1, v2, v3, .int x] (.int x :: st) := x_iload dX6_load_27 rfl
theorem e94_29 : ab_rn cl 94 J Q (k + 1) 29 μ [v0, v1, v2, v3, v4] (.int y :: .int x :: st) = ab_rn cl 94 J Q k 30 μ [v0, v1, v2, v3, v4] (.int (x + y) :: st) := x_iadd dX6_load_29
theorem e94_30 : ab_rn cl 94 J Q (k + 1) 30 μ [v0, v1, v2, v3, v4] (.int x :: .ref a :: st) = ((a < 81 ∧ ab_ak a = 0) ∧ vp_in x (ab_al a) ∧ ab_rn cl 94 J Q k 31 μ [v0, v1, v2, v3, v4] (.int (μ (ab_cmp a) (ab_off a + x.toNatClampNeg)) :: st)) := x_iaload dX6_load_30
theorem e94_31 : ab_rn cl 94 J Q (k + 1) 31 μ [v0, v1, v2, v3, v4] (.int y :: .int x :: st) = ab_rn cl 94 J Q k 32 μ [v0, v1, v2, v3, v4] (.int (x + y) :: st) := x_iadd dX6_load_31
theorem e94_32 : ab_rn cl 94 J Q (k + 1) 32 μ [v0, v1, v2, v3, v4] (.int x :: st) = ab_rn cl 94 J Q k 33 μ [v0, v1, v2, .int x, v4] st := x_istore_n dX6_load_32 (Nat.le_of_ble_eq_true rfl) rfl
theorem e94_33 : ab_rn cl 94 J Q (k + 1) 33 μ [v0, v1, v2, v3, .int x] st = ab_rn cl 94 J Q k 36 μ [v0, v1, v2, v3, .int (x + 1)] st := x_iinc dX6_load_33 (w := 1) (by decide) rfl rfl
theorem e94_36 : ab_rn cl 94 J Q (k + 1) 36 μ [v0, v1, v2, v3, v4] st = J 7 μ [v0, v1, v2, v3, v4] st := x_gotoB dX6_load_36 (fun _ _ _ _ _ => rfl)
theorem e94_39 : ab_rn cl 94 J Q (k + 1) 39 μ [v0, v1, v2, .int x, v4] st = ab_rn cl 94 J Q k 40 μ [v0, v1, v2, .int x, v4] (.int x :: st) := x_iload_n dX6_load_39 rfl
theorem e94_40 : ab_rn cl 94 J Q (k + 1) 40 μ [v0, v1, v2, v3, v4] [.int v] = Q (some v) μ := x_iret dX6_load_40 rfl
theorem n94 {d : Nat} (h : ∀ J : ab_J, (∀ k pc μ ls st, ab_rn (ab_Cl d) 94 J Q k pc μ ls st → J pc μ ls st) → J 0 μ [v0, v1, v2, .null, .null] []) : ab_Cl (d + 1) 94 [v0, v1, v2] μ Q := ab_go h
theorem e95_0 : ab_rn cl 95 J Q (k + 1) 0 μ [.ref a, v1, v2, v3, v4, v5, v6] st = ab_rn cl 95 J Q k 1 μ [.ref a, v1, v2, v3, v4, v5, v6] (.ref a :: st) := x_aload_n dX6_index_0 rfl
theorem e95_1 : ab_rn cl 95 J Q (k + 1) 1 μ [v0, .int x, v2, v3, v4, v5, v6] st = ab_rn cl 95 J Q k 2 μ [v0, .int x, v2, v3, v4, v5, v6] (.int x :: st) := x_iload_n dX6_index_1 rfl
theorem e95_2 : ab_rn cl 95 J Q (k + 1) 2 μ [v0, v1, .int x, v3, v4, v5, v6] st = ab_rn cl 95 J Q k 3 μ [v0, v1, .int x, v3, v4, v5, v6] (.int x :: st) := x_iload_n dX6_index_2 rfl
theorem e95_3 : ab_rn cl 95 J Q (k + 1) 3 μ [v0, v1, v2, v3, v4, v5, v6] (.int x1 :: .int x0 :: .ref a :: st) = (ab_ob a 6 ∧ st.length ≤ 4 ∧ cl 94 [.ref a, .int x0, .int x1] μ (fun r μ' => ab_rn cl 95 J Q k 6 μ' [v0, v1, v2, v3, v4, v5, v6] (ab_pu r st))) := x_v (as := [.int x0, .int x1]) dX6_index_3 rfl rfl rfl rfl rfl
theorem e95_6 : ab_rn cl 95 J Q (k + 1) 6 μ [v0, v1, v2, v3, v4, v5, v6] (.int x :: st) = ab_rn cl 95 J Q k 7 μ [v0, v1, v2, .int x, v4, v5, v6] st := x_istore_n dX6_index_6 (Nat.le_of_ble_eq_true rfl) rfl
theorem e95_7 : ab_rn cl 95 J Q (k + 1) 7 μ [v0, v1, v2, .int x, v4, v5, v6] st = ab_rn cl 95 J Q k 8 μ [v0, v1, v2, .int x, v4, v5, v6] (.int x :: st) := x_iload_n dX6_index_7 rfl
theorem e95_8 : ab_rn cl 95 J Q (k + 1) 8 μ [v0, v1, v2, v3, v4, v5, v6] (.int x :: st) = (((¬ x = 0) → ab_rn cl 95 J Q k 13 μ [v0, v1, v2, v3, v4, v5, v6] st) ∧ ((¬ (¬ x = 0)) → ab_rn cl 95 J Q k 11 μ [v0, v1, v2, v3, v4, v5, v6] st)) := x_ifF dX6_index_8 rfl (fun _ _ _ _ _ => rfl)
theorem e95_11 : ab_rn cl 95 J Q (k + 1) 11 μ [v0, v1, v2, v3, v4, v5, v6] st = ab_rn cl 95 J Q k 12 μ [v0, v1, v2, v3, v4, v5, v6] (.int (-1) :: st) := x_iconst dX6_index_11 (by decide)
theorem e95_12 : ab_rn cl 95 J Q (k + 1) 12 μ [v0, v1, v2, v3, v4, v5, v6] [.int v] = Q (some v) μ := x_iret dX6_index_12 rfl
theorem e95_13 : ab_rn cl 95 J Q (k + 1) 13 μ [v0, v1, v2, v3, v4, v5, v6] st = ab_rn cl 95 J Q k 15 μ [v0, v1, v2, v3, v4, v5, v6] (.int 10 :: st) := x_bipush dX6_index_13 (by decide)
theorem e95_15 : ab_rn cl 95 J Q (k + 1) 15 μ [v0, .int x, v2, v3, v4, v5, v6] st = ab_rn cl 95 J Q k 16 μ [v0, .int x, v2, v3, v4, v5, v6] (.int x :: st) := x_iload_n dX6_index_15 rfl
theorem e95_16 : ab_rn cl 95 J Q (k + 1) 16 μ [v0, v1, v2, v3, v4, v5, v6] (.int y :: .int x :: st) = ab_rn cl 95 J Q k 17 μ [v0, v1, v2, v3, v4, v5, v6] (.int (x * y) :: st) := x_imul dX6_index_16
theorem e95_17 : ab_rn cl 95 J Q (k + 1) 17 μ [v0, v1, .int x, v3, v4, v5, v6] st = ab_rn cl 95 J Q k 18 μ [v0, v1, .int x, v3, v4, v5, v6] (.int x :: st) := x_iload_n dX6_index_17 rfl
theorem e95_18 : ab_rn cl 95 J Q (k + 1) 18 μ [v0, v1, v2, v3, v4, v5, v6] (.int y :: .int x :: st) = ab_rn cl 95 J Q k 19 μ [v0, v1, v2, v3, v4, v5, v6] (.int (x + y) :: st) := x_iadd dX6_index_18
theorem e95_19 : ab_rn cl 95 J Q (k + 1) 19 μ [v0, v1, v2, v3, v4, v5, v6] (.int x :: st) = ab_rn cl 95 J Q k 21 μ [v0, v1, v2, v3, .int x, v5, v6] st := x_istore dX6_index_19 (Nat.le_of_ble_eq_true rfl) rfl
theorem e95_21 : ab_rn cl 95 J Q (k + 1) 21 μ [.ref a, v1, v2, v3, v4, v5, v6] st = ab_rn cl 95 J Q k 22 μ [.ref a, v1, v2, v3, v4, v5, v6] (.ref a :: st) := x_aload_n dX6_index_21 rfl
theorem e95_22 : ab_rn cl 95 J Q (k + 1) 22 μ [v0, v1, v2, v3, v4, v5, v6] (.ref a :: st) = (ab_ob a 6 ∧ ab_rn cl 95 J Q k 25 μ [v0, v1, v2, v3, v4, v5, v6] (ab_fv μ a 2 :: st)) := x_get dX6_index_22 rfl
theorem e95_25 : ab_rn cl 95 J Q (k + 1) 25 μ [v0, v1, v2, v3, .int x, v5, v6] st = ab_rn cl 95 J Q k 27 μ [v0, v1, v2, v3, .int x, v5, v6] (.int x :: st) := x_iload dX6_index_25 rfl
theorem e95_27 : ab_rn cl 95 J Q (k + 1) 27 μ [v0, v1, v2, v3, v4, v5, v6] (.int x :: .ref a :: st) = ((a < 81 ∧ ab_ak a = 0) ∧ vp_in x (ab_al a) ∧ ab_rn cl 95 J Q k 28 μ [v0, v1, v2, v3, v4, v5, v6] (.int (μ (ab_cmp a) (ab_off a + x.toNatClampNeg)) :: st)) := x_iaload dX6_index_27
theorem e95_28 : ab_rn cl 95 J Q (k + 1) 28 μ [v0, v1, v2, v3, v4, v5, v6] (.int x :: st) = (((¬ x = 0) → ab_rn cl 95 J Q k 37 μ [v0, v1, v2, v3, v4, v5, v6] st) ∧ ((¬ (¬ x = 0)) → ab_rn cl 95 J Q k 31 μ [v0, v1, v2, v3, v4, v5, v6] st)) := x_ifF dX6_index_28 rfl (fun _ _ _ _ _ => rfl)
theorem e95_31 : ab_rn cl 95 J Q (k + 1) 31 μ [v0, v1, v2, v3, v4, v5, v6] st = ab_rn cl 95 J Q k 34 μ [v0, v1, v2, v3, v4, v5, v6] (.int 400 :: st) := x_sipush dX6_index_31 (by decide)
theorem e95_34 : ab_rn cl 95 J Q (k + 1) 34 μ [v0, v1, v2, v3, v4, v5, v6] st = ab_rn cl 95 J Q k 85 μ [v0, v1, v2, v3, v4, v5, v6] st := x_gotoF dX6_index_34 (fun _ _ _ _ _ => rfl)
theorem e95_37 : ab_rn cl 95 J Q (k + 1) 37 μ [.ref a, v1, v2, v3, v4, v5, v6] st = ab_rn cl 95 J Q k 38 μ [.ref a, v1, v2, v3, v4, v5, v6] (.ref a :: st) := x_aload_n dX6_index_37 rfl
theorem e95_38 : ab_rn cl 95 J Q (k + 1) 38 μ [v0, v1, v2, v3, v4, v5, v6] (.ref a :: st) = (ab_ob a 6 ∧ ab_rn cl 95 J Q k 41 μ [v0, v1, v2, v3, v4, v5, v6] (ab_fv μ a 2 :: st)) := x_get dX6_index_38 rfl
theorem e95_41 : ab_rn cl 95 J Q (k + 1) 41 μ [v0, v1, v2, v3, .int x, v5, v6] st = ab_rn cl 95 J Q k 43 μ [v0, v1, v2, v3, .int x, v5, v6] (.int x :: st) := x_iload dX6_index_41 rfl
theorem e95_43 : ab_rn cl 95 J Q (k + 1) 43 μ [v0, v1, v2, v3, v4, v5, v6] (.int x :: .ref a :: st) = ((a < 81 ∧ ab_ak a = 0) ∧ vp_in x (ab_al a) ∧ ab_rn cl 95 J Q k 44 μ [v0, v1, v2, v3, v4, v5, v6] (.int (μ (ab_cmp a) (ab_off a + x.toNatClampNeg)) :: st)) := x_iaload dX6_index_43
theorem e95_44 : ab_rn cl 95 J Q (k + 1) 44 μ [v0, v1, v2, v3, v4, v5, v6] st = ab_rn cl 95 J Q k 45 μ [v0, v1, v2, v3, v4, v5, v6] (.int 1 :: st) := x_iconst dX6_index_44 (by decide)
theorem e95_45 : ab_rn cl 95 J Q (k + 1) 45 μ [v0, v1, v2, v3, v4, v5, v6] (.int y :: .int x :: st) = (((¬ x = y) → ab_rn cl 95 J Q k 54 μ [v0, v1, v2, v3, v4, v5, v6] st) ∧ ((¬ (¬ x = y)) → ab_rn cl 95 J Q k 48 μ [v0, v1, v2, v3, v4, v5, v6] st)) := x_icmpF dX6_index_45 rfl (fun _ _ _ _ _ => rfl)
theorem e95_48 : ab_rn cl 95 J Q (k + 1) 48 μ [v0, v1, v2, v3, v4, v5, v6] st = ab_rn cl 95 J Q k 51 μ [v0, v1, v2, v3, v4, v5, v6] (.int 900 :: st) := x_sipush dX6_index_48 (by decide)
theorem e95_51 : ab_rn cl 95 J Q (k + 1) 51 μ [v0, v1, v2, v3, v4, v5, v6] st = ab_rn cl 95 J Q k 85 μ [v0, v1, v2, v3, v4, v5, v6] st := x_gotoF dX6_index_51 (fun _ _ _ _ _ => rfl)
theorem e95_54 : ab_rn cl 95 J Q (k + 1) 54 μ [.ref a, v1, v2, v3, v4, v5, v6] st = ab_rn cl 95 J Q k 55 μ [.ref a, v1, v2, v3, v4, v5, v6] (.ref a :: st) := x_aload_n dX6_index_54 rfl
theorem e95_55 : ab_rn cl 95 J Q (k + 1) 55 μ [v0, v1, v2, v3, v4, v5, v6] (.ref a :: st) = (ab_ob a 6 ∧ ab_rn cl 95 J Q k 58 μ [v0, v1, v2, v3, v4, v5, v6] (ab_fv μ a 2 :: st)) := x_get dX6_index_55 rfl
theorem e95_58 : ab_rn cl 95 J Q (k + 1) 58 μ [v0, v1, v2, v3, .int x, v5, v6] st = ab_rn cl 95 J Q k 60 μ [v0, v1, v2, v3, .int x, v5, v6] (.int x :: st) := x_iload dX6_index_58 rfl
theorem e95_60 : ab_rn cl 95 J Q (k + 1) 60 μ [v0, v1, v2, v3, v4, v5, v6] (.int x :: .ref a :: st) = ((a < 81 ∧ ab_ak a = 0) ∧ vp_in x (ab_al a) ∧ ab_rn cl 95 J Q k 61 μ [v0, v1, v2, v3, v4, v5, v6] (.int (μ (ab_cmp a) (ab_off a + x.toNatClampNeg)) :: st)) := x_iaload dX6_index_60
theorem e95_61 : ab_rn cl 95 J Q (k + 1) 61 μ [v0, v1, v2, v3, v4, v5, v6] st = ab_rn cl 95 J Q k 62 μ [v0, v1, v2, v3, v4, v5, v6] (.int 2 :: st) := x_iconst dX6_index_61 (by decide)
theorem e95_62 : ab_rn cl 95 J Q (k + 1) 62 μ [v0, v1, v2, v3, v4, v5, v6] (.int y :: .int x :: st) = (((¬ x = y) → ab_rn cl 95 J Q k 82 μ [v0, v1, v2, v3, v4, v5, v6] st) ∧ ((¬ (¬ x = y)) → ab_rn cl 95 J Q k 65 μ [v0, v1, v2, v3, v4, v5, v6] st)) := x_icmpF dX6_index_62 rfl (fun _ _ _ _ _ => rfl)
theorem e95_65 : ab_rn cl 95 J Q (k + 1) 65 μ [v0, v1, v2, v3, v4, v5, v6] st = ab_rn cl 95 J Q k 68 μ [v0, v1, v2, v3, v4, v5, v6] (.int 250 :: st) := x_sipush dX6_index_65 (by decide)
theorem e95_68 : ab_rn cl 95 J Q (k + 1) 68 μ [v0, v1, v2, v3, v4, v5, v6] st = ab_rn cl 95 J Q k 70 μ [v0, v1, v2, v3, v4, v5, v6] (.int 15 :: st) := x_bipush dX6_index_68 (by decide)
theorem e95_70 : ab_rn cl 95 J Q (k + 1) 70 μ [.ref a, v1, v2, v3, v4, v5, v6] st = ab_rn cl 95 J Q k 71 μ [.ref a, v1, v2, v3, v4, v5, v6] (.ref a :: st) := x_aload_n dX6_index_70 rfl
theorem e95_71 : ab_rn cl 95 J Q (k + 1) 71 μ [v0, v1, v2, v3, v4, v5, v6] (.ref a :: st) = (ab_ob a 6 ∧ ab_rn cl 95 J Q k 74 μ [v0, v1, v2, v3, v4, v5, v6] (ab_fv μ a 4 :: st)) := x_get dX6_index_71 rfl
theorem e95_74 : ab_rn cl 95 J Q (k + 1) 74 μ [v0, v1, v2, v3, .int x, v5, v6] st = ab_rn cl 95 J Q k 76 μ [v0, v1, v2, v3, .int x, v5, v6] (.int x :: st) := x_iload dX6_index_74 rfl
theorem e95_76 : ab_rn cl 95 J Q (k + 1) 76 μ [v0, v1, v2, v3, v4, v5, v6] (.int x :: .ref a :: st) = ((a < 81 ∧ ab_ak a = 0) ∧ vp_in x (ab_al a) ∧ ab_rn cl 95 J Q k 77 μ [v0, v1, v2, v3, v4, v5, v6] (.int (μ (ab_cmp a) (ab_off a + x.toNatClampNeg)) :: st)) := x_iaload dX6_index_76
theorem e95_77 : ab_rn cl 95 J Q (k + 1) 77 μ [v0, v1, v2, v3, v4, v5, v6] (.int y :: .int x :: st) = ab_rn cl 95 J Q k 78 μ [v0, v1, v2, v3, v4, v5, v6] (.int (x * y) :: st) := x_imul dX6_index_77
theorem e95_78 : ab_rn cl 95 J Q (k + 1) 78 μ [v0, v1, v2, v3, v4, v5, v6] (.int y :: .int x :: st) = ab_rn cl 95 J Q k 79 μ [v0, v1, v2, v3, v4, v5, v6] (.int (x + y) :: st) := x_iadd dX6_index_78
theorem e95_79 : ab_rn cl 95 J Q (k + 1) 79 μ [v0, v1, v2, v3, v4, v5, v6] st = ab_rn cl 95 J Q k 85 μ [v0, v1, v2, v3, v4, v5, v6] st := x_gotoF dX6_index_79 (fun _ _ _ _ _ => rfl)
theorem e95_82 : ab_rn cl 95 J Q (k + 1) 82 μ [v0, v1, v2, v3, v4, v5, v6] st = ab_rn cl 95 J Q k 85 μ [v0, v1, v2, v3, v4, v5, v6] (.int 3000 :: st) := x_sipush dX6_index_82 (by decide)
theorem e95_85 : ab_rn cl 95 J Q (k + 1) 85 μ [v0, v1, v2, v3, v4, v5, v6] (.int x :: st) = ab_rn cl 95 J Q k 87 μ [v0, v1, v2, v3, v4, .int x, v6] st := x_istore dX6_index_85 (Nat.le_of_ble_eq_true rfl) rfl
theorem e95_87 : ab_rn cl 95 J Q (k + 1) 87 μ [v0, v1, v2, v3, v4, v5, v6] st = ab_rn cl 95 J Q k 89 μ [v0, v1, v2, v3, v4, v5, v6] (.int 100 :: st) := x_bipush dX6_index_87 (by decide)
theorem e95_89 : ab_rn cl 95 J Q (k + 1) 89 μ [v0, v1, v2, v3, v4, .int x, v6] st = ab_rn cl 95 J Q k 91 μ [v0, v1, v2, v3, v4, .int x, v6] (.int x :: st) := x_iload dX6_index_89 rfl
theorem e95_91 : ab_rn cl 95 J Q (k + 1) 91 μ [v0, v1, v2, v3, v4, v5, v6] (.int y :: .int x :: st) = ab_rn cl 95 J Q k 92 μ [v0, v1, v2, v3, v4, v5, v6] (.int (x * y) :: st) := x_imul dX6_index_91
theorem e95_92 : ab_rn cl 95 J Q (k + 1) 92 μ [v0, v1, v2, .int x, v4, v5, v6] st = ab_rn cl 95 J Q k 93 μ [v0, v1, v2, .int x, v4, v5, v6] (.int x :: st) := x_iload_n dX6_index_92 rfl
theorem e95_93 : ab_rn cl 95 J Q (k + 1) 93 μ [v0, v1, v2, v3, v4, v5, v6] (.int y :: .int x :: st) = ((¬ y = 0) ∧ ab_rn cl 95 J Q k 94 μ [v0, v1, v2, v3, v4, v5, v6] (.int (x / y) :: st)) := x_idiv dX6_index_93
theorem e95_94 : ab_rn cl 95 J Q (k + 1) 94 μ [v0, v1, v2, v3, v4, v5, v6] (.int x :: st) = ab_rn cl 95 J Q k 96 μ [v0, v1, v2, v3, v4, v5, .int x] st := x_istore dX6_index_94 (Nat.le_of_ble_eq_true rfl) rfl
theorem e95_96 : ab_rn cl 95 J Q (k + 1) 96 μ [v0, v1, v2, v3, v4, v5, .int x] st = ab_rn cl 95 J Q k 98 μ [v0, v1, v2, v3, v4, v5, .int x] (.int x :: st) := x_iload dX6_index_96 rfl
theorem e95_98 : ab_rn cl 95 J Q (k + 1) 98 μ [v0, v1, v2, v3, v4, v5, v6] st = ab_rn cl 95 J Q k 101 μ [v0, v1, v2, v3, v4, v5, v6] (.int 999 :: st) := x_sipush dX6_index_98 (by decide)
theorem e95_101 : ab_rn cl 95 J Q (k + 1) 101 μ [v0, v1, v2, v3, v4, v5, v6] (.int y :: .int x :: st) = (((x ≤ y) → ab_rn cl 95 J Q k 110 μ [v0, v1, v2, v3, v4, v5, v6] st) ∧ ((¬ (x ≤ y)) → ab_rn cl 95 J Q k 104 μ [v0, v1, v2, v3, v4, v5, v6] st)) := x_icmpF dX6_index_101 rfl (fun _ _ _ _ _ => rfl)
theorem e95_104 : ab_rn cl 95 J Q (k + 1) 104 μ [v0, v1, v2, v3, v4, v5, v6] st = ab_rn cl 95 J Q k 107 μ [v0, v1, v2, v3, v4, v5, v6] (.int 999 :: st) := x_sipush dX6_index_104 (by decide)
theorem e95_107 : ab_rn cl 95 J Q (k + 1) 107 μ [v0, v1, v2, v3, v4, v5, v6] st = ab_rn cl 95 J Q k 112 μ [v0, v1, v2, v3, v4, v5, v6] st := x_gotoF dX6_index_107 (fun _ _ _ _ _ => rfl)
theorem e95_110 : ab_rn cl 95 J Q (k + 1) 110 μ [v0, v1, v2, v3, v4, v5, .int x] st = ab_rn cl 95 J Q k 112 μ [v0, v1, v2, v3, v4, v5, .int x] (.int x :: st) := x_iload dX6_index_110 rfl
theorem e95_112 : ab_rn cl 95 J Q (k + 1) 112 μ [v0, v1, v2, v3, v4, v5, v6] [.int v] = Q (some v) μ := x_iret dX6_index_112 rfl
theorem n95 {d : Nat} (h : ∀ J : ab_J, (∀ k pc μ ls st, ab_rn (ab_Cl d) 95 J Q k pc μ ls st → J pc μ ls st) → J 0 μ [v0, v1, v2, .null, .null, .null, .null] []) : ab_Cl (d + 1) 95 [v0, v1, v2] μ Q := ab_go h
theorem e96_0 : ab_rn cl 96 J Q (k + 1) 0 μ [v0, .int x, v2, v3, v4] st = ab_rn cl 96 J Q k 1 μ [v0, .int x, v2, v3, v4] (.int x :: st) := x_iload_n dX6_layer_0 rfl
theorem e96_1 : ab_rn cl 96 J Q (k + 1) 1 μ [v0, v1, v2, v3, v4] (.int x0 :: st) = (st.length ≤ 4 ∧ cl 80 [.int x0] μ (fun r μ' => ab_rn cl 96 J Q k 4 μ' [v0, v1, v2, v3, v4] (ab_pu r st))) := x_s (as := [.int x0]) (b := 0) dX6_layer_1 rfl (by decide) rfl rfl rfl
theorem e96_4 : ab_rn cl 96 J Q (k + 1) 4 μ [v0, v1, v2, v3, v4] (.int x :: st) = (((x = 0) → ab_rn cl 96 J Q k 23 μ [v0, v1, v2, v3, v4] st) ∧ ((¬ (x = 0)) → ab_rn cl 96 J Q k 7 μ [v0, v1, v2, v3, v4] st)) := x_ifF dX6_layer_4 rfl (fun _ _ _ _ _ => rfl)
theorem e96_7 : ab_rn cl 96 J Q (k + 1) 7 μ [v0, v1, .int x, v3, v4] st = ab_rn cl 96 J Q k 8 μ [v0, v1, .int x, v3, v4] (.int x :: st) := x_iload_n dX6_layer_7 rfl
theorem e96_8 : ab_rn cl 96 J Q (k + 1) 8 μ [v0, v1, v2, v3, v4] st = ab_rn cl 96 J Q k 9 μ [v0, v1, v2, v3, v4] (.int 0 :: st) := x_iconst dX6_layer_8 (by decide)
theorem e96_9 : ab_rn cl 96 J Q (k + 1) 9 μ [.ref a, v1, v2, v3, v4] st = ab_rn cl 96 J Q k 10 μ [.ref a, v1, v2, v3, v4] (.ref a :: st) := x_aload_n dX6_layer_9 rfl
theorem e96_10 : ab_rn cl 96 J Q (k + 1) 10 μ [v0, v1, v2, v3, v4] (.ref a :: st) = (ab_ob a 6 ∧ ab_rn cl 96 J Q k 13 μ [v0, v1, v2, v3, v4] (ab_fv μ a 1 :: st)) := x_get dX6_layer_10 rfl
theorem e96_13 : ab_rn cl 96 J Q (k + 1) 13 μ [v0, .int x, v2, v3, v4] st = ab_rn cl 96 J Q k 14 μ [v0, .int x, v2, v3, v4] (.int x :: st) := x_iload_n dX6_layer_13 rfl
theorem e96_14 : ab_rn cl 96 J Q (k + 1) 14 μ [v0, v1, v2, v3, v4] (.int x :: .ref a :: st) = ((a < 81 ∧ ab_ak a = 0) ∧ vp_in x (ab_al a) ∧ ab_rn cl 96 J Q k 15 μ [v0, v1, v2, v3, v4] (.int (μ (ab_cmp a) (ab_off a + x.toNatClampNeg)) :: st)) := x_iaload dX6_layer_14
theorem e96_15 : ab_rn cl 96 J Q (k + 1) 15 μ [v0, v1, v2, v3, v4] st = ab_rn cl 96 J Q k 16 μ [v0, v1, v2, v3, v4] (.int 1 :: st) := x_iconst dX6_layer_15 (by decide)
theorem e96_16 : ab_rn cl 96 J Q (k + 1) 16 μ [v0, v1, v2, v3, v4] (.int y :: .int x :: st) = ab_rn cl 96 J Q k 17 μ [v0, v1, v2, v3, v4] (.int (x - y) :: st) := x_isub dX6_layer_16
theorem e96_17 : ab_rn cl 96 J Q (k + 1) 17 μ [v0, v1, v2, v3, v4] (.int x2 :: .int x1 :: .int x0 :: st) = (st.length ≤ 4 ∧ cl 79 [.int x0, .int x1, .int x2] μ (fun r μ' => ab_rn cl 96 J Q k 20 μ' [v0, v1, v2, v3, v4] (ab_pu r st))) := x_s (as := [.int x0, .int x1, .int x2]) (b := 0) dX6_layer_17 rfl (by decide) rfl rfl rfl
theorem e96_20 : ab_rn cl 96 J Q (k + 1) 20 μ [v0, v1, v2, v3, v4] (.int x :: st) = (((¬ x = 0) → ab_rn cl 96 J Q k 25 μ [v0, v1, v2, v3, v4] st) ∧ ((¬ (¬ x = 0)) → ab_rn cl 96 J Q k 23 μ [v0, v1, v2, v3, v4] st)) := x_ifF dX6_layer_20 rfl (fun _ _ _ _ _ => rfl)
theorem e96_23 : ab_rn cl 96 J Q (k + 1) 23 μ [v0, v1, v2, v3, v4] st = ab_rn cl 96 J Q k 24 μ [v0, v1, v2, v3, v4] (.int (-1) :: st) := x_iconst dX6_layer_23 (by decide)
theorem e96_24 : ab_rn cl 96 J Q (k + 1) 24 μ [v0, v1, v2, v3, v4] [.int v] = Q (some v) μ := x_iret dX6_layer_24 rfl
theorem e96_25 : ab_rn cl 96 J Q (k + 1) 25 μ [v0, v1, v2, v3, v4] st = ab_rn cl 96 J Q k 27 μ [v0, v1, v2, v3, v4] (.int 10 :: st) := x_bipush dX6_layer_25 (by decide)
theorem e96_27 : ab_rn cl 96 J Q (k + 1) 27 μ [v0, .int x, v2, v3, v4] st = ab_rn cl 96 J Q k 28 μ [v0, .int x, v2, v3, v4] (.int x :: st) := x_iload_n dX6_layer_27 rfl
theorem e96_28 : ab_rn cl 96 J Q (k + 1) 28 μ [v0, v1, v2, v3, v4] (.int y :: .int x :: st) = ab_rn cl 96 J Q k 29 μ [v0, v1, v2, v3, v4] (.int (x * y) :: st) := x_imul dX6_layer_28
theorem e96_29 : ab_rn cl 96 J Q (k + 1) 29 μ [v0, v1, .int x, v3, v4] st = ab_rn cl 96 J Q k 30 μ [v0, v1, .int x, v3, v4] (.int x :: st) := x_iload_n dX6_layer_29 rfl
theorem e96_30 : ab_rn cl 96 J Q (k + 1) 30 μ [v0, v1, v2, v3, v4] (.int y :: .int x :: st) = ab_rn cl 96 J Q k 31 μ [v0, v1, v2, v3, v4] (.int (x + y) :: st) := x_iadd dX6_layer_30
theorem e96_31 : ab_rn cl 96 J Q (k + 1) 31 μ [v0, v1, v2, v3, v4] (.int x :: st) = ab_rn cl 96 J Q k 33 μ [v0, v1, v2, v3, .int x] st := x_istore dX6_layer_31 (Nat.le_of_ble_eq_true rfl) rfl
theorem e96_33 : ab_rn cl 96 J Q (k + 1) 33 μ [v0, v1, v2, .int x, v4] st = ab_rn cl 96 J Q k 34 μ [v0, v1, v2, .int x, v4] (.int x :: st) := x_iload_n dX6_layer_33 rfl
theorem e96_34_0 : ab_rn cl 96 J Q (k + 1) 34 μ [v0, v1, v2, v3, v4] (.int 0 :: st) = ab_rn cl 96 J Q k 68 μ [v0, v1, v2, v3, v4] st := x_tsiF dX6_layer_34 (by decide) (off := 34) (by decide +kernel) (fun _ _ _ _ _ => rfl)
theorem e96_34_1 : ab_rn cl 96 J Q (k + 1) 34 μ [v0, v1, v2, v3, v4] (.int 1 :: st) = ab_rn cl 96 J Q k 76 μ [v0, v1, v2, v3, v4] st := x_tsiF dX6_layer_34 (by decide) (off := 42) (by decide +kernel) (fun _ _ _ _ _ => rfl)
theorem e96_34_2 : ab_rn cl 96 J Q (k + 1) 34 μ [v0, v1, v2, v3, v4] (.int 2 :: st) = ab_rn cl 96 J Q k 84 μ [v0, v1, v2, v3, v4] st := x_tsiF dX6_layer_34 (by decide) (off := 50) (by decide +kernel) (fun _ _ _ _ _ => rfl)
theorem e96_34_3 : ab_rn cl 96 J Q (k + 1) 34 μ [v0, v1, v2, v3, v4] (.int 3 :: st) = ab_rn cl 96 J Q k 92 μ [v0, v1, v2, v3, v4] st := x_tsiF dX6_layer_34 (by decide) (off := 58) (by decide +kernel) (fun _ _ _ _ _ => rfl)
theorem e96_34_4 : ab_rn cl 96 J Q (k + 1) 34 μ [v0, v1, v2, v3, v4] (.int 4 :: st) = ab_rn cl 96 J Q k 99 μ [v0, v1, v2, v3, v4] st := x_tsiF dX6_layer_34 (by decide) (off := 65) (by decide +kernel) (fun _ _ _ _ _ => rfl)
theorem e96_34d (h : x < 0 ∨ 4 < x) : ab_rn cl 96 J Q (k + 1) 34 μ [v0, v1, v2, v3, v4] (.int x :: st) = ab_rn cl 96 J Q k 106 μ [v0, v1, v2, v3, v4] st := x_tsoF dX6_layer_34 (ab_tso h) (fun _ _ _ _ _ => rfl)
theorem e96_68 : ab_rn cl 96 J Q (k + 1) 68 μ [.ref a, v1, v2, v3, v4] st = ab_rn cl 96 J Q k 69 μ [.ref a, v1, v2, v3, v4] (.ref a :: st) := x_aload_n dX6_layer_68 rfl
theorem e96_69 : ab_rn cl 96 J Q (k + 1) 69 μ [v0, v1, v2, v3, v4] (.ref a :: st) = (ab_ob a 6 ∧ ab_rn cl 96 J Q k 72 μ [v0, v1, v2, v3, v4] (ab_fv μ a 2 :: st)) := x_get dX6_layer_69 rfl
theorem e96_72 : ab_rn cl 96 J Q (k + 1) 72 μ [v0, v1, v2, v3, .int x] st = ab_rn cl 96 J Q k 74 μ [v0, v1, v2, v3, .int x] (.int x :: st) := x_iload dX6_layer_72 rfl
theorem e96_74 : ab_rn cl 96 J Q (k + 1) 74 μ [v0, v1, v2, v3, v4] (.int x :: .ref a :: st) = ((a < 81 ∧ ab_ak a = 0) ∧ vp_in x (ab_al a) ∧ ab_rn cl 96 J Q k 75 μ [v0, v1, v2, v3, v4] (.int (μ (ab_cmp a) (ab_off a + x.toNatClampNeg)) :: st)) := x_iaload dX6_layer_74
theorem e96_75 : ab_rn cl 96 J Q (k + 1) 75 μ [v0, v1, v2, v3, v4] [.int v] = Q (some v) μ := x_iret dX6_layer_75 rfl
theorem e96_76 : ab_rn cl 96 J Q (k + 1) 76 μ [.ref a, v1, v2, v3, v4] st = ab_rn cl 96 J Q k 77 μ [.ref a, v1, v2, v3, v4] (.ref a :: st) := x_aload_n dX6_layer_76 rfl
theorem e96_77 : ab_rn cl 96 J Q (k + 1) 77 μ [v0, v1, v2, v3, v4] (.ref a :: st) = (ab_ob a 6 ∧ ab_rn cl 96 J Q k 80 μ [v0, v1, v2, v3, v4] (ab_fv μ a 3 :: st)) := x_get dX6_layer_77 rfl
theorem e96_80 : ab_rn cl 96 J Q (k + 1) 80 μ [v0, v1, v2, v3, .int x] st = ab_rn cl 96 J Q k 82 μ [v0, v1, v2, v3, .int x] (.int x :: st) := x_iload dX6_layer_80 rfl
theorem e96_82 : ab_rn cl 96 J Q (k + 1) 82 μ [v0, v1, v2, v3, v4] (.int x :: .ref a :: st) = ((a < 81 ∧ ab_ak a = 0) ∧ vp_in x (ab_al a) ∧ ab_rn cl 96 J Q k 83 μ [v0, v1, v2, v3, v4] (.int (μ (ab_cmp a) (ab_off a + x.toNatClampNeg)) :: st)) := x_iaload dX6_layer_82
theorem e96_83 : ab_rn cl 96 J Q (k + 1) 83 μ [v0, v1, v2, v3, v4] [.int v] = Q (some v) μ := x_iret dX6_layer_83 rfl
theorem e96_84 : ab_rn cl 96 J Q (k + 1) 84 μ [.ref a, v1, v2, v3, v4] st = ab_rn cl 96 J Q k 85 μ [.ref a, v1, v2, v3, v4] (.ref a :: st) := x_aload_n dX6_layer_84 rfl
theorem e96_85 : ab_rn cl 96 J Q (k + 1) 85 μ [v0, v1, v2, v3, v4] (.ref a :: st) = (ab_ob a 6 ∧ ab_rn cl 96 J Q k 88 μ [v0, v1, v2, v3, v4] (ab_fv μ a 4 :: st)) := x_get dX6_layer_85 rfl
theorem e96_88 : ab_rn cl 96 J Q (k + 1) 88 μ [v0, v1, v2, v3, .int x] st = ab_rn cl 96 J Q k 90 μ [v0, v1, v2, v3, .int x] (.int x :: st) := x_iload dX6_layer_88 rfl
theorem e96_90 : ab_rn cl 96 J Q (k + 1) 90 μ [v0, v1, v2, v3, v4] (.int x :: .ref a :: st) = ((a < 81 ∧ ab_ak a = 0) ∧ vp_in x (ab_al a) ∧ ab_rn cl 96 J Q k 91 μ [v0, v1, v2, v3, v4] (.int (μ (ab_cmp a) (ab_off a + x.toNatClampNeg)) :: st)) := x_iaload dX6_layer_90
theorem e96_91 : ab_rn cl 96 J Q (k + 1) 91 μ [v0, v1, v2, v3, v4] [.int v] = Q (some v) μ := x_iret dX6_layer_91 rfl
theorem e96_92 : ab_rn cl 96 J Q (k + 1) 92 μ [.ref a, v1, v2, v3, v4] st = ab_rn cl 96 J Q k 93 μ [.ref a, v1, v2, v3, v4] (.ref a :: st) := x_aload_n dX6_layer_92 rfl
theorem e96_93 : ab_rn cl 96 J Q (k + 1) 93 μ [v0, .int x, v2, v3, v4] st = ab_rn cl 96 J Q k 94 μ [v0, .int x, v2, v3, v4] (.int x :: st) := x_iload_n dX6_layer_93 rfl
theorem e96_94 : ab_rn cl 96 J Q (k + 1) 94 μ [v0, v1, .int x, v3, v4] st = ab_rn cl 96 J Q k 95 μ [v0, v1, .int x, v3, v4] (.int x :: st) := x_iload_n dX6_layer_94 rfl
theorem e96_95 : ab_rn cl 96 J Q (k + 1) 95 μ [v0, v1, v2, v3, v4] (.int x1 :: .int x0 :: .ref a :: st) = (ab_ob a 6 ∧ st.length ≤ 4 ∧ cl 94 [.ref a, .int x0, .int x1] μ (fun r μ' => ab_rn cl 96 J Q k 98 μ' [v0, v1, v2, v3, v4] (ab_pu r st))) := x_v (as := [.int x0, .int x1]) dX6_layer_95 rfl rfl rfl rfl rfl
theorem e96_98 : ab_rn cl 96 J Q (k + 1) 98 μ [v0, v1, v2, v3, v4] [.int v] = Q (some v) μ := x_iret dX6_layer_98 rfl
theorem e96_99 : ab_rn cl 96 J Q (k + 1) 99 μ [.ref a, v1, v2, v3, v4] st = ab_rn cl 96 J Q k 100 μ [.ref a, v1, v2, v3, v4] (.ref a :: st) := x_aload_n dX6_layer_99 rfl
theorem e96_100 : ab_rn cl 96 J Q (k + 1) 100 μ [v0, .int x, v2, v3, v4] st = ab_rn cl 96 J Q k 101 μ [v0, .int x, v2, v3, v4] (.int x :: st) := x_iload_n dX6_layer_100 rfl
theorem e96_101 : ab_rn cl 96 J Q (k + 1) 101 μ [v0, v1, .int x, v3, v4] st = ab_rn cl 96 J Q k 102 μ [v0, v1, .int x, v3, v4] (.int x :: st) := x_iload_n dX6_layer_101 rfl
theorem e96_102 : ab_rn cl 96 J Q (k + 1) 102 μ [v0, v1, v2, v3, v4] (.int x1 :: .int x0 :: .ref a :: st) = (ab_ob a 6 ∧ st.length ≤ 4 ∧ cl 95 [.ref a, .int x0, .int x1] μ (fun r μ' => ab_rn cl 96 J Q k 105 μ' [v0, v1, v2, v3, v4] (ab_pu r st))) := x_v (as := [.int x0, .int x1]) dX6_layer_102 rfl rfl rfl rfl rfl
theorem e96_105 : ab_rn cl 96 J Q (k + 1) 105 μ [v0, v1, v2, v3, v4] [.int v] = Q (some v) μ := x_iret dX6_layer_105 rfl
theorem e96_106 : ab_rn cl 96 J Q (k + 1) 106 μ [v0, v1, v2, v3, v4] st = ab_rn cl 96 J Q k 107 μ [v0, v1, v2, v3, v4] (.int (-1) :: st) := x_iconst dX6_layer_106 (by decide)
theorem e96_107 : ab_rn cl 96 J Q (k + 1) 107 μ [v0, v1, v2, v3, v4] [.int v] = Q (some v) μ := x_iret dX6_layer_107 rfl
theorem n96 {d : Nat} (h : ∀ J : ab_J, (∀ k pc μ ls st, ab_rn (ab_Cl d) 96 J Q k pc μ ls st → J pc μ ls st) → J 0 μ [v0, v1, v2, v3, .null] []) : ab_Cl (d + 1) 96 [v0, v1, v2, v3] μ Q := ab_go h
theorem e97_0 : ab_rn cl 97 J Q (k + 1) 0 μ [v0, v1, v2, v3] st = ab_rn cl 97 J Q k 1 μ [v0, v1, v2, v3] (.int (-1) :: st) := x_iconst dX6_why_0 (by decide)
theorem e97_1 : ab_rn cl 97 J Q (k + 1) 1 μ [v0, v1, v2, v3] (.int x :: st) = ab_rn cl 97 J Q k 2 μ [v0, v1, .int x, v3] st := x_istore_n dX6_why_1 (Nat.le_of_ble_eq_true rfl) rfl
theorem e97_2 : ab_rn cl 97 J Q (k + 1) 2 μ [v0, v1, v2, v3] st = ab_rn cl 97 J Q k 3 μ [v0, v1, v2, v3] (.int 0 :: st) := x_iconst dX6_why_2 (by decide)
theorem e97_3 : ab_rn cl 97 J Q (k + 1) 3 μ [v0, v1, v2, v3] (.int x :: st) = ab_rn cl 97 J Q k 4 μ [v0, v1, v2, .int x] st := x_istore_n dX6_why_3 (Nat.le_of_ble_eq_true rfl) rfl
theorem e97_4 : ab_rn cl 97 J Q (k + 1) 4 μ [v0, v1, v2, .int x] st = ab_rn cl 97 J Q k 5 μ [v0, v1, v2, .int x] (.int x :: st) := x_iload_n dX6_why_4 rfl
theorem e97_5 : ab_rn cl 97 J Q (k + 1) 5 μ [.ref a, v1, v2, v3] st = ab_rn cl 97 J Q k 6 μ [.ref a, v1, v2, v3] (.ref a :: st) := x_aload_n dX6_why_5 rfl
theorem e97_6 : ab_rn cl 97 J Q (k + 1) 6 μ [v0, v1, v2, v3] (.ref a :: st) = (ab_ob a 6 ∧ ab_rn cl 97 J Q k 9 μ [v0, v1, v2, v3] (ab_fv μ a 1 :: st)) := x_get dX6_why_6 rfl
theorem e97_9 : ab_rn cl 97 J Q (k + 1) 9 μ [v0, .int x, v2, v3] st = ab_rn cl 97 J Q k 10 μ [v0, .int x, v2, v3] (.int x :: st) := x_iload_n dX6_why_9 rfl
theorem e97_10 : ab_rn cl 97 J Q (k + 1) 10 μ [v0, v1, v2, v3] (.int x :: .ref a :: st) = ((a < 81 ∧ ab_ak a = 0) ∧ vp_in x (ab_al a) ∧ ab_rn cl 97 J Q k 11 μ [v0, v1, v2, v3] (.int (μ (ab_cmp a) (ab_off a + x.toNatClampNeg)) :: st)) := x_iaload dX6_why_10
theorem e97_11 : ab_rn cl 97 J Q (k + 1) 11 μ [v0, v1, v2, v3] (.int y :: .int x :: st) = (((y ≤ x) → ab_rn cl 97 J Q k 52 μ [v0, v1, v2, v3] st) ∧ ((¬ (y ≤ x)) → ab_rn cl 97 J Q k 14 μ [v0, v1, v2, v3] st)) := x_icmpF dX6_why_11 rfl (fun _ _ _ _ _ => rfl)
theorem e97_14 : ab_rn cl 97 J Q (k + 1) 14 μ [.ref a, v1, v2, v3] st = ab_rn cl 97 J Q k 15 μ [.ref a, v1, v2, v3] (.ref a :: st) := x_aload_n dX6_why_14 rfl
theorem e97_15 : ab_rn cl 97 J Q (k + 1) 15 μ [v0, .int x, v2, v3] st = ab_rn cl 97 J Q k 16 μ [v0, .int x, v2, v3] (.int x :: st) := x_iload_n dX6_why_15 rfl
theorem e97_16 : ab_rn cl 97 J Q (k + 1) 16 μ [v0, v1, v2, .int x] st = ab_rn cl 97 J Q k 17 μ [v0, v1, v2, .int x] (.int x :: st) := x_iload_n dX6_why_16 rfl
theorem e97_17 : ab_rn cl 97 J Q (k + 1) 17 μ [v0, v1, v2, v3] (.int x1 :: .int x0 :: .ref a :: st) = (ab_ob a 6 ∧ st.length ≤ 4 ∧ cl 95 [.ref a, .int x0, .int x1] μ (fun r μ' => ab_rn cl 97 J Q k 20 μ' [v0, v1, v2, v3] (ab_pu r st))) := x_v (as := [.int x0, .int x1]) dX6_why_17 rfl rfl rfl rfl rfl
theorem e97_20 : ab_rn cl 97 J Q (k + 1) 20 μ [v0, v1, v2, v3] st = ab_rn cl 97 J Q k 21 μ [v0, v1, v2, v3] (.int (-1) :: st) := x_iconst dX6_why_20 (by decide)
theorem e97_21 : ab_rn cl 97 J Q (k + 1) 21 μ [v0, v1, v2, v3] (.int y :: .int x :: st) = (((x = y) → ab_rn cl 97 J Q k 46 μ [v0, v1, v2, v3] st) ∧ ((¬ (x = y)) → ab_rn cl 97 J Q k 24 μ [v0, v1, v2, v3] st)) := x_icmpF dX6_why_21 rfl (fun _ _ _ _ _ => rfl)
theorem e97_24 : ab_rn cl 97 J Q (k + 1) 24 μ [v0, v1, .int x, v3] st = ab_rn cl 97 J Q k 25 μ [v0, v1, .int x, v3] (.int x :: st) := x_iload_n dX6_why_24 rfl
theorem e97_25 : ab_rn cl 97 J Q (k + 1) 25 μ [v0, v1, v2, v3] st = ab_rn cl 97 J Q k 26 μ [v0, v1, v2, v3] (.int (-1) :: st) := x_iconst dX6_why_25 (by decide)
theorem e97_26 : ab_rn cl 97 J Q (k + 1) 26 μ [v0, v1, v2, v3] (.int y :: .int x :: st) = (((x = y) → ab_rn cl 97 J Q k 44 μ [v0, v1, v2, v3] st) ∧ ((¬ (x = y)) → ab_rn cl 97 J Q k 29 μ [v0, v1, v2, v3] st)) := x_icmpF dX6_why_26 rfl (fun _ _ _ _ _ => rfl)
theorem e97_29 : ab_rn cl 97 J Q (k + 1) 29 μ [.ref a, v1, v2, v3] st = ab_rn cl 97 J Q k 30 μ [.ref a, v1, v2, v3] (.ref a :: st) := x_aload_n dX6_why_29 rfl
theorem e97_30 : ab_rn cl 97 J Q (k + 1) 30 μ [v0, .int x, v2, v3] st = ab_rn cl 97 J Q k 31 μ [v0, .int x, v2, v3] (.int x :: st) := x_iload_n dX6_why_30 rfl
theorem e97_31 : ab_rn cl 97 J Q (k + 1) 31 μ [v0, v1, v2, .int x] st = ab_rn cl 97 J Q k 32 μ [v0, v1, v2, .int x] (.int x :: st) := x_iload_n dX6_why_31 rfl
theorem e97_32 : ab_rn cl 97 J Q (k + 1) 32 μ [v0, v1, v2, v3] (.int x1 :: .int x0 :: .ref a :: st) = (ab_ob a 6 ∧ st.length ≤ 4 ∧ cl 95 [.ref a, .int x0, .int x1] μ (fun r μ' => ab_rn cl 97 J Q k 35 μ' [v0, v1, v2, v3] (ab_pu r st))) := x_v (as := [.int x0, .int x1]) dX6_why_32 rfl rfl rfl rfl rfl
theorem e97_35 : ab_rn cl 97 J Q (k + 1) 35 μ [.ref a, v1, v2, v3] st = ab_rn cl 97 J Q k 36 μ [.ref a, v1, v2, v3] (.ref a :: st) := x_aload_n dX6_why_35 rfl
theorem e97_36 : ab_rn cl 97 J Q (k + 1) 36 μ [v0, .int x, v2, v3] st = ab_rn cl 97 J Q k 37 μ [v0, .int x, v2, v3] (.int x :: st) := x_iload_n dX6_why_36 rfl
theorem e97_37 : ab_rn cl 97 J Q (k + 1) 37 μ [v0, v1, .int x, v3] st = ab_rn cl 97 J Q k 38 μ [v0, v1, .int x, v3] (.int x :: st) := x_iload_n dX6_why_37 rfl
theorem e97_38 : ab_rn cl 97 J Q (k + 1) 38 μ [v0, v1, v2, v3] (.int x1 :: .int x0 :: .ref a :: st) = (ab_ob a 6 ∧ st.length ≤ 4 ∧ cl 95 [.ref a, .int x0, .int x1] μ (fun r μ' => ab_rn cl 97 J Q k 41 μ' [v0, v1, v2, v3] (ab_pu r st))) := x_v (as := [.int x0, .int x1]) dX6_why_38 rfl rfl rfl rfl rfl
theorem e97_41 : ab_rn cl 97 J Q (k + 1) 41 μ [v0, v1, v2, v3] (.int y :: .int x :: st) = (((y < x) → ab_rn cl 97 J Q k 46 μ [v0, v1, v2, v3] st) ∧ ((¬ (y < x)) → ab_rn cl 97 J Q k 44 μ [v0, v1, v2, v3] st)) := x_icmpF dX6_why_41 rfl (fun _ _ _ _ _ => rfl)
theorem e97_44 : ab_rn cl 97 J Q (k + 1) 44 μ [v0, v1, v2, .int x] st = ab_rn cl 97 J Q k 45 μ [v0, v1, v2, .int x] (.int x :: st) := x_iload_n dX6_why_44 rfl
theorem e97_45 : ab_rn cl 97 J Q (k + 1) 45 μ [v0, v1, v2, v3] (.int x :: st) = ab_rn cl 97 J Q k 46 μ [v0, v1, .int x, v3] st := x_istore_n dX6_why_45 (Nat.le_of_ble_eq_true rfl) rfl
theorem e97_46 : ab_rn cl 97 J Q (k + 1) 46 μ [v0, v1, v2, .int x] st = ab_rn cl 97 J Q k 49 μ [v0, v1, v2, .int (x + 1)] st := x_iinc dX6_why_46 (w := 1) (by decide) rfl rfl
theorem e97_49 : ab_rn cl 97 J Q (k + 1) 49 μ [v0, v1, v2, v3] st = J 4 μ [v0, v1, v2, v3] st := x_gotoB dX6_why_49 (fun _ _ _ _ _ => rfl)
theorem e97_52 : ab_rn cl 97 J Q (k + 1) 52 μ [v0, v1, .int x, v3] st = ab_rn cl 97 J Q k 53 μ [v0, v1, .int x, v3] (.int x :: st) := x_iload_n dX6_why_52 rfl
theorem e97_53 : ab_rn cl 97 J Q (k + 1) 53 μ [v0, v1, v2, v3] [.int v] = Q (some v) μ := x_iret dX6_why_53 rfl
theorem n97 {d : Nat} (h : ∀ J : ab_J, (∀ k pc μ ls st, ab_rn (ab_Cl d) 97 J Q k pc μ ls st → J pc μ ls st) → J 0 μ [v0, v1, .null, .null] []) : ab_Cl (d + 1) 97 [v0, v1] μ Q := ab_go h
theorem e98_0 : ab_rn cl 98 J Q (k + 1) 0 μ [.ref a, v1, v2, v3] st = ab_rn cl 98 J Q k 1 μ [.ref a, v1, v2, v3] (.ref a :: st) := x_aload_n dX6_likely_0 rfl
theorem e98_1 : ab_rn cl 98 J Q (k + 1) 1 μ [v0, .int x, v2, v3] st = ab_rn cl 98 J Q k 2 μ [v0, .int x, v2, v3] (.int x :: st) := x_iload_n dX6_likely_1 rfl
theorem e98_2 : ab_rn cl 98 J Q (k + 1) 2 μ [v0, v1, v2, v3] (.int x0 :: .ref a :: st) = (ab_ob a 6 ∧ st.length ≤ 4 ∧ cl 97 [.ref a, .int x0] μ (fun r μ' => ab_rn cl 98 J Q k 5 μ' [v0, v1, v2, v3] (ab_pu r st))) := x_v (as := [.int x0]) dX6_likely_2 rfl rfl rfl rfl rfl
theorem e98_5 : ab_rn cl 98 J Q (k + 1) 5 μ [v0, v1, v2, v3] (.int x :: st) = ab_rn cl 98 J Q k 6 μ [v0, v1, .int x, v3] st := x_istore_n dX6_likely_5 (Nat.le_of_ble_eq_true rfl) rfl
theorem e98_6 : ab_rn cl 98 J Q (k + 1) 6 μ [v0, v1, .int x, v3] st = ab_rn cl 98 J Q k 7 μ [v0, v1, .int x, v3] (.int x :: st) := x_iload_n dX6_likely_6 rfl
theorem e98_7 : ab_rn cl 98 J Q (k + 1) 7 μ [v0, v1, v2, v3] st = ab_rn cl 98 J Q k 8 μ [v0, v1, v2, v3] (.int (-1) :: st) := x_iconst dX6_likely_7 (by decide)
theorem e98_8 : ab_rn cl 98 J Q (k + 1) 8 μ [v0, v1, v2, v3] (.int y :: .int x :: st) = (((¬ x = y) → ab_rn cl 98 J Q k 17 μ [v0, v1, v2, v3] st) ∧ ((¬ (¬ x = y)) → ab_rn cl 98 J Q k 11 μ [v0, v1, v2, v3] st)) := x_icmpF dX6_likely_8 rfl (fun _ _ _ _ _ => rfl)
theorem e98_11 : ab_rn cl 98 J Q (k + 1) 11 μ [v0, v1, v2, v3] st = ab_rn cl 98 J Q k 14 μ [v0, v1, v2, v3] (.int 999 :: st) := x_sipush dX6_likely_11 (by decide)
theorem e98_14 : ab_rn cl 98 J Q (k + 1) 14 μ [v0, v1, v2, v3] st = ab_rn cl 98 J Q k 23 μ [v0, v1, v2, v3] st := x_gotoF dX6_likely_14 (fun _ _ _ _ _ => rfl)
theorem e98_17 : ab_rn cl 98 J Q (k + 1) 17 μ [.ref a, v1, v2, v3] st = ab_rn cl 98 J Q k 18 μ [.ref a, v1, v2, v3] (.ref a :: st) := x_aload_n dX6_likely_17 rfl
theorem e98_18 : ab_rn cl 98 J Q (k + 1) 18 μ [v0, .int x, v2, v3] st = ab_rn cl 98 J Q k 19 μ [v0, .int x, v2, v3] (.int x :: st) := x_iload_n dX6_likely_18 rfl
theorem e98_19 : ab_rn cl 98 J Q (k + 1) 19 μ [v0, v1, .int x, v3] st = ab_rn cl 98 J Q k 20 μ [v0, v1, .int x, v3] (.int x :: st) := x_iload_n dX6_likely_19 rfl
theorem e98_20 : ab_rn cl 98 J Q (k + 1) 20 μ [v0, v1, v2, v3] (.int x1 :: .int x0 :: .ref a :: st) = (ab_ob a 6 ∧ st.length ≤ 4 ∧ cl 95 [.ref a, .int x0, .int x1] μ (fun r μ' => ab_rn cl 98 J Q k 23 μ' [v0, v1, v2, v3] (ab_pu r st))) := x_v (as := [.int x0, .int x1]) dX6_likely_20 rfl rfl rfl rfl rfl
theorem e98_23 : ab_rn cl 98 J Q (k + 1) 23 μ [v0, v1, v2, v3] (.int x :: st) = ab_rn cl 98 J Q k 24 μ [v0, v1, v2, .int x] st := x_istore_n dX6_likely_23 (Nat.le_of_ble_eq_true rfl) rfl
theorem e98_24 : ab_rn cl 98 J Q (k + 1) 24 μ [v0, v1, v2, .int x] st = ab_rn cl 98 J Q k 25 μ [v0, v1, v2, .int x] (.int x :: st) := x_iload_n dX6_likely_24 rfl
theorem e98_25 : ab_rn cl 98 J Q (k + 1) 25 μ [v0, v1, v2, v3] st = ab_rn cl 98 J Q k 27 μ [v0, v1, v2, v3] (.int 100 :: st) := x_bipush dX6_likely_25 (by decide)
theorem e98_27 : ab_rn cl 98 J Q (k + 1) 27 μ [v0, v1, v2, v3] (.int y :: .int x :: st) = (((y ≤ x) → ab_rn cl 98 J Q k 34 μ [v0, v1, v2, v3] st) ∧ ((¬ (y ≤ x)) → ab_rn cl 98 J Q k 30 μ [v0, v1, v2, v3] st)) := x_icmpF dX6_likely_27 rfl (fun _ _ _ _ _ => rfl)
theorem e98_30 : ab_rn cl 98 J Q (k + 1) 30 μ [v0, v1, v2, v3] st = ab_rn cl 98 J Q k 31 μ [v0, v1, v2, v3] (.int 3 :: st) := x_iconst dX6_likely_30 (by decide)
theorem e98_31 : ab_rn cl 98 J Q (k + 1) 31 μ [v0, v1, v2, v3] st = ab_rn cl 98 J Q k 57 μ [v0, v1, v2, v3] st := x_gotoF dX6_likely_31 (fun _ _ _ _ _ => rfl)
theorem e98_34 : ab_rn cl 98 J Q (k + 1) 34 μ [v0, v1, v2, .int x] st = ab_rn cl 98 J Q k 35 μ [v0, v1, v2, .int x] (.int x :: st) := x_iload_n dX6_likely_34 rfl
theorem e98_35 : ab_rn cl 98 J Q (k + 1) 35 μ [v0, v1, v2, v3] st = ab_rn cl 98 J Q k 38 μ [v0, v1, v2, v3] (.int 150 :: st) := x_sipush dX6_likely_35 (by decide)
theorem e98_38 : ab_rn cl 98 J Q (k + 1) 38 μ [v0, v1, v2, v3] (.int y :: .int x :: st) = (((y ≤ x) → ab_rn cl 98 J Q k 45 μ [v0, v1, v2, v3] st) ∧ ((¬ (y ≤ x)) → ab_rn cl 98 J Q k 41 μ [v0, v1, v2, v3] st)) := x_icmpF dX6_likely_38 rfl (fun _ _ _ _ _ => rfl)
theorem e98_41 : ab_rn cl 98 J Q (k + 1) 41 μ [v0, v1, v2, v3] st = ab_rn cl 98 J Q k 42 μ [v0, v1, v2, v3] (.int 2 :: st) := x_iconst dX6_likely_41 (by decide)
theorem e98_42 : ab_rn cl 98 J Q (k + 1) 42 μ [v0, v1, v2, v3] st = ab_rn cl 98 J Q k 57 μ [v0, v1, v2, v3] st := x_gotoF dX6_likely_42 (fun _ _ _ _ _ => rfl)
theorem e98_45 : ab_rn cl 98 J Q (k + 1) 45 μ [v0, v1, v2, .int x] st = ab_rn cl 98 J Q k 46 μ [v0, v1, v2, .int x] (.int x :: st) := x_iload_n dX6_likely_45 rfl
theorem e98_46 : ab_rn cl 98 J Q (k + 1) 46 μ [v0, v1, v2, v3] st = ab_rn cl 98 J Q k 49 μ [v0, v1, v2, v3] (.int 300 :: st) := x_sipush dX6_likely_46 (by decide)
theorem e98_49 : ab_rn cl 98 J Q (k + 1) 49 μ [v0, v1, v2, v3] (.int y :: .int x :: st) = (((y ≤ x) → ab_rn cl 98 J Q k 56 μ [v0, v1, v2, v3] st) ∧ ((¬ (y ≤ x)) → ab_rn cl 98 J Q k 52 μ [v0, v1, v2, v3] st)) := x_icmpF dX6_likely_49 rfl (fun _ _ _ _ _ => rfl)
theorem e98_52 : ab_rn cl 98 J Q (k + 1) 52 μ [v0, v1, v2, v3] st = ab_rn cl 98 J Q k 53 μ [v0, v1, v2, v3] (.int 1 :: st) := x_iconst dX6_likely_52 (by decide)
theorem e98_53 : ab_rn cl 98 J Q (k + 1) 53 μ [v0, v1, v2, v3] st = ab_rn cl 98 J Q k 57 μ [v0, v1, v2, v3] st := x_gotoF dX6_likely_53 (fun _ _ _ _ _ => rfl)
theorem e98_56 : ab_rn cl 98 J Q (k + 1) 56 μ [v0, v1, v2, v3] st = ab_rn cl 98 J Q k 57 μ [v0, v1, v2, v3] (.int 0 :: st) := x_iconst dX6_likely_56 (by decide)
theorem e98_57 : ab_rn cl 98 J Q (k + 1) 57 μ [v0, v1, v2, v3] [.int v] = Q (some v) μ := x_iret dX6_likely_57 rfl
theorem n98 {d : Nat} (h : ∀ J : ab_J, (∀ k pc μ ls st, ab_rn (ab_Cl d) 98 J Q k pc μ ls st → J pc μ ls st) → J 0 μ [v0, v1, .null, .null] []) : ab_Cl (d + 1) 98 [v0, v1] μ Q := ab_go h
theorem e99_0 : ab_rn cl 99 J Q (k + 1) 0 μ [.ref a, v1, v2, v3] st = ab_rn cl 99 J Q k 1 μ [.ref a, v1, v2, v3] (.ref a :: st) := x_aload_n dX6_size_0 rfl
theorem e99_1 : ab_rn cl 99 J Q (k + 1) 1 μ [v0, .int x, v2, v3] st = ab_rn cl 99 J Q k 2 μ [v0, .int x, v2, v3] (.int x :: st) := x_iload_n dX6_size_1 rfl
theorem e99_2 : ab_rn cl 99 J Q (k + 1) 2 μ [v0, v1, v2, v3] (.int x0 :: .ref a :: st) = (ab_ob a 6 ∧ st.length ≤ 4 ∧ cl 97 [.ref a, .int x0] μ (fun r μ' => ab_rn cl 99 J Q k 5 μ' [v0, v1, v2, v3] (ab_pu r st))) := x_v (as := [.int x0]) dX6_size_2 rfl rfl rfl rfl rfl
theorem e99_5 : ab_rn cl 99 J Q (k + 1) 5 μ [v0, v1, v2, v3] (.int x :: st) = ab_rn cl 99 J Q k 6 μ [v0, v1, .int x, v3] st := x_istore_n dX6_size_5 (Nat.le_of_ble_eq_true rfl) rfl
theorem e99_6 : ab_rn cl 99 J Q (k + 1) 6 μ [v0, v1, .int x, v3] st = ab_rn cl 99 J Q k 7 μ [v0, v1, .int x, v3] (.int x :: st) := x_iload_n dX6_size_6 rfl
theorem e99_7 : ab_rn cl 99 J Q (k + 1) 7 μ [v0, v1, v2, v3] st = ab_rn cl 99 J Q k 8 μ [v0, v1, v2, v3] (.int (-1) :: st) := x_iconst dX6_size_7 (by decide)
theorem e99_8 : ab_rn cl 99 J Q (k + 1) 8 μ [v0, v1, v2, v3] (.int y :: .int x :: st) = (((¬ x = y) → ab_rn cl 99 J Q k 15 μ [v0, v1, v2, v3] st) ∧ ((¬ (¬ x = y)) → ab_rn cl 99 J Q k 11 μ [v0, v1, v2, v3] st)) := x_icmpF dX6_size_8 rfl (fun _ _ _ _ _ => rfl)
theorem e99_11 : ab_rn cl 99 J Q (k + 1) 11 μ [v0, v1, v2, v3] st = ab_rn cl 99 J Q k 12 μ [v0, v1, v2, v3] (.int 0 :: st) := x_iconst dX6_size_11 (by decide)
theorem e99_12 : ab_rn cl 99 J Q (k + 1) 12 μ [v0, v1, v2, v3] st = ab_rn cl 99 J Q k 21 μ [v0, v1, v2, v3] st := x_gotoF dX6_size_12 (fun _ _ _ _ _ => rfl)
theorem e99_15 : ab_rn cl 99 J Q (k + 1) 15 μ [.ref a, v1, v2, v3] st = ab_rn cl 99 J Q k 16 μ [.ref a, v1, v2, v3] (.ref a :: st) := x_aload_n dX6_size_15 rfl
theorem e99_16 : ab_rn cl 99 J Q (k + 1) 16 μ [v0, .int x, v2, v3] st = ab_rn cl 99 J Q k 17 μ [v0, .int x, v2, v3] (.int x :: st) := x_iload_n dX6_size_16 rfl
theorem e99_17 : ab_rn cl 99 J Q (k + 1) 17 μ [v0, v1, .int x, v3] st = ab_rn cl 99 J Q k 18 μ [v0, v1, .int x, v3] (.int x :: st) := x_iload_n dX6_size_17 rfl
theorem e99_18 : ab_rn cl 99 J Q (k + 1) 18 μ [v0, v1, v2, v3] (.int x1 :: .int x0 :: .ref a :: st) = (ab_ob a 6 ∧ st.length ≤ 4 ∧ cl 94 [.ref a, .int x0, .int x1] μ (fun r μ' => ab_rn cl 99 J Q k 21 μ' [v0, v1, v2, v3] (ab_pu r st))) := x_v (as := [.int x0, .int x1]) dX6_size_18 rfl rfl rfl rfl rfl
theorem e99_21 : ab_rn cl 99 J Q (k + 1) 21 μ [v0, v1, v2, v3] (.int x :: st) = ab_rn cl 99 J Q k 22 μ [v0, v1, v2, .int x] st := x_istore_n dX6_size_21 (Nat.le_of_ble_eq_true rfl) rfl
theorem e99_22 : ab_rn cl 99 J Q (k + 1) 22 μ [v0, v1, v2, .int x] st = ab_rn cl 99 J Q k 23 μ [v0, v1, v2, .int x] (.int x :: st) := x_iload_n dX6_size_22 rfl
theorem e99_23 : ab_rn cl 99 J Q (k + 1) 23 μ [v0, v1, v2, v3] st = ab_rn cl 99 J Q k 26 μ [v0, v1, v2, v3] (.int 500 :: st) := x_sipush dX6_size_23 (by decide)
theorem e99_26 : ab_rn cl 99 J Q (k + 1) 26 μ [v0, v1, v2, v3] (.int y :: .int x :: st) = (((x < y) → ab_rn cl 99 J Q k 33 μ [v0, v1, v2, v3] st) ∧ ((¬ (x < y)) → ab_rn cl 99 J Q k 29 μ [v0, v1, v2, v3] st)) := x_icmpF dX6_size_26 rfl (fun _ _ _ _ _ => rfl)
theorem e99_29 : ab_rn cl 99 J Q (k + 1) 29 μ [v0, v1, v2, v3] st = ab_rn cl 99 J Q k 30 μ [v0, v1, v2, v3] (.int 2 :: st) := x_iconst dX6_size_29 (by decide)
theorem e99_30 : ab_rn cl 99 J Q (k + 1) 30 μ [v0, v1, v2, v3] st = ab_rn cl 99 J Q k 45 μ [v0, v1, v2, v3] st := x_gotoF dX6_size_30 (fun _ _ _ _ _ => rfl)
theorem e99_33 : ab_rn cl 99 J Q (k + 1) 33 μ [v0, v1, v2, .int x] st = ab_rn cl 99 J Q k 34 μ [v0, v1, v2, .int x] (.int x :: st) := x_iload_n dX6_size_33 rfl
theorem e99_34 : ab_rn cl 99 J Q (k + 1) 34 μ [v0, v1, v2, v3] st = ab_rn cl 99 J Q k 37 μ [v0, v1, v2, v3] (.int 200 :: st) := x_sipush dX6_size_34 (by decide)
theorem e99_37 : ab_rn cl 99 J Q (k + 1) 37 μ [v0, v1, v2, v3] (.int y :: .int x :: st) = (((x < y) → ab_rn cl 99 J Q k 44 μ [v0, v1, v2, v3] st) ∧ ((¬ (x < y)) → ab_rn cl 99 J Q k 40 μ [v0, v1, v2, v3] st)) := x_icmpF dX6_size_37 rfl (fun _ _ _ _ _ => rfl)
theorem e99_40 : ab_rn cl 99 J Q (k + 1) 40 μ [v0, v1, v2, v3] st = ab_rn cl 99 J Q k 41 μ [v0, v1, v2, v3] (.int 1 :: st) := x_iconst dX6_size_40 (by decide)
theorem e99_41 : ab_rn cl 99 J Q (k + 1) 41 μ [v0, v1, v2, v3] st = ab_rn cl 99 J Q k 45 μ [v0, v1, v2, v3] st := x_gotoF dX6_size_41 (fun _ _ _ _ _ => rfl)
theorem e99_44 : ab_rn cl 99 J Q (k + 1) 44 μ [v0, v1, v2, v3] st = ab_rn cl 99 J Q k 45 μ [v0, v1, v2, v3] (.int 0 :: st) := x_iconst dX6_size_44 (by decide)
theorem e99_45 : ab_rn cl 99 J Q (k + 1) 45 μ [v0, v1, v2, v3] [.int v] = Q (some v) μ := x_iret dX6_size_45 rfl
theorem n99 {d : Nat} (h : ∀ J : ab_J, (∀ k pc μ ls st, ab_rn (ab_Cl d) 99 J Q k pc μ ls st → J pc μ ls st) → J 0 μ [v0, v1, .null, .null] []) : ab_Cl (d + 1) 99 [v0, v1] μ Q := ab_go h
theorem e100_0 : ab_rn cl 100 J Q (k + 1) 0 μ [.ref a, v1, v2, v3] st = ab_rn cl 100 J Q k 1 μ [.ref a, v1, v2, v3] (.ref a :: st) := x_aload_n dX6_danger_0 rfl
theorem e100_1 : ab_rn cl 100 J Q (k + 1) 1 μ [v0, .int x, v2, v3] st = ab_rn cl 100 J Q k 2 μ [v0, .int x, v2, v3] (.int x :: st) := x_iload_n dX6_danger_1 rfl
theorem e100_2 : ab_rn cl 100 J Q (k + 1) 2 μ [v0, v1, v2, v3] (.int x0 :: .ref a :: st) = (ab_ob a 6 ∧ st.length ≤ 4 ∧ cl 98 [.ref a, .int x0] μ (fun r μ' => ab_rn cl 100 J Q k 5 μ' [v0, v1, v2, v3] (ab_pu r st))) := x_v (as := [.int x0]) dX6_danger_2 rfl rfl rfl rfl rfl
theorem e100_5 : ab_rn cl 100 J Q (k + 1) 5 μ [v0, v1, v2, v3] (.int x :: st) = (((¬ x = 0) → ab_rn cl 100 J Q k 10 μ [v0, v1, v2, v3] st) ∧ ((¬ (¬ x = 0)) → ab_rn cl 100 J Q k 8 μ [v0, v1, v2, v3] st)) := x_ifF dX6_danger_5 rfl (fun _ _ _ _ _ => rfl)
theorem e100_8 : ab_rn cl 100 J Q (k + 1) 8 μ [v0, v1, v2, v3] st = ab_rn cl 100 J Q k 9 μ [v0, v1, v2, v3] (.int 1 :: st) := x_iconst dX6_danger_8 (by decide)
theorem e100_9 : ab_rn cl 100 J Q (k + 1) 9 μ [v0, v1, v2, v3] [.int v] = Q (some v) μ := x_iret dX6_danger_9 rfl
theorem e100_10 : ab_rn cl 100 J Q (k + 1) 10 μ [v0, v1, v2, v3] st = ab_rn cl 100 J Q k 11 μ [v0, v1, v2, v3] (.int 0 :: st) := x_iconst dX6_danger_10 (by decide)
theorem e100_11 : ab_rn cl 100 J Q (k + 1) 11 μ [v0, v1, v2, v3] (.int x :: st) = ab_rn cl 100 J Q k 12 μ [v0, v1, .int x, v3] st := x_istore_n dX6_danger_11 (Nat.le_of_ble_eq_true rfl) rfl
theorem e100_12 : ab_rn cl 100 J Q (k + 1) 12 μ [v0, v1, v2, v3] st = ab_rn cl 100 J Q k 13 μ [v0, v1, v2, v3] (.int 0 :: st) := x_iconst dX6_danger_12 (by decide)
theorem e100_13 : ab_rn cl 100 J Q (k + 1) 13 μ [v0, v1, v2, v3] (.int x :: st) = ab_rn cl 100 J Q k 14 μ [v0, v1, v2, .int x] st := x_istore_n dX6_danger_13 (Nat.le_of_ble_eq_true rfl) rfl
theorem e100_14 : ab_rn cl 100 J Q (k + 1) 14 μ [v0, v1, v2, .int x] st = ab_rn cl 100 J Q k 15 μ [v0, v1, v2, .int x] (.int x :: st) := x_iload_n dX6_danger_14 rfl
theorem e100_15 : ab_rn cl 100 J Q (k + 1) 15 μ [v0, v1, v2, v3] st = ab_rn cl 100 J Q k 16 μ [v0, v1, v2, v3] (.int 4 :: st) := x_iconst dX6_danger_15 (by decide)
theorem e100_16 : ab_rn cl 100 J Q (k + 1) 16 μ [v0, v1, v2, v3] (.int y :: .int x :: st) = (((y ≤ x) → ab_rn cl 100 J Q k 48 μ [v0, v1, v2, v3] st) ∧ ((¬ (y ≤ x)) → ab_rn cl 100 J Q k 19 μ [v0, v1, v2, v3] st)) := x_icmpF dX6_danger_16 rfl (fun _ _ _ _ _ => rfl)
theorem e100_19 : ab_rn cl 100 J Q (k + 1) 19 μ [v0, v1, .int x, v3] st = ab_rn cl 100 J Q k 20 μ [v0, v1, .int x, v3] (.int x :: st) := x_iload_n dX6_danger_19 rfl
theorem e100_20 : ab_rn cl 100 J Q (k + 1) 20 μ [.ref a, v1, v2, v3] st = ab_rn cl 100 J Q k 21 μ [.ref a, v1, v2, v3] (.ref a :: st) := x_aload_n dX6_danger_20 rfl
theorem e100_21 : ab_rn cl 100 J Q (k + 1) 21 μ [v0, .int x, v2, v3] st = ab_rn cl 100 J Q k 22 μ [v0, .int x, v2, v3] (.int x :: st) := x_iload_n dX6_danger_21 rfl
theorem e100_22 : ab_rn cl 100 J Q (k + 1) 22 μ [v0, v1, v2, v3] st = ab_rn cl 100 J Q k 23 μ [v0, v1, v2, v3] (.int 4 :: st) := x_iconst dX6_danger_22 (by decide)
theorem e100_23 : ab_rn cl 100 J Q (k + 1) 23 μ [v0, v1, v2, v3] (.int y :: .int x :: st) = ((¬ y = 0) ∧ ab_rn cl 100 J Q k 24 μ [v0, v1, v2, v3] (.int (x / y) :: st)) := x_idiv dX6_danger_23
theorem e100_24 : ab_rn cl 100 J Q (k + 1) 24 μ [v0, v1, v2, v3] st = ab_rn cl 100 J Q k 25 μ [v0, v1, v2, v3] (.int 4 :: st) := x_iconst dX6_danger_24 (by decide)
theorem e100_25 : ab_rn cl 100 J Q (k + 1) 25 μ [v0, v1, v2, v3] (.int y :: .int x :: st) = ab_rn cl 100 J Q k 26 μ [v0, v1, v2, v3] (.int (x * y) :: st) := x_imul dX6_danger_25
theorem e100_26 : ab_rn cl 100 J Q (k + 1) 26 μ [v0, v1, v2, .int x] st = ab_rn cl 100 J Q k 27 μ [v0, v1, v2, .int x] (.int x :: st) := x_iload_n dX6_danger_26 rfl
theorem e100_27 : ab_rn cl 100 J Q (k + 1) 27 μ [v0, v1, v2, v3] (.int y :: .int x :: st) = ab_rn cl 100 J Q k 28 μ [v0, v1, v2, v3] (.int (x + y) :: st) := x_iadd dX6_danger_27
theorem e100_28 : ab_rn cl 100 J Q (k + 1) 28 μ [v0, v1, v2, v3] (.int x0 :: .ref a :: st) = (ab_ob a 6 ∧ st.length ≤ 4 ∧ cl 98 [.ref a, .int x0] μ (fun r μ' => ab_rn cl 100 J Q k 31 μ' [v0, v1, v2, v3] (ab_pu r st))) := x_v (as := [.int x0]) dX6_danger_28 rfl rfl rfl rfl rfl
theorem e100_31 : ab_rn cl 100 J Q (k + 1) 31 μ [v0, v1, v2, v3] st = ab_rn cl 100 J Q k 32 μ [v0, v1, v2, v3] (.int 2 :: st) := x_iconst dX6_danger_31 (by decide)
theorem e100_32 : ab_rn cl 100 J Q (k + 1) 32 μ [v0, v1, v2, v3] (.int y :: .int x :: st) = (((x < y) → ab_rn cl 100 J Q k 39 μ [v0, v1, v2, v3] st) ∧ ((¬ (x < y)) → ab_rn cl 100 J Q k 35 μ [v0, v1, v2, v3] st)) := x_icmpF dX6_danger_32 rfl (fun _ _ _ _ _ => rfl)
theorem e100_35 : ab_rn cl 100 J Q (k + 1) 35 μ [v0, v1, v2, v3] st = ab_rn cl 100 J Q k 36 μ [v0, v1, v2, v3] (.int 1 :: st) := x_iconst dX6_danger_35 (by decide)
theorem e100_36 : ab_rn cl 100 J Q (k + 1) 36 μ [v0, v1, v2, v3] st = ab_rn cl 100 J Q k 40 μ [v0, v1, v2, v3] st := x_gotoF dX6_danger_36 (fun _ _ _ _ _ => rfl)
theorem e100_39 : ab_rn cl 100 J Q (k + 1) 39 μ [v0, v1, v2, v3] st = ab_rn cl 100 J Q k 40 μ [v0, v1, v2, v3] (.int 0 :: st) := x_iconst dX6_danger_39 (by decide)
theorem e100_40 : ab_rn cl 100 J Q (k + 1) 40 μ [v0, v1, v2, v3] (.int y :: .int x :: st) = ab_rn cl 100 J Q k 41 μ [v0, v1, v2, v3] (.int (x + y) :: st) := x_iadd dX6_danger_40
theorem e100_41 : ab_rn cl 100 J Q (k + 1) 41 μ [v0, v1, v2, v3] (.int x :: st) = ab_rn cl 100 J Q k 42 μ [v0, v1, .int x, v3] st := x_istore_n dX6_danger_41 (Nat.le_of_ble_eq_true rfl) rfl
theorem e100_42 : ab_rn cl 100 J Q (k + 1) 42 μ [v0, v1, v2, .int x] st = ab_rn cl 100 J Q k 45 μ [v0, v1, v2, .int (x + 1)] st := x_iinc dX6_danger_42 (w := 1) (by decide) rfl rfl
theorem e100_45 : ab_rn cl 100 J Q (k + 1) 45 μ [v0, v1, v2, v3] st = J 14 μ [v0, v1, v2, v3] st := x_gotoB dX6_danger_45 (fun _ _ _ _ _ => rfl)
theorem e100_48 : ab_rn cl 100 J Q (k + 1) 48 μ [v0, v1, v2, v3] st = ab_rn cl 100 J Q k 49 μ [v0, v1, v2, v3] (.int 1 :: st) := x_iconst dX6_danger_48 (by decide)
theorem e100_49 : ab_rn cl 100 J Q (k + 1) 49 μ [.ref a, v1, v2, v3] st = ab_rn cl 100 J Q k 50 μ [.ref a, v1, v2, v3] (.ref a :: st) := x_aload_n dX6_danger_49 rfl
theorem e100_50 : ab_rn cl 100 J Q (k + 1) 50 μ [v0, .int x, v2, v3] st = ab_rn cl 100 J Q k 51 μ [v0, .int x, v2, v3] (.int x :: st) := x_iload_n dX6_danger_50 rfl
theorem e100_51 : ab_rn cl 100 J Q (k + 1) 51 μ [v0, v1, v2, v3] (.int x0 :: .ref a :: st) = (ab_ob a 6 ∧ st.length ≤ 4 ∧ cl 98 [.ref a, .int x0] μ (fun r μ' => ab_rn cl 100 J Q k 54 μ' [v0, v1, v2, v3] (ab_pu r st))) := x_v (as := [.int x0]) dX6_danger_51 rfl rfl rfl rfl rfl
theorem e100_54 : ab_rn cl 100 J Q (k + 1) 54 μ [v0, v1, v2, v3] (.int y :: .int x :: st) = ab_rn cl 100 J Q k 55 μ [v0, v1, v2, v3] (.int (x + y) :: st) := x_iadd dX6_danger_54
theorem e100_55 : ab_rn cl 100 J Q (k + 1) 55 μ [v0, v1, .int x, v3] st = ab_rn cl 100 J Q k 56 μ [v0, v1, .int x, v3] (.int x :: st) := x_iload_n dX6_danger_55 rfl
theorem e100_56 : ab_rn cl 100 J Q (k + 1) 56 μ [v0, v1, v2, v3] st = ab_rn cl 100 J Q k 57 μ [v0, v1, v2, v3] (.int 2 :: st) := x_iconst dX6_danger_56 (by decide)
theorem e100_57 : ab_rn cl 100 J Q (k + 1) 57 μ [v0, v1, v2, v3] (.int y :: .int x :: st) = (((x < y) → ab_rn cl 100 J Q k 64 μ [v0, v1, v2, v3] st) ∧ ((¬ (x < y)) → ab_rn cl 100 J Q k 60 μ [v0, v1, v2, v3] st)) := x_icmpF dX6_danger_57 rfl (fun _ _ _ _ _ => rfl)
theorem e100_60 : ab_rn cl 100 J Q (k + 1) 60 μ [v0, v1, v2, v3] st = ab_rn cl 100 J Q k 61 μ [v0, v1, v2, v3] (.int 1 :: st) := x_iconst dX6_danger_60 (by decide)
theorem e100_61 : ab_rn cl 100 J Q (k + 1) 61 μ [v0, v1, v2, v3] st = ab_rn cl 100 J Q k 65 μ [v0, v1, v2, v3] st := x_gotoF dX6_danger_61 (fun _ _ _ _ _ => rfl)
theorem e100_64 : ab_rn cl 100 J Q (k + 1) 64 μ [v0, v1, v2, v3] st = ab_rn cl 100 J Q k 65 μ [v0, v1, v2, v3] (.int 0 :: st) := x_iconst dX6_danger_64 (by decide)
theorem e100_65 : ab_rn cl 100 J Q (k + 1) 65 μ [v0, v1, v2, v3] (.int y :: .int x :: st) = ab_rn cl 100 J Q k 66 μ [v0, v1, v2, v3] (.int (x + y) :: st) := x_iadd dX6_danger_65
theorem e100_66 : ab_rn cl 100 J Q (k + 1) 66 μ [.ref a, v1, v2, v3] st = ab_rn cl 100 J Q k 67 μ [.ref a, v1, v2, v3] (.ref a :: st) := x_aload_n dX6_danger_66 rfl
theorem e100_67 : ab_rn cl 100 J Q (k + 1) 67 μ [v0, .int x, v2, v3] st = ab_rn cl 100 J Q k 68 μ [v0, .int x, v2, v3] (.int x :: st) := x_iload_n dX6_danger_67 rfl
theorem e100_68 : ab_rn cl 100 J Q (k + 1) 68 μ [v0, v1, v2, v3] (.int x0 :: .ref a :: st) = (ab_ob a 6 ∧ st.length ≤ 4 ∧ cl 99 [.ref a, .int x0] μ (fun r μ' => ab_rn cl 100 J Q k 71 μ' [v0, v1, v2, v3] (ab_pu r st))) := x_v (as := [.int x0]) dX6_danger_68 rfl rfl rfl rfl rfl
theorem e100_71 : ab_rn cl 100 J Q (k + 1) 71 μ [v0, v1, v2, v3] (.int y :: .int x :: st) = ab_rn cl 100 J Q k 72 μ [v0, v1, v2, v3] (.int (x + y) :: st) := x_iadd dX6_danger_71
theorem e100_72 : ab_rn cl 100 J Q (k + 1) 72 μ [v0, v1, v2, v3] st = ab_rn cl 100 J Q k 73 μ [v0, v1, v2, v3] (.int 1 :: st) := x_iconst dX6_danger_72 (by decide)
theorem e100_73 : ab_rn cl 100 J Q (k + 1) 73 μ [v0, v1, v2, v3] (.int y :: .int x :: st) = ab_rn cl 100 J Q k 74 μ [v0, v1, v2, v3] (.int (x - y) :: st) := x_isub dX6_danger_73
theorem e100_74 : ab_rn cl 100 J Q (k + 1) 74 μ [v0, v1, v2, v3] (.int x :: st) = ab_rn cl 100 J Q k 75 μ [v0, v1, v2, .int x] st := x_istore_n dX6_danger_74 (Nat.le_of_ble_eq_true rfl) rfl
theorem e100_75 : ab_rn cl 100 J Q (k + 1) 75 μ [v0, v1, v2, .int x] st = ab_rn cl 100 J Q k 76 μ [v0, v1, v2, .int x] (.int x :: st) := x_iload_n dX6_danger_75 rfl
theorem e100_76 : ab_rn cl 100 J Q (k + 1) 76 μ [v0, v1, v2, v3] st = ab_rn cl 100 J Q k 77 μ [v0, v1, v2, v3] (.int 5 :: st) := x_iconst dX6_danger_76 (by decide)
theorem e100_77 : ab_rn cl 100 J Q (k + 1) 77 μ [v0, v1, v2, v3] (.int y :: .int x :: st) = (((x ≤ y) → ab_rn cl 100 J Q k 84 μ [v0, v1, v2, v3] st) ∧ ((¬ (x ≤ y)) → ab_rn cl 100 J Q k 80 μ [v0, v1, v2, v3] st)) := x_icmpF dX6_danger_77 rfl (fun _ _ _ _ _ => rfl)
theorem e100_80 : ab_rn cl 100 J Q (k + 1) 80 μ [v0, v1, v2, v3] st = ab_rn cl 100 J Q k 81 μ [v0, v1, v2, v3] (.int 5 :: st) := x_iconst dX6_danger_80 (by decide)
theorem e100_81 : ab_rn cl 100 J Q (k + 1) 81 μ [v0, v1, v2, v3] st = ab_rn cl 100 J Q k 94 μ [v0, v1, v2, v3] st := x_gotoF dX6_danger_81 (fun _ _ _ _ _ => rfl)
theorem e100_84 : ab_rn cl 100 J Q (k + 1) 84 μ [v0, v1, v2, .int x] st = ab_rn cl 100 J Q k 85 μ [v0, v1, v2, .int x] (.int x :: st) := x_iload_n dX6_danger_84 rfl
theorem e100_85 : ab_rn cl 100 J Q (k + 1) 85 μ [v0, v1, v2, v3] st = ab_rn cl 100 J Q k 86 μ [v0, v1, v2, v3] (.int 1 :: st) := x_iconst dX6_danger_85 (by decide)
theorem e100_86 : ab_rn cl 100 J Q (k + 1) 86 μ [v0, v1, v2, v3] (.int y :: .int x :: st) = (((y ≤ x) → ab_rn cl 100 J Q k 93 μ [v0, v1, v2, v3] st) ∧ ((¬ (y ≤ x)) → ab_rn cl 100 J Q k 89 μ [v0, v1, v2, v3] st)) := x_icmpF dX6_danger_86 rfl (fun _ _ _ _ _ => rfl)
theorem e100_89 : ab_rn cl 100 J Q (k + 1) 89 μ [v0, v1, v2, v3] st = ab_rn cl 100 J Q k 90 μ [v0, v1, v2, v3] (.int 1 :: st) := x_iconst dX6_danger_89 (by decide)
theorem e100_90 : ab_rn cl 100 J Q (k + 1) 90 μ [v0, v1, v2, v3] st = ab_rn cl 100 J Q k 94 μ [v0, v1, v2, v3] st := x_gotoF dX6_danger_90 (fun _ _ _ _ _ => rfl)
theorem e100_93 : ab_rn cl 100 J Q (k + 1) 93 μ [v0, v1, v2, .int x] st = ab_rn cl 100 J Q k 94 μ [v0, v1, v2, .int x] (.int x :: st) := x_iload_n dX6_danger_93 rfl
theorem e100_94 : ab_rn cl 100 J Q (k + 1) 94 μ [v0, v1, v2, v3] [.int v] = Q (some v) μ := x_iret dX6_danger_94 rfl
theorem n100 {d : Nat} (h : ∀ J : ab_J, (∀ k pc μ ls st, ab_rn (ab_Cl d) 100 J Q k pc μ ls st → J pc μ ls st) → J 0 μ [v0, v1, .null, .null] []) : ab_Cl (d + 1) 100 [v0, v1] μ Q := ab_go h
theorem e101_0 : ab_rn cl 101 J Q (k + 1) 0 μ [.ref a, v1] st = ab_rn cl 101 J Q k 1 μ [.ref a, v1] (.ref a :: st) := x_aload_n dX6_all_0 rfl
theorem e101_1 : ab_rn cl 101 J Q (k + 1) 1 μ [v0, v1] (.ref a :: st) = (ab_ob a 6 ∧ ab_rn cl 101 J Q k 4 μ [v0, v1] (ab_fv μ a 1 :: st)) := x_get dX6_all_1 rfl
theorem e101_4 : ab_rn cl 101 J Q (k + 1) 4 μ [v0, .int x] st = ab_rn cl 101 J Q k 5 μ [v0, .int x] (.int x :: st) := x_iload_n dX6_all_4 rfl
theorem e101_5 : ab_rn cl 101 J Q (k + 1) 5 μ [v0, v1] (.int x :: .ref a :: st) = ((a < 81 ∧ ab_ak a = 0) ∧ vp_in x (ab_al a) ∧ ab_rn cl 101 J Q k 6 μ [v0, v1] (.int (μ (ab_cmp a) (ab_off a + x.toNatClampNeg)) :: st)) := x_iaload dX6_all_5
theorem e101_6 : ab_rn cl 101 J Q (k + 1) 6 μ [v0, v1] (.int x :: st) = (((¬ x = 0) → ab_rn cl 101 J Q k 13 μ [v0, v1] st) ∧ ((¬ (¬ x = 0)) → ab_rn cl 101 J Q k 9 μ [v0, v1] st)) := x_ifF dX6_all_6 rfl (fun _ _ _ _ _ => rfl)
theorem e101_9 : ab_rn cl 101 J Q (k + 1) 9 μ [v0, v1] st = ab_rn cl 101 J Q k 10 μ [v0, v1] (.int 0 :: st) := x_iconst dX6_all_9 (by decide)
theorem e101_10 : ab_rn cl 101 J Q (k + 1) 10 μ [v0, v1] st = ab_rn cl 101 J Q k 29 μ [v0, v1] st := x_gotoF dX6_all_10 (fun _ _ _ _ _ => rfl)
theorem e101_13 : ab_rn cl 101 J Q (k + 1) 13 μ [.ref a, v1] st = ab_rn cl 101 J Q k 14 μ [.ref a, v1] (.ref a :: st) := x_aload_n dX6_all_13 rfl
theorem e101_14 : ab_rn cl 101 J Q (k + 1) 14 μ [v0, v1] (.ref a :: st) = (ab_ob a 6 ∧ ab_rn cl 101 J Q k 17 μ [v0, v1] (ab_fv μ a 3 :: st)) := x_get dX6_all_14 rfl
theorem e101_17 : ab_rn cl 101 J Q (k + 1) 17 μ [v0, v1] st = ab_rn cl 101 J Q k 19 μ [v0, v1] (.int 10 :: st) := x_bipush dX6_all_17 (by decide)
theorem e101_19 : ab_rn cl 101 J Q (k + 1) 19 μ [v0, .int x] st = ab_rn cl 101 J Q k 20 μ [v0, .int x] (.int x :: st) := x_iload_n dX6_all_19 rfl
theorem e101_20 : ab_rn cl 101 J Q (k + 1) 20 μ [v0, v1] (.int y :: .int x :: st) = ab_rn cl 101 J Q k 21 μ [v0, v1] (.int (x * y) :: st) := x_imul dX6_all_20
theorem e101_21 : ab_rn cl 101 J Q (k + 1) 21 μ [v0, v1] (.int x :: .ref a :: st) = ((a < 81 ∧ ab_ak a = 0) ∧ vp_in x (ab_al a) ∧ ab_rn cl 101 J Q k 22 μ [v0, v1] (.int (μ (ab_cmp a) (ab_off a + x.toNatClampNeg)) :: st)) := x_iaload dX6_all_21
theorem e101_22 : ab_rn cl 101 J Q (k + 1) 22 μ [.ref a, v1] st = ab_rn cl 101 J Q k 23 μ [.ref a, v1] (.ref a :: st) := x_aload_n dX6_all_22 rfl
theorem e101_23 : ab_rn cl 101 J Q (k + 1) 23 μ [v0, .int x] st = ab_rn cl 101 J Q k 24 μ [v0, .int x] (.int x :: st) := x_iload_n dX6_all_23 rfl
theorem e101_24 : ab_rn cl 101 J Q (k + 1) 24 μ [v0, v1] st = ab_rn cl 101 J Q k 25 μ [v0, v1] (.int 0 :: st) := x_iconst dX6_all_24 (by decide)
theorem e101_25 : ab_rn cl 101 J Q (k + 1) 25 μ [v0, v1] (.int x1 :: .int x0 :: .ref a :: st) = (ab_ob a 6 ∧ st.length ≤ 4 ∧ cl 94 [.ref a, .int x0, .int x1] μ (fun r μ' => ab_rn cl 101 J Q k 28 μ' [v0, v1] (ab_pu r st))) := x_v (as := [.int x0, .int x1]) dX6_all_25 rfl rfl rfl rfl rfl
theorem e101_28 : ab_rn cl 101 J Q (k + 1) 28 μ [v0, v1] (.int y :: .int x :: st) = ab_rn cl 101 J Q k 29 μ [v0, v1] (.int (x + y) :: st) := x_iadd dX6_all_28
theorem e101_29 : ab_rn cl 101 J Q (k + 1) 29 μ [v0, v1] [.int v] = Q (some v) μ := x_iret dX6_all_29 rfl
theorem n101 {d : Nat} (h : ∀ J : ab_J, (∀ k pc μ ls st, ab_rn (ab_Cl d) 101 J Q k pc μ ls st → J pc μ ls st) → J 0 μ [v0, v1] []) : ab_Cl (d + 1) 101 [v0, v1] μ Q := ab_go h
theorem e102_0 : ab_rn cl 102 J Q (k + 1) 0 μ [v0, .int x, v2] st = ab_rn cl 102 J Q k 1 μ [v0, .int x, v2] (.int x :: st) := x_iload_n dX6_told_0 rfl
theorem e102_1 : ab_rn cl 102 J Q (k + 1) 1 μ [v0, v1, v2] (.int x0 :: st) = (st.length ≤ 4 ∧ cl 80 [.int x0] μ (fun r μ' => ab_rn cl 102 J Q k 4 μ' [v0, v1, v2] (ab_pu r st))) := x_s (as := [.int x0]) (b := 0) dX6_told_1 rfl (by decide) rfl rfl rfl
theorem e102_4 : ab_rn cl 102 J Q (k + 1) 4 μ [v0, v1, v2] (.int x :: st) = (((¬ x = 0) → ab_rn cl 102 J Q k 9 μ [v0, v1, v2] st) ∧ ((¬ (¬ x = 0)) → ab_rn cl 102 J Q k 7 μ [v0, v1, v2] st)) := x_ifF dX6_told_4 rfl (fun _ _ _ _ _ => rfl)
theorem e102_7 : ab_rn cl 102 J Q (k + 1) 7 μ [v0, v1, v2] st = ab_rn cl 102 J Q k 8 μ [v0, v1, v2] (.int (-1) :: st) := x_iconst dX6_told_7 (by decide)
theorem e102_8 : ab_rn cl 102 J Q (k + 1) 8 μ [v0, v1, v2] [.int v] = Q (some v) μ := x_iret dX6_told_8 rfl
theorem e102_9 : ab_rn cl 102 J Q (k + 1) 9 μ [v0, v1, .int x] st = ab_rn cl 102 J Q k 10 μ [v0, v1, .int x] (.int x :: st) := x_iload_n dX6_told_9 rfl
theorem e102_10_0 : ab_rn cl 102 J Q (k + 1) 10 μ [v0, v1, v2] (.int 0 :: st) = ab_rn cl 102 J Q k 48 μ [v0, v1, v2] st := x_tsiF dX6_told_10 (by decide) (off := 38) (by decide +kernel) (fun _ _ _ _ _ => rfl)
theorem e102_10_1 : ab_rn cl 102 J Q (k + 1) 10 μ [v0, v1, v2] (.int 1 :: st) = ab_rn cl 102 J Q k 55 μ [v0, v1, v2] st := x_tsiF dX6_told_10 (by decide) (off := 45) (by decide +kernel) (fun _ _ _ _ _ => rfl)
theorem e102_10_2 : ab_rn cl 102 J Q (k + 1) 10 μ [v0, v1, v2] (.int 2 :: st) = ab_rn cl 102 J Q k 61 μ [v0, v1, v2] st := x_tsiF dX6_told_10 (by decide) (off := 51) (by decide +kernel) (fun _ _ _ _ _ => rfl)
theorem e102_10_3 : ab_rn cl 102 J Q (k + 1) 10 μ [v0, v1, v2] (.int 3 :: st) = ab_rn cl 102 J Q k 67 μ [v0, v1, v2] st := x_tsiF dX6_told_10 (by decide) (off := 57) (by decide +kernel) (fun _ _ _ _ _ => rfl)
theorem e102_10_4 : ab_rn cl 102 J Q (k + 1) 10 μ [v0, v1, v2] (.int 4 :: st) = ab_rn cl 102 J Q k 73 μ [v0, v1, v2] st := x_tsiF dX6_told_10 (by decide) (off := 63) (by decide +kernel) (fun _ _ _ _ _ => rfl)
theorem e102_10_5 : ab_rn cl 102 J Q (k + 1) 10 μ [v0, v1, v2] (.int 5 :: st) = ab_rn cl 102 J Q k 79 μ [v0, v1, v2] st := x_tsiF dX6_told_10 (by decide) (off := 69) (by decide +kernel) (fun _ _ _ _ _ => rfl)
theorem e102_10d (h : x < 0 ∨ 5 < x) : ab_rn cl 102 J Q (k + 1) 10 μ [v0, v1, v2] (.int x :: st) = ab_rn cl 102 J Q k 85 μ [v0, v1, v2] st := x_tsoF dX6_told_10 (ab_tso h) (fun _ _ _ _ _ => rfl)
theorem e102_48 : ab_rn cl 102 J Q (k + 1) 48 μ [.ref a, v1, v2] st = ab_rn cl 102 J Q k 49 μ [.ref a, v1, v2] (.ref a :: st) := x_aload_n dX6_told_48 rfl
theorem e102_49 : ab_rn cl 102 J Q (k + 1) 49 μ [v0, v1, v2] (.ref a :: st) = (ab_ob a 6 ∧ ab_rn cl 102 J Q k 52 μ [v0, v1, v2] (ab_fv μ a 1 :: st)) := x_get dX6_told_49 rfl
theorem e102_52 : ab_rn cl 102 J Q (k + 1) 52 μ [v0, .int x, v2] st = ab_rn cl 102 J Q k 53 μ [v0, .int x, v2] (.int x :: st) := x_iload_n dX6_told_52 rfl
theorem e102_53 : ab_rn cl 102 J Q (k + 1) 53 μ [v0, v1, v2] (.int x :: .ref a :: st) = ((a < 81 ∧ ab_ak a = 0) ∧ vp_in x (ab_al a) ∧ ab_rn cl 102 J Q k 54 μ [v0, v1, v2] (.int (μ (ab_cmp a) (ab_off a + x.toNatClampNeg)) :: st)) := x_iaload dX6_told_53
theorem e102_54 : ab_rn cl 102 J Q (k + 1) 54 μ [v0, v1, v2] [.int v] = Q (some v) μ := x_iret dX6_told_54 rfl
theorem e102_55 : ab_rn cl 102 J Q (k + 1) 55 μ [.ref a, v1, v2] st = ab_rn cl 102 J Q k 56 μ [.ref a, v1, v2] (.ref a :: st) := x_aload_n dX6_told_55 rfl
theorem e102_56 : ab_rn cl 102 J Q (k + 1) 56 μ [v0, .int x, v2] st = ab_rn cl 102 J Q k 57 μ [v0, .int x, v2] (.int x :: st) := x_iload_n dX6_told_56 rfl
theorem e102_57 : ab_rn cl 102 J Q (k + 1) 57 μ [v0, v1, v2] (.int x0 :: .ref a :: st) = (ab_ob a 6 ∧ st.length ≤ 4 ∧ cl 101 [.ref a, .int x0] μ (fun r μ' => ab_rn cl 102 J Q k 60 μ' [v0, v1, v2] (ab_pu r st))) := x_v (as := [.int x0]) dX6_told_57 rfl rfl rfl rfl rfl
theorem e102_60 : ab_rn cl 102 J Q (k + 1) 60 μ [v0, v1, v2] [.int v] = Q (some v) μ := x_iret dX6_told_60 rfl
theorem e102_61 : ab_rn cl 102 J Q (k + 1) 61 μ [.ref a, v1, v2] st = ab_rn cl 102 J Q k 62 μ [.ref a, v1, v2] (.ref a :: st) := x_aload_n dX6_told_61 rfl
theorem e102_62 : ab_rn cl 102 J Q (k + 1) 62 μ [v0, .int x, v2] st = ab_rn cl 102 J Q k 63 μ [v0, .int x, v2] (.int x :: st) := x_iload_n dX6_told_62 rfl
theorem e102_63 : ab_rn cl 102 J Q (k + 1) 63 μ [v0, v1, v2] (.int x0 :: .ref a :: st) = (ab_ob a 6 ∧ st.length ≤ 4 ∧ cl 98 [.ref a, .int x0] μ (fun r μ' => ab_rn cl 102 J Q k 66 μ' [v0, v1, v2] (ab_pu r st))) := x_v (as := [.int x0]) dX6_told_63 rfl rfl rfl rfl rfl
theorem e102_66 : ab_rn cl 102 J Q (k + 1) 66 μ [v0, v1, v2] [.int v] = Q (some v) μ := x_iret dX6_told_66 rfl
theorem e102_67 : ab_rn cl 102 J Q (k + 1) 67 μ [.ref a, v1, v2] st = ab_rn cl 102 J Q k 68 μ [.ref a, v1, v2] (.ref a :: st) := x_aload_n dX6_told_67 rfl
theorem e102_68 : ab_rn cl 102 J Q (k + 1) 68 μ [v0, .int x, v2] st = ab_rn cl 102 J Q k 69 μ [v0, .int x, v2] (.int x :: st) := x_iload_n dX6_told_68 rfl
theorem e102_69 : ab_rn cl 102 J Q (k + 1) 69 μ [v0, v1, v2] (.int x0 :: .ref a :: st) = (ab_ob a 6 ∧ st.length ≤ 4 ∧ cl 99 [.ref a, .int x0] μ (fun r μ' => ab_rn cl 102 J Q k 72 μ' [v0, v1, v2] (ab_pu r st))) := x_v (as := [.int x0]) dX6_told_69 rfl rfl rfl rfl rfl
theorem e102_72 : ab_rn cl 102 J Q (k + 1) 72 μ [v0, v1, v2] [.int v] = Q (some v) μ := x_iret dX6_told_72 rfl
theorem e102_73 : ab_rn cl 102 J Q (k + 1) 73 μ [.ref a, v1, v2] st = ab_rn cl 102 J Q k 74 μ [.ref a, v1, v2] (.ref a :: st) := x_aload_n dX6_told_73 rfl
theorem e102_74 : ab_rn cl 102 J Q (k + 1) 74 μ [v0, .int x, v2] st = ab_rn cl 102 J Q k 75 μ [v0, .int x, v2] (.int x :: st) := x_iload_n dX6_told_74 rfl
theorem e102_75 : ab_rn cl 102 J Q (k + 1) 75 μ [v0, v1, v2] (.int x0 :: .ref a :: st) = (ab_ob a 6 ∧ st.length ≤ 4 ∧ cl 100 [.ref a, .int x0] μ (fun r μ' => ab_rn cl 102 J Q k 78 μ' [v0, v1, v2] (ab_pu r st))) := x_v (as := [.int x0]) dX6_told_75 rfl rfl rfl rfl rfl
theorem e102_78 : ab_rn cl 102 J Q (k + 1) 78 μ [v0, v1, v2] [.int v] = Q (some v) μ := x_iret dX6_told_78 rfl
theorem e102_79 : ab_rn cl 102 J Q (k + 1) 79 μ [.ref a, v1, v2] st = ab_rn cl 102 J Q k 80 μ [.ref a, v1, v2] (.ref a :: st) := x_aload_n dX6_told_79 rfl
theorem e102_80 : ab_rn cl 102 J Q (k + 1) 80 μ [v0, .int x, v2] st = ab_rn cl 102 J Q k 81 μ [v0, .int x, v2] (.int x :: st) := x_iload_n dX6_told_80 rfl
theorem e102_81 : ab_rn cl 102 J Q (k + 1) 81 μ [v0, v1, v2] (.int x0 :: .ref a :: st) = (ab_ob a 6 ∧ st.length ≤ 4 ∧ cl 97 [.ref a, .int x0] μ (fun r μ' => ab_rn cl 102 J Q k 84 μ' [v0, v1, v2] (ab_pu r st))) := x_v (as := [.int x0]) dX6_told_81 rfl rfl rfl rfl rfl
theorem e102_84 : ab_rn cl 102 J Q (k + 1) 84 μ [v0, v1, v2] [.int v] = Q (some v) μ := x_iret dX6_told_84 rfl
theorem e102_85 : ab_rn cl 102 J Q (k + 1) 85 μ [v0, v1, v2] st = ab_rn cl 102 J Q k 86 μ [v0, v1, v2] (.int (-1) :: st) := x_iconst dX6_told_85 (by decide)
theorem e102_86 : ab_rn cl 102 J Q (k + 1) 86 μ [v0, v1, v2] [.int v] = Q (some v) μ := x_iret dX6_told_86 rfl
theorem n102 {d : Nat} (h : ∀ J : ab_J, (∀ k pc μ ls st, ab_rn (ab_Cl d) 102 J Q k pc μ ls st → J pc μ ls st) → J 0 μ [v0, v1, v2] []) : ab_Cl (d + 1) 102 [v0, v1, v2] μ Q := ab_go h
theorem e103_0 : ab_rn cl 103 J Q (k + 1) 0 μ [.ref a, v1, v2, v3] st = ab_rn cl 103 J Q k 1 μ [.ref a, v1, v2, v3] (.ref a :: st) := x_aload_n dX6_slides_0 rfl
theorem e103_1 : ab_rn cl 103 J Q (k + 1) 1 μ [v0, .int x, v2, v3] st = ab_rn cl 103 J Q k 2 μ [v0, .int x, v2, v3] (.int x :: st) := x_iload_n dX6_slides_1 rfl
theorem e103_2 : ab_rn cl 103 J Q (k + 1) 2 μ [v0, v1, .int x, v3] st = ab_rn cl 103 J Q k 3 μ [v0, v1, .int x, v3] (.int x :: st) := x_iload_n dX6_slides_2 rfl
theorem e103_3 : ab_rn cl 103 J Q (k + 1) 3 μ [v0, v1, v2, v3] (.int x1 :: .int x0 :: .ref a :: st) = (ab_ob a 6 ∧ st.length ≤ 4 ∧ cl 94 [.ref a, .int x0, .int x1] μ (fun r μ' => ab_rn cl 103 J Q k 6 μ' [v0, v1, v2, v3] (ab_pu r st))) := x_v (as := [.int x0, .int x1]) dX6_slides_3 rfl rfl rfl rfl rfl
theorem e103_6 : ab_rn cl 103 J Q (k + 1) 6 μ [v0, v1, v2, v3] (.int x :: st) = ab_rn cl 103 J Q k 7 μ [v0, v1, v2, .int x] st := x_istore_n dX6_slides_6 (Nat.le_of_ble_eq_true rfl) rfl
theorem e103_7 : ab_rn cl 103 J Q (k + 1) 7 μ [.ref a, v1, v2, v3] st = ab_rn cl 103 J Q k 8 μ [.ref a, v1, v2, v3] (.ref a :: st) := x_aload_n dX6_slides_7 rfl
theorem e103_8 : ab_rn cl 103 J Q (k + 1) 8 μ [v0, v1, v2, v3] (.ref a :: st) = (ab_ob a 6 ∧ ab_rn cl 103 J Q k 11 μ [v0, v1, v2, v3] (ab_fv μ a 1 :: st)) := x_get dX6_slides_8 rfl
theorem e103_11 : ab_rn cl 103 J Q (k + 1) 11 μ [v0, .int x, v2, v3] st = ab_rn cl 103 J Q k 12 μ [v0, .int x, v2, v3] (.int x :: st) := x_iload_n dX6_slides_11 rfl
theorem e103_12 : ab_rn cl 103 J Q (k + 1) 12 μ [v0, v1, .int x, v3] st = ab_rn cl 103 J Q k 13 μ [v0, v1, .int x, v3] (.int x :: st) := x_iload_n dX6_slides_12 rfl
theorem e103_13 : ab_rn cl 103 J Q (k + 1) 13 μ [v0, v1, v2, v3] st = ab_rn cl 103 J Q k 14 μ [v0, v1, v2, v3] (.int 1 :: st) := x_iconst dX6_slides_13 (by decide)
theorem e103_14 : ab_rn cl 103 J Q (k + 1) 14 μ [v0, v1, v2, v3] (.int y :: .int x :: st) = ab_rn cl 103 J Q k 15 μ [v0, v1, v2, v3] (.int (x + y) :: st) := x_iadd dX6_slides_14
theorem e103_15 : ab_rn cl 103 J Q (k + 1) 15 μ [v0, v1, v2, v3] (.int v :: .int x :: .ref a :: st) = ((a < 81 ∧ ab_ak a = 0) ∧ vp_in x (ab_al a) ∧ ab_rn cl 103 J Q k 16 (ab_up μ (ab_cmp a) (ab_off a + x.toNatClampNeg) v) [v0, v1, v2, v3] st) := x_iastore dX6_slides_15
theorem e103_16 : ab_rn cl 103 J Q (k + 1) 16 μ [.ref a, v1, v2, v3] st = ab_rn cl 103 J Q k 17 μ [.ref a, v1, v2, v3] (.ref a :: st) := x_aload_n dX6_slides_16 rfl
theorem e103_17i : ab_rn cl 103 J Q (k + 1) 17 μ [v0, v1, v2, v3] (.int x :: st) = ab_rn cl 103 J Q k 18 μ [v0, v1, v2, v3] (.int x :: .int x :: st) := x_dupi dX6_slides_17
theorem e103_17r : ab_rn cl 103 J Q (k + 1) 17 μ [v0, v1, v2, v3] (.ref a :: st) = ab_rn cl 103 J Q k 18 μ [v0, v1, v2, v3] (.ref a :: .ref a :: st) := x_dupr dX6_slides_17
theorem e103_18 : ab_rn cl 103 J Q (k + 1) 18 μ [v0, v1, v2, v3] (.ref a :: st) = (ab_ob a 6 ∧ ab_rn cl 103 J Q k 21 μ [v0, v1, v2, v3] (ab_fv μ a 12 :: st)) := x_get dX6_slides_18 rfl
theorem e103_21 : ab_rn cl 103 J Q (k + 1) 21 μ [v0, v1, v2, .int x] st = ab_rn cl 103 J Q k 22 μ [v0, v1, v2, .int x] (.int x :: st) := x_iload_n dX6_slides_21 rfl
theorem e103_22 : ab_rn cl 103 J Q (k + 1) 22 μ [v0, v1, v2, v3] (.int y :: .int x :: st) = ab_rn cl 103 J Q k 23 μ [v0, v1, v2, v3] (.int (x + y) :: st) := x_iadd dX6_slides_22
theorem e103_23 : ab_rn cl 103 J Q (k + 1) 23 μ [v0, v1, v2, v3] (.int v :: .ref a :: st) = (ab_ob a 6 ∧ ab_rf a 12 = none ∧ ab_rn cl 103 J Q k 26 (ab_up μ (ab_cmp a) (ab_off a + 12) v) [v0, v1, v2, v3] st) := x_put dX6_slides_23 rfl
theorem e103_26 : ab_rn cl 103 J Q (k + 1) 26 μ [v0, v1, v2, .int x] st = ab_rn cl 103 J Q k 27 μ [v0, v1, v2, .int x] (.int x :: st) := x_iload_n dX6_slides_26 rfl
theorem e103_27 : ab_rn cl 103 J Q (k + 1) 27 μ [v0, v1, v2, v3] [.int v] = Q (some v) μ := x_iret dX6_slides_27 rfl
theorem n103 {d : Nat} (h : ∀ J : ab_J, (∀ k pc μ ls st, ab_rn (ab_Cl d) 103 J Q k pc μ ls st → J pc μ ls st) → J 0 μ [v0, v1, v2, .null] []) : ab_Cl (d + 1) 103 [v0, v1, v2] μ Q := ab_go h
theorem e104_0 : ab_rn cl 104 J Q (k + 1) 0 μ [v0, .int x, v2] st = ab_rn cl 104 J Q k 1 μ [v0, .int x, v2] (.int x :: st) := x_iload_n dX6_slide_0 rfl
theorem e104_1 : ab_rn cl 104 J Q (k + 1) 1 μ [v0, v1, v2] (.int x0 :: st) = (st.length ≤ 4 ∧ cl 80 [.int x0] μ (fun r μ' => ab_rn cl 104 J Q k 4 μ' [v0, v1, v2] (ab_pu r st))) := x_s (as := [.int x0]) (b := 0) dX6_slide_1 rfl (by decide) rfl rfl rfl
theorem e104_4 : ab_rn cl 104 J Q (k + 1) 4 μ [v0, v1, v2] (.int x :: st) = (((x = 0) → ab_rn cl 104 J Q k 23 μ [v0, v1, v2] st) ∧ ((¬ (x = 0)) → ab_rn cl 104 J Q k 7 μ [v0, v1, v2] st)) := x_ifF dX6_slide_4 rfl (fun _ _ _ _ _ => rfl)
theorem e104_7 : ab_rn cl 104 J Q (k + 1) 7 μ [v0, v1, .int x] st = ab_rn cl 104 J Q k 8 μ [v0, v1, .int x] (.int x :: st) := x_iload_n dX6_slide_7 rfl
theorem e104_8 : ab_rn cl 104 J Q (k + 1) 8 μ [v0, v1, v2] st = ab_rn cl 104 J Q k 9 μ [v0, v1, v2] (.int 0 :: st) := x_iconst dX6_slide_8 (by decide)
theorem e104_9 : ab_rn cl 104 J Q (k + 1) 9 μ [.ref a, v1, v2] st = ab_rn cl 104 J Q k 10 μ [.ref a, v1, v2] (.ref a :: st) := x_aload_n dX6_slide_9 rfl
theorem e104_10 : ab_rn cl 104 J Q (k + 1) 10 μ [v0, v1, v2] (.ref a :: st) = (ab_ob a 6 ∧ ab_rn cl 104 J Q k 13 μ [v0, v1, v2] (ab_fv μ a 1 :: st)) := x_get dX6_slide_10 rfl
theorem e104_13 : ab_rn cl 104 J Q (k + 1) 13 μ [v0, .int x, v2] st = ab_rn cl 104 J Q k 14 μ [v0, .int x, v2] (.int x :: st) := x_iload_n dX6_slide_13 rfl
theorem e104_14 : ab_rn cl 104 J Q (k + 1) 14 μ [v0, v1, v2] (.int x :: .ref a :: st) = ((a < 81 ∧ ab_ak a = 0) ∧ vp_in x (ab_al a) ∧ ab_rn cl 104 J Q k 15 μ [v0, v1, v2] (.int (μ (ab_cmp a) (ab_off a + x.toNatClampNeg)) :: st)) := x_iaload dX6_slide_14
theorem e104_15 : ab_rn cl 104 J Q (k + 1) 15 μ [v0, v1, v2] st = ab_rn cl 104 J Q k 16 μ [v0, v1, v2] (.int 2 :: st) := x_iconst dX6_slide_15 (by decide)
theorem e104_16 : ab_rn cl 104 J Q (k + 1) 16 μ [v0, v1, v2] (.int y :: .int x :: st) = ab_rn cl 104 J Q k 17 μ [v0, v1, v2] (.int (x - y) :: st) := x_isub dX6_slide_16
theorem e104_17 : ab_rn cl 104 J Q (k + 1) 17 μ [v0, v1, v2] (.int x2 :: .int x1 :: .int x0 :: st) = (st.length ≤ 4 ∧ cl 79 [.int x0, .int x1, .int x2] μ (fun r μ' => ab_rn cl 104 J Q k 20 μ' [v0, v1, v2] (ab_pu r st))) := x_s (as := [.int x0, .int x1, .int x2]) (b := 0) dX6_slide_17 rfl (by decide) rfl rfl rfl
theorem e104_20 : ab_rn cl 104 J Q (k + 1) 20 μ [v0, v1, v2] (.int x :: st) = (((¬ x = 0) → ab_rn cl 104 J Q k 25 μ [v0, v1, v2] st) ∧ ((¬ (¬ x = 0)) → ab_rn cl 104 J Q k 23 μ [v0, v1, v2] st)) := x_ifF dX6_slide_20 rfl (fun _ _ _ _ _ => rfl)
theorem e104_23 : ab_rn cl 104 J Q (k + 1) 23 μ [v0, v1, v2] st = ab_rn cl 104 J Q k 24 μ [v0, v1, v2] (.int (-1) :: st) := x_iconst dX6_slide_23 (by decide)
theorem e104_24 : ab_rn cl 104 J Q (k + 1) 24 μ [v0, v1, v2] [.int v] = Q (some v) μ := x_iret dX6_slide_24 rfl
theorem e104_25 : ab_rn cl 104 J Q (k + 1) 25 μ [.ref a, v1, v2] st = ab_rn cl 104 J Q k 26 μ [.ref a, v1, v2] (.ref a :: st) := x_aload_n dX6_slide_25 rfl
theorem e104_26 : ab_rn cl 104 J Q (k + 1) 26 μ [v0, v1, v2] (.ref a :: st) = (ab_ob a 6 ∧ ab_rn cl 104 J Q k 29 μ [v0, v1, v2] (ab_fv μ a 13 :: st)) := x_get dX6_slide_26 rfl
theorem e104_29 : ab_rn cl 104 J Q (k + 1) 29 μ [v0, .int x, v2] st = ab_rn cl 104 J Q k 30 μ [v0, .int x, v2] (.int x :: st) := x_iload_n dX6_slide_29 rfl
theorem e104_30 : ab_rn cl 104 J Q (k + 1) 30 μ [v0, v1, v2] st = ab_rn cl 104 J Q k 31 μ [v0, v1, v2] (.int 1 :: st) := x_iconst dX6_slide_30 (by decide)
theorem e104_31 : ab_rn cl 104 J Q (k + 1) 31 μ [v0, v1, v2] (.int v :: .int x :: .ref a :: st) = ((a < 81 ∧ ab_ak a = 1) ∧ vp_in x (ab_al a) ∧ (v = 0 ∨ v = 1) ∧ ab_rn cl 104 J Q k 32 (ab_up μ (ab_cmp a) (ab_off a + x.toNatClampNeg) v) [v0, v1, v2] st) := x_bastore dX6_slide_31
theorem e104_32 : ab_rn cl 104 J Q (k + 1) 32 μ [.ref a, v1, v2] st = ab_rn cl 104 J Q k 33 μ [.ref a, v1, v2] (.ref a :: st) := x_aload_n dX6_slide_32 rfl
theorem e104_33 : ab_rn cl 104 J Q (k + 1) 33 μ [v0, .int x, v2] st = ab_rn cl 104 J Q k 34 μ [v0, .int x, v2] (.int x :: st) := x_iload_n dX6_slide_33 rfl
theorem e104_34 : ab_rn cl 104 J Q (k + 1) 34 μ [v0, v1, .int x] st = ab_rn cl 104 J Q k 35 μ [v0, v1, .int x] (.int x :: st) := x_iload_n dX6_slide_34 rfl
theorem e104_35 : ab_rn cl 104 J Q (k + 1) 35 μ [v0, v1, v2] (.int x1 :: .int x0 :: .ref a :: st) = (ab_ob a 6 ∧ st.length ≤ 4 ∧ cl 103 [.ref a, .int x0, .int x1] μ (fun r μ' => ab_rn cl 104 J Q k 38 μ' [v0, v1, v2] (ab_pu r st))) := x_v (as := [.int x0, .int x1]) dX6_slide_35 rfl rfl rfl rfl rfl
theorem e104_38 : ab_rn cl 104 J Q (k + 1) 38 μ [v0, v1, v2] [.int v] = Q (some v) μ := x_iret dX6_slide_38 rfl
theorem n104 {d : Nat} (h : ∀ J : ab_J, (∀ k pc μ ls st, ab_rn (ab_Cl d) 104 J Q k pc μ ls st → J pc μ ls st) → J 0 μ [v0, v1, v2] []) : ab_Cl (d + 1) 104 [v0, v1, v2] μ Q := ab_go h
theorem e105_0 : ab_rn cl 105 J Q (k + 1) 0 μ [v0, .int x] st = ab_rn cl 105 J Q k 1 μ [v0, .int x] (.int x :: st) := x_iload_n dX6_shot_0 rfl
theorem e105_1 : ab_rn cl 105 J Q (k + 1) 1 μ [v0, v1] (.int x0 :: st) = (st.length ≤ 4 ∧ cl 80 [.int x0] μ (fun r μ' => ab_rn cl 105 J Q k 4 μ' [v0, v1] (ab_pu r st))) := x_s (as := [.int x0]) (b := 0) dX6_shot_1 rfl (by decide) rfl rfl rfl
theorem e105_4 : ab_rn cl 105 J Q (k + 1) 4 μ [v0, v1] (.int x :: st) = (((¬ x = 0) → ab_rn cl 105 J Q k 9 μ [v0, v1] st) ∧ ((¬ (¬ x = 0)) → ab_rn cl 105 J Q k 7 μ [v0, v1] st)) := x_ifF dX6_shot_4 rfl (fun _ _ _ _ _ => rfl)
theorem e105_7 : ab_rn cl 105 J Q (k + 1) 7 μ [v0, v1] st = ab_rn cl 105 J Q k 8 μ [v0, v1] (.int (-1) :: st) := x_iconst dX6_shot_7 (by decide)
theorem e105_8 : ab_rn cl 105 J Q (k + 1) 8 μ [v0, v1] [.int v] = Q (some v) μ := x_iret dX6_shot_8 rfl
theorem e105_9 : ab_rn cl 105 J Q (k + 1) 9 μ [.ref a, v1] st = ab_rn cl 105 J Q k 10 μ [.ref a, v1] (.ref a :: st) := x_aload_n dX6_shot_9 rfl
theorem e105_10 : ab_rn cl 105 J Q (k + 1) 10 μ [v0, .int x] st = ab_rn cl 105 J Q k 11 μ [v0, .int x] (.int x :: st) := x_iload_n dX6_shot_10 rfl
theorem e105_11 : ab_rn cl 105 J Q (k + 1) 11 μ [v0, v1] (.int x0 :: .ref a :: st) = (ab_ob a 6 ∧ st.length ≤ 4 ∧ cl 98 [.ref a, .int x0] μ (fun r μ' => ab_rn cl 105 J Q k 14 μ' [v0, v1] (ab_pu r st))) := x_v (as := [.int x0]) dX6_shot_11 rfl rfl rfl rfl rfl
theorem e105_14 : ab_rn cl 105 J Q (k + 1) 14 μ [v0, v1] st = ab_rn cl 105 J Q k 15 μ [v0, v1] (.int 2 :: st) := x_iconst dX6_shot_14 (by decide)
theorem e105_15 : ab_rn cl 105 J Q (k + 1) 15 μ [v0, v1] (.int y :: .int x :: st) = (((x < y) → ab_rn cl 105 J Q k 31 μ [v0, v1] st) ∧ ((¬ (x < y)) → ab_rn cl 105 J Q k 18 μ [v0, v1] st)) := x_icmpF dX6_shot_15 rfl (fun _ _ _ _ _ => rfl)
theorem e105_18 : ab_rn cl 105 J Q (k + 1) 18 μ [.ref a, v1] st = ab_rn cl 105 J Q k 19 μ [.ref a, v1] (.ref a :: st) := x_aload_n dX6_shot_18 rfl
theorem e105_19 : ab_rn cl 105 J Q (k + 1) 19 μ [v0, .int x] st = ab_rn cl 105 J Q k 20 μ [v0, .int x] (.int x :: st) := x_iload_n dX6_shot_19 rfl
theorem e105_20 : ab_rn cl 105 J Q (k + 1) 20 μ [.ref a, v1] st = ab_rn cl 105 J Q k 21 μ [.ref a, v1] (.ref a :: st) := x_aload_n dX6_shot_20 rfl
theorem e105_21 : ab_rn cl 105 J Q (k + 1) 21 μ [v0, .int x] st = ab_rn cl 105 J Q k 22 μ [v0, .int x] (.int x :: st) := x_iload_n dX6_shot_21 rfl
theorem e105_22 : ab_rn cl 105 J Q (k + 1) 22 μ [v0, v1] (.int x0 :: .ref a :: st) = (ab_ob a 6 ∧ st.length ≤ 4 ∧ cl 97 [.ref a, .int x0] μ (fun r μ' => ab_rn cl 105 J Q k 25 μ' [v0, v1] (ab_pu r st))) := x_v (as := [.int x0]) dX6_shot_22 rfl rfl rfl rfl rfl
theorem e105_25 : ab_rn cl 105 J Q (k + 1) 25 μ [v0, v1] (.int x1 :: .int x0 :: .ref a :: st) = (ab_ob a 6 ∧ st.length ≤ 4 ∧ cl 103 [.ref a, .int x0, .int x1] μ (fun r μ' => ab_rn cl 105 J Q k 28 μ' [v0, v1] (ab_pu r st))) := x_v (as := [.int x0, .int x1]) dX6_shot_25 rfl rfl rfl rfl rfl
theorem e105_28 : ab_rn cl 105 J Q (k + 1) 28 μ [v0, v1] st = ab_rn cl 105 J Q k 32 μ [v0, v1] st := x_gotoF dX6_shot_28 (fun _ _ _ _ _ => rfl)
theorem e105_31 : ab_rn cl 105 J Q (k + 1) 31 μ [v0, v1] st = ab_rn cl 105 J Q k 32 μ [v0, v1] (.int 0 :: st) := x_iconst dX6_shot_31 (by decide)
theorem e105_32 : ab_rn cl 105 J Q (k + 1) 32 μ [v0, v1] [.int v] = Q (some v) μ := x_iret dX6_shot_32 rfl
theorem n105 {d : Nat} (h : ∀ J : ab_J, (∀ k pc μ ls st, ab_rn (ab_Cl d) 105 J Q k pc μ ls st → J pc μ ls st) → J 0 μ [v0, v1] []) : ab_Cl (d + 1) 105 [v0, v1] μ Q := ab_go h
theorem e106_0 : ab_rn cl 106 J Q (k + 1) 0 μ [v0, .int x, v2] st = ab_rn cl 106 J Q k 1 μ [v0, .int x, v2] (.int x :: st) := x_iload_n dX6_path_0 rfl
theorem e106_1 : ab_rn cl 106 J Q (k + 1) 1 μ [v0, v1, v2] (.int x0 :: st) = (st.length ≤ 4 ∧ cl 80 [.int x0] μ (fun r μ' => ab_rn cl 106 J Q k 4 μ' [v0, v1, v2] (ab_pu r st))) := x_s (as := [.int x0]) (b := 0) dX6_path_1 rfl (by decide) rfl rfl rfl
theorem e106_4 : ab_rn cl 106 J Q (k + 1) 4 μ [v0, v1, v2] (.int x :: st) = (((x = 0) → ab_rn cl 106 J Q k 25 μ [v0, v1, v2] st) ∧ ((¬ (x = 0)) → ab_rn cl 106 J Q k 7 μ [v0, v1, v2] st)) := x_ifF dX6_path_4 rfl (fun _ _ _ _ _ => rfl)
theorem e106_7 : ab_rn cl 106 J Q (k + 1) 7 μ [v0, v1, .int x] st = ab_rn cl 106 J Q k 8 μ [v0, v1, .int x] (.int x :: st) := x_iload_n dX6_path_7 rfl
theorem e106_8 : ab_rn cl 106 J Q (k + 1) 8 μ [v0, v1, v2] st = ab_rn cl 106 J Q k 9 μ [v0, v1, v2] (.int 0 :: st) := x_iconst dX6_path_8 (by decide)
theorem e106_9 : ab_rn cl 106 J Q (k + 1) 9 μ [v0, v1, v2] st = ab_rn cl 106 J Q k 10 μ [v0, v1, v2] (.int 2 :: st) := x_iconst dX6_path_9 (by decide)
theorem e106_10 : ab_rn cl 106 J Q (k + 1) 10 μ [v0, v1, v2] (.int x2 :: .int x1 :: .int x0 :: st) = (st.length ≤ 4 ∧ cl 79 [.int x0, .int x1, .int x2] μ (fun r μ' => ab_rn cl 106 J Q k 13 μ' [v0, v1, v2] (ab_pu r st))) := x_s (as := [.int x0, .int x1, .int x2]) (b := 0) dX6_path_10 rfl (by decide) rfl rfl rfl
theorem e106_13 : ab_rn cl 106 J Q (k + 1) 13 μ [v0, v1, v2] (.int x :: st) = (((x = 0) → ab_rn cl 106 J Q k 25 μ [v0, v1, v2] st) ∧ ((¬ (x = 0)) → ab_rn cl 106 J Q k 16 μ [v0, v1, v2] st)) := x_ifF dX6_path_13 rfl (fun _ _ _ _ _ => rfl)
theorem e106_16 : ab_rn cl 106 J Q (k + 1) 16 μ [.ref a, v1, v2] st = ab_rn cl 106 J Q k 17 μ [.ref a, v1, v2] (.ref a :: st) := x_aload_n dX6_path_16 rfl
theorem e106_17 : ab_rn cl 106 J Q (k + 1) 17 μ [v0, v1, v2] (.ref a :: st) = (ab_ob a 6 ∧ ab_rn cl 106 J Q k 20 μ [v0, v1, v2] (ab_fv μ a 16 :: st)) := x_get dX6_path_17 rfl
theorem e106_20 : ab_rn cl 106 J Q (k + 1) 20 μ [v0, v1, v2] st = ab_rn cl 106 J Q k 22 μ [v0, v1, v2] (.int 10 :: st) := x_bipush dX6_path_20 (by decide)
theorem e106_22 : ab_rn cl 106 J Q (k + 1) 22 μ [v0, v1, v2] (.int y :: .int x :: st) = (((¬ x = y) → ab_rn cl 106 J Q k 27 μ [v0, v1, v2] st) ∧ ((¬ (¬ x = y)) → ab_rn cl 106 J Q k 25 μ [v0, v1, v2] st)) := x_icmpF dX6_path_22 rfl (fun _ _ _ _ _ => rfl)
theorem e106_25 : ab_rn cl 106 J Q (k + 1) 25 μ [v0, v1, v2] st = ab_rn cl 106 J Q k 26 μ [v0, v1, v2] (.int (-1) :: st) := x_iconst dX6_path_25 (by decide)
theorem e106_26 : ab_rn cl 106 J Q (k + 1) 26 μ [v0, v1, v2] [.int v] = Q (some v) μ := x_iret dX6_path_26 rfl
theorem e106_27 : ab_rn cl 106 J Q (k + 1) 27 μ [.ref a, v1, v2] st = ab_rn cl 106 J Q k 28 μ [.ref a, v1, v2] (.ref a :: st) := x_aload_n dX6_path_27 rfl
theorem e106_28 : ab_rn cl 106 J Q (k + 1) 28 μ [v0, v1, v2] (.ref a :: st) = (ab_ob a 6 ∧ ab_rn cl 106 J Q k 31 μ [v0, v1, v2] (ab_fv μ a 17 :: st)) := x_get dX6_path_28 rfl
theorem e106_31 : ab_rn cl 106 J Q (k + 1) 31 μ [.ref a, v1, v2] st = ab_rn cl 106 J Q k 32 μ [.ref a, v1, v2] (.ref a :: st) := x_aload_n dX6_path_31 rfl
theorem e106_32 : ab_rn cl 106 J Q (k + 1) 32 μ [v0, v1, v2] (.ref a :: st) = (ab_ob a 6 ∧ ab_rn cl 106 J Q k 35 μ [v0, v1, v2] (ab_fv μ a 16 :: st)) := x_get dX6_path_32 rfl
theorem e106_35 : ab_rn cl 106 J Q (k + 1) 35 μ [v0, .int x, v2] st = ab_rn cl 106 J Q k 36 μ [v0, .int x, v2] (.int x :: st) := x_iload_n dX6_path_35 rfl
theorem e106_36 : ab_rn cl 106 J Q (k + 1) 36 μ [v0, v1, v2] (.int v :: .int x :: .ref a :: st) = ((a < 81 ∧ ab_ak a = 0) ∧ vp_in x (ab_al a) ∧ ab_rn cl 106 J Q k 37 (ab_up μ (ab_cmp a) (ab_off a + x.toNatClampNeg) v) [v0, v1, v2] st) := x_iastore dX6_path_36
theorem e106_37 : ab_rn cl 106 J Q (k + 1) 37 μ [.ref a, v1, v2] st = ab_rn cl 106 J Q k 38 μ [.ref a, v1, v2] (.ref a :: st) := x_aload_n dX6_path_37 rfl
theorem e106_38 : ab_rn cl 106 J Q (k + 1) 38 μ [v0, v1, v2] (.ref a :: st) = (ab_ob a 6 ∧ ab_rn cl 106 J Q k 41 μ [v0, v1, v2] (ab_fv μ a 18 :: st)) := x_get dX6_path_38 rfl
theorem e106_41 : ab_rn cl 106 J Q (k + 1) 41 μ [.ref a, v1, v2] st = ab_rn cl 106 J Q k 42 μ [.ref a, v1, v2] (.ref a :: st) := x_aload_n dX6_path_41 rfl
theorem e106_42 : ab_rn cl 106 J Q (k + 1) 42 μ [v0, v1, v2] (.ref a :: st) = (ab_ob a 6 ∧ ab_rn cl 106 J Q k 45 μ [v0, v1, v2] (ab_fv μ a 16 :: st)) := x_get dX6_path_42 rfl
theorem e106_45 : ab_rn cl 106 J Q (k + 1) 45 μ [v0, v1, .int x] st = ab_rn cl 106 J Q k 46 μ [v0, v1, .int x] (.int x :: st) := x_iload_n dX6_path_45 rfl
theorem e106_46 : ab_rn cl 106 J Q (k + 1) 46 μ [v0, v1, v2] (.int v :: .int x :: .ref a :: st) = ((a < 81 ∧ ab_ak a = 0) ∧ vp_in x (ab_al a) ∧ ab_rn cl 106 J Q k 47 (ab_up μ (ab_cmp a) (ab_off a + x.toNatClampNeg) v) [v0, v1, v2] st) := x_iastore dX6_path_46
theorem e106_47 : ab_rn cl 106 J Q (k + 1) 47 μ [.ref a, v1, v2] st = ab_rn cl 106 J Q k 48 μ [.ref a, v1, v2] (.ref a :: st) := x_aload_n dX6_path_47 rfl
theorem e106_48i : ab_rn cl 106 J Q (k + 1) 48 μ [v0, v1, v2] (.int x :: st) = ab_rn cl 106 J Q k 49 μ [v0, v1, v2] (.int x :: .int x :: st) := x_dupi dX6_path_48
theorem e106_48r : ab_rn cl 106 J Q (k + 1) 48 μ [v0, v1, v2] (.ref a :: st) = ab_rn cl 106 J Q k 49 μ [v0, v1, v2] (.ref a :: .ref a :: st) := x_dupr dX6_path_48
theorem e106_49 : ab_rn cl 106 J Q (k + 1) 49 μ [v0, v1, v2] (.ref a :: st) = (ab_ob a 6 ∧ ab_rn cl 106 J Q k 52 μ [v0, v1, v2] (ab_fv μ a 16 :: st)) := x_get dX6_path_49 rfl
theorem e106_52 : ab_rn cl 106 J Q (k + 1) 52 μ [v0, v1, v2] st = ab_rn cl 106 J Q k 53 μ [v0, v1, v2] (.int 1 :: st) := x_iconst dX6_path_52 (by decide)
theorem e106_53 : ab_rn cl 106 J Q (k + 1) 53 μ [v0, v1, v2] (.int y :: .int x :: st) = ab_rn cl 106 J Q k 54 μ [v0, v1, v2] (.int (x + y) :: st) := x_iadd dX6_path_53
theorem e106_54 : ab_rn cl 106 J Q (k + 1) 54 μ [v0, v1, v2] (.int v :: .ref a :: st) = (ab_ob a 6 ∧ ab_rf a 16 = none ∧ ab_rn cl 106 J Q k 57 (ab_up μ (ab_cmp a) (ab_off a + 16) v) [v0, v1, v2] st) := x_put dX6_path_54 rfl
theorem e106_57 : ab_rn cl 106 J Q (k + 1) 57 μ [.ref a, v1, v2] st = ab_rn cl 106 J Q k 58 μ [.ref a, v1, v2] (.ref a :: st) := x_aload_n dX6_path_57 rfl
theorem e106_58 : ab_rn cl 106 J Q (k + 1) 58 μ [v0, v1, v2] (.ref a :: st) = (ab_ob a 6 ∧ ab_rn cl 106 J Q k 61 μ [v0, v1, v2] (ab_fv μ a 16 :: st)) := x_get dX6_path_58 rfl
theorem e106_61 : ab_rn cl 106 J Q (k + 1) 61 μ [v0, v1, v2] st = ab_rn cl 106 J Q k 62 μ [v0, v1, v2] (.int 1 :: st) := x_iconst dX6_path_61 (by decide)
theorem e106_62 : ab_rn cl 106 J Q (k + 1) 62 μ [v0, v1, v2] (.int y :: .int x :: st) = ab_rn cl 106 J Q k 63 μ [v0, v1, v2] (.int (x - y) :: st) := x_isub dX6_path_62
theorem e106_63 : ab_rn cl 106 J Q (k + 1) 63 μ [v0, v1, v2] [.int v] = Q (some v) μ := x_iret dX6_path_63 rfl
theorem n106 {d : Nat} (h : ∀ J : ab_J, (∀ k pc μ ls st, ab_rn (ab_Cl d) 106 J Q k pc μ ls st → J pc μ ls st) → J 0 μ [v0, v1, v2] []) : ab_Cl (d + 1) 106 [v0, v1, v2] μ Q := ab_go h
theorem e107_0 : ab_rn cl 107 J Q (k + 1) 0 μ [.ref a, v1] st = ab_rn cl 107 J Q k 1 μ [.ref a, v1] (.ref a :: st) := x_aload_n dX6_shuts_0 rfl
theorem e107_1 : ab_rn cl 107 J Q (k + 1) 1 μ [.ref a, v1] st = ab_rn cl 107 J Q k 2 μ [.ref a, v1] (.ref a :: st) := x_aload_n dX6_shuts_1 rfl
theorem e107_2 : ab_rn cl 107 J Q (k + 1) 2 μ [v0, v1] (.ref a :: st) = (ab_ob a 6 ∧ ab_rn cl 107 J Q k 5 μ [v0, v1] (ab_fv μ a 17 :: st)) := x_get dX6_shuts_2 rfl
theorem e107_5 : ab_rn cl 107 J Q (k + 1) 5 μ [v0, .int x] st = ab_rn cl 107 J Q k 6 μ [v0, .int x] (.int x :: st) := x_iload_n dX6_shuts_5 rfl
theorem e107_6 : ab_rn cl 107 J Q (k + 1) 6 μ [v0, v1] (.int x :: .ref a :: st) = ((a < 81 ∧ ab_ak a = 0) ∧ vp_in x (ab_al a) ∧ ab_rn cl 107 J Q k 7 μ [v0, v1] (.int (μ (ab_cmp a) (ab_off a + x.toNatClampNeg)) :: st)) := x_iaload dX6_shuts_6
theorem e107_7 : ab_rn cl 107 J Q (k + 1) 7 μ [v0, v1] (.int x0 :: .ref a :: st) = (ab_ob a 6 ∧ st.length ≤ 4 ∧ cl 98 [.ref a, .int x0] μ (fun r μ' => ab_rn cl 107 J Q k 10 μ' [v0, v1] (ab_pu r st))) := x_v (as := [.int x0]) dX6_shuts_7 rfl rfl rfl rfl rfl
theorem e107_10 : ab_rn cl 107 J Q (k + 1) 10 μ [v0, v1] st = ab_rn cl 107 J Q k 11 μ [v0, v1] (.int 2 :: st) := x_iconst dX6_shuts_10 (by decide)
theorem e107_11 : ab_rn cl 107 J Q (k + 1) 11 μ [v0, v1] (.int y :: .int x :: st) = (((x < y) → ab_rn cl 107 J Q k 37 μ [v0, v1] st) ∧ ((¬ (x < y)) → ab_rn cl 107 J Q k 14 μ [v0, v1] st)) := x_icmpF dX6_shuts_11 rfl (fun _ _ _ _ _ => rfl)
theorem e107_14 : ab_rn cl 107 J Q (k + 1) 14 μ [.ref a, v1] st = ab_rn cl 107 J Q k 15 μ [.ref a, v1] (.ref a :: st) := x_aload_n dX6_shuts_14 rfl
theorem e107_15 : ab_rn cl 107 J Q (k + 1) 15 μ [.ref a, v1] st = ab_rn cl 107 J Q k 16 μ [.ref a, v1] (.ref a :: st) := x_aload_n dX6_shuts_15 rfl
theorem e107_16 : ab_rn cl 107 J Q (k + 1) 16 μ [v0, v1] (.ref a :: st) = (ab_ob a 6 ∧ ab_rn cl 107 J Q k 19 μ [v0, v1] (ab_fv μ a 17 :: st)) := x_get dX6_shuts_16 rfl
theorem e107_19 : ab_rn cl 107 J Q (k + 1) 19 μ [v0, .int x] st = ab_rn cl 107 J Q k 20 μ [v0, .int x] (.int x :: st) := x_iload_n dX6_shuts_19 rfl
theorem e107_20 : ab_rn cl 107 J Q (k + 1) 20 μ [v0, v1] (.int x :: .ref a :: st) = ((a < 81 ∧ ab_ak a = 0) ∧ vp_in x (ab_al a) ∧ ab_rn cl 107 J Q k 21 μ [v0, v1] (.int (μ (ab_cmp a) (ab_off a + x.toNatClampNeg)) :: st)) := x_iaload dX6_shuts_20
theorem e107_21 : ab_rn cl 107 J Q (k + 1) 21 μ [v0, v1] (.int x0 :: .ref a :: st) = (ab_ob a 6 ∧ st.length ≤ 4 ∧ cl 99 [.ref a, .int x0] μ (fun r μ' => ab_rn cl 107 J Q k 24 μ' [v0, v1] (ab_pu r st))) := x_v (as := [.int x0]) dX6_shuts_21 rfl rfl rfl rfl rfl
theorem e107_24 : ab_rn cl 107 J Q (k + 1) 24 μ [.ref a, v1] st = ab_rn cl 107 J Q k 25 μ [.ref a, v1] (.ref a :: st) := x_aload_n dX6_shuts_24 rfl
theorem e107_25 : ab_rn cl 107 J Q (k + 1) 25 μ [v0, v1] (.ref a :: st) = (ab_ob a 6 ∧ ab_rn cl 107 J Q k 28 μ [v0, v1] (ab_fv μ a 18 :: st)) := x_get dX6_shuts_25 rfl
theorem e107_28 : ab_rn cl 107 J Q (k + 1) 28 μ [v0, .int x] st = ab_rn cl 107 J Q k 29 μ [v0, .int x] (.int x :: st) := x_iload_n dX6_shuts_28 rfl
theorem e107_29 : ab_rn cl 107 J Q (k + 1) 29 μ [v0, v1] (.int x :: .ref a :: st) = ((a < 81 ∧ ab_ak a = 0) ∧ vp_in x (ab_al a) ∧ ab_rn cl 107 J Q k 30 μ [v0, v1] (.int (μ (ab_cmp a) (ab_off a + x.toNatClampNeg)) :: st)) := x_iaload dX6_shuts_29
theorem e107_30 : ab_rn cl 107 J Q (k + 1) 30 μ [v0, v1] (.int y :: .int x :: st) = (((x < y) → ab_rn cl 107 J Q k 37 μ [v0, v1] st) ∧ ((¬ (x < y)) → ab_rn cl 107 J Q k 33 μ [v0, v1] st)) := x_icmpF dX6_shuts_30 rfl (fun _ _ _ _ _ => rfl)
theorem e107_33 : ab_rn cl 107 J Q (k + 1) 33 μ [v0, v1] st = ab_rn cl 107 J Q k 34 μ [v0, v1] (.int 1 :: st) := x_iconst dX6_shuts_33 (by decide)
theorem e107_34 : ab_rn cl 107 J Q (k + 1) 34 μ [v0, v1] st = ab_rn cl 107 J Q k 38 μ [v0, v1] st := x_gotoF dX6_shuts_34 (fun _ _ _ _ _ => rfl)
theorem e107_37 : ab_rn cl 107 J Q (k + 1) 37 μ [v0, v1] st = ab_rn cl 107 J Q k 38 μ [v0, v1] (.int 0 :: st) := x_iconst dX6_shuts_37 (by decide)
theorem e107_38 : ab_rn cl 107 J Q (k + 1) 38 μ [v0, v1] [.int v] = ((v = 0 ∨ v = 1) ∧ Q (some v) μ) := x_zret dX6_shuts_38 rfl
theorem n107 {d : Nat} (h : ∀ J : ab_J, (∀ k pc μ ls st, ab_rn (ab_Cl d) 107 J Q k pc μ ls st → J pc μ ls st) → J 0 μ [v0, v1] []) : ab_Cl (d + 1) 107 [v0, v1] μ Q := ab_go h
theorem e108_0 : ab_rn cl 108 J Q (k + 1) 0 μ [v0, v1, v2] st = ab_rn cl 108 J Q k 1 μ [v0, v1, v2] (.int 0 :: st) := x_iconst dX6_shut_0 (by decide)
theorem e108_1 : ab_rn cl 108 J Q (k + 1) 1 μ [v0, v1, v2] (.int x :: st) = ab_rn cl 108 J Q k 2 μ [v0, .int x, v2] st := x_istore_n dX6_shut_1 (Nat.le_of_ble_eq_true rfl) rfl
theorem e108_2 : ab_rn cl 108 J Q (k + 1) 2 μ [v0, v1, v2] st = ab_rn cl 108 J Q k 3 μ [v0, v1, v2] (.int 0 :: st) := x_iconst dX6_shut_2 (by decide)
theorem e108_3 : ab_rn cl 108 J Q (k + 1) 3 μ [v0, v1, v2] (.int x :: st) = ab_rn cl 108 J Q k 4 μ [v0, v1, .int x] st := x_istore_n dX6_shut_3 (Nat.le_of_ble_eq_true rfl) rfl
theorem e108_4 : ab_rn cl 108 J Q (k + 1) 4 μ [v0, v1, .int x] st = ab_rn cl 108 J Q k 5 μ [v0, v1, .int x] (.int x :: st) := x_iload_n dX6_shut_4 rfl
theorem e108_5 : ab_rn cl 108 J Q (k + 1) 5 μ [.ref a, v1, v2] st = ab_rn cl 108 J Q k 6 μ [.ref a, v1, v2] (.ref a :: st) := x_aload_n dX6_shut_5 rfl
theorem e108_6 : ab_rn cl 108 J Q (k + 1) 6 μ [v0, v1, v2] (.ref a :: st) = (ab_ob a 6 ∧ ab_rn cl 108 J Q k 9 μ [v0, v1, v2] (ab_fv μ a 16 :: st)) := x_get dX6_shut_6 rfl
theorem e108_9 : ab_rn cl 108 J Q (k + 1) 9 μ [v0, v1, v2] (.int y :: .int x :: st) = (((y ≤ x) → ab_rn cl 108 J Q k 36 μ [v0, v1, v2] st) ∧ ((¬ (y ≤ x)) → ab_rn cl 108 J Q k 12 μ [v0, v1, v2] st)) := x_icmpF dX6_shut_9 rfl (fun _ _ _ _ _ => rfl)
theorem e108_12 : ab_rn cl 108 J Q (k + 1) 12 μ [v0, .int x, v2] st = ab_rn cl 108 J Q k 13 μ [v0, .int x, v2] (.int x :: st) := x_iload_n dX6_shut_12 rfl
theorem e108_13 : ab_rn cl 108 J Q (k + 1) 13 μ [.ref a, v1, v2] st = ab_rn cl 108 J Q k 14 μ [.ref a, v1, v2] (.ref a :: st) := x_aload_n dX6_shut_13 rfl
theorem e108_14 : ab_rn cl 108 J Q (k + 1) 14 μ [v0, v1, .int x] st = ab_rn cl 108 J Q k 15 μ [v0, v1, .int x] (.int x :: st) := x_iload_n dX6_shut_14 rfl
theorem e108_15 : ab_rn cl 108 J Q (k + 1) 15 μ [v0, v1, v2] (.int x0 :: .ref a :: st) = (ab_ob a 6 ∧ st.length ≤ 4 ∧ cl 107 [.ref a, .int x0] μ (fun r μ' => ab_rn cl 108 J Q k 18 μ' [v0, v1, v2] (ab_pu r st))) := x_v (as := [.int x0]) dX6_shut_15 rfl rfl rfl rfl rfl
theorem e108_18 : ab_rn cl 108 J Q (k + 1) 18 μ [v0, v1, v2] (.int x :: st) = (((x = 0) → ab_rn cl 108 J Q k 27 μ [v0, v1, v2] st) ∧ ((¬ (x = 0)) → ab_rn cl 108 J Q k 21 μ [v0, v1, v2] st)) := x_ifF dX6_shut_18 rfl (fun _ _ _ _ _ => rfl)
theorem e108_21 : ab_rn cl 108 J Q (k + 1) 21 μ [v0, v1, v2] st = ab_rn cl 108 J Q k 22 μ [v0, v1, v2] (.int 1 :: st) := x_iconst dX6_shut_21 (by decide)
theorem e108_22 : ab_rn cl 108 J Q (k + 1) 22 μ [v0, v1, .int x] st = ab_rn cl 108 J Q k 23 μ [v0, v1, .int x] (.int x :: st) := x_iload_n dX6_shut_22 rfl
theorem e108_23 : ab_rn cl 108 J Q (k + 1) 23 μ [v0, v1, v2] (.int y :: .int x :: st) = ab_rn cl 108 J Q k 24 μ [v0, v1, v2] (.int (x <<< (y &&& 31)) :: st) := x_ishl dX6_shut_23
theorem e108_24 : ab_rn cl 108 J Q (k + 1) 24 μ [v0, v1, v2] st = ab_rn cl 108 J Q k 28 μ [v0, v1, v2] st := x_gotoF dX6_shut_24 (fun _ _ _ _ _ => rfl)
theorem e108_27 : ab_rn cl 108 J Q (k + 1) 27 μ [v0, v1, v2] st = ab_rn cl 108 J Q k 28 μ [v0, v1, v2] (.int 0 :: st) := x_iconst dX6_shut_27 (by decide)
theorem e108_28 : ab_rn cl 108 J Q (k + 1) 28 μ [v0, v1, v2] (.int y :: .int x :: st) = ab_rn cl 108 J Q k 29 μ [v0, v1, v2] (.int (x ||| y) :: st) := x_ior dX6_shut_28
theorem e108_29 : ab_rn cl 108 J Q (k + 1) 29 μ [v0, v1, v2] (.int x :: st) = ab_rn cl 108 J Q k 30 μ [v0, .int x, v2] st := x_istore_n dX6_shut_29 (Nat.le_of_ble_eq_true rfl) rfl
theorem e108_30 : ab_rn cl 108 J Q (k + 1) 30 μ [v0, v1, .int x] st = ab_rn cl 108 J Q k 33 μ [v0, v1, .int (x + 1)] st := x_iinc dX6_shut_30 (w := 1) (by decide) rfl rfl
theorem e108_33 : ab_rn cl 108 J Q (k + 1) 33 μ [v0, v1, v2] st = J 4 μ [v0, v1, v2] st := x_gotoB dX6_shut_33 (fun _ _ _ _ _ => rfl)
theorem e108_36 : ab_rn cl 108 J Q (k + 1) 36 μ [v0, .int x, v2] st = ab_rn cl 108 J Q k 37 μ [v0, .int x, v2] (.int x :: st) := x_iload_n dX6_shut_36 rfl
theorem e108_37 : ab_rn cl 108 J Q (k + 1) 37 μ [v0, v1, v2] [.int v] = Q (some v) μ := x_iret dX6_shut_37 rfl
theorem n108 {d : Nat} (h : ∀ J : ab_J, (∀ k pc μ ls st, ab_rn (ab_Cl d) 108 J Q k pc μ ls st → J pc μ ls st) → J 0 μ [v0, .null, .null] []) : ab_Cl (d + 1) 108 [v0] μ Q := ab_go h
theorem e109_0 : ab_rn cl 109 J Q (k + 1) 0 μ [v0, v1, v2, v3, v4, v5, v6] st = ab_rn cl 109 J Q k 1 μ [v0, v1, v2, v3, v4, v5, v6] (.int 0 :: st) := x_iconst dX6_shots_0 (by decide)
theorem e109_1 : ab_rn cl 109 J Q (k + 1) 1 μ [v0, v1, v2, v3, v4, v5, v6] (.int x :: st) = ab_rn cl 109 J Q k 2 μ [v0, .int x, v2, v3, v4, v5, v6] st := x_istore_n dX6_shots_1 (Nat.le_of_ble_eq_true rfl) rfl
theorem e109_2 : ab_rn cl 109 J Q (k + 1) 2 μ [v0, v1, v2, v3, v4, v5, v6] st = ab_rn cl 109 J Q k 3 μ [v0, v1, v2, v3, v4, v5, v6] (.int 0 :: st) := x_iconst dX6_shots_2 (by decide)
theorem e109_3 : ab_rn cl 109 J Q (k + 1) 3 μ [v0, v1, v2, v3, v4, v5, v6] (.int x :: st) = ab_rn cl 109 J Q k 4 μ [v0, v1, .int x, v3, v4, v5, v6] st := x_istore_n dX6_shots_3 (Nat.le_of_ble_eq_true rfl) rfl
theorem e109_4 : ab_rn cl 109 J Q (k + 1) 4 μ [v0, v1, .int x, v3, v4, v5, v6] st = ab_rn cl 109 J Q k 5 μ [v0, v1, .int x, v3, v4, v5, v6] (.int x :: st) := x_iload_n dX6_shots_4 rfl
theorem e109_5 : ab_rn cl 109 J Q (k + 1) 5 μ [v0, v1, v2, v3, v4, v5, v6] st = ab_rn cl 109 J Q k 7 μ [v0, v1, v2, v3, v4, v5, v6] (.int 12 :: st) := x_bipush dX6_shots_5 (by decide)
theorem e109_7 : ab_rn cl 109 J Q (k + 1) 7 μ [v0, v1, v2, v3, v4, v5, v6] (.int y :: .int x :: st) = (((y ≤ x) → ab_rn cl 109 J Q k 165 μ [v0, v1, v2, v3, v4, v5, v6] st) ∧ ((¬ (y ≤ x)) → ab_rn cl 109 J Q k 10 μ [v0, v1, v2, v3, v4, v5, v6] st)) := x_icmpF dX6_shots_7 rfl (fun _ _ _ _ _ => rfl)
theorem e109_10 : ab_rn cl 109 J Q (k + 1) 10 μ [v0, v1, v2, v3, v4, v5, v6] st = ab_rn cl 109 J Q k 11 μ [v0, v1, v2, v3, v4, v5, v6] (.int 0 :: st) := x_iconst dX6_shots_10 (by decide)
theorem e109_11 : ab_rn cl 109 J Q (k + 1) 11 μ [v0, v1, v2, v3, v4, v5, v6] (.int x :: st) = ab_rn cl 109 J Q k 12 μ [v0, v1, v2, .int x, v4, v5, v6] st := x_istore_n dX6_shots_11 (Nat.le_of_ble_eq_true rfl) rfl
theorem e109_12 : ab_rn cl 109 J Q (k + 1) 12 μ [v0, v1, v2, v3, v4, v5, v6] st = ab_rn cl 109 J Q k 13 μ [v0, v1, v2, v3, v4, v5, v6] (.int 0 :: st) := x_iconst dX6_shots_12 (by decide)
theorem e109_13 : ab_rn cl 109 J Q (k + 1) 13 μ [v0, v1, v2, v3, v4, v5, v6] (.int x :: st) = ab_rn cl 109 J Q k 15 μ [v0, v1, v2, v3, .int x, v5, v6] st := x_istore dX6_shots_13 (Nat.le_of_ble_eq_true rfl) rfl
theorem e109_15 : ab_rn cl 109 J Q (k + 1) 15 μ [v0, v1, v2, v3, .int x, v5, v6] st = ab_rn cl 109 J Q k 17 μ [v0, v1, v2, v3, .int x, v5, v6] (.int x :: st) := x_iload dX6_shots_15 rfl
theorem e109_17 : ab_rn cl 109 J Q (k + 1) 17 μ [.ref a, v1, v2, v3, v4, v5, v6] st = ab_rn cl 109 J Q k 18 μ [.ref a, v1, v2, v3, v4, v5, v6] (.ref a :: st) := x_aload_n dX6_shots_17 rfl
theorem e109_18 : ab_rn cl 109 J Q (k + 1) 18 μ [v0, v1, v2, v3, v4, v5, v6] (.ref a :: st) = (ab_ob a 6 ∧ ab_rn cl 109 J Q k 21 μ [v0, v1, v2, v3, v4, v5, v6] (ab_fv μ a 16 :: st)) := x_get dX6_shots_18 rfl
theorem e109_21 : ab_rn cl 109 J Q (k + 1) 21 μ [v0, v1, v2, v3, v4, v5, v6] (.int y :: .int x :: st) = (((y ≤ x) → ab_rn cl 109 J Q k 60 μ [v0, v1, v2, v3, v4, v5, v6] st) ∧ ((¬ (y ≤ x)) → ab_rn cl 109 J Q k 24 μ [v0, v1, v2, v3, v4, v5, v6] st)) := x_icmpF dX6_shots_21 rfl (fun _ _ _ _ _ => rfl)
theorem e109_24 : ab_rn cl 109 J Q (k + 1) 24 μ [v0, v1, v2, .int x, v4, v5, v6] st = ab_rn cl 109 J Q k 25 μ [v0, v1, v2, .int x, v4, v5, v6] (.int x :: st) := x_iload_n dX6_shots_24 rfl
theorem e109_25 : ab_rn cl 109 J Q (k + 1) 25 μ [v0, v1, v2, v3, v4, v5, v6] (.int x :: st) = (((¬ x = 0) → ab_rn cl 109 J Q k 48 μ [v0, v1, v2, v3, v4, v5, v6] st) ∧ ((¬ (¬ x = 0)) → ab_rn cl 109 J Q k 28 μ [v0, v1, v2, v3, v4, v5, v6] st)) := x_ifF dX6_shots_25 rfl (fun _ _ _ _ _ => rfl)
theorem e109_28 : ab_rn cl 109 J Q (k + 1) 28 μ [.ref a, v1, v2, v3, v4, v5, v6] st = ab_rn cl 109 J Q k 29 μ [.ref a, v1, v2, v3, v4, v5, v6] (.ref a :: st) := x_aload_n dX6_shots_28 rfl
theorem e109_29 : ab_rn cl 109 J Q (k + 1) 29 μ [v0, v1, v2, v3, v4, v5, v6] (.ref a :: st) = (ab_ob a 6 ∧ ab_rn cl 109 J Q k 32 μ [v0, v1, v2, v3, v4, v5, v6] (ab_fv μ a 17 :: st)) := x_get dX6_shots_29 rfl
theorem e109_32 : ab_rn cl 109 J Q (k + 1) 32 μ [v0, v1, v2, v3, .int x, v5, v6] st = ab_rn cl 109 J Q k 34 μ [v0, v1, v2, v3, .int x, v5, v6] (.int x :: st) := x_iload dX6_shots_32 rfl
theorem e109_34 : ab_rn cl 109 J Q (k + 1) 34 μ [v0, v1, v2, v3, v4, v5, v6] (.int x :: .ref a :: st) = ((a < 81 ∧ ab_ak a = 0) ∧ vp_in x (ab_al a) ∧ ab_rn cl 109 J Q k 35 μ [v0, v1, v2, v3, v4, v5, v6] (.int (μ (ab_cmp a) (ab_off a + x.toNatClampNeg)) :: st)) := x_iaload dX6_shots_34
theorem e109_35 : ab_rn cl 109 J Q (k + 1) 35 μ [v0, v1, .int x, v3, v4, v5, v6] st = ab_rn cl 109 J Q k 36 μ [v0, v1, .int x, v3, v4, v5, v6] (.int x :: st) := x_iload_n dX6_shots_35 rfl
theorem e109_36 : ab_rn cl 109 J Q (k + 1) 36 μ [v0, v1, v2, v3, v4, v5, v6] (.int y :: .int x :: st) = (((¬ x = y) → ab_rn cl 109 J Q k 52 μ [v0, v1, v2, v3, v4, v5, v6] st) ∧ ((¬ (¬ x = y)) → ab_rn cl 109 J Q k 39 μ [v0, v1, v2, v3, v4, v5, v6] st)) := x_icmpF dX6_shots_36 rfl (fun _ _ _ _ _ => rfl)
theorem e109_39 : ab_rn cl 109 J Q (k + 1) 39 μ [.ref a, v1, v2, v3, v4, v5, v6] st = ab_rn cl 109 J Q k 40 μ [.ref a, v1, v2, v3, v4, v5, v6] (.ref a :: st) := x_aload_n dX6_shots_39 rfl
theorem e109_40 : ab_rn cl 109 J Q (k + 1) 40 μ [v0, v1, v2, v3, .int x, v5, v6] st = ab_rn cl 109 J Q k 42 μ [v0, v1, v2, v3, .int x, v5, v6] (.int x :: st) := x_iload dX6_shots_40 rfl
theorem e109_42 : ab_rn cl 109 J Q (k + 1) 42 μ [v0, v1, v2, v3, v4, v5, v6] (.int x0 :: .ref a :: st) = (ab_ob a 6 ∧ st.length ≤ 4 ∧ cl 107 [.ref a, .int x0] μ (fun r μ' => ab_rn cl 109 J Q k 45 μ' [v0, v1, v2, v3, v4, v5, v6] (ab_pu r st))) := x_v (as := [.int x0]) dX6_shots_42 rfl rfl rfl rfl rfl
theorem e109_45 : ab_rn cl 109 J Q (k + 1) 45 μ [v0, v1, v2, v3, v4, v5, v6] (.int x :: st) = (((x = 0) → ab_rn cl 109 J Q k 52 μ [v0, v1, v2, v3, v4, v5, v6] st) ∧ ((¬ (x = 0)) → ab_rn cl 109 J Q k 48 μ [v0, v1, v2, v3, v4, v5, v6] st)) := x_ifF dX6_shots_45 rfl (fun _ _ _ _ _ => rfl)
theorem e109_48 : ab_rn cl 109 J Q (k + 1) 48 μ [v0, v1, v2, v3, v4, v5, v6] st = ab_rn cl 109 J Q k 49 μ [v0, v1, v2, v3, v4, v5, v6] (.int 1 :: st) := x_iconst dX6_shots_48 (by decide)
theorem e109_49 : ab_rn cl 109 J Q (k + 1) 49 μ [v0, v1, v2, v3, v4, v5, v6] st = ab_rn cl 109 J Q k 53 μ [v0, v1, v2, v3, v4, v5, v6] st := x_gotoF dX6_shots_49 (fun _ _ _ _ _ => rfl)
theorem e109_52 : ab_rn cl 109 J Q (k + 1) 52 μ [v0, v1, v2, v3, v4, v5, v6] st = ab_rn cl 109 J Q k 53 μ [v0, v1, v2, v3, v4, v5, v6] (.int 0 :: st) := x_iconst dX6_shots_52 (by decide)
theorem e109_53 : ab_rn cl 109 J Q (k + 1) 53 μ [v0, v1, v2, v3, v4, v5, v6] (.int x :: st) = ab_rn cl 109 J Q k 54 μ [v0, v1, v2, .int x, v4, v5, v6] st := x_istore_n dX6_shots_53 (Nat.le_of_ble_eq_true rfl) rfl
theorem e109_54 : ab_rn cl 109 J Q (k + 1) 54 μ [v0, v1, v2, v3, .int x, v5, v6] st = ab_rn cl 109 J Q k 57 μ [v0, v1, v2, v3, .int (x + 1), v5, v6] st := x_iinc dX6_shots_54 (w := 1) (by decide) rfl rfl
theorem e109_57 : ab_rn cl 109 J Q (k + 1) 57 μ [v0, v1, v2, v3, v4, v5, v6] st = J 15 μ [v0, v1, v2, v3, v4, v5, v6] st := x_gotoB dX6_shots_57 (fun _ _ _ _ _ => rfl)
theorem e109_60 : ab_rn cl 109 J Q (k + 1) 60 μ [v0, v1, v2, .int x, v4, v5, v6] st = ab_rn cl 109 J Q k 61 μ [v0, v1, v2, .int x, v4, v5, v6] (.int x :: st) := x_iload_n dX6_shots_60 rfl
theorem e109_61 : ab_rn cl 109 J Q (k + 1) 61 μ [v0, v1, v2, v3, v4, v5, v6] (.int x :: st) = (((¬ x = 0) → ab_rn cl 109 J Q k 67 μ [v0, v1, v2, v3, v4, v5, v6] st) ∧ ((¬ (¬ x = 0)) → ab_rn cl 109 J Q k 64 μ [v0, v1, v2, v3, v4, v5, v6] st)) := x_ifF dX6_shots_61 rfl (fun _ _ _ _ _ => rfl)
theorem e109_64 : ab_rn cl 109 J Q (k + 1) 64 μ [v0, v1, v2, v3, v4, v5, v6] st = ab_rn cl 109 J Q k 159 μ [v0, v1, v2, v3, v4, v5, v6] st := x_gotoF dX6_shots_64 (fun _ _ _ _ _ => rfl)
theorem e109_67 : ab_rn cl 109 J Q (k + 1) 67 μ [.ref a, v1, v2, v3, v4, v5, v6] st = ab_rn cl 109 J Q k 68 μ [.ref a, v1, v2, v3, v4, v5, v6] (.ref a :: st) := x_aload_n dX6_shots_67 rfl
theorem e109_68 : ab_rn cl 109 J Q (k + 1) 68 μ [v0, v1, v2, v3, v4, v5, v6] (.ref a :: st) = (ab_ob a 6 ∧ ab_rn cl 109 J Q k 71 μ [v0, v1, v2, v3, v4, v5, v6] (ab_fv μ a 1 :: st)) := x_get dX6_shots_68 rfl
theorem e109_71 : ab_rn cl 109 J Q (k + 1) 71 μ [v0, v1, .int x, v3, v4, v5, v6] st = ab_rn cl 109 J Q k 72 μ [v0, v1, .int x, v3, v4, v5, v6] (.int x :: st) := x_iload_n dX6_shots_71 rfl
theorem e109_72 : ab_rn cl 109 J Q (k + 1) 72 μ [v0, v1, v2, v3, v4, v5, v6] (.int x :: .ref a :: st) = ((a < 81 ∧ ab_ak a = 0) ∧ vp_in x (ab_al a) ∧ ab_rn cl 109 J Q k 73 μ [v0, v1, v2, v3, v4, v5, v6] (.int (μ (ab_cmp a) (ab_off a + x.toNatClampNeg)) :: st)) := x_iaload dX6_shots_72
theorem e109_73 : ab_rn cl 109 J Q (k + 1) 73 μ [v0, v1, v2, v3, v4, v5, v6] (.int x :: st) = ab_rn cl 109 J Q k 75 μ [v0, v1, v2, v3, .int x, v5, v6] st := x_istore dX6_shots_73 (Nat.le_of_ble_eq_true rfl) rfl
theorem e109_75 : ab_rn cl 109 J Q (k + 1) 75 μ [.ref a, v1, v2, v3, v4, v5, v6] st = ab_rn cl 109 J Q k 76 μ [.ref a, v1, v2, v3, v4, v5, v6] (.ref a :: st) := x_aload_n dX6_shots_75 rfl
theorem e109_76 : ab_rn cl 109 J Q (k + 1) 76 μ [v0, v1, v2, v3, v4, v5, v6] (.ref a :: st) = (ab_ob a 6 ∧ ab_rn cl 109 J Q k 79 μ [v0, v1, v2, v3, v4, v5, v6] (ab_fv μ a 1 :: st)) := x_get dX6_shots_76 rfl
theorem e109_79 : ab_rn cl 109 J Q (k + 1) 79 μ [v0, v1, .int x, v3, v4, v5, v6] st = ab_rn cl 109 J Q k 80 μ [v0, v1, .int x, v3, v4, v5, v6] (.int x :: st) := x_iload_n dX6_shots_79 rfl
theorem e109_80 : ab_rn cl 109 J Q (k + 1) 80 μ [.ref a, v1, v2, v3, v4, v5, v6] st = ab_rn cl 109 J Q k 81 μ [.ref a, v1, v2, v3, v4, v5, v6] (.ref a :: st) := x_aload_n dX6_shots_80 rfl
theorem e109_81 : ab_rn cl 109 J Q (k + 1) 81 μ [v0, v1, .int x, v3, v4, v5, v6] st = ab_rn cl 109 J Q k 82 μ [v0, v1, .int x, v3, v4, v5, v6] (.int x :: st) := x_iload_n dX6_shots_81 rfl
theorem e109_82 : ab_rn cl 109 J Q (k + 1) 82 μ [v0, v1, v2, v3, v4, v5, v6] (.int x0 :: .ref a :: st) = (ab_ob a 6 ∧ st.length ≤ 4 ∧ cl 97 [.ref a, .int x0] μ (fun r μ' => ab_rn cl 109 J Q k 85 μ' [v0, v1, v2, v3, v4, v5, v6] (ab_pu r st))) := x_v (as := [.int x0]) dX6_shots_82 rfl rfl rfl rfl rfl
theorem e109_85 : ab_rn cl 109 J Q (k + 1) 85 μ [v0, v1, v2, v3, v4, v5, v6] st = ab_rn cl 109 J Q k 86 μ [v0, v1, v2, v3, v4, v5, v6] (.int 1 :: st) := x_iconst dX6_shots_85 (by decide)
theorem e109_86 : ab_rn cl 109 J Q (k + 1) 86 μ [v0, v1, v2, v3, v4, v5, v6] (.int y :: .int x :: st) = ab_rn cl 109 J Q k 87 μ [v0, v1, v2, v3, v4, v5, v6] (.int (x + y) :: st) := x_iadd dX6_shots_86
theorem e109_87 : ab_rn cl 109 J Q (k + 1) 87 μ [v0, v1, v2, v3, v4, v5, v6] (.int v :: .int x :: .ref a :: st) = ((a < 81 ∧ ab_ak a = 0) ∧ vp_in x (ab_al a) ∧ ab_rn cl 109 J Q k 88 (ab_up μ (ab_cmp a) (ab_off a + x.toNatClampNeg) v) [v0, v1, v2, v3, v4, v5, v6] st) := x_iastore dX6_shots_87
theorem e109_88 : ab_rn cl 109 J Q (k + 1) 88 μ [v0, v1, v2, v3, v4, v5, v6] st = ab_rn cl 109 J Q k 89 μ [v0, v1, v2, v3, v4, v5, v6] (.int 0 :: st) := x_iconst dX6_shots_88 (by decide)
theorem e109_89 : ab_rn cl 109 J Q (k + 1) 89 μ [v0, v1, v2, v3, v4, v5, v6] (.int x :: st) = ab_rn cl 109 J Q k 91 μ [v0, v1, v2, v3, v4, .int x, v6] st := x_istore dX6_shots_89 (Nat.le_of_ble_eq_true rfl) rfl
theorem e109_91 : ab_rn cl 109 J Q (k + 1) 91 μ [v0, v1, v2, v3, v4, v5, v6] st = ab_rn cl 109 J Q k 92 μ [v0, v1, v2, v3, v4, v5, v6] (.int 0 :: st) := x_iconst dX6_shots_91 (by decide)
theorem e109_92 : ab_rn cl 109 J Q (k + 1) 92 μ [v0, v1, v2, v3, v4, v5, v6] (.int x :: st) = ab_rn cl 109 J Q k 94 μ [v0, v1, v2, v3, v4, v5, .int x] st := x_istore dX6_shots_92 (Nat.le_of_ble_eq_true rfl) rfl
theorem e109_94 : ab_rn cl 109 J Q (k + 1) 94 μ [v0, v1, v2, v3, v4, v5, .int x] st = ab_rn cl 109 J Q k 96 μ [v0, v1, v2, v3, v4, v5, .int x] (.int x :: st) := x_iload dX6_shots_94 rfl
theorem e109_96 : ab_rn cl 109 J Q (k + 1) 96 μ [.ref a, v1, v2, v3, v4, v5, v6] st = ab_rn cl 109 J Q k 97 μ [.ref a, v1, v2, v3, v4, v5, v6] (.ref a :: st) := x_aload_n dX6_shots_96 rfl
theorem e109_97 : ab_rn cl 109 J Q (k + 1) 97 μ [v0, v1, v2, v3, v4, v5, v6] (.ref a :: st) = (ab_ob a 6 ∧ ab_rn cl 109 J Q k 100 μ [v0, v1, v2, v3, v4, v5, v6] (ab_fv μ a 16 :: st)) := x_get dX6_shots_97 rfl
theorem e109_100 : ab_rn cl 109 J Q (k + 1) 100 μ [v0, v1, v2, v3, v4, v5, v6] (.int y :: .int x :: st) = (((y ≤ x) → ab_rn cl 109 J Q k 141 μ [v0, v1, v2, v3, v4, v5, v6] st) ∧ ((¬ (y ≤ x)) → ab_rn cl 109 J Q k 103 μ [v0, v1, v2, v3, v4, v5, v6] st)) := x_icmpF dX6_shots_100 rfl (fun _ _ _ _ _ => rfl)
theorem e109_103 : ab_rn cl 109 J Q (k + 1) 103 μ [v0, v1, v2, v3, v4, .int x, v6] st = ab_rn cl 109 J Q k 105 μ [v0, v1, v2, v3, v4, .int x, v6] (.int x :: st) := x_iload dX6_shots_103 rfl
theorem e109_105 : ab_rn cl 109 J Q (k + 1) 105 μ [v0, v1, v2, v3, v4, v5, v6] (.int x :: st) = (((¬ x = 0) → ab_rn cl 109 J Q k 128 μ [v0, v1, v2, v3, v4, v5, v6] st) ∧ ((¬ (¬ x = 0)) → ab_rn cl 109 J Q k 108 μ [v0, v1, v2, v3, v4, v5, v6] st)) := x_ifF dX6_shots_105 rfl (fun _ _ _ _ _ => rfl)
theorem e109_108 : ab_rn cl 109 J Q (k + 1) 108 μ [.ref a, v1, v2, v3, v4, v5, v6] st = ab_rn cl 109 J Q k 109 μ [.ref a, v1, v2, v3, v4, v5, v6] (.ref a :: st) := x_aload_n dX6_shots_108 rfl
theorem e109_109 : ab_rn cl 109 J Q (k + 1) 109 μ [v0, v1, v2, v3, v4, v5, v6] (.ref a :: st) = (ab_ob a 6 ∧ ab_rn cl 109 J Q k 112 μ [v0, v1, v2, v3, v4, v5, v6] (ab_fv μ a 17 :: st)) := x_get dX6_shots_109 rfl
theorem e109_112 : ab_rn cl 109 J Q (k + 1) 112 μ [v0, v1, v2, v3, v4, v5, .int x] st = ab_rn cl 109 J Q k 114 μ [v0, v1, v2, v3, v4, v5, .int x] (.int x :: st) := x_iload dX6_shots_112 rfl
theorem e109_114 : ab_rn cl 109 J Q (k + 1) 114 μ [v0, v1, v2, v3, v4, v5, v6] (.int x :: .ref a :: st) = ((a < 81 ∧ ab_ak a = 0) ∧ vp_in x (ab_al a) ∧ ab_rn cl 109 J Q k 115 μ [v0, v1, v2, v3, v4, v5, v6] (.int (μ (ab_cmp a) (ab_off a + x.toNatClampNeg)) :: st)) := x_iaload dX6_shots_114
theorem e109_115 : ab_rn cl 109 J Q (k + 1) 115 μ [v0, v1, .int x, v3, v4, v5, v6] st = ab_rn cl 109 J Q k 116 μ [v0, v1, .int x, v3, v4, v5, v6] (.int x :: st) := x_iload_n dX6_shots_115 rfl
theorem e109_116 : ab_rn cl 109 J Q (k + 1) 116 μ [v0, v1, v2, v3, v4, v5, v6] (.int y :: .int x :: st) = (((¬ x = y) → ab_rn cl 109 J Q k 132 μ [v0, v1, v2, v3, v4, v5, v6] st) ∧ ((¬ (¬ x = y)) → ab_rn cl 109 J Q k 119 μ [v0, v1, v2, v3, v4, v5, v6] st)) := x_icmpF dX6_shots_116 rfl (fun _ _ _ _ _ => rfl)
theorem e109_119 : ab_rn cl 109 J Q (k + 1) 119 μ [.ref a, v1, v2, v3, v4, v5, v6] st = ab_rn cl 109 J Q k 120 μ [.ref a, v1, v2, v3, v4, v5, v6] (.ref a :: st) := x_aload_n dX6_shots_119 rfl
theorem e109_120 : ab_rn cl 109 J Q (k + 1) 120 μ [v0, v1, v2, v3, v4, v5, .int x] st = ab_rn cl 109 J Q k 122 μ [v0, v1, v2, v3, v4, v5, .int x] (.int x :: st) := x_iload dX6_shots_120 rfl
theorem e109_122 : ab_rn cl 109 J Q (k + 1) 122 μ [v0, v1, v2, v3, v4, v5, v6] (.int x0 :: .ref a :: st) = (ab_ob a 6 ∧ st.length ≤ 4 ∧ cl 107 [.ref a, .int x0] μ (fun r μ' => ab_rn cl 109 J Q k 125 μ' [v0, v1, v2, v3, v4, v5, v6] (ab_pu r st))) := x_v (as := [.int x0]) dX6_shots_122 rfl rfl rfl rfl rfl
theorem e109_125 : ab_rn cl 109 J Q (k + 1) 125 μ [v0, v1, v2, v3, v4, v5, v6] (.int x :: st) = (((x = 0) → ab_rn cl 109 J Q k 132 μ [v0, v1, v2, v3, v4, v5, v6] st) ∧ ((¬ (x = 0)) → ab_rn cl 109 J Q k 128 μ [v0, v1, v2, v3, v4, v5, v6] st)) := x_ifF dX6_shots_125 rfl (fun _ _ _ _ _ => rfl)
theorem e109_128 : ab_rn cl 109 J Q (k + 1) 128 μ [v0, v1, v2, v3, v4, v5, v6] st = ab_rn cl 109 J Q k 129 μ [v0, v1, v2, v3, v4, v5, v6] (.int 1 :: st) := x_iconst dX6_shots_128 (by decide)
theorem e109_129 : ab_rn cl 109 J Q (k + 1) 129 μ [v0, v1, v2, v3, v4, v5, v6] st = ab_rn cl 109 J Q k 133 μ [v0, v1, v2, v3, v4, v5, v6] st := x_gotoF dX6_shots_129 (fun _ _ _ _ _ => rfl)
theorem e109_132 : ab_rn cl 109 J Q (k + 1) 132 μ [v0, v1, v2, v3, v4, v5, v6] st = ab_rn cl 109 J Q k 133 μ [v0, v1, v2, v3, v4, v5, v6] (.int 0 :: st) := x_iconst dX6_shots_132 (by decide)
theorem e109_133 : ab_rn cl 109 J Q (k + 1) 133 μ [v0, v1, v2, v3, v4, v5, v6] (.int x :: st) = ab_rn cl 109 J Q k 135 μ [v0, v1, v2, v3, v4, .int x, v6] st := x_istore dX6_shots_133 (Nat.le_of_ble_eq_true rfl) rfl
theorem e109_135 : ab_rn cl 109 J Q (k + 1) 135 μ [v0, v1, v2, v3, v4, v5, .int x] st = ab_rn cl 109 J Q k 138 μ [v0, v1, v2, v3, v4, v5, .int (x + 1)] st := x_iinc dX6_shots_135 (w := 1) (by decide) rfl rfl
theorem e109_138 : ab_rn cl 109 J Q (k + 1) 138 μ [v0, v1, v2, v3, v4, v5, v6] st = J 94 μ [v0, v1, v2, v3, v4, v5, v6] st := x_gotoB dX6_shots_138 (fun _ _ _ _ _ => rfl)
theorem e109_141 : ab_rn cl 109 J Q (k + 1) 141 μ [.ref a, v1, v2, v3, v4, v5, v6] st = ab_rn cl 109 J Q k 142 μ [.ref a, v1, v2, v3, v4, v5, v6] (.ref a :: st) := x_aload_n dX6_shots_141 rfl
theorem e109_142 : ab_rn cl 109 J Q (k + 1) 142 μ [v0, v1, v2, v3, v4, v5, v6] (.ref a :: st) = (ab_ob a 6 ∧ ab_rn cl 109 J Q k 145 μ [v0, v1, v2, v3, v4, v5, v6] (ab_fv μ a 1 :: st)) := x_get dX6_shots_142 rfl
theorem e109_145 : ab_rn cl 109 J Q (k + 1) 145 μ [v0, v1, .int x, v3, v4, v5, v6] st = ab_rn cl 109 J Q k 146 μ [v0, v1, .int x, v3, v4, v5, v6] (.int x :: st) := x_iload_n dX6_shots_145 rfl
theorem e109_146 : ab_rn cl 109 J Q (k + 1) 146 μ [v0, v1, v2, v3, .int x, v5, v6] st = ab_rn cl 109 J Q k 148 μ [v0, v1, v2, v3, .int x, v5, v6] (.int x :: st) := x_iload dX6_shots_146 rfl
theorem e109_148 : ab_rn cl 109 J Q (k + 1) 148 μ [v0, v1, v2, v3, v4, v5, v6] (.int v :: .int x :: .ref a :: st) = ((a < 81 ∧ ab_ak a = 0) ∧ vp_in x (ab_al a) ∧ ab_rn cl 109 J Q k 149 (ab_up μ (ab_cmp a) (ab_off a + x.toNatClampNeg) v) [v0, v1, v2, v3, v4, v5, v6] st) := x_iastore dX6_shots_148
theorem e109_149 : ab_rn cl 109 J Q (k + 1) 149 μ [v0, v1, v2, v3, v4, .int x, v6] st = ab_rn cl 109 J Q k 151 μ [v0, v1, v2, v3, v4, .int x, v6] (.int x :: st) := x_iload dX6_shots_149 rfl
theorem e109_151 : ab_rn cl 109 J Q (k + 1) 151 μ [v0, v1, v2, v3, v4, v5, v6] (.int x :: st) = (((x = 0) → ab_rn cl 109 J Q k 156 μ [v0, v1, v2, v3, v4, v5, v6] st) ∧ ((¬ (x = 0)) → ab_rn cl 109 J Q k 154 μ [v0, v1, v2, v3, v4, v5, v6] st)) := x_ifF dX6_shots_151 rfl (fun _ _ _ _ _ => rfl)
theorem e109_154 : ab_rn cl 109 J Q (k + 1) 154 μ [v0, v1, v2, v3, v4, v5, v6] st = ab_rn cl 109 J Q k 155 μ [v0, v1, v2, v3, v4, v5, v6] (.int (-1) :: st) := x_iconst dX6_shots_154 (by decide)
theorem e109_155 : ab_rn cl 109 J Q (k + 1) 155 μ [v0, v1, v2, v3, v4, v5, v6] [.int v] = Q (some v) μ := x_iret dX6_shots_155 rfl
theorem e109_156 : ab_rn cl 109 J Q (k + 1) 156 μ [v0, .int x, v2, v3, v4, v5, v6] st = ab_rn cl 109 J Q k 159 μ [v0, .int (x + 1), v2, v3, v4, v5, v6] st := x_iinc dX6_shots_156 (w := 1) (by decide) rfl rfl
theorem e109_159 : ab_rn cl 109 J Q (k + 1) 159 μ [v0, v1, .int x, v3, v4, v5, v6] st = ab_rn cl 109 J Q k 162 μ [v0, v1, .int (x + 1), v3, v4, v5, v6] st := x_iinc dX6_shots_159 (w := 1) (by decide) rfl rfl
theorem e109_162 : ab_rn cl 109 J Q (k + 1) 162 μ [v0, v1, v2, v3, v4, v5, v6] st = J 4 μ [v0, v1, v2, v3, v4, v5, v6] st := x_gotoB dX6_shots_162 (fun _ _ _ _ _ => rfl)
theorem e109_165 : ab_rn cl 109 J Q (k + 1) 165 μ [v0, .int x, v2, v3, v4, v5, v6] st = ab_rn cl 109 J Q k 166 μ [v0, .int x, v2, v3, v4, v5, v6] (.int x :: st) := x_iload_n dX6_shots_165 rfl
theorem e109_166 : ab_rn cl 109 J Q (k + 1) 166 μ [v0, v1, v2, v3, v4, v5, v6] [.int v] = Q (some v) μ := x_iret dX6_shots_166 rfl
theorem n109 {d : Nat} (h : ∀ J : ab_J, (∀ k pc μ ls st, ab_rn (ab_Cl d) 109 J Q k pc μ ls st → J pc μ ls st) → J 0 μ [v0, .null, .null, .null, .null, .null, .null] []) : ab_Cl (d + 1) 109 [v0] μ Q := ab_go h
theorem e110_0 : ab_rn cl 110 J Q (k + 1) 0 μ [.ref a, v1] st = ab_rn cl 110 J Q k 1 μ [.ref a, v1] (.ref a :: st) := x_aload_n dX6_pit_0 rfl
theorem e110_1 : ab_rn cl 110 J Q (k + 1) 1 μ [v0, v1] (.ref a :: st) = (ab_ob a 6 ∧ ab_rn cl 110 J Q k 4 μ [v0, v1] (ab_fv μ a 19 :: st)) := x_get dX6_pit_1 rfl
theorem e110_4 : ab_rn cl 110 J Q (k + 1) 4 μ [v0, v1] (.int x :: st) = ab_rn cl 110 J Q k 5 μ [v0, .int x] st := x_istore_n dX6_pit_4 (Nat.le_of_ble_eq_true rfl) rfl
theorem e110_5 : ab_rn cl 110 J Q (k + 1) 5 μ [.ref a, v1] st = ab_rn cl 110 J Q k 6 μ [.ref a, v1] (.ref a :: st) := x_aload_n dX6_pit_5 rfl
theorem e110_6 : ab_rn cl 110 J Q (k + 1) 6 μ [v0, v1] st = ab_rn cl 110 J Q k 7 μ [v0, v1] (.int 0 :: st) := x_iconst dX6_pit_6 (by decide)
theorem e110_7 : ab_rn cl 110 J Q (k + 1) 7 μ [v0, v1] (.int v :: .ref a :: st) = (ab_ob a 6 ∧ ab_rf a 19 = none ∧ ab_rn cl 110 J Q k 10 (ab_up μ (ab_cmp a) (ab_off a + 19) v) [v0, v1] st) := x_put dX6_pit_7 rfl
theorem e110_10 : ab_rn cl 110 J Q (k + 1) 10 μ [v0, .int x] st = ab_rn cl 110 J Q k 11 μ [v0, .int x] (.int x :: st) := x_iload_n dX6_pit_10 rfl
theorem e110_11 : ab_rn cl 110 J Q (k + 1) 11 μ [v0, v1] [.int v] = Q (some v) μ := x_iret dX6_pit_11 rfl
theorem n110 {d : Nat} (h : ∀ J : ab_J, (∀ k pc μ ls st, ab_rn (ab_Cl d) 110 J Q k pc μ ls st → J pc μ ls st) → J 0 μ [v0, .null] []) : ab_Cl (d + 1) 110 [v0] μ Q := ab_go h
theorem e111_0 : ab_rn cl 111 J Q (k + 1) 0 μ [v0, .int x, v2] st = ab_rn cl 111 J Q k 1 μ [v0, .int x, v2] (.int x :: st) := x_iload_n dX6_seen_0 rfl
theorem e111_1 : ab_rn cl 111 J Q (k + 1) 1 μ [v0, v1, v2] st = ab_rn cl 111 J Q k 2 μ [v0, v1, v2] (.int 0 :: st) := x_iconst dX6_seen_1 (by decide)
theorem e111_2 : ab_rn cl 111 J Q (k + 1) 2 μ [v0, v1, v2] st = ab_rn cl 111 J Q k 3 μ [v0, v1, v2] (.int 3 :: st) := x_iconst dX6_seen_2 (by decide)
theorem e111_3 : ab_rn cl 111 J Q (k + 1) 3 μ [v0, v1, v2] (.int x2 :: .int x1 :: .int x0 :: st) = (st.length ≤ 4 ∧ cl 79 [.int x0, .int x1, .int x2] μ (fun r μ' => ab_rn cl 111 J Q k 6 μ' [v0, v1, v2] (ab_pu r st))) := x_s (as := [.int x0, .int x1, .int x2]) (b := 0) dX6_seen_3 rfl (by decide) rfl rfl rfl
theorem e111_6 : ab_rn cl 111 J Q (k + 1) 6 μ [v0, v1, v2] (.int x :: st) = (((x = 0) → ab_rn cl 111 J Q k 29 μ [v0, v1, v2] st) ∧ ((¬ (x = 0)) → ab_rn cl 111 J Q k 9 μ [v0, v1, v2] st)) := x_ifF dX6_seen_6 rfl (fun _ _ _ _ _ => rfl)
theorem e111_9 : ab_rn cl 111 J Q (k + 1) 9 μ [v0, v1, .int x] st = ab_rn cl 111 J Q k 10 μ [v0, v1, .int x] (.int x :: st) := x_iload_n dX6_seen_9 rfl
theorem e111_10 : ab_rn cl 111 J Q (k + 1) 10 μ [v0, v1, v2] st = ab_rn cl 111 J Q k 11 μ [v0, v1, v2] (.int 1 :: st) := x_iconst dX6_seen_10 (by decide)
theorem e111_11 : ab_rn cl 111 J Q (k + 1) 11 μ [v0, v1, v2] st = ab_rn cl 111 J Q k 14 μ [v0, v1, v2] (.int 9999 :: st) := x_sipush dX6_seen_11 (by decide)
theorem e111_14 : ab_rn cl 111 J Q (k + 1) 14 μ [v0, v1, v2] (.int x2 :: .int x1 :: .int x0 :: st) = (st.length ≤ 4 ∧ cl 79 [.int x0, .int x1, .int x2] μ (fun r μ' => ab_rn cl 111 J Q k 17 μ' [v0, v1, v2] (ab_pu r st))) := x_s (as := [.int x0, .int x1, .int x2]) (b := 0) dX6_seen_14 rfl (by decide) rfl rfl rfl
theorem e111_17 : ab_rn cl 111 J Q (k + 1) 17 μ [v0, v1, v2] (.int x :: st) = (((x = 0) → ab_rn cl 111 J Q k 29 μ [v0, v1, v2] st) ∧ ((¬ (x = 0)) → ab_rn cl 111 J Q k 20 μ [v0, v1, v2] st)) := x_ifF dX6_seen_17 rfl (fun _ _ _ _ _ => rfl)
theorem e111_20 : ab_rn cl 111 J Q (k + 1) 20 μ [.ref a, v1, v2] st = ab_rn cl 111 J Q k 21 μ [.ref a, v1, v2] (.ref a :: st) := x_aload_n dX6_seen_20 rfl
theorem e111_21 : ab_rn cl 111 J Q (k + 1) 21 μ [v0, v1, v2] (.ref a :: st) = (ab_ob a 6 ∧ ab_rn cl 111 J Q k 24 μ [v0, v1, v2] (ab_fv μ a 19 :: st)) := x_get dX6_seen_21 rfl
theorem e111_24 : ab_rn cl 111 J Q (k + 1) 24 μ [v0, v1, v2] st = ab_rn cl 111 J Q k 26 μ [v0, v1, v2] (.int 6 :: st) := x_bipush dX6_seen_24 (by decide)
theorem e111_26 : ab_rn cl 111 J Q (k + 1) 26 μ [v0, v1, v2] (.int y :: .int x :: st) = (((¬ x = y) → ab_rn cl 111 J Q k 31 μ [v0, v1, v2] st) ∧ ((¬ (¬ x = y)) → ab_rn cl 111 J Q k 29 μ [v0, v1, v2] st)) := x_icmpF dX6_seen_26 rfl (fun _ _ _ _ _ => rfl)
theorem e111_29 : ab_rn cl 111 J Q (k + 1) 29 μ [v0, v1, v2] st = ab_rn cl 111 J Q k 30 μ [v0, v1, v2] (.int (-1) :: st) := x_iconst dX6_seen_29 (by decide)
theorem e111_30 : ab_rn cl 111 J Q (k + 1) 30 μ [v0, v1, v2] [.int v] = Q (some v) μ := x_iret dX6_seen_30 rfl
theorem e111_31 : ab_rn cl 111 J Q (k + 1) 31 μ [.ref a, v1, v2] st = ab_rn cl 111 J Q k 32 μ [.ref a, v1, v2] (.ref a :: st) := x_aload_n dX6_seen_31 rfl
theorem e111_32 : ab_rn cl 111 J Q (k + 1) 32 μ [v0, v1, v2] (.ref a :: st) = (ab_ob a 6 ∧ ab_rn cl 111 J Q k 35 μ [v0, v1, v2] (ab_fv μ a 20 :: st)) := x_get dX6_seen_32 rfl
theorem e111_35 : ab_rn cl 111 J Q (k + 1) 35 μ [.ref a, v1, v2] st = ab_rn cl 111 J Q k 36 μ [.ref a, v1, v2] (.ref a :: st) := x_aload_n dX6_seen_35 rfl
theorem e111_36 : ab_rn cl 111 J Q (k + 1) 36 μ [v0, v1, v2] (.ref a :: st) = (ab_ob a 6 ∧ ab_rn cl 111 J Q k 39 μ [v0, v1, v2] (ab_fv μ a 19 :: st)) := x_get dX6_seen_36 rfl
theorem e111_39 : ab_rn cl 111 J Q (k + 1) 39 μ [v0, .int x, v2] st = ab_rn cl 111 J Q k 40 μ [v0, .int x, v2] (.int x :: st) := x_iload_n dX6_seen_39 rfl
theorem e111_40 : ab_rn cl 111 J Q (k + 1) 40 μ [v0, v1, v2] (.int v :: .int x :: .ref a :: st) = ((a < 81 ∧ ab_ak a = 0) ∧ vp_in x (ab_al a) ∧ ab_rn cl 111 J Q k 41 (ab_up μ (ab_cmp a) (ab_off a + x.toNatClampNeg) v) [v0, v1, v2] st) := x_iastore dX6_seen_40
theorem e111_41 : ab_rn cl 111 J Q (k + 1) 41 μ [.ref a, v1, v2] st = ab_rn cl 111 J Q k 42 μ [.ref a, v1, v2] (.ref a :: st) := x_aload_n dX6_seen_41 rfl
theorem e111_42 : ab_rn cl 111 J Q (k + 1) 42 μ [v0, v1, v2] (.ref a :: st) = (ab_ob a 6 ∧ ab_rn cl 111 J Q k 45 μ [v0, v1, v2] (ab_fv μ a 21 :: st)) := x_get dX6_seen_42 rfl
theorem e111_45 : ab_rn cl 111 J Q (k + 1) 45 μ [.ref a, v1, v2] st = ab_rn cl 111 J Q k 46 μ [.ref a, v1, v2] (.ref a :: st) := x_aload_n dX6_seen_45 rfl
theorem e111_46 : ab_rn cl 111 J Q (k + 1) 46 μ [v0, v1, v2] (.ref a :: st) = (ab_ob a 6 ∧ ab_rn cl 111 J Q k 49 μ [v0, v1, v2] (ab_fv μ a 19 :: st)) := x_get dX6_seen_46 rfl
theorem e111_49 : ab_rn cl 111 J Q (k + 1) 49 μ [v0, v1, .int x] st = ab_rn cl 111 J Q k 50 μ [v0, v1, .int x] (.int x :: st) := x_iload_n dX6_seen_49 rfl
theorem e111_50 : ab_rn cl 111 J Q (k + 1) 50 μ [v0, v1, v2] (.int v :: .int x :: .ref a :: st) = ((a < 81 ∧ ab_ak a = 0) ∧ vp_in x (ab_al a) ∧ ab_rn cl 111 J Q k 51 (ab_up μ (ab_cmp a) (ab_off a + x.toNatClampNeg) v) [v0, v1, v2] st) := x_iastore dX6_seen_50
theorem e111_51 : ab_rn cl 111 J Q (k + 1) 51 μ [.ref a, v1, v2] st = ab_rn cl 111 J Q k 52 μ [.ref a, v1, v2] (.ref a :: st) := x_aload_n dX6_seen_51 rfl
theorem e111_52i : ab_rn cl 111 J Q (k + 1) 52 μ [v0, v1, v2] (.int x :: st) = ab_rn cl 111 J Q k 53 μ [v0, v1, v2] (.int x :: .int x :: st) := x_dupi dX6_seen_52
theorem e111_52r : ab_rn cl 111 J Q (k + 1) 52 μ [v0, v1, v2] (.ref a :: st) = ab_rn cl 111 J Q k 53 μ [v0, v1, v2] (.ref a :: .ref a :: st) := x_dupr dX6_seen_52
theorem e111_53 : ab_rn cl 111 J Q (k + 1) 53 μ [v0, v1, v2] (.ref a :: st) = (ab_ob a 6 ∧ ab_rn cl 111 J Q k 56 μ [v0, v1, v2] (ab_fv μ a 19 :: st)) := x_get dX6_seen_53 rfl
theorem e111_56 : ab_rn cl 111 J Q (k + 1) 56 μ [v0, v1, v2] st = ab_rn cl 111 J Q k 57 μ [v0, v1, v2] (.int 1 :: st) := x_iconst dX6_seen_56 (by decide)
theorem e111_57 : ab_rn cl 111 J Q (k + 1) 57 μ [v0, v1, v2] (.int y :: .int x :: st) = ab_rn cl 111 J Q k 58 μ [v0, v1, v2] (.int (x + y) :: st) := x_iadd dX6_seen_57
theorem e111_58 : ab_rn cl 111 J Q (k + 1) 58 μ [v0, v1, v2] (.int v :: .ref a :: st) = (ab_ob a 6 ∧ ab_rf a 19 = none ∧ ab_rn cl 111 J Q k 61 (ab_up μ (ab_cmp a) (ab_off a + 19) v) [v0, v1, v2] st) := x_put dX6_seen_58 rfl
theorem e111_61 : ab_rn cl 111 J Q (k + 1) 61 μ [.ref a, v1, v2] st = ab_rn cl 111 J Q k 62 μ [.ref a, v1, v2] (.ref a :: st) := x_aload_n dX6_seen_61 rfl
theorem e111_62 : ab_rn cl 111 J Q (k + 1) 62 μ [v0, v1, v2] (.ref a :: st) = (ab_ob a 6 ∧ ab_rn cl 111 J Q k 65 μ [v0, v1, v2] (ab_fv μ a 19 :: st)) := x_get dX6_seen_62 rfl
theorem e111_65 : ab_rn cl 111 J Q (k + 1) 65 μ [v0, v1, v2] [.int v] = Q (some v) μ := x_iret dX6_seen_65 rfl
theorem n111 {d : Nat} (h : ∀ J : ab_J, (∀ k pc μ ls st, ab_rn (ab_Cl d) 111 J Q k pc μ ls st → J pc μ ls st) → J 0 μ [v0, v1, v2] []) : ab_Cl (d + 1) 111 [v0, v1, v2] μ Q := ab_go h
theorem e112_0 : ab_rn cl 112 J Q (k + 1) 0 μ [v0, .int x, v2, v3, v4, v5] st = ab_rn cl 112 J Q k 1 μ [v0, .int x, v2, v3, v4, v5] (.int x :: st) := x_iload_n dX6_matched_0 rfl
theorem e112_1 : ab_rn cl 112 J Q (k + 1) 1 μ [v0, v1, v2, v3, v4, v5] (.int x0 :: st) = (st.length ≤ 4 ∧ cl 80 [.int x0] μ (fun r μ' => ab_rn cl 112 J Q k 4 μ' [v0, v1, v2, v3, v4, v5] (ab_pu r st))) := x_s (as := [.int x0]) (b := 0) dX6_matched_1 rfl (by decide) rfl rfl rfl
theorem e112_4 : ab_rn cl 112 J Q (k + 1) 4 μ [v0, v1, v2, v3, v4, v5] (.int x :: st) = (((¬ x = 0) → ab_rn cl 112 J Q k 9 μ [v0, v1, v2, v3, v4, v5] st) ∧ ((¬ (¬ x = 0)) → ab_rn cl 112 J Q k 7 μ [v0, v1, v2, v3, v4, v5] st)) := x_ifF dX6_matched_4 rfl (fun _ _ _ _ _ => rfl)
theorem e112_7 : ab_rn cl 112 J Q (k + 1) 7 μ [v0, v1, v2, v3, v4, v5] st = ab_rn cl 112 J Q k 8 μ [v0, v1, v2, v3, v4, v5] (.int (-1) :: st) := x_iconst dX6_matched_7 (by decide)
theorem e112_8 : ab_rn cl 112 J Q (k + 1) 8 μ [v0, v1, v2, v3, v4, v5] [.int v] = Q (some v) μ := x_iret dX6_matched_8 rfl
theorem e112_9 : ab_rn cl 112 J Q (k + 1) 9 μ [.ref a, v1, v2, v3, v4, v5] st = ab_rn cl 112 J Q k 10 μ [.ref a, v1, v2, v3, v4, v5] (.ref a :: st) := x_aload_n dX6_matched_9 rfl
theorem e112_10 : ab_rn cl 112 J Q (k + 1) 10 μ [v0, v1, v2, v3, v4, v5] (.ref a :: st) = (ab_ob a 6 ∧ ab_rn cl 112 J Q k 13 μ [v0, v1, v2, v3, v4, v5] (ab_fv μ a 1 :: st)) := x_get dX6_matched_10 rfl
theorem e112_13 : ab_rn cl 112 J Q (k + 1) 13 μ [v0, .int x, v2, v3, v4, v5] st = ab_rn cl 112 J Q k 14 μ [v0, .int x, v2, v3, v4, v5] (.int x :: st) := x_iload_n dX6_matched_13 rfl
theorem e112_14 : ab_rn cl 112 J Q (k + 1) 14 μ [v0, v1, v2, v3, v4, v5] (.int x :: .ref a :: st) = ((a < 81 ∧ ab_ak a = 0) ∧ vp_in x (ab_al a) ∧ ab_rn cl 112 J Q k 15 μ [v0, v1, v2, v3, v4, v5] (.int (μ (ab_cmp a) (ab_off a + x.toNatClampNeg)) :: st)) := x_iaload dX6_matched_14
theorem e112_15 : ab_rn cl 112 J Q (k + 1) 15 μ [v0, v1, v2, v3, v4, v5] (.int x :: st) = ab_rn cl 112 J Q k 16 μ [v0, v1, .int x, v3, v4, v5] st := x_istore_n dX6_matched_15 (Nat.le_of_ble_eq_true rfl) rfl
theorem e112_16 : ab_rn cl 112 J Q (k + 1) 16 μ [v0, v1, v2, v3, v4, v5] st = ab_rn cl 112 J Q k 17 μ [v0, v1, v2, v3, v4, v5] (.int 0 :: st) := x_iconst dX6_matched_16 (by decide)
theorem e112_17 : ab_rn cl 112 J Q (k + 1) 17 μ [v0, v1, v2, v3, v4, v5] (.int x :: st) = ab_rn cl 112 J Q k 18 μ [v0, v1, v2, .int x, v4, v5] st := x_istore_n dX6_matched_17 (Nat.le_of_ble_eq_true rfl) rfl
theorem e112_18 : ab_rn cl 112 J Q (k + 1) 18 μ [v0, v1, v2, .int x, v4, v5] st = ab_rn cl 112 J Q k 19 μ [v0, v1, v2, .int x, v4, v5] (.int x :: st) := x_iload_n dX6_matched_18 rfl
theorem e112_19 : ab_rn cl 112 J Q (k + 1) 19 μ [.ref a, v1, v2, v3, v4, v5] st = ab_rn cl 112 J Q k 20 μ [.ref a, v1, v2, v3, v4, v5] (.ref a :: st) := x_aload_n dX6_matched_19 rfl
theorem e112_20 : ab_rn cl 112 J Q (k + 1) 20 μ [v0, v1, v2, v3, v4, v5] (.ref a :: st) = (ab_ob a 6 ∧ ab_rn cl 112 J Q k 23 μ [v0, v1, v2, v3, v4, v5] (ab_fv μ a 19 :: st)) := x_get dX6_matched_20 rfl
theorem e112_23 : ab_rn cl 112 J Q (k + 1) 23 μ [v0, v1, v2, v3, v4, v5] (.int y :: .int x :: st) = (((y < x) → ab_rn cl 112 J Q k 95 μ [v0, v1, v2, v3, v4, v5] st) ∧ ((¬ (y < x)) → ab_rn cl 112 J Q k 26 μ [v0, v1, v2, v3, v4, v5] st)) := x_icmpF dX6_matched_23 rfl (fun _ _ _ _ _ => rfl)
theorem e112_26 : ab_rn cl 112 J Q (k + 1) 26 μ [v0, v1, v2, v3, v4, v5] st = ab_rn cl 112 J Q k 27 μ [v0, v1, v2, v3, v4, v5] (.int 0 :: st) := x_iconst dX6_matched_26 (by decide)
theorem e112_27 : ab_rn cl 112 J Q (k + 1) 27 μ [v0, v1, v2, v3, v4, v5] (.int x :: st) = ab_rn cl 112 J Q k 29 μ [v0, v1, v2, v3, .int x, v5] st := x_istore dX6_matched_27 (Nat.le_of_ble_eq_true rfl) rfl
theorem e112_29 : ab_rn cl 112 J Q (k + 1) 29 μ [v0, v1, v2, v3, .int x, v5] st = ab_rn cl 112 J Q k 31 μ [v0, v1, v2, v3, .int x, v5] (.int x :: st) := x_iload dX6_matched_29 rfl
theorem e112_31 : ab_rn cl 112 J Q (k + 1) 31 μ [v0, v1, .int x, v3, v4, v5] st = ab_rn cl 112 J Q k 32 μ [v0, v1, .int x, v3, v4, v5] (.int x :: st) := x_iload_n dX6_matched_31 rfl
theorem e112_32 : ab_rn cl 112 J Q (k + 1) 32 μ [v0, v1, v2, v3, v4, v5] (.int y :: .int x :: st) = (((y < x) → ab_rn cl 112 J Q k 89 μ [v0, v1, v2, v3, v4, v5] st) ∧ ((¬ (y < x)) → ab_rn cl 112 J Q k 35 μ [v0, v1, v2, v3, v4, v5] st)) := x_icmpF dX6_matched_32 rfl (fun _ _ _ _ _ => rfl)
theorem e112_35 : ab_rn cl 112 J Q (k + 1) 35 μ [v0, v1, v2, .int x, v4, v5] st = ab_rn cl 112 J Q k 36 μ [v0, v1, v2, .int x, v4, v5] (.int x :: st) := x_iload_n dX6_matched_35 rfl
theorem e112_36 : ab_rn cl 112 J Q (k + 1) 36 μ [v0, v1, v2, v3, v4, v5] (.int x :: st) = (((¬ x = 0) → ab_rn cl 112 J Q k 47 μ [v0, v1, v2, v3, v4, v5] st) ∧ ((¬ (¬ x = 0)) → ab_rn cl 112 J Q k 39 μ [v0, v1, v2, v3, v4, v5] st)) := x_ifF dX6_matched_36 rfl (fun _ _ _ _ _ => rfl)
theorem e112_39 : ab_rn cl 112 J Q (k + 1) 39 μ [v0, v1, v2, v3, v4, v5] st = ab_rn cl 112 J Q k 41 μ [v0, v1, v2, v3, v4, v5] (.int 30 :: st) := x_bipush dX6_matched_39 (by decide)
theorem e112_41 : ab_rn cl 112 J Q (k + 1) 41 μ [v0, v1, v2, v3, .int x, v5] st = ab_rn cl 112 J Q k 43 μ [v0, v1, v2, v3, .int x, v5] (.int x :: st) := x_iload dX6_matched_41 rfl
theorem e112_43 : ab_rn cl 112 J Q (k + 1) 43 μ [v0, v1, v2, v3, v4, v5] (.int y :: .int x :: st) = ab_rn cl 112 J Q k 44 μ [v0, v1, v2, v3, v4, v5] (.int (x * y) :: st) := x_imul dX6_matched_43
theorem e112_44 : ab_rn cl 112 J Q (k + 1) 44 μ [v0, v1, v2, v3, v4, v5] st = ab_rn cl 112 J Q k 67 μ [v0, v1, v2, v3, v4, v5] st := x_gotoF dX6_matched_44 (fun _ _ _ _ _ => rfl)
theorem e112_47 : ab_rn cl 112 J Q (k + 1) 47 μ [v0, v1, v2, v3, .int x, v5] st = ab_rn cl 112 J Q k 49 μ [v0, v1, v2, v3, .int x, v5] (.int x :: st) := x_iload dX6_matched_47 rfl
theorem e112_49 : ab_rn cl 112 J Q (k + 1) 49 μ [v0, v1, v2, v3, v4, v5] (.int x :: st) = (((¬ x = 0) → ab_rn cl 112 J Q k 59 μ [v0, v1, v2, v3, v4, v5] st) ∧ ((¬ (¬ x = 0)) → ab_rn cl 112 J Q k 52 μ [v0, v1, v2, v3, v4, v5] st)) := x_ifF dX6_matched_49 rfl (fun _ _ _ _ _ => rfl)
theorem e112_52 : ab_rn cl 112 J Q (k + 1) 52 μ [v0, v1, v2, v3, v4, v5] st = ab_rn cl 112 J Q k 54 μ [v0, v1, v2, v3, v4, v5] (.int 30 :: st) := x_bipush dX6_matched_52 (by decide)
theorem e112_54 : ab_rn cl 112 J Q (k + 1) 54 μ [v0, v1, v2, .int x, v4, v5] st = ab_rn cl 112 J Q k 55 μ [v0, v1, v2, .int x, v4, v5] (.int x :: st) := x_iload_n dX6_matched_54 rfl
theorem e112_55 : ab_rn cl 112 J Q (k + 1) 55 μ [v0, v1, v2, v3, v4, v5] (.int y :: .int x :: st) = ab_rn cl 112 J Q k 56 μ [v0, v1, v2, v3, v4, v5] (.int (x * y) :: st) := x_imul dX6_matched_55
theorem e112_56 : ab_rn cl 112 J Q (k + 1) 56 μ [v0, v1, v2, v3, v4, v5] st = ab_rn cl 112 J Q k 67 μ [v0, v1, v2, v3, v4, v5] st := x_gotoF dX6_matched_56 (fun _ _ _ _ _ => rfl)
theorem e112_59 : ab_rn cl 112 J Q (k + 1) 59 μ [.ref a, v1, v2, v3, v4, v5] st = ab_rn cl 112 J Q k 60 μ [.ref a, v1, v2, v3, v4, v5] (.ref a :: st) := x_aload_n dX6_matched_59 rfl
theorem e112_60 : ab_rn cl 112 J Q (k + 1) 60 μ [v0, .int x, v2, v3, v4, v5] st = ab_rn cl 112 J Q k 61 μ [v0, .int x, v2, v3, v4, v5] (.int x :: st) := x_iload_n dX6_matched_60 rfl
theorem e112_61 : ab_rn cl 112 J Q (k + 1) 61 μ [v0, v1, v2, .int x, v4, v5] st = ab_rn cl 112 J Q k 62 μ [v0, v1, v2, .int x, v4, v5] (.int x :: st) := x_iload_n dX6_matched_61 rfl
theorem e112_62 : ab_rn cl 112 J Q (k + 1) 62 μ [v0, v1, v2, v3, .int x, v5] st = ab_rn cl 112 J Q k 64 μ [v0, v1, v2, v3, .int x, v5] (.int x :: st) := x_iload dX6_matched_62 rfl
theorem e112_64 : ab_rn cl 112 J Q (k + 1) 64 μ [v0, v1, v2, v3, v4, v5] (.int x2 :: .int x1 :: .int x0 :: .ref a :: st) = (ab_ob a 6 ∧ st.length ≤ 4 ∧ cl 113 [.ref a, .int x0, .int x1, .int x2] μ (fun r μ' => ab_rn cl 112 J Q k 67 μ' [v0, v1, v2, v3, v4, v5] (ab_pu r st))) := x_v (as := [.int x0, .int x1, .int x2]) dX6_matched_64 rfl rfl rfl rfl rfl
theorem e112_67 : ab_rn cl 112 J Q (k + 1) 67 μ [v0, v1, v2, v3, v4, v5] (.int x :: st) = ab_rn cl 112 J Q k 69 μ [v0, v1, v2, v3, v4, .int x] st := x_istore dX6_matched_67 (Nat.le_of_ble_eq_true rfl) rfl
theorem e112_69 : ab_rn cl 112 J Q (k + 1) 69 μ [.ref a, v1, v2, v3, v4, v5] st = ab_rn cl 112 J Q k 70 μ [.ref a, v1, v2, v3, v4, v5] (.ref a :: st) := x_aload_n dX6_matched_69 rfl
theorem e112_70 : ab_rn cl 112 J Q (k + 1) 70 μ [v0, v1, v2, v3, v4, v5] (.ref a :: st) = (ab_ob a 6 ∧ ab_rn cl 112 J Q k 73 μ [v0, v1, v2, v3, v4, v5] (ab_fv μ a 22 :: st)) := x_get dX6_matched_70 rfl
theorem e112_73 : ab_rn cl 112 J Q (k + 1) 73 μ [v0, v1, v2, v3, v4, v5] st = ab_rn cl 112 J Q k 75 μ [v0, v1, v2, v3, v4, v5] (.int 11 :: st) := x_bipush dX6_matched_73 (by decide)
theorem e112_75 : ab_rn cl 112 J Q (k + 1) 75 μ [v0, v1, v2, .int x, v4, v5] st = ab_rn cl 112 J Q k 76 μ [v0, v1, v2, .int x, v4, v5] (.int x :: st) := x_iload_n dX6_matched_75 rfl
theorem e112_76 : ab_rn cl 112 J Q (k + 1) 76 μ [v0, v1, v2, v3, v4, v5] (.int y :: .int x :: st) = ab_rn cl 112 J Q k 77 μ [v0, v1, v2, v3, v4, v5] (.int (x * y) :: st) := x_imul dX6_matched_76
theorem e112_77 : ab_rn cl 112 J Q (k + 1) 77 μ [v0, v1, v2, v3, .int x, v5] st = ab_rn cl 112 J Q k 79 μ [v0, v1, v2, v3, .int x, v5] (.int x :: st) := x_iload dX6_matched_77 rfl
theorem e112_79 : ab_rn cl 112 J Q (k + 1) 79 μ [v0, v1, v2, v3, v4, v5] (.int y :: .int x :: st) = ab_rn cl 112 J Q k 80 μ [v0, v1, v2, v3, v4, v5] (.int (x + y) :: st) := x_iadd dX6_matched_79
theorem e112_80 : ab_rn cl 112 J Q (k + 1) 80 μ [v0, v1, v2, v3, v4, .int x] st = ab_rn cl 112 J Q k 82 μ [v0, v1, v2, v3, v4, .int x] (.int x :: st) := x_iload dX6_matched_80 rfl
theorem e112_82 : ab_rn cl 112 J Q (k + 1) 82 μ [v0, v1, v2, v3, v4, v5] (.int v :: .int x :: .ref a :: st) = ((a < 81 ∧ ab_ak a = 0) ∧ vp_in x (ab_al a) ∧ ab_rn cl 112 J Q k 83 (ab_up μ (ab_cmp a) (ab_off a + x.toNatClampNeg) v) [v0, v1, v2, v3, v4, v5] st) := x_iastore dX6_matched_82
theorem e112_83 : ab_rn cl 112 J Q (k + 1) 83 μ [v0, v1, v2, v3, .int x, v5] st = ab_rn cl 112 J Q k 86 μ [v0, v1, v2, v3, .int (x + 1), v5] st := x_iinc dX6_matched_83 (w := 1) (by decide) rfl rfl
theorem e112_86 : ab_rn cl 112 J Q (k + 1) 86 μ [v0, v1, v2, v3, v4, v5] st = J 29 μ [v0, v1, v2, v3, v4, v5] st := x_gotoB dX6_matched_86 (fun _ _ _ _ _ => rfl)
theorem e112_89 : ab_rn cl 112 J Q (k + 1) 89 μ [v0, v1, v2, .int x, v4, v5] st = ab_rn cl 112 J Q k 92 μ [v0, v1, v2, .int (x + 1), v4, v5] st := x_iinc dX6_matched_89 (w := 1) (by decide) rfl rfl
theorem e112_92 : ab_rn cl 112 J Q (k + 1) 92 μ [v0, v1, v2, v3, v4, v5] st = J 18 μ [v0, v1, v2, v3, v4, v5] st := x_gotoB dX6_matched_92 (fun _ _ _ _ _ => rfl)
theorem e112_95 : ab_rn cl 112 J Q (k + 1) 95 μ [.ref a, v1, v2, v3, v4, v5] st = ab_rn cl 112 J Q k 96 μ [.ref a, v1, v2, v3, v4, v5] (.ref a :: st) := x_aload_n dX6_matched_95 rfl
theorem e112_96 : ab_rn cl 112 J Q (k + 1) 96 μ [v0, v1, v2, v3, v4, v5] (.ref a :: st) = (ab_ob a 6 ∧ ab_rn cl 112 J Q k 99 μ [v0, v1, v2, v3, v4, v5] (ab_fv μ a 22 :: st)) := x_get dX6_matched_96 rfl
theorem e112_99 : ab_rn cl 112 J Q (k + 1) 99 μ [v0, v1, v2, v3, v4, v5] st = ab_rn cl 112 J Q k 101 μ [v0, v1, v2, v3, v4, v5] (.int 11 :: st) := x_bipush dX6_matched_99 (by decide)
theorem e112_101 : ab_rn cl 112 J Q (k + 1) 101 μ [.ref a, v1, v2, v3, v4, v5] st = ab_rn cl 112 J Q k 102 μ [.ref a, v1, v2, v3, v4, v5] (.ref a :: st) := x_aload_n dX6_matched_101 rfl
theorem e112_102 : ab_rn cl 112 J Q (k + 1) 102 μ [v0, v1, v2, v3, v4, v5] (.ref a :: st) = (ab_ob a 6 ∧ ab_rn cl 112 J Q k 105 μ [v0, v1, v2, v3, v4, v5] (ab_fv μ a 19 :: st)) := x_get dX6_matched_102 rfl
theorem e112_105 : ab_rn cl 112 J Q (k + 1) 105 μ [v0, v1, v2, v3, v4, v5] (.int y :: .int x :: st) = ab_rn cl 112 J Q k 106 μ [v0, v1, v2, v3, v4, v5] (.int (x * y) :: st) := x_imul dX6_matched_105
theorem e112_106 : ab_rn cl 112 J Q (k + 1) 106 μ [v0, v1, .int x, v3, v4, v5] st = ab_rn cl 112 J Q k 107 μ [v0, v1, .int x, v3, v4, v5] (.int x :: st) := x_iload_n dX6_matched_106 rfl
theorem e112_107 : ab_rn cl 112 J Q (k + 1) 107 μ [v0, v1, v2, v3, v4, v5] (.int y :: .int x :: st) = ab_rn cl 112 J Q k 108 μ [v0, v1, v2, v3, v4, v5] (.int (x + y) :: st) := x_iadd dX6_matched_107
theorem e112_108 : ab_rn cl 112 J Q (k + 1) 108 μ [v0, v1, v2, v3, v4, v5] (.int x :: .ref a :: st) = ((a < 81 ∧ ab_ak a = 0) ∧ vp_in x (ab_al a) ∧ ab_rn cl 112 J Q k 109 μ [v0, v1, v2, v3, v4, v5] (.int (μ (ab_cmp a) (ab_off a + x.toNatClampNeg)) :: st)) := x_iaload dX6_matched_108
theorem e112_109 : ab_rn cl 112 J Q (k + 1) 109 μ [v0, v1, v2, v3, v4, v5] [.int v] = Q (some v) μ := x_iret dX6_matched_109 rfl
theorem n112 {d : Nat} (h : ∀ J : ab_J, (∀ k pc μ ls st, ab_rn (ab_Cl d) 112 J Q k pc μ ls st → J pc μ ls st) → J 0 μ [v0, v1, .null, .null, .null, .null] []) : ab_Cl (d + 1) 112 [v0, v1] μ Q := ab_go h
theorem e113_0 : ab_rn cl 113 J Q (k + 1) 0 μ [v0, v1, v2, v3, v4, v5, v6, v7, v8, v9] st = ab_rn cl 113 J Q k 2 μ [v0, v1, v2, v3, v4, v5, v6, v7, v8, v9] (.int 10 :: st) := x_bipush dX6_pairs_0 (by decide)
theorem e113_2 : ab_rn cl 113 J Q (k + 1) 2 μ [v0, .int x, v2, v3, v4, v5, v6, v7, v8, v9] st = ab_rn cl 113 J Q k 3 μ [v0, .int x, v2, v3, v4, v5, v6, v7, v8, v9] (.int x :: st) := x_iload_n dX6_pairs_2 rfl
theorem e113_3 : ab_rn cl 113 J Q (k + 1) 3 μ [v0, v1, v2, v3, v4, v5, v6, v7, v8, v9] (.int y :: .int x :: st) = ab_rn cl 113 J Q k 4 μ [v0, v1, v2, v3, v4, v5, v6, v7, v8, v9] (.int (x * y) :: st) := x_imul dX6_pairs_3
theorem e113_4 : ab_rn cl 113 J Q (k + 1) 4 μ [.ref a, v1, v2, v3, v4, v5, v6, v7, v8, v9] st = ab_rn cl 113 J Q k 5 μ [.ref a, v1, v2, v3, v4, v5, v6, v7, v8, v9] (.ref a :: st) := x_aload_n dX6_pairs_4 rfl
theorem e113_5 : ab_rn cl 113 J Q (k + 1) 5 μ [v0, v1, v2, v3, v4, v5, v6, v7, v8, v9] (.ref a :: st) = (ab_ob a 6 ∧ ab_rn cl 113 J Q k 8 μ [v0, v1, v2, v3, v4, v5, v6, v7, v8, v9] (ab_fv μ a 1 :: st)) := x_get dX6_pairs_5 rfl
theorem e113_8 : ab_rn cl 113 J Q (k + 1) 8 μ [v0, .int x, v2, v3, v4, v5, v6, v7, v8, v9] st = ab_rn cl 113 J Q k 9 μ [v0, .int x, v2, v3, v4, v5, v6, v7, v8, v9] (.int x :: st) := x_iload_n dX6_pairs_8 rfl
theorem e113_9 : ab_rn cl 113 J Q (k + 1) 9 μ [v0, v1, v2, v3, v4, v5, v6, v7, v8, v9] (.int x :: .ref a :: st) = ((a < 81 ∧ ab_ak a = 0) ∧ vp_in x (ab_al a) ∧ ab_rn cl 113 J Q k 10 μ [v0, v1, v2, v3, v4, v5, v6, v7, v8, v9] (.int (μ (ab_cmp a) (ab_off a + x.toNatClampNeg)) :: st)) := x_iaload dX6_pairs_9
theorem e113_10 : ab_rn cl 113 J Q (k + 1) 10 μ [v0, v1, v2, v3, v4, v5, v6, v7, v8, v9] (.int y :: .int x :: st) = ab_rn cl 113 J Q k 11 μ [v0, v1, v2, v3, v4, v5, v6, v7, v8, v9] (.int (x + y) :: st) := x_iadd dX6_pairs_10
theorem e113_11 : ab_rn cl 113 J Q (k + 1) 11 μ [v0, v1, v2, .int x, v4, v5, v6, v7, v8, v9] st = ab_rn cl 113 J Q k 12 μ [v0, v1, v2, .int x, v4, v5, v6, v7, v8, v9] (.int x :: st) := x_iload_n dX6_pairs_11 rfl
theorem e113_12 : ab_rn cl 113 J Q (k + 1) 12 μ [v0, v1, v2, v3, v4, v5, v6, v7, v8, v9] (.int y :: .int x :: st) = ab_rn cl 113 J Q k 13 μ [v0, v1, v2, v3, v4, v5, v6, v7, v8, v9] (.int (x - y) :: st) := x_isub dX6_pairs_12
theorem e113_13 : ab_rn cl 113 J Q (k + 1) 13 μ [v0, v1, v2, v3, v4, v5, v6, v7, v8, v9] (.int x :: st) = ab_rn cl 113 J Q k 15 μ [v0, v1, v2, v3, .int x, v5, v6, v7, v8, v9] st := x_istore dX6_pairs_13 (Nat.le_of_ble_eq_true rfl) rfl
theorem e113_15 : ab_rn cl 113 J Q (k + 1) 15 μ [.ref a, v1, v2, v3, v4, v5, v6, v7, v8, v9] st = ab_rn cl 113 J Q k 16 μ [.ref a, v1, v2, v3, v4, v5, v6, v7, v8, v9] (.ref a :: st) := x_aload_n dX6_pairs_15 rfl
theorem e113_16 : ab_rn cl 113 J Q (k + 1) 16 μ [v0, v1, v2, v3, v4, v5, v6, v7, v8, v9] (.ref a :: st) = (ab_ob a 6 ∧ ab_rn cl 113 J Q k 19 μ [v0, v1, v2, v3, v4, v5, v6, v7, v8, v9] (ab_fv μ a 3 :: st)) := x_get dX6_pairs_16 rfl
theorem e113_19 : ab_rn cl 113 J Q (k + 1) 19 μ [v0, v1, v2, v3, .int x, v5, v6, v7, v8, v9] st = ab_rn cl 113 J Q k 21 μ [v0, v1, v2, v3, .int x, v5, v6, v7, v8, v9] (.int x :: st) := x_iload dX6_pairs_19 rfl
theorem e113_21 : ab_rn cl 113 J Q (k + 1) 21 μ [v0, v1, v2, v3, v4, v5, v6, v7, v8, v9] (.int x :: .ref a :: st) = ((a < 81 ∧ ab_ak a = 0) ∧ vp_in x (ab_al a) ∧ ab_rn cl 113 J Q k 22 μ [v0, v1, v2, v3, v4, v5, v6, v7, v8, v9] (.int (μ (ab_cmp a) (ab_off a + x.toNatClampNeg)) :: st)) := x_iaload dX6_pairs_21
theorem e113_22 : ab_rn cl 113 J Q (k + 1) 22 μ [.ref a, v1, v2, v3, v4, v5, v6, v7, v8, v9] st = ab_rn cl 113 J Q k 23 μ [.ref a, v1, v2, v3, v4, v5, v6, v7, v8, v9] (.ref a :: st) := x_aload_n dX6_pairs_22 rfl
theorem e113_23 : ab_rn cl 113 J Q (k + 1) 23 μ [v0, v1, v2, v3, v4, v5, v6, v7, v8, v9] (.ref a :: st) = (ab_ob a 6 ∧ ab_rn cl 113 J Q k 26 μ [v0, v1, v2, v3, v4, v5, v6, v7, v8, v9] (ab_fv μ a 21 :: st)) := x_get dX6_pairs_23 rfl
theorem e113_26 : ab_rn cl 113 J Q (k + 1) 26 μ [v0, v1, .int x, v3, v4, v5, v6, v7, v8, v9] st = ab_rn cl 113 J Q k 27 μ [v0, v1, .int x, v3, v4, v5, v6, v7, v8, v9] (.int x :: st) := x_iload_n dX6_pairs_26 rfl
theorem e113_27 : ab_rn cl 113 J Q (k + 1) 27 μ [v0, v1, v2, v3, v4, v5, v6, v7, v8, v9] st = ab_rn cl 113 J Q k 28 μ [v0, v1, v2, v3, v4, v5, v6, v7, v8, v9] (.int 1 :: st) := x_iconst dX6_pairs_27 (by decide)
theorem e113_28 : ab_rn cl 113 J Q (k + 1) 28 μ [v0, v1, v2, v3, v4, v5, v6, v7, v8, v9] (.int y :: .int x :: st) = ab_rn cl 113 J Q k 29 μ [v0, v1, v2, v3, v4, v5, v6, v7, v8, v9] (.int (x - y) :: st) := x_isub dX6_pairs_28
theorem e113_29 : ab_rn cl 113 J Q (k + 1) 29 μ [v0, v1, v2, v3, v4, v5, v6, v7, v8, v9] (.int x :: .ref a :: st) = ((a < 81 ∧ ab_ak a = 0) ∧ vp_in x (ab_al a) ∧ ab_rn cl 113 J Q k 30 μ [v0, v1, v2, v3, v4, v5, v6, v7, v8, v9] (.int (μ (ab_cmp a) (ab_off a + x.toNatClampNeg)) :: st)) := x_iaload dX6_pairs_29
theorem e113_30 : ab_rn cl 113 J Q (k + 1) 30 μ [v0, v1, v2, v3, v4, v5, v6, v7, v8, v9] (.int y :: .int x :: st) = ab_rn cl 113 J Q k 31 μ [v0, v1, v2, v3, v4, v5, v6, v7, v8, v9] (.int (x - y) :: st) := x_isub dX6_pairs_30
theorem e113_31 : ab_rn cl 113 J Q (k + 1) 31 μ [v0, v1, v2, v3, v4, v5, v6, v7, v8, v9] (.int x :: st) = ab_rn cl 113 J Q k 33 μ [v0, v1, v2, v3, v4, .int x, v6, v7, v8, v9] st := x_istore dX6_pairs_31 (Nat.le_of_ble_eq_true rfl) rfl
theorem e113_33 : ab_rn cl 113 J Q (k + 1) 33 μ [.ref a, v1, v2, v3, v4, v5, v6, v7, v8, v9] st = ab_rn cl 113 J Q k 34 μ [.ref a, v1, v2, v3, v4, v5, v6, v7, v8, v9] (.ref a :: st) := x_aload_n dX6_pairs_33 rfl
theorem e113_34 : ab_rn cl 113 J Q (k + 1) 34 μ [v0, v1, v2, v3, v4, v5, v6, v7, v8, v9] (.ref a :: st) = (ab_ob a 6 ∧ ab_rn cl 113 J Q k 37 μ [v0, v1, v2, v3, v4, v5, v6, v7, v8, v9] (ab_fv μ a 22 :: st)) := x_get dX6_pairs_34 rfl
theorem e113_37 : ab_rn cl 113 J Q (k + 1) 37 μ [v0, v1, v2, v3, v4, v5, v6, v7, v8, v9] st = ab_rn cl 113 J Q k 39 μ [v0, v1, v2, v3, v4, v5, v6, v7, v8, v9] (.int 11 :: st) := x_bipush dX6_pairs_37 (by decide)
theorem e113_39 : ab_rn cl 113 J Q (k + 1) 39 μ [v0, v1, .int x, v3, v4, v5, v6, v7, v8, v9] st = ab_rn cl 113 J Q k 40 μ [v0, v1, .int x, v3, v4, v5, v6, v7, v8, v9] (.int x :: st) := x_iload_n dX6_pairs_39 rfl
theorem e113_40 : ab_rn cl 113 J Q (k + 1) 40 μ [v0, v1, v2, v3, v4, v5, v6, v7, v8, v9] st = ab_rn cl 113 J Q k 41 μ [v0, v1, v2, v3, v4, v5, v6, v7, v8, v9] (.int 1 :: st) := x_iconst dX6_pairs_40 (by decide)
theorem e113_41 : ab_rn cl 113 J Q (k + 1) 41 μ [v0, v1, v2, v3, v4, v5, v6, v7, v8, v9] (.int y :: .int x :: st) = ab_rn cl 113 J Q k 42 μ [v0, v1, v2, v3, v4, v5, v6, v7, v8, v9] (.int (x - y) :: st) := x_isub dX6_pairs_41
theorem e113_42 : ab_rn cl 113 J Q (k + 1) 42 μ [v0, v1, v2, v3, v4, v5, v6, v7, v8, v9] (.int y :: .int x :: st) = ab_rn cl 113 J Q k 43 μ [v0, v1, v2, v3, v4, v5, v6, v7, v8, v9] (.int (x * y) :: st) := x_imul dX6_pairs_42
theorem e113_43 : ab_rn cl 113 J Q (k + 1) 43 μ [v0, v1, v2, .int x, v4, v5, v6, v7, v8, v9] st = ab_rn cl 113 J Q k 44 μ [v0, v1, v2, .int x, v4, v5, v6, v7, v8, v9] (.int x :: st) := x_iload_n dX6_pairs_43 rfl
theorem e113_44 : ab_rn cl 113 J Q (k + 1) 44 μ [v0, v1, v2, v3, v4, v5, v6, v7, v8, v9] (.int y :: .int x :: st) = ab_rn cl 113 J Q k 45 μ [v0, v1, v2, v3, v4, v5, v6, v7, v8, v9] (.int (x + y) :: st) := x_iadd dX6_pairs_44
theorem e113_45 : ab_rn cl 113 J Q (k + 1) 45 μ [v0, v1, v2, v3, v4, v5, v6, v7, v8, v9] st = ab_rn cl 113 J Q k 46 μ [v0, v1, v2, v3, v4, v5, v6, v7, v8, v9] (.int 1 :: st) := x_iconst dX6_pairs_45 (by decide)
theorem e113_46 : ab_rn cl 113 J Q (k + 1) 46 μ [v0, v1, v2, v3, v4, v5, v6, v7, v8, v9] (.int y :: .int x :: st) = ab_rn cl 113 J Q k 47 μ [v0, v1, v2, v3, v4, v5, v6, v7, v8, v9] (.int (x - y) :: st) := x_isub dX6_pairs_46
theorem e113_47 : ab_rn cl 113 J Q (k + 1) 47 μ [v0, v1, v2, v3, v4, v5, v6, v7, v8, v9] (.int x :: .ref a :: st) = ((a < 81 ∧ ab_ak a = 0) ∧ vp_in x (ab_al a) ∧ ab_rn cl 113 J Q k 48 μ [v0, v1, v2, v3, v4, v5, v6, v7, v8, v9] (.int (μ (ab_cmp a) (ab_off a + x.toNatClampNeg)) :: st)) := x_iaload dX6_pairs_47
theorem e113_48 : ab_rn cl 113 J Q (k + 1) 48 μ [v0, v1, v2, v3, v4, .int x, v6, v7, v8, v9] st = ab_rn cl 113 J Q k 50 μ [v0, v1, v2, v3, v4, .int x, v6, v7, v8, v9] (.int x :: st) := x_iload dX6_pairs_48 rfl
theorem e113_50 : ab_rn cl 113 J Q (k + 1) 50 μ [v0, v1, v2, v3, v4, v5, v6, v7, v8, v9] (.int x :: st) = (((0 ≤ x) → ab_rn cl 113 J Q k 59 μ [v0, v1, v2, v3, v4, v5, v6, v7, v8, v9] st) ∧ ((¬ (0 ≤ x)) → ab_rn cl 113 J Q k 53 μ [v0, v1, v2, v3, v4, v5, v6, v7, v8, v9] st)) := x_ifF dX6_pairs_50 rfl (fun _ _ _ _ _ => rfl)
theorem e113_53 : ab_rn cl 113 J Q (k + 1) 53 μ [v0, v1, v2, v3, v4, .int x, v6, v7, v8, v9] st = ab_rn cl 113 J Q k 55 μ [v0, v1, v2, v3, v4, .int x, v6, v7, v8, v9] (.int x :: st) := x_iload dX6_pairs_53 rfl
theorem e113_55 : ab_rn cl 113 J Q (k + 1) 55 μ [v0, v1, v2, v3, v4, v5, v6, v7, v8, v9] (.int x :: st) = ab_rn cl 113 J Q k 56 μ [v0, v1, v2, v3, v4, v5, v6, v7, v8, v9] (.int (-x) :: st) := x_ineg dX6_pairs_55
theorem e113_56 : ab_rn cl 113 J Q (k + 1) 56 μ [v0, v1, v2, v3, v4, v5, v6, v7, v8, v9] st = ab_rn cl 113 J Q k 61 μ [v0, v1, v2, v3, v4, v5, v6, v7, v8, v9] st := x_gotoF dX6_pairs_56 (fun _ _ _ _ _ => rfl)
theorem e113_59 : ab_rn cl 113 J Q (k + 1) 59 μ [v0, v1, v2, v3, v4, .int x, v6, v7, v8, v9] st = ab_rn cl 113 J Q k 61 μ [v0, v1, v2, v3, v4, .int x, v6, v7, v8, v9] (.int x :: st) := x_iload dX6_pairs_59 rfl
theorem e113_61 : ab_rn cl 113 J Q (k + 1) 61 μ [v0, v1, v2, v3, v4, v5, v6, v7, v8, v9] st = ab_rn cl 113 J Q k 63 μ [v0, v1, v2, v3, v4, v5, v6, v7, v8, v9] (.int 10 :: st) := x_bipush dX6_pairs_61 (by decide)
theorem e113_63 : ab_rn cl 113 J Q (k + 1) 63 μ [v0, v1, v2, v3, v4, v5, v6, v7, v8, v9] (.int y :: .int x :: st) = ((¬ y = 0) ∧ ab_rn cl 113 J Q k 64 μ [v0, v1, v2, v3, v4, v5, v6, v7, v8, v9] (.int (x / y) :: st)) := x_idiv dX6_pairs_63
theorem e113_64 : ab_rn cl 113 J Q (k + 1) 64 μ [v0, v1, v2, v3, v4, v5, v6, v7, v8, v9] (.int y :: .int x :: st) = ab_rn cl 113 J Q k 65 μ [v0, v1, v2, v3, v4, v5, v6, v7, v8, v9] (.int (x + y) :: st) := x_iadd dX6_pairs_64
theorem e113_65 : ab_rn cl 113 J Q (k + 1) 65 μ [.ref a, v1, v2, v3, v4, v5, v6, v7, v8, v9] st = ab_rn cl 113 J Q k 66 μ [.ref a, v1, v2, v3, v4, v5, v6, v7, v8, v9] (.ref a :: st) := x_aload_n dX6_pairs_65 rfl
theorem e113_66 : ab_rn cl 113 J Q (k + 1) 66 μ [v0, v1, v2, v3, v4, v5, v6, v7, v8, v9] (.ref a :: st) = (ab_ob a 6 ∧ ab_rn cl 113 J Q k 69 μ [v0, v1, v2, v3, v4, v5, v6, v7, v8, v9] (ab_fv μ a 2 :: st)) := x_get dX6_pairs_66 rfl
theorem e113_69 : ab_rn cl 113 J Q (k + 1) 69 μ [v0, v1, v2, v3, .int x, v5, v6, v7, v8, v9] st = ab_rn cl 113 J Q k 71 μ [v0, v1, v2, v3, .int x, v5, v6, v7, v8, v9] (.int x :: st) := x_iload dX6_pairs_69 rfl
theorem e113_71 : ab_rn cl 113 J Q (k + 1) 71 μ [v0, v1, v2, v3, v4, v5, v6, v7, v8, v9] (.int x :: .ref a :: st) = ((a < 81 ∧ ab_ak a = 0) ∧ vp_in x (ab_al a) ∧ ab_rn cl 113 J Q k 72 μ [v0, v1, v2, v3, v4, v5, v6, v7, v8, v9] (.int (μ (ab_cmp a) (ab_off a + x.toNatClampNeg)) :: st)) := x_iaload dX6_pairs_71
theorem e113_72 : ab_rn cl 113 J Q (k + 1) 72 μ [.ref a, v1, v2, v3, v4, v5, v6, v7, v8, v9] st = ab_rn cl 113 J Q k 73 μ [.ref a, v1, v2, v3, v4, v5, v6, v7, v8, v9] (.ref a :: st) := x_aload_n dX6_pairs_72 rfl
theorem e113_73 : ab_rn cl 113 J Q (k + 1) 73 μ [v0, v1, v2, v3, v4, v5, v6, v7, v8, v9] (.ref a :: st) = (ab_ob a 6 ∧ ab_rn cl 113 J Q k 76 μ [v0, v1, v2, v3, v4, v5, v6, v7, v8, v9] (ab_fv μ a 20 :: st)) := x_get dX6_pairs_73 rfl
theorem e113_76 : ab_rn cl 113 J Q (k + 1) 76 μ [v0, v1, .int x, v3, v4, v5, v6, v7, v8, v9] st = ab_rn cl 113 J Q k 77 μ [v0, v1, .int x, v3, v4, v5, v6, v7, v8, v9] (.int x :: st) := x_iload_n dX6_pairs_76 rfl
theorem e113_77 : ab_rn cl 113 J Q (k + 1) 77 μ [v0, v1, v2, v3, v4, v5, v6, v7, v8, v9] st = ab_rn cl 113 J Q k 78 μ [v0, v1, v2, v3, v4, v5, v6, v7, v8, v9] (.int 1 :: st) := x_iconst dX6_pairs_77 (by decide)
theorem e113_78 : ab_rn cl 113 J Q (k + 1) 78 μ [v0, v1, v2, v3, v4, v5, v6, v7, v8, v9] (.int y :: .int x :: st) = ab_rn cl 113 J Q k 79 μ [v0, v1, v2, v3, v4, v5, v6, v7, v8, v9] (.int (x - y) :: st) := x_isub dX6_pairs_78
theorem e113_79 : ab_rn cl 113 J Q (k + 1) 79 μ [v0, v1, v2, v3, v4, v5, v6, v7, v8, v9] (.int x :: .ref a :: st) = ((a < 81 ∧ ab_ak a = 0) ∧ vp_in x (ab_al a) ∧ ab_rn cl 113 J Q k 80 μ [v0, v1, v2, v3, v4, v5, v6, v7, v8, v9] (.int (μ (ab_cmp a) (ab_off a + x.toNatClampNeg)) :: st)) := x_iaload dX6_pairs_79
theorem e113_80 : ab_rn cl 113 J Q (k + 1) 80 μ [v0, v1, v2, v3, v4, v5, v6, v7, v8, v9] (.int y :: .int x :: st) = (((¬ x = y) → ab_rn cl 113 J Q k 87 μ [v0, v1, v2, v3, v4, v5, v6, v7, v8, v9] st) ∧ ((¬ (¬ x = y)) → ab_rn cl 113 J Q k 83 μ [v0, v1, v2, v3, v4, v5, v6, v7, v8, v9] st)) := x_icmpF dX6_pairs_80 rfl (fun _ _ _ _ _ => rfl)
theorem e113_83 : ab_rn cl 113 J Q (k + 1) 83 μ [v0, v1, v2, v3, v4, v5, v6, v7, v8, v9] st = ab_rn cl 113 J Q k 84 μ [v0, v1, v2, v3, v4, v5, v6, v7, v8, v9] (.int 0 :: st) := x_iconst dX6_pairs_83 (by decide)
theorem e113_84 : ab_rn cl 113 J Q (k + 1) 84 μ [v0, v1, v2, v3, v4, v5, v6, v7, v8, v9] st = ab_rn cl 113 J Q k 89 μ [v0, v1, v2, v3, v4, v5, v6, v7, v8, v9] st := x_gotoF dX6_pairs_84 (fun _ _ _ _ _ => rfl)
theorem e113_87 : ab_rn cl 113 J Q (k + 1) 87 μ [v0, v1, v2, v3, v4, v5, v6, v7, v8, v9] st = ab_rn cl 113 J Q k 89 μ [v0, v1, v2, v3, v4, v5, v6, v7, v8, v9] (.int 40 :: st) := x_bipush dX6_pairs_87 (by decide)
theorem e113_89 : ab_rn cl 113 J Q (k + 1) 89 μ [v0, v1, v2, v3, v4, v5, v6, v7, v8, v9] (.int y :: .int x :: st) = ab_rn cl 113 J Q k 90 μ [v0, v1, v2, v3, v4, v5, v6, v7, v8, v9] (.int (x + y) :: st) := x_iadd dX6_pairs_89
theorem e113_90 : ab_rn cl 113 J Q (k + 1) 90 μ [v0, v1, v2, v3, v4, v5, v6, v7, v8, v9] (.int x :: st) = ab_rn cl 113 J Q k 92 μ [v0, v1, v2, v3, v4, v5, .int x, v7, v8, v9] st := x_istore dX6_pairs_90 (Nat.le_of_ble_eq_true rfl) rfl
theorem e113_92 : ab_rn cl 113 J Q (k + 1) 92 μ [.ref a, v1, v2, v3, v4, v5, v6, v7, v8, v9] st = ab_rn cl 113 J Q k 93 μ [.ref a, v1, v2, v3, v4, v5, v6, v7, v8, v9] (.ref a :: st) := x_aload_n dX6_pairs_92 rfl
theorem e113_93 : ab_rn cl 113 J Q (k + 1) 93 μ [v0, v1, v2, v3, v4, v5, v6, v7, v8, v9] (.ref a :: st) = (ab_ob a 6 ∧ ab_rn cl 113 J Q k 96 μ [v0, v1, v2, v3, v4, v5, v6, v7, v8, v9] (ab_fv μ a 22 :: st)) := x_get dX6_pairs_93 rfl
theorem e113_96 : ab_rn cl 113 J Q (k + 1) 96 μ [v0, v1, v2, v3, v4, v5, v6, v7, v8, v9] st = ab_rn cl 113 J Q k 98 μ [v0, v1, v2, v3, v4, v5, v6, v7, v8, v9] (.int 11 :: st) := x_bipush dX6_pairs_96 (by decide)
theorem e113_98 : ab_rn cl 113 J Q (k + 1) 98 μ [v0, v1, .int x, v3, v4, v5, v6, v7, v8, v9] st = ab_rn cl 113 J Q k 99 μ [v0, v1, .int x, v3, v4, v5, v6, v7, v8, v9] (.int x :: st) := x_iload_n dX6_pairs_98 rfl
theorem e113_99 : ab_rn cl 113 J Q (k + 1) 99 μ [v0, v1, v2, v3, v4, v5, v6, v7, v8, v9] st = ab_rn cl 113 J Q k 100 μ [v0, v1, v2, v3, v4, v5, v6, v7, v8, v9] (.int 1 :: st) := x_iconst dX6_pairs_99 (by decide)
theorem e113_100 : ab_rn cl 113 J Q (k + 1) 100 μ [v0, v1, v2, v3, v4, v5, v6, v7, v8, v9] (.int y :: .int x :: st) = ab_rn cl 113 J Q k 101 μ [v0, v1, v2, v3, v4, v5, v6, v7, v8, v9] (.int (x - y) :: st) := x_isub dX6_pairs_100
theorem e113_101 : ab_rn cl 113 J Q (k + 1) 101 μ [v0, v1, v2, v3, v4, v5, v6, v7, v8, v9] (.int y :: .int x :: st) = ab_rn cl 113 J Q k 102 μ [v0, v1, v2, v3, v4, v5, v6, v7, v8, v9] (.int (x * y) :: st) := x_imul dX6_pairs_101
theorem e113_102 : ab_rn cl 113 J Q (k + 1) 102 μ [v0, v1, v2, .int x, v4, v5, v6, v7, v8, v9] st = ab_rn cl 113 J Q k 103 μ [v0, v1, v2, .int x, v4, v5, v6, v7, v8, v9] (.int x :: st) := x_iload_n dX6_pairs_102 rfl
theorem e113_103 : ab_rn cl 113 J Q (k + 1) 103 μ [v0, v1, v2, v3, v4, v5, v6, v7, v8, v9] (.int y :: .int x :: st) = ab_rn cl 113 J Q k 104 μ [v0, v1, v2, v3, v4, v5, v6, v7, v8, v9] (.int (x + y) :: st) := x_iadd dX6_pairs_103
theorem e113_104 : ab_rn cl 113 J Q (k + 1) 104 μ [v0, v1, v2, v3, v4, v5, v6, v7, v8, v9] (.int x :: .ref a :: st) = ((a < 81 ∧ ab_ak a = 0) ∧ vp_in x (ab_al a) ∧ ab_rn cl 113 J Q k 105 μ [v0, v1, v2, v3, v4, v5, v6, v7, v8, v9] (.int (μ (ab_cmp a) (ab_off a + x.toNatClampNeg)) :: st)) := x_iaload dX6_pairs_104
theorem e113_105 : ab_rn cl 113 J Q (k + 1) 105 μ [v0, v1, v2, v3, v4, v5, v6, v7, v8, v9] st = ab_rn cl 113 J Q k 107 μ [v0, v1, v2, v3, v4, v5, v6, v7, v8, v9] (.int 30 :: st) := x_bipush dX6_pairs_105 (by decide)
theorem e113_107 : ab_rn cl 113 J Q (k + 1) 107 μ [v0, v1, v2, v3, v4, v5, v6, v7, v8, v9] (.int y :: .int x :: st) = ab_rn cl 113 J Q k 108 μ [v0, v1, v2, v3, v4, v5, v6, v7, v8, v9] (.int (x + y) :: st) := x_iadd dX6_pairs_107
theorem e113_108 : ab_rn cl 113 J Q (k + 1) 108 μ [v0, v1, v2, v3, v4, v5, v6, v7, v8, v9] (.int x :: st) = ab_rn cl 113 J Q k 110 μ [v0, v1, v2, v3, v4, v5, v6, .int x, v8, v9] st := x_istore dX6_pairs_108 (Nat.le_of_ble_eq_true rfl) rfl
theorem e113_110 : ab_rn cl 113 J Q (k + 1) 110 μ [.ref a, v1, v2, v3, v4, v5, v6, v7, v8, v9] st = ab_rn cl 113 J Q k 111 μ [.ref a, v1, v2, v3, v4, v5, v6, v7, v8, v9] (.ref a :: st) := x_aload_n dX6_pairs_110 rfl
theorem e113_111 : ab_rn cl 113 J Q (k + 1) 111 μ [v0, v1, v2, v3, v4, v5, v6, v7, v8, v9] (.ref a :: st) = (ab_ob a 6 ∧ ab_rn cl 113 J Q k 114 μ [v0, v1, v2, v3, v4, v5, v6, v7, v8, v9] (ab_fv μ a 22 :: st)) := x_get dX6_pairs_111 rfl
theorem e113_114 : ab_rn cl 113 J Q (k + 1) 114 μ [v0, v1, v2, v3, v4, v5, v6, v7, v8, v9] st = ab_rn cl 113 J Q k 116 μ [v0, v1, v2, v3, v4, v5, v6, v7, v8, v9] (.int 11 :: st) := x_bipush dX6_pairs_114 (by decide)
theorem e113_116 : ab_rn cl 113 J Q (k + 1) 116 μ [v0, v1, .int x, v3, v4, v5, v6, v7, v8, v9] st = ab_rn cl 113 J Q k 117 μ [v0, v1, .int x, v3, v4, v5, v6, v7, v8, v9] (.int x :: st) := x_iload_n dX6_pairs_116 rfl
theorem e113_117 : ab_rn cl 113 J Q (k + 1) 117 μ [v0, v1, v2, v3, v4, v5, v6, v7, v8, v9] (.int y :: .int x :: st) = ab_rn cl 113 J Q k 118 μ [v0, v1, v2, v3, v4, v5, v6, v7, v8, v9] (.int (x * y) :: st) := x_imul dX6_pairs_117
theorem e113_118 : ab_rn cl 113 J Q (k + 1) 118 μ [v0, v1, v2, .int x, v4, v5, v6, v7, v8, v9] st = ab_rn cl 113 J Q k 119 μ [v0, v1, v2, .int x, v4, v5, v6, v7, v8, v9] (.int x :: st) := x_iload_n dX6_pairs_118 rfl
theorem e113_119 : ab_rn cl 113 J Q (k + 1) 119 μ [v0, v1, v2, v3, v4, v5, v6, v7, v8, v9] (.int y :: .int x :: st) = ab_rn cl 113 J Q k 120 μ [v0, v1, v2, v3, v4, v5, v6, v7, v8, v9] (.int (x + y) :: st) := x_iadd dX6_pairs_119
theorem e113_120 : ab_rn cl 113 J Q (k + 1) 120 μ [v0, v1, v2, v3, v4, v5, v6, v7, v8, v9] st = ab_rn cl 113 J Q k 121 μ [v0, v1, v2, v3, v4, v5, v6, v7, v8, v9] (.int 1 :: st) := x_iconst dX6_pairs_120 (by decide)
theorem e113_121 : ab_rn cl 113 J Q (k + 1) 121 μ [v0, v1, v2, v3, v4, v5, v6, v7, v8, v9] (.int y :: .int x :: st) = ab_rn cl 113 J Q k 122 μ [v0, v1, v2, v3, v4, v5, v6, v7, v8, v9] (.int (x - y) :: st) := x_isub dX6_pairs_121
theorem e113_122 : ab_rn cl 113 J Q (k + 1) 122 μ [v0, v1, v2, v3, v4, v5, v6, v7, v8, v9] (.int x :: .ref a :: st) = ((a < 81 ∧ ab_ak a = 0) ∧ vp_in x (ab_al a) ∧ ab_rn cl 113 J Q k 123 μ [v0, v1, v2, v3, v4, v5, v6, v7, v8, v9] (.int (μ (ab_cmp a) (ab_off a + x.toNatClampNeg)) :: st)) := x_iaload dX6_pairs_122
theorem e113_123 : ab_rn cl 113 J Q (k + 1) 123 μ [v0, v1, v2, v3, v4, v5, v6, v7, v8, v9] st = ab_rn cl 113 J Q k 125 μ [v0, v1, v2, v3, v4, v5, v6, v7, v8, v9] (.int 30 :: st) := x_bipush dX6_pairs_123 (by decide)
theorem e113_125 : ab_rn cl 113 J Q (k + 1) 125 μ [v0, v1, v2, v3, v4, v5, v6, v7, v8, v9] (.int y :: .int x :: st) = ab_rn cl 113 J Q k 126 μ [v0, v1, v2, v3, v4, v5, v6, v7, v8, v9] (.int (x + y) :: st) := x_iadd dX6_pairs_125
theorem e113_126 : ab_rn cl 113 J Q (k + 1) 126 μ [v0, v1, v2, v3, v4, v5, v6, v7, v8, v9] (.int x :: st) = ab_rn cl 113 J Q k 128 μ [v0, v1, v2, v3, v4, v5, v6, v7, .int x, v9] st := x_istore dX6_pairs_126 (Nat.le_of_ble_eq_true rfl) rfl
theorem e113_128 : ab_rn cl 113 J Q (k + 1) 128 μ [v0, v1, v2, v3, v4, v5, v6, .int x, v8, v9] st = ab_rn cl 113 J Q k 130 μ [v0, v1, v2, v3, v4, v5, v6, .int x, v8, v9] (.int x :: st) := x_iload dX6_pairs_128 rfl
theorem e113_130 : ab_rn cl 113 J Q (k + 1) 130 μ [v0, v1, v2, v3, v4, v5, v6, v7, .int x, v9] st = ab_rn cl 113 J Q k 132 μ [v0, v1, v2, v3, v4, v5, v6, v7, .int x, v9] (.int x :: st) := x_iload dX6_pairs_130 rfl
theorem e113_132 : ab_rn cl 113 J Q (k + 1) 132 μ [v0, v1, v2, v3, v4, v5, v6, v7, v8, v9] (.int y :: .int x :: st) = (((y ≤ x) → ab_rn cl 113 J Q k 140 μ [v0, v1, v2, v3, v4, v5, v6, v7, v8, v9] st) ∧ ((¬ (y ≤ x)) → ab_rn cl 113 J Q k 135 μ [v0, v1, v2, v3, v4, v5, v6, v7, v8, v9] st)) := x_icmpF dX6_pairs_132 rfl (fun _ _ _ _ _ => rfl)
theorem e113_135 : ab_rn cl 113 J Q (k + 1) 135 μ [v0, v1, v2, v3, v4, v5, v6, .int x, v8, v9] st = ab_rn cl 113 J Q k 137 μ [v0, v1, v2, v3, v4, v5, v6, .int x, v8, v9] (.int x :: st) := x_iload dX6_pairs_135 rfl
theorem e113_137 : ab_rn cl 113 J Q (k + 1) 137 μ [v0, v1, v2, v3, v4, v5, v6, v7, v8, v9] st = ab_rn cl 113 J Q k 142 μ [v0, v1, v2, v3, v4, v5, v6, v7, v8, v9] st := x_gotoF dX6_pairs_137 (fun _ _ _ _ _ => rfl)
theorem e113_140 : ab_rn cl 113 J Q (k + 1) 140 μ [v0, v1, v2, v3, v4, v5, v6, v7, .int x, v9] st = ab_rn cl 113 J Q k 142 μ [v0, v1, v2, v3, v4, v5, v6, v7, .int x, v9] (.int x :: st) := x_iload dX6_pairs_140 rfl
theorem e113_142 : ab_rn cl 113 J Q (k + 1) 142 μ [v0, v1, v2, v3, v4, v5, v6, v7, v8, v9] (.int x :: st) = ab_rn cl 113 J Q k 144 μ [v0, v1, v2, v3, v4, v5, v6, v7, v8, .int x] st := x_istore dX6_pairs_142 (Nat.le_of_ble_eq_true rfl) rfl
theorem e113_144 : ab_rn cl 113 J Q (k + 1) 144 μ [v0, v1, v2, v3, v4, v5, .int x, v7, v8, v9] st = ab_rn cl 113 J Q k 146 μ [v0, v1, v2, v3, v4, v5, .int x, v7, v8, v9] (.int x :: st) := x_iload dX6_pairs_144 rfl
theorem e113_146 : ab_rn cl 113 J Q (k + 1) 146 μ [v0, v1, v2, v3, v4, v5, v6, v7, v8, .int x] st = ab_rn cl 113 J Q k 148 μ [v0, v1, v2, v3, v4, v5, v6, v7, v8, .int x] (.int x :: st) := x_iload dX6_pairs_146 rfl
theorem e113_148 : ab_rn cl 113 J Q (k + 1) 148 μ [v0, v1, v2, v3, v4, v5, v6, v7, v8, v9] (.int y :: .int x :: st) = (((y ≤ x) → ab_rn cl 113 J Q k 156 μ [v0, v1, v2, v3, v4, v5, v6, v7, v8, v9] st) ∧ ((¬ (y ≤ x)) → ab_rn cl 113 J Q k 151 μ [v0, v1, v2, v3, v4, v5, v6, v7, v8, v9] st)) := x_icmpF dX6_pairs_148 rfl (fun _ _ _ _ _ => rfl)
theorem e113_151 : ab_rn cl 113 J Q (k + 1) 151 μ [v0, v1, v2, v3, v4, v5, .int x, v7, v8, v9] st = ab_rn cl 113 J Q k 153 μ [v0, v1, v2, v3, v4, v5, .int x, v7, v8, v9] (.int x :: st) := x_iload dX6_pairs_151 rfl
theorem e113_153 : ab_rn cl 113 J Q (k + 1) 153 μ [v0, v1, v2, v3, v4, v5, v6, v7, v8, v9] st = ab_rn cl 113 J Q k 158 μ [v0, v1, v2, v3, v4, v5, v6, v7, v8, v9] st := x_gotoF dX6_pairs_153 (fun _ _ _ _ _ => rfl)
theorem e113_156 : ab_rn cl 113 J Q (k + 1) 156 μ [v0, v1, v2, v3, v4, v5, v6, v7, v8, .int x] st = ab_rn cl 113 J Q k 158 μ [v0, v1, v2, v3, v4, v5, v6, v7, v8, .int x] (.int x :: st) := x_iload dX6_pairs_156 rfl
theorem e113_158 : ab_rn cl 113 J Q (k + 1) 158 μ [v0, v1, v2, v3, v4, v5, v6, v7, v8, v9] [.int v] = Q (some v) μ := x_iret dX6_pairs_158 rfl
theorem n113 {d : Nat} (h : ∀ J : ab_J, (∀ k pc μ ls st, ab_rn (ab_Cl d) 113 J Q k pc μ ls st → J pc μ ls st) → J 0 μ [v0, v1, v2, v3, .null, .null, .null, .null, .null, .null] []) : ab_Cl (d + 1) 113 [v0, v1, v2, v3] μ Q := ab_go h
theorem e114_0 : ab_rn cl 114 J Q (k + 1) 0 μ [v0, v1, v2] st = ab_rn cl 114 J Q k 1 μ [v0, v1, v2] (.int 0 :: st) := x_iconst dX6_nearest_0 (by decide)
theorem e114_1 : ab_rn cl 114 J Q (k + 1) 1 μ [v0, v1, v2] (.int x :: st) = ab_rn cl 114 J Q k 2 μ [v0, .int x, v2] st := x_istore_n dX6_nearest_1 (Nat.le_of_ble_eq_true rfl) rfl
theorem e114_2 : ab_rn cl 114 J Q (k + 1) 2 μ [v0, v1, v2] st = ab_rn cl 114 J Q k 3 μ [v0, v1, v2] (.int 1 :: st) := x_iconst dX6_nearest_2 (by decide)
theorem e114_3 : ab_rn cl 114 J Q (k + 1) 3 μ [v0, v1, v2] (.int x :: st) = ab_rn cl 114 J Q k 4 μ [v0, v1, .int x] st := x_istore_n dX6_nearest_3 (Nat.le_of_ble_eq_true rfl) rfl
theorem e114_4 : ab_rn cl 114 J Q (k + 1) 4 μ [v0, v1, .int x] st = ab_rn cl 114 J Q k 5 μ [v0, v1, .int x] (.int x :: st) := x_iload_n dX6_nearest_4 rfl
theorem e114_5 : ab_rn cl 114 J Q (k + 1) 5 μ [v0, v1, v2] st = ab_rn cl 114 J Q k 7 μ [v0, v1, v2] (.int 12 :: st) := x_bipush dX6_nearest_5 (by decide)
theorem e114_7 : ab_rn cl 114 J Q (k + 1) 7 μ [v0, v1, v2] (.int y :: .int x :: st) = (((y ≤ x) → ab_rn cl 114 J Q k 31 μ [v0, v1, v2] st) ∧ ((¬ (y ≤ x)) → ab_rn cl 114 J Q k 10 μ [v0, v1, v2] st)) := x_icmpF dX6_nearest_7 rfl (fun _ _ _ _ _ => rfl)
theorem e114_10 : ab_rn cl 114 J Q (k + 1) 10 μ [.ref a, v1, v2] st = ab_rn cl 114 J Q k 11 μ [.ref a, v1, v2] (.ref a :: st) := x_aload_n dX6_nearest_10 rfl
theorem e114_11 : ab_rn cl 114 J Q (k + 1) 11 μ [v0, v1, .int x] st = ab_rn cl 114 J Q k 12 μ [v0, v1, .int x] (.int x :: st) := x_iload_n dX6_nearest_11 rfl
theorem e114_12 : ab_rn cl 114 J Q (k + 1) 12 μ [v0, v1, v2] (.int x0 :: .ref a :: st) = (ab_ob a 6 ∧ st.length ≤ 4 ∧ cl 112 [.ref a, .int x0] μ (fun r μ' => ab_rn cl 114 J Q k 15 μ' [v0, v1, v2] (ab_pu r st))) := x_v (as := [.int x0]) dX6_nearest_12 rfl rfl rfl rfl rfl
theorem e114_15 : ab_rn cl 114 J Q (k + 1) 15 μ [.ref a, v1, v2] st = ab_rn cl 114 J Q k 16 μ [.ref a, v1, v2] (.ref a :: st) := x_aload_n dX6_nearest_15 rfl
theorem e114_16 : ab_rn cl 114 J Q (k + 1) 16 μ [v0, .int x, v2] st = ab_rn cl 114 J Q k 17 μ [v0, .int x, v2] (.int x :: st) := x_iload_n dX6_nearest_16 rfl
theorem e114_17 : ab_rn cl 114 J Q (k + 1) 17 μ [v0, v1, v2] (.int x0 :: .ref a :: st) = (ab_ob a 6 ∧ st.length ≤ 4 ∧ cl 112 [.ref a, .int x0] μ (fun r μ' => ab_rn cl 114 J Q k 20 μ' [v0, v1, v2] (ab_pu r st))) := x_v (as := [.int x0]) dX6_nearest_17 rfl rfl rfl rfl rfl
theorem e114_20 : ab_rn cl 114 J Q (k + 1) 20 μ [v0, v1, v2] (.int y :: .int x :: st) = (((y ≤ x) → ab_rn cl 114 J Q k 25 μ [v0, v1, v2] st) ∧ ((¬ (y ≤ x)) → ab_rn cl 114 J Q k 23 μ [v0, v1, v2] st)) := x_icmpF dX6_nearest_20 rfl (fun _ _ _ _ _ => rfl)
theorem e114_23 : ab_rn cl 114 J Q (k + 1) 23 μ [v0, v1, .int x] st = ab_rn cl 114 J Q k 24 μ [v0, v1, .int x] (.int x :: st) := x_iload_n dX6_nearest_23 rfl
theorem e114_24 : ab_rn cl 114 J Q (k + 1) 24 μ [v0, v1, v2] (.int x :: st) = ab_rn cl 114 J Q k 25 μ [v0, .int x, v2] st := x_istore_n dX6_nearest_24 (Nat.le_of_ble_eq_true rfl) rfl
theorem e114_25 : ab_rn cl 114 J Q (k + 1) 25 μ [v0, v1, .int x] st = ab_rn cl 114 J Q k 28 μ [v0, v1, .int (x + 1)] st := x_iinc dX6_nearest_25 (w := 1) (by decide) rfl rfl
theorem e114_28 : ab_rn cl 114 J Q (k + 1) 28 μ [v0, v1, v2] st = J 4 μ [v0, v1, v2] st := x_gotoB dX6_nearest_28 (fun _ _ _ _ _ => rfl)
theorem e114_31 : ab_rn cl 114 J Q (k + 1) 31 μ [v0, .int x, v2] st = ab_rn cl 114 J Q k 32 μ [v0, .int x, v2] (.int x :: st) := x_iload_n dX6_nearest_31 rfl
theorem e114_32 : ab_rn cl 114 J Q (k + 1) 32 μ [v0, v1, v2] [.int v] = Q (some v) μ := x_iret dX6_nearest_32 rfl
theorem n114 {d : Nat} (h : ∀ J : ab_J, (∀ k pc μ ls st, ab_rn (ab_Cl d) 114 J Q k pc μ ls st → J pc μ ls st) → J 0 μ [v0, .null, .null] []) : ab_Cl (d + 1) 114 [v0] μ Q := ab_go h
theorem e115_0 : ab_rn cl 115 J Q (k + 1) 0 μ [v0, .int x, v2] st = ab_rn cl 115 J Q k 1 μ [v0, .int x, v2] (.int x :: st) := x_iload_n dX6_watch_0 rfl
theorem e115_1 : ab_rn cl 115 J Q (k + 1) 1 μ [v0, v1, v2] (.int x0 :: st) = (st.length ≤ 4 ∧ cl 80 [.int x0] μ (fun r μ' => ab_rn cl 115 J Q k 4 μ' [v0, v1, v2] (ab_pu r st))) := x_s (as := [.int x0]) (b := 0) dX6_watch_1 rfl (by decide) rfl rfl rfl
theorem e115_4 : ab_rn cl 115 J Q (k + 1) 4 μ [v0, v1, v2] (.int x :: st) = (((x = 0) → ab_rn cl 115 J Q k 17 μ [v0, v1, v2] st) ∧ ((¬ (x = 0)) → ab_rn cl 115 J Q k 7 μ [v0, v1, v2] st)) := x_ifF dX6_watch_4 rfl (fun _ _ _ _ _ => rfl)
theorem e115_7 : ab_rn cl 115 J Q (k + 1) 7 μ [.ref a, v1, v2] st = ab_rn cl 115 J Q k 8 μ [.ref a, v1, v2] (.ref a :: st) := x_aload_n dX6_watch_7 rfl
theorem e115_8 : ab_rn cl 115 J Q (k + 1) 8 μ [v0, v1, v2] (.ref a :: st) = (ab_ob a 6 ∧ ab_rn cl 115 J Q k 11 μ [v0, v1, v2] (ab_fv μ a 0 :: st)) := x_get dX6_watch_8 rfl
theorem e115_11 : ab_rn cl 115 J Q (k + 1) 11 μ [v0, v1, v2] st = ab_rn cl 115 J Q k 14 μ [v0, v1, v2] (.int 400 :: st) := x_sipush dX6_watch_11 (by decide)
theorem e115_14 : ab_rn cl 115 J Q (k + 1) 14 μ [v0, v1, v2] (.int y :: .int x :: st) = (((¬ x = y) → ab_rn cl 115 J Q k 19 μ [v0, v1, v2] st) ∧ ((¬ (¬ x = y)) → ab_rn cl 115 J Q k 17 μ [v0, v1, v2] st)) := x_icmpF dX6_watch_14 rfl (fun _ _ _ _ _ => rfl)
theorem e115_17 : ab_rn cl 115 J Q (k + 1) 17 μ [v0, v1, v2] st = ab_rn cl 115 J Q k 18 μ [v0, v1, v2] (.int (-1) :: st) := x_iconst dX6_watch_17 (by decide)
theorem e115_18 : ab_rn cl 115 J Q (k + 1) 18 μ [v0, v1, v2] [.int v] = Q (some v) μ := x_iret dX6_watch_18 rfl
theorem e115_19 : ab_rn cl 115 J Q (k + 1) 19 μ [.ref a, v1, v2] st = ab_rn cl 115 J Q k 20 μ [.ref a, v1, v2] (.ref a :: st) := x_aload_n dX6_watch_19 rfl
theorem e115_20 : ab_rn cl 115 J Q (k + 1) 20 μ [v0, .int x, v2] st = ab_rn cl 115 J Q k 21 μ [v0, .int x, v2] (.int x :: st) := x_iload_n dX6_watch_20 rfl
theorem e115_21 : ab_rn cl 115 J Q (k + 1) 21 μ [v0, v1, v2] (.int x0 :: .ref a :: st) = (ab_ob a 6 ∧ st.length ≤ 4 ∧ cl 100 [.ref a, .int x0] μ (fun r μ' => ab_rn cl 115 J Q k 24 μ' [v0, v1, v2] (ab_pu r st))) := x_v (as := [.int x0]) dX6_watch_21 rfl rfl rfl rfl rfl
theorem e115_24 : ab_rn cl 115 J Q (k + 1) 24 μ [v0, v1, v2] (.int x :: st) = ab_rn cl 115 J Q k 25 μ [v0, v1, .int x] st := x_istore_n dX6_watch_24 (Nat.le_of_ble_eq_true rfl) rfl
theorem e115_25 : ab_rn cl 115 J Q (k + 1) 25 μ [.ref a, v1, v2] st = ab_rn cl 115 J Q k 26 μ [.ref a, v1, v2] (.ref a :: st) := x_aload_n dX6_watch_25 rfl
theorem e115_26 : ab_rn cl 115 J Q (k + 1) 26 μ [v0, v1, v2] (.ref a :: st) = (ab_ob a 6 ∧ ab_rn cl 115 J Q k 29 μ [v0, v1, v2] (ab_fv μ a 14 :: st)) := x_get dX6_watch_26 rfl
theorem e115_29 : ab_rn cl 115 J Q (k + 1) 29 μ [v0, .int x, v2] st = ab_rn cl 115 J Q k 30 μ [v0, .int x, v2] (.int x :: st) := x_iload_n dX6_watch_29 rfl
theorem e115_30 : ab_rn cl 115 J Q (k + 1) 30 μ [v0, v1, v2] (.int x :: .ref a :: st) = ((a < 81 ∧ ab_ak a = 0) ∧ vp_in x (ab_al a) ∧ ab_rn cl 115 J Q k 31 μ [v0, v1, v2] (.int (μ (ab_cmp a) (ab_off a + x.toNatClampNeg)) :: st)) := x_iaload dX6_watch_30
theorem e115_31 : ab_rn cl 115 J Q (k + 1) 31 μ [v0, v1, v2] (.int x :: st) = (((¬ x = 0) → ab_rn cl 115 J Q k 41 μ [v0, v1, v2] st) ∧ ((¬ (¬ x = 0)) → ab_rn cl 115 J Q k 34 μ [v0, v1, v2] st)) := x_ifF dX6_watch_31 rfl (fun _ _ _ _ _ => rfl)
theorem e115_34 : ab_rn cl 115 J Q (k + 1) 34 μ [.ref a, v1, v2] st = ab_rn cl 115 J Q k 35 μ [.ref a, v1, v2] (.ref a :: st) := x_aload_n dX6_watch_34 rfl
theorem e115_35 : ab_rn cl 115 J Q (k + 1) 35 μ [v0, v1, v2] (.ref a :: st) = (ab_ob a 6 ∧ ab_rn cl 115 J Q k 38 μ [v0, v1, v2] (ab_fv μ a 14 :: st)) := x_get dX6_watch_35 rfl
theorem e115_38 : ab_rn cl 115 J Q (k + 1) 38 μ [v0, .int x, v2] st = ab_rn cl 115 J Q k 39 μ [v0, .int x, v2] (.int x :: st) := x_iload_n dX6_watch_38 rfl
theorem e115_39 : ab_rn cl 115 J Q (k + 1) 39 μ [v0, v1, .int x] st = ab_rn cl 115 J Q k 40 μ [v0, v1, .int x] (.int x :: st) := x_iload_n dX6_watch_39 rfl
theorem e115_40 : ab_rn cl 115 J Q (k + 1) 40 μ [v0, v1, v2] (.int v :: .int x :: .ref a :: st) = ((a < 81 ∧ ab_ak a = 0) ∧ vp_in x (ab_al a) ∧ ab_rn cl 115 J Q k 41 (ab_up μ (ab_cmp a) (ab_off a + x.toNatClampNeg) v) [v0, v1, v2] st) := x_iastore dX6_watch_40
theorem e115_41 : ab_rn cl 115 J Q (k + 1) 41 μ [v0, v1, .int x] st = ab_rn cl 115 J Q k 42 μ [v0, v1, .int x] (.int x :: st) := x_iload_n dX6_watch_41 rfl
theorem e115_42 : ab_rn cl 115 J Q (k + 1) 42 μ [v0, v1, v2] [.int v] = Q (some v) μ := x_iret dX6_watch_42 rfl
theorem n115 {d : Nat} (h : ∀ J : ab_J, (∀ k pc μ ls st, ab_rn (ab_Cl d) 115 J Q k pc μ ls st → J pc μ ls st) → J 0 μ [v0, v1, .null] []) : ab_Cl (d + 1) 115 [v0, v1] μ Q := ab_go h
theorem e116_0 : ab_rn cl 116 J Q (k + 1) 0 μ [v0, .int x] st = ab_rn cl 116 J Q k 1 μ [v0, .int x] (.int x :: st) := x_iload_n dX6_right_0 rfl
theorem e116_1 : ab_rn cl 116 J Q (k + 1) 1 μ [v0, v1] st = ab_rn cl 116 J Q k 2 μ [v0, v1] (.int 0 :: st) := x_iconst dX6_right_1 (by decide)
theorem e116_2 : ab_rn cl 116 J Q (k + 1) 2 μ [v0, v1] st = ab_rn cl 116 J Q k 3 μ [v0, v1] (.int 3 :: st) := x_iconst dX6_right_2 (by decide)
theorem e116_3 : ab_rn cl 116 J Q (k + 1) 3 μ [v0, v1] (.int x2 :: .int x1 :: .int x0 :: st) = (st.length ≤ 4 ∧ cl 79 [.int x0, .int x1, .int x2] μ (fun r μ' => ab_rn cl 116 J Q k 6 μ' [v0, v1] (ab_pu r st))) := x_s (as := [.int x0, .int x1, .int x2]) (b := 0) dX6_right_3 rfl (by decide) rfl rfl rfl
theorem e116_6 : ab_rn cl 116 J Q (k + 1) 6 μ [v0, v1] (.int x :: st) = (((x = 0) → ab_rn cl 116 J Q k 18 μ [v0, v1] st) ∧ ((¬ (x = 0)) → ab_rn cl 116 J Q k 9 μ [v0, v1] st)) := x_ifF dX6_right_6 rfl (fun _ _ _ _ _ => rfl)
theorem e116_9 : ab_rn cl 116 J Q (k + 1) 9 μ [.ref a, v1] st = ab_rn cl 116 J Q k 10 μ [.ref a, v1] (.ref a :: st) := x_aload_n dX6_right_9 rfl
theorem e116_10 : ab_rn cl 116 J Q (k + 1) 10 μ [v0, v1] (.ref a :: st) = (ab_ob a 6 ∧ ab_rn cl 116 J Q k 13 μ [v0, v1] (ab_fv μ a 15 :: st)) := x_get dX6_right_10 rfl
theorem e116_13 : ab_rn cl 116 J Q (k + 1) 13 μ [v0, .int x] st = ab_rn cl 116 J Q k 14 μ [v0, .int x] (.int x :: st) := x_iload_n dX6_right_13 rfl
theorem e116_14 : ab_rn cl 116 J Q (k + 1) 14 μ [v0, v1] (.int x :: .ref a :: st) = ((a < 81 ∧ ab_ak a = 0) ∧ vp_in x (ab_al a) ∧ ab_rn cl 116 J Q k 15 μ [v0, v1] (.int (μ (ab_cmp a) (ab_off a + x.toNatClampNeg)) :: st)) := x_iaload dX6_right_14
theorem e116_15 : ab_rn cl 116 J Q (k + 1) 15 μ [v0, v1] st = ab_rn cl 116 J Q k 19 μ [v0, v1] st := x_gotoF dX6_right_15 (fun _ _ _ _ _ => rfl)
theorem e116_18 : ab_rn cl 116 J Q (k + 1) 18 μ [v0, v1] st = ab_rn cl 116 J Q k 19 μ [v0, v1] (.int (-1) :: st) := x_iconst dX6_right_18 (by decide)
theorem e116_19 : ab_rn cl 116 J Q (k + 1) 19 μ [v0, v1] [.int v] = Q (some v) μ := x_iret dX6_right_19 rfl
theorem n116 {d : Nat} (h : ∀ J : ab_J, (∀ k pc μ ls st, ab_rn (ab_Cl d) 116 J Q k pc μ ls st → J pc μ ls st) → J 0 μ [v0, v1] []) : ab_Cl (d + 1) 116 [v0, v1] μ Q := ab_go h
theorem e117_0 : ab_rn cl 117 J Q (k + 1) 0 μ [v0, v1, v2, v3] st = ab_rn cl 117 J Q k 1 μ [v0, v1, v2, v3] (.int 0 :: st) := x_iconst dX6_count_0 (by decide)
theorem e117_1 : ab_rn cl 117 J Q (k + 1) 1 μ [v0, v1, v2, v3] (.int x :: st) = ab_rn cl 117 J Q k 2 μ [v0, v1, .int x, v3] st := x_istore_n dX6_count_1 (Nat.le_of_ble_eq_true rfl) rfl
theorem e117_2 : ab_rn cl 117 J Q (k + 1) 2 μ [v0, .int x, v2, v3] st = ab_rn cl 117 J Q k 3 μ [v0, .int x, v2, v3] (.int x :: st) := x_iload_n dX6_count_2 rfl
theorem e117_3_0 : ab_rn cl 117 J Q (k + 1) 3 μ [v0, v1, v2, v3] (.int 0 :: st) = ab_rn cl 117 J Q k 48 μ [v0, v1, v2, v3] st := x_tsiF dX6_count_3 (by decide) (off := 45) (by decide +kernel) (fun _ _ _ _ _ => rfl)
theorem e117_3_1 : ab_rn cl 117 J Q (k + 1) 3 μ [v0, v1, v2, v3] (.int 1 :: st) = ab_rn cl 117 J Q k 53 μ [v0, v1, v2, v3] st := x_tsiF dX6_count_3 (by decide) (off := 50) (by decide +kernel) (fun _ _ _ _ _ => rfl)
theorem e117_3_2 : ab_rn cl 117 J Q (k + 1) 3 μ [v0, v1, v2, v3] (.int 2 :: st) = ab_rn cl 117 J Q k 77 μ [v0, v1, v2, v3] st := x_tsiF dX6_count_3 (by decide) (off := 74) (by decide +kernel) (fun _ _ _ _ _ => rfl)
theorem e117_3_3 : ab_rn cl 117 J Q (k + 1) 3 μ [v0, v1, v2, v3] (.int 3 :: st) = ab_rn cl 117 J Q k 82 μ [v0, v1, v2, v3] st := x_tsiF dX6_count_3 (by decide) (off := 79) (by decide +kernel) (fun _ _ _ _ _ => rfl)
theorem e117_3_4 : ab_rn cl 117 J Q (k + 1) 3 μ [v0, v1, v2, v3] (.int 4 :: st) = ab_rn cl 117 J Q k 87 μ [v0, v1, v2, v3] st := x_tsiF dX6_count_3 (by decide) (off := 84) (by decide +kernel) (fun _ _ _ _ _ => rfl)
theorem e117_3_5 : ab_rn cl 117 J Q (k + 1) 3 μ [v0, v1, v2, v3] (.int 5 :: st) = ab_rn cl 117 J Q k 92 μ [v0, v1, v2, v3] st := x_tsiF dX6_count_3 (by decide) (off := 89) (by decide +kernel) (fun _ _ _ _ _ => rfl)
theorem e117_3_6 : ab_rn cl 117 J Q (k + 1) 3 μ [v0, v1, v2, v3] (.int 6 :: st) = ab_rn cl 117 J Q k 127 μ [v0, v1, v2, v3] st := x_tsiF dX6_count_3 (by decide) (off := 124) (by decide +kernel) (fun _ _ _ _ _ => rfl)
theorem e117_3_7 : ab_rn cl 117 J Q (k + 1) 3 μ [v0, v1, v2, v3] (.int 7 :: st) = ab_rn cl 117 J Q k 132 μ [v0, v1, v2, v3] st := x_tsiF dX6_count_3 (by decide) (off := 129) (by decide +kernel) (fun _ _ _ _ _ => rfl)
theorem e117_3d (h : x < 0 ∨ 7 < x) : ab_rn cl 117 J Q (k + 1) 3 μ [v0, v1, v2, v3] (.int x :: st) = ab_rn cl 117 J Q k 137 μ [v0, v1, v2, v3] st := x_tsoF dX6_count_3 (ab_tso h) (fun _ _ _ _ _ => rfl)
theorem e117_48 : ab_rn cl 117 J Q (k + 1) 48 μ [.ref a, v1, v2, v3] st = ab_rn cl 117 J Q k 49 μ [.ref a, v1, v2, v3] (.ref a :: st) := x_aload_n dX6_count_48 rfl
theorem e117_49 : ab_rn cl 117 J Q (k + 1) 49 μ [v0, v1, v2, v3] (.ref a :: st) = (ab_ob a 6 ∧ ab_rn cl 117 J Q k 52 μ [v0, v1, v2, v3] (ab_fv μ a 0 :: st)) := x_get dX6_count_49 rfl
theorem e117_52 : ab_rn cl 117 J Q (k + 1) 52 μ [v0, v1, v2, v3] [.int v] = Q (some v) μ := x_iret dX6_count_52 rfl
theorem e117_53 : ab_rn cl 117 J Q (k + 1) 53 μ [v0, v1, v2, v3] st = ab_rn cl 117 J Q k 54 μ [v0, v1, v2, v3] (.int 0 :: st) := x_iconst dX6_count_53 (by decide)
theorem e117_54 : ab_rn cl 117 J Q (k + 1) 54 μ [v0, v1, v2, v3] (.int x :: st) = ab_rn cl 117 J Q k 55 μ [v0, v1, v2, .int x] st := x_istore_n dX6_count_54 (Nat.le_of_ble_eq_true rfl) rfl
theorem e117_55 : ab_rn cl 117 J Q (k + 1) 55 μ [v0, v1, v2, .int x] st = ab_rn cl 117 J Q k 56 μ [v0, v1, v2, .int x] (.int x :: st) := x_iload_n dX6_count_55 rfl
theorem e117_56 : ab_rn cl 117 J Q (k + 1) 56 μ [v0, v1, v2, v3] st = ab_rn cl 117 J Q k 58 μ [v0, v1, v2, v3] (.int 12 :: st) := x_bipush dX6_count_56 (by decide)
theorem e117_58 : ab_rn cl 117 J Q (k + 1) 58 μ [v0, v1, v2, v3] (.int y :: .int x :: st) = (((y ≤ x) → ab_rn cl 117 J Q k 75 μ [v0, v1, v2, v3] st) ∧ ((¬ (y ≤ x)) → ab_rn cl 117 J Q k 61 μ [v0, v1, v2, v3] st)) := x_icmpF dX6_count_58 rfl (fun _ _ _ _ _ => rfl)
theorem e117_61 : ab_rn cl 117 J Q (k + 1) 61 μ [v0, v1, .int x, v3] st = ab_rn cl 117 J Q k 62 μ [v0, v1, .int x, v3] (.int x :: st) := x_iload_n dX6_count_61 rfl
theorem e117_62 : ab_rn cl 117 J Q (k + 1) 62 μ [.ref a, v1, v2, v3] st = ab_rn cl 117 J Q k 63 μ [.ref a, v1, v2, v3] (.ref a :: st) := x_aload_n dX6_count_62 rfl
theorem e117_63 : ab_rn cl 117 J Q (k + 1) 63 μ [v0, v1, v2, .int x] st = ab_rn cl 117 J Q k 64 μ [v0, v1, v2, .int x] (.int x :: st) := x_iload_n dX6_count_63 rfl
theorem e117_64 : ab_rn cl 117 J Q (k + 1) 64 μ [v0, v1, v2, v3] (.int x0 :: .ref a :: st) = (ab_ob a 6 ∧ st.length ≤ 4 ∧ cl 101 [.ref a, .int x0] μ (fun r μ' => ab_rn cl 117 J Q k 67 μ' [v0, v1, v2, v3] (ab_pu r st))) := x_v (as := [.int x0]) dX6_count_64 rfl rfl rfl rfl rfl
theorem e117_67 : ab_rn cl 117 J Q (k + 1) 67 μ [v0, v1, v2, v3] (.int y :: .int x :: st) = ab_rn cl 117 J Q k 68 μ [v0, v1, v2, v3] (.int (x + y) :: st) := x_iadd dX6_count_67
theorem e117_68 : ab_rn cl 117 J Q (k + 1) 68 μ [v0, v1, v2, v3] (.int x :: st) = ab_rn cl 117 J Q k 69 μ [v0, v1, .int x, v3] st := x_istore_n dX6_count_68 (Nat.le_of_ble_eq_true rfl) rfl
theorem e117_69 : ab_rn cl 117 J Q (k + 1) 69 μ [v0, v1, v2, .int x] st = ab_rn cl 117 J Q k 72 μ [v0, v1, v2, .int (x + 1)] st := x_iinc dX6_count_69 (w := 1) (by decide) rfl rfl
theorem e117_72 : ab_rn cl 117 J Q (k + 1) 72 μ [v0, v1, v2, v3] st = J 55 μ [v0, v1, v2, v3] st := x_gotoB dX6_count_72 (fun _ _ _ _ _ => rfl)
theorem e117_75 : ab_rn cl 117 J Q (k + 1) 75 μ [v0, v1, .int x, v3] st = ab_rn cl 117 J Q k 76 μ [v0, v1, .int x, v3] (.int x :: st) := x_iload_n dX6_count_75 rfl
theorem e117_76 : ab_rn cl 117 J Q (k + 1) 76 μ [v0, v1, v2, v3] [.int v] = Q (some v) μ := x_iret dX6_count_76 rfl
theorem e117_77 : ab_rn cl 117 J Q (k + 1) 77 μ [.ref a, v1, v2, v3] st = ab_rn cl 117 J Q k 78 μ [.ref a, v1, v2, v3] (.ref a :: st) := x_aload_n dX6_count_77 rfl
theorem e117_78 : ab_rn cl 117 J Q (k + 1) 78 μ [v0, v1, v2, v3] (.ref a :: st) = (ab_ob a 6 ∧ ab_rn cl 117 J Q k 81 μ [v0, v1, v2, v3] (ab_fv μ a 10 :: st)) := x_get dX6_count_78 rfl
theorem e117_81 : ab_rn cl 117 J Q (k + 1) 81 μ [v0, v1, v2, v3] [.int v] = Q (some v) μ := x_iret dX6_count_81 rfl
theorem e117_82 : ab_rn cl 117 J Q (k + 1) 82 μ [.ref a, v1, v2, v3] st = ab_rn cl 117 J Q k 83 μ [.ref a, v1, v2, v3] (.ref a :: st) := x_aload_n dX6_count_82 rfl
theorem e117_83 : ab_rn cl 117 J Q (k + 1) 83 μ [v0, v1, v2, v3] (.ref a :: st) = (ab_ob a 6 ∧ ab_rn cl 117 J Q k 86 μ [v0, v1, v2, v3] (ab_fv μ a 11 :: st)) := x_get dX6_count_83 rfl
theorem e117_86 : ab_rn cl 117 J Q (k + 1) 86 μ [v0, v1, v2, v3] [.int v] = Q (some v) μ := x_iret dX6_count_86 rfl
theorem e117_87 : ab_rn cl 117 J Q (k + 1) 87 μ [.ref a, v1, v2, v3] st = ab_rn cl 117 J Q k 88 μ [.ref a, v1, v2, v3] (.ref a :: st) := x_aload_n dX6_count_87 rfl
theorem e117_88 : ab_rn cl 117 J Q (k + 1) 88 μ [v0, v1, v2, v3] (.ref a :: st) = (ab_ob a 6 ∧ ab_rn cl 117 J Q k 91 μ [v0, v1, v2, v3] (ab_fv μ a 12 :: st)) := x_get dX6_count_88 rfl
theorem e117_91 : ab_rn cl 117 J Q (k + 1) 91 μ [v0, v1, v2, v3] [.int v] = Q (some v) μ := x_iret dX6_count_91 rfl
theorem e117_92 : ab_rn cl 117 J Q (k + 1) 92 μ [v0, v1, v2, v3] st = ab_rn cl 117 J Q k 93 μ [v0, v1, v2, v3] (.int 0 :: st) := x_iconst dX6_count_92 (by decide)
theorem e117_93 : ab_rn cl 117 J Q (k + 1) 93 μ [v0, v1, v2, v3] (.int x :: st) = ab_rn cl 117 J Q k 94 μ [v0, v1, v2, .int x] st := x_istore_n dX6_count_93 (Nat.le_of_ble_eq_true rfl) rfl
theorem e117_94 : ab_rn cl 117 J Q (k + 1) 94 μ [v0, v1, v2, .int x] st = ab_rn cl 117 J Q k 95 μ [v0, v1, v2, .int x] (.int x :: st) := x_iload_n dX6_count_94 rfl
theorem e117_95 : ab_rn cl 117 J Q (k + 1) 95 μ [v0, v1, v2, v3] st = ab_rn cl 117 J Q k 97 μ [v0, v1, v2, v3] (.int 12 :: st) := x_bipush dX6_count_95 (by decide)
theorem e117_97 : ab_rn cl 117 J Q (k + 1) 97 μ [v0, v1, v2, v3] (.int y :: .int x :: st) = (((y ≤ x) → ab_rn cl 117 J Q k 125 μ [v0, v1, v2, v3] st) ∧ ((¬ (y ≤ x)) → ab_rn cl 117 J Q k 100 μ [v0, v1, v2, v3] st)) := x_icmpF dX6_count_97 rfl (fun _ _ _ _ _ => rfl)
theorem e117_100 : ab_rn cl 117 J Q (k + 1) 100 μ [.ref a, v1, v2, v3] st = ab_rn cl 117 J Q k 101 μ [.ref a, v1, v2, v3] (.ref a :: st) := x_aload_n dX6_count_100 rfl
theorem e117_101 : ab_rn cl 117 J Q (k + 1) 101 μ [v0, v1, v2, .int x] st = ab_rn cl 117 J Q k 102 μ [v0, v1, v2, .int x] (.int x :: st) := x_iload_n dX6_count_101 rfl
theorem e117_102 : ab_rn cl 117 J Q (k + 1) 102 μ [v0, v1, v2, v3] (.int x0 :: .ref a :: st) = (ab_ob a 6 ∧ st.length ≤ 4 ∧ cl 100 [.ref a, .int x0] μ (fun r μ' => ab_rn cl 117 J Q k 105 μ' [v0, v1, v2, v3] (ab_pu r st))) := x_v (as := [.int x0]) dX6_count_102 rfl rfl rfl rfl rfl
theorem e117_105 : ab_rn cl 117 J Q (k + 1) 105 μ [v0, v1, .int x, v3] st = ab_rn cl 117 J Q k 106 μ [v0, v1, .int x, v3] (.int x :: st) := x_iload_n dX6_count_105 rfl
theorem e117_106 : ab_rn cl 117 J Q (k + 1) 106 μ [v0, v1, v2, v3] (.int y :: .int x :: st) = (((x ≤ y) → ab_rn cl 117 J Q k 117 μ [v0, v1, v2, v3] st) ∧ ((¬ (x ≤ y)) → ab_rn cl 117 J Q k 109 μ [v0, v1, v2, v3] st)) := x_icmpF dX6_count_106 rfl (fun _ _ _ _ _ => rfl)
theorem e117_109 : ab_rn cl 117 J Q (k + 1) 109 μ [.ref a, v1, v2, v3] st = ab_rn cl 117 J Q k 110 μ [.ref a, v1, v2, v3] (.ref a :: st) := x_aload_n dX6_count_109 rfl
theorem e117_110 : ab_rn cl 117 J Q (k + 1) 110 μ [v0, v1, v2, .int x] st = ab_rn cl 117 J Q k 111 μ [v0, v1, v2, .int x] (.int x :: st) := x_iload_n dX6_count_110 rfl
theorem e117_111 : ab_rn cl 117 J Q (k + 1) 111 μ [v0, v1, v2, v3] (.int x0 :: .ref a :: st) = (ab_ob a 6 ∧ st.length ≤ 4 ∧ cl 100 [.ref a, .int x0] μ (fun r μ' => ab_rn cl 117 J Q k 114 μ' [v0, v1, v2, v3] (ab_pu r st))) := x_v (as := [.int x0]) dX6_count_111 rfl rfl rfl rfl rfl
theorem e117_114 : ab_rn cl 117 J Q (k + 1) 114 μ [v0, v1, v2, v3] st = ab_rn cl 117 J Q k 118 μ [v0, v1, v2, v3] st := x_gotoF dX6_count_114 (fun _ _ _ _ _ => rfl)
theorem e117_117 : ab_rn cl 117 J Q (k + 1) 117 μ [v0, v1, .int x, v3] st = ab_rn cl 117 J Q k 118 μ [v0, v1, .int x, v3] (.int x :: st) := x_iload_n dX6_count_117 rfl
theorem e117_118 : ab_rn cl 117 J Q (k + 1) 118 μ [v0, v1, v2, v3] (.int x :: st) = ab_rn cl 117 J Q k 119 μ [v0, v1, .int x, v3] st := x_istore_n dX6_count_118 (Nat.le_of_ble_eq_true rfl) rfl
theorem e117_119 : ab_rn cl 117 J Q (k + 1) 119 μ [v0, v1, v2, .int x] st = ab_rn cl 117 J Q k 122 μ [v0, v1, v2, .int (x + 1)] st := x_iinc dX6_count_119 (w := 1) (by decide) rfl rfl
theorem e117_122 : ab_rn cl 117 J Q (k + 1) 122 μ [v0, v1, v2, v3] st = J 94 μ [v0, v1, v2, v3] st := x_gotoB dX6_count_122 (fun _ _ _ _ _ => rfl)
theorem e117_125 : ab_rn cl 117 J Q (k + 1) 125 μ [v0, v1, .int x, v3] st = ab_rn cl 117 J Q k 126 μ [v0, v1, .int x, v3] (.int x :: st) := x_iload_n dX6_count_125 rfl
theorem e117_126 : ab_rn cl 117 J Q (k + 1) 126 μ [v0, v1, v2, v3] [.int v] = Q (some v) μ := x_iret dX6_count_126 rfl
theorem e117_127 : ab_rn cl 117 J Q (k + 1) 127 μ [.ref a, v1, v2, v3] st = ab_rn cl 117 J Q k 128 μ [.ref a, v1, v2, v3] (.ref a :: st) := x_aload_n dX6_count_127 rfl
theorem e117_128 : ab_rn cl 117 J Q (k + 1) 128 μ [v0, v1, v2, v3] (.ref a :: st) = (ab_ob a 6 ∧ ab_rn cl 117 J Q k 131 μ [v0, v1, v2, v3] (ab_fv μ a 16 :: st)) := x_get dX6_count_128 rfl
theorem e117_131 : ab_rn cl 117 J Q (k + 1) 131 μ [v0, v1, v2, v3] [.int v] = Q (some v) μ := x_iret dX6_count_131 rfl
theorem e117_132 : ab_rn cl 117 J Q (k + 1) 132 μ [.ref a, v1, v2, v3] st = ab_rn cl 117 J Q k 133 μ [.ref a, v1, v2, v3] (.ref a :: st) := x_aload_n dX6_count_132 rfl
theorem e117_133 : ab_rn cl 117 J Q (k + 1) 133 μ [v0, v1, v2, v3] (.ref a :: st) = (ab_ob a 6 ∧ ab_rn cl 117 J Q k 136 μ [v0, v1, v2, v3] (ab_fv μ a 19 :: st)) := x_get dX6_count_133 rfl
theorem e117_136 : ab_rn cl 117 J Q (k + 1) 136 μ [v0, v1, v2, v3] [.int v] = Q (some v) μ := x_iret dX6_count_136 rfl
theorem e117_137 : ab_rn cl 117 J Q (k + 1) 137 μ [v0, v1, v2, v3] st = ab_rn cl 117 J Q k 138 μ [v0, v1, v2, v3] (.int (-1) :: st) := x_iconst dX6_count_137 (by decide)
theorem e117_138 : ab_rn cl 117 J Q (k + 1) 138 μ [v0, v1, v2, v3] [.int v] = Q (some v) μ := x_iret dX6_count_138 rfl
theorem n117 {d : Nat} (h : ∀ J : ab_J, (∀ k pc μ ls st, ab_rn (ab_Cl d) 117 J Q k pc μ ls st → J pc μ ls st) → J 0 μ [v0, v1, .null, .null] []) : ab_Cl (d + 1) 117 [v0, v1] μ Q := ab_go h
end EV
