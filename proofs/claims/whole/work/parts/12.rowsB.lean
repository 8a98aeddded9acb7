section EV
variable {cl : ab_CL} {J : ab_J} {Q : ab_Q} {k : Nat} {μ : ab_M} {st : List Value} {x y v : Int32} {a a0 a1 a2 : Nat} {x0 x1 x2 x3 : Int32} {v0 v1 v2 v3 v4 v5 v6 v7 v8 v9 : Value}
theorem e50_0 : ab_rn cl 50 J Q (k + 1) 0 μ [.ref a, v1, v2] st = ab_rn cl 50 J Q k 1 μ [.ref a, v1, v2] (.ref a :: st) := x_aload_n dX5_snow_0 rfl
theorem e50_1 : ab_rn cl 50 J Q (k + 1) 1 μ [v0, v1, v2] (.ref a :: st) = (ab_ob a 5 ∧ ab_rn cl 50 J Q k 4 μ [v0, v1, v2] (ab_fv μ a 5 :: st)) := x_get dX5_snow_1 rfl
theorem e50_4 : ab_rn cl 50 J Q (k + 1) 4 μ [v0, v1, v2] st = ab_rn cl 50 J Q k 7 μ [v0, v1, v2] (.int 400 :: st) := x_sipush dX5_snow_4 (by decide)
theorem e50_7 : ab_rn cl 50 J Q (k + 1) 7 μ [v0, v1, v2] (.int y :: .int x :: st) = (((y ≤ x) → ab_rn cl 50 J Q k 24 μ [v0, v1, v2] st) ∧ ((¬ (y ≤ x)) → ab_rn cl 50 J Q k 10 μ [v0, v1, v2] st)) := x_icmpF dX5_snow_7 rfl (fun _ _ _ _ _ => rfl)
theorem e50_10 : ab_rn cl 50 J Q (k + 1) 10 μ [v0, .int x, v2] st = ab_rn cl 50 J Q k 11 μ [v0, .int x, v2] (.int x :: st) := x_iload_n dX5_snow_10 rfl
theorem e50_11 : ab_rn cl 50 J Q (k + 1) 11 μ [v0, v1, v2] (.int x0 :: st) = (st.length ≤ 4 ∧ cl 68 [.int x0] μ (fun r μ' => ab_rn cl 50 J Q k 14 μ' [v0, v1, v2] (ab_pu r st))) := x_s (as := [.int x0]) (b := 0) dX5_snow_11 rfl (by decide) rfl rfl rfl
theorem e50_14 : ab_rn cl 50 J Q (k + 1) 14 μ [v0, v1, v2] (.int x :: st) = (((x = 0) → ab_rn cl 50 J Q k 24 μ [v0, v1, v2] st) ∧ ((¬ (x = 0)) → ab_rn cl 50 J Q k 17 μ [v0, v1, v2] st)) := x_ifF dX5_snow_14 rfl (fun _ _ _ _ _ => rfl)
theorem e50_17 : ab_rn cl 50 J Q (k + 1) 17 μ [v0, v1, .int x] st = ab_rn cl 50 J Q k 18 μ [v0, v1, .int x] (.int x :: st) := x_iload_n dX5_snow_17 rfl
theorem e50_18 : ab_rn cl 50 J Q (k + 1) 18 μ [v0, v1, v2] (.int x0 :: st) = (st.length ≤ 4 ∧ cl 37 [.int x0] μ (fun r μ' => ab_rn cl 50 J Q k 21 μ' [v0, v1, v2] (ab_pu r st))) := x_s (as := [.int x0]) (b := 0) dX5_snow_18 rfl (by decide) rfl rfl rfl
theorem e50_21 : ab_rn cl 50 J Q (k + 1) 21 μ [v0, v1, v2] (.int x :: st) = (((¬ x = 0) → ab_rn cl 50 J Q k 26 μ [v0, v1, v2] st) ∧ ((¬ (¬ x = 0)) → ab_rn cl 50 J Q k 24 μ [v0, v1, v2] st)) := x_ifF dX5_snow_21 rfl (fun _ _ _ _ _ => rfl)
theorem e50_24 : ab_rn cl 50 J Q (k + 1) 24 μ [v0, v1, v2] st = ab_rn cl 50 J Q k 25 μ [v0, v1, v2] (.int 0 :: st) := x_iconst dX5_snow_24 (by decide)
theorem e50_25 : ab_rn cl 50 J Q (k + 1) 25 μ [v0, v1, v2] [.int v] = ((v = 0 ∨ v = 1) ∧ Q (some v) μ) := x_zret dX5_snow_25 rfl
theorem e50_26 : ab_rn cl 50 J Q (k + 1) 26 μ [.ref a, v1, v2] st = ab_rn cl 50 J Q k 27 μ [.ref a, v1, v2] (.ref a :: st) := x_aload_n dX5_snow_26 rfl
theorem e50_27 : ab_rn cl 50 J Q (k + 1) 27 μ [v0, v1, v2] (.ref a :: st) = (ab_ob a 5 ∧ ab_rn cl 50 J Q k 30 μ [v0, v1, v2] (ab_fv μ a 1 :: st)) := x_get dX5_snow_27 rfl
theorem e50_30 : ab_rn cl 50 J Q (k + 1) 30 μ [v0, .int x, v2] st = ab_rn cl 50 J Q k 31 μ [v0, .int x, v2] (.int x :: st) := x_iload_n dX5_snow_30 rfl
theorem e50_31 : ab_rn cl 50 J Q (k + 1) 31 μ [v0, v1, .int x] st = ab_rn cl 50 J Q k 32 μ [v0, v1, .int x] (.int x :: st) := x_iload_n dX5_snow_31 rfl
theorem e50_32 : ab_rn cl 50 J Q (k + 1) 32 μ [v0, v1, v2] (.int x1 :: .int x0 :: .ref a :: st) = (ab_ob a 4 ∧ st.length ≤ 4 ∧ cl 40 [.ref a, .int x0, .int x1] μ (fun r μ' => ab_rn cl 50 J Q k 35 μ' [v0, v1, v2] (ab_pu r st))) := x_v (as := [.int x0, .int x1]) dX5_snow_32 rfl rfl rfl rfl rfl
theorem e50_35 : ab_rn cl 50 J Q (k + 1) 35 μ [v0, v1, v2] st = ab_rn cl 50 J Q k 36 μ [v0, v1, v2] (.int 1 :: st) := x_iconst dX5_snow_35 (by decide)
theorem e50_36 : ab_rn cl 50 J Q (k + 1) 36 μ [v0, v1, v2] [.int v] = ((v = 0 ∨ v = 1) ∧ Q (some v) μ) := x_zret dX5_snow_36 rfl
theorem n50 {d : Nat} (h : ∀ J : ab_J, (∀ k pc μ ls st, ab_rn (ab_Cl d) 50 J Q k pc μ ls st → J pc μ ls st) → J 0 μ [v0, v1, v2] []) : ab_Cl (d + 1) 50 [v0, v1, v2] μ Q := ab_go h
theorem e51_0 : ab_rn cl 51 J Q (k + 1) 0 μ [.ref a, v1, v2] st = ab_rn cl 51 J Q k 1 μ [.ref a, v1, v2] (.ref a :: st) := x_aload_n dX5_warmth_0 rfl
theorem e51_1 : ab_rn cl 51 J Q (k + 1) 1 μ [v0, v1, v2] (.ref a :: st) = (ab_ob a 5 ∧ ab_rn cl 51 J Q k 4 μ [v0, v1, v2] (ab_fv μ a 5 :: st)) := x_get dX5_warmth_1 rfl
theorem e51_4 : ab_rn cl 51 J Q (k + 1) 4 μ [v0, v1, v2] st = ab_rn cl 51 J Q k 7 μ [v0, v1, v2] (.int 400 :: st) := x_sipush dX5_warmth_4 (by decide)
theorem e51_7 : ab_rn cl 51 J Q (k + 1) 7 μ [v0, v1, v2] (.int y :: .int x :: st) = (((y ≤ x) → ab_rn cl 51 J Q k 24 μ [v0, v1, v2] st) ∧ ((¬ (y ≤ x)) → ab_rn cl 51 J Q k 10 μ [v0, v1, v2] st)) := x_icmpF dX5_warmth_7 rfl (fun _ _ _ _ _ => rfl)
theorem e51_10 : ab_rn cl 51 J Q (k + 1) 10 μ [v0, .int x, v2] st = ab_rn cl 51 J Q k 11 μ [v0, .int x, v2] (.int x :: st) := x_iload_n dX5_warmth_10 rfl
theorem e51_11 : ab_rn cl 51 J Q (k + 1) 11 μ [v0, v1, v2] (.int x0 :: st) = (st.length ≤ 4 ∧ cl 68 [.int x0] μ (fun r μ' => ab_rn cl 51 J Q k 14 μ' [v0, v1, v2] (ab_pu r st))) := x_s (as := [.int x0]) (b := 0) dX5_warmth_11 rfl (by decide) rfl rfl rfl
theorem e51_14 : ab_rn cl 51 J Q (k + 1) 14 μ [v0, v1, v2] (.int x :: st) = (((x = 0) → ab_rn cl 51 J Q k 24 μ [v0, v1, v2] st) ∧ ((¬ (x = 0)) → ab_rn cl 51 J Q k 17 μ [v0, v1, v2] st)) := x_ifF dX5_warmth_14 rfl (fun _ _ _ _ _ => rfl)
theorem e51_17 : ab_rn cl 51 J Q (k + 1) 17 μ [v0, v1, .int x] st = ab_rn cl 51 J Q k 18 μ [v0, v1, .int x] (.int x :: st) := x_iload_n dX5_warmth_17 rfl
theorem e51_18 : ab_rn cl 51 J Q (k + 1) 18 μ [v0, v1, v2] (.int x0 :: st) = (st.length ≤ 4 ∧ cl 38 [.int x0] μ (fun r μ' => ab_rn cl 51 J Q k 21 μ' [v0, v1, v2] (ab_pu r st))) := x_s (as := [.int x0]) (b := 0) dX5_warmth_18 rfl (by decide) rfl rfl rfl
theorem e51_21 : ab_rn cl 51 J Q (k + 1) 21 μ [v0, v1, v2] (.int x :: st) = (((¬ x = 0) → ab_rn cl 51 J Q k 26 μ [v0, v1, v2] st) ∧ ((¬ (¬ x = 0)) → ab_rn cl 51 J Q k 24 μ [v0, v1, v2] st)) := x_ifF dX5_warmth_21 rfl (fun _ _ _ _ _ => rfl)
theorem e51_24 : ab_rn cl 51 J Q (k + 1) 24 μ [v0, v1, v2] st = ab_rn cl 51 J Q k 25 μ [v0, v1, v2] (.int 0 :: st) := x_iconst dX5_warmth_24 (by decide)
theorem e51_25 : ab_rn cl 51 J Q (k + 1) 25 μ [v0, v1, v2] [.int v] = ((v = 0 ∨ v = 1) ∧ Q (some v) μ) := x_zret dX5_warmth_25 rfl
theorem e51_26 : ab_rn cl 51 J Q (k + 1) 26 μ [.ref a, v1, v2] st = ab_rn cl 51 J Q k 27 μ [.ref a, v1, v2] (.ref a :: st) := x_aload_n dX5_warmth_26 rfl
theorem e51_27 : ab_rn cl 51 J Q (k + 1) 27 μ [v0, v1, v2] (.ref a :: st) = (ab_ob a 5 ∧ ab_rn cl 51 J Q k 30 μ [v0, v1, v2] (ab_fv μ a 1 :: st)) := x_get dX5_warmth_27 rfl
theorem e51_30 : ab_rn cl 51 J Q (k + 1) 30 μ [v0, .int x, v2] st = ab_rn cl 51 J Q k 31 μ [v0, .int x, v2] (.int x :: st) := x_iload_n dX5_warmth_30 rfl
theorem e51_31 : ab_rn cl 51 J Q (k + 1) 31 μ [v0, v1, .int x] st = ab_rn cl 51 J Q k 32 μ [v0, v1, .int x] (.int x :: st) := x_iload_n dX5_warmth_31 rfl
theorem e51_32 : ab_rn cl 51 J Q (k + 1) 32 μ [v0, v1, v2] (.int x1 :: .int x0 :: .ref a :: st) = (ab_ob a 4 ∧ st.length ≤ 4 ∧ cl 41 [.ref a, .int x0, .int x1] μ (fun r μ' => ab_rn cl 51 J Q k 35 μ' [v0, v1, v2] (ab_pu r st))) := x_v (as := [.int x0, .int x1]) dX5_warmth_32 rfl rfl rfl rfl rfl
theorem e51_35 : ab_rn cl 51 J Q (k + 1) 35 μ [v0, v1, v2] st = ab_rn cl 51 J Q k 36 μ [v0, v1, v2] (.int 1 :: st) := x_iconst dX5_warmth_35 (by decide)
theorem e51_36 : ab_rn cl 51 J Q (k + 1) 36 μ [v0, v1, v2] [.int v] = ((v = 0 ∨ v = 1) ∧ Q (some v) μ) := x_zret dX5_warmth_36 rfl
theorem n51 {d : Nat} (h : ∀ J : ab_J, (∀ k pc μ ls st, ab_rn (ab_Cl d) 51 J Q k pc μ ls st → J pc μ ls st) → J 0 μ [v0, v1, v2] []) : ab_Cl (d + 1) 51 [v0, v1, v2] μ Q := ab_go h
theorem e52_0 : ab_rn cl 52 J Q (k + 1) 0 μ [.ref a, v1, v2] st = ab_rn cl 52 J Q k 1 μ [.ref a, v1, v2] (.ref a :: st) := x_aload_n dX5_wind_0 rfl
theorem e52_1 : ab_rn cl 52 J Q (k + 1) 1 μ [v0, v1, v2] (.ref a :: st) = (ab_ob a 5 ∧ ab_rn cl 52 J Q k 4 μ [v0, v1, v2] (ab_fv μ a 5 :: st)) := x_get dX5_wind_1 rfl
theorem e52_4 : ab_rn cl 52 J Q (k + 1) 4 μ [v0, v1, v2] st = ab_rn cl 52 J Q k 7 μ [v0, v1, v2] (.int 400 :: st) := x_sipush dX5_wind_4 (by decide)
theorem e52_7 : ab_rn cl 52 J Q (k + 1) 7 μ [v0, v1, v2] (.int y :: .int x :: st) = (((y ≤ x) → ab_rn cl 52 J Q k 26 μ [v0, v1, v2] st) ∧ ((¬ (y ≤ x)) → ab_rn cl 52 J Q k 10 μ [v0, v1, v2] st)) := x_icmpF dX5_wind_7 rfl (fun _ _ _ _ _ => rfl)
theorem e52_10 : ab_rn cl 52 J Q (k + 1) 10 μ [v0, .int x, v2] st = ab_rn cl 52 J Q k 11 μ [v0, .int x, v2] (.int x :: st) := x_iload_n dX5_wind_10 rfl
theorem e52_11 : ab_rn cl 52 J Q (k + 1) 11 μ [v0, v1, v2] (.int x :: st) = (((x < 0) → ab_rn cl 52 J Q k 26 μ [v0, v1, v2] st) ∧ ((¬ (x < 0)) → ab_rn cl 52 J Q k 14 μ [v0, v1, v2] st)) := x_ifF dX5_wind_11 rfl (fun _ _ _ _ _ => rfl)
theorem e52_14 : ab_rn cl 52 J Q (k + 1) 14 μ [v0, .int x, v2] st = ab_rn cl 52 J Q k 15 μ [v0, .int x, v2] (.int x :: st) := x_iload_n dX5_wind_14 rfl
theorem e52_15 : ab_rn cl 52 J Q (k + 1) 15 μ [v0, v1, v2] st = ab_rn cl 52 J Q k 16 μ [v0, v1, v2] (.int 4 :: st) := x_iconst dX5_wind_15 (by decide)
theorem e52_16 : ab_rn cl 52 J Q (k + 1) 16 μ [v0, v1, v2] (.int y :: .int x :: st) = (((y ≤ x) → ab_rn cl 52 J Q k 26 μ [v0, v1, v2] st) ∧ ((¬ (y ≤ x)) → ab_rn cl 52 J Q k 19 μ [v0, v1, v2] st)) := x_icmpF dX5_wind_16 rfl (fun _ _ _ _ _ => rfl)
theorem e52_19 : ab_rn cl 52 J Q (k + 1) 19 μ [v0, v1, .int x] st = ab_rn cl 52 J Q k 20 μ [v0, v1, .int x] (.int x :: st) := x_iload_n dX5_wind_19 rfl
theorem e52_20 : ab_rn cl 52 J Q (k + 1) 20 μ [v0, v1, v2] (.int x0 :: st) = (st.length ≤ 4 ∧ cl 39 [.int x0] μ (fun r μ' => ab_rn cl 52 J Q k 23 μ' [v0, v1, v2] (ab_pu r st))) := x_s (as := [.int x0]) (b := 0) dX5_wind_20 rfl (by decide) rfl rfl rfl
theorem e52_23 : ab_rn cl 52 J Q (k + 1) 23 μ [v0, v1, v2] (.int x :: st) = (((¬ x = 0) → ab_rn cl 52 J Q k 28 μ [v0, v1, v2] st) ∧ ((¬ (¬ x = 0)) → ab_rn cl 52 J Q k 26 μ [v0, v1, v2] st)) := x_ifF dX5_wind_23 rfl (fun _ _ _ _ _ => rfl)
theorem e52_26 : ab_rn cl 52 J Q (k + 1) 26 μ [v0, v1, v2] st = ab_rn cl 52 J Q k 27 μ [v0, v1, v2] (.int 0 :: st) := x_iconst dX5_wind_26 (by decide)
theorem e52_27 : ab_rn cl 52 J Q (k + 1) 27 μ [v0, v1, v2] [.int v] = ((v = 0 ∨ v = 1) ∧ Q (some v) μ) := x_zret dX5_wind_27 rfl
theorem e52_28 : ab_rn cl 52 J Q (k + 1) 28 μ [.ref a, v1, v2] st = ab_rn cl 52 J Q k 29 μ [.ref a, v1, v2] (.ref a :: st) := x_aload_n dX5_wind_28 rfl
theorem e52_29 : ab_rn cl 52 J Q (k + 1) 29 μ [v0, v1, v2] (.ref a :: st) = (ab_ob a 5 ∧ ab_rn cl 52 J Q k 32 μ [v0, v1, v2] (ab_fv μ a 1 :: st)) := x_get dX5_wind_29 rfl
theorem e52_32 : ab_rn cl 52 J Q (k + 1) 32 μ [v0, .int x, v2] st = ab_rn cl 52 J Q k 33 μ [v0, .int x, v2] (.int x :: st) := x_iload_n dX5_wind_32 rfl
theorem e52_33 : ab_rn cl 52 J Q (k + 1) 33 μ [v0, v1, .int x] st = ab_rn cl 52 J Q k 34 μ [v0, v1, .int x] (.int x :: st) := x_iload_n dX5_wind_33 rfl
theorem e52_34 : ab_rn cl 52 J Q (k + 1) 34 μ [v0, v1, v2] (.int x1 :: .int x0 :: .ref a :: st) = (ab_ob a 4 ∧ st.length ≤ 4 ∧ cl 42 [.ref a, .int x0, .int x1] μ (fun r μ' => ab_rn cl 52 J Q k 37 μ' [v0, v1, v2] (ab_pu r st))) := x_v (as := [.int x0, .int x1]) dX5_wind_34 rfl rfl rfl rfl rfl
theorem e52_37 : ab_rn cl 52 J Q (k + 1) 37 μ [v0, v1, v2] st = ab_rn cl 52 J Q k 38 μ [v0, v1, v2] (.int 1 :: st) := x_iconst dX5_wind_37 (by decide)
theorem e52_38 : ab_rn cl 52 J Q (k + 1) 38 μ [v0, v1, v2] [.int v] = ((v = 0 ∨ v = 1) ∧ Q (some v) μ) := x_zret dX5_wind_38 rfl
theorem n52 {d : Nat} (h : ∀ J : ab_J, (∀ k pc μ ls st, ab_rn (ab_Cl d) 52 J Q k pc μ ls st → J pc μ ls st) → J 0 μ [v0, v1, v2] []) : ab_Cl (d + 1) 52 [v0, v1, v2] μ Q := ab_go h
theorem e53_0 : ab_rn cl 53 J Q (k + 1) 0 μ [v0, .int x, v2] st = ab_rn cl 53 J Q k 1 μ [v0, .int x, v2] (.int x :: st) := x_iload_n dX5_go_0 rfl
theorem e53_1 : ab_rn cl 53 J Q (k + 1) 1 μ [v0, v1, v2] (.int x :: st) = (((x < 0) → ab_rn cl 53 J Q k 10 μ [v0, v1, v2] st) ∧ ((¬ (x < 0)) → ab_rn cl 53 J Q k 4 μ [v0, v1, v2] st)) := x_ifF dX5_go_1 rfl (fun _ _ _ _ _ => rfl)
theorem e53_4 : ab_rn cl 53 J Q (k + 1) 4 μ [v0, .int x, v2] st = ab_rn cl 53 J Q k 5 μ [v0, .int x, v2] (.int x :: st) := x_iload_n dX5_go_4 rfl
theorem e53_5 : ab_rn cl 53 J Q (k + 1) 5 μ [v0, v1, v2] st = ab_rn cl 53 J Q k 7 μ [v0, v1, v2] (.int 30 :: st) := x_bipush dX5_go_5 (by decide)
theorem e53_7 : ab_rn cl 53 J Q (k + 1) 7 μ [v0, v1, v2] (.int y :: .int x :: st) = (((x ≤ y) → ab_rn cl 53 J Q k 12 μ [v0, v1, v2] st) ∧ ((¬ (x ≤ y)) → ab_rn cl 53 J Q k 10 μ [v0, v1, v2] st)) := x_icmpF dX5_go_7 rfl (fun _ _ _ _ _ => rfl)
theorem e53_10 : ab_rn cl 53 J Q (k + 1) 10 μ [v0, v1, v2] st = ab_rn cl 53 J Q k 11 μ [v0, v1, v2] (.int (-1) :: st) := x_iconst dX5_go_10 (by decide)
theorem e53_11 : ab_rn cl 53 J Q (k + 1) 11 μ [v0, v1, v2] [.int v] = Q (some v) μ := x_iret dX5_go_11 rfl
theorem e53_12 : ab_rn cl 53 J Q (k + 1) 12 μ [v0, v1, v2] st = ab_rn cl 53 J Q k 13 μ [v0, v1, v2] (.int 0 :: st) := x_iconst dX5_go_12 (by decide)
theorem e53_13 : ab_rn cl 53 J Q (k + 1) 13 μ [v0, v1, v2] (.int x :: st) = ab_rn cl 53 J Q k 14 μ [v0, v1, .int x] st := x_istore_n dX5_go_13 (Nat.le_of_ble_eq_true rfl) rfl
theorem e53_14 : ab_rn cl 53 J Q (k + 1) 14 μ [v0, v1, .int x] st = ab_rn cl 53 J Q k 15 μ [v0, v1, .int x] (.int x :: st) := x_iload_n dX5_go_14 rfl
theorem e53_15 : ab_rn cl 53 J Q (k + 1) 15 μ [v0, .int x, v2] st = ab_rn cl 53 J Q k 16 μ [v0, .int x, v2] (.int x :: st) := x_iload_n dX5_go_15 rfl
theorem e53_16 : ab_rn cl 53 J Q (k + 1) 16 μ [v0, v1, v2] (.int y :: .int x :: st) = (((y ≤ x) → ab_rn cl 53 J Q k 39 μ [v0, v1, v2] st) ∧ ((¬ (y ≤ x)) → ab_rn cl 53 J Q k 19 μ [v0, v1, v2] st)) := x_icmpF dX5_go_16 rfl (fun _ _ _ _ _ => rfl)
theorem e53_19 : ab_rn cl 53 J Q (k + 1) 19 μ [.ref a, v1, v2] st = ab_rn cl 53 J Q k 20 μ [.ref a, v1, v2] (.ref a :: st) := x_aload_n dX5_go_19 rfl
theorem e53_20 : ab_rn cl 53 J Q (k + 1) 20 μ [v0, v1, v2] (.ref a :: st) = (ab_ob a 5 ∧ ab_rn cl 53 J Q k 23 μ [v0, v1, v2] (ab_fv μ a 5 :: st)) := x_get dX5_go_20 rfl
theorem e53_23 : ab_rn cl 53 J Q (k + 1) 23 μ [v0, v1, v2] st = ab_rn cl 53 J Q k 26 μ [v0, v1, v2] (.int 400 :: st) := x_sipush dX5_go_23 (by decide)
theorem e53_26 : ab_rn cl 53 J Q (k + 1) 26 μ [v0, v1, v2] (.int y :: .int x :: st) = (((y ≤ x) → ab_rn cl 53 J Q k 39 μ [v0, v1, v2] st) ∧ ((¬ (y ≤ x)) → ab_rn cl 53 J Q k 29 μ [v0, v1, v2] st)) := x_icmpF dX5_go_26 rfl (fun _ _ _ _ _ => rfl)
theorem e53_29 : ab_rn cl 53 J Q (k + 1) 29 μ [.ref a, v1, v2] st = ab_rn cl 53 J Q k 30 μ [.ref a, v1, v2] (.ref a :: st) := x_aload_n dX5_go_29 rfl
theorem e53_30 : ab_rn cl 53 J Q (k + 1) 30 μ [v0, v1, v2] (.ref a :: st) = (ab_ob a 5 ∧ st.length ≤ 4 ∧ cl 70 [.ref a] μ (fun r μ' => ab_rn cl 53 J Q k 33 μ' [v0, v1, v2] (ab_pu r st))) := x_v (as := []) dX5_go_30 rfl rfl rfl rfl rfl
theorem e53_33 : ab_rn cl 53 J Q (k + 1) 33 μ [v0, v1, .int x] st = ab_rn cl 53 J Q k 36 μ [v0, v1, .int (x + 1)] st := x_iinc dX5_go_33 (w := 1) (by decide) rfl rfl
theorem e53_36 : ab_rn cl 53 J Q (k + 1) 36 μ [v0, v1, v2] st = J 14 μ [v0, v1, v2] st := x_gotoB dX5_go_36 (fun _ _ _ _ _ => rfl)
theorem e53_39 : ab_rn cl 53 J Q (k + 1) 39 μ [.ref a, v1, v2] st = ab_rn cl 53 J Q k 40 μ [.ref a, v1, v2] (.ref a :: st) := x_aload_n dX5_go_39 rfl
theorem e53_40 : ab_rn cl 53 J Q (k + 1) 40 μ [v0, v1, v2] (.ref a :: st) = (ab_ob a 5 ∧ ab_rn cl 53 J Q k 43 μ [v0, v1, v2] (ab_fv μ a 5 :: st)) := x_get dX5_go_40 rfl
theorem e53_43 : ab_rn cl 53 J Q (k + 1) 43 μ [v0, v1, v2] [.int v] = Q (some v) μ := x_iret dX5_go_43 rfl
theorem n53 {d : Nat} (h : ∀ J : ab_J, (∀ k pc μ ls st, ab_rn (ab_Cl d) 53 J Q k pc μ ls st → J pc μ ls st) → J 0 μ [v0, v1, .null] []) : ab_Cl (d + 1) 53 [v0, v1] μ Q := ab_go h
theorem e54_0 : ab_rn cl 54 J Q (k + 1) 0 μ [v0, .int x, v2, v3, v4] st = ab_rn cl 54 J Q k 1 μ [v0, .int x, v2, v3, v4] (.int x :: st) := x_iload_n dX5_layer_0 rfl
theorem e54_1 : ab_rn cl 54 J Q (k + 1) 1 μ [v0, v1, v2, v3, v4] (.int x0 :: st) = (st.length ≤ 4 ∧ cl 69 [.int x0] μ (fun r μ' => ab_rn cl 54 J Q k 4 μ' [v0, v1, v2, v3, v4] (ab_pu r st))) := x_s (as := [.int x0]) (b := 0) dX5_layer_1 rfl (by decide) rfl rfl rfl
theorem e54_4 : ab_rn cl 54 J Q (k + 1) 4 μ [v0, v1, v2, v3, v4] (.int x :: st) = (((x = 0) → ab_rn cl 54 J Q k 20 μ [v0, v1, v2, v3, v4] st) ∧ ((¬ (x = 0)) → ab_rn cl 54 J Q k 7 μ [v0, v1, v2, v3, v4] st)) := x_ifF dX5_layer_4 rfl (fun _ _ _ _ _ => rfl)
theorem e54_7 : ab_rn cl 54 J Q (k + 1) 7 μ [.ref a, v1, v2, v3, v4] st = ab_rn cl 54 J Q k 8 μ [.ref a, v1, v2, v3, v4] (.ref a :: st) := x_aload_n dX5_layer_7 rfl
theorem e54_8 : ab_rn cl 54 J Q (k + 1) 8 μ [v0, v1, v2, v3, v4] (.ref a :: st) = (ab_ob a 5 ∧ ab_rn cl 54 J Q k 11 μ [v0, v1, v2, v3, v4] (ab_fv μ a 0 :: st)) := x_get dX5_layer_8 rfl
theorem e54_11 : ab_rn cl 54 J Q (k + 1) 11 μ [v0, .int x, v2, v3, v4] st = ab_rn cl 54 J Q k 12 μ [v0, .int x, v2, v3, v4] (.int x :: st) := x_iload_n dX5_layer_11 rfl
theorem e54_12 : ab_rn cl 54 J Q (k + 1) 12 μ [v0, v1, v2, v3, v4] (.int x :: .ref 1 :: st) = (vp_in x 12 ∧ ab_rn cl 54 J Q k 13 μ [v0, v1, v2, v3, v4] (.ref (17 + 4 * x.toNatClampNeg) :: st)) := x_aaload dX5_layer_12
theorem e54_13 : ab_rn cl 54 J Q (k + 1) 13 μ [v0, v1, .int x, v3, v4] st = ab_rn cl 54 J Q k 14 μ [v0, v1, .int x, v3, v4] (.int x :: st) := x_iload_n dX5_layer_13 rfl
theorem e54_14 : ab_rn cl 54 J Q (k + 1) 14 μ [v0, v1, v2, v3, v4] (.int x0 :: .ref a :: st) = (ab_ob a 2 ∧ st.length ≤ 4 ∧ cl 11 [.ref a, .int x0] μ (fun r μ' => ab_rn cl 54 J Q k 17 μ' [v0, v1, v2, v3, v4] (ab_pu r st))) := x_v (as := [.int x0]) dX5_layer_14 rfl rfl rfl rfl rfl
theorem e54_17 : ab_rn cl 54 J Q (k + 1) 17 μ [v0, v1, v2, v3, v4] (.int x :: st) = (((¬ x = 0) → ab_rn cl 54 J Q k 22 μ [v0, v1, v2, v3, v4] st) ∧ ((¬ (¬ x = 0)) → ab_rn cl 54 J Q k 20 μ [v0, v1, v2, v3, v4] st)) := x_ifF dX5_layer_17 rfl (fun _ _ _ _ _ => rfl)
theorem e54_20 : ab_rn cl 54 J Q (k + 1) 20 μ [v0, v1, v2, v3, v4] st = ab_rn cl 54 J Q k 21 μ [v0, v1, v2, v3, v4] (.int (-1) :: st) := x_iconst dX5_layer_20 (by decide)
theorem e54_21 : ab_rn cl 54 J Q (k + 1) 21 μ [v0, v1, v2, v3, v4] [.int v] = Q (some v) μ := x_iret dX5_layer_21 rfl
theorem e54_22 : ab_rn cl 54 J Q (k + 1) 22 μ [.ref a, v1, v2, v3, v4] st = ab_rn cl 54 J Q k 23 μ [.ref a, v1, v2, v3, v4] (.ref a :: st) := x_aload_n dX5_layer_22 rfl
theorem e54_23 : ab_rn cl 54 J Q (k + 1) 23 μ [v0, v1, v2, v3, v4] (.ref a :: st) = (ab_ob a 5 ∧ ab_rn cl 54 J Q k 26 μ [v0, v1, v2, v3, v4] (ab_fv μ a 0 :: st)) := x_get dX5_layer_23 rfl
theorem e54_26 : ab_rn cl 54 J Q (k + 1) 26 μ [v0, .int x, v2, v3, v4] st = ab_rn cl 54 J Q k 27 μ [v0, .int x, v2, v3, v4] (.int x :: st) := x_iload_n dX5_layer_26 rfl
theorem e54_27 : ab_rn cl 54 J Q (k + 1) 27 μ [v0, v1, v2, v3, v4] (.int x :: .ref 1 :: st) = (vp_in x 12 ∧ ab_rn cl 54 J Q k 28 μ [v0, v1, v2, v3, v4] (.ref (17 + 4 * x.toNatClampNeg) :: st)) := x_aaload dX5_layer_27
theorem e54_28 : ab_rn cl 54 J Q (k + 1) 28 μ [v0, v1, v2, v3, v4] (.ref a :: st) = ab_rn cl 54 J Q k 30 μ [v0, v1, v2, v3, .ref a] st := x_astore dX5_layer_28 (Nat.le_of_ble_eq_true rfl) rfl
theorem e54_30 : ab_rn cl 54 J Q (k + 1) 30 μ [v0, v1, v2, .int x, v4] st = ab_rn cl 54 J Q k 31 μ [v0, v1, v2, .int x, v4] (.int x :: st) := x_iload_n dX5_layer_30 rfl
theorem e54_31_0 : ab_rn cl 54 J Q (k + 1) 31 μ [v0, v1, v2, v3, v4] (.int 0 :: st) = ab_rn cl 54 J Q k 64 μ [v0, v1, v2, v3, v4] st := x_tsiF dX5_layer_31 (by decide) (off := 33) (by decide +kernel) (fun _ _ _ _ _ => rfl)
theorem e54_31_1 : ab_rn cl 54 J Q (k + 1) 31 μ [v0, v1, v2, v3, v4] (.int 1 :: st) = ab_rn cl 54 J Q k 71 μ [v0, v1, v2, v3, v4] st := x_tsiF dX5_layer_31 (by decide) (off := 40) (by decide +kernel) (fun _ _ _ _ _ => rfl)
theorem e54_31_2 : ab_rn cl 54 J Q (k + 1) 31 μ [v0, v1, v2, v3, v4] (.int 2 :: st) = ab_rn cl 54 J Q k 78 μ [v0, v1, v2, v3, v4] st := x_tsiF dX5_layer_31 (by decide) (off := 47) (by decide +kernel) (fun _ _ _ _ _ => rfl)
theorem e54_31_3 : ab_rn cl 54 J Q (k + 1) 31 μ [v0, v1, v2, v3, v4] (.int 3 :: st) = ab_rn cl 54 J Q k 85 μ [v0, v1, v2, v3, v4] st := x_tsiF dX5_layer_31 (by decide) (off := 54) (by decide +kernel) (fun _ _ _ _ _ => rfl)
theorem e54_31_4 : ab_rn cl 54 J Q (k + 1) 31 μ [v0, v1, v2, v3, v4] (.int 4 :: st) = ab_rn cl 54 J Q k 92 μ [v0, v1, v2, v3, v4] st := x_tsiF dX5_layer_31 (by decide) (off := 61) (by decide +kernel) (fun _ _ _ _ _ => rfl)
theorem e54_31d (h : x < 0 ∨ 4 < x) : ab_rn cl 54 J Q (k + 1) 31 μ [v0, v1, v2, v3, v4] (.int x :: st) = ab_rn cl 54 J Q k 99 μ [v0, v1, v2, v3, v4] st := x_tsoF dX5_layer_31 (ab_tso h) (fun _ _ _ _ _ => rfl)
theorem e54_64 : ab_rn cl 54 J Q (k + 1) 64 μ [v0, v1, v2, v3, .ref a] st = ab_rn cl 54 J Q k 66 μ [v0, v1, v2, v3, .ref a] (.ref a :: st) := x_aload dX5_layer_64 rfl
theorem e54_66 : ab_rn cl 54 J Q (k + 1) 66 μ [v0, v1, .int x, v3, v4] st = ab_rn cl 54 J Q k 67 μ [v0, v1, .int x, v3, v4] (.int x :: st) := x_iload_n dX5_layer_66 rfl
theorem e54_67 : ab_rn cl 54 J Q (k + 1) 67 μ [v0, v1, v2, v3, v4] (.int x0 :: .ref a :: st) = (ab_ob a 2 ∧ st.length ≤ 4 ∧ cl 12 [.ref a, .int x0] μ (fun r μ' => ab_rn cl 54 J Q k 70 μ' [v0, v1, v2, v3, v4] (ab_pu r st))) := x_v (as := [.int x0]) dX5_layer_67 rfl rfl rfl rfl rfl
theorem e54_70 : ab_rn cl 54 J Q (k + 1) 70 μ [v0, v1, v2, v3, v4] [.int v] = Q (some v) μ := x_iret dX5_layer_70 rfl
theorem e54_71 : ab_rn cl 54 J Q (k + 1) 71 μ [v0, v1, v2, v3, .ref a] st = ab_rn cl 54 J Q k 73 μ [v0, v1, v2, v3, .ref a] (.ref a :: st) := x_aload dX5_layer_71 rfl
theorem e54_73 : ab_rn cl 54 J Q (k + 1) 73 μ [v0, v1, .int x, v3, v4] st = ab_rn cl 54 J Q k 74 μ [v0, v1, .int x, v3, v4] (.int x :: st) := x_iload_n dX5_layer_73 rfl
theorem e54_74 : ab_rn cl 54 J Q (k + 1) 74 μ [v0, v1, v2, v3, v4] (.int x0 :: .ref a :: st) = (ab_ob a 2 ∧ st.length ≤ 4 ∧ cl 13 [.ref a, .int x0] μ (fun r μ' => ab_rn cl 54 J Q k 77 μ' [v0, v1, v2, v3, v4] (ab_pu r st))) := x_v (as := [.int x0]) dX5_layer_74 rfl rfl rfl rfl rfl
theorem e54_77 : ab_rn cl 54 J Q (k + 1) 77 μ [v0, v1, v2, v3, v4] [.int v] = Q (some v) μ := x_iret dX5_layer_77 rfl
theorem e54_78 : ab_rn cl 54 J Q (k + 1) 78 μ [v0, v1, v2, v3, .ref a] st = ab_rn cl 54 J Q k 80 μ [v0, v1, v2, v3, .ref a] (.ref a :: st) := x_aload dX5_layer_78 rfl
theorem e54_80 : ab_rn cl 54 J Q (k + 1) 80 μ [v0, v1, .int x, v3, v4] st = ab_rn cl 54 J Q k 81 μ [v0, v1, .int x, v3, v4] (.int x :: st) := x_iload_n dX5_layer_80 rfl
theorem e54_81 : ab_rn cl 54 J Q (k + 1) 81 μ [v0, v1, v2, v3, v4] (.int x0 :: .ref a :: st) = (ab_ob a 2 ∧ st.length ≤ 4 ∧ cl 14 [.ref a, .int x0] μ (fun r μ' => ab_rn cl 54 J Q k 84 μ' [v0, v1, v2, v3, v4] (ab_pu r st))) := x_v (as := [.int x0]) dX5_layer_81 rfl rfl rfl rfl rfl
theorem e54_84 : ab_rn cl 54 J Q (k + 1) 84 μ [v0, v1, v2, v3, v4] [.int v] = Q (some v) μ := x_iret dX5_layer_84 rfl
theorem e54_85 : ab_rn cl 54 J Q (k + 1) 85 μ [v0, v1, v2, v3, .ref a] st = ab_rn cl 54 J Q k 87 μ [v0, v1, v2, v3, .ref a] (.ref a :: st) := x_aload dX5_layer_85 rfl
theorem e54_87 : ab_rn cl 54 J Q (k + 1) 87 μ [v0, v1, .int x, v3, v4] st = ab_rn cl 54 J Q k 88 μ [v0, v1, .int x, v3, v4] (.int x :: st) := x_iload_n dX5_layer_87 rfl
theorem e54_88 : ab_rn cl 54 J Q (k + 1) 88 μ [v0, v1, v2, v3, v4] (.int x0 :: .ref a :: st) = (ab_ob a 2 ∧ st.length ≤ 4 ∧ cl 16 [.ref a, .int x0] μ (fun r μ' => ab_rn cl 54 J Q k 91 μ' [v0, v1, v2, v3, v4] (ab_pu r st))) := x_v (as := [.int x0]) dX5_layer_88 rfl rfl rfl rfl rfl
theorem e54_91 : ab_rn cl 54 J Q (k + 1) 91 μ [v0, v1, v2, v3, v4] [.int v] = Q (some v) μ := x_iret dX5_layer_91 rfl
theorem e54_92 : ab_rn cl 54 J Q (k + 1) 92 μ [v0, v1, v2, v3, .ref a] st = ab_rn cl 54 J Q k 94 μ [v0, v1, v2, v3, .ref a] (.ref a :: st) := x_aload dX5_layer_92 rfl
theorem e54_94 : ab_rn cl 54 J Q (k + 1) 94 μ [v0, v1, .int x, v3, v4] st = ab_rn cl 54 J Q k 95 μ [v0, v1, .int x, v3, v4] (.int x :: st) := x_iload_n dX5_layer_94 rfl
theorem e54_95 : ab_rn cl 54 J Q (k + 1) 95 μ [v0, v1, v2, v3, v4] (.int x0 :: .ref a :: st) = (ab_ob a 2 ∧ st.length ≤ 4 ∧ cl 15 [.ref a, .int x0] μ (fun r μ' => ab_rn cl 54 J Q k 98 μ' [v0, v1, v2, v3, v4] (ab_pu r st))) := x_v (as := [.int x0]) dX5_layer_95 rfl rfl rfl rfl rfl
theorem e54_98 : ab_rn cl 54 J Q (k + 1) 98 μ [v0, v1, v2, v3, v4] [.int v] = Q (some v) μ := x_iret dX5_layer_98 rfl
theorem e54_99 : ab_rn cl 54 J Q (k + 1) 99 μ [v0, v1, v2, v3, v4] st = ab_rn cl 54 J Q k 100 μ [v0, v1, v2, v3, v4] (.int (-1) :: st) := x_iconst dX5_layer_99 (by decide)
theorem e54_100 : ab_rn cl 54 J Q (k + 1) 100 μ [v0, v1, v2, v3, v4] [.int v] = Q (some v) μ := x_iret dX5_layer_100 rfl
theorem n54 {d : Nat} (h : ∀ J : ab_J, (∀ k pc μ ls st, ab_rn (ab_Cl d) 54 J Q k pc μ ls st → J pc μ ls st) → J 0 μ [v0, v1, v2, v3, .null] []) : ab_Cl (d + 1) 54 [v0, v1, v2, v3] μ Q := ab_go h
theorem e55_0 : ab_rn cl 55 J Q (k + 1) 0 μ [v0, .int x, v2, v3, v4] st = ab_rn cl 55 J Q k 1 μ [v0, .int x, v2, v3, v4] (.int x :: st) := x_iload_n dX5_told_0 rfl
theorem e55_1 : ab_rn cl 55 J Q (k + 1) 1 μ [v0, v1, v2, v3, v4] (.int x0 :: st) = (st.length ≤ 4 ∧ cl 69 [.int x0] μ (fun r μ' => ab_rn cl 55 J Q k 4 μ' [v0, v1, v2, v3, v4] (ab_pu r st))) := x_s (as := [.int x0]) (b := 0) dX5_told_1 rfl (by decide) rfl rfl rfl
theorem e55_4 : ab_rn cl 55 J Q (k + 1) 4 μ [v0, v1, v2, v3, v4] (.int x :: st) = (((¬ x = 0) → ab_rn cl 55 J Q k 9 μ [v0, v1, v2, v3, v4] st) ∧ ((¬ (¬ x = 0)) → ab_rn cl 55 J Q k 7 μ [v0, v1, v2, v3, v4] st)) := x_ifF dX5_told_4 rfl (fun _ _ _ _ _ => rfl)
theorem e55_7 : ab_rn cl 55 J Q (k + 1) 7 μ [v0, v1, v2, v3, v4] st = ab_rn cl 55 J Q k 8 μ [v0, v1, v2, v3, v4] (.int (-1) :: st) := x_iconst dX5_told_7 (by decide)
theorem e55_8 : ab_rn cl 55 J Q (k + 1) 8 μ [v0, v1, v2, v3, v4] [.int v] = Q (some v) μ := x_iret dX5_told_8 rfl
theorem e55_9 : ab_rn cl 55 J Q (k + 1) 9 μ [.ref a, v1, v2, v3, v4] st = ab_rn cl 55 J Q k 10 μ [.ref a, v1, v2, v3, v4] (.ref a :: st) := x_aload_n dX5_told_9 rfl
theorem e55_10 : ab_rn cl 55 J Q (k + 1) 10 μ [v0, v1, v2, v3, v4] (.ref a :: st) = (ab_ob a 5 ∧ ab_rn cl 55 J Q k 13 μ [v0, v1, v2, v3, v4] (ab_fv μ a 0 :: st)) := x_get dX5_told_10 rfl
theorem e55_13 : ab_rn cl 55 J Q (k + 1) 13 μ [v0, .int x, v2, v3, v4] st = ab_rn cl 55 J Q k 14 μ [v0, .int x, v2, v3, v4] (.int x :: st) := x_iload_n dX5_told_13 rfl
theorem e55_14 : ab_rn cl 55 J Q (k + 1) 14 μ [v0, v1, v2, v3, v4] (.int x :: .ref 1 :: st) = (vp_in x 12 ∧ ab_rn cl 55 J Q k 15 μ [v0, v1, v2, v3, v4] (.ref (17 + 4 * x.toNatClampNeg) :: st)) := x_aaload dX5_told_14
theorem e55_15 : ab_rn cl 55 J Q (k + 1) 15 μ [v0, v1, v2, v3, v4] (.ref a :: st) = ab_rn cl 55 J Q k 16 μ [v0, v1, v2, .ref a, v4] st := x_astore_n dX5_told_15 (Nat.le_of_ble_eq_true rfl) rfl
theorem e55_16 : ab_rn cl 55 J Q (k + 1) 16 μ [v0, v1, v2, .ref a, v4] st = ab_rn cl 55 J Q k 17 μ [v0, v1, v2, .ref a, v4] (.ref a :: st) := x_aload_n dX5_told_16 rfl
theorem e55_17 : ab_rn cl 55 J Q (k + 1) 17 μ [v0, v1, v2, v3, v4] (.ref a :: st) = (ab_ob a 2 ∧ st.length ≤ 4 ∧ cl 10 [.ref a] μ (fun r μ' => ab_rn cl 55 J Q k 20 μ' [v0, v1, v2, v3, v4] (ab_pu r st))) := x_v (as := []) dX5_told_17 rfl rfl rfl rfl rfl
theorem e55_20 : ab_rn cl 55 J Q (k + 1) 20 μ [v0, v1, v2, v3, v4] (.int x :: st) = ab_rn cl 55 J Q k 22 μ [v0, v1, v2, v3, .int x] st := x_istore dX5_told_20 (Nat.le_of_ble_eq_true rfl) rfl
theorem e55_22 : ab_rn cl 55 J Q (k + 1) 22 μ [v0, v1, .int x, v3, v4] st = ab_rn cl 55 J Q k 23 μ [v0, v1, .int x, v3, v4] (.int x :: st) := x_iload_n dX5_told_22 rfl
theorem e55_23_0 : ab_rn cl 55 J Q (k + 1) 23 μ [v0, v1, v2, v3, v4] (.int 0 :: st) = ab_rn cl 55 J Q k 60 μ [v0, v1, v2, v3, v4] st := x_tsiF dX5_told_23 (by decide) (off := 37) (by decide +kernel) (fun _ _ _ _ _ => rfl)
theorem e55_23_1 : ab_rn cl 55 J Q (k + 1) 23 μ [v0, v1, v2, v3, v4] (.int 1 :: st) = ab_rn cl 55 J Q k 63 μ [v0, v1, v2, v3, v4] st := x_tsiF dX5_told_23 (by decide) (off := 40) (by decide +kernel) (fun _ _ _ _ _ => rfl)
theorem e55_23_2 : ab_rn cl 55 J Q (k + 1) 23 μ [v0, v1, v2, v3, v4] (.int 2 :: st) = ab_rn cl 55 J Q k 69 μ [v0, v1, v2, v3, v4] st := x_tsiF dX5_told_23 (by decide) (off := 46) (by decide +kernel) (fun _ _ _ _ _ => rfl)
theorem e55_23_3 : ab_rn cl 55 J Q (k + 1) 23 μ [v0, v1, v2, v3, v4] (.int 3 :: st) = ab_rn cl 55 J Q k 76 μ [v0, v1, v2, v3, v4] st := x_tsiF dX5_told_23 (by decide) (off := 53) (by decide +kernel) (fun _ _ _ _ _ => rfl)
theorem e55_23_4 : ab_rn cl 55 J Q (k + 1) 23 μ [v0, v1, v2, v3, v4] (.int 4 :: st) = ab_rn cl 55 J Q k 83 μ [v0, v1, v2, v3, v4] st := x_tsiF dX5_told_23 (by decide) (off := 60) (by decide +kernel) (fun _ _ _ _ _ => rfl)
theorem e55_23_5 : ab_rn cl 55 J Q (k + 1) 23 μ [v0, v1, v2, v3, v4] (.int 5 :: st) = ab_rn cl 55 J Q k 89 μ [v0, v1, v2, v3, v4] st := x_tsiF dX5_told_23 (by decide) (off := 66) (by decide +kernel) (fun _ _ _ _ _ => rfl)
theorem e55_23d (h : x < 0 ∨ 5 < x) : ab_rn cl 55 J Q (k + 1) 23 μ [v0, v1, v2, v3, v4] (.int x :: st) = ab_rn cl 55 J Q k 96 μ [v0, v1, v2, v3, v4] st := x_tsoF dX5_told_23 (ab_tso h) (fun _ _ _ _ _ => rfl)
theorem e55_60 : ab_rn cl 55 J Q (k + 1) 60 μ [v0, v1, v2, v3, .int x] st = ab_rn cl 55 J Q k 62 μ [v0, v1, v2, v3, .int x] (.int x :: st) := x_iload dX5_told_60 rfl
theorem e55_62 : ab_rn cl 55 J Q (k + 1) 62 μ [v0, v1, v2, v3, v4] [.int v] = Q (some v) μ := x_iret dX5_told_62 rfl
theorem e55_63 : ab_rn cl 55 J Q (k + 1) 63 μ [v0, v1, v2, .ref a, v4] st = ab_rn cl 55 J Q k 64 μ [v0, v1, v2, .ref a, v4] (.ref a :: st) := x_aload_n dX5_told_63 rfl
theorem e55_64 : ab_rn cl 55 J Q (k + 1) 64 μ [v0, v1, v2, v3, v4] st = ab_rn cl 55 J Q k 65 μ [v0, v1, v2, v3, v4] (.int (-1) :: st) := x_iconst dX5_told_64 (by decide)
theorem e55_65 : ab_rn cl 55 J Q (k + 1) 65 μ [v0, v1, v2, v3, v4] (.int x0 :: .ref a :: st) = (ab_ob a 2 ∧ st.length ≤ 4 ∧ cl 16 [.ref a, .int x0] μ (fun r μ' => ab_rn cl 55 J Q k 68 μ' [v0, v1, v2, v3, v4] (ab_pu r st))) := x_v (as := [.int x0]) dX5_told_65 rfl rfl rfl rfl rfl
theorem e55_68 : ab_rn cl 55 J Q (k + 1) 68 μ [v0, v1, v2, v3, v4] [.int v] = Q (some v) μ := x_iret dX5_told_68 rfl
theorem e55_69 : ab_rn cl 55 J Q (k + 1) 69 μ [v0, v1, v2, .ref a, v4] st = ab_rn cl 55 J Q k 70 μ [v0, v1, v2, .ref a, v4] (.ref a :: st) := x_aload_n dX5_told_69 rfl
theorem e55_70 : ab_rn cl 55 J Q (k + 1) 70 μ [v0, v1, v2, v3, .int x] st = ab_rn cl 55 J Q k 72 μ [v0, v1, v2, v3, .int x] (.int x :: st) := x_iload dX5_told_70 rfl
theorem e55_72 : ab_rn cl 55 J Q (k + 1) 72 μ [v0, v1, v2, v3, v4] (.int x0 :: .ref a :: st) = (ab_ob a 2 ∧ st.length ≤ 4 ∧ cl 18 [.ref a, .int x0] μ (fun r μ' => ab_rn cl 55 J Q k 75 μ' [v0, v1, v2, v3, v4] (ab_pu r st))) := x_v (as := [.int x0]) dX5_told_72 rfl rfl rfl rfl rfl
theorem e55_75 : ab_rn cl 55 J Q (k + 1) 75 μ [v0, v1, v2, v3, v4] [.int v] = Q (some v) μ := x_iret dX5_told_75 rfl
theorem e55_76 : ab_rn cl 55 J Q (k + 1) 76 μ [v0, v1, v2, .ref a, v4] st = ab_rn cl 55 J Q k 77 μ [v0, v1, v2, .ref a, v4] (.ref a :: st) := x_aload_n dX5_told_76 rfl
theorem e55_77 : ab_rn cl 55 J Q (k + 1) 77 μ [v0, v1, v2, v3, .int x] st = ab_rn cl 55 J Q k 79 μ [v0, v1, v2, v3, .int x] (.int x :: st) := x_iload dX5_told_77 rfl
theorem e55_79 : ab_rn cl 55 J Q (k + 1) 79 μ [v0, v1, v2, v3, v4] (.int x0 :: .ref a :: st) = (ab_ob a 2 ∧ st.length ≤ 4 ∧ cl 19 [.ref a, .int x0] μ (fun r μ' => ab_rn cl 55 J Q k 82 μ' [v0, v1, v2, v3, v4] (ab_pu r st))) := x_v (as := [.int x0]) dX5_told_79 rfl rfl rfl rfl rfl
theorem e55_82 : ab_rn cl 55 J Q (k + 1) 82 μ [v0, v1, v2, v3, v4] [.int v] = Q (some v) μ := x_iret dX5_told_82 rfl
theorem e55_83 : ab_rn cl 55 J Q (k + 1) 83 μ [.ref a, v1, v2, v3, v4] st = ab_rn cl 55 J Q k 84 μ [.ref a, v1, v2, v3, v4] (.ref a :: st) := x_aload_n dX5_told_83 rfl
theorem e55_84 : ab_rn cl 55 J Q (k + 1) 84 μ [v0, .int x, v2, v3, v4] st = ab_rn cl 55 J Q k 85 μ [v0, .int x, v2, v3, v4] (.int x :: st) := x_iload_n dX5_told_84 rfl
theorem e55_85 : ab_rn cl 55 J Q (k + 1) 85 μ [v0, v1, v2, v3, v4] (.int x0 :: .ref a :: st) = (ab_ob a 5 ∧ st.length ≤ 4 ∧ cl 75 [.ref a, .int x0] μ (fun r μ' => ab_rn cl 55 J Q k 88 μ' [v0, v1, v2, v3, v4] (ab_pu r st))) := x_v (as := [.int x0]) dX5_told_85 rfl rfl rfl rfl rfl
theorem e55_88 : ab_rn cl 55 J Q (k + 1) 88 μ [v0, v1, v2, v3, v4] [.int v] = Q (some v) μ := x_iret dX5_told_88 rfl
theorem e55_89 : ab_rn cl 55 J Q (k + 1) 89 μ [v0, v1, v2, .ref a, v4] st = ab_rn cl 55 J Q k 90 μ [v0, v1, v2, .ref a, v4] (.ref a :: st) := x_aload_n dX5_told_89 rfl
theorem e55_90 : ab_rn cl 55 J Q (k + 1) 90 μ [v0, v1, v2, v3, .int x] st = ab_rn cl 55 J Q k 92 μ [v0, v1, v2, v3, .int x] (.int x :: st) := x_iload dX5_told_90 rfl
theorem e55_92 : ab_rn cl 55 J Q (k + 1) 92 μ [v0, v1, v2, v3, v4] (.int x0 :: .ref a :: st) = (ab_ob a 2 ∧ st.length ≤ 4 ∧ cl 17 [.ref a, .int x0] μ (fun r μ' => ab_rn cl 55 J Q k 95 μ' [v0, v1, v2, v3, v4] (ab_pu r st))) := x_v (as := [.int x0]) dX5_told_92 rfl rfl rfl rfl rfl
theorem e55_95 : ab_rn cl 55 J Q (k + 1) 95 μ [v0, v1, v2, v3, v4] [.int v] = Q (some v) μ := x_iret dX5_told_95 rfl
theorem e55_96 : ab_rn cl 55 J Q (k + 1) 96 μ [v0, v1, v2, v3, v4] st = ab_rn cl 55 J Q k 97 μ [v0, v1, v2, v3, v4] (.int (-1) :: st) := x_iconst dX5_told_96 (by decide)
theorem e55_97 : ab_rn cl 55 J Q (k + 1) 97 μ [v0, v1, v2, v3, v4] [.int v] = Q (some v) μ := x_iret dX5_told_97 rfl
theorem n55 {d : Nat} (h : ∀ J : ab_J, (∀ k pc μ ls st, ab_rn (ab_Cl d) 55 J Q k pc μ ls st → J pc μ ls st) → J 0 μ [v0, v1, v2, .null, .null] []) : ab_Cl (d + 1) 55 [v0, v1, v2] μ Q := ab_go h
theorem e56_0 : ab_rn cl 56 J Q (k + 1) 0 μ [v0, .int x, v2] st = ab_rn cl 56 J Q k 1 μ [v0, .int x, v2] (.int x :: st) := x_iload_n dX5_slide_0 rfl
theorem e56_1 : ab_rn cl 56 J Q (k + 1) 1 μ [v0, v1, v2] (.int x0 :: st) = (st.length ≤ 4 ∧ cl 69 [.int x0] μ (fun r μ' => ab_rn cl 56 J Q k 4 μ' [v0, v1, v2] (ab_pu r st))) := x_s (as := [.int x0]) (b := 0) dX5_slide_1 rfl (by decide) rfl rfl rfl
theorem e56_4 : ab_rn cl 56 J Q (k + 1) 4 μ [v0, v1, v2] (.int x :: st) = (((x = 0) → ab_rn cl 56 J Q k 35 μ [v0, v1, v2] st) ∧ ((¬ (x = 0)) → ab_rn cl 56 J Q k 7 μ [v0, v1, v2] st)) := x_ifF dX5_slide_4 rfl (fun _ _ _ _ _ => rfl)
theorem e56_7 : ab_rn cl 56 J Q (k + 1) 7 μ [.ref a, v1, v2] st = ab_rn cl 56 J Q k 8 μ [.ref a, v1, v2] (.ref a :: st) := x_aload_n dX5_slide_7 rfl
theorem e56_8 : ab_rn cl 56 J Q (k + 1) 8 μ [v0, v1, v2] (.ref a :: st) = (ab_ob a 5 ∧ ab_rn cl 56 J Q k 11 μ [v0, v1, v2] (ab_fv μ a 0 :: st)) := x_get dX5_slide_8 rfl
theorem e56_11 : ab_rn cl 56 J Q (k + 1) 11 μ [v0, .int x, v2] st = ab_rn cl 56 J Q k 12 μ [v0, .int x, v2] (.int x :: st) := x_iload_n dX5_slide_11 rfl
theorem e56_12 : ab_rn cl 56 J Q (k + 1) 12 μ [v0, v1, v2] (.int x :: .ref 1 :: st) = (vp_in x 12 ∧ ab_rn cl 56 J Q k 13 μ [v0, v1, v2] (.ref (17 + 4 * x.toNatClampNeg) :: st)) := x_aaload dX5_slide_12
theorem e56_13 : ab_rn cl 56 J Q (k + 1) 13 μ [v0, v1, .int x] st = ab_rn cl 56 J Q k 14 μ [v0, v1, .int x] (.int x :: st) := x_iload_n dX5_slide_13 rfl
theorem e56_14 : ab_rn cl 56 J Q (k + 1) 14 μ [v0, v1, v2] (.int x0 :: .ref a :: st) = (ab_ob a 2 ∧ st.length ≤ 4 ∧ cl 11 [.ref a, .int x0] μ (fun r μ' => ab_rn cl 56 J Q k 17 μ' [v0, v1, v2] (ab_pu r st))) := x_v (as := [.int x0]) dX5_slide_14 rfl rfl rfl rfl rfl
theorem e56_17 : ab_rn cl 56 J Q (k + 1) 17 μ [v0, v1, v2] (.int x :: st) = (((x = 0) → ab_rn cl 56 J Q k 35 μ [v0, v1, v2] st) ∧ ((¬ (x = 0)) → ab_rn cl 56 J Q k 20 μ [v0, v1, v2] st)) := x_ifF dX5_slide_17 rfl (fun _ _ _ _ _ => rfl)
theorem e56_20 : ab_rn cl 56 J Q (k + 1) 20 μ [.ref a, v1, v2] st = ab_rn cl 56 J Q k 21 μ [.ref a, v1, v2] (.ref a :: st) := x_aload_n dX5_slide_20 rfl
theorem e56_21 : ab_rn cl 56 J Q (k + 1) 21 μ [v0, v1, v2] (.ref a :: st) = (ab_ob a 5 ∧ ab_rn cl 56 J Q k 24 μ [v0, v1, v2] (ab_fv μ a 0 :: st)) := x_get dX5_slide_21 rfl
theorem e56_24 : ab_rn cl 56 J Q (k + 1) 24 μ [v0, .int x, v2] st = ab_rn cl 56 J Q k 25 μ [v0, .int x, v2] (.int x :: st) := x_iload_n dX5_slide_24 rfl
theorem e56_25 : ab_rn cl 56 J Q (k + 1) 25 μ [v0, v1, v2] (.int x :: .ref 1 :: st) = (vp_in x 12 ∧ ab_rn cl 56 J Q k 26 μ [v0, v1, v2] (.ref (17 + 4 * x.toNatClampNeg) :: st)) := x_aaload dX5_slide_25
theorem e56_26 : ab_rn cl 56 J Q (k + 1) 26 μ [v0, v1, .int x] st = ab_rn cl 56 J Q k 27 μ [v0, v1, .int x] (.int x :: st) := x_iload_n dX5_slide_26 rfl
theorem e56_27 : ab_rn cl 56 J Q (k + 1) 27 μ [v0, v1, v2] st = ab_rn cl 56 J Q k 28 μ [v0, v1, v2] (.int 1 :: st) := x_iconst dX5_slide_27 (by decide)
theorem e56_28 : ab_rn cl 56 J Q (k + 1) 28 μ [v0, v1, v2] (.int y :: .int x :: st) = ab_rn cl 56 J Q k 29 μ [v0, v1, v2] (.int (x + y) :: st) := x_iadd dX5_slide_28
theorem e56_29 : ab_rn cl 56 J Q (k + 1) 29 μ [v0, v1, v2] (.int x0 :: .ref a :: st) = (ab_ob a 2 ∧ st.length ≤ 4 ∧ cl 11 [.ref a, .int x0] μ (fun r μ' => ab_rn cl 56 J Q k 32 μ' [v0, v1, v2] (ab_pu r st))) := x_v (as := [.int x0]) dX5_slide_29 rfl rfl rfl rfl rfl
theorem e56_32 : ab_rn cl 56 J Q (k + 1) 32 μ [v0, v1, v2] (.int x :: st) = (((¬ x = 0) → ab_rn cl 56 J Q k 37 μ [v0, v1, v2] st) ∧ ((¬ (¬ x = 0)) → ab_rn cl 56 J Q k 35 μ [v0, v1, v2] st)) := x_ifF dX5_slide_32 rfl (fun _ _ _ _ _ => rfl)
theorem e56_35 : ab_rn cl 56 J Q (k + 1) 35 μ [v0, v1, v2] st = ab_rn cl 56 J Q k 36 μ [v0, v1, v2] (.int (-1) :: st) := x_iconst dX5_slide_35 (by decide)
theorem e56_36 : ab_rn cl 56 J Q (k + 1) 36 μ [v0, v1, v2] [.int v] = Q (some v) μ := x_iret dX5_slide_36 rfl
theorem e56_37 : ab_rn cl 56 J Q (k + 1) 37 μ [.ref a, v1, v2] st = ab_rn cl 56 J Q k 38 μ [.ref a, v1, v2] (.ref a :: st) := x_aload_n dX5_slide_37 rfl
theorem e56_38 : ab_rn cl 56 J Q (k + 1) 38 μ [v0, v1, v2] (.ref a :: st) = (ab_ob a 5 ∧ ab_rn cl 56 J Q k 41 μ [v0, v1, v2] (ab_fv μ a 4 :: st)) := x_get dX5_slide_38 rfl
theorem e56_41 : ab_rn cl 56 J Q (k + 1) 41 μ [v0, .int x, v2] st = ab_rn cl 56 J Q k 42 μ [v0, .int x, v2] (.int x :: st) := x_iload_n dX5_slide_41 rfl
theorem e56_42 : ab_rn cl 56 J Q (k + 1) 42 μ [v0, v1, v2] (.int x0 :: .ref a :: st) = (ab_ob a 3 ∧ st.length ≤ 4 ∧ cl 33 [.ref a, .int x0] μ (fun r μ' => ab_rn cl 56 J Q k 45 μ' [v0, v1, v2] (ab_pu r st))) := x_v (as := [.int x0]) dX5_slide_42 rfl rfl rfl rfl rfl
theorem e56_45 : ab_rn cl 56 J Q (k + 1) 45 μ [.ref a, v1, v2] st = ab_rn cl 56 J Q k 46 μ [.ref a, v1, v2] (.ref a :: st) := x_aload_n dX5_slide_45 rfl
theorem e56_46 : ab_rn cl 56 J Q (k + 1) 46 μ [v0, .int x, v2] st = ab_rn cl 56 J Q k 47 μ [v0, .int x, v2] (.int x :: st) := x_iload_n dX5_slide_46 rfl
theorem e56_47 : ab_rn cl 56 J Q (k + 1) 47 μ [v0, v1, .int x] st = ab_rn cl 56 J Q k 48 μ [v0, v1, .int x] (.int x :: st) := x_iload_n dX5_slide_47 rfl
theorem e56_48 : ab_rn cl 56 J Q (k + 1) 48 μ [v0, v1, v2] (.int x1 :: .int x0 :: .ref a :: st) = (ab_ob a 5 ∧ st.length ≤ 4 ∧ cl 74 [.ref a, .int x0, .int x1] μ (fun r μ' => ab_rn cl 56 J Q k 51 μ' [v0, v1, v2] (ab_pu r st))) := x_v (as := [.int x0, .int x1]) dX5_slide_48 rfl rfl rfl rfl rfl
theorem e56_51 : ab_rn cl 56 J Q (k + 1) 51 μ [v0, v1, v2] [.int v] = Q (some v) μ := x_iret dX5_slide_51 rfl
theorem n56 {d : Nat} (h : ∀ J : ab_J, (∀ k pc μ ls st, ab_rn (ab_Cl d) 56 J Q k pc μ ls st → J pc μ ls st) → J 0 μ [v0, v1, v2] []) : ab_Cl (d + 1) 56 [v0, v1, v2] μ Q := ab_go h
theorem e57_0 : ab_rn cl 57 J Q (k + 1) 0 μ [v0, .int x, v2, v3] st = ab_rn cl 57 J Q k 1 μ [v0, .int x, v2, v3] (.int x :: st) := x_iload_n dX5_shot_0 rfl
theorem e57_1 : ab_rn cl 57 J Q (k + 1) 1 μ [v0, v1, v2, v3] (.int x0 :: st) = (st.length ≤ 4 ∧ cl 69 [.int x0] μ (fun r μ' => ab_rn cl 57 J Q k 4 μ' [v0, v1, v2, v3] (ab_pu r st))) := x_s (as := [.int x0]) (b := 0) dX5_shot_1 rfl (by decide) rfl rfl rfl
theorem e57_4 : ab_rn cl 57 J Q (k + 1) 4 μ [v0, v1, v2, v3] (.int x :: st) = (((¬ x = 0) → ab_rn cl 57 J Q k 9 μ [v0, v1, v2, v3] st) ∧ ((¬ (¬ x = 0)) → ab_rn cl 57 J Q k 7 μ [v0, v1, v2, v3] st)) := x_ifF dX5_shot_4 rfl (fun _ _ _ _ _ => rfl)
theorem e57_7 : ab_rn cl 57 J Q (k + 1) 7 μ [v0, v1, v2, v3] st = ab_rn cl 57 J Q k 8 μ [v0, v1, v2, v3] (.int (-1) :: st) := x_iconst dX5_shot_7 (by decide)
theorem e57_8 : ab_rn cl 57 J Q (k + 1) 8 μ [v0, v1, v2, v3] [.int v] = Q (some v) μ := x_iret dX5_shot_8 rfl
theorem e57_9 : ab_rn cl 57 J Q (k + 1) 9 μ [.ref a, v1, v2, v3] st = ab_rn cl 57 J Q k 10 μ [.ref a, v1, v2, v3] (.ref a :: st) := x_aload_n dX5_shot_9 rfl
theorem e57_10 : ab_rn cl 57 J Q (k + 1) 10 μ [v0, v1, v2, v3] (.ref a :: st) = (ab_ob a 5 ∧ ab_rn cl 57 J Q k 13 μ [v0, v1, v2, v3] (ab_fv μ a 0 :: st)) := x_get dX5_shot_10 rfl
theorem e57_13 : ab_rn cl 57 J Q (k + 1) 13 μ [v0, .int x, v2, v3] st = ab_rn cl 57 J Q k 14 μ [v0, .int x, v2, v3] (.int x :: st) := x_iload_n dX5_shot_13 rfl
theorem e57_14 : ab_rn cl 57 J Q (k + 1) 14 μ [v0, v1, v2, v3] (.int x :: .ref 1 :: st) = (vp_in x 12 ∧ ab_rn cl 57 J Q k 15 μ [v0, v1, v2, v3] (.ref (17 + 4 * x.toNatClampNeg) :: st)) := x_aaload dX5_shot_14
theorem e57_15 : ab_rn cl 57 J Q (k + 1) 15 μ [v0, v1, v2, v3] (.ref a :: st) = ab_rn cl 57 J Q k 16 μ [v0, v1, .ref a, v3] st := x_astore_n dX5_shot_15 (Nat.le_of_ble_eq_true rfl) rfl
theorem e57_16 : ab_rn cl 57 J Q (k + 1) 16 μ [v0, v1, .ref a, v3] st = ab_rn cl 57 J Q k 17 μ [v0, v1, .ref a, v3] (.ref a :: st) := x_aload_n dX5_shot_16 rfl
theorem e57_17 : ab_rn cl 57 J Q (k + 1) 17 μ [v0, v1, v2, v3] (.ref a :: st) = (ab_ob a 2 ∧ st.length ≤ 4 ∧ cl 10 [.ref a] μ (fun r μ' => ab_rn cl 57 J Q k 20 μ' [v0, v1, v2, v3] (ab_pu r st))) := x_v (as := []) dX5_shot_17 rfl rfl rfl rfl rfl
theorem e57_20 : ab_rn cl 57 J Q (k + 1) 20 μ [v0, v1, v2, v3] (.int x :: st) = ab_rn cl 57 J Q k 21 μ [v0, v1, v2, .int x] st := x_istore_n dX5_shot_20 (Nat.le_of_ble_eq_true rfl) rfl
theorem e57_21 : ab_rn cl 57 J Q (k + 1) 21 μ [v0, v1, .ref a, v3] st = ab_rn cl 57 J Q k 22 μ [v0, v1, .ref a, v3] (.ref a :: st) := x_aload_n dX5_shot_21 rfl
theorem e57_22 : ab_rn cl 57 J Q (k + 1) 22 μ [v0, v1, v2, .int x] st = ab_rn cl 57 J Q k 23 μ [v0, v1, v2, .int x] (.int x :: st) := x_iload_n dX5_shot_22 rfl
theorem e57_23 : ab_rn cl 57 J Q (k + 1) 23 μ [v0, v1, v2, v3] (.int x0 :: .ref a :: st) = (ab_ob a 2 ∧ st.length ≤ 4 ∧ cl 18 [.ref a, .int x0] μ (fun r μ' => ab_rn cl 57 J Q k 26 μ' [v0, v1, v2, v3] (ab_pu r st))) := x_v (as := [.int x0]) dX5_shot_23 rfl rfl rfl rfl rfl
theorem e57_26 : ab_rn cl 57 J Q (k + 1) 26 μ [v0, v1, v2, v3] st = ab_rn cl 57 J Q k 27 μ [v0, v1, v2, v3] (.int 2 :: st) := x_iconst dX5_shot_26 (by decide)
theorem e57_27 : ab_rn cl 57 J Q (k + 1) 27 μ [v0, v1, v2, v3] (.int y :: .int x :: st) = (((y ≤ x) → ab_rn cl 57 J Q k 32 μ [v0, v1, v2, v3] st) ∧ ((¬ (y ≤ x)) → ab_rn cl 57 J Q k 30 μ [v0, v1, v2, v3] st)) := x_icmpF dX5_shot_27 rfl (fun _ _ _ _ _ => rfl)
theorem e57_30 : ab_rn cl 57 J Q (k + 1) 30 μ [v0, v1, v2, v3] st = ab_rn cl 57 J Q k 31 μ [v0, v1, v2, v3] (.int 0 :: st) := x_iconst dX5_shot_30 (by decide)
theorem e57_31 : ab_rn cl 57 J Q (k + 1) 31 μ [v0, v1, v2, v3] [.int v] = Q (some v) μ := x_iret dX5_shot_31 rfl
theorem e57_32 : ab_rn cl 57 J Q (k + 1) 32 μ [.ref a, v1, v2, v3] st = ab_rn cl 57 J Q k 33 μ [.ref a, v1, v2, v3] (.ref a :: st) := x_aload_n dX5_shot_32 rfl
theorem e57_33 : ab_rn cl 57 J Q (k + 1) 33 μ [v0, .int x, v2, v3] st = ab_rn cl 57 J Q k 34 μ [v0, .int x, v2, v3] (.int x :: st) := x_iload_n dX5_shot_33 rfl
theorem e57_34 : ab_rn cl 57 J Q (k + 1) 34 μ [v0, v1, .ref a, v3] st = ab_rn cl 57 J Q k 35 μ [v0, v1, .ref a, v3] (.ref a :: st) := x_aload_n dX5_shot_34 rfl
theorem e57_35 : ab_rn cl 57 J Q (k + 1) 35 μ [v0, v1, v2, .int x] st = ab_rn cl 57 J Q k 36 μ [v0, v1, v2, .int x] (.int x :: st) := x_iload_n dX5_shot_35 rfl
theorem e57_36 : ab_rn cl 57 J Q (k + 1) 36 μ [v0, v1, v2, v3] (.int x0 :: .ref a :: st) = (ab_ob a 2 ∧ st.length ≤ 4 ∧ cl 17 [.ref a, .int x0] μ (fun r μ' => ab_rn cl 57 J Q k 39 μ' [v0, v1, v2, v3] (ab_pu r st))) := x_v (as := [.int x0]) dX5_shot_36 rfl rfl rfl rfl rfl
theorem e57_39 : ab_rn cl 57 J Q (k + 1) 39 μ [v0, v1, v2, v3] (.int x1 :: .int x0 :: .ref a :: st) = (ab_ob a 5 ∧ st.length ≤ 4 ∧ cl 74 [.ref a, .int x0, .int x1] μ (fun r μ' => ab_rn cl 57 J Q k 42 μ' [v0, v1, v2, v3] (ab_pu r st))) := x_v (as := [.int x0, .int x1]) dX5_shot_39 rfl rfl rfl rfl rfl
theorem e57_42 : ab_rn cl 57 J Q (k + 1) 42 μ [v0, v1, v2, v3] [.int v] = Q (some v) μ := x_iret dX5_shot_42 rfl
theorem n57 {d : Nat} (h : ∀ J : ab_J, (∀ k pc μ ls st, ab_rn (ab_Cl d) 57 J Q k pc μ ls st → J pc μ ls st) → J 0 μ [v0, v1, .null, .null] []) : ab_Cl (d + 1) 57 [v0, v1] μ Q := ab_go h
theorem e58_0 : ab_rn cl 58 J Q (k + 1) 0 μ [v0, .int x, v2] st = ab_rn cl 58 J Q k 1 μ [v0, .int x, v2] (.int x :: st) := x_iload_n dX5_path_0 rfl
theorem e58_1 : ab_rn cl 58 J Q (k + 1) 1 μ [v0, v1, v2] (.int x0 :: st) = (st.length ≤ 4 ∧ cl 69 [.int x0] μ (fun r μ' => ab_rn cl 58 J Q k 4 μ' [v0, v1, v2] (ab_pu r st))) := x_s (as := [.int x0]) (b := 0) dX5_path_1 rfl (by decide) rfl rfl rfl
theorem e58_4 : ab_rn cl 58 J Q (k + 1) 4 μ [v0, v1, v2] (.int x :: st) = (((x = 0) → ab_rn cl 58 J Q k 16 μ [v0, v1, v2] st) ∧ ((¬ (x = 0)) → ab_rn cl 58 J Q k 7 μ [v0, v1, v2] st)) := x_ifF dX5_path_4 rfl (fun _ _ _ _ _ => rfl)
theorem e58_7 : ab_rn cl 58 J Q (k + 1) 7 μ [v0, v1, .int x] st = ab_rn cl 58 J Q k 8 μ [v0, v1, .int x] (.int x :: st) := x_iload_n dX5_path_7 rfl
theorem e58_8 : ab_rn cl 58 J Q (k + 1) 8 μ [v0, v1, v2] (.int x :: st) = (((x < 0) → ab_rn cl 58 J Q k 16 μ [v0, v1, v2] st) ∧ ((¬ (x < 0)) → ab_rn cl 58 J Q k 11 μ [v0, v1, v2] st)) := x_ifF dX5_path_8 rfl (fun _ _ _ _ _ => rfl)
theorem e58_11 : ab_rn cl 58 J Q (k + 1) 11 μ [v0, v1, .int x] st = ab_rn cl 58 J Q k 12 μ [v0, v1, .int x] (.int x :: st) := x_iload_n dX5_path_11 rfl
theorem e58_12 : ab_rn cl 58 J Q (k + 1) 12 μ [v0, v1, v2] st = ab_rn cl 58 J Q k 13 μ [v0, v1, v2] (.int 2 :: st) := x_iconst dX5_path_12 (by decide)
theorem e58_13 : ab_rn cl 58 J Q (k + 1) 13 μ [v0, v1, v2] (.int y :: .int x :: st) = (((x ≤ y) → ab_rn cl 58 J Q k 18 μ [v0, v1, v2] st) ∧ ((¬ (x ≤ y)) → ab_rn cl 58 J Q k 16 μ [v0, v1, v2] st)) := x_icmpF dX5_path_13 rfl (fun _ _ _ _ _ => rfl)
theorem e58_16 : ab_rn cl 58 J Q (k + 1) 16 μ [v0, v1, v2] st = ab_rn cl 58 J Q k 17 μ [v0, v1, v2] (.int (-1) :: st) := x_iconst dX5_path_16 (by decide)
theorem e58_17 : ab_rn cl 58 J Q (k + 1) 17 μ [v0, v1, v2] [.int v] = Q (some v) μ := x_iret dX5_path_17 rfl
theorem e58_18 : ab_rn cl 58 J Q (k + 1) 18 μ [.ref a, v1, v2] st = ab_rn cl 58 J Q k 19 μ [.ref a, v1, v2] (.ref a :: st) := x_aload_n dX5_path_18 rfl
theorem e58_19 : ab_rn cl 58 J Q (k + 1) 19 μ [v0, v1, v2] (.ref a :: st) = (ab_ob a 5 ∧ ab_rn cl 58 J Q k 22 μ [v0, v1, v2] (ab_fv μ a 2 :: st)) := x_get dX5_path_19 rfl
theorem e58_22 : ab_rn cl 58 J Q (k + 1) 22 μ [v0, .int x, v2] st = ab_rn cl 58 J Q k 23 μ [v0, .int x, v2] (.int x :: st) := x_iload_n dX5_path_22 rfl
theorem e58_23 : ab_rn cl 58 J Q (k + 1) 23 μ [v0, v1, .int x] st = ab_rn cl 58 J Q k 24 μ [v0, v1, .int x] (.int x :: st) := x_iload_n dX5_path_23 rfl
theorem e58_24 : ab_rn cl 58 J Q (k + 1) 24 μ [v0, v1, v2] (.int x1 :: .int x0 :: .ref a :: st) = (ab_ob a 1 ∧ st.length ≤ 4 ∧ cl 6 [.ref a, .int x0, .int x1] μ (fun r μ' => ab_rn cl 58 J Q k 27 μ' [v0, v1, v2] (ab_pu r st))) := x_v (as := [.int x0, .int x1]) dX5_path_24 rfl rfl rfl rfl rfl
theorem e58_27 : ab_rn cl 58 J Q (k + 1) 27 μ [v0, v1, v2] [.int v] = Q (some v) μ := x_iret dX5_path_27 rfl
theorem n58 {d : Nat} (h : ∀ J : ab_J, (∀ k pc μ ls st, ab_rn (ab_Cl d) 58 J Q k pc μ ls st → J pc μ ls st) → J 0 μ [v0, v1, v2] []) : ab_Cl (d + 1) 58 [v0, v1, v2] μ Q := ab_go h
theorem e59_0 : ab_rn cl 59 J Q (k + 1) 0 μ [v0, v1, v2, v3] st = ab_rn cl 59 J Q k 1 μ [v0, v1, v2, v3] (.int 0 :: st) := x_iconst dX5_shut_0 (by decide)
theorem e59_1 : ab_rn cl 59 J Q (k + 1) 1 μ [v0, v1, v2, v3] (.int x :: st) = ab_rn cl 59 J Q k 2 μ [v0, .int x, v2, v3] st := x_istore_n dX5_shut_1 (Nat.le_of_ble_eq_true rfl) rfl
theorem e59_2 : ab_rn cl 59 J Q (k + 1) 2 μ [v0, v1, v2, v3] st = ab_rn cl 59 J Q k 3 μ [v0, v1, v2, v3] (.int 0 :: st) := x_iconst dX5_shut_2 (by decide)
theorem e59_3 : ab_rn cl 59 J Q (k + 1) 3 μ [v0, v1, v2, v3] (.int x :: st) = ab_rn cl 59 J Q k 4 μ [v0, v1, .int x, v3] st := x_istore_n dX5_shut_3 (Nat.le_of_ble_eq_true rfl) rfl
theorem e59_4 : ab_rn cl 59 J Q (k + 1) 4 μ [v0, v1, .int x, v3] st = ab_rn cl 59 J Q k 5 μ [v0, v1, .int x, v3] (.int x :: st) := x_iload_n dX5_shut_4 rfl
theorem e59_5 : ab_rn cl 59 J Q (k + 1) 5 μ [.ref a, v1, v2, v3] st = ab_rn cl 59 J Q k 6 μ [.ref a, v1, v2, v3] (.ref a :: st) := x_aload_n dX5_shut_5 rfl
theorem e59_6 : ab_rn cl 59 J Q (k + 1) 6 μ [v0, v1, v2, v3] (.ref a :: st) = (ab_ob a 5 ∧ ab_rn cl 59 J Q k 9 μ [v0, v1, v2, v3] (ab_fv μ a 2 :: st)) := x_get dX5_shut_6 rfl
theorem e59_9 : ab_rn cl 59 J Q (k + 1) 9 μ [v0, v1, v2, v3] (.ref a :: st) = (ab_ob a 1 ∧ st.length ≤ 4 ∧ cl 5 [.ref a] μ (fun r μ' => ab_rn cl 59 J Q k 12 μ' [v0, v1, v2, v3] (ab_pu r st))) := x_v (as := []) dX5_shut_9 rfl rfl rfl rfl rfl
theorem e59_12 : ab_rn cl 59 J Q (k + 1) 12 μ [v0, v1, v2, v3] (.int y :: .int x :: st) = (((y ≤ x) → ab_rn cl 59 J Q k 72 μ [v0, v1, v2, v3] st) ∧ ((¬ (y ≤ x)) → ab_rn cl 59 J Q k 15 μ [v0, v1, v2, v3] st)) := x_icmpF dX5_shut_12 rfl (fun _ _ _ _ _ => rfl)
theorem e59_15 : ab_rn cl 59 J Q (k + 1) 15 μ [.ref a, v1, v2, v3] st = ab_rn cl 59 J Q k 16 μ [.ref a, v1, v2, v3] (.ref a :: st) := x_aload_n dX5_shut_15 rfl
theorem e59_16 : ab_rn cl 59 J Q (k + 1) 16 μ [v0, v1, v2, v3] (.ref a :: st) = (ab_ob a 5 ∧ ab_rn cl 59 J Q k 19 μ [v0, v1, v2, v3] (ab_fv μ a 2 :: st)) := x_get dX5_shut_16 rfl
theorem e59_19 : ab_rn cl 59 J Q (k + 1) 19 μ [v0, v1, .int x, v3] st = ab_rn cl 59 J Q k 20 μ [v0, v1, .int x, v3] (.int x :: st) := x_iload_n dX5_shut_19 rfl
theorem e59_20 : ab_rn cl 59 J Q (k + 1) 20 μ [v0, v1, v2, v3] (.int x0 :: .ref a :: st) = (ab_ob a 1 ∧ st.length ≤ 4 ∧ cl 7 [.ref a, .int x0] μ (fun r μ' => ab_rn cl 59 J Q k 23 μ' [v0, v1, v2, v3] (ab_pu r st))) := x_v (as := [.int x0]) dX5_shut_20 rfl rfl rfl rfl rfl
theorem e59_23 : ab_rn cl 59 J Q (k + 1) 23 μ [v0, v1, v2, v3] (.int x :: st) = ab_rn cl 59 J Q k 24 μ [v0, v1, v2, .int x] st := x_istore_n dX5_shut_23 (Nat.le_of_ble_eq_true rfl) rfl
theorem e59_24 : ab_rn cl 59 J Q (k + 1) 24 μ [v0, v1, v2, .int x] st = ab_rn cl 59 J Q k 25 μ [v0, v1, v2, .int x] (.int x :: st) := x_iload_n dX5_shut_24 rfl
theorem e59_25 : ab_rn cl 59 J Q (k + 1) 25 μ [v0, v1, v2, v3] (.int x0 :: st) = (st.length ≤ 4 ∧ cl 69 [.int x0] μ (fun r μ' => ab_rn cl 59 J Q k 28 μ' [v0, v1, v2, v3] (ab_pu r st))) := x_s (as := [.int x0]) (b := 0) dX5_shut_25 rfl (by decide) rfl rfl rfl
theorem e59_28 : ab_rn cl 59 J Q (k + 1) 28 μ [v0, v1, v2, v3] (.int x :: st) = (((x = 0) → ab_rn cl 59 J Q k 66 μ [v0, v1, v2, v3] st) ∧ ((¬ (x = 0)) → ab_rn cl 59 J Q k 31 μ [v0, v1, v2, v3] st)) := x_ifF dX5_shut_28 rfl (fun _ _ _ _ _ => rfl)
theorem e59_31 : ab_rn cl 59 J Q (k + 1) 31 μ [.ref a, v1, v2, v3] st = ab_rn cl 59 J Q k 32 μ [.ref a, v1, v2, v3] (.ref a :: st) := x_aload_n dX5_shut_31 rfl
theorem e59_32 : ab_rn cl 59 J Q (k + 1) 32 μ [v0, v1, v2, v3] (.ref a :: st) = (ab_ob a 5 ∧ ab_rn cl 59 J Q k 35 μ [v0, v1, v2, v3] (ab_fv μ a 0 :: st)) := x_get dX5_shut_32 rfl
theorem e59_35 : ab_rn cl 59 J Q (k + 1) 35 μ [v0, v1, v2, .int x] st = ab_rn cl 59 J Q k 36 μ [v0, v1, v2, .int x] (.int x :: st) := x_iload_n dX5_shut_35 rfl
theorem e59_36 : ab_rn cl 59 J Q (k + 1) 36 μ [v0, v1, v2, v3] (.int x :: .ref 1 :: st) = (vp_in x 12 ∧ ab_rn cl 59 J Q k 37 μ [v0, v1, v2, v3] (.ref (17 + 4 * x.toNatClampNeg) :: st)) := x_aaload dX5_shut_36
theorem e59_37 : ab_rn cl 59 J Q (k + 1) 37 μ [.ref a, v1, v2, v3] st = ab_rn cl 59 J Q k 38 μ [.ref a, v1, v2, v3] (.ref a :: st) := x_aload_n dX5_shut_37 rfl
theorem e59_38 : ab_rn cl 59 J Q (k + 1) 38 μ [v0, v1, v2, v3] (.ref a :: st) = (ab_ob a 5 ∧ ab_rn cl 59 J Q k 41 μ [v0, v1, v2, v3] (ab_fv μ a 2 :: st)) := x_get dX5_shut_38 rfl
theorem e59_41 : ab_rn cl 59 J Q (k + 1) 41 μ [v0, v1, .int x, v3] st = ab_rn cl 59 J Q k 42 μ [v0, v1, .int x, v3] (.int x :: st) := x_iload_n dX5_shut_41 rfl
theorem e59_42 : ab_rn cl 59 J Q (k + 1) 42 μ [v0, v1, v2, v3] (.int x0 :: .ref a :: st) = (ab_ob a 1 ∧ st.length ≤ 4 ∧ cl 8 [.ref a, .int x0] μ (fun r μ' => ab_rn cl 59 J Q k 45 μ' [v0, v1, v2, v3] (ab_pu r st))) := x_v (as := [.int x0]) dX5_shut_42 rfl rfl rfl rfl rfl
theorem e59_45 : ab_rn cl 59 J Q (k + 1) 45 μ [.ref a, v1, v2, v3] st = ab_rn cl 59 J Q k 46 μ [.ref a, v1, v2, v3] (.ref a :: st) := x_aload_n dX5_shut_45 rfl
theorem e59_46 : ab_rn cl 59 J Q (k + 1) 46 μ [v0, v1, v2, v3] (.ref a :: st) = (ab_ob a 5 ∧ ab_rn cl 59 J Q k 49 μ [v0, v1, v2, v3] (ab_fv μ a 0 :: st)) := x_get dX5_shut_46 rfl
theorem e59_49 : ab_rn cl 59 J Q (k + 1) 49 μ [v0, v1, v2, .int x] st = ab_rn cl 59 J Q k 50 μ [v0, v1, v2, .int x] (.int x :: st) := x_iload_n dX5_shut_49 rfl
theorem e59_50 : ab_rn cl 59 J Q (k + 1) 50 μ [v0, v1, v2, v3] (.int x :: .ref 1 :: st) = (vp_in x 12 ∧ ab_rn cl 59 J Q k 51 μ [v0, v1, v2, v3] (.ref (17 + 4 * x.toNatClampNeg) :: st)) := x_aaload dX5_shut_50
theorem e59_51 : ab_rn cl 59 J Q (k + 1) 51 μ [v0, v1, v2, v3] (.ref a :: st) = (ab_ob a 2 ∧ st.length ≤ 4 ∧ cl 10 [.ref a] μ (fun r μ' => ab_rn cl 59 J Q k 54 μ' [v0, v1, v2, v3] (ab_pu r st))) := x_v (as := []) dX5_shut_51 rfl rfl rfl rfl rfl
theorem e59_54 : ab_rn cl 59 J Q (k + 1) 54 μ [v0, v1, v2, v3] (.int x1 :: .int x0 :: .ref a :: st) = (ab_ob a 2 ∧ st.length ≤ 4 ∧ cl 20 [.ref a, .int x0, .int x1] μ (fun r μ' => ab_rn cl 59 J Q k 57 μ' [v0, v1, v2, v3] (ab_pu r st))) := x_v (as := [.int x0, .int x1]) dX5_shut_54 rfl rfl rfl rfl rfl
theorem e59_57 : ab_rn cl 59 J Q (k + 1) 57 μ [v0, v1, v2, v3] (.int x :: st) = (((x = 0) → ab_rn cl 59 J Q k 66 μ [v0, v1, v2, v3] st) ∧ ((¬ (x = 0)) → ab_rn cl 59 J Q k 60 μ [v0, v1, v2, v3] st)) := x_ifF dX5_shut_57 rfl (fun _ _ _ _ _ => rfl)
theorem e59_60 : ab_rn cl 59 J Q (k + 1) 60 μ [v0, .int x, v2, v3] st = ab_rn cl 59 J Q k 61 μ [v0, .int x, v2, v3] (.int x :: st) := x_iload_n dX5_shut_60 rfl
theorem e59_61 : ab_rn cl 59 J Q (k + 1) 61 μ [v0, v1, v2, v3] st = ab_rn cl 59 J Q k 62 μ [v0, v1, v2, v3] (.int 1 :: st) := x_iconst dX5_shut_61 (by decide)
theorem e59_62 : ab_rn cl 59 J Q (k + 1) 62 μ [v0, v1, .int x, v3] st = ab_rn cl 59 J Q k 63 μ [v0, v1, .int x, v3] (.int x :: st) := x_iload_n dX5_shut_62 rfl
theorem e59_63 : ab_rn cl 59 J Q (k + 1) 63 μ [v0, v1, v2, v3] (.int y :: .int x :: st) = ab_rn cl 59 J Q k 64 μ [v0, v1, v2, v3] (.int (x <<< (y &&& 31)) :: st) := x_ishl dX5_shut_63
theorem e59_64 : ab_rn cl 59 J Q (k + 1) 64 μ [v0, v1, v2, v3] (.int y :: .int x :: st) = ab_rn cl 59 J Q k 65 μ [v0, v1, v2, v3] (.int (x ||| y) :: st) := x_ior dX5_shut_64
theorem e59_65 : ab_rn cl 59 J Q (k + 1) 65 μ [v0, v1, v2, v3] (.int x :: st) = ab_rn cl 59 J Q k 66 μ [v0, .int x, v2, v3] st := x_istore_n dX5_shut_65 (Nat.le_of_ble_eq_true rfl) rfl
theorem e59_66 : ab_rn cl 59 J Q (k + 1) 66 μ [v0, v1, .int x, v3] st = ab_rn cl 59 J Q k 69 μ [v0, v1, .int (x + 1), v3] st := x_iinc dX5_shut_66 (w := 1) (by decide) rfl rfl
theorem e59_69 : ab_rn cl 59 J Q (k + 1) 69 μ [v0, v1, v2, v3] st = J 4 μ [v0, v1, v2, v3] st := x_gotoB dX5_shut_69 (fun _ _ _ _ _ => rfl)
theorem e59_72 : ab_rn cl 59 J Q (k + 1) 72 μ [v0, .int x, v2, v3] st = ab_rn cl 59 J Q k 73 μ [v0, .int x, v2, v3] (.int x :: st) := x_iload_n dX5_shut_72 rfl
theorem e59_73 : ab_rn cl 59 J Q (k + 1) 73 μ [v0, v1, v2, v3] [.int v] = Q (some v) μ := x_iret dX5_shut_73 rfl
theorem n59 {d : Nat} (h : ∀ J : ab_J, (∀ k pc μ ls st, ab_rn (ab_Cl d) 59 J Q k pc μ ls st → J pc μ ls st) → J 0 μ [v0, .null, .null, .null] []) : ab_Cl (d + 1) 59 [v0] μ Q := ab_go h
theorem e60_0 : ab_rn cl 60 J Q (k + 1) 0 μ [v0, v1, v2, v3, v4, v5] st = ab_rn cl 60 J Q k 1 μ [v0, v1, v2, v3, v4, v5] (.int 0 :: st) := x_iconst dX5_shots_0 (by decide)
theorem e60_1 : ab_rn cl 60 J Q (k + 1) 1 μ [v0, v1, v2, v3, v4, v5] (.int x :: st) = ab_rn cl 60 J Q k 2 μ [v0, .int x, v2, v3, v4, v5] st := x_istore_n dX5_shots_1 (Nat.le_of_ble_eq_true rfl) rfl
theorem e60_2 : ab_rn cl 60 J Q (k + 1) 2 μ [v0, v1, v2, v3, v4, v5] st = ab_rn cl 60 J Q k 3 μ [v0, v1, v2, v3, v4, v5] (.int 0 :: st) := x_iconst dX5_shots_2 (by decide)
theorem e60_3 : ab_rn cl 60 J Q (k + 1) 3 μ [v0, v1, v2, v3, v4, v5] (.int x :: st) = ab_rn cl 60 J Q k 4 μ [v0, v1, .int x, v3, v4, v5] st := x_istore_n dX5_shots_3 (Nat.le_of_ble_eq_true rfl) rfl
theorem e60_4 : ab_rn cl 60 J Q (k + 1) 4 μ [v0, v1, .int x, v3, v4, v5] st = ab_rn cl 60 J Q k 5 μ [v0, v1, .int x, v3, v4, v5] (.int x :: st) := x_iload_n dX5_shots_4 rfl
theorem e60_5 : ab_rn cl 60 J Q (k + 1) 5 μ [v0, v1, v2, v3, v4, v5] st = ab_rn cl 60 J Q k 7 μ [v0, v1, v2, v3, v4, v5] (.int 12 :: st) := x_bipush dX5_shots_5 (by decide)
theorem e60_7 : ab_rn cl 60 J Q (k + 1) 7 μ [v0, v1, v2, v3, v4, v5] (.int y :: .int x :: st) = (((y ≤ x) → ab_rn cl 60 J Q k 72 μ [v0, v1, v2, v3, v4, v5] st) ∧ ((¬ (y ≤ x)) → ab_rn cl 60 J Q k 10 μ [v0, v1, v2, v3, v4, v5] st)) := x_icmpF dX5_shots_7 rfl (fun _ _ _ _ _ => rfl)
theorem e60_10 : ab_rn cl 60 J Q (k + 1) 10 μ [.ref a, v1, v2, v3, v4, v5] st = ab_rn cl 60 J Q k 11 μ [.ref a, v1, v2, v3, v4, v5] (.ref a :: st) := x_aload_n dX5_shots_10 rfl
theorem e60_11 : ab_rn cl 60 J Q (k + 1) 11 μ [v0, v1, v2, v3, v4, v5] (.ref a :: st) = (ab_ob a 5 ∧ ab_rn cl 60 J Q k 14 μ [v0, v1, v2, v3, v4, v5] (ab_fv μ a 0 :: st)) := x_get dX5_shots_11 rfl
theorem e60_14 : ab_rn cl 60 J Q (k + 1) 14 μ [v0, v1, .int x, v3, v4, v5] st = ab_rn cl 60 J Q k 15 μ [v0, v1, .int x, v3, v4, v5] (.int x :: st) := x_iload_n dX5_shots_14 rfl
theorem e60_15 : ab_rn cl 60 J Q (k + 1) 15 μ [v0, v1, v2, v3, v4, v5] (.int x :: .ref 1 :: st) = (vp_in x 12 ∧ ab_rn cl 60 J Q k 16 μ [v0, v1, v2, v3, v4, v5] (.ref (17 + 4 * x.toNatClampNeg) :: st)) := x_aaload dX5_shots_15
theorem e60_16 : ab_rn cl 60 J Q (k + 1) 16 μ [v0, v1, v2, v3, v4, v5] (.ref a :: st) = ab_rn cl 60 J Q k 17 μ [v0, v1, v2, .ref a, v4, v5] st := x_astore_n dX5_shots_16 (Nat.le_of_ble_eq_true rfl) rfl
theorem e60_17 : ab_rn cl 60 J Q (k + 1) 17 μ [.ref a, v1, v2, v3, v4, v5] st = ab_rn cl 60 J Q k 18 μ [.ref a, v1, v2, v3, v4, v5] (.ref a :: st) := x_aload_n dX5_shots_17 rfl
theorem e60_18 : ab_rn cl 60 J Q (k + 1) 18 μ [v0, v1, v2, v3, v4, v5] (.ref a :: st) = (ab_ob a 5 ∧ ab_rn cl 60 J Q k 21 μ [v0, v1, v2, v3, v4, v5] (ab_fv μ a 2 :: st)) := x_get dX5_shots_18 rfl
theorem e60_21 : ab_rn cl 60 J Q (k + 1) 21 μ [v0, v1, .int x, v3, v4, v5] st = ab_rn cl 60 J Q k 22 μ [v0, v1, .int x, v3, v4, v5] (.int x :: st) := x_iload_n dX5_shots_21 rfl
theorem e60_22 : ab_rn cl 60 J Q (k + 1) 22 μ [v0, v1, v2, v3, v4, v5] (.int x0 :: .ref a :: st) = (ab_ob a 1 ∧ st.length ≤ 4 ∧ cl 9 [.ref a, .int x0] μ (fun r μ' => ab_rn cl 60 J Q k 25 μ' [v0, v1, v2, v3, v4, v5] (ab_pu r st))) := x_v (as := [.int x0]) dX5_shots_22 rfl rfl rfl rfl rfl
theorem e60_25 : ab_rn cl 60 J Q (k + 1) 25 μ [v0, v1, v2, v3, v4, v5] (.int x :: st) = ab_rn cl 60 J Q k 27 μ [v0, v1, v2, v3, .int x, v5] st := x_istore dX5_shots_25 (Nat.le_of_ble_eq_true rfl) rfl
theorem e60_27 : ab_rn cl 60 J Q (k + 1) 27 μ [v0, v1, v2, .ref a, v4, v5] st = ab_rn cl 60 J Q k 28 μ [v0, v1, v2, .ref a, v4, v5] (.ref a :: st) := x_aload_n dX5_shots_27 rfl
theorem e60_28 : ab_rn cl 60 J Q (k + 1) 28 μ [v0, v1, v2, v3, v4, v5] (.ref a :: st) = (ab_ob a 2 ∧ st.length ≤ 4 ∧ cl 10 [.ref a] μ (fun r μ' => ab_rn cl 60 J Q k 31 μ' [v0, v1, v2, v3, v4, v5] (ab_pu r st))) := x_v (as := []) dX5_shots_28 rfl rfl rfl rfl rfl
theorem e60_31 : ab_rn cl 60 J Q (k + 1) 31 μ [v0, v1, v2, v3, v4, v5] (.int x :: st) = ab_rn cl 60 J Q k 33 μ [v0, v1, v2, v3, v4, .int x] st := x_istore dX5_shots_31 (Nat.le_of_ble_eq_true rfl) rfl
theorem e60_33 : ab_rn cl 60 J Q (k + 1) 33 μ [v0, v1, v2, .ref a, v4, v5] st = ab_rn cl 60 J Q k 34 μ [v0, v1, v2, .ref a, v4, v5] (.ref a :: st) := x_aload_n dX5_shots_33 rfl
theorem e60_34 : ab_rn cl 60 J Q (k + 1) 34 μ [v0, v1, v2, v3, .int x, v5] st = ab_rn cl 60 J Q k 36 μ [v0, v1, v2, v3, .int x, v5] (.int x :: st) := x_iload dX5_shots_34 rfl
theorem e60_36 : ab_rn cl 60 J Q (k + 1) 36 μ [v0, v1, v2, v3, v4, .int x] st = ab_rn cl 60 J Q k 38 μ [v0, v1, v2, v3, v4, .int x] (.int x :: st) := x_iload dX5_shots_36 rfl
theorem e60_38 : ab_rn cl 60 J Q (k + 1) 38 μ [v0, v1, v2, v3, v4, v5] (.int x1 :: .int x0 :: .ref a :: st) = (ab_ob a 2 ∧ st.length ≤ 4 ∧ cl 20 [.ref a, .int x0, .int x1] μ (fun r μ' => ab_rn cl 60 J Q k 41 μ' [v0, v1, v2, v3, v4, v5] (ab_pu r st))) := x_v (as := [.int x0, .int x1]) dX5_shots_38 rfl rfl rfl rfl rfl
theorem e60_41 : ab_rn cl 60 J Q (k + 1) 41 μ [v0, v1, v2, v3, v4, v5] (.int x :: st) = (((x = 0) → ab_rn cl 60 J Q k 66 μ [v0, v1, v2, v3, v4, v5] st) ∧ ((¬ (x = 0)) → ab_rn cl 60 J Q k 44 μ [v0, v1, v2, v3, v4, v5] st)) := x_ifF dX5_shots_41 rfl (fun _ _ _ _ _ => rfl)
theorem e60_44 : ab_rn cl 60 J Q (k + 1) 44 μ [v0, v1, v2, .ref a, v4, v5] st = ab_rn cl 60 J Q k 45 μ [v0, v1, v2, .ref a, v4, v5] (.ref a :: st) := x_aload_n dX5_shots_44 rfl
theorem e60_45 : ab_rn cl 60 J Q (k + 1) 45 μ [v0, v1, v2, v3, .int x, v5] st = ab_rn cl 60 J Q k 47 μ [v0, v1, v2, v3, .int x, v5] (.int x :: st) := x_iload dX5_shots_45 rfl
theorem e60_47 : ab_rn cl 60 J Q (k + 1) 47 μ [v0, v1, v2, .ref a, v4, v5] st = ab_rn cl 60 J Q k 48 μ [v0, v1, v2, .ref a, v4, v5] (.ref a :: st) := x_aload_n dX5_shots_47 rfl
theorem e60_48 : ab_rn cl 60 J Q (k + 1) 48 μ [v0, v1, v2, v3, v4, .int x] st = ab_rn cl 60 J Q k 50 μ [v0, v1, v2, v3, v4, .int x] (.int x :: st) := x_iload dX5_shots_48 rfl
theorem e60_50 : ab_rn cl 60 J Q (k + 1) 50 μ [v0, v1, v2, v3, v4, v5] (.int x0 :: .ref a :: st) = (ab_ob a 2 ∧ st.length ≤ 4 ∧ cl 17 [.ref a, .int x0] μ (fun r μ' => ab_rn cl 60 J Q k 53 μ' [v0, v1, v2, v3, v4, v5] (ab_pu r st))) := x_v (as := [.int x0]) dX5_shots_50 rfl rfl rfl rfl rfl
theorem e60_53 : ab_rn cl 60 J Q (k + 1) 53 μ [v0, v1, v2, v3, v4, v5] st = ab_rn cl 60 J Q k 54 μ [v0, v1, v2, v3, v4, v5] (.int 1 :: st) := x_iconst dX5_shots_53 (by decide)
theorem e60_54 : ab_rn cl 60 J Q (k + 1) 54 μ [v0, v1, v2, v3, v4, v5] (.int y :: .int x :: st) = ab_rn cl 60 J Q k 55 μ [v0, v1, v2, v3, v4, v5] (.int (x + y) :: st) := x_iadd dX5_shots_54
theorem e60_55 : ab_rn cl 60 J Q (k + 1) 55 μ [v0, v1, v2, v3, v4, v5] (.int x1 :: .int x0 :: .ref a :: st) = (ab_ob a 2 ∧ st.length ≤ 4 ∧ cl 20 [.ref a, .int x0, .int x1] μ (fun r μ' => ab_rn cl 60 J Q k 58 μ' [v0, v1, v2, v3, v4, v5] (ab_pu r st))) := x_v (as := [.int x0, .int x1]) dX5_shots_55 rfl rfl rfl rfl rfl
theorem e60_58 : ab_rn cl 60 J Q (k + 1) 58 μ [v0, v1, v2, v3, v4, v5] (.int x :: st) = (((x = 0) → ab_rn cl 60 J Q k 63 μ [v0, v1, v2, v3, v4, v5] st) ∧ ((¬ (x = 0)) → ab_rn cl 60 J Q k 61 μ [v0, v1, v2, v3, v4, v5] st)) := x_ifF dX5_shots_58 rfl (fun _ _ _ _ _ => rfl)
theorem e60_61 : ab_rn cl 60 J Q (k + 1) 61 μ [v0, v1, v2, v3, v4, v5] st = ab_rn cl 60 J Q k 62 μ [v0, v1, v2, v3, v4, v5] (.int (-1) :: st) := x_iconst dX5_shots_61 (by decide)
theorem e60_62 : ab_rn cl 60 J Q (k + 1) 62 μ [v0, v1, v2, v3, v4, v5] [.int v] = Q (some v) μ := x_iret dX5_shots_62 rfl
theorem e60_63 : ab_rn cl 60 J Q (k + 1) 63 μ [v0, .int x, v2, v3, v4, v5] st = ab_rn cl 60 J Q k 66 μ [v0, .int (x + 1), v2, v3, v4, v5] st := x_iinc dX5_shots_63 (w := 1) (by decide) rfl rfl
theorem e60_66 : ab_rn cl 60 J Q (k + 1) 66 μ [v0, v1, .int x, v3, v4, v5] st = ab_rn cl 60 J Q k 69 μ [v0, v1, .int (x + 1), v3, v4, v5] st := x_iinc dX5_shots_66 (w := 1) (by decide) rfl rfl
theorem e60_69 : ab_rn cl 60 J Q (k + 1) 69 μ [v0, v1, v2, v3, v4, v5] st = J 4 μ [v0, v1, v2, v3, v4, v5] st := x_gotoB dX5_shots_69 (fun _ _ _ _ _ => rfl)
theorem e60_72 : ab_rn cl 60 J Q (k + 1) 72 μ [v0, .int x, v2, v3, v4, v5] st = ab_rn cl 60 J Q k 73 μ [v0, .int x, v2, v3, v4, v5] (.int x :: st) := x_iload_n dX5_shots_72 rfl
theorem e60_73 : ab_rn cl 60 J Q (k + 1) 73 μ [v0, v1, v2, v3, v4, v5] [.int v] = Q (some v) μ := x_iret dX5_shots_73 rfl
theorem n60 {d : Nat} (h : ∀ J : ab_J, (∀ k pc μ ls st, ab_rn (ab_Cl d) 60 J Q k pc μ ls st → J pc μ ls st) → J 0 μ [v0, .null, .null, .null, .null, .null] []) : ab_Cl (d + 1) 60 [v0] μ Q := ab_go h
theorem e61_0 : ab_rn cl 61 J Q (k + 1) 0 μ [.ref a] st = ab_rn cl 61 J Q k 1 μ [.ref a] (.ref a :: st) := x_aload_n dX5_pit_0 rfl
theorem e61_1 : ab_rn cl 61 J Q (k + 1) 1 μ [v0] (.ref a :: st) = (ab_ob a 5 ∧ ab_rn cl 61 J Q k 4 μ [v0] (ab_fv μ a 3 :: st)) := x_get dX5_pit_1 rfl
theorem e61_4 : ab_rn cl 61 J Q (k + 1) 4 μ [v0] (.ref a :: st) = (ab_ob a 0 ∧ st.length ≤ 4 ∧ cl 1 [.ref a] μ (fun r μ' => ab_rn cl 61 J Q k 7 μ' [v0] (ab_pu r st))) := x_v (as := []) dX5_pit_4 rfl rfl rfl rfl rfl
theorem e61_7 : ab_rn cl 61 J Q (k + 1) 7 μ [v0] [.int v] = Q (some v) μ := x_iret dX5_pit_7 rfl
theorem n61 {d : Nat} (h : ∀ J : ab_J, (∀ k pc μ ls st, ab_rn (ab_Cl d) 61 J Q k pc μ ls st → J pc μ ls st) → J 0 μ [v0] []) : ab_Cl (d + 1) 61 [v0] μ Q := ab_go h
theorem e62_0 : ab_rn cl 62 J Q (k + 1) 0 μ [.ref a, v1, v2] st = ab_rn cl 62 J Q k 1 μ [.ref a, v1, v2] (.ref a :: st) := x_aload_n dX5_seen_0 rfl
theorem e62_1 : ab_rn cl 62 J Q (k + 1) 1 μ [v0, v1, v2] (.ref a :: st) = (ab_ob a 5 ∧ ab_rn cl 62 J Q k 4 μ [v0, v1, v2] (ab_fv μ a 3 :: st)) := x_get dX5_seen_1 rfl
theorem e62_4 : ab_rn cl 62 J Q (k + 1) 4 μ [v0, .int x, v2] st = ab_rn cl 62 J Q k 5 μ [v0, .int x, v2] (.int x :: st) := x_iload_n dX5_seen_4 rfl
theorem e62_5 : ab_rn cl 62 J Q (k + 1) 5 μ [v0, v1, .int x] st = ab_rn cl 62 J Q k 6 μ [v0, v1, .int x] (.int x :: st) := x_iload_n dX5_seen_5 rfl
theorem e62_6 : ab_rn cl 62 J Q (k + 1) 6 μ [v0, v1, v2] (.int x1 :: .int x0 :: .ref a :: st) = (ab_ob a 0 ∧ st.length ≤ 4 ∧ cl 2 [.ref a, .int x0, .int x1] μ (fun r μ' => ab_rn cl 62 J Q k 9 μ' [v0, v1, v2] (ab_pu r st))) := x_v (as := [.int x0, .int x1]) dX5_seen_6 rfl rfl rfl rfl rfl
theorem e62_9 : ab_rn cl 62 J Q (k + 1) 9 μ [v0, v1, v2] [.int v] = Q (some v) μ := x_iret dX5_seen_9 rfl
theorem n62 {d : Nat} (h : ∀ J : ab_J, (∀ k pc μ ls st, ab_rn (ab_Cl d) 62 J Q k pc μ ls st → J pc μ ls st) → J 0 μ [v0, v1, v2] []) : ab_Cl (d + 1) 62 [v0, v1, v2] μ Q := ab_go h
theorem e63_0 : ab_rn cl 63 J Q (k + 1) 0 μ [v0, .int x] st = ab_rn cl 63 J Q k 1 μ [v0, .int x] (.int x :: st) := x_iload_n dX5_matched_0 rfl
theorem e63_1 : ab_rn cl 63 J Q (k + 1) 1 μ [v0, v1] (.int x0 :: st) = (st.length ≤ 4 ∧ cl 69 [.int x0] μ (fun r μ' => ab_rn cl 63 J Q k 4 μ' [v0, v1] (ab_pu r st))) := x_s (as := [.int x0]) (b := 0) dX5_matched_1 rfl (by decide) rfl rfl rfl
theorem e63_4 : ab_rn cl 63 J Q (k + 1) 4 μ [v0, v1] (.int x :: st) = (((x = 0) → ab_rn cl 63 J Q k 23 μ [v0, v1] st) ∧ ((¬ (x = 0)) → ab_rn cl 63 J Q k 7 μ [v0, v1] st)) := x_ifF dX5_matched_4 rfl (fun _ _ _ _ _ => rfl)
theorem e63_7 : ab_rn cl 63 J Q (k + 1) 7 μ [.ref a, v1] st = ab_rn cl 63 J Q k 8 μ [.ref a, v1] (.ref a :: st) := x_aload_n dX5_matched_7 rfl
theorem e63_8 : ab_rn cl 63 J Q (k + 1) 8 μ [v0, v1] (.ref a :: st) = (ab_ob a 5 ∧ ab_rn cl 63 J Q k 11 μ [v0, v1] (ab_fv μ a 3 :: st)) := x_get dX5_matched_8 rfl
theorem e63_11 : ab_rn cl 63 J Q (k + 1) 11 μ [.ref a, v1] st = ab_rn cl 63 J Q k 12 μ [.ref a, v1] (.ref a :: st) := x_aload_n dX5_matched_11 rfl
theorem e63_12 : ab_rn cl 63 J Q (k + 1) 12 μ [v0, v1] (.ref a :: st) = (ab_ob a 5 ∧ ab_rn cl 63 J Q k 15 μ [v0, v1] (ab_fv μ a 0 :: st)) := x_get dX5_matched_12 rfl
theorem e63_15 : ab_rn cl 63 J Q (k + 1) 15 μ [v0, .int x] st = ab_rn cl 63 J Q k 16 μ [v0, .int x] (.int x :: st) := x_iload_n dX5_matched_15 rfl
theorem e63_16 : ab_rn cl 63 J Q (k + 1) 16 μ [v0, v1] (.int x :: .ref 1 :: st) = (vp_in x 12 ∧ ab_rn cl 63 J Q k 17 μ [v0, v1] (.ref (17 + 4 * x.toNatClampNeg) :: st)) := x_aaload dX5_matched_16
theorem e63_17 : ab_rn cl 63 J Q (k + 1) 17 μ [v0, v1] (.ref a0 :: .ref a :: st) = (ab_ob a 0 ∧ st.length ≤ 4 ∧ cl 3 [.ref a, .ref a0] μ (fun r μ' => ab_rn cl 63 J Q k 20 μ' [v0, v1] (ab_pu r st))) := x_v (as := [.ref a0]) dX5_matched_17 rfl rfl rfl rfl rfl
theorem e63_20 : ab_rn cl 63 J Q (k + 1) 20 μ [v0, v1] st = ab_rn cl 63 J Q k 24 μ [v0, v1] st := x_gotoF dX5_matched_20 (fun _ _ _ _ _ => rfl)
theorem e63_23 : ab_rn cl 63 J Q (k + 1) 23 μ [v0, v1] st = ab_rn cl 63 J Q k 24 μ [v0, v1] (.int (-1) :: st) := x_iconst dX5_matched_23 (by decide)
theorem e63_24 : ab_rn cl 63 J Q (k + 1) 24 μ [v0, v1] [.int v] = Q (some v) μ := x_iret dX5_matched_24 rfl
theorem n63 {d : Nat} (h : ∀ J : ab_J, (∀ k pc μ ls st, ab_rn (ab_Cl d) 63 J Q k pc μ ls st → J pc μ ls st) → J 0 μ [v0, v1] []) : ab_Cl (d + 1) 63 [v0, v1] μ Q := ab_go h
theorem e64_0 : ab_rn cl 64 J Q (k + 1) 0 μ [v0, v1, v2, v3, v4] st = ab_rn cl 64 J Q k 1 μ [v0, v1, v2, v3, v4] (.int 0 :: st) := x_iconst dX5_nearest_0 (by decide)
theorem e64_1 : ab_rn cl 64 J Q (k + 1) 1 μ [v0, v1, v2, v3, v4] (.int x :: st) = ab_rn cl 64 J Q k 2 μ [v0, .int x, v2, v3, v4] st := x_istore_n dX5_nearest_1 (Nat.le_of_ble_eq_true rfl) rfl
theorem e64_2 : ab_rn cl 64 J Q (k + 1) 2 μ [.ref a, v1, v2, v3, v4] st = ab_rn cl 64 J Q k 3 μ [.ref a, v1, v2, v3, v4] (.ref a :: st) := x_aload_n dX5_nearest_2 rfl
theorem e64_3 : ab_rn cl 64 J Q (k + 1) 3 μ [v0, v1, v2, v3, v4] (.ref a :: st) = (ab_ob a 5 ∧ ab_rn cl 64 J Q k 6 μ [v0, v1, v2, v3, v4] (ab_fv μ a 3 :: st)) := x_get dX5_nearest_3 rfl
theorem e64_6 : ab_rn cl 64 J Q (k + 1) 6 μ [.ref a, v1, v2, v3, v4] st = ab_rn cl 64 J Q k 7 μ [.ref a, v1, v2, v3, v4] (.ref a :: st) := x_aload_n dX5_nearest_6 rfl
theorem e64_7 : ab_rn cl 64 J Q (k + 1) 7 μ [v0, v1, v2, v3, v4] (.ref a :: st) = (ab_ob a 5 ∧ ab_rn cl 64 J Q k 10 μ [v0, v1, v2, v3, v4] (ab_fv μ a 0 :: st)) := x_get dX5_nearest_7 rfl
theorem e64_10 : ab_rn cl 64 J Q (k + 1) 10 μ [v0, v1, v2, v3, v4] st = ab_rn cl 64 J Q k 11 μ [v0, v1, v2, v3, v4] (.int 0 :: st) := x_iconst dX5_nearest_10 (by decide)
theorem e64_11 : ab_rn cl 64 J Q (k + 1) 11 μ [v0, v1, v2, v3, v4] (.int x :: .ref 1 :: st) = (vp_in x 12 ∧ ab_rn cl 64 J Q k 12 μ [v0, v1, v2, v3, v4] (.ref (17 + 4 * x.toNatClampNeg) :: st)) := x_aaload dX5_nearest_11
theorem e64_12 : ab_rn cl 64 J Q (k + 1) 12 μ [v0, v1, v2, v3, v4] (.ref a0 :: .ref a :: st) = (ab_ob a 0 ∧ st.length ≤ 4 ∧ cl 3 [.ref a, .ref a0] μ (fun r μ' => ab_rn cl 64 J Q k 15 μ' [v0, v1, v2, v3, v4] (ab_pu r st))) := x_v (as := [.ref a0]) dX5_nearest_12 rfl rfl rfl rfl rfl
theorem e64_15 : ab_rn cl 64 J Q (k + 1) 15 μ [v0, v1, v2, v3, v4] (.int x :: st) = ab_rn cl 64 J Q k 16 μ [v0, v1, .int x, v3, v4] st := x_istore_n dX5_nearest_15 (Nat.le_of_ble_eq_true rfl) rfl
theorem e64_16 : ab_rn cl 64 J Q (k + 1) 16 μ [v0, v1, v2, v3, v4] st = ab_rn cl 64 J Q k 17 μ [v0, v1, v2, v3, v4] (.int 1 :: st) := x_iconst dX5_nearest_16 (by decide)
theorem e64_17 : ab_rn cl 64 J Q (k + 1) 17 μ [v0, v1, v2, v3, v4] (.int x :: st) = ab_rn cl 64 J Q k 18 μ [v0, v1, v2, .int x, v4] st := x_istore_n dX5_nearest_17 (Nat.le_of_ble_eq_true rfl) rfl
theorem e64_18 : ab_rn cl 64 J Q (k + 1) 18 μ [v0, v1, v2, .int x, v4] st = ab_rn cl 64 J Q k 19 μ [v0, v1, v2, .int x, v4] (.int x :: st) := x_iload_n dX5_nearest_18 rfl
theorem e64_19 : ab_rn cl 64 J Q (k + 1) 19 μ [v0, v1, v2, v3, v4] st = ab_rn cl 64 J Q k 21 μ [v0, v1, v2, v3, v4] (.int 12 :: st) := x_bipush dX5_nearest_19 (by decide)
theorem e64_21 : ab_rn cl 64 J Q (k + 1) 21 μ [v0, v1, v2, v3, v4] (.int y :: .int x :: st) = (((y ≤ x) → ab_rn cl 64 J Q k 56 μ [v0, v1, v2, v3, v4] st) ∧ ((¬ (y ≤ x)) → ab_rn cl 64 J Q k 24 μ [v0, v1, v2, v3, v4] st)) := x_icmpF dX5_nearest_21 rfl (fun _ _ _ _ _ => rfl)
theorem e64_24 : ab_rn cl 64 J Q (k + 1) 24 μ [.ref a, v1, v2, v3, v4] st = ab_rn cl 64 J Q k 25 μ [.ref a, v1, v2, v3, v4] (.ref a :: st) := x_aload_n dX5_nearest_24 rfl
theorem e64_25 : ab_rn cl 64 J Q (k + 1) 25 μ [v0, v1, v2, v3, v4] (.ref a :: st) = (ab_ob a 5 ∧ ab_rn cl 64 J Q k 28 μ [v0, v1, v2, v3, v4] (ab_fv μ a 3 :: st)) := x_get dX5_nearest_25 rfl
theorem e64_28 : ab_rn cl 64 J Q (k + 1) 28 μ [.ref a, v1, v2, v3, v4] st = ab_rn cl 64 J Q k 29 μ [.ref a, v1, v2, v3, v4] (.ref a :: st) := x_aload_n dX5_nearest_28 rfl
theorem e64_29 : ab_rn cl 64 J Q (k + 1) 29 μ [v0, v1, v2, v3, v4] (.ref a :: st) = (ab_ob a 5 ∧ ab_rn cl 64 J Q k 32 μ [v0, v1, v2, v3, v4] (ab_fv μ a 0 :: st)) := x_get dX5_nearest_29 rfl
theorem e64_32 : ab_rn cl 64 J Q (k + 1) 32 μ [v0, v1, v2, .int x, v4] st = ab_rn cl 64 J Q k 33 μ [v0, v1, v2, .int x, v4] (.int x :: st) := x_iload_n dX5_nearest_32 rfl
theorem e64_33 : ab_rn cl 64 J Q (k + 1) 33 μ [v0, v1, v2, v3, v4] (.int x :: .ref 1 :: st) = (vp_in x 12 ∧ ab_rn cl 64 J Q k 34 μ [v0, v1, v2, v3, v4] (.ref (17 + 4 * x.toNatClampNeg) :: st)) := x_aaload dX5_nearest_33
theorem e64_34 : ab_rn cl 64 J Q (k + 1) 34 μ [v0, v1, v2, v3, v4] (.ref a0 :: .ref a :: st) = (ab_ob a 0 ∧ st.length ≤ 4 ∧ cl 3 [.ref a, .ref a0] μ (fun r μ' => ab_rn cl 64 J Q k 37 μ' [v0, v1, v2, v3, v4] (ab_pu r st))) := x_v (as := [.ref a0]) dX5_nearest_34 rfl rfl rfl rfl rfl
theorem e64_37 : ab_rn cl 64 J Q (k + 1) 37 μ [v0, v1, v2, v3, v4] (.int x :: st) = ab_rn cl 64 J Q k 39 μ [v0, v1, v2, v3, .int x] st := x_istore dX5_nearest_37 (Nat.le_of_ble_eq_true rfl) rfl
theorem e64_39 : ab_rn cl 64 J Q (k + 1) 39 μ [v0, v1, v2, v3, .int x] st = ab_rn cl 64 J Q k 41 μ [v0, v1, v2, v3, .int x] (.int x :: st) := x_iload dX5_nearest_39 rfl
theorem e64_41 : ab_rn cl 64 J Q (k + 1) 41 μ [v0, v1, .int x, v3, v4] st = ab_rn cl 64 J Q k 42 μ [v0, v1, .int x, v3, v4] (.int x :: st) := x_iload_n dX5_nearest_41 rfl
theorem e64_42 : ab_rn cl 64 J Q (k + 1) 42 μ [v0, v1, v2, v3, v4] (.int y :: .int x :: st) = (((y ≤ x) → ab_rn cl 64 J Q k 50 μ [v0, v1, v2, v3, v4] st) ∧ ((¬ (y ≤ x)) → ab_rn cl 64 J Q k 45 μ [v0, v1, v2, v3, v4] st)) := x_icmpF dX5_nearest_42 rfl (fun _ _ _ _ _ => rfl)
theorem e64_45 : ab_rn cl 64 J Q (k + 1) 45 μ [v0, v1, v2, v3, .int x] st = ab_rn cl 64 J Q k 47 μ [v0, v1, v2, v3, .int x] (.int x :: st) := x_iload dX5_nearest_45 rfl
theorem e64_47 : ab_rn cl 64 J Q (k + 1) 47 μ [v0, v1, v2, v3, v4] (.int x :: st) = ab_rn cl 64 J Q k 48 μ [v0, v1, .int x, v3, v4] st := x_istore_n dX5_nearest_47 (Nat.le_of_ble_eq_true rfl) rfl
theorem e64_48 : ab_rn cl 64 J Q (k + 1) 48 μ [v0, v1, v2, .int x, v4] st = ab_rn cl 64 J Q k 49 μ [v0, v1, v2, .int x, v4] (.int x :: st) := x_iload_n dX5_nearest_48 rfl
theorem e64_49 : ab_rn cl 64 J Q (k + 1) 49 μ [v0, v1, v2, v3, v4] (.int x :: st) = ab_rn cl 64 J Q k 50 μ [v0, .int x, v2, v3, v4] st := x_istore_n dX5_nearest_49 (Nat.le_of_ble_eq_true rfl) rfl
theorem e64_50 : ab_rn cl 64 J Q (k + 1) 50 μ [v0, v1, v2, .int x, v4] st = ab_rn cl 64 J Q k 53 μ [v0, v1, v2, .int (x + 1), v4] st := x_iinc dX5_nearest_50 (w := 1) (by decide) rfl rfl
theorem e64_53 : ab_rn cl 64 J Q (k + 1) 53 μ [v0, v1, v2, v3, v4] st = J 18 μ [v0, v1, v2, v3, v4] st := x_gotoB dX5_nearest_53 (fun _ _ _ _ _ => rfl)
theorem e64_56 : ab_rn cl 64 J Q (k + 1) 56 μ [v0, .int x, v2, v3, v4] st = ab_rn cl 64 J Q k 57 μ [v0, .int x, v2, v3, v4] (.int x :: st) := x_iload_n dX5_nearest_56 rfl
theorem e64_57 : ab_rn cl 64 J Q (k + 1) 57 μ [v0, v1, v2, v3, v4] [.int v] = Q (some v) μ := x_iret dX5_nearest_57 rfl
theorem n64 {d : Nat} (h : ∀ J : ab_J, (∀ k pc μ ls st, ab_rn (ab_Cl d) 64 J Q k pc μ ls st → J pc μ ls st) → J 0 μ [v0, .null, .null, .null, .null] []) : ab_Cl (d + 1) 64 [v0] μ Q := ab_go h
theorem e65_0 : ab_rn cl 65 J Q (k + 1) 0 μ [v0, .int x, v2] st = ab_rn cl 65 J Q k 1 μ [v0, .int x, v2] (.int x :: st) := x_iload_n dX5_watch_0 rfl
theorem e65_1 : ab_rn cl 65 J Q (k + 1) 1 μ [v0, v1, v2] (.int x0 :: st) = (st.length ≤ 4 ∧ cl 69 [.int x0] μ (fun r μ' => ab_rn cl 65 J Q k 4 μ' [v0, v1, v2] (ab_pu r st))) := x_s (as := [.int x0]) (b := 0) dX5_watch_1 rfl (by decide) rfl rfl rfl
theorem e65_4 : ab_rn cl 65 J Q (k + 1) 4 μ [v0, v1, v2] (.int x :: st) = (((x = 0) → ab_rn cl 65 J Q k 17 μ [v0, v1, v2] st) ∧ ((¬ (x = 0)) → ab_rn cl 65 J Q k 7 μ [v0, v1, v2] st)) := x_ifF dX5_watch_4 rfl (fun _ _ _ _ _ => rfl)
theorem e65_7 : ab_rn cl 65 J Q (k + 1) 7 μ [.ref a, v1, v2] st = ab_rn cl 65 J Q k 8 μ [.ref a, v1, v2] (.ref a :: st) := x_aload_n dX5_watch_7 rfl
theorem e65_8 : ab_rn cl 65 J Q (k + 1) 8 μ [v0, v1, v2] (.ref a :: st) = (ab_ob a 5 ∧ ab_rn cl 65 J Q k 11 μ [v0, v1, v2] (ab_fv μ a 5 :: st)) := x_get dX5_watch_8 rfl
theorem e65_11 : ab_rn cl 65 J Q (k + 1) 11 μ [v0, v1, v2] st = ab_rn cl 65 J Q k 14 μ [v0, v1, v2] (.int 400 :: st) := x_sipush dX5_watch_11 (by decide)
theorem e65_14 : ab_rn cl 65 J Q (k + 1) 14 μ [v0, v1, v2] (.int y :: .int x :: st) = (((x < y) → ab_rn cl 65 J Q k 19 μ [v0, v1, v2] st) ∧ ((¬ (x < y)) → ab_rn cl 65 J Q k 17 μ [v0, v1, v2] st)) := x_icmpF dX5_watch_14 rfl (fun _ _ _ _ _ => rfl)
theorem e65_17 : ab_rn cl 65 J Q (k + 1) 17 μ [v0, v1, v2] st = ab_rn cl 65 J Q k 18 μ [v0, v1, v2] (.int (-1) :: st) := x_iconst dX5_watch_17 (by decide)
theorem e65_18 : ab_rn cl 65 J Q (k + 1) 18 μ [v0, v1, v2] [.int v] = Q (some v) μ := x_iret dX5_watch_18 rfl
theorem e65_19 : ab_rn cl 65 J Q (k + 1) 19 μ [.ref a, v1, v2] st = ab_rn cl 65 J Q k 20 μ [.ref a, v1, v2] (.ref a :: st) := x_aload_n dX5_watch_19 rfl
theorem e65_20 : ab_rn cl 65 J Q (k + 1) 20 μ [v0, .int x, v2] st = ab_rn cl 65 J Q k 21 μ [v0, .int x, v2] (.int x :: st) := x_iload_n dX5_watch_20 rfl
theorem e65_21 : ab_rn cl 65 J Q (k + 1) 21 μ [v0, v1, v2] (.int x0 :: .ref a :: st) = (ab_ob a 5 ∧ st.length ≤ 4 ∧ cl 75 [.ref a, .int x0] μ (fun r μ' => ab_rn cl 65 J Q k 24 μ' [v0, v1, v2] (ab_pu r st))) := x_v (as := [.int x0]) dX5_watch_21 rfl rfl rfl rfl rfl
theorem e65_24 : ab_rn cl 65 J Q (k + 1) 24 μ [v0, v1, v2] (.int x :: st) = ab_rn cl 65 J Q k 25 μ [v0, v1, .int x] st := x_istore_n dX5_watch_24 (Nat.le_of_ble_eq_true rfl) rfl
theorem e65_25 : ab_rn cl 65 J Q (k + 1) 25 μ [.ref a, v1, v2] st = ab_rn cl 65 J Q k 26 μ [.ref a, v1, v2] (.ref a :: st) := x_aload_n dX5_watch_25 rfl
theorem e65_26 : ab_rn cl 65 J Q (k + 1) 26 μ [v0, v1, v2] (.ref a :: st) = (ab_ob a 5 ∧ ab_rn cl 65 J Q k 29 μ [v0, v1, v2] (ab_fv μ a 4 :: st)) := x_get dX5_watch_26 rfl
theorem e65_29 : ab_rn cl 65 J Q (k + 1) 29 μ [v0, .int x, v2] st = ab_rn cl 65 J Q k 30 μ [v0, .int x, v2] (.int x :: st) := x_iload_n dX5_watch_29 rfl
theorem e65_30 : ab_rn cl 65 J Q (k + 1) 30 μ [v0, v1, .int x] st = ab_rn cl 65 J Q k 31 μ [v0, v1, .int x] (.int x :: st) := x_iload_n dX5_watch_30 rfl
theorem e65_31 : ab_rn cl 65 J Q (k + 1) 31 μ [v0, v1, v2] (.int x1 :: .int x0 :: .ref a :: st) = (ab_ob a 3 ∧ st.length ≤ 4 ∧ cl 34 [.ref a, .int x0, .int x1] μ (fun r μ' => ab_rn cl 65 J Q k 34 μ' [v0, v1, v2] (ab_pu r st))) := x_v (as := [.int x0, .int x1]) dX5_watch_31 rfl rfl rfl rfl rfl
theorem e65_34 : ab_rn cl 65 J Q (k + 1) 34 μ [v0, v1, .int x] st = ab_rn cl 65 J Q k 35 μ [v0, v1, .int x] (.int x :: st) := x_iload_n dX5_watch_34 rfl
theorem e65_35 : ab_rn cl 65 J Q (k + 1) 35 μ [v0, v1, v2] [.int v] = Q (some v) μ := x_iret dX5_watch_35 rfl
theorem n65 {d : Nat} (h : ∀ J : ab_J, (∀ k pc μ ls st, ab_rn (ab_Cl d) 65 J Q k pc μ ls st → J pc μ ls st) → J 0 μ [v0, v1, .null] []) : ab_Cl (d + 1) 65 [v0, v1] μ Q := ab_go h
theorem e66_0 : ab_rn cl 66 J Q (k + 1) 0 μ [.ref a, v1] st = ab_rn cl 66 J Q k 1 μ [.ref a, v1] (.ref a :: st) := x_aload_n dX5_right_0 rfl
theorem e66_1 : ab_rn cl 66 J Q (k + 1) 1 μ [v0, v1] (.ref a :: st) = (ab_ob a 5 ∧ ab_rn cl 66 J Q k 4 μ [v0, v1] (ab_fv μ a 4 :: st)) := x_get dX5_right_1 rfl
theorem e66_4 : ab_rn cl 66 J Q (k + 1) 4 μ [v0, .int x] st = ab_rn cl 66 J Q k 5 μ [v0, .int x] (.int x :: st) := x_iload_n dX5_right_4 rfl
theorem e66_5 : ab_rn cl 66 J Q (k + 1) 5 μ [v0, v1] (.int x0 :: .ref a :: st) = (ab_ob a 3 ∧ st.length ≤ 4 ∧ cl 35 [.ref a, .int x0] μ (fun r μ' => ab_rn cl 66 J Q k 8 μ' [v0, v1] (ab_pu r st))) := x_v (as := [.int x0]) dX5_right_5 rfl rfl rfl rfl rfl
theorem e66_8 : ab_rn cl 66 J Q (k + 1) 8 μ [v0, v1] [.int v] = Q (some v) μ := x_iret dX5_right_8 rfl
theorem n66 {d : Nat} (h : ∀ J : ab_J, (∀ k pc μ ls st, ab_rn (ab_Cl d) 66 J Q k pc μ ls st → J pc μ ls st) → J 0 μ [v0, v1] []) : ab_Cl (d + 1) 66 [v0, v1] μ Q := ab_go h
theorem e67_0 : ab_rn cl 67 J Q (k + 1) 0 μ [v0, .int x] st = ab_rn cl 67 J Q k 1 μ [v0, .int x] (.int x :: st) := x_iload_n dX5_count_0 rfl
theorem e67_1_0 : ab_rn cl 67 J Q (k + 1) 1 μ [v0, v1] (.int 0 :: st) = ab_rn cl 67 J Q k 48 μ [v0, v1] st := x_tsiF dX5_count_1 (by decide) (off := 47) (by decide +kernel) (fun _ _ _ _ _ => rfl)
theorem e67_1_1 : ab_rn cl 67 J Q (k + 1) 1 μ [v0, v1] (.int 1 :: st) = ab_rn cl 67 J Q k 53 μ [v0, v1] st := x_tsiF dX5_count_1 (by decide) (off := 52) (by decide +kernel) (fun _ _ _ _ _ => rfl)
theorem e67_1_2 : ab_rn cl 67 J Q (k + 1) 1 μ [v0, v1] (.int 2 :: st) = ab_rn cl 67 J Q k 58 μ [v0, v1] st := x_tsiF dX5_count_1 (by decide) (off := 57) (by decide +kernel) (fun _ _ _ _ _ => rfl)
theorem e67_1_3 : ab_rn cl 67 J Q (k + 1) 1 μ [v0, v1] (.int 3 :: st) = ab_rn cl 67 J Q k 63 μ [v0, v1] st := x_tsiF dX5_count_1 (by decide) (off := 62) (by decide +kernel) (fun _ _ _ _ _ => rfl)
theorem e67_1_4 : ab_rn cl 67 J Q (k + 1) 1 μ [v0, v1] (.int 4 :: st) = ab_rn cl 67 J Q k 68 μ [v0, v1] st := x_tsiF dX5_count_1 (by decide) (off := 67) (by decide +kernel) (fun _ _ _ _ _ => rfl)
theorem e67_1_5 : ab_rn cl 67 J Q (k + 1) 1 μ [v0, v1] (.int 5 :: st) = ab_rn cl 67 J Q k 73 μ [v0, v1] st := x_tsiF dX5_count_1 (by decide) (off := 72) (by decide +kernel) (fun _ _ _ _ _ => rfl)
theorem e67_1_6 : ab_rn cl 67 J Q (k + 1) 1 μ [v0, v1] (.int 6 :: st) = ab_rn cl 67 J Q k 78 μ [v0, v1] st := x_tsiF dX5_count_1 (by decide) (off := 77) (by decide +kernel) (fun _ _ _ _ _ => rfl)
theorem e67_1_7 : ab_rn cl 67 J Q (k + 1) 1 μ [v0, v1] (.int 7 :: st) = ab_rn cl 67 J Q k 86 μ [v0, v1] st := x_tsiF dX5_count_1 (by decide) (off := 85) (by decide +kernel) (fun _ _ _ _ _ => rfl)
theorem e67_1d (h : x < 0 ∨ 7 < x) : ab_rn cl 67 J Q (k + 1) 1 μ [v0, v1] (.int x :: st) = ab_rn cl 67 J Q k 94 μ [v0, v1] st := x_tsoF dX5_count_1 (ab_tso h) (fun _ _ _ _ _ => rfl)
theorem e67_48 : ab_rn cl 67 J Q (k + 1) 48 μ [.ref a, v1] st = ab_rn cl 67 J Q k 49 μ [.ref a, v1] (.ref a :: st) := x_aload_n dX5_count_48 rfl
theorem e67_49 : ab_rn cl 67 J Q (k + 1) 49 μ [v0, v1] (.ref a :: st) = (ab_ob a 5 ∧ ab_rn cl 67 J Q k 52 μ [v0, v1] (ab_fv μ a 5 :: st)) := x_get dX5_count_49 rfl
theorem e67_52 : ab_rn cl 67 J Q (k + 1) 52 μ [v0, v1] [.int v] = Q (some v) μ := x_iret dX5_count_52 rfl
theorem e67_53 : ab_rn cl 67 J Q (k + 1) 53 μ [.ref a, v1] st = ab_rn cl 67 J Q k 54 μ [.ref a, v1] (.ref a :: st) := x_aload_n dX5_count_53 rfl
theorem e67_54 : ab_rn cl 67 J Q (k + 1) 54 μ [v0, v1] (.ref a :: st) = (ab_ob a 5 ∧ st.length ≤ 4 ∧ cl 78 [.ref a] μ (fun r μ' => ab_rn cl 67 J Q k 57 μ' [v0, v1] (ab_pu r st))) := x_v (as := []) dX5_count_54 rfl rfl rfl rfl rfl
theorem e67_57 : ab_rn cl 67 J Q (k + 1) 57 μ [v0, v1] [.int v] = Q (some v) μ := x_iret dX5_count_57 rfl
theorem e67_58 : ab_rn cl 67 J Q (k + 1) 58 μ [.ref a, v1] st = ab_rn cl 67 J Q k 59 μ [.ref a, v1] (.ref a :: st) := x_aload_n dX5_count_58 rfl
theorem e67_59 : ab_rn cl 67 J Q (k + 1) 59 μ [v0, v1] (.ref a :: st) = (ab_ob a 5 ∧ ab_rn cl 67 J Q k 62 μ [v0, v1] (ab_fv μ a 6 :: st)) := x_get dX5_count_59 rfl
theorem e67_62 : ab_rn cl 67 J Q (k + 1) 62 μ [v0, v1] [.int v] = Q (some v) μ := x_iret dX5_count_62 rfl
theorem e67_63 : ab_rn cl 67 J Q (k + 1) 63 μ [.ref a, v1] st = ab_rn cl 67 J Q k 64 μ [.ref a, v1] (.ref a :: st) := x_aload_n dX5_count_63 rfl
theorem e67_64 : ab_rn cl 67 J Q (k + 1) 64 μ [v0, v1] (.ref a :: st) = (ab_ob a 5 ∧ ab_rn cl 67 J Q k 67 μ [v0, v1] (ab_fv μ a 7 :: st)) := x_get dX5_count_64 rfl
theorem e67_67 : ab_rn cl 67 J Q (k + 1) 67 μ [v0, v1] [.int v] = Q (some v) μ := x_iret dX5_count_67 rfl
theorem e67_68 : ab_rn cl 67 J Q (k + 1) 68 μ [.ref a, v1] st = ab_rn cl 67 J Q k 69 μ [.ref a, v1] (.ref a :: st) := x_aload_n dX5_count_68 rfl
theorem e67_69 : ab_rn cl 67 J Q (k + 1) 69 μ [v0, v1] (.ref a :: st) = (ab_ob a 5 ∧ ab_rn cl 67 J Q k 72 μ [v0, v1] (ab_fv μ a 8 :: st)) := x_get dX5_count_69 rfl
theorem e67_72 : ab_rn cl 67 J Q (k + 1) 72 μ [v0, v1] [.int v] = Q (some v) μ := x_iret dX5_count_72 rfl
theorem e67_73 : ab_rn cl 67 J Q (k + 1) 73 μ [.ref a, v1] st = ab_rn cl 67 J Q k 74 μ [.ref a, v1] (.ref a :: st) := x_aload_n dX5_count_73 rfl
theorem e67_74 : ab_rn cl 67 J Q (k + 1) 74 μ [v0, v1] (.ref a :: st) = (ab_ob a 5 ∧ st.length ≤ 4 ∧ cl 77 [.ref a] μ (fun r μ' => ab_rn cl 67 J Q k 77 μ' [v0, v1] (ab_pu r st))) := x_v (as := []) dX5_count_74 rfl rfl rfl rfl rfl
theorem e67_77 : ab_rn cl 67 J Q (k + 1) 77 μ [v0, v1] [.int v] = Q (some v) μ := x_iret dX5_count_77 rfl
theorem e67_78 : ab_rn cl 67 J Q (k + 1) 78 μ [.ref a, v1] st = ab_rn cl 67 J Q k 79 μ [.ref a, v1] (.ref a :: st) := x_aload_n dX5_count_78 rfl
theorem e67_79 : ab_rn cl 67 J Q (k + 1) 79 μ [v0, v1] (.ref a :: st) = (ab_ob a 5 ∧ ab_rn cl 67 J Q k 82 μ [v0, v1] (ab_fv μ a 2 :: st)) := x_get dX5_count_79 rfl
theorem e67_82 : ab_rn cl 67 J Q (k + 1) 82 μ [v0, v1] (.ref a :: st) = (ab_ob a 1 ∧ st.length ≤ 4 ∧ cl 5 [.ref a] μ (fun r μ' => ab_rn cl 67 J Q k 85 μ' [v0, v1] (ab_pu r st))) := x_v (as := []) dX5_count_82 rfl rfl rfl rfl rfl
theorem e67_85 : ab_rn cl 67 J Q (k + 1) 85 μ [v0, v1] [.int v] = Q (some v) μ := x_iret dX5_count_85 rfl
theorem e67_86 : ab_rn cl 67 J Q (k + 1) 86 μ [.ref a, v1] st = ab_rn cl 67 J Q k 87 μ [.ref a, v1] (.ref a :: st) := x_aload_n dX5_count_86 rfl
theorem e67_87 : ab_rn cl 67 J Q (k + 1) 87 μ [v0, v1] (.ref a :: st) = (ab_ob a 5 ∧ ab_rn cl 67 J Q k 90 μ [v0, v1] (ab_fv μ a 3 :: st)) := x_get dX5_count_87 rfl
theorem e67_90 : ab_rn cl 67 J Q (k + 1) 90 μ [v0, v1] (.ref a :: st) = (ab_ob a 0 ∧ st.length ≤ 4 ∧ cl 0 [.ref a] μ (fun r μ' => ab_rn cl 67 J Q k 93 μ' [v0, v1] (ab_pu r st))) := x_v (as := []) dX5_count_90 rfl rfl rfl rfl rfl
theorem e67_93 : ab_rn cl 67 J Q (k + 1) 93 μ [v0, v1] [.int v] = Q (some v) μ := x_iret dX5_count_93 rfl
theorem e67_94 : ab_rn cl 67 J Q (k + 1) 94 μ [v0, v1] st = ab_rn cl 67 J Q k 95 μ [v0, v1] (.int (-1) :: st) := x_iconst dX5_count_94 (by decide)
theorem e67_95 : ab_rn cl 67 J Q (k + 1) 95 μ [v0, v1] [.int v] = Q (some v) μ := x_iret dX5_count_95 rfl
theorem n67 {d : Nat} (h : ∀ J : ab_J, (∀ k pc μ ls st, ab_rn (ab_Cl d) 67 J Q k pc μ ls st → J pc μ ls st) → J 0 μ [v0, v1] []) : ab_Cl (d + 1) 67 [v0, v1] μ Q := ab_go h
theorem e68_0 : ab_rn cl 68 J Q (k + 1) 0 μ [.int x] st = ab_rn cl 68 J Q k 1 μ [.int x] (.int x :: st) := x_iload_n dX5_isHeight_0 rfl
theorem e68_1 : ab_rn cl 68 J Q (k + 1) 1 μ [v0] (.int x :: st) = (((x < 0) → ab_rn cl 68 J Q k 13 μ [v0] st) ∧ ((¬ (x < 0)) → ab_rn cl 68 J Q k 4 μ [v0] st)) := x_ifF dX5_isHeight_1 rfl (fun _ _ _ _ _ => rfl)
theorem e68_4 : ab_rn cl 68 J Q (k + 1) 4 μ [.int x] st = ab_rn cl 68 J Q k 5 μ [.int x] (.int x :: st) := x_iload_n dX5_isHeight_4 rfl
theorem e68_5 : ab_rn cl 68 J Q (k + 1) 5 μ [v0] st = ab_rn cl 68 J Q k 6 μ [v0] (.int 3 :: st) := x_iconst dX5_isHeight_5 (by decide)
theorem e68_6 : ab_rn cl 68 J Q (k + 1) 6 μ [v0] (.int y :: .int x :: st) = (((y ≤ x) → ab_rn cl 68 J Q k 13 μ [v0] st) ∧ ((¬ (y ≤ x)) → ab_rn cl 68 J Q k 9 μ [v0] st)) := x_icmpF dX5_isHeight_6 rfl (fun _ _ _ _ _ => rfl)
theorem e68_9 : ab_rn cl 68 J Q (k + 1) 9 μ [v0] st = ab_rn cl 68 J Q k 10 μ [v0] (.int 1 :: st) := x_iconst dX5_isHeight_9 (by decide)
theorem e68_10 : ab_rn cl 68 J Q (k + 1) 10 μ [v0] st = ab_rn cl 68 J Q k 14 μ [v0] st := x_gotoF dX5_isHeight_10 (fun _ _ _ _ _ => rfl)
theorem e68_13 : ab_rn cl 68 J Q (k + 1) 13 μ [v0] st = ab_rn cl 68 J Q k 14 μ [v0] (.int 0 :: st) := x_iconst dX5_isHeight_13 (by decide)
theorem e68_14 : ab_rn cl 68 J Q (k + 1) 14 μ [v0] [.int v] = ((v = 0 ∨ v = 1) ∧ Q (some v) μ) := x_zret dX5_isHeight_14 rfl
theorem n68 {d : Nat} (h : ∀ J : ab_J, (∀ k pc μ ls st, ab_rn (ab_Cl d) 68 J Q k pc μ ls st → J pc μ ls st) → J 0 μ [v0] []) : ab_Cl (d + 1) 68 [v0] μ Q := ab_go h
theorem e69_0 : ab_rn cl 69 J Q (k + 1) 0 μ [.int x] st = ab_rn cl 69 J Q k 1 μ [.int x] (.int x :: st) := x_iload_n dX5_isClass_0 rfl
theorem e69_1 : ab_rn cl 69 J Q (k + 1) 1 μ [v0] (.int x :: st) = (((x < 0) → ab_rn cl 69 J Q k 14 μ [v0] st) ∧ ((¬ (x < 0)) → ab_rn cl 69 J Q k 4 μ [v0] st)) := x_ifF dX5_isClass_1 rfl (fun _ _ _ _ _ => rfl)
theorem e69_4 : ab_rn cl 69 J Q (k + 1) 4 μ [.int x] st = ab_rn cl 69 J Q k 5 μ [.int x] (.int x :: st) := x_iload_n dX5_isClass_4 rfl
theorem e69_5 : ab_rn cl 69 J Q (k + 1) 5 μ [v0] st = ab_rn cl 69 J Q k 7 μ [v0] (.int 12 :: st) := x_bipush dX5_isClass_5 (by decide)
theorem e69_7 : ab_rn cl 69 J Q (k + 1) 7 μ [v0] (.int y :: .int x :: st) = (((y ≤ x) → ab_rn cl 69 J Q k 14 μ [v0] st) ∧ ((¬ (y ≤ x)) → ab_rn cl 69 J Q k 10 μ [v0] st)) := x_icmpF dX5_isClass_7 rfl (fun _ _ _ _ _ => rfl)
theorem e69_10 : ab_rn cl 69 J Q (k + 1) 10 μ [v0] st = ab_rn cl 69 J Q k 11 μ [v0] (.int 1 :: st) := x_iconst dX5_isClass_10 (by decide)
theorem e69_11 : ab_rn cl 69 J Q (k + 1) 11 μ [v0] st = ab_rn cl 69 J Q k 15 μ [v0] st := x_gotoF dX5_isClass_11 (fun _ _ _ _ _ => rfl)
theorem e69_14 : ab_rn cl 69 J Q (k + 1) 14 μ [v0] st = ab_rn cl 69 J Q k 15 μ [v0] (.int 0 :: st) := x_iconst dX5_isClass_14 (by decide)
theorem e69_15 : ab_rn cl 69 J Q (k + 1) 15 μ [v0] [.int v] = ((v = 0 ∨ v = 1) ∧ Q (some v) μ) := x_zret dX5_isClass_15 rfl
theorem n69 {d : Nat} (h : ∀ J : ab_J, (∀ k pc μ ls st, ab_rn (ab_Cl d) 69 J Q k pc μ ls st → J pc μ ls st) → J 0 μ [v0] []) : ab_Cl (d + 1) 69 [v0] μ Q := ab_go h
theorem e70_0 : ab_rn cl 70 J Q (k + 1) 0 μ [.ref a] st = ab_rn cl 70 J Q k 1 μ [.ref a] (.ref a :: st) := x_aload_n dX5_endDay_0 rfl
theorem e70_1 : ab_rn cl 70 J Q (k + 1) 1 μ [v0] (.ref a :: st) = (ab_ob a 5 ∧ ab_rn cl 70 J Q k 4 μ [v0] (ab_fv μ a 4 :: st)) := x_get dX5_endDay_1 rfl
theorem e70_4 : ab_rn cl 70 J Q (k + 1) 4 μ [v0] (.ref a :: st) = (ab_ob a 3 ∧ st.length ≤ 4 ∧ cl 36 [.ref a] μ (fun r μ' => ab_rn cl 70 J Q k 7 μ' [v0] (ab_pu r st))) := x_v (as := []) dX5_endDay_4 rfl rfl rfl rfl rfl
theorem e70_7 : ab_rn cl 70 J Q (k + 1) 7 μ [.ref a] st = ab_rn cl 70 J Q k 8 μ [.ref a] (.ref a :: st) := x_aload_n dX5_endDay_7 rfl
theorem e70_8 : ab_rn cl 70 J Q (k + 1) 8 μ [v0] (.ref a :: st) = (ab_ob a 5 ∧ st.length ≤ 4 ∧ cl 71 [.ref a] μ (fun r μ' => ab_rn cl 70 J Q k 11 μ' [v0] (ab_pu r st))) := x_v (as := []) dX5_endDay_8 rfl rfl rfl rfl rfl
theorem e70_11 : ab_rn cl 70 J Q (k + 1) 11 μ [.ref a] st = ab_rn cl 70 J Q k 12 μ [.ref a] (.ref a :: st) := x_aload_n dX5_endDay_11 rfl
theorem e70_12 : ab_rn cl 70 J Q (k + 1) 12 μ [v0] (.ref a :: st) = (ab_ob a 5 ∧ ab_rn cl 70 J Q k 15 μ [v0] (ab_fv μ a 1 :: st)) := x_get dX5_endDay_12 rfl
theorem e70_15 : ab_rn cl 70 J Q (k + 1) 15 μ [v0] (.ref a :: st) = (ab_ob a 4 ∧ st.length ≤ 4 ∧ cl 45 [.ref a] μ (fun r μ' => ab_rn cl 70 J Q k 18 μ' [v0] (ab_pu r st))) := x_v (as := []) dX5_endDay_15 rfl rfl rfl rfl rfl
theorem e70_18 : ab_rn cl 70 J Q (k + 1) 18 μ [v0] (.int x :: st) = (((x = 0) → ab_rn cl 70 J Q k 25 μ [v0] st) ∧ ((¬ (x = 0)) → ab_rn cl 70 J Q k 21 μ [v0] st)) := x_ifF dX5_endDay_18 rfl (fun _ _ _ _ _ => rfl)
theorem e70_21 : ab_rn cl 70 J Q (k + 1) 21 μ [.ref a] st = ab_rn cl 70 J Q k 22 μ [.ref a] (.ref a :: st) := x_aload_n dX5_endDay_21 rfl
theorem e70_22 : ab_rn cl 70 J Q (k + 1) 22 μ [v0] (.ref a :: st) = (ab_ob a 5 ∧ st.length ≤ 4 ∧ cl 72 [.ref a] μ (fun r μ' => ab_rn cl 70 J Q k 25 μ' [v0] (ab_pu r st))) := x_v (as := []) dX5_endDay_22 rfl rfl rfl rfl rfl
theorem e70_25 : ab_rn cl 70 J Q (k + 1) 25 μ [.ref a] st = ab_rn cl 70 J Q k 26 μ [.ref a] (.ref a :: st) := x_aload_n dX5_endDay_25 rfl
theorem e70_26 : ab_rn cl 70 J Q (k + 1) 26 μ [v0] (.ref a :: st) = (ab_ob a 5 ∧ st.length ≤ 4 ∧ cl 73 [.ref a] μ (fun r μ' => ab_rn cl 70 J Q k 29 μ' [v0] (ab_pu r st))) := x_v (as := []) dX5_endDay_26 rfl rfl rfl rfl rfl
theorem e70_29 : ab_rn cl 70 J Q (k + 1) 29 μ [.ref a] st = ab_rn cl 70 J Q k 30 μ [.ref a] (.ref a :: st) := x_aload_n dX5_endDay_29 rfl
theorem e70_30 : ab_rn cl 70 J Q (k + 1) 30 μ [v0] (.ref a :: st) = (ab_ob a 5 ∧ ab_rn cl 70 J Q k 33 μ [v0] (ab_fv μ a 1 :: st)) := x_get dX5_endDay_30 rfl
theorem e70_33 : ab_rn cl 70 J Q (k + 1) 33 μ [v0] (.ref a :: st) = (ab_ob a 4 ∧ st.length ≤ 4 ∧ cl 48 [.ref a] μ (fun r μ' => ab_rn cl 70 J Q k 36 μ' [v0] (ab_pu r st))) := x_v (as := []) dX5_endDay_33 rfl rfl rfl rfl rfl
theorem e70_36 : ab_rn cl 70 J Q (k + 1) 36 μ [.ref a] st = ab_rn cl 70 J Q k 37 μ [.ref a] (.ref a :: st) := x_aload_n dX5_endDay_36 rfl
theorem e70_37i : ab_rn cl 70 J Q (k + 1) 37 μ [v0] (.int x :: st) = ab_rn cl 70 J Q k 38 μ [v0] (.int x :: .int x :: st) := x_dupi dX5_endDay_37
theorem e70_37r : ab_rn cl 70 J Q (k + 1) 37 μ [v0] (.ref a :: st) = ab_rn cl 70 J Q k 38 μ [v0] (.ref a :: .ref a :: st) := x_dupr dX5_endDay_37
theorem e70_38 : ab_rn cl 70 J Q (k + 1) 38 μ [v0] (.ref a :: st) = (ab_ob a 5 ∧ ab_rn cl 70 J Q k 41 μ [v0] (ab_fv μ a 5 :: st)) := x_get dX5_endDay_38 rfl
theorem e70_41 : ab_rn cl 70 J Q (k + 1) 41 μ [v0] st = ab_rn cl 70 J Q k 42 μ [v0] (.int 1 :: st) := x_iconst dX5_endDay_41 (by decide)
theorem e70_42 : ab_rn cl 70 J Q (k + 1) 42 μ [v0] (.int y :: .int x :: st) = ab_rn cl 70 J Q k 43 μ [v0] (.int (x + y) :: st) := x_iadd dX5_endDay_42
theorem e70_43 : ab_rn cl 70 J Q (k + 1) 43 μ [v0] (.int v :: .ref a :: st) = (ab_ob a 5 ∧ ab_rf a 5 = none ∧ ab_rn cl 70 J Q k 46 (ab_up μ (ab_cmp a) (ab_off a + 5) v) [v0] st) := x_put dX5_endDay_43 rfl
theorem e70_46 : ab_rn cl 70 J Q (k + 1) 46 μ [v0] [] = Q none μ := x_vret dX5_endDay_46 rfl
theorem n70 {d : Nat} (h : ∀ J : ab_J, (∀ k pc μ ls st, ab_rn (ab_Cl d) 70 J Q k pc μ ls st → J pc μ ls st) → J 0 μ [v0] []) : ab_Cl (d + 1) 70 [v0] μ Q := ab_go h
theorem e71_0 : ab_rn cl 71 J Q (k + 1) 0 μ [v0, v1, v2] st = ab_rn cl 71 J Q k 1 μ [v0, v1, v2] (.int 0 :: st) := x_iconst dX5_letSnowFall_0 (by decide)
theorem e71_1 : ab_rn cl 71 J Q (k + 1) 1 μ [v0, v1, v2] (.int x :: st) = ab_rn cl 71 J Q k 2 μ [v0, .int x, v2] st := x_istore_n dX5_letSnowFall_1 (Nat.le_of_ble_eq_true rfl) rfl
theorem e71_2 : ab_rn cl 71 J Q (k + 1) 2 μ [v0, .int x, v2] st = ab_rn cl 71 J Q k 3 μ [v0, .int x, v2] (.int x :: st) := x_iload_n dX5_letSnowFall_2 rfl
theorem e71_3 : ab_rn cl 71 J Q (k + 1) 3 μ [v0, v1, v2] st = ab_rn cl 71 J Q k 5 μ [v0, v1, v2] (.int 12 :: st) := x_bipush dX5_letSnowFall_3 (by decide)
theorem e71_5 : ab_rn cl 71 J Q (k + 1) 5 μ [v0, v1, v2] (.int y :: .int x :: st) = (((y ≤ x) → ab_rn cl 71 J Q k 54 μ [v0, v1, v2] st) ∧ ((¬ (y ≤ x)) → ab_rn cl 71 J Q k 8 μ [v0, v1, v2] st)) := x_icmpF dX5_letSnowFall_5 rfl (fun _ _ _ _ _ => rfl)
theorem e71_8 : ab_rn cl 71 J Q (k + 1) 8 μ [.ref a, v1, v2] st = ab_rn cl 71 J Q k 9 μ [.ref a, v1, v2] (.ref a :: st) := x_aload_n dX5_letSnowFall_8 rfl
theorem e71_9 : ab_rn cl 71 J Q (k + 1) 9 μ [v0, v1, v2] (.ref a :: st) = (ab_ob a 5 ∧ ab_rn cl 71 J Q k 12 μ [v0, v1, v2] (ab_fv μ a 1 :: st)) := x_get dX5_letSnowFall_9 rfl
theorem e71_12 : ab_rn cl 71 J Q (k + 1) 12 μ [v0, .int x, v2] st = ab_rn cl 71 J Q k 13 μ [v0, .int x, v2] (.int x :: st) := x_iload_n dX5_letSnowFall_12 rfl
theorem e71_13 : ab_rn cl 71 J Q (k + 1) 13 μ [v0, v1, v2] st = ab_rn cl 71 J Q k 14 μ [v0, v1, v2] (.int 4 :: st) := x_iconst dX5_letSnowFall_13 (by decide)
theorem e71_14 : ab_rn cl 71 J Q (k + 1) 14 μ [v0, v1, v2] (.int y :: .int x :: st) = ((¬ y = 0) ∧ ab_rn cl 71 J Q k 15 μ [v0, v1, v2] (.int (x / y) :: st)) := x_idiv dX5_letSnowFall_14
theorem e71_15 : ab_rn cl 71 J Q (k + 1) 15 μ [v0, v1, v2] (.int x0 :: .ref a :: st) = (ab_ob a 4 ∧ st.length ≤ 4 ∧ cl 43 [.ref a, .int x0] μ (fun r μ' => ab_rn cl 71 J Q k 18 μ' [v0, v1, v2] (ab_pu r st))) := x_v (as := [.int x0]) dX5_letSnowFall_15 rfl rfl rfl rfl rfl
theorem e71_18 : ab_rn cl 71 J Q (k + 1) 18 μ [v0, v1, v2] (.int x :: st) = ab_rn cl 71 J Q k 19 μ [v0, v1, .int x] st := x_istore_n dX5_letSnowFall_18 (Nat.le_of_ble_eq_true rfl) rfl
theorem e71_19 : ab_rn cl 71 J Q (k + 1) 19 μ [.ref a, v1, v2] st = ab_rn cl 71 J Q k 20 μ [.ref a, v1, v2] (.ref a :: st) := x_aload_n dX5_letSnowFall_19 rfl
theorem e71_20 : ab_rn cl 71 J Q (k + 1) 20 μ [v0, v1, v2] (.ref a :: st) = (ab_ob a 5 ∧ ab_rn cl 71 J Q k 23 μ [v0, v1, v2] (ab_fv μ a 0 :: st)) := x_get dX5_letSnowFall_20 rfl
theorem e71_23 : ab_rn cl 71 J Q (k + 1) 23 μ [v0, .int x, v2] st = ab_rn cl 71 J Q k 24 μ [v0, .int x, v2] (.int x :: st) := x_iload_n dX5_letSnowFall_23 rfl
theorem e71_24 : ab_rn cl 71 J Q (k + 1) 24 μ [v0, v1, v2] (.int x :: .ref 1 :: st) = (vp_in x 12 ∧ ab_rn cl 71 J Q k 25 μ [v0, v1, v2] (.ref (17 + 4 * x.toNatClampNeg) :: st)) := x_aaload dX5_letSnowFall_24
theorem e71_25 : ab_rn cl 71 J Q (k + 1) 25 μ [v0, v1, v2] (.ref a :: st) = (ab_ob a 2 ∧ st.length ≤ 4 ∧ cl 21 [.ref a] μ (fun r μ' => ab_rn cl 71 J Q k 28 μ' [v0, v1, v2] (ab_pu r st))) := x_v (as := []) dX5_letSnowFall_25 rfl rfl rfl rfl rfl
theorem e71_28 : ab_rn cl 71 J Q (k + 1) 28 μ [.ref a, v1, v2] st = ab_rn cl 71 J Q k 29 μ [.ref a, v1, v2] (.ref a :: st) := x_aload_n dX5_letSnowFall_28 rfl
theorem e71_29 : ab_rn cl 71 J Q (k + 1) 29 μ [v0, v1, v2] (.ref a :: st) = (ab_ob a 5 ∧ ab_rn cl 71 J Q k 32 μ [v0, v1, v2] (ab_fv μ a 0 :: st)) := x_get dX5_letSnowFall_29 rfl
theorem e71_32 : ab_rn cl 71 J Q (k + 1) 32 μ [v0, .int x, v2] st = ab_rn cl 71 J Q k 33 μ [v0, .int x, v2] (.int x :: st) := x_iload_n dX5_letSnowFall_32 rfl
theorem e71_33 : ab_rn cl 71 J Q (k + 1) 33 μ [v0, v1, v2] (.int x :: .ref 1 :: st) = (vp_in x 12 ∧ ab_rn cl 71 J Q k 34 μ [v0, v1, v2] (.ref (17 + 4 * x.toNatClampNeg) :: st)) := x_aaload dX5_letSnowFall_33
theorem e71_34 : ab_rn cl 71 J Q (k + 1) 34 μ [v0, v1, .int x] st = ab_rn cl 71 J Q k 35 μ [v0, v1, .int x] (.int x :: st) := x_iload_n dX5_letSnowFall_34 rfl
theorem e71_35 : ab_rn cl 71 J Q (k + 1) 35 μ [v0, v1, v2] (.int x0 :: .ref a :: st) = (ab_ob a 2 ∧ st.length ≤ 4 ∧ cl 22 [.ref a, .int x0] μ (fun r μ' => ab_rn cl 71 J Q k 38 μ' [v0, v1, v2] (ab_pu r st))) := x_v (as := [.int x0]) dX5_letSnowFall_35 rfl rfl rfl rfl rfl
theorem e71_38 : ab_rn cl 71 J Q (k + 1) 38 μ [.ref a, v1, v2] st = ab_rn cl 71 J Q k 39 μ [.ref a, v1, v2] (.ref a :: st) := x_aload_n dX5_letSnowFall_38 rfl
theorem e71_39i : ab_rn cl 71 J Q (k + 1) 39 μ [v0, v1, v2] (.int x :: st) = ab_rn cl 71 J Q k 40 μ [v0, v1, v2] (.int x :: .int x :: st) := x_dupi dX5_letSnowFall_39
theorem e71_39r : ab_rn cl 71 J Q (k + 1) 39 μ [v0, v1, v2] (.ref a :: st) = ab_rn cl 71 J Q k 40 μ [v0, v1, v2] (.ref a :: .ref a :: st) := x_dupr dX5_letSnowFall_39
theorem e71_40 : ab_rn cl 71 J Q (k + 1) 40 μ [v0, v1, v2] (.ref a :: st) = (ab_ob a 5 ∧ ab_rn cl 71 J Q k 43 μ [v0, v1, v2] (ab_fv μ a 6 :: st)) := x_get dX5_letSnowFall_40 rfl
theorem e71_43 : ab_rn cl 71 J Q (k + 1) 43 μ [v0, v1, .int x] st = ab_rn cl 71 J Q k 44 μ [v0, v1, .int x] (.int x :: st) := x_iload_n dX5_letSnowFall_43 rfl
theorem e71_44 : ab_rn cl 71 J Q (k + 1) 44 μ [v0, v1, v2] (.int y :: .int x :: st) = ab_rn cl 71 J Q k 45 μ [v0, v1, v2] (.int (x + y) :: st) := x_iadd dX5_letSnowFall_44
theorem e71_45 : ab_rn cl 71 J Q (k + 1) 45 μ [v0, v1, v2] (.int v :: .ref a :: st) = (ab_ob a 5 ∧ ab_rf a 6 = none ∧ ab_rn cl 71 J Q k 48 (ab_up μ (ab_cmp a) (ab_off a + 6) v) [v0, v1, v2] st) := x_put dX5_letSnowFall_45 rfl
theorem e71_48 : ab_rn cl 71 J Q (k + 1) 48 μ [v0, .int x, v2] st = ab_rn cl 71 J Q k 51 μ [v0, .int (x + 1), v2] st := x_iinc dX5_letSnowFall_48 (w := 1) (by decide) rfl rfl
theorem e71_51 : ab_rn cl 71 J Q (k + 1) 51 μ [v0, v1, v2] st = J 2 μ [v0, v1, v2] st := x_gotoB dX5_letSnowFall_51 (fun _ _ _ _ _ => rfl)
theorem e71_54 : ab_rn cl 71 J Q (k + 1) 54 μ [v0, v1, v2] [] = Q none μ := x_vret dX5_letSnowFall_54 rfl
theorem n71 {d : Nat} (h : ∀ J : ab_J, (∀ k pc μ ls st, ab_rn (ab_Cl d) 71 J Q k pc μ ls st → J pc μ ls st) → J 0 μ [v0, .null, .null] []) : ab_Cl (d + 1) 71 [v0] μ Q := ab_go h
theorem e72_0 : ab_rn cl 72 J Q (k + 1) 0 μ [.ref a, v1, v2, v3, v4] st = ab_rn cl 72 J Q k 1 μ [.ref a, v1, v2, v3, v4] (.ref a :: st) := x_aload_n dX5_letSnowDrift_0 rfl
theorem e72_1 : ab_rn cl 72 J Q (k + 1) 1 μ [v0, v1, v2, v3, v4] (.ref a :: st) = (ab_ob a 5 ∧ ab_rn cl 72 J Q k 4 μ [v0, v1, v2, v3, v4] (ab_fv μ a 1 :: st)) := x_get dX5_letSnowDrift_1 rfl
theorem e72_4 : ab_rn cl 72 J Q (k + 1) 4 μ [v0, v1, v2, v3, v4] (.ref a :: st) = (ab_ob a 4 ∧ st.length ≤ 4 ∧ cl 46 [.ref a] μ (fun r μ' => ab_rn cl 72 J Q k 7 μ' [v0, v1, v2, v3, v4] (ab_pu r st))) := x_v (as := []) dX5_letSnowDrift_4 rfl rfl rfl rfl rfl
theorem e72_7 : ab_rn cl 72 J Q (k + 1) 7 μ [v0, v1, v2, v3, v4] (.int x :: st) = ab_rn cl 72 J Q k 8 μ [v0, .int x, v2, v3, v4] st := x_istore_n dX5_letSnowDrift_7 (Nat.le_of_ble_eq_true rfl) rfl
theorem e72_8 : ab_rn cl 72 J Q (k + 1) 8 μ [v0, .int x, v2, v3, v4] st = ab_rn cl 72 J Q k 9 μ [v0, .int x, v2, v3, v4] (.int x :: st) := x_iload_n dX5_letSnowDrift_8 rfl
theorem e72_9 : ab_rn cl 72 J Q (k + 1) 9 μ [v0, v1, v2, v3, v4] st = ab_rn cl 72 J Q k 10 μ [v0, v1, v2, v3, v4] (.int 2 :: st) := x_iconst dX5_letSnowDrift_9 (by decide)
theorem e72_10 : ab_rn cl 72 J Q (k + 1) 10 μ [v0, v1, v2, v3, v4] (.int y :: .int x :: st) = ab_rn cl 72 J Q k 11 μ [v0, v1, v2, v3, v4] (.int (x + y) :: st) := x_iadd dX5_letSnowDrift_10
theorem e72_11 : ab_rn cl 72 J Q (k + 1) 11 μ [v0, v1, v2, v3, v4] st = ab_rn cl 72 J Q k 12 μ [v0, v1, v2, v3, v4] (.int 4 :: st) := x_iconst dX5_letSnowDrift_11 (by decide)
theorem e72_12 : ab_rn cl 72 J Q (k + 1) 12 μ [v0, v1, v2, v3, v4] (.int y :: .int x :: st) = ((¬ y = 0) ∧ ab_rn cl 72 J Q k 13 μ [v0, v1, v2, v3, v4] (.int (x - x / y * y) :: st)) := x_irem dX5_letSnowDrift_12
theorem e72_13 : ab_rn cl 72 J Q (k + 1) 13 μ [v0, v1, v2, v3, v4] (.int x :: st) = ab_rn cl 72 J Q k 14 μ [v0, v1, .int x, v3, v4] st := x_istore_n dX5_letSnowDrift_13 (Nat.le_of_ble_eq_true rfl) rfl
theorem e72_14 : ab_rn cl 72 J Q (k + 1) 14 μ [v0, v1, v2, v3, v4] st = ab_rn cl 72 J Q k 15 μ [v0, v1, v2, v3, v4] (.int 0 :: st) := x_iconst dX5_letSnowDrift_14 (by decide)
theorem e72_15 : ab_rn cl 72 J Q (k + 1) 15 μ [v0, v1, v2, v3, v4] (.int x :: st) = ab_rn cl 72 J Q k 16 μ [v0, v1, v2, .int x, v4] st := x_istore_n dX5_letSnowDrift_15 (Nat.le_of_ble_eq_true rfl) rfl
theorem e72_16 : ab_rn cl 72 J Q (k + 1) 16 μ [v0, v1, v2, .int x, v4] st = ab_rn cl 72 J Q k 17 μ [v0, v1, v2, .int x, v4] (.int x :: st) := x_iload_n dX5_letSnowDrift_16 rfl
theorem e72_17 : ab_rn cl 72 J Q (k + 1) 17 μ [v0, v1, v2, v3, v4] st = ab_rn cl 72 J Q k 18 μ [v0, v1, v2, v3, v4] (.int 3 :: st) := x_iconst dX5_letSnowDrift_17 (by decide)
theorem e72_18 : ab_rn cl 72 J Q (k + 1) 18 μ [v0, v1, v2, v3, v4] (.int y :: .int x :: st) = (((y ≤ x) → ab_rn cl 72 J Q k 64 μ [v0, v1, v2, v3, v4] st) ∧ ((¬ (y ≤ x)) → ab_rn cl 72 J Q k 21 μ [v0, v1, v2, v3, v4] st)) := x_icmpF dX5_letSnowDrift_18 rfl (fun _ _ _ _ _ => rfl)
theorem e72_21 : ab_rn cl 72 J Q (k + 1) 21 μ [.ref a, v1, v2, v3, v4] st = ab_rn cl 72 J Q k 22 μ [.ref a, v1, v2, v3, v4] (.ref a :: st) := x_aload_n dX5_letSnowDrift_21 rfl
theorem e72_22 : ab_rn cl 72 J Q (k + 1) 22 μ [v0, v1, v2, v3, v4] (.ref a :: st) = (ab_ob a 5 ∧ ab_rn cl 72 J Q k 25 μ [v0, v1, v2, v3, v4] (ab_fv μ a 0 :: st)) := x_get dX5_letSnowDrift_22 rfl
theorem e72_25 : ab_rn cl 72 J Q (k + 1) 25 μ [v0, v1, v2, .int x, v4] st = ab_rn cl 72 J Q k 26 μ [v0, v1, v2, .int x, v4] (.int x :: st) := x_iload_n dX5_letSnowDrift_25 rfl
theorem e72_26 : ab_rn cl 72 J Q (k + 1) 26 μ [v0, v1, v2, v3, v4] st = ab_rn cl 72 J Q k 27 μ [v0, v1, v2, v3, v4] (.int 4 :: st) := x_iconst dX5_letSnowDrift_26 (by decide)
theorem e72_27 : ab_rn cl 72 J Q (k + 1) 27 μ [v0, v1, v2, v3, v4] (.int y :: .int x :: st) = ab_rn cl 72 J Q k 28 μ [v0, v1, v2, v3, v4] (.int (x * y) :: st) := x_imul dX5_letSnowDrift_27
theorem e72_28 : ab_rn cl 72 J Q (k + 1) 28 μ [v0, .int x, v2, v3, v4] st = ab_rn cl 72 J Q k 29 μ [v0, .int x, v2, v3, v4] (.int x :: st) := x_iload_n dX5_letSnowDrift_28 rfl
theorem e72_29 : ab_rn cl 72 J Q (k + 1) 29 μ [v0, v1, v2, v3, v4] (.int y :: .int x :: st) = ab_rn cl 72 J Q k 30 μ [v0, v1, v2, v3, v4] (.int (x + y) :: st) := x_iadd dX5_letSnowDrift_29
theorem e72_30 : ab_rn cl 72 J Q (k + 1) 30 μ [v0, v1, v2, v3, v4] (.int x :: .ref 1 :: st) = (vp_in x 12 ∧ ab_rn cl 72 J Q k 31 μ [v0, v1, v2, v3, v4] (.ref (17 + 4 * x.toNatClampNeg) :: st)) := x_aaload dX5_letSnowDrift_30
theorem e72_31 : ab_rn cl 72 J Q (k + 1) 31 μ [.ref a, v1, v2, v3, v4] st = ab_rn cl 72 J Q k 32 μ [.ref a, v1, v2, v3, v4] (.ref a :: st) := x_aload_n dX5_letSnowDrift_31 rfl
theorem e72_32 : ab_rn cl 72 J Q (k + 1) 32 μ [v0, v1, v2, v3, v4] (.ref a :: st) = (ab_ob a 5 ∧ ab_rn cl 72 J Q k 35 μ [v0, v1, v2, v3, v4] (ab_fv μ a 1 :: st)) := x_get dX5_letSnowDrift_32 rfl
theorem e72_35 : ab_rn cl 72 J Q (k + 1) 35 μ [v0, v1, v2, v3, v4] (.ref a :: st) = (ab_ob a 4 ∧ st.length ≤ 4 ∧ cl 47 [.ref a] μ (fun r μ' => ab_rn cl 72 J Q k 38 μ' [v0, v1, v2, v3, v4] (ab_pu r st))) := x_v (as := []) dX5_letSnowDrift_35 rfl rfl rfl rfl rfl
theorem e72_38 : ab_rn cl 72 J Q (k + 1) 38 μ [v0, v1, v2, v3, v4] (.int x0 :: .ref a :: st) = (ab_ob a 2 ∧ st.length ≤ 4 ∧ cl 23 [.ref a, .int x0] μ (fun r μ' => ab_rn cl 72 J Q k 41 μ' [v0, v1, v2, v3, v4] (ab_pu r st))) := x_v (as := [.int x0]) dX5_letSnowDrift_38 rfl rfl rfl rfl rfl
theorem e72_41 : ab_rn cl 72 J Q (k + 1) 41 μ [v0, v1, v2, v3, v4] (.int x :: st) = ab_rn cl 72 J Q k 43 μ [v0, v1, v2, v3, .int x] st := x_istore dX5_letSnowDrift_41 (Nat.le_of_ble_eq_true rfl) rfl
theorem e72_43 : ab_rn cl 72 J Q (k + 1) 43 μ [.ref a, v1, v2, v3, v4] st = ab_rn cl 72 J Q k 44 μ [.ref a, v1, v2, v3, v4] (.ref a :: st) := x_aload_n dX5_letSnowDrift_43 rfl
theorem e72_44 : ab_rn cl 72 J Q (k + 1) 44 μ [v0, v1, v2, v3, v4] (.ref a :: st) = (ab_ob a 5 ∧ ab_rn cl 72 J Q k 47 μ [v0, v1, v2, v3, v4] (ab_fv μ a 0 :: st)) := x_get dX5_letSnowDrift_44 rfl
theorem e72_47 : ab_rn cl 72 J Q (k + 1) 47 μ [v0, v1, v2, .int x, v4] st = ab_rn cl 72 J Q k 48 μ [v0, v1, v2, .int x, v4] (.int x :: st) := x_iload_n dX5_letSnowDrift_47 rfl
theorem e72_48 : ab_rn cl 72 J Q (k + 1) 48 μ [v0, v1, v2, v3, v4] st = ab_rn cl 72 J Q k 49 μ [v0, v1, v2, v3, v4] (.int 4 :: st) := x_iconst dX5_letSnowDrift_48 (by decide)
theorem e72_49 : ab_rn cl 72 J Q (k + 1) 49 μ [v0, v1, v2, v3, v4] (.int y :: .int x :: st) = ab_rn cl 72 J Q k 50 μ [v0, v1, v2, v3, v4] (.int (x * y) :: st) := x_imul dX5_letSnowDrift_49
theorem e72_50 : ab_rn cl 72 J Q (k + 1) 50 μ [v0, v1, .int x, v3, v4] st = ab_rn cl 72 J Q k 51 μ [v0, v1, .int x, v3, v4] (.int x :: st) := x_iload_n dX5_letSnowDrift_50 rfl
theorem e72_51 : ab_rn cl 72 J Q (k + 1) 51 μ [v0, v1, v2, v3, v4] (.int y :: .int x :: st) = ab_rn cl 72 J Q k 52 μ [v0, v1, v2, v3, v4] (.int (x + y) :: st) := x_iadd dX5_letSnowDrift_51
theorem e72_52 : ab_rn cl 72 J Q (k + 1) 52 μ [v0, v1, v2, v3, v4] (.int x :: .ref 1 :: st) = (vp_in x 12 ∧ ab_rn cl 72 J Q k 53 μ [v0, v1, v2, v3, v4] (.ref (17 + 4 * x.toNatClampNeg) :: st)) := x_aaload dX5_letSnowDrift_52
theorem e72_53 : ab_rn cl 72 J Q (k + 1) 53 μ [v0, v1, v2, v3, .int x] st = ab_rn cl 72 J Q k 55 μ [v0, v1, v2, v3, .int x] (.int x :: st) := x_iload dX5_letSnowDrift_53 rfl
theorem e72_55 : ab_rn cl 72 J Q (k + 1) 55 μ [v0, v1, v2, v3, v4] (.int x0 :: .ref a :: st) = (ab_ob a 2 ∧ st.length ≤ 4 ∧ cl 24 [.ref a, .int x0] μ (fun r μ' => ab_rn cl 72 J Q k 58 μ' [v0, v1, v2, v3, v4] (ab_pu r st))) := x_v (as := [.int x0]) dX5_letSnowDrift_55 rfl rfl rfl rfl rfl
theorem e72_58 : ab_rn cl 72 J Q (k + 1) 58 μ [v0, v1, v2, .int x, v4] st = ab_rn cl 72 J Q k 61 μ [v0, v1, v2, .int (x + 1), v4] st := x_iinc dX5_letSnowDrift_58 (w := 1) (by decide) rfl rfl
theorem e72_61 : ab_rn cl 72 J Q (k + 1) 61 μ [v0, v1, v2, v3, v4] st = J 16 μ [v0, v1, v2, v3, v4] st := x_gotoB dX5_letSnowDrift_61 (fun _ _ _ _ _ => rfl)
theorem e72_64 : ab_rn cl 72 J Q (k + 1) 64 μ [v0, v1, v2, v3, v4] [] = Q none μ := x_vret dX5_letSnowDrift_64 rfl
theorem n72 {d : Nat} (h : ∀ J : ab_J, (∀ k pc μ ls st, ab_rn (ab_Cl d) 72 J Q k pc μ ls st → J pc μ ls st) → J 0 μ [v0, .null, .null, .null, .null] []) : ab_Cl (d + 1) 72 [v0] μ Q := ab_go h
theorem e73_0 : ab_rn cl 73 J Q (k + 1) 0 μ [v0, v1, v2] st = ab_rn cl 73 J Q k 1 μ [v0, v1, v2] (.int 0 :: st) := x_iconst dX5_letSnowChange_0 (by decide)
theorem e73_1 : ab_rn cl 73 J Q (k + 1) 1 μ [v0, v1, v2] (.int x :: st) = ab_rn cl 73 J Q k 2 μ [v0, .int x, v2] st := x_istore_n dX5_letSnowChange_1 (Nat.le_of_ble_eq_true rfl) rfl
theorem e73_2 : ab_rn cl 73 J Q (k + 1) 2 μ [v0, .int x, v2] st = ab_rn cl 73 J Q k 3 μ [v0, .int x, v2] (.int x :: st) := x_iload_n dX5_letSnowChange_2 rfl
theorem e73_3 : ab_rn cl 73 J Q (k + 1) 3 μ [v0, v1, v2] st = ab_rn cl 73 J Q k 5 μ [v0, v1, v2] (.int 12 :: st) := x_bipush dX5_letSnowChange_3 (by decide)
theorem e73_5 : ab_rn cl 73 J Q (k + 1) 5 μ [v0, v1, v2] (.int y :: .int x :: st) = (((y ≤ x) → ab_rn cl 73 J Q k 54 μ [v0, v1, v2] st) ∧ ((¬ (y ≤ x)) → ab_rn cl 73 J Q k 8 μ [v0, v1, v2] st)) := x_icmpF dX5_letSnowChange_5 rfl (fun _ _ _ _ _ => rfl)
theorem e73_8 : ab_rn cl 73 J Q (k + 1) 8 μ [.ref a, v1, v2] st = ab_rn cl 73 J Q k 9 μ [.ref a, v1, v2] (.ref a :: st) := x_aload_n dX5_letSnowChange_8 rfl
theorem e73_9 : ab_rn cl 73 J Q (k + 1) 9 μ [v0, v1, v2] (.ref a :: st) = (ab_ob a 5 ∧ ab_rn cl 73 J Q k 12 μ [v0, v1, v2] (ab_fv μ a 1 :: st)) := x_get dX5_letSnowChange_9 rfl
theorem e73_12 : ab_rn cl 73 J Q (k + 1) 12 μ [v0, .int x, v2] st = ab_rn cl 73 J Q k 13 μ [v0, .int x, v2] (.int x :: st) := x_iload_n dX5_letSnowChange_12 rfl
theorem e73_13 : ab_rn cl 73 J Q (k + 1) 13 μ [v0, v1, v2] st = ab_rn cl 73 J Q k 14 μ [v0, v1, v2] (.int 4 :: st) := x_iconst dX5_letSnowChange_13 (by decide)
theorem e73_14 : ab_rn cl 73 J Q (k + 1) 14 μ [v0, v1, v2] (.int y :: .int x :: st) = ((¬ y = 0) ∧ ab_rn cl 73 J Q k 15 μ [v0, v1, v2] (.int (x / y) :: st)) := x_idiv dX5_letSnowChange_14
theorem e73_15 : ab_rn cl 73 J Q (k + 1) 15 μ [v0, v1, v2] (.int x0 :: .ref a :: st) = (ab_ob a 4 ∧ st.length ≤ 4 ∧ cl 44 [.ref a, .int x0] μ (fun r μ' => ab_rn cl 73 J Q k 18 μ' [v0, v1, v2] (ab_pu r st))) := x_v (as := [.int x0]) dX5_letSnowChange_15 rfl rfl rfl rfl rfl
theorem e73_18 : ab_rn cl 73 J Q (k + 1) 18 μ [v0, v1, v2] (.int x :: st) = ab_rn cl 73 J Q k 19 μ [v0, v1, .int x] st := x_istore_n dX5_letSnowChange_18 (Nat.le_of_ble_eq_true rfl) rfl
theorem e73_19 : ab_rn cl 73 J Q (k + 1) 19 μ [.ref a, v1, v2] st = ab_rn cl 73 J Q k 20 μ [.ref a, v1, v2] (.ref a :: st) := x_aload_n dX5_letSnowChange_19 rfl
theorem e73_20 : ab_rn cl 73 J Q (k + 1) 20 μ [v0, v1, v2] (.ref a :: st) = (ab_ob a 5 ∧ ab_rn cl 73 J Q k 23 μ [v0, v1, v2] (ab_fv μ a 0 :: st)) := x_get dX5_letSnowChange_20 rfl
theorem e73_23 : ab_rn cl 73 J Q (k + 1) 23 μ [v0, .int x, v2] st = ab_rn cl 73 J Q k 24 μ [v0, .int x, v2] (.int x :: st) := x_iload_n dX5_letSnowChange_23 rfl
theorem e73_24 : ab_rn cl 73 J Q (k + 1) 24 μ [v0, v1, v2] (.int x :: .ref 1 :: st) = (vp_in x 12 ∧ ab_rn cl 73 J Q k 25 μ [v0, v1, v2] (.ref (17 + 4 * x.toNatClampNeg) :: st)) := x_aaload dX5_letSnowChange_24
theorem e73_25 : ab_rn cl 73 J Q (k + 1) 25 μ [v0, v1, .int x] st = ab_rn cl 73 J Q k 26 μ [v0, v1, .int x] (.int x :: st) := x_iload_n dX5_letSnowChange_25 rfl
theorem e73_26 : ab_rn cl 73 J Q (k + 1) 26 μ [v0, v1, v2] (.int x0 :: .ref a :: st) = (ab_ob a 2 ∧ st.length ≤ 4 ∧ cl 25 [.ref a, .int x0] μ (fun r μ' => ab_rn cl 73 J Q k 29 μ' [v0, v1, v2] (ab_pu r st))) := x_v (as := [.int x0]) dX5_letSnowChange_26 rfl rfl rfl rfl rfl
theorem e73_29 : ab_rn cl 73 J Q (k + 1) 29 μ [.ref a, v1, v2] st = ab_rn cl 73 J Q k 30 μ [.ref a, v1, v2] (.ref a :: st) := x_aload_n dX5_letSnowChange_29 rfl
theorem e73_30i : ab_rn cl 73 J Q (k + 1) 30 μ [v0, v1, v2] (.int x :: st) = ab_rn cl 73 J Q k 31 μ [v0, v1, v2] (.int x :: .int x :: st) := x_dupi dX5_letSnowChange_30
theorem e73_30r : ab_rn cl 73 J Q (k + 1) 30 μ [v0, v1, v2] (.ref a :: st) = ab_rn cl 73 J Q k 31 μ [v0, v1, v2] (.ref a :: .ref a :: st) := x_dupr dX5_letSnowChange_30
theorem e73_31 : ab_rn cl 73 J Q (k + 1) 31 μ [v0, v1, v2] (.ref a :: st) = (ab_ob a 5 ∧ ab_rn cl 73 J Q k 34 μ [v0, v1, v2] (ab_fv μ a 7 :: st)) := x_get dX5_letSnowChange_31 rfl
theorem e73_34 : ab_rn cl 73 J Q (k + 1) 34 μ [.ref a, v1, v2] st = ab_rn cl 73 J Q k 35 μ [.ref a, v1, v2] (.ref a :: st) := x_aload_n dX5_letSnowChange_34 rfl
theorem e73_35 : ab_rn cl 73 J Q (k + 1) 35 μ [v0, v1, v2] (.ref a :: st) = (ab_ob a 5 ∧ ab_rn cl 73 J Q k 38 μ [v0, v1, v2] (ab_fv μ a 0 :: st)) := x_get dX5_letSnowChange_35 rfl
theorem e73_38 : ab_rn cl 73 J Q (k + 1) 38 μ [v0, .int x, v2] st = ab_rn cl 73 J Q k 39 μ [v0, .int x, v2] (.int x :: st) := x_iload_n dX5_letSnowChange_38 rfl
theorem e73_39 : ab_rn cl 73 J Q (k + 1) 39 μ [v0, v1, v2] (.int x :: .ref 1 :: st) = (vp_in x 12 ∧ ab_rn cl 73 J Q k 40 μ [v0, v1, v2] (.ref (17 + 4 * x.toNatClampNeg) :: st)) := x_aaload dX5_letSnowChange_39
theorem e73_40 : ab_rn cl 73 J Q (k + 1) 40 μ [v0, v1, .int x] st = ab_rn cl 73 J Q k 41 μ [v0, v1, .int x] (.int x :: st) := x_iload_n dX5_letSnowChange_40 rfl
theorem e73_41 : ab_rn cl 73 J Q (k + 1) 41 μ [v0, v1, v2] (.int x0 :: .ref a :: st) = (ab_ob a 2 ∧ st.length ≤ 4 ∧ cl 26 [.ref a, .int x0] μ (fun r μ' => ab_rn cl 73 J Q k 44 μ' [v0, v1, v2] (ab_pu r st))) := x_v (as := [.int x0]) dX5_letSnowChange_41 rfl rfl rfl rfl rfl
theorem e73_44 : ab_rn cl 73 J Q (k + 1) 44 μ [v0, v1, v2] (.int y :: .int x :: st) = ab_rn cl 73 J Q k 45 μ [v0, v1, v2] (.int (x + y) :: st) := x_iadd dX5_letSnowChange_44
theorem e73_45 : ab_rn cl 73 J Q (k + 1) 45 μ [v0, v1, v2] (.int v :: .ref a :: st) = (ab_ob a 5 ∧ ab_rf a 7 = none ∧ ab_rn cl 73 J Q k 48 (ab_up μ (ab_cmp a) (ab_off a + 7) v) [v0, v1, v2] st) := x_put dX5_letSnowChange_45 rfl
theorem e73_48 : ab_rn cl 73 J Q (k + 1) 48 μ [v0, .int x, v2] st = ab_rn cl 73 J Q k 51 μ [v0, .int (x + 1), v2] st := x_iinc dX5_letSnowChange_48 (w := 1) (by decide) rfl rfl
theorem e73_51 : ab_rn cl 73 J Q (k + 1) 51 μ [v0, v1, v2] st = J 2 μ [v0, v1, v2] st := x_gotoB dX5_letSnowChange_51 (fun _ _ _ _ _ => rfl)
theorem e73_54 : ab_rn cl 73 J Q (k + 1) 54 μ [v0, v1, v2] [] = Q none μ := x_vret dX5_letSnowChange_54 rfl
theorem n73 {d : Nat} (h : ∀ J : ab_J, (∀ k pc μ ls st, ab_rn (ab_Cl d) 73 J Q k pc μ ls st → J pc μ ls st) → J 0 μ [v0, .null, .null] []) : ab_Cl (d + 1) 73 [v0] μ Q := ab_go h
theorem e74_0 : ab_rn cl 74 J Q (k + 1) 0 μ [.ref a, v1, v2, v3] st = ab_rn cl 74 J Q k 1 μ [.ref a, v1, v2, v3] (.ref a :: st) := x_aload_n dX5_takeAbove_0 rfl
theorem e74_1 : ab_rn cl 74 J Q (k + 1) 1 μ [v0, v1, v2, v3] (.ref a :: st) = (ab_ob a 5 ∧ ab_rn cl 74 J Q k 4 μ [v0, v1, v2, v3] (ab_fv μ a 0 :: st)) := x_get dX5_takeAbove_1 rfl
theorem e74_4 : ab_rn cl 74 J Q (k + 1) 4 μ [v0, .int x, v2, v3] st = ab_rn cl 74 J Q k 5 μ [v0, .int x, v2, v3] (.int x :: st) := x_iload_n dX5_takeAbove_4 rfl
theorem e74_5 : ab_rn cl 74 J Q (k + 1) 5 μ [v0, v1, v2, v3] (.int x :: .ref 1 :: st) = (vp_in x 12 ∧ ab_rn cl 74 J Q k 6 μ [v0, v1, v2, v3] (.ref (17 + 4 * x.toNatClampNeg) :: st)) := x_aaload dX5_takeAbove_5
theorem e74_6 : ab_rn cl 74 J Q (k + 1) 6 μ [v0, v1, .int x, v3] st = ab_rn cl 74 J Q k 7 μ [v0, v1, .int x, v3] (.int x :: st) := x_iload_n dX5_takeAbove_6 rfl
theorem e74_7 : ab_rn cl 74 J Q (k + 1) 7 μ [v0, v1, v2, v3] (.int x0 :: .ref a :: st) = (ab_ob a 2 ∧ st.length ≤ 4 ∧ cl 27 [.ref a, .int x0] μ (fun r μ' => ab_rn cl 74 J Q k 10 μ' [v0, v1, v2, v3] (ab_pu r st))) := x_v (as := [.int x0]) dX5_takeAbove_7 rfl rfl rfl rfl rfl
theorem e74_10 : ab_rn cl 74 J Q (k + 1) 10 μ [v0, v1, v2, v3] (.int x :: st) = ab_rn cl 74 J Q k 11 μ [v0, v1, v2, .int x] st := x_istore_n dX5_takeAbove_10 (Nat.le_of_ble_eq_true rfl) rfl
theorem e74_11 : ab_rn cl 74 J Q (k + 1) 11 μ [.ref a, v1, v2, v3] st = ab_rn cl 74 J Q k 12 μ [.ref a, v1, v2, v3] (.ref a :: st) := x_aload_n dX5_takeAbove_11 rfl
theorem e74_12i : ab_rn cl 74 J Q (k + 1) 12 μ [v0, v1, v2, v3] (.int x :: st) = ab_rn cl 74 J Q k 13 μ [v0, v1, v2, v3] (.int x :: .int x :: st) := x_dupi dX5_takeAbove_12
theorem e74_12r : ab_rn cl 74 J Q (k + 1) 12 μ [v0, v1, v2, v3] (.ref a :: st) = ab_rn cl 74 J Q k 13 μ [v0, v1, v2, v3] (.ref a :: .ref a :: st) := x_dupr dX5_takeAbove_12
theorem e74_13 : ab_rn cl 74 J Q (k + 1) 13 μ [v0, v1, v2, v3] (.ref a :: st) = (ab_ob a 5 ∧ ab_rn cl 74 J Q k 16 μ [v0, v1, v2, v3] (ab_fv μ a 8 :: st)) := x_get dX5_takeAbove_13 rfl
theorem e74_16 : ab_rn cl 74 J Q (k + 1) 16 μ [v0, v1, v2, .int x] st = ab_rn cl 74 J Q k 17 μ [v0, v1, v2, .int x] (.int x :: st) := x_iload_n dX5_takeAbove_16 rfl
theorem e74_17 : ab_rn cl 74 J Q (k + 1) 17 μ [v0, v1, v2, v3] (.int y :: .int x :: st) = ab_rn cl 74 J Q k 18 μ [v0, v1, v2, v3] (.int (x + y) :: st) := x_iadd dX5_takeAbove_17
theorem e74_18 : ab_rn cl 74 J Q (k + 1) 18 μ [v0, v1, v2, v3] (.int v :: .ref a :: st) = (ab_ob a 5 ∧ ab_rf a 8 = none ∧ ab_rn cl 74 J Q k 21 (ab_up μ (ab_cmp a) (ab_off a + 8) v) [v0, v1, v2, v3] st) := x_put dX5_takeAbove_18 rfl
theorem e74_21 : ab_rn cl 74 J Q (k + 1) 21 μ [v0, v1, v2, .int x] st = ab_rn cl 74 J Q k 22 μ [v0, v1, v2, .int x] (.int x :: st) := x_iload_n dX5_takeAbove_21 rfl
theorem e74_22 : ab_rn cl 74 J Q (k + 1) 22 μ [v0, v1, v2, v3] [.int v] = Q (some v) μ := x_iret dX5_takeAbove_22 rfl
theorem n74 {d : Nat} (h : ∀ J : ab_J, (∀ k pc μ ls st, ab_rn (ab_Cl d) 74 J Q k pc μ ls st → J pc μ ls st) → J 0 μ [v0, v1, v2, .null] []) : ab_Cl (d + 1) 74 [v0, v1, v2] μ Q := ab_go h
theorem e75_0 : ab_rn cl 75 J Q (k + 1) 0 μ [.ref a, v1, v2, v3, v4] st = ab_rn cl 75 J Q k 1 μ [.ref a, v1, v2, v3, v4] (.ref a :: st) := x_aload_n dX5_dangerOf_0 rfl
theorem e75_1 : ab_rn cl 75 J Q (k + 1) 1 μ [v0, v1, v2, v3, v4] (.ref a :: st) = (ab_ob a 5 ∧ ab_rn cl 75 J Q k 4 μ [v0, v1, v2, v3, v4] (ab_fv μ a 0 :: st)) := x_get dX5_dangerOf_1 rfl
theorem e75_4 : ab_rn cl 75 J Q (k + 1) 4 μ [v0, .int x, v2, v3, v4] st = ab_rn cl 75 J Q k 5 μ [v0, .int x, v2, v3, v4] (.int x :: st) := x_iload_n dX5_dangerOf_4 rfl
theorem e75_5 : ab_rn cl 75 J Q (k + 1) 5 μ [v0, v1, v2, v3, v4] (.int x :: .ref 1 :: st) = (vp_in x 12 ∧ ab_rn cl 75 J Q k 6 μ [v0, v1, v2, v3, v4] (.ref (17 + 4 * x.toNatClampNeg) :: st)) := x_aaload dX5_dangerOf_5
theorem e75_6 : ab_rn cl 75 J Q (k + 1) 6 μ [v0, v1, v2, v3, v4] (.ref a :: st) = ab_rn cl 75 J Q k 7 μ [v0, v1, .ref a, v3, v4] st := x_astore_n dX5_dangerOf_6 (Nat.le_of_ble_eq_true rfl) rfl
theorem e75_7 : ab_rn cl 75 J Q (k + 1) 7 μ [v0, v1, .ref a, v3, v4] st = ab_rn cl 75 J Q k 8 μ [v0, v1, .ref a, v3, v4] (.ref a :: st) := x_aload_n dX5_dangerOf_7 rfl
theorem e75_8 : ab_rn cl 75 J Q (k + 1) 8 μ [v0, v1, .ref a, v3, v4] st = ab_rn cl 75 J Q k 9 μ [v0, v1, .ref a, v3, v4] (.ref a :: st) := x_aload_n dX5_dangerOf_8 rfl
theorem e75_9 : ab_rn cl 75 J Q (k + 1) 9 μ [v0, v1, v2, v3, v4] (.ref a :: st) = (ab_ob a 2 ∧ st.length ≤ 4 ∧ cl 10 [.ref a] μ (fun r μ' => ab_rn cl 75 J Q k 12 μ' [v0, v1, v2, v3, v4] (ab_pu r st))) := x_v (as := []) dX5_dangerOf_9 rfl rfl rfl rfl rfl
theorem e75_12 : ab_rn cl 75 J Q (k + 1) 12 μ [v0, v1, v2, v3, v4] (.int x0 :: .ref a :: st) = (ab_ob a 2 ∧ st.length ≤ 4 ∧ cl 18 [.ref a, .int x0] μ (fun r μ' => ab_rn cl 75 J Q k 15 μ' [v0, v1, v2, v3, v4] (ab_pu r st))) := x_v (as := [.int x0]) dX5_dangerOf_12 rfl rfl rfl rfl rfl
theorem e75_15 : ab_rn cl 75 J Q (k + 1) 15 μ [v0, v1, v2, v3, v4] (.int x :: st) = ab_rn cl 75 J Q k 16 μ [v0, v1, v2, .int x, v4] st := x_istore_n dX5_dangerOf_15 (Nat.le_of_ble_eq_true rfl) rfl
theorem e75_16 : ab_rn cl 75 J Q (k + 1) 16 μ [v0, v1, v2, .int x, v4] st = ab_rn cl 75 J Q k 17 μ [v0, v1, v2, .int x, v4] (.int x :: st) := x_iload_n dX5_dangerOf_16 rfl
theorem e75_17 : ab_rn cl 75 J Q (k + 1) 17 μ [v0, v1, v2, v3, v4] (.int x :: st) = (((¬ x = 0) → ab_rn cl 75 J Q k 22 μ [v0, v1, v2, v3, v4] st) ∧ ((¬ (¬ x = 0)) → ab_rn cl 75 J Q k 20 μ [v0, v1, v2, v3, v4] st)) := x_ifF dX5_dangerOf_17 rfl (fun _ _ _ _ _ => rfl)
theorem e75_20 : ab_rn cl 75 J Q (k + 1) 20 μ [v0, v1, v2, v3, v4] st = ab_rn cl 75 J Q k 21 μ [v0, v1, v2, v3, v4] (.int 1 :: st) := x_iconst dX5_dangerOf_20 (by decide)
theorem e75_21 : ab_rn cl 75 J Q (k + 1) 21 μ [v0, v1, v2, v3, v4] [.int v] = Q (some v) μ := x_iret dX5_dangerOf_21 rfl
theorem e75_22 : ab_rn cl 75 J Q (k + 1) 22 μ [v0, v1, v2, v3, v4] st = ab_rn cl 75 J Q k 23 μ [v0, v1, v2, v3, v4] (.int 1 :: st) := x_iconst dX5_dangerOf_22 (by decide)
theorem e75_23 : ab_rn cl 75 J Q (k + 1) 23 μ [v0, v1, v2, .int x, v4] st = ab_rn cl 75 J Q k 24 μ [v0, v1, v2, .int x, v4] (.int x :: st) := x_iload_n dX5_dangerOf_23 rfl
theorem e75_24 : ab_rn cl 75 J Q (k + 1) 24 μ [v0, v1, v2, v3, v4] (.int y :: .int x :: st) = ab_rn cl 75 J Q k 25 μ [v0, v1, v2, v3, v4] (.int (x + y) :: st) := x_iadd dX5_dangerOf_24
theorem e75_25 : ab_rn cl 75 J Q (k + 1) 25 μ [.ref a, v1, v2, v3, v4] st = ab_rn cl 75 J Q k 26 μ [.ref a, v1, v2, v3, v4] (.ref a :: st) := x_aload_n dX5_dangerOf_25 rfl
theorem e75_26 : ab_rn cl 75 J Q (k + 1) 26 μ [v0, .int x, v2, v3, v4] st = ab_rn cl 75 J Q k 27 μ [v0, .int x, v2, v3, v4] (.int x :: st) := x_iload_n dX5_dangerOf_26 rfl
theorem e75_27 : ab_rn cl 75 J Q (k + 1) 27 μ [v0, v1, v2, v3, v4] st = ab_rn cl 75 J Q k 28 μ [v0, v1, v2, v3, v4] (.int 4 :: st) := x_iconst dX5_dangerOf_27 (by decide)
theorem e75_28 : ab_rn cl 75 J Q (k + 1) 28 μ [v0, v1, v2, v3, v4] (.int y :: .int x :: st) = ((¬ y = 0) ∧ ab_rn cl 75 J Q k 29 μ [v0, v1, v2, v3, v4] (.int (x / y) :: st)) := x_idiv dX5_dangerOf_28
theorem e75_29 : ab_rn cl 75 J Q (k + 1) 29 μ [v0, v1, v2, v3, v4] (.int x0 :: .ref a :: st) = (ab_ob a 5 ∧ st.length ≤ 4 ∧ cl 76 [.ref a, .int x0] μ (fun r μ' => ab_rn cl 75 J Q k 32 μ' [v0, v1, v2, v3, v4] (ab_pu r st))) := x_v (as := [.int x0]) dX5_dangerOf_29 rfl rfl rfl rfl rfl
theorem e75_32 : ab_rn cl 75 J Q (k + 1) 32 μ [v0, v1, v2, v3, v4] (.int y :: .int x :: st) = ab_rn cl 75 J Q k 33 μ [v0, v1, v2, v3, v4] (.int (x + y) :: st) := x_iadd dX5_dangerOf_32
theorem e75_33 : ab_rn cl 75 J Q (k + 1) 33 μ [v0, v1, .ref a, v3, v4] st = ab_rn cl 75 J Q k 34 μ [v0, v1, .ref a, v3, v4] (.ref a :: st) := x_aload_n dX5_dangerOf_33 rfl
theorem e75_34 : ab_rn cl 75 J Q (k + 1) 34 μ [v0, v1, .ref a, v3, v4] st = ab_rn cl 75 J Q k 35 μ [v0, v1, .ref a, v3, v4] (.ref a :: st) := x_aload_n dX5_dangerOf_34 rfl
theorem e75_35 : ab_rn cl 75 J Q (k + 1) 35 μ [v0, v1, v2, v3, v4] (.ref a :: st) = (ab_ob a 2 ∧ st.length ≤ 4 ∧ cl 10 [.ref a] μ (fun r μ' => ab_rn cl 75 J Q k 38 μ' [v0, v1, v2, v3, v4] (ab_pu r st))) := x_v (as := []) dX5_dangerOf_35 rfl rfl rfl rfl rfl
theorem e75_38 : ab_rn cl 75 J Q (k + 1) 38 μ [v0, v1, v2, v3, v4] (.int x0 :: .ref a :: st) = (ab_ob a 2 ∧ st.length ≤ 4 ∧ cl 19 [.ref a, .int x0] μ (fun r μ' => ab_rn cl 75 J Q k 41 μ' [v0, v1, v2, v3, v4] (ab_pu r st))) := x_v (as := [.int x0]) dX5_dangerOf_38 rfl rfl rfl rfl rfl
theorem e75_41 : ab_rn cl 75 J Q (k + 1) 41 μ [v0, v1, v2, v3, v4] (.int y :: .int x :: st) = ab_rn cl 75 J Q k 42 μ [v0, v1, v2, v3, v4] (.int (x + y) :: st) := x_iadd dX5_dangerOf_41
theorem e75_42 : ab_rn cl 75 J Q (k + 1) 42 μ [v0, v1, v2, v3, v4] st = ab_rn cl 75 J Q k 43 μ [v0, v1, v2, v3, v4] (.int 1 :: st) := x_iconst dX5_dangerOf_42 (by decide)
theorem e75_43 : ab_rn cl 75 J Q (k + 1) 43 μ [v0, v1, v2, v3, v4] (.int y :: .int x :: st) = ab_rn cl 75 J Q k 44 μ [v0, v1, v2, v3, v4] (.int (x - y) :: st) := x_isub dX5_dangerOf_43
theorem e75_44 : ab_rn cl 75 J Q (k + 1) 44 μ [v0, v1, v2, v3, v4] (.int x :: st) = ab_rn cl 75 J Q k 46 μ [v0, v1, v2, v3, .int x] st := x_istore dX5_dangerOf_44 (Nat.le_of_ble_eq_true rfl) rfl
theorem e75_46 : ab_rn cl 75 J Q (k + 1) 46 μ [v0, v1, v2, v3, v4] st = ab_rn cl 75 J Q k 47 μ [v0, v1, v2, v3, v4] (.int 1 :: st) := x_iconst dX5_dangerOf_46 (by decide)
theorem e75_47 : ab_rn cl 75 J Q (k + 1) 47 μ [v0, v1, v2, v3, v4] st = ab_rn cl 75 J Q k 48 μ [v0, v1, v2, v3, v4] (.int 5 :: st) := x_iconst dX5_dangerOf_47 (by decide)
theorem e75_48 : ab_rn cl 75 J Q (k + 1) 48 μ [v0, v1, v2, v3, .int x] st = ab_rn cl 75 J Q k 50 μ [v0, v1, v2, v3, .int x] (.int x :: st) := x_iload dX5_dangerOf_48 rfl
theorem e75_50 : ab_rn cl 75 J Q (k + 1) 50 μ [v0, v1, v2, v3, v4] (.int y :: .int x :: st) = (st.length ≤ 4 ∧ ab_rn cl 75 J Q k 53 μ [v0, v1, v2, v3, v4] (.int (if y < x then y else x) :: st)) := x_min dX5_dangerOf_50 rfl
theorem e75_53 : ab_rn cl 75 J Q (k + 1) 53 μ [v0, v1, v2, v3, v4] (.int y :: .int x :: st) = (st.length ≤ 4 ∧ ab_rn cl 75 J Q k 56 μ [v0, v1, v2, v3, v4] (.int (if x < y then y else x) :: st)) := x_max dX5_dangerOf_53 rfl
theorem e75_56 : ab_rn cl 75 J Q (k + 1) 56 μ [v0, v1, v2, v3, v4] [.int v] = Q (some v) μ := x_iret dX5_dangerOf_56 rfl
theorem n75 {d : Nat} (h : ∀ J : ab_J, (∀ k pc μ ls st, ab_rn (ab_Cl d) 75 J Q k pc μ ls st → J pc μ ls st) → J 0 μ [v0, v1, .null, .null, .null] []) : ab_Cl (d + 1) 75 [v0, v1] μ Q := ab_go h
theorem e76_0 : ab_rn cl 76 J Q (k + 1) 0 μ [v0, v1, v2, v3, v4] st = ab_rn cl 76 J Q k 1 μ [v0, v1, v2, v3, v4] (.int 0 :: st) := x_iconst dX5_spreadAt_0 (by decide)
theorem e76_1 : ab_rn cl 76 J Q (k + 1) 1 μ [v0, v1, v2, v3, v4] (.int x :: st) = ab_rn cl 76 J Q k 2 μ [v0, v1, .int x, v3, v4] st := x_istore_n dX5_spreadAt_1 (Nat.le_of_ble_eq_true rfl) rfl
theorem e76_2 : ab_rn cl 76 J Q (k + 1) 2 μ [v0, v1, v2, v3, v4] st = ab_rn cl 76 J Q k 3 μ [v0, v1, v2, v3, v4] (.int 0 :: st) := x_iconst dX5_spreadAt_2 (by decide)
theorem e76_3 : ab_rn cl 76 J Q (k + 1) 3 μ [v0, v1, v2, v3, v4] (.int x :: st) = ab_rn cl 76 J Q k 4 μ [v0, v1, v2, .int x, v4] st := x_istore_n dX5_spreadAt_3 (Nat.le_of_ble_eq_true rfl) rfl
theorem e76_4 : ab_rn cl 76 J Q (k + 1) 4 μ [v0, v1, v2, .int x, v4] st = ab_rn cl 76 J Q k 5 μ [v0, v1, v2, .int x, v4] (.int x :: st) := x_iload_n dX5_spreadAt_4 rfl
theorem e76_5 : ab_rn cl 76 J Q (k + 1) 5 μ [v0, v1, v2, v3, v4] st = ab_rn cl 76 J Q k 6 μ [v0, v1, v2, v3, v4] (.int 4 :: st) := x_iconst dX5_spreadAt_5 (by decide)
theorem e76_6 : ab_rn cl 76 J Q (k + 1) 6 μ [v0, v1, v2, v3, v4] (.int y :: .int x :: st) = (((y ≤ x) → ab_rn cl 76 J Q k 44 μ [v0, v1, v2, v3, v4] st) ∧ ((¬ (y ≤ x)) → ab_rn cl 76 J Q k 9 μ [v0, v1, v2, v3, v4] st)) := x_icmpF dX5_spreadAt_6 rfl (fun _ _ _ _ _ => rfl)
theorem e76_9 : ab_rn cl 76 J Q (k + 1) 9 μ [.ref a, v1, v2, v3, v4] st = ab_rn cl 76 J Q k 10 μ [.ref a, v1, v2, v3, v4] (.ref a :: st) := x_aload_n dX5_spreadAt_9 rfl
theorem e76_10 : ab_rn cl 76 J Q (k + 1) 10 μ [v0, v1, v2, v3, v4] (.ref a :: st) = (ab_ob a 5 ∧ ab_rn cl 76 J Q k 13 μ [v0, v1, v2, v3, v4] (ab_fv μ a 0 :: st)) := x_get dX5_spreadAt_10 rfl
theorem e76_13 : ab_rn cl 76 J Q (k + 1) 13 μ [v0, .int x, v2, v3, v4] st = ab_rn cl 76 J Q k 14 μ [v0, .int x, v2, v3, v4] (.int x :: st) := x_iload_n dX5_spreadAt_13 rfl
theorem e76_14 : ab_rn cl 76 J Q (k + 1) 14 μ [v0, v1, v2, v3, v4] st = ab_rn cl 76 J Q k 15 μ [v0, v1, v2, v3, v4] (.int 4 :: st) := x_iconst dX5_spreadAt_14 (by decide)
theorem e76_15 : ab_rn cl 76 J Q (k + 1) 15 μ [v0, v1, v2, v3, v4] (.int y :: .int x :: st) = ab_rn cl 76 J Q k 16 μ [v0, v1, v2, v3, v4] (.int (x * y) :: st) := x_imul dX5_spreadAt_15
theorem e76_16 : ab_rn cl 76 J Q (k + 1) 16 μ [v0, v1, v2, .int x, v4] st = ab_rn cl 76 J Q k 17 μ [v0, v1, v2, .int x, v4] (.int x :: st) := x_iload_n dX5_spreadAt_16 rfl
theorem e76_17 : ab_rn cl 76 J Q (k + 1) 17 μ [v0, v1, v2, v3, v4] (.int y :: .int x :: st) = ab_rn cl 76 J Q k 18 μ [v0, v1, v2, v3, v4] (.int (x + y) :: st) := x_iadd dX5_spreadAt_17
theorem e76_18 : ab_rn cl 76 J Q (k + 1) 18 μ [v0, v1, v2, v3, v4] (.int x :: .ref 1 :: st) = (vp_in x 12 ∧ ab_rn cl 76 J Q k 19 μ [v0, v1, v2, v3, v4] (.ref (17 + 4 * x.toNatClampNeg) :: st)) := x_aaload dX5_spreadAt_18
theorem e76_19 : ab_rn cl 76 J Q (k + 1) 19 μ [v0, v1, v2, v3, v4] (.ref a :: st) = ab_rn cl 76 J Q k 21 μ [v0, v1, v2, v3, .ref a] st := x_astore dX5_spreadAt_19 (Nat.le_of_ble_eq_true rfl) rfl
theorem e76_21 : ab_rn cl 76 J Q (k + 1) 21 μ [v0, v1, v2, v3, .ref a] st = ab_rn cl 76 J Q k 23 μ [v0, v1, v2, v3, .ref a] (.ref a :: st) := x_aload dX5_spreadAt_21 rfl
theorem e76_23 : ab_rn cl 76 J Q (k + 1) 23 μ [v0, v1, v2, v3, .ref a] st = ab_rn cl 76 J Q k 25 μ [v0, v1, v2, v3, .ref a] (.ref a :: st) := x_aload dX5_spreadAt_23 rfl
theorem e76_25 : ab_rn cl 76 J Q (k + 1) 25 μ [v0, v1, v2, v3, v4] (.ref a :: st) = (ab_ob a 2 ∧ st.length ≤ 4 ∧ cl 10 [.ref a] μ (fun r μ' => ab_rn cl 76 J Q k 28 μ' [v0, v1, v2, v3, v4] (ab_pu r st))) := x_v (as := []) dX5_spreadAt_25 rfl rfl rfl rfl rfl
theorem e76_28 : ab_rn cl 76 J Q (k + 1) 28 μ [v0, v1, v2, v3, v4] (.int x0 :: .ref a :: st) = (ab_ob a 2 ∧ st.length ≤ 4 ∧ cl 18 [.ref a, .int x0] μ (fun r μ' => ab_rn cl 76 J Q k 31 μ' [v0, v1, v2, v3, v4] (ab_pu r st))) := x_v (as := [.int x0]) dX5_spreadAt_28 rfl rfl rfl rfl rfl
theorem e76_31 : ab_rn cl 76 J Q (k + 1) 31 μ [v0, v1, v2, v3, v4] st = ab_rn cl 76 J Q k 32 μ [v0, v1, v2, v3, v4] (.int 2 :: st) := x_iconst dX5_spreadAt_31 (by decide)
theorem e76_32 : ab_rn cl 76 J Q (k + 1) 32 μ [v0, v1, v2, v3, v4] (.int y :: .int x :: st) = (((x < y) → ab_rn cl 76 J Q k 38 μ [v0, v1, v2, v3, v4] st) ∧ ((¬ (x < y)) → ab_rn cl 76 J Q k 35 μ [v0, v1, v2, v3, v4] st)) := x_icmpF dX5_spreadAt_32 rfl (fun _ _ _ _ _ => rfl)
theorem e76_35 : ab_rn cl 76 J Q (k + 1) 35 μ [v0, v1, .int x, v3, v4] st = ab_rn cl 76 J Q k 38 μ [v0, v1, .int (x + 1), v3, v4] st := x_iinc dX5_spreadAt_35 (w := 1) (by decide) rfl rfl
theorem e76_38 : ab_rn cl 76 J Q (k + 1) 38 μ [v0, v1, v2, .int x, v4] st = ab_rn cl 76 J Q k 41 μ [v0, v1, v2, .int (x + 1), v4] st := x_iinc dX5_spreadAt_38 (w := 1) (by decide) rfl rfl
theorem e76_41 : ab_rn cl 76 J Q (k + 1) 41 μ [v0, v1, v2, v3, v4] st = J 4 μ [v0, v1, v2, v3, v4] st := x_gotoB dX5_spreadAt_41 (fun _ _ _ _ _ => rfl)
theorem e76_44 : ab_rn cl 76 J Q (k + 1) 44 μ [v0, v1, .int x, v3, v4] st = ab_rn cl 76 J Q k 45 μ [v0, v1, .int x, v3, v4] (.int x :: st) := x_iload_n dX5_spreadAt_44 rfl
theorem e76_45 : ab_rn cl 76 J Q (k + 1) 45 μ [v0, v1, v2, v3, v4] st = ab_rn cl 76 J Q k 46 μ [v0, v1, v2, v3, v4] (.int 2 :: st) := x_iconst dX5_spreadAt_45 (by decide)
theorem e76_46 : ab_rn cl 76 J Q (k + 1) 46 μ [v0, v1, v2, v3, v4] (.int y :: .int x :: st) = (((x < y) → ab_rn cl 76 J Q k 53 μ [v0, v1, v2, v3, v4] st) ∧ ((¬ (x < y)) → ab_rn cl 76 J Q k 49 μ [v0, v1, v2, v3, v4] st)) := x_icmpF dX5_spreadAt_46 rfl (fun _ _ _ _ _ => rfl)
theorem e76_49 : ab_rn cl 76 J Q (k + 1) 49 μ [v0, v1, v2, v3, v4] st = ab_rn cl 76 J Q k 50 μ [v0, v1, v2, v3, v4] (.int 1 :: st) := x_iconst dX5_spreadAt_49 (by decide)
theorem e76_50 : ab_rn cl 76 J Q (k + 1) 50 μ [v0, v1, v2, v3, v4] st = ab_rn cl 76 J Q k 54 μ [v0, v1, v2, v3, v4] st := x_gotoF dX5_spreadAt_50 (fun _ _ _ _ _ => rfl)
theorem e76_53 : ab_rn cl 76 J Q (k + 1) 53 μ [v0, v1, v2, v3, v4] st = ab_rn cl 76 J Q k 54 μ [v0, v1, v2, v3, v4] (.int 0 :: st) := x_iconst dX5_spreadAt_53 (by decide)
theorem e76_54 : ab_rn cl 76 J Q (k + 1) 54 μ [v0, v1, v2, v3, v4] [.int v] = Q (some v) μ := x_iret dX5_spreadAt_54 rfl
theorem n76 {d : Nat} (h : ∀ J : ab_J, (∀ k pc μ ls st, ab_rn (ab_Cl d) 76 J Q k pc μ ls st → J pc μ ls st) → J 0 μ [v0, v1, .null, .null, .null] []) : ab_Cl (d + 1) 76 [v0, v1] μ Q := ab_go h
theorem e77_0 : ab_rn cl 77 J Q (k + 1) 0 μ [v0, v1, v2] st = ab_rn cl 77 J Q k 1 μ [v0, v1, v2] (.int 1 :: st) := x_iconst dX5_greatestDanger_0 (by decide)
theorem e77_1 : ab_rn cl 77 J Q (k + 1) 1 μ [v0, v1, v2] (.int x :: st) = ab_rn cl 77 J Q k 2 μ [v0, .int x, v2] st := x_istore_n dX5_greatestDanger_1 (Nat.le_of_ble_eq_true rfl) rfl
theorem e77_2 : ab_rn cl 77 J Q (k + 1) 2 μ [v0, v1, v2] st = ab_rn cl 77 J Q k 3 μ [v0, v1, v2] (.int 0 :: st) := x_iconst dX5_greatestDanger_2 (by decide)
theorem e77_3 : ab_rn cl 77 J Q (k + 1) 3 μ [v0, v1, v2] (.int x :: st) = ab_rn cl 77 J Q k 4 μ [v0, v1, .int x] st := x_istore_n dX5_greatestDanger_3 (Nat.le_of_ble_eq_true rfl) rfl
theorem e77_4 : ab_rn cl 77 J Q (k + 1) 4 μ [v0, v1, .int x] st = ab_rn cl 77 J Q k 5 μ [v0, v1, .int x] (.int x :: st) := x_iload_n dX5_greatestDanger_4 rfl
theorem e77_5 : ab_rn cl 77 J Q (k + 1) 5 μ [v0, v1, v2] st = ab_rn cl 77 J Q k 7 μ [v0, v1, v2] (.int 12 :: st) := x_bipush dX5_greatestDanger_5 (by decide)
theorem e77_7 : ab_rn cl 77 J Q (k + 1) 7 μ [v0, v1, v2] (.int y :: .int x :: st) = (((y ≤ x) → ab_rn cl 77 J Q k 26 μ [v0, v1, v2] st) ∧ ((¬ (y ≤ x)) → ab_rn cl 77 J Q k 10 μ [v0, v1, v2] st)) := x_icmpF dX5_greatestDanger_7 rfl (fun _ _ _ _ _ => rfl)
theorem e77_10 : ab_rn cl 77 J Q (k + 1) 10 μ [v0, .int x, v2] st = ab_rn cl 77 J Q k 11 μ [v0, .int x, v2] (.int x :: st) := x_iload_n dX5_greatestDanger_10 rfl
theorem e77_11 : ab_rn cl 77 J Q (k + 1) 11 μ [.ref a, v1, v2] st = ab_rn cl 77 J Q k 12 μ [.ref a, v1, v2] (.ref a :: st) := x_aload_n dX5_greatestDanger_11 rfl
theorem e77_12 : ab_rn cl 77 J Q (k + 1) 12 μ [v0, v1, .int x] st = ab_rn cl 77 J Q k 13 μ [v0, v1, .int x] (.int x :: st) := x_iload_n dX5_greatestDanger_12 rfl
theorem e77_13 : ab_rn cl 77 J Q (k + 1) 13 μ [v0, v1, v2] (.int x0 :: .ref a :: st) = (ab_ob a 5 ∧ st.length ≤ 4 ∧ cl 75 [.ref a, .int x0] μ (fun r μ' => ab_rn cl 77 J Q k 16 μ' [v0, v1, v2] (ab_pu r st))) := x_v (as := [.int x0]) dX5_greatestDanger_13 rfl rfl rfl rfl rfl
theorem e77_16 : ab_rn cl 77 J Q (k + 1) 16 μ [v0, v1, v2] (.int y :: .int x :: st) = (st.length ≤ 4 ∧ ab_rn cl 77 J Q k 19 μ [v0, v1, v2] (.int (if x < y then y else x) :: st)) := x_max dX5_greatestDanger_16 rfl
theorem e77_19 : ab_rn cl 77 J Q (k + 1) 19 μ [v0, v1, v2] (.int x :: st) = ab_rn cl 77 J Q k 20 μ [v0, .int x, v2] st := x_istore_n dX5_greatestDanger_19 (Nat.le_of_ble_eq_true rfl) rfl
theorem e77_20 : ab_rn cl 77 J Q (k + 1) 20 μ [v0, v1, .int x] st = ab_rn cl 77 J Q k 23 μ [v0, v1, .int (x + 1)] st := x_iinc dX5_greatestDanger_20 (w := 1) (by decide) rfl rfl
theorem e77_23 : ab_rn cl 77 J Q (k + 1) 23 μ [v0, v1, v2] st = J 4 μ [v0, v1, v2] st := x_gotoB dX5_greatestDanger_23 (fun _ _ _ _ _ => rfl)
theorem e77_26 : ab_rn cl 77 J Q (k + 1) 26 μ [v0, .int x, v2] st = ab_rn cl 77 J Q k 27 μ [v0, .int x, v2] (.int x :: st) := x_iload_n dX5_greatestDanger_26 rfl
theorem e77_27 : ab_rn cl 77 J Q (k + 1) 27 μ [v0, v1, v2] [.int v] = Q (some v) μ := x_iret dX5_greatestDanger_27 rfl
theorem n77 {d : Nat} (h : ∀ J : ab_J, (∀ k pc μ ls st, ab_rn (ab_Cl d) 77 J Q k pc μ ls st → J pc μ ls st) → J 0 μ [v0, .null, .null] []) : ab_Cl (d + 1) 77 [v0] μ Q := ab_go h
theorem e78_0 : ab_rn cl 78 J Q (k + 1) 0 μ [v0, v1, v2] st = ab_rn cl 78 J Q k 1 μ [v0, v1, v2] (.int 0 :: st) := x_iconst dX5_massOnSlopes_0 (by decide)
theorem e78_1 : ab_rn cl 78 J Q (k + 1) 1 μ [v0, v1, v2] (.int x :: st) = ab_rn cl 78 J Q k 2 μ [v0, .int x, v2] st := x_istore_n dX5_massOnSlopes_1 (Nat.le_of_ble_eq_true rfl) rfl
theorem e78_2 : ab_rn cl 78 J Q (k + 1) 2 μ [v0, v1, v2] st = ab_rn cl 78 J Q k 3 μ [v0, v1, v2] (.int 0 :: st) := x_iconst dX5_massOnSlopes_2 (by decide)
theorem e78_3 : ab_rn cl 78 J Q (k + 1) 3 μ [v0, v1, v2] (.int x :: st) = ab_rn cl 78 J Q k 4 μ [v0, v1, .int x] st := x_istore_n dX5_massOnSlopes_3 (Nat.le_of_ble_eq_true rfl) rfl
theorem e78_4 : ab_rn cl 78 J Q (k + 1) 4 μ [v0, v1, .int x] st = ab_rn cl 78 J Q k 5 μ [v0, v1, .int x] (.int x :: st) := x_iload_n dX5_massOnSlopes_4 rfl
theorem e78_5 : ab_rn cl 78 J Q (k + 1) 5 μ [v0, v1, v2] st = ab_rn cl 78 J Q k 7 μ [v0, v1, v2] (.int 12 :: st) := x_bipush dX5_massOnSlopes_5 (by decide)
theorem e78_7 : ab_rn cl 78 J Q (k + 1) 7 μ [v0, v1, v2] (.int y :: .int x :: st) = (((y ≤ x) → ab_rn cl 78 J Q k 29 μ [v0, v1, v2] st) ∧ ((¬ (y ≤ x)) → ab_rn cl 78 J Q k 10 μ [v0, v1, v2] st)) := x_icmpF dX5_massOnSlopes_7 rfl (fun _ _ _ _ _ => rfl)
theorem e78_10 : ab_rn cl 78 J Q (k + 1) 10 μ [v0, .int x, v2] st = ab_rn cl 78 J Q k 11 μ [v0, .int x, v2] (.int x :: st) := x_iload_n dX5_massOnSlopes_10 rfl
theorem e78_11 : ab_rn cl 78 J Q (k + 1) 11 μ [.ref a, v1, v2] st = ab_rn cl 78 J Q k 12 μ [.ref a, v1, v2] (.ref a :: st) := x_aload_n dX5_massOnSlopes_11 rfl
theorem e78_12 : ab_rn cl 78 J Q (k + 1) 12 μ [v0, v1, v2] (.ref a :: st) = (ab_ob a 5 ∧ ab_rn cl 78 J Q k 15 μ [v0, v1, v2] (ab_fv μ a 0 :: st)) := x_get dX5_massOnSlopes_12 rfl
theorem e78_15 : ab_rn cl 78 J Q (k + 1) 15 μ [v0, v1, .int x] st = ab_rn cl 78 J Q k 16 μ [v0, v1, .int x] (.int x :: st) := x_iload_n dX5_massOnSlopes_15 rfl
theorem e78_16 : ab_rn cl 78 J Q (k + 1) 16 μ [v0, v1, v2] (.int x :: .ref 1 :: st) = (vp_in x 12 ∧ ab_rn cl 78 J Q k 17 μ [v0, v1, v2] (.ref (17 + 4 * x.toNatClampNeg) :: st)) := x_aaload dX5_massOnSlopes_16
theorem e78_17 : ab_rn cl 78 J Q (k + 1) 17 μ [v0, v1, v2] st = ab_rn cl 78 J Q k 18 μ [v0, v1, v2] (.int (-1) :: st) := x_iconst dX5_massOnSlopes_17 (by decide)
theorem e78_18 : ab_rn cl 78 J Q (k + 1) 18 μ [v0, v1, v2] (.int x0 :: .ref a :: st) = (ab_ob a 2 ∧ st.length ≤ 4 ∧ cl 16 [.ref a, .int x0] μ (fun r μ' => ab_rn cl 78 J Q k 21 μ' [v0, v1, v2] (ab_pu r st))) := x_v (as := [.int x0]) dX5_massOnSlopes_18 rfl rfl rfl rfl rfl
theorem e78_21 : ab_rn cl 78 J Q (k + 1) 21 μ [v0, v1, v2] (.int y :: .int x :: st) = ab_rn cl 78 J Q k 22 μ [v0, v1, v2] (.int (x + y) :: st) := x_iadd dX5_massOnSlopes_21
theorem e78_22 : ab_rn cl 78 J Q (k + 1) 22 μ [v0, v1, v2] (.int x :: st) = ab_rn cl 78 J Q k 23 μ [v0, .int x, v2] st := x_istore_n dX5_massOnSlopes_22 (Nat.le_of_ble_eq_true rfl) rfl
theorem e78_23 : ab_rn cl 78 J Q (k + 1) 23 μ [v0, v1, .int x] st = ab_rn cl 78 J Q k 26 μ [v0, v1, .int (x + 1)] st := x_iinc dX5_massOnSlopes_23 (w := 1) (by decide) rfl rfl
theorem e78_26 : ab_rn cl 78 J Q (k + 1) 26 μ [v0, v1, v2] st = J 4 μ [v0, v1, v2] st := x_gotoB dX5_massOnSlopes_26 (fun _ _ _ _ _ => rfl)
theorem e78_29 : ab_rn cl 78 J Q (k + 1) 29 μ [v0, .int x, v2] st = ab_rn cl 78 J Q k 30 μ [v0, .int x, v2] (.int x :: st) := x_iload_n dX5_massOnSlopes_29 rfl
theorem e78_30 : ab_rn cl 78 J Q (k + 1) 30 μ [v0, v1, v2] [.int v] = Q (some v) μ := x_iret dX5_massOnSlopes_30 rfl
theorem n78 {d : Nat} (h : ∀ J : ab_J, (∀ k pc μ ls st, ab_rn (ab_Cl d) 78 J Q k pc μ ls st → J pc μ ls st) → J 0 μ [v0, .null, .null] []) : ab_Cl (d + 1) 78 [v0] μ Q := ab_go h
end EV
