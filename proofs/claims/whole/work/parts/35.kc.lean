set_option maxHeartbeats 400000 in
set_option maxRecDepth 100000 in
theorem c_Kc_init (l : Launch) (D : kD) (b : Nat) (w : ww) (h0 : w b = some (.inr (0, [.null, .null, .null, .null, .null, .null, .null, .null, .int 0, .null, .null, .int 0]))) : AM l D M_Kc_init 3 207 3246 [.ref b] w (b + 1) (fun v w' n' => v = none ∧ n' = b + 208 ∧ Fr w w' b 208 ∧ Cod D w' b 0 false (fun _ => 0) (fun _ => 0) (fun _ => (false, 0, 0, [])) [] 0 (fun _ _ => (false, 0, 0, [])) [] [] false) := by
  refine AM.ofv (by decide +kernel) rfl (Nat.le_of_ble_eq_true rfl) (fun X A Q hin S RT => ?_)
  have S : FX X (D, A, 2, Q) prog_1_method_1_code "KeyCodec" 3 207 3246 := S
  have RT : RTv X (D, A, 2, Q) prog_1_method_1_code 207 3246 _ := RT
  refine a_lve (lv' := [(0, .ref b)]) rfl ?_
  have fr : Fr w w b 208 := Fr.refl _ _ _
  refine a_aload_n S d_Kc_init_0 rfl rfl ?_
  refine a_objInit S lo_Kc_3 ts_oi1 ts_oi2 (by decide) (Nat.le_of_ble_eq_true rfl) d_Kc_init_1 ?_
  refine a_aload_n S d_Kc_init_4 rfl rfl ?_
  refine a_new S kc_Schema kt_Schema lc_Kc_9 in_Schema ii_Schema (fs := [.null, .null, .int 0, .int 0]) df_Schema (by omega) (by omega) d_Kc_init_5 (fun w1 hn3 e2 => ?_)
  have fr := fr.trans (Fr.sub (Fr.of1 e2) (by omega) (by omega))
  have h0 := Fr.cell (Fr.of1 e2) h0 (by omega)
  refine a_dup S d_Kc_init_8 rfl ?_
  refine a_callIN S (rest := [_, _]) lg_Kc_11 (c_Schema_init X.2.1 D (b + 1) w1 hn3) (by decide) (by omega) (by omega) rfl (Nat.le_of_ble_eq_true rfl) d_Kc_init_9 (fun v4 w5 n6 p7 => ?_)
  obtain ⟨rfl, e9, f8, hv10⟩ := p7
  rw [e9]
  refine a_eqn (n2 := b + 4) (by omega) ?_
  refine a_st (st' := [.ref (b + 1), .ref b]) rfl ?_
  have hv10 := hv10 (fun _ => 0) (fun _ => 0)
  have fr := fr.trans (Fr.sub f8 (by omega) (by omega))
  have h0 := Fr.cell f8 h0 (by omega)
  refine a_putF S hin kc_Kc kt_Kc 0 (by decide) lf_Kc_12 rfl rfl h0 rfl rfl (Nat.le_of_ble_eq_true rfl) d_Kc_init_12 (fun w11 h0 e12 => ?_)
  have h0 : w11 b = some (.inr (0, [.ref (b + 1), .null, .null, .null, .null, .null, .null, .null, .int 0, .null, .null, .int 0])) := h0
  have fr := fr.trans (Fr.sub (Fr.of1 e12) (by omega) (by omega))
  have hv10 := Sch.fr (Fr.of1 e12) hv10 (by omega)
  refine a_aload_n S d_Kc_init_15 rfl rfl ?_
  refine a_new S kc_Tuple kt_Tuple lc_Kc_16 in_Tuple ii_Tuple (fs := [.null]) df_Tuple (by omega) (by omega) d_Kc_init_16 (fun w13 hn15 e14 => ?_)
  have fr := fr.trans (Fr.sub (Fr.of1 e14) (by omega) (by omega))
  have h0 := Fr.cell (Fr.of1 e14) h0 (by omega)
  have hv10 := Sch.fr (Fr.of1 e14) hv10 (by omega)
  refine a_dup S d_Kc_init_19 rfl ?_
  refine a_callI S (rest := [_, _]) lg_Kc_18 (c_Tuple_init X.2.1 D (b + 4) w13 hn15) (by decide) (by omega) (by omega) rfl (Nat.le_of_ble_eq_true rfl) d_Kc_init_20 (fun v16 w17 n18 p19 => ?_)
  obtain ⟨rfl, e21, f20, hv22⟩ := p19
  rw [e21]
  refine a_eqn (n2 := b + 16) (by omega) ?_
  refine a_st (st' := [.ref (b + 4), .ref b]) rfl ?_
  have fr := fr.trans (Fr.sub f20 (by omega) (by omega))
  have h0 := Fr.cell f20 h0 (by omega)
  have hv10 := Sch.fr f20 hv10 (by omega)
  refine a_putF S hin kc_Kc kt_Kc 1 (by decide) lf_Kc_19 rfl rfl h0 rfl rfl (Nat.le_of_ble_eq_true rfl) d_Kc_init_23 (fun w23 h0 e24 => ?_)
  have h0 : w23 b = some (.inr (0, [.ref (b + 1), .ref (b + 4), .null, .null, .null, .null, .null, .null, .int 0, .null, .null, .int 0])) := h0
  have fr := fr.trans (Fr.sub (Fr.of1 e24) (by omega) (by omega))
  have hv10 := Sch.fr (Fr.of1 e24) hv10 (by omega)
  have hv22 := Tup.fr (Fr.of1 e24) hv22 (by omega)
  refine a_aload_n S d_Kc_init_26 rfl rfl ?_
  refine a_new S kc_Tuple kt_Tuple lc_Kc_16 in_Tuple ii_Tuple (fs := [.null]) df_Tuple (by omega) (by omega) d_Kc_init_27 (fun w25 hn27 e26 => ?_)
  have fr := fr.trans (Fr.sub (Fr.of1 e26) (by omega) (by omega))
  have h0 := Fr.cell (Fr.of1 e26) h0 (by omega)
  have hv10 := Sch.fr (Fr.of1 e26) hv10 (by omega)
  have hv22 := Tup.fr (Fr.of1 e26) hv22 (by omega)
  refine a_dup S d_Kc_init_30 rfl ?_
  refine a_callI S (rest := [_, _]) lg_Kc_18 (c_Tuple_init X.2.1 D (b + 16) w25 hn27) (by decide) (by omega) (by omega) rfl (Nat.le_of_ble_eq_true rfl) d_Kc_init_31 (fun v28 w29 n30 p31 => ?_)
  obtain ⟨rfl, e33, f32, hv34⟩ := p31
  rw [e33]
  refine a_eqn (n2 := b + 28) (by omega) ?_
  refine a_st (st' := [.ref (b + 16), .ref b]) rfl ?_
  have fr := fr.trans (Fr.sub f32 (by omega) (by omega))
  have h0 := Fr.cell f32 h0 (by omega)
  have hv10 := Sch.fr f32 hv10 (by omega)
  have hv22 := Tup.fr f32 hv22 (by omega)
  refine a_putF S hin kc_Kc kt_Kc 2 (by decide) lf_Kc_23 rfl rfl h0 rfl rfl (Nat.le_of_ble_eq_true rfl) d_Kc_init_34 (fun w35 h0 e36 => ?_)
  have h0 : w35 b = some (.inr (0, [.ref (b + 1), .ref (b + 4), .ref (b + 16), .null, .null, .null, .null, .null, .int 0, .null, .null, .int 0])) := h0
  have fr := fr.trans (Fr.sub (Fr.of1 e36) (by omega) (by omega))
  have hv10 := Sch.fr (Fr.of1 e36) hv10 (by omega)
  have hv22 := Tup.fr (Fr.of1 e36) hv22 (by omega)
  have hv34 := Tup.fr (Fr.of1 e36) hv34 (by omega)
  refine a_aload_n S d_Kc_init_37 rfl rfl ?_
  refine a_new S kc_Row kt_Row lc_Kc_26 in_Row ii_Row (fs := [.null, .int 0]) df_Row (by omega) (by omega) d_Kc_init_38 (fun w37 hn39 e38 => ?_)
  have fr := fr.trans (Fr.sub (Fr.of1 e38) (by omega) (by omega))
  have h0 := Fr.cell (Fr.of1 e38) h0 (by omega)
  have hv10 := Sch.fr (Fr.of1 e38) hv10 (by omega)
  have hv22 := Tup.fr (Fr.of1 e38) hv22 (by omega)
  have hv34 := Tup.fr (Fr.of1 e38) hv34 (by omega)
  refine a_dup S d_Kc_init_41 rfl ?_
  refine a_callIN S (rest := [_, _]) lg_Kc_28 (c_Row_init X.2.1 D (b + 28) w37 hn39) (by decide) (by omega) (by omega) rfl (Nat.le_of_ble_eq_true rfl) d_Kc_init_42 (fun v40 w41 n42 p43 => ?_)
  obtain ⟨rfl, e45, f44, hv46⟩ := p43
  rw [e45]
  refine a_eqn (n2 := b + 30) (by omega) ?_
  refine a_st (st' := [.ref (b + 28), .ref b]) rfl ?_
  have fr := fr.trans (Fr.sub f44 (by omega) (by omega))
  have h0 := Fr.cell f44 h0 (by omega)
  have hv10 := Sch.fr f44 hv10 (by omega)
  have hv22 := Tup.fr f44 hv22 (by omega)
  have hv34 := Tup.fr f44 hv34 (by omega)
  refine a_putF S hin kc_Kc kt_Kc 3 (by decide) lf_Kc_29 rfl rfl h0 rfl rfl (Nat.le_of_ble_eq_true rfl) d_Kc_init_45 (fun w47 h0 e48 => ?_)
  have h0 : w47 b = some (.inr (0, [.ref (b + 1), .ref (b + 4), .ref (b + 16), .ref (b + 28), .null, .null, .null, .null, .int 0, .null, .null, .int 0])) := h0
  have fr := fr.trans (Fr.sub (Fr.of1 e48) (by omega) (by omega))
  have hv10 := Sch.fr (Fr.of1 e48) hv10 (by omega)
  have hv22 := Tup.fr (Fr.of1 e48) hv22 (by omega)
  have hv34 := Tup.fr (Fr.of1 e48) hv34 (by omega)
  have hv46 := Row.fr (Fr.of1 e48) hv46 (by omega)
  refine a_aload_n S d_Kc_init_48 rfl rfl ?_
  refine a_new S kc_Row kt_Row lc_Kc_26 in_Row ii_Row (fs := [.null, .int 0]) df_Row (by omega) (by omega) d_Kc_init_49 (fun w49 hn51 e50 => ?_)
  have fr := fr.trans (Fr.sub (Fr.of1 e50) (by omega) (by omega))
  have h0 := Fr.cell (Fr.of1 e50) h0 (by omega)
  have hv10 := Sch.fr (Fr.of1 e50) hv10 (by omega)
  have hv22 := Tup.fr (Fr.of1 e50) hv22 (by omega)
  have hv34 := Tup.fr (Fr.of1 e50) hv34 (by omega)
  have hv46 := Row.fr (Fr.of1 e50) hv46 (by omega)
  refine a_dup S d_Kc_init_52 rfl ?_
  refine a_callIN S (rest := [_, _]) lg_Kc_28 (c_Row_init X.2.1 D (b + 30) w49 hn51) (by decide) (by omega) (by omega) rfl (Nat.le_of_ble_eq_true rfl) d_Kc_init_53 (fun v52 w53 n54 p55 => ?_)
  obtain ⟨rfl, e57, f56, hv58⟩ := p55
  rw [e57]
  refine a_eqn (n2 := b + 32) (by omega) ?_
  refine a_st (st' := [.ref (b + 30), .ref b]) rfl ?_
  have fr := fr.trans (Fr.sub f56 (by omega) (by omega))
  have h0 := Fr.cell f56 h0 (by omega)
  have hv10 := Sch.fr f56 hv10 (by omega)
  have hv22 := Tup.fr f56 hv22 (by omega)
  have hv34 := Tup.fr f56 hv34 (by omega)
  have hv46 := Row.fr f56 hv46 (by omega)
  refine a_putF S hin kc_Kc kt_Kc 4 (by decide) lf_Kc_33 rfl rfl h0 rfl rfl (Nat.le_of_ble_eq_true rfl) d_Kc_init_56 (fun w59 h0 e60 => ?_)
  have h0 : w59 b = some (.inr (0, [.ref (b + 1), .ref (b + 4), .ref (b + 16), .ref (b + 28), .ref (b + 30), .null, .null, .null, .int 0, .null, .null, .int 0])) := h0
  have fr := fr.trans (Fr.sub (Fr.of1 e60) (by omega) (by omega))
  have hv10 := Sch.fr (Fr.of1 e60) hv10 (by omega)
  have hv22 := Tup.fr (Fr.of1 e60) hv22 (by omega)
  have hv34 := Tup.fr (Fr.of1 e60) hv34 (by omega)
  have hv46 := Row.fr (Fr.of1 e60) hv46 (by omega)
  have hv58 := Row.fr (Fr.of1 e60) hv58 (by omega)
  refine a_aload_n S d_Kc_init_59 rfl rfl ?_
  refine a_new S kc_Row kt_Row lc_Kc_26 in_Row ii_Row (fs := [.null, .int 0]) df_Row (by omega) (by omega) d_Kc_init_60 (fun w61 hn63 e62 => ?_)
  have fr := fr.trans (Fr.sub (Fr.of1 e62) (by omega) (by omega))
  have h0 := Fr.cell (Fr.of1 e62) h0 (by omega)
  have hv10 := Sch.fr (Fr.of1 e62) hv10 (by omega)
  have hv22 := Tup.fr (Fr.of1 e62) hv22 (by omega)
  have hv34 := Tup.fr (Fr.of1 e62) hv34 (by omega)
  have hv46 := Row.fr (Fr.of1 e62) hv46 (by omega)
  have hv58 := Row.fr (Fr.of1 e62) hv58 (by omega)
  refine a_dup S d_Kc_init_63 rfl ?_
  refine a_callIN S (rest := [_, _]) lg_Kc_28 (c_Row_init X.2.1 D (b + 32) w61 hn63) (by decide) (by omega) (by omega) rfl (Nat.le_of_ble_eq_true rfl) d_Kc_init_64 (fun v64 w65 n66 p67 => ?_)
  obtain ⟨rfl, e69, f68, hv70⟩ := p67
  rw [e69]
  refine a_eqn (n2 := b + 34) (by omega) ?_
  refine a_st (st' := [.ref (b + 32), .ref b]) rfl ?_
  have fr := fr.trans (Fr.sub f68 (by omega) (by omega))
  have h0 := Fr.cell f68 h0 (by omega)
  have hv10 := Sch.fr f68 hv10 (by omega)
  have hv22 := Tup.fr f68 hv22 (by omega)
  have hv34 := Tup.fr f68 hv34 (by omega)
  have hv46 := Row.fr f68 hv46 (by omega)
  have hv58 := Row.fr f68 hv58 (by omega)
  refine a_putF S hin kc_Kc kt_Kc 5 (by decide) lf_Kc_36 rfl rfl h0 rfl rfl (Nat.le_of_ble_eq_true rfl) d_Kc_init_67 (fun w71 h0 e72 => ?_)
  have h0 : w71 b = some (.inr (0, [.ref (b + 1), .ref (b + 4), .ref (b + 16), .ref (b + 28), .ref (b + 30), .ref (b + 32), .null, .null, .int 0, .null, .null, .int 0])) := h0
  have fr := fr.trans (Fr.sub (Fr.of1 e72) (by omega) (by omega))
  have hv10 := Sch.fr (Fr.of1 e72) hv10 (by omega)
  have hv22 := Tup.fr (Fr.of1 e72) hv22 (by omega)
  have hv34 := Tup.fr (Fr.of1 e72) hv34 (by omega)
  have hv46 := Row.fr (Fr.of1 e72) hv46 (by omega)
  have hv58 := Row.fr (Fr.of1 e72) hv58 (by omega)
  have hv70 := Row.fr (Fr.of1 e72) hv70 (by omega)
  refine a_aload_n S d_Kc_init_70 rfl rfl ?_
  refine a_bipush S (v := 12) d_Kc_init_71 (by decide) ?_
  refine a_newq S (t0 := 4) (N := 12) rfl lc_Kc_16 ov_Tuple rfl (by decide) (by omega) (by omega) d_Kc_init_73 (fun w73 hn75 e74 => ?_)
  have fr := fr.trans (Fr.sub (Fr.of1 e74) (by omega) (by omega))
  have h0 := Fr.cell (Fr.of1 e74) h0 (by omega)
  have hv10 := Sch.fr (Fr.of1 e74) hv10 (by omega)
  have hv22 := Tup.fr (Fr.of1 e74) hv22 (by omega)
  have hv34 := Tup.fr (Fr.of1 e74) hv34 (by omega)
  have hv46 := Row.fr (Fr.of1 e74) hv46 (by omega)
  have hv58 := Row.fr (Fr.of1 e74) hv58 (by omega)
  have hv70 := Row.fr (Fr.of1 e74) hv70 (by omega)
  refine a_putF S hin kc_Kc kt_Kc 6 (by decide) lf_Kc_39 rfl rfl h0 rfl rfl (Nat.le_of_ble_eq_true rfl) d_Kc_init_76 (fun w76 h0 e77 => ?_)
  have h0 : w76 b = some (.inr (0, [.ref (b + 1), .ref (b + 4), .ref (b + 16), .ref (b + 28), .ref (b + 30), .ref (b + 32), .ref (b + 34), .null, .int 0, .null, .null, .int 0])) := h0
  have fr := fr.trans (Fr.sub (Fr.of1 e77) (by omega) (by omega))
  have hn75 := Fr.cell (Fr.of1 e77) hn75 (by omega)
  have hv10 := Sch.fr (Fr.of1 e77) hv10 (by omega)
  have hv22 := Tup.fr (Fr.of1 e77) hv22 (by omega)
  have hv34 := Tup.fr (Fr.of1 e77) hv34 (by omega)
  have hv46 := Row.fr (Fr.of1 e77) hv46 (by omega)
  have hv58 := Row.fr (Fr.of1 e77) hv58 (by omega)
  have hv70 := Row.fr (Fr.of1 e77) hv70 (by omega)
  refine a_aload_n S d_Kc_init_79 rfl rfl ?_
  refine a_bipush S (v := 12) d_Kc_init_80 (by decide) ?_
  refine a_newq S (t0 := 5) (N := 12) rfl lc_Kc_26 ov_Row rfl (by decide) (by omega) (by omega) d_Kc_init_82 (fun w78 hn80 e79 => ?_)
  have fr := fr.trans (Fr.sub (Fr.of1 e79) (by omega) (by omega))
  have h0 := Fr.cell (Fr.of1 e79) h0 (by omega)
  have hn75 := Fr.cell (Fr.of1 e79) hn75 (by omega)
  have hv10 := Sch.fr (Fr.of1 e79) hv10 (by omega)
  have hv22 := Tup.fr (Fr.of1 e79) hv22 (by omega)
  have hv34 := Tup.fr (Fr.of1 e79) hv34 (by omega)
  have hv46 := Row.fr (Fr.of1 e79) hv46 (by omega)
  have hv58 := Row.fr (Fr.of1 e79) hv58 (by omega)
  have hv70 := Row.fr (Fr.of1 e79) hv70 (by omega)
  refine a_putF S hin kc_Kc kt_Kc 7 (by decide) lf_Kc_43 rfl rfl h0 rfl rfl (Nat.le_of_ble_eq_true rfl) d_Kc_init_85 (fun w81 h0 e82 => ?_)
  have h0 : w81 b = some (.inr (0, [.ref (b + 1), .ref (b + 4), .ref (b + 16), .ref (b + 28), .ref (b + 30), .ref (b + 32), .ref (b + 34), .ref (b + 35), .int 0, .null, .null, .int 0])) := h0
  have fr := fr.trans (Fr.sub (Fr.of1 e82) (by omega) (by omega))
  have hn75 := Fr.cell (Fr.of1 e82) hn75 (by omega)
  have hn80 := Fr.cell (Fr.of1 e82) hn80 (by omega)
  have hv10 := Sch.fr (Fr.of1 e82) hv10 (by omega)
  have hv22 := Tup.fr (Fr.of1 e82) hv22 (by omega)
  have hv34 := Tup.fr (Fr.of1 e82) hv34 (by omega)
  have hv46 := Row.fr (Fr.of1 e82) hv46 (by omega)
  have hv58 := Row.fr (Fr.of1 e82) hv58 (by omega)
  have hv70 := Row.fr (Fr.of1 e82) hv70 (by omega)
  refine a_aload_n S d_Kc_init_88 rfl rfl ?_
  refine a_iconst S (v := 0) d_Kc_init_89 (by decide) ?_
  refine a_put S kc_Kc kt_Kc 8 (by decide) lf_Kc_47 rfl h0 rfl rfl (Nat.le_of_ble_eq_true rfl) d_Kc_init_90 (fun w83 h0 e84 => ?_)
  have h0 : w83 b = some (.inr (0, [.ref (b + 1), .ref (b + 4), .ref (b + 16), .ref (b + 28), .ref (b + 30), .ref (b + 32), .ref (b + 34), .ref (b + 35), .int 0, .null, .null, .int 0])) := h0
  have fr := fr.trans (Fr.sub (Fr.of1 e84) (by omega) (by omega))
  have hn75 := Fr.cell (Fr.of1 e84) hn75 (by omega)
  have hn80 := Fr.cell (Fr.of1 e84) hn80 (by omega)
  have hv10 := Sch.fr (Fr.of1 e84) hv10 (by omega)
  have hv22 := Tup.fr (Fr.of1 e84) hv22 (by omega)
  have hv34 := Tup.fr (Fr.of1 e84) hv34 (by omega)
  have hv46 := Row.fr (Fr.of1 e84) hv46 (by omega)
  have hv58 := Row.fr (Fr.of1 e84) hv58 (by omega)
  have hv70 := Row.fr (Fr.of1 e84) hv70 (by omega)
  refine a_aload_n S d_Kc_init_93 rfl rfl ?_
  refine a_new S kc_Row kt_Row lc_Kc_26 in_Row ii_Row (fs := [.null, .int 0]) df_Row (by omega) (by omega) d_Kc_init_94 (fun w85 hn87 e86 => ?_)
  have fr := fr.trans (Fr.sub (Fr.of1 e86) (by omega) (by omega))
  have h0 := Fr.cell (Fr.of1 e86) h0 (by omega)
  have hn75 := Fr.cell (Fr.of1 e86) hn75 (by omega)
  have hn80 := Fr.cell (Fr.of1 e86) hn80 (by omega)
  have hv10 := Sch.fr (Fr.of1 e86) hv10 (by omega)
  have hv22 := Tup.fr (Fr.of1 e86) hv22 (by omega)
  have hv34 := Tup.fr (Fr.of1 e86) hv34 (by omega)
  have hv46 := Row.fr (Fr.of1 e86) hv46 (by omega)
  have hv58 := Row.fr (Fr.of1 e86) hv58 (by omega)
  have hv70 := Row.fr (Fr.of1 e86) hv70 (by omega)
  refine a_dup S d_Kc_init_97 rfl ?_
  refine a_callIN S (rest := [_, _]) lg_Kc_28 (c_Row_init X.2.1 D (b + 36) w85 hn87) (by decide) (by omega) (by omega) rfl (Nat.le_of_ble_eq_true rfl) d_Kc_init_98 (fun v88 w89 n90 p91 => ?_)
  obtain ⟨rfl, e93, f92, hv94⟩ := p91
  rw [e93]
  refine a_eqn (n2 := b + 38) (by omega) ?_
  refine a_st (st' := [.ref (b + 36), .ref b]) rfl ?_
  have fr := fr.trans (Fr.sub f92 (by omega) (by omega))
  have h0 := Fr.cell f92 h0 (by omega)
  have hn75 := Fr.cell f92 hn75 (by omega)
  have hn80 := Fr.cell f92 hn80 (by omega)
  have hv10 := Sch.fr f92 hv10 (by omega)
  have hv22 := Tup.fr f92 hv22 (by omega)
  have hv34 := Tup.fr f92 hv34 (by omega)
  have hv46 := Row.fr f92 hv46 (by omega)
  have hv58 := Row.fr f92 hv58 (by omega)
  have hv70 := Row.fr f92 hv70 (by omega)
  refine a_putF S hin kc_Kc kt_Kc 9 (by decide) lf_Kc_51 rfl rfl h0 rfl rfl (Nat.le_of_ble_eq_true rfl) d_Kc_init_101 (fun w95 h0 e96 => ?_)
  have h0 : w95 b = some (.inr (0, [.ref (b + 1), .ref (b + 4), .ref (b + 16), .ref (b + 28), .ref (b + 30), .ref (b + 32), .ref (b + 34), .ref (b + 35), .int 0, .ref (b + 36), .null, .int 0])) := h0
  have fr := fr.trans (Fr.sub (Fr.of1 e96) (by omega) (by omega))
  have hn75 := Fr.cell (Fr.of1 e96) hn75 (by omega)
  have hn80 := Fr.cell (Fr.of1 e96) hn80 (by omega)
  have hv10 := Sch.fr (Fr.of1 e96) hv10 (by omega)
  have hv22 := Tup.fr (Fr.of1 e96) hv22 (by omega)
  have hv34 := Tup.fr (Fr.of1 e96) hv34 (by omega)
  have hv46 := Row.fr (Fr.of1 e96) hv46 (by omega)
  have hv58 := Row.fr (Fr.of1 e96) hv58 (by omega)
  have hv70 := Row.fr (Fr.of1 e96) hv70 (by omega)
  have hv94 := Row.fr (Fr.of1 e96) hv94 (by omega)
  refine a_aload_n S d_Kc_init_104 rfl rfl ?_
  refine a_new S kc_Row kt_Row lc_Kc_26 in_Row ii_Row (fs := [.null, .int 0]) df_Row (by omega) (by omega) d_Kc_init_105 (fun w97 hn99 e98 => ?_)
  have fr := fr.trans (Fr.sub (Fr.of1 e98) (by omega) (by omega))
  have h0 := Fr.cell (Fr.of1 e98) h0 (by omega)
  have hn75 := Fr.cell (Fr.of1 e98) hn75 (by omega)
  have hn80 := Fr.cell (Fr.of1 e98) hn80 (by omega)
  have hv10 := Sch.fr (Fr.of1 e98) hv10 (by omega)
  have hv22 := Tup.fr (Fr.of1 e98) hv22 (by omega)
  have hv34 := Tup.fr (Fr.of1 e98) hv34 (by omega)
  have hv46 := Row.fr (Fr.of1 e98) hv46 (by omega)
  have hv58 := Row.fr (Fr.of1 e98) hv58 (by omega)
  have hv70 := Row.fr (Fr.of1 e98) hv70 (by omega)
  have hv94 := Row.fr (Fr.of1 e98) hv94 (by omega)
  refine a_dup S d_Kc_init_108 rfl ?_
  refine a_callIN S (rest := [_, _]) lg_Kc_28 (c_Row_init X.2.1 D (b + 38) w97 hn99) (by decide) (by omega) (by omega) rfl (Nat.le_of_ble_eq_true rfl) d_Kc_init_109 (fun v100 w101 n102 p103 => ?_)
  obtain ⟨rfl, e105, f104, hv106⟩ := p103
  rw [e105]
  refine a_eqn (n2 := b + 40) (by omega) ?_
  refine a_st (st' := [.ref (b + 38), .ref b]) rfl ?_
  have fr := fr.trans (Fr.sub f104 (by omega) (by omega))
  have h0 := Fr.cell f104 h0 (by omega)
  have hn75 := Fr.cell f104 hn75 (by omega)
  have hn80 := Fr.cell f104 hn80 (by omega)
  have hv10 := Sch.fr f104 hv10 (by omega)
  have hv22 := Tup.fr f104 hv22 (by omega)
  have hv34 := Tup.fr f104 hv34 (by omega)
  have hv46 := Row.fr f104 hv46 (by omega)
  have hv58 := Row.fr f104 hv58 (by omega)
  have hv70 := Row.fr f104 hv70 (by omega)
  have hv94 := Row.fr f104 hv94 (by omega)
  refine a_putF S hin kc_Kc kt_Kc 10 (by decide) lf_Kc_54 rfl rfl h0 rfl rfl (Nat.le_of_ble_eq_true rfl) d_Kc_init_112 (fun w107 h0 e108 => ?_)
  have h0 : w107 b = some (.inr (0, [.ref (b + 1), .ref (b + 4), .ref (b + 16), .ref (b + 28), .ref (b + 30), .ref (b + 32), .ref (b + 34), .ref (b + 35), .int 0, .ref (b + 36), .ref (b + 38), .int 0])) := h0
  have fr := fr.trans (Fr.sub (Fr.of1 e108) (by omega) (by omega))
  have hn75 := Fr.cell (Fr.of1 e108) hn75 (by omega)
  have hn80 := Fr.cell (Fr.of1 e108) hn80 (by omega)
  have hv10 := Sch.fr (Fr.of1 e108) hv10 (by omega)
  have hv22 := Tup.fr (Fr.of1 e108) hv22 (by omega)
  have hv34 := Tup.fr (Fr.of1 e108) hv34 (by omega)
  have hv46 := Row.fr (Fr.of1 e108) hv46 (by omega)
  have hv58 := Row.fr (Fr.of1 e108) hv58 (by omega)
  have hv70 := Row.fr (Fr.of1 e108) hv70 (by omega)
  have hv94 := Row.fr (Fr.of1 e108) hv94 (by omega)
  have hv106 := Row.fr (Fr.of1 e108) hv106 (by omega)
  refine a_aload_n S d_Kc_init_115 rfl rfl ?_
  refine a_iconst S (v := 0) d_Kc_init_116 (by decide) ?_
  refine a_put S kc_Kc kt_Kc 11 (by decide) lf_Kc_57 rfl h0 rfl rfl (Nat.le_of_ble_eq_true rfl) d_Kc_init_117 (fun w109 h0 e110 => ?_)
  have h0 : w109 b = some (.inr (0, [.ref (b + 1), .ref (b + 4), .ref (b + 16), .ref (b + 28), .ref (b + 30), .ref (b + 32), .ref (b + 34), .ref (b + 35), .int 0, .ref (b + 36), .ref (b + 38), .int 0])) := h0
  have fr := fr.trans (Fr.sub (Fr.of1 e110) (by omega) (by omega))
  have hn75 := Fr.cell (Fr.of1 e110) hn75 (by omega)
  have hn80 := Fr.cell (Fr.of1 e110) hn80 (by omega)
  have hv10 := Sch.fr (Fr.of1 e110) hv10 (by omega)
  have hv22 := Tup.fr (Fr.of1 e110) hv22 (by omega)
  have hv34 := Tup.fr (Fr.of1 e110) hv34 (by omega)
  have hv46 := Row.fr (Fr.of1 e110) hv46 (by omega)
  have hv58 := Row.fr (Fr.of1 e110) hv58 (by omega)
  have hv70 := Row.fr (Fr.of1 e110) hv70 (by omega)
  have hv94 := Row.fr (Fr.of1 e110) hv94 (by omega)
  have hv106 := Row.fr (Fr.of1 e110) hv106 (by omega)
  refine a_iconst S (v := 0) d_Kc_init_120 (by decide) ?_
  refine a_istore_n S d_Kc_init_121 rfl (Nat.le_of_ble_eq_true rfl) (lv' := [(0, .ref b), (1, .int 0)]) rfl ?_
  have loop122 : ∀ (kk122 : Nat) (i : Nat) (w1 : ww) (kf kg : Nat → Option Nat), 12 - i = kk122 → (i ≤ 12) → (Fr w w1 b 208) → (Cc w1 b 0 false) → (w1 (b + 34) = some (.inl (D.2 4, 12, .inr (.inr (.inr (.inr kf)))))) → (w1 (b + 35) = some (.inl (D.2 5, 12, .inr (.inr (.inr (.inr kg)))))) → (∀ j, j < i → kf j = some (b + 40 + 14 * j) ∧ kg j = some (b + 52 + 14 * j)) → (Sch D w1 (b + 1) 0 false (fun _ => 0) (fun _ => 0)) → (Tup D w1 (b + 4) (fun _ => (false, 0, 0, []))) → (Tup D w1 (b + 16) (fun _ => (false, 0, 0, []))) → (Row D w1 (b + 28) []) → (Row D w1 (b + 30) []) → (Row D w1 (b + 32) []) → (Row D w1 (b + 36) []) → (Row D w1 (b + 38) []) → (Keps D w1 b i) → AW X (D, A, 2, Q) 122 [(0, .ref b), (1, .int (nI i))] [] w1 (b + 40 + 14 * i) (39 + 14 * i) (810 + 203 * i) := by
    intro kk122
    induction kk122 using Nat.strongRecOn with
    | ind kk122 ih122 =>
      intro i w1 kf kg hk122 hi fr h0 k1 k2 hkf hs hL hZ hkr hlf hrg hlo hhi hks
      refine a_iload_n S d_Kc_init_122 rfl rfl ?_
      refine a_bipush S (v := 12) d_Kc_init_123 (by decide) ?_
      refine a_icmp_ge S (tgt := 160) d_Kc_init_125 rfl (fun h125 => ?_) (fun h125 => ?_)
      · have hi : i = 12 := Nat.le_antisymm hi ((nI_leI (by decide) (by omega)).mp h125)
        subst hi
        exact RT _ _ _ _ _ _ d_Kc_init_160 (by omega) (by omega) ⟨rfl, rfl, fr, _, _, _, _, h0, hs, hL, hZ, hkr, hlf, hrg, ⟨⟨kf, kg, k1, k2, hkf⟩, hks⟩, hlo, hhi, Nat.zero_le _, (fun h => by cases h), (fun i h => absurd h (Nat.not_lt_zero i))⟩
      · have hi : i < 12 := Nat.not_le.mp fun z => h125 ((nI_leI (by decide) (by omega)).mpr z)
        refine a_aload_n S d_Kc_init_128 rfl rfl ?_
        refine a_get S kc_Kc 6 (by decide) lf_Kc_39 h0 rfl d_Kc_init_129 ?_
        refine a_iload_n S d_Kc_init_132 rfl rfl ?_
        refine a_new S kc_Tuple kt_Tuple lc_Kc_16 in_Tuple ii_Tuple (fs := [.null]) df_Tuple (by omega) (by omega) d_Kc_init_133 (fun w111 hn113 e112 => ?_)
        have fr := fr.trans (Fr.sub (Fr.of1 e112) (by omega) (by omega))
        have h0 := Fr.cell (Fr.of1 e112) h0 (by omega)
        have k1 := Fr.cell (Fr.of1 e112) k1 (by omega)
        have k2 := Fr.cell (Fr.of1 e112) k2 (by omega)
        have hs := Sch.fr (Fr.of1 e112) hs (by omega)
        have hL := Tup.fr (Fr.of1 e112) hL (by omega)
        have hZ := Tup.fr (Fr.of1 e112) hZ (by omega)
        have hkr := Row.fr (Fr.of1 e112) hkr (by omega)
        have hlf := Row.fr (Fr.of1 e112) hlf (by omega)
        have hrg := Row.fr (Fr.of1 e112) hrg (by omega)
        have hlo := Row.fr (Fr.of1 e112) hlo (by omega)
        have hhi := Row.fr (Fr.of1 e112) hhi (by omega)
        have hks := Keps.fr (Fr.of1 e112) hks (by omega)
        refine a_dup S d_Kc_init_136 rfl ?_
        refine a_callI S (rest := [_, _, _]) lg_Kc_18 (c_Tuple_init X.2.1 D (b + 40 + 14 * i) w111 hn113) (by decide) (by omega) (by omega) rfl (Nat.le_of_ble_eq_true rfl) d_Kc_init_137 (fun v114 w115 n116 p117 => ?_)
        obtain ⟨rfl, e119, f118, hv120⟩ := p117
        rw [e119]
        refine a_eqn (n2 := b + 52 + 14 * i) (by omega) ?_
        refine a_st (st' := [.ref (b + 40 + 14 * i), .int (nI i), .ref (b + 34)]) rfl ?_
        have fr := fr.trans (Fr.sub f118 (by omega) (by omega))
        have h0 := Fr.cell f118 h0 (by omega)
        have k1 := Fr.cell f118 k1 (by omega)
        have k2 := Fr.cell f118 k2 (by omega)
        have hs := Sch.fr f118 hs (by omega)
        have hL := Tup.fr f118 hL (by omega)
        have hZ := Tup.fr f118 hZ (by omega)
        have hkr := Row.fr f118 hkr (by omega)
        have hlf := Row.fr f118 hlf (by omega)
        have hrg := Row.fr f118 hrg (by omega)
        have hlo := Row.fr f118 hlo (by omega)
        have hhi := Row.fr f118 hhi (by omega)
        have hks := Keps.fr f118 hks (by omega)
        refine a_aast S (i := i) (q := b + 40 + 14 * i) (t0 := 4) (ci := 3) (r := ("KeyCodec$Tuple", F_Tuple, 1)) rfl rfl hv120.cell k1 rfl (by omega) (by decide) d_Kc_init_140 (fun w121 k1 e122 => ?_)
        have fr := fr.trans (Fr.sub (Fr.of1 e122) (by omega) (by omega))
        have h0 := Fr.cell (Fr.of1 e122) h0 (by omega)
        have k2 := Fr.cell (Fr.of1 e122) k2 (by omega)
        have hs := Sch.fr (Fr.of1 e122) hs (by omega)
        have hL := Tup.fr (Fr.of1 e122) hL (by omega)
        have hZ := Tup.fr (Fr.of1 e122) hZ (by omega)
        have hkr := Row.fr (Fr.of1 e122) hkr (by omega)
        have hlf := Row.fr (Fr.of1 e122) hlf (by omega)
        have hrg := Row.fr (Fr.of1 e122) hrg (by omega)
        have hlo := Row.fr (Fr.of1 e122) hlo (by omega)
        have hhi := Row.fr (Fr.of1 e122) hhi (by omega)
        have hks := Keps.fr (Fr.of1 e122) hks (by omega)
        have hv120 := Tup.fr (Fr.of1 e122) hv120 (by omega)
        refine a_aload_n S d_Kc_init_141 rfl rfl ?_
        refine a_get S kc_Kc 7 (by decide) lf_Kc_43 h0 rfl d_Kc_init_142 ?_
        refine a_iload_n S d_Kc_init_145 rfl rfl ?_
        refine a_new S kc_Row kt_Row lc_Kc_26 in_Row ii_Row (fs := [.null, .int 0]) df_Row (by omega) (by omega) d_Kc_init_146 (fun w123 hn125 e124 => ?_)
        have fr := fr.trans (Fr.sub (Fr.of1 e124) (by omega) (by omega))
        have h0 := Fr.cell (Fr.of1 e124) h0 (by omega)
        have k1 := Fr.cell (Fr.of1 e124) k1 (by omega)
        have k2 := Fr.cell (Fr.of1 e124) k2 (by omega)
        have hs := Sch.fr (Fr.of1 e124) hs (by omega)
        have hL := Tup.fr (Fr.of1 e124) hL (by omega)
        have hZ := Tup.fr (Fr.of1 e124) hZ (by omega)
        have hkr := Row.fr (Fr.of1 e124) hkr (by omega)
        have hlf := Row.fr (Fr.of1 e124) hlf (by omega)
        have hrg := Row.fr (Fr.of1 e124) hrg (by omega)
        have hlo := Row.fr (Fr.of1 e124) hlo (by omega)
        have hhi := Row.fr (Fr.of1 e124) hhi (by omega)
        have hks := Keps.fr (Fr.of1 e124) hks (by omega)
        have hv120 := Tup.fr (Fr.of1 e124) hv120 (by omega)
        refine a_dup S d_Kc_init_149 rfl ?_
        refine a_callIN S (rest := [_, _, _]) lg_Kc_28 (c_Row_init X.2.1 D (b + 52 + 14 * i) w123 hn125) (by decide) (by omega) (by omega) rfl (Nat.le_of_ble_eq_true rfl) d_Kc_init_150 (fun v126 w127 n128 p129 => ?_)
        obtain ⟨rfl, e131, f130, hv132⟩ := p129
        rw [e131]
        refine a_eqn (n2 := b + 54 + 14 * i) (by omega) ?_
        refine a_st (st' := [.ref (b + 52 + 14 * i), .int (nI i), .ref (b + 35)]) rfl ?_
        have fr := fr.trans (Fr.sub f130 (by omega) (by omega))
        have h0 := Fr.cell f130 h0 (by omega)
        have k1 := Fr.cell f130 k1 (by omega)
        have k2 := Fr.cell f130 k2 (by omega)
        have hs := Sch.fr f130 hs (by omega)
        have hL := Tup.fr f130 hL (by omega)
        have hZ := Tup.fr f130 hZ (by omega)
        have hkr := Row.fr f130 hkr (by omega)
        have hlf := Row.fr f130 hlf (by omega)
        have hrg := Row.fr f130 hrg (by omega)
        have hlo := Row.fr f130 hlo (by omega)
        have hhi := Row.fr f130 hhi (by omega)
        have hks := Keps.fr f130 hks (by omega)
        have hv120 := Tup.fr f130 hv120 (by omega)
        refine a_aast S (i := i) (q := b + 52 + 14 * i) (t0 := 5) (ci := 1) (r := ("KeyCodec$Row", F_Row, 2)) rfl rfl hv132.cell k2 rfl (by omega) (by decide) d_Kc_init_153 (fun w133 k2 e134 => ?_)
        have fr := fr.trans (Fr.sub (Fr.of1 e134) (by omega) (by omega))
        have h0 := Fr.cell (Fr.of1 e134) h0 (by omega)
        have k1 := Fr.cell (Fr.of1 e134) k1 (by omega)
        have hs := Sch.fr (Fr.of1 e134) hs (by omega)
        have hL := Tup.fr (Fr.of1 e134) hL (by omega)
        have hZ := Tup.fr (Fr.of1 e134) hZ (by omega)
        have hkr := Row.fr (Fr.of1 e134) hkr (by omega)
        have hlf := Row.fr (Fr.of1 e134) hlf (by omega)
        have hrg := Row.fr (Fr.of1 e134) hrg (by omega)
        have hlo := Row.fr (Fr.of1 e134) hlo (by omega)
        have hhi := Row.fr (Fr.of1 e134) hhi (by omega)
        have hks := Keps.fr (Fr.of1 e134) hks (by omega)
        have hv120 := Tup.fr (Fr.of1 e134) hv120 (by omega)
        have hv132 := Row.fr (Fr.of1 e134) hv132 (by omega)
        refine a_iinc S (v := nI (i + 1)) d_Kc_init_154 rfl (ni_add rfl (by decide)) (Nat.le_of_ble_eq_true rfl) (lv' := [(0, .ref b), (1, .int (nI (i + 1)))]) rfl ?_
        refine a_goto S (tgt := 122) d_Kc_init_157 rfl ?_
        refine a_eqn (n2 := b + 40 + 14 * (i + 1)) (by omega) ?_
        refine a_wid (c2 := 39 + 14 * (i + 1)) (s2 := 810 + 203 * (i + 1)) (by omega) (by omega) ?_
        exact ih122 _ (by omega) (i + 1) w133 _ _ rfl (by omega) fr h0 k1 k2 (fun j hj => by
          by_cases e : j = i
          · subst e; rw [va_up_self, va_up_self]; exact ⟨rfl, rfl⟩
          · rw [va_up_ne _ _ e, va_up_ne _ _ e]; exact hkf j (by omega)) hs hL hZ hkr hlf hrg hlo hhi (Keps.push hks hv120 hv132)
  exact loop122 _ 0 w109 _ _ rfl (Nat.zero_le _) fr h0 hn75 hn80 (fun j hj => absurd hj (Nat.not_lt_zero j)) hv10 hv22 hv34 hv46 hv58 hv70 hv94 hv106 (fun j hj => absurd hj (Nat.not_lt_zero j))
set_option maxHeartbeats 400000 in
set_option maxRecDepth 100000 in
theorem c_Kc_isKept (l : Launch) (D : kD) (b m : Nat) (he : Bool) (i : Int32) (w : ww) (n : Nat) (h0 : Cc w b m he) : AM l D M_Kc_isKept 0 0 0 [.ref b, .int i] w n (fun v w' n' => v = some (.int (if usB true m i then 1 else 0)) ∧ w' = w ∧ n' = n) := by
  refine AM.ofz (by decide +kernel) rfl (Nat.le_of_ble_eq_true rfl) (fun X A Q hin S RT => ?_)
  have S : FX X (D, A, 2, Q) prog_1_method_25_code "KeyCodec" 0 0 0 := S
  have RT : RTz X (D, A, 2, Q) prog_1_method_25_code 0 0 _ := RT
  refine a_lve (lv' := [(0, .ref b), (1, .int i)]) rfl ?_
  refine a_iload_n S d_Kc_isKept_0 rfl rfl ?_
  refine a_if_lt S (tgt := 16) d_Kc_isKept_1 rfl (fun h1 => ?_) (fun h1 => ?_)
  · have hx : ¬ usB true m i = true := fun z => usB_n h1 z
    refine a_iconst S (v := 0) d_Kc_isKept_16 (by decide) ?_
    exact RT _ _ _ _ _ _ _ d_Kc_isKept_17 rfl (by omega) (by omega) ⟨by rw [usB_0 hx], rfl, rfl⟩
  · refine a_iload_n S d_Kc_isKept_4 rfl rfl ?_
    refine a_aload_n S d_Kc_isKept_5 rfl rfl ?_
    refine a_get S kc_Kc 8 (by decide) lf_Kc_47 h0 rfl d_Kc_isKept_6 ?_
    refine a_icmp_ge S (tgt := 16) d_Kc_isKept_9 rfl (fun h9 => ?_) (fun h9 => ?_)
    · have hx : ¬ usB true m i = true := fun z => usB_b h9 z
      refine a_iconst S (v := 0) d_Kc_isKept_16 (by decide) ?_
      exact RT _ _ _ _ _ _ _ d_Kc_isKept_17 rfl (by omega) (by omega) ⟨by rw [usB_0 hx], rfl, rfl⟩
    · refine a_iconst S (v := 1) d_Kc_isKept_12 (by decide) ?_
      refine a_goto S (tgt := 17) d_Kc_isKept_13 rfl ?_
      exact RT _ _ _ _ _ _ _ d_Kc_isKept_17 rfl (by omega) (by omega) ⟨by rw [usB_1 rfl h1 h9], rfl, rfl⟩
set_option maxHeartbeats 400000 in
set_option maxRecDepth 100000 in
theorem c_Kc_seal (l : Launch) (D : kD) (b c : Nat) (s : Bool) (K F : Nat → Nat) (L : Nat → kV) (kr : List Nat) (m : Nat) (KT : Nat → Nat → kV) (lo hi : List Nat) (he : Bool)  (w : ww) (n : Nat) (h : Cod D w b c s K F L kr m KT lo hi he) : AM l D M_Kc_seal 2 0 0 [.ref b] w n (fun v w' n' => (s = false ∧ 0 < c ∧ v = some (.int 1) ∧ n' = n ∧ Fr w w' b 208 ∧ Cod D w' b c true K F (fun _ => (false, 0, 0, [])) kr m KT lo hi he) ∨ (¬ (s = false ∧ 0 < c) ∧ v = some (.int 0) ∧ w' = w ∧ n' = n)) := by
  refine AM.ofz (by decide +kernel) rfl (Nat.le_of_ble_eq_true rfl) (fun X A Q hin S RT => ?_)
  have S : FX X (D, A, 1, Q) prog_1_method_3_code "KeyCodec" 2 0 0 := S
  have RT : RTz X (D, A, 1, Q) prog_1_method_3_code 0 0 _ := RT
  obtain ⟨Z, lf, rg, KK, h0, hs, hL, hZ, hkr, hlf, hrg, hK, hlo, hhi, hI⟩ := h
  have hm := hI.1
  have hc5 := hs.1
  refine a_lve (lv' := [(0, .ref b)]) rfl ?_
  have fr : Fr w w b 208 := Fr.refl _ _ _
  refine a_aload_n S d_Kc_seal_0 rfl rfl ?_
  have s1 := hs.cell
  refine a_get S kc_Kc 0 (by decide) lf_Kc_12 h0 rfl d_Kc_seal_1 ?_
  refine a_get S kc_Schema 3 (by decide) lf_Kc_68 s1 rfl d_Kc_seal_4 ?_
  refine a_if_ne S (tgt := 20) d_Kc_seal_7 rfl (fun h7 => ?_) (fun h7 => ?_)
  · have hx : ¬ (s = false ∧ 0 < c) := fun z => by rw [z.1] at h7; exact h7 rfl
    refine a_iconst S (v := 0) d_Kc_seal_20 (by decide) ?_
    exact RT _ _ _ _ _ _ _ d_Kc_seal_21 rfl (by omega) (by omega) (Or.inr ⟨hx, rfl, rfl, rfl⟩)
  · have hs0 : s = false := bo_0 h7
    refine a_aload_n S d_Kc_seal_10 rfl rfl ?_
    refine a_get S kc_Kc 0 (by decide) lf_Kc_12 h0 rfl d_Kc_seal_11 ?_
    refine a_get S kc_Schema 2 (by decide) lf_Kc_71 s1 rfl d_Kc_seal_14 ?_
    refine a_if_ne S (tgt := 22) d_Kc_seal_17 rfl (fun h17 => ?_) (fun h17 => ?_)
    · have hc0 : 0 < c := Nat.pos_of_ne_zero fun z => h17 (by rw [z]; rfl)
      refine a_aload_n S d_Kc_seal_22 rfl rfl ?_
      obtain ⟨hc, hkf, sf, sg, s1, s2, s3, sfg⟩ := hs
      refine a_get S kc_Kc 0 (by decide) lf_Kc_12 h0 rfl d_Kc_seal_23 ?_
      refine a_iconst S (v := 1) d_Kc_seal_26 (by decide) ?_
      refine a_put S kc_Schema kt_Schema 3 (by decide) lf_Kc_68 rfl s1 rfl rfl (Nat.le_of_ble_eq_true rfl) d_Kc_seal_27 (fun w1 s1 e2 => ?_)
      have s1 : w1 (b + 1) = some (.inr (4, [.ref (b + 1 + 1), .ref (b + 1 + 2), .int (nI c), .int 1])) := s1
      have fr := fr.trans (Fr.sub (Fr.of1 e2) (by omega) (by omega))
      have h0 := Fr.cell (Fr.of1 e2) h0 (by omega)
      have s2 := Fr.cell (Fr.of1 e2) s2 (by omega)
      have s3 := Fr.cell (Fr.of1 e2) s3 (by omega)
      have hL := Tup.fr (Fr.of1 e2) hL (by omega)
      have hZ := Tup.fr (Fr.of1 e2) hZ (by omega)
      have hkr := Row.fr (Fr.of1 e2) hkr (by omega)
      have hlf := Row.fr (Fr.of1 e2) hlf (by omega)
      have hrg := Row.fr (Fr.of1 e2) hrg (by omega)
      have hK := Kept.fr (Fr.of1 e2) hK (by omega)
      have hlo := Row.fr (Fr.of1 e2) hlo (by omega)
      have hhi := Row.fr (Fr.of1 e2) hhi (by omega)
      refine a_aload_n S d_Kc_seal_30 rfl rfl ?_
      refine a_get S kc_Kc 1 (by decide) lf_Kc_19 h0 rfl d_Kc_seal_31 ?_
      refine a_callV S (rest := []) lg_Kc_83 hL.cell (c_Tuple_reset X.2.1 D (b + 4) L w1 n hL) (by decide) (by omega) (by omega) rfl (Nat.le_of_ble_eq_true rfl) d_Kc_seal_34 (fun v3 w4 n5 p6 => ?_)
      obtain ⟨rfl, e8, f7, hL⟩ := p6
      rw [e8]
      refine a_st (st' := []) rfl ?_
      have fr := fr.trans (Fr.sub f7 (by omega) (by omega))
      have h0 := Fr.cell f7 h0 (by omega)
      have s1 := Fr.cell f7 s1 (by omega)
      have s2 := Fr.cell f7 s2 (by omega)
      have s3 := Fr.cell f7 s3 (by omega)
      have hZ := Tup.fr f7 hZ (by omega)
      have hkr := Row.fr f7 hkr (by omega)
      have hlf := Row.fr f7 hlf (by omega)
      have hrg := Row.fr f7 hrg (by omega)
      have hK := Kept.fr f7 hK (by omega)
      have hlo := Row.fr f7 hlo (by omega)
      have hhi := Row.fr f7 hhi (by omega)
      refine a_iconst S (v := 1) d_Kc_seal_37 (by decide) ?_
      exact RT _ _ _ _ _ _ _ d_Kc_seal_38 rfl (by omega) (by omega) (Or.inl ⟨hs0, hc0, rfl, rfl, fr, _, _, _, _, h0, ⟨hc, hkf, sf, sg, s1, s2, s3, sfg⟩, hL, hZ, hkr, hlf, hrg, hK, hlo, hhi, hm, (fun _ i hi => okV_0 (hkf i hi).1), (fun i hi => by rw [(hI.2.2 i hi).1] at hs0; cases hs0)⟩)
    · have hx : ¬ (s = false ∧ 0 < c) := fun z => absurd (show c = 0 from (nI_eq (by omega) (by decide)).mp h17) (by omega)
      refine a_iconst S (v := 0) d_Kc_seal_20 (by decide) ?_
      exact RT _ _ _ _ _ _ _ d_Kc_seal_21 rfl (by omega) (by omega) (Or.inr ⟨hx, rfl, rfl, rfl⟩)
set_option maxHeartbeats 400000 in
set_option maxRecDepth 100000 in
theorem c_Kc_clear (l : Launch) (D : kD) (b c : Nat) (s : Bool) (K F : Nat → Nat) (L : Nat → kV) (kr : List Nat) (m : Nat) (KT : Nat → Nat → kV) (lo hi : List Nat) (he : Bool)  (w : ww) (n : Nat) (h : Cod D w b c s K F L kr m KT lo hi he) : AM l D M_Kc_clear 2 0 0 [.ref b] w n (fun v w' n' => v = none ∧ n' = n ∧ Fr w w' b 208 ∧ Cod D w' b 0 false K F (fun _ => (false, 0, 0, [])) [] 0 KT lo hi he) := by
  refine AM.ofv (by decide +kernel) rfl (Nat.le_of_ble_eq_true rfl) (fun X A Q hin S RT => ?_)
  have S : FX X (D, A, 1, Q) prog_1_method_4_code "KeyCodec" 2 0 0 := S
  have RT : RTv X (D, A, 1, Q) prog_1_method_4_code 0 0 _ := RT
  obtain ⟨Z, lf, rg, KK, h0, hs, hL, hZ, hkr, hlf, hrg, hK, hlo, hhi, hI⟩ := h
  have hm := hI.1
  have hc5 := hs.1
  refine a_lve (lv' := [(0, .ref b)]) rfl ?_
  have fr : Fr w w b 208 := Fr.refl _ _ _
  refine a_aload_n S d_Kc_clear_0 rfl rfl ?_
  refine a_get S kc_Kc 0 (by decide) lf_Kc_12 h0 rfl d_Kc_clear_1 ?_
  refine a_callV S (rest := []) lg_Kc_86 hs.cell (c_Schema_reset X.2.1 D (b + 1) c s K F w n hs) (by decide) (by omega) (by omega) rfl (Nat.le_of_ble_eq_true rfl) d_Kc_clear_4 (fun v1 w2 n3 p4 => ?_)
  obtain ⟨rfl, e6, f5, hs⟩ := p4
  rw [e6]
  have hs := hs K F
  refine a_st (st' := []) rfl ?_
  have fr := fr.trans (Fr.sub f5 (by omega) (by omega))
  have h0 := Fr.cell f5 h0 (by omega)
  have hL := Tup.fr f5 hL (by omega)
  have hZ := Tup.fr f5 hZ (by omega)
  have hkr := Row.fr f5 hkr (by omega)
  have hlf := Row.fr f5 hlf (by omega)
  have hrg := Row.fr f5 hrg (by omega)
  have hK := Kept.fr f5 hK (by omega)
  have hlo := Row.fr f5 hlo (by omega)
  have hhi := Row.fr f5 hhi (by omega)
  refine a_aload_n S d_Kc_clear_7 rfl rfl ?_
  refine a_get S kc_Kc 1 (by decide) lf_Kc_19 h0 rfl d_Kc_clear_8 ?_
  refine a_callV S (rest := []) lg_Kc_83 hL.cell (c_Tuple_reset X.2.1 D (b + 4) L w2 n hL) (by decide) (by omega) (by omega) rfl (Nat.le_of_ble_eq_true rfl) d_Kc_clear_11 (fun v7 w8 n9 p10 => ?_)
  obtain ⟨rfl, e12, f11, hL⟩ := p10
  rw [e12]
  refine a_st (st' := []) rfl ?_
  have fr := fr.trans (Fr.sub f11 (by omega) (by omega))
  have h0 := Fr.cell f11 h0 (by omega)
  have hs := Sch.fr f11 hs (by omega)
  have hZ := Tup.fr f11 hZ (by omega)
  have hkr := Row.fr f11 hkr (by omega)
  have hlf := Row.fr f11 hlf (by omega)
  have hrg := Row.fr f11 hrg (by omega)
  have hK := Kept.fr f11 hK (by omega)
  have hlo := Row.fr f11 hlo (by omega)
  have hhi := Row.fr f11 hhi (by omega)
  refine a_aload_n S d_Kc_clear_14 rfl rfl ?_
  refine a_get S kc_Kc 3 (by decide) lf_Kc_29 h0 rfl d_Kc_clear_15 ?_
  refine a_callV S (rest := []) lg_Kc_87 hkr.cell (c_Row_empty X.2.1 D (b + 28) kr w8 n hkr) (by decide) (by omega) (by omega) rfl (Nat.le_of_ble_eq_true rfl) d_Kc_clear_18 (fun v13 w14 n15 p16 => ?_)
  obtain ⟨rfl, e18, f17, hkr⟩ := p16
  rw [e18]
  refine a_st (st' := []) rfl ?_
  have fr := fr.trans (Fr.sub f17 (by omega) (by omega))
  have h0 := Fr.cell f17 h0 (by omega)
  have hs := Sch.fr f17 hs (by omega)
  have hL := Tup.fr f17 hL (by omega)
  have hZ := Tup.fr f17 hZ (by omega)
  have hlf := Row.fr f17 hlf (by omega)
  have hrg := Row.fr f17 hrg (by omega)
  have hK := Kept.fr f17 hK (by omega)
  have hlo := Row.fr f17 hlo (by omega)
  have hhi := Row.fr f17 hhi (by omega)
  refine a_aload_n S d_Kc_clear_21 rfl rfl ?_
  refine a_iconst S (v := 0) d_Kc_clear_22 (by decide) ?_
  refine a_put S kc_Kc kt_Kc 8 (by decide) lf_Kc_47 rfl h0 rfl rfl (Nat.le_of_ble_eq_true rfl) d_Kc_clear_23 (fun w19 h0 e20 => ?_)
  have h0 : w19 b = some (.inr (0, [.ref (b + 1), .ref (b + 4), .ref (b + 16), .ref (b + 28), .ref (b + 30), .ref (b + 32), .ref (b + 34), .ref (b + 35), .int 0, .ref (b + 36), .ref (b + 38), .int (if he then 1 else 0)])) := h0
  have fr := fr.trans (Fr.sub (Fr.of1 e20) (by omega) (by omega))
  have hs := Sch.fr (Fr.of1 e20) hs (by omega)
  have hL := Tup.fr (Fr.of1 e20) hL (by omega)
  have hZ := Tup.fr (Fr.of1 e20) hZ (by omega)
  have hkr := Row.fr (Fr.of1 e20) hkr (by omega)
  have hlf := Row.fr (Fr.of1 e20) hlf (by omega)
  have hrg := Row.fr (Fr.of1 e20) hrg (by omega)
  have hK := Kept.fr (Fr.of1 e20) hK (by omega)
  have hlo := Row.fr (Fr.of1 e20) hlo (by omega)
  have hhi := Row.fr (Fr.of1 e20) hhi (by omega)
  exact RT _ _ _ _ _ _ d_Kc_clear_26 (by omega) (by omega) ⟨rfl, rfl, fr, _, _, _, _, h0, hs, hL, hZ, hkr, hlf, hrg, hK, hlo, hhi, ⟨Nat.zero_le _, (fun h => by cases h), (fun i h => absurd h (Nat.not_lt_zero i))⟩⟩
set_option maxHeartbeats 400000 in
set_option maxRecDepth 100000 in
theorem c_Kc_put (l : Launch) (D : kD) (b c : Nat) (s : Bool) (K F : Nat → Nat) (L : Nat → kV) (kr : List Nat) (m : Nat) (KT : Nat → Nat → kV) (lo hi : List Nat) (he : Bool) (i : Int32) (z : Int64) (f : Int32) (w : ww) (n : Nat) (h : Cod D w b c s K F L kr m KT lo hi he) : AM l D M_Kc_put 1 0 0 [.ref b, .int i, .long z, .int f] w n (fun v w' n' => (∃ j, j < c ∧ s = true ∧ i = nI j ∧ okN (K j) z f ∧ v = some (.int 1) ∧ n' = n ∧ Fr w w' b 208 ∧ Cod D w' b c s K F (va_up L j (false, z, f, [])) kr m KT lo hi he) ∨ ((∀ j, j < c → s = true → i = nI j → okN (K j) z f → False) ∧ v = some (.int 0) ∧ w' = w ∧ n' = n)) := by
  refine AM.ofz (by decide +kernel) rfl (Nat.le_of_ble_eq_true rfl) (fun X A Q hin S RT => ?_)
  have S : FX X (D, A, 5, Q) prog_1_method_5_code "KeyCodec" 1 0 0 := S
  have RT : RTz X (D, A, 5, Q) prog_1_method_5_code 0 0 _ := RT
  obtain ⟨Z, lf, rg, KK, h0, hs, hL, hZ, hkr, hlf, hrg, hK, hlo, hhi, hI⟩ := h
  have hm := hI.1
  have hc5 := hs.1
  refine a_lve (lv' := [(0, .ref b), (1, .int i), (2, .long z), (4, .int f)]) rfl ?_
  have fr : Fr w w b 208 := Fr.refl _ _ _
  refine a_aload_n S d_Kc_put_0 rfl rfl ?_
  refine a_get S kc_Kc 0 (by decide) lf_Kc_12 h0 rfl d_Kc_put_1 ?_
  refine a_iload_n S d_Kc_put_4 rfl rfl ?_
  refine a_callV S (rest := []) lg_Kc_90 hs.cell (c_Schema_isUsable X.2.1 D (b + 1) c s K F i w n hs) (by decide) (by omega) (by omega) rfl (Nat.le_of_ble_eq_true rfl) d_Kc_put_5 (fun v1 w2 n3 p4 => ?_)
  obtain ⟨rfl, e5, e6⟩ := p4
  rw [e5, e6]
  refine a_st (st' := [.int (if usB s c i then 1 else 0)]) rfl ?_
  refine a_if_eq S (tgt := 25) d_Kc_put_8 rfl (fun h8 => ?_) (fun h8 => ?_)
  · have hx : ∀ j, j < c → s = true → i = nI j → okN (K j) z f → False := fun j hj hs_ e _ => usB_no (by omega) (bo_0 h8) hj hs_ e
    refine a_iconst S (v := 0) d_Kc_put_25 (by decide) ?_
    exact RT _ _ _ _ _ _ _ d_Kc_put_26 rfl (by omega) (by omega) (Or.inr ⟨hx, rfl, rfl, rfl⟩)
  · obtain ⟨hs_j, j, hj, rfl⟩ := usB_ix (by omega) (bo_1 h8)
    refine a_aload_n S d_Kc_put_11 rfl rfl ?_
    refine a_get S kc_Kc 0 (by decide) lf_Kc_12 h0 rfl d_Kc_put_12 ?_
    refine a_iload_n S d_Kc_put_15 rfl rfl ?_
    refine a_lload_n S d_Kc_put_16 rfl rfl ?_
    refine a_iload S d_Kc_put_17 rfl ?_
    refine a_callV S (rest := []) lg_Kc_94 hs.cell (c_Schema_allows X.2.1 D (b + 1) c s K F j z f w n hj hs) (by decide) (by omega) (by omega) rfl (Nat.le_of_ble_eq_true rfl) d_Kc_put_19 (fun v7 w8 n9 p10 => ?_)
    obtain ⟨ab, rfl, hab, e11, e12⟩ := p10
    rw [e11, e12]
    refine a_st (st' := [.int (if ab then 1 else 0)]) rfl ?_
    refine a_if_ne S (tgt := 27) d_Kc_put_22 rfl (fun h22 => ?_) (fun h22 => ?_)
    · have hok := hab.mp (bo_1 h22)
      refine a_aload_n S d_Kc_put_27 rfl rfl ?_
      obtain ⟨⟨tf, t1, t2, t3⟩, tvs⟩ := hL
      have hL : Tup D w (b + 4) L := ⟨⟨tf, t1, t2, t3⟩, tvs⟩
      have hv := tvs j (by omega)
      refine a_get S kc_Kc 1 (by decide) lf_Kc_19 h0 rfl d_Kc_put_28 ?_
      refine a_get S kc_Tuple 0 (by decide) lf_Kc_98 t1 rfl d_Kc_put_31 ?_
      refine a_iload_n S d_Kc_put_34 rfl rfl ?_
      refine a_aald S (i := j) (q := b + 4 + 2 + 2 * j) rfl t2 rfl (by omega) (by decide) (t3 j (by omega)) d_Kc_put_35 ?_
      refine a_lload_n S d_Kc_put_36 rfl rfl ?_
      refine a_iload S d_Kc_put_37 rfl ?_
      refine a_callV S (rest := []) lg_Kc_102 hv.cell (c_Value_become X.2.1 D (b + 4 + 2 + 2 * j) (L j) z f w n hv) (by decide) (by omega) (by omega) rfl (Nat.le_of_ble_eq_true rfl) d_Kc_put_39 (fun v13 w14 n15 p16 => ?_)
      obtain ⟨rfl, e18, f17, hv⟩ := p16
      rw [e18]
      refine a_st (st' := []) rfl ?_
      have hL := Tup.put hL (by omega) f17 hv
      have fr := fr.trans (Fr.sub f17 (by omega) (by omega))
      have h0 := Fr.cell f17 h0 (by omega)
      have hs := Sch.fr f17 hs (by omega)
      have hZ := Tup.fr f17 hZ (by omega)
      have hkr := Row.fr f17 hkr (by omega)
      have hlf := Row.fr f17 hlf (by omega)
      have hrg := Row.fr f17 hrg (by omega)
      have hK := Kept.fr f17 hK (by omega)
      have hlo := Row.fr f17 hlo (by omega)
      have hhi := Row.fr f17 hhi (by omega)
      refine a_iconst S (v := 1) d_Kc_put_42 (by decide) ?_
      exact RT _ _ _ _ _ _ _ d_Kc_put_43 rfl (by omega) (by omega) (Or.inl ⟨j, hj, hs_j, rfl, hok, rfl, rfl, fr, _, _, _, _, h0, hs, hL, hZ, hkr, hlf, hrg, hK, hlo, hhi, ⟨hm, (fun _ => okT_put hj (hI.2.1 hs_j) (okV_n hok)), hI.2.2⟩⟩)
    · have hx : ∀ j2, j2 < c → s = true → nI j = nI j2 → okN (K j2) z f → False := fun j2 hj2 _ e q => by
        have e2 := (nI_eq (by omega) (by omega)).mp e
        subst e2
        have := hab.mpr q
        rw [bo_0 h22] at this; cases this
      refine a_iconst S (v := 0) d_Kc_put_25 (by decide) ?_
      exact RT _ _ _ _ _ _ _ d_Kc_put_26 rfl (by omega) (by omega) (Or.inr ⟨hx, rfl, rfl, rfl⟩)
set_option maxHeartbeats 400000 in
set_option maxRecDepth 100000 in
theorem c_Kc_text (l : Launch) (D : kD) (b c : Nat) (s : Bool) (K F : Nat → Nat) (L : Nat → kV) (kr : List Nat) (m : Nat) (KT : Nat → Nat → kV) (lo hi : List Nat) (he : Bool) (i x : Int32) (w : ww) (n : Nat) (h : Cod D w b c s K F L kr m KT lo hi he) : AM l D M_Kc_text 1 0 0 [.ref b, .int i, .int x] w n (fun v w' n' => (∃ j, j < c ∧ s = true ∧ i = nI j ∧ K j = 2 ∧ (L j).2.2.2.length < 10 ∧ v = some (.int 1) ∧ n' = n ∧ Fr w w' b 208 ∧ Cod D w' b c s K F (va_up L j (false, (L j).2.1, (L j).2.2.1, (L j).2.2.2 ++ [by8 x])) kr m KT lo hi he) ∨ ((∀ j, j < c → s = true → i = nI j → K j = 2 → (L j).2.2.2.length < 10 → False) ∧ v = some (.int 0) ∧ n' = n ∧ Fr w w' b 208 ∧ Cod D w' b c s K F L kr m KT lo hi he)) := by
  refine AM.ofz (by decide +kernel) rfl (Nat.le_of_ble_eq_true rfl) (fun X A Q hin S RT => ?_)
  have S : FX X (D, A, 3, Q) prog_1_method_6_code "KeyCodec" 1 0 0 := S
  have RT : RTz X (D, A, 3, Q) prog_1_method_6_code 0 0 _ := RT
  obtain ⟨Z, lf, rg, KK, h0, hs, hL, hZ, hkr, hlf, hrg, hK, hlo, hhi, hI⟩ := h
  have hm := hI.1
  have hc5 := hs.1
  refine a_lve (lv' := [(0, .ref b), (1, .int i), (2, .int x)]) rfl ?_
  have fr : Fr w w b 208 := Fr.refl _ _ _
  refine a_aload_n S d_Kc_text_0 rfl rfl ?_
  refine a_get S kc_Kc 0 (by decide) lf_Kc_12 h0 rfl d_Kc_text_1 ?_
  refine a_iload_n S d_Kc_text_4 rfl rfl ?_
  refine a_callV S (rest := []) lg_Kc_90 hs.cell (c_Schema_isUsable X.2.1 D (b + 1) c s K F i w n hs) (by decide) (by omega) (by omega) rfl (Nat.le_of_ble_eq_true rfl) d_Kc_text_5 (fun v1 w2 n3 p4 => ?_)
  obtain ⟨rfl, e5, e6⟩ := p4
  rw [e5, e6]
  refine a_st (st' := [.int (if usB s c i then 1 else 0)]) rfl ?_
  refine a_if_eq S (tgt := 44) d_Kc_text_8 rfl (fun h8 => ?_) (fun h8 => ?_)
  · have hx : ∀ j, j < c → s = true → i = nI j → K j = 2 → (L j).2.2.2.length < 10 → False := fun j hj hs_ e _ _ => usB_no (by omega) (bo_0 h8) hj hs_ e
    refine a_iconst S (v := 0) d_Kc_text_44 (by decide) ?_
    exact RT _ _ _ _ _ _ _ d_Kc_text_45 rfl (by omega) (by omega) (Or.inr ⟨hx, rfl, rfl, fr, _, _, _, _, h0, hs, hL, hZ, hkr, hlf, hrg, hK, hlo, hhi, hI⟩)
  · obtain ⟨hs_j, j, hj, rfl⟩ := usB_ix (by omega) (bo_1 h8)
    refine a_aload_n S d_Kc_text_11 rfl rfl ?_
    obtain ⟨hc, hkf, sf, sg, s1, s2, s3, sfg⟩ := hs
    have hs : Sch D w (b + 1) c s K F := ⟨hc, hkf, sf, sg, s1, s2, s3, sfg⟩
    refine a_get S kc_Kc 0 (by decide) lf_Kc_12 h0 rfl d_Kc_text_12 ?_
    refine a_get S kc_Schema 0 (by decide) lf_Kc_108 s1 rfl d_Kc_text_15 ?_
    refine a_iload_n S d_Kc_text_18 rfl rfl ?_
    refine a_iald S (i := j) s2 rfl (by omega) (by decide) d_Kc_text_19 ?_
    refine a_eqi ((sfg j hj).1) ?_
    refine a_iconst S (v := 2) d_Kc_text_20 (by decide) ?_
    refine a_icmp_ne S (tgt := 44) d_Kc_text_21 rfl (fun h21 => ?_) (fun h21 => ?_)
    · have hx : ∀ j2, j2 < c → s = true → nI j = nI j2 → K j2 = 2 → (L j2).2.2.2.length < 10 → False := fun j2 hj2 _ e q _ => by
        have e2 := (nI_eq (by omega) (by omega)).mp e
        subst e2; exact h21 (by rw [q]; rfl)
      refine a_iconst S (v := 0) d_Kc_text_44 (by decide) ?_
      exact RT _ _ _ _ _ _ _ d_Kc_text_45 rfl (by omega) (by omega) (Or.inr ⟨hx, rfl, rfl, fr, _, _, _, _, h0, hs, hL, hZ, hkr, hlf, hrg, hK, hlo, hhi, hI⟩)
    · have hk2 : K j = 2 := (nI_eq (by have := (hkf j hj).1; omega) (by decide)).mp h21
      refine a_aload_n S d_Kc_text_24 rfl rfl ?_
      obtain ⟨⟨tf, t1, t2, t3⟩, tvs⟩ := hL
      have hL : Tup D w (b + 4) L := ⟨⟨tf, t1, t2, t3⟩, tvs⟩
      have hv := tvs j (by omega)
      refine a_get S kc_Kc 1 (by decide) lf_Kc_19 h0 rfl d_Kc_text_25 ?_
      refine a_get S kc_Tuple 0 (by decide) lf_Kc_98 t1 rfl d_Kc_text_28 ?_
      refine a_iload_n S d_Kc_text_31 rfl rfl ?_
      refine a_aald S (i := j) (q := b + 4 + 2 + 2 * j) rfl t2 rfl (by omega) (by decide) (t3 j (by omega)) d_Kc_text_32 ?_
      refine a_iload_n S d_Kc_text_33 rfl rfl ?_
      refine a_callV S (rest := []) lg_Kc_112 hv.cell (c_Value_append X.2.1 D (b + 4 + 2 + 2 * j) (L j) x w n hv) (by decide) (by omega) (by omega) rfl (Nat.le_of_ble_eq_true rfl) d_Kc_text_34 (fun v7 w8 n9 p10 => ?_)
      obtain ⟨rfl, e12, f11, hv⟩ := p10
      rw [e12]
      refine a_st (st' := [.int (if (L j).2.2.2.length < 10 then 1 else 0)]) rfl ?_
      have hL := Tup.put hL (by omega) f11 hv
      have fr := fr.trans (Fr.sub f11 (by omega) (by omega))
      have h0 := Fr.cell f11 h0 (by omega)
      have s1 := Fr.cell f11 s1 (by omega)
      have s2 := Fr.cell f11 s2 (by omega)
      have hs := Sch.fr f11 hs (by omega)
      have hZ := Tup.fr f11 hZ (by omega)
      have hkr := Row.fr f11 hkr (by omega)
      have hlf := Row.fr f11 hlf (by omega)
      have hrg := Row.fr f11 hrg (by omega)
      have hK := Kept.fr f11 hK (by omega)
      have hlo := Row.fr f11 hlo (by omega)
      have hhi := Row.fr f11 hhi (by omega)
      refine a_if_eq S (tgt := 44) d_Kc_text_37 rfl (fun h37 => ?_) (fun h37 => ?_)
      · have hl : ¬ (L j).2.2.2.length < 10 := if10n h37
        rw [if_neg hl, va_up_eta] at hL
        have hx : ∀ j2, j2 < c → s = true → nI j = nI j2 → K j2 = 2 → (L j2).2.2.2.length < 10 → False := fun j2 hj2 _ e _ q => by
          have e2 := (nI_eq (by omega) (by omega)).mp e
          subst e2; exact hl q
        refine a_iconst S (v := 0) d_Kc_text_44 (by decide) ?_
        exact RT _ _ _ _ _ _ _ d_Kc_text_45 rfl (by omega) (by omega) (Or.inr ⟨hx, rfl, rfl, fr, _, _, _, _, h0, hs, hL, hZ, hkr, hlf, hrg, hK, hlo, hhi, hI⟩)
      · have hl : (L j).2.2.2.length < 10 := if10 h37
        rw [if_pos hl] at hL
        refine a_iconst S (v := 1) d_Kc_text_40 (by decide) ?_
        refine a_goto S (tgt := 45) d_Kc_text_41 rfl ?_
        exact RT _ _ _ _ _ _ _ d_Kc_text_45 rfl (by omega) (by omega) (Or.inl ⟨j, hj, hs_j, rfl, hk2, hl, rfl, rfl, fr, _, _, _, _, h0, hs, hL, hZ, hkr, hlf, hrg, hK, hlo, hhi, ⟨hm, (fun _ => okT_put hj (hI.2.1 hs_j) (okV_tx hl (hI.2.1 hs_j j hj) hk2)), hI.2.2⟩⟩)
set_option maxHeartbeats 400000 in
set_option maxRecDepth 100000 in
theorem c_Kc_absent (l : Launch) (D : kD) (b c : Nat) (s : Bool) (K F : Nat → Nat) (L : Nat → kV) (kr : List Nat) (m : Nat) (KT : Nat → Nat → kV) (lo hi : List Nat) (he : Bool) (i : Int32) (w : ww) (n : Nat) (h : Cod D w b c s K F L kr m KT lo hi he) : AM l D M_Kc_absent 2 0 0 [.ref b, .int i] w n (fun v w' n' => (∃ j, j < c ∧ s = true ∧ i = nI j ∧ fOp (F j) = true ∧ v = some (.int 1) ∧ n' = n ∧ Fr w w' b 208 ∧ Cod D w' b c s K F (va_up L j (true, 0, 0, [])) kr m KT lo hi he) ∨ ((∀ j, j < c → s = true → i = nI j → fOp (F j) = true → False) ∧ v = some (.int 0) ∧ w' = w ∧ n' = n)) := by
  refine AM.ofz (by decide +kernel) rfl (Nat.le_of_ble_eq_true rfl) (fun X A Q hin S RT => ?_)
  have S : FX X (D, A, 2, Q) prog_1_method_7_code "KeyCodec" 2 0 0 := S
  have RT : RTz X (D, A, 2, Q) prog_1_method_7_code 0 0 _ := RT
  obtain ⟨Z, lf, rg, KK, h0, hs, hL, hZ, hkr, hlf, hrg, hK, hlo, hhi, hI⟩ := h
  have hm := hI.1
  have hc5 := hs.1
  refine a_lve (lv' := [(0, .ref b), (1, .int i)]) rfl ?_
  have fr : Fr w w b 208 := Fr.refl _ _ _
  refine a_aload_n S d_Kc_absent_0 rfl rfl ?_
  refine a_get S kc_Kc 0 (by decide) lf_Kc_12 h0 rfl d_Kc_absent_1 ?_
  refine a_iload_n S d_Kc_absent_4 rfl rfl ?_
  refine a_callV S (rest := []) lg_Kc_90 hs.cell (c_Schema_isUsable X.2.1 D (b + 1) c s K F i w n hs) (by decide) (by omega) (by omega) rfl (Nat.le_of_ble_eq_true rfl) d_Kc_absent_5 (fun v1 w2 n3 p4 => ?_)
  obtain ⟨rfl, e5, e6⟩ := p4
  rw [e5, e6]
  refine a_st (st' := [.int (if usB s c i then 1 else 0)]) rfl ?_
  refine a_if_eq S (tgt := 23) d_Kc_absent_8 rfl (fun h8 => ?_) (fun h8 => ?_)
  · have hx : ∀ j, j < c → s = true → i = nI j → fOp (F j) = true → False := fun j hj hs_ e _ => usB_no (by omega) (bo_0 h8) hj hs_ e
    refine a_iconst S (v := 0) d_Kc_absent_23 (by decide) ?_
    exact RT _ _ _ _ _ _ _ d_Kc_absent_24 rfl (by omega) (by omega) (Or.inr ⟨hx, rfl, rfl, rfl⟩)
  · obtain ⟨hs_j, j, hj, rfl⟩ := usB_ix (by omega) (bo_1 h8)
    refine a_aload_n S d_Kc_absent_11 rfl rfl ?_
    refine a_get S kc_Kc 0 (by decide) lf_Kc_12 h0 rfl d_Kc_absent_12 ?_
    refine a_iload_n S d_Kc_absent_15 rfl rfl ?_
    refine a_iconst S (v := 2) d_Kc_absent_16 (by decide) ?_
    refine a_callV S (rest := []) lg_Kc_114 hs.cell (c_Schema_has X.2.1 D (b + 1) c s K F j 2 w n hj hs) (by decide) (by omega) (by omega) rfl (Nat.le_of_ble_eq_true rfl) d_Kc_absent_17 (fun v7 w8 n9 p10 => ?_)
    obtain ⟨rfl, e11, e12⟩ := p10
    rw [e11, e12]
    refine a_st (st' := [.int (if nI (F j) &&& 2 = 0 then 0 else 1)]) rfl ?_
    refine a_if_ne S (tgt := 25) d_Kc_absent_20 rfl (fun h20 => ?_) (fun h20 => ?_)
    · have ho := fOp_1 (hs.2.1 j hj).2 h20
      refine a_aload_n S d_Kc_absent_25 rfl rfl ?_
      obtain ⟨⟨tf, t1, t2, t3⟩, tvs⟩ := hL
      have hL : Tup D w (b + 4) L := ⟨⟨tf, t1, t2, t3⟩, tvs⟩
      have hv := tvs j (by omega)
      refine a_get S kc_Kc 1 (by decide) lf_Kc_19 h0 rfl d_Kc_absent_26 ?_
      refine a_get S kc_Tuple 0 (by decide) lf_Kc_98 t1 rfl d_Kc_absent_29 ?_
      refine a_iload_n S d_Kc_absent_32 rfl rfl ?_
      refine a_aald S (i := j) (q := b + 4 + 2 + 2 * j) rfl t2 rfl (by omega) (by decide) (t3 j (by omega)) d_Kc_absent_33 ?_
      refine a_callV S (rest := []) lg_Kc_118 hv.cell (c_Value_vanish X.2.1 D (b + 4 + 2 + 2 * j) (L j)  w n hv) (by decide) (by omega) (by omega) rfl (Nat.le_of_ble_eq_true rfl) d_Kc_absent_34 (fun v13 w14 n15 p16 => ?_)
      obtain ⟨rfl, e18, f17, hv⟩ := p16
      rw [e18]
      refine a_st (st' := []) rfl ?_
      have hL := Tup.put hL (by omega) f17 hv
      have fr := fr.trans (Fr.sub f17 (by omega) (by omega))
      have h0 := Fr.cell f17 h0 (by omega)
      have hs := Sch.fr f17 hs (by omega)
      have hZ := Tup.fr f17 hZ (by omega)
      have hkr := Row.fr f17 hkr (by omega)
      have hlf := Row.fr f17 hlf (by omega)
      have hrg := Row.fr f17 hrg (by omega)
      have hK := Kept.fr f17 hK (by omega)
      have hlo := Row.fr f17 hlo (by omega)
      have hhi := Row.fr f17 hhi (by omega)
      refine a_iconst S (v := 1) d_Kc_absent_37 (by decide) ?_
      exact RT _ _ _ _ _ _ _ d_Kc_absent_38 rfl (by omega) (by omega) (Or.inl ⟨j, hj, hs_j, rfl, ho, rfl, rfl, fr, _, _, _, _, h0, hs, hL, hZ, hkr, hlf, hrg, hK, hlo, hhi, ⟨hm, (fun _ => okT_put hj (hI.2.1 hs_j) (okV_ab (hs.2.1 j hj).1 ho)), hI.2.2⟩⟩)
    · have hx : ∀ j2, j2 < c → s = true → nI j = nI j2 → fOp (F j2) = true → False := fun j2 hj2 _ e q => by
        have e2 := (nI_eq (by omega) (by omega)).mp e
        subst e2
        rw [fOp_0 (hs.2.1 j hj).2 h20] at q; cases q
      refine a_iconst S (v := 0) d_Kc_absent_23 (by decide) ?_
      exact RT _ _ _ _ _ _ _ d_Kc_absent_24 rfl (by omega) (by omega) (Or.inr ⟨hx, rfl, rfl, rfl⟩)
set_option maxHeartbeats 400000 in
set_option maxRecDepth 100000 in
theorem c_Kc_load (l : Launch) (D : kD) (b c : Nat) (s : Bool) (K F : Nat → Nat) (L : Nat → kV) (kr : List Nat) (m : Nat) (KT : Nat → Nat → kV) (lo hi : List Nat) (he : Bool) (x : Int32) (z : Int64) (w : ww) (n : Nat) (h : Cod D w b c s K F L kr m KT lo hi he) : AM l D M_Kc_load 2 0 0 [.ref b, .int x, .long z] w n (fun v w' n' => (∃ k, 1 ≤ k ∧ k ≤ 8 ∧ x = nI k ∧ k + kr.length ≤ 120 ∧ v = some (.int 1) ∧ n' = n ∧ Fr w w' b 208 ∧ Cod D w' b c s K F L (kr ++ be k (uL z)) m KT lo hi he) ∨ ((∀ k, 1 ≤ k → k ≤ 8 → x = nI k → k + kr.length ≤ 120 → False) ∧ v = some (.int 0) ∧ w' = w ∧ n' = n)) := by
  refine AM.ofz (by decide +kernel) rfl (Nat.le_of_ble_eq_true rfl) (fun X A Q hin S RT => ?_)
  have S : FX X (D, A, 4, Q) prog_1_method_10_code "KeyCodec" 2 0 0 := S
  have RT : RTz X (D, A, 4, Q) prog_1_method_10_code 0 0 _ := RT
  obtain ⟨Z, lf, rg, KK, h0, hs, hL, hZ, hkr, hlf, hrg, hK, hlo, hhi, hI⟩ := h
  have hm := hI.1
  have hc5 := hs.1
  refine a_lve (lv' := [(0, .ref b), (1, .int x), (2, .long z)]) rfl ?_
  have fr : Fr w w b 208 := Fr.refl _ _ _
  refine a_iload_n S d_Kc_load_0 rfl rfl ?_
  refine a_iconst S (v := 1) d_Kc_load_1 (by decide) ?_
  refine a_icmp_lt S (tgt := 22) d_Kc_load_2 rfl (fun h2 => ?_) (fun h2 => ?_)
  · have hx : ∀ k, 1 ≤ k → k ≤ 8 → x = nI k → k + kr.length ≤ 120 → False := fun k q1 q2 e _ => by subst e; exact absurd ((nI_ltI (b := 1) (by omega) (by decide)).mp h2) (by omega)
    refine a_iconst S (v := 0) d_Kc_load_22 (by decide) ?_
    exact RT _ _ _ _ _ _ _ d_Kc_load_23 rfl (by omega) (by omega) (Or.inr ⟨hx, rfl, rfl, rfl⟩)
  · refine a_iload_n S d_Kc_load_5 rfl rfl ?_
    refine a_bipush S (v := 8) d_Kc_load_6 (by decide) ?_
    refine a_icmp_gt S (tgt := 22) d_Kc_load_8 rfl (fun h8 => ?_) (fun h8 => ?_)
    · have hx : ∀ k, 1 ≤ k → k ≤ 8 → x = nI k → k + kr.length ≤ 120 → False := fun k q1 q2 e _ => by subst e; exact absurd ((nI_ltI (a := 8) (by decide) (by omega)).mp h8) (by omega)
      refine a_iconst S (v := 0) d_Kc_load_22 (by decide) ?_
      exact RT _ _ _ _ _ _ _ d_Kc_load_23 rfl (by omega) (by omega) (Or.inr ⟨hx, rfl, rfl, rfl⟩)
    · obtain ⟨k, hk1, hk8, rfl⟩ := ld_ix h2 h8
      refine a_aload_n S d_Kc_load_11 rfl rfl ?_
      refine a_get S kc_Kc 3 (by decide) lf_Kc_29 h0 rfl d_Kc_load_12 ?_
      refine a_iload_n S d_Kc_load_15 rfl rfl ?_
      refine a_callV S (rest := []) lg_Kc_149 hkr.cell (c_Row_hasRoomFor X.2.1 D (b + 28) kr (nI k) w n hkr) (by decide) (by omega) (by omega) rfl (Nat.le_of_ble_eq_true rfl) d_Kc_load_16 (fun v1 w2 n3 p4 => ?_)
      obtain ⟨rfl, e5, e6⟩ := p4
      rw [e5, e6]
      refine a_st (st' := [.int (if nI k ≤ nI (120 - kr.length) then 1 else 0)]) rfl ?_
      refine a_if_ne S (tgt := 24) d_Kc_load_19 rfl (fun h19 => ?_) (fun h19 => ?_)
      · have hr : k + kr.length ≤ 120 := ld_1 hkr.1 hk8 h19
        refine a_aload_n S d_Kc_load_24 rfl rfl ?_
        refine a_get S kc_Kc 3 (by decide) lf_Kc_29 h0 rfl d_Kc_load_25 ?_
        refine a_iload_n S d_Kc_load_28 rfl rfl ?_
        refine a_lload_n S d_Kc_load_29 rfl rfl ?_
        refine a_iconst S (v := 0) d_Kc_load_30 (by decide) ?_
        refine a_callV S (rest := []) lg_Kc_152 hkr.cell (c_Row_appendLowest X.2.1 D (b + 28) kr k z 0 w n (by omega) (Or.inl rfl) hkr) (by decide) (by omega) (by omega) rfl (Nat.le_of_ble_eq_true rfl) d_Kc_load_31 (fun v7 w8 n9 p10 => ?_)
        obtain ⟨rfl, e12, f11, hkr⟩ := p10
        rw [e12]
        refine a_st (st' := []) rfl ?_
        have fr := fr.trans (Fr.sub f11 (by omega) (by omega))
        have h0 := Fr.cell f11 h0 (by omega)
        have hs := Sch.fr f11 hs (by omega)
        have hL := Tup.fr f11 hL (by omega)
        have hZ := Tup.fr f11 hZ (by omega)
        have hlf := Row.fr f11 hlf (by omega)
        have hrg := Row.fr f11 hrg (by omega)
        have hK := Kept.fr f11 hK (by omega)
        have hlo := Row.fr f11 hlo (by omega)
        have hhi := Row.fr f11 hhi (by omega)
        refine a_iconst S (v := 1) d_Kc_load_34 (by decide) ?_
        exact RT _ _ _ _ _ _ _ d_Kc_load_35 rfl (by omega) (by omega) (Or.inl ⟨k, hk1, hk8, rfl, hr, rfl, rfl, fr, _, _, _, _, h0, hs, hL, hZ, (by rw [map_tn0, ap_eq (by rw [be_len]; omega)] at hkr; exact hkr), hlf, hrg, hK, hlo, hhi, hI⟩)
      · have hx : ∀ k2, 1 ≤ k2 → k2 ≤ 8 → nI k = nI k2 → k2 + kr.length ≤ 120 → False := fun k2 _ q2 e q => by
          have e2 := (nI_eq (by omega) (by omega)).mp e
          subst e2; exact ld_0 hkr.1 hk8 h19 q
        refine a_iconst S (v := 0) d_Kc_load_22 (by decide) ?_
        exact RT _ _ _ _ _ _ _ d_Kc_load_23 rfl (by omega) (by omega) (Or.inr ⟨hx, rfl, rfl, rfl⟩)
set_option maxHeartbeats 400000 in
set_option maxRecDepth 100000 in
theorem c_Kc_clearKey (l : Launch) (D : kD) (b c : Nat) (s : Bool) (K F : Nat → Nat) (L : Nat → kV) (kr : List Nat) (m : Nat) (KT : Nat → Nat → kV) (lo hi : List Nat) (he : Bool)  (w : ww) (n : Nat) (h : Cod D w b c s K F L kr m KT lo hi he) : AM l D M_Kc_clearKey 1 0 0 [.ref b] w n (fun v w' n' => v = none ∧ n' = n ∧ Fr w w' b 208 ∧ Cod D w' b c s K F L [] m KT lo hi he) := by
  refine AM.ofv (by decide +kernel) rfl (Nat.le_of_ble_eq_true rfl) (fun X A Q hin S RT => ?_)
  have S : FX X (D, A, 1, Q) prog_1_method_11_code "KeyCodec" 1 0 0 := S
  have RT : RTv X (D, A, 1, Q) prog_1_method_11_code 0 0 _ := RT
  obtain ⟨Z, lf, rg, KK, h0, hs, hL, hZ, hkr, hlf, hrg, hK, hlo, hhi, hI⟩ := h
  have hm := hI.1
  have hc5 := hs.1
  refine a_lve (lv' := [(0, .ref b)]) rfl ?_
  have fr : Fr w w b 208 := Fr.refl _ _ _
  refine a_aload_n S d_Kc_clearKey_0 rfl rfl ?_
  refine a_get S kc_Kc 3 (by decide) lf_Kc_29 h0 rfl d_Kc_clearKey_1 ?_
  refine a_callV S (rest := []) lg_Kc_87 hkr.cell (c_Row_empty X.2.1 D (b + 28) kr w n hkr) (by decide) (by omega) (by omega) rfl (Nat.le_of_ble_eq_true rfl) d_Kc_clearKey_4 (fun v1 w2 n3 p4 => ?_)
  obtain ⟨rfl, e6, f5, hkr⟩ := p4
  rw [e6]
  refine a_st (st' := []) rfl ?_
  have fr := fr.trans (Fr.sub f5 (by omega) (by omega))
  have h0 := Fr.cell f5 h0 (by omega)
  have hs := Sch.fr f5 hs (by omega)
  have hL := Tup.fr f5 hL (by omega)
  have hZ := Tup.fr f5 hZ (by omega)
  have hlf := Row.fr f5 hlf (by omega)
  have hrg := Row.fr f5 hrg (by omega)
  have hK := Kept.fr f5 hK (by omega)
  have hlo := Row.fr f5 hlo (by omega)
  have hhi := Row.fr f5 hhi (by omega)
  exact RT _ _ _ _ _ _ d_Kc_clearKey_7 (by omega) (by omega) ⟨rfl, rfl, fr, _, _, _, _, h0, hs, hL, hZ, hkr, hlf, hrg, hK, hlo, hhi, hI⟩
set_option maxHeartbeats 400000 in
set_option maxRecDepth 100000 in
theorem c_Kc_key (l : Launch) (D : kD) (b c : Nat) (s : Bool) (K F : Nat → Nat) (L : Nat → kV) (kr : List Nat) (m : Nat) (KT : Nat → Nat → kV) (lo hi : List Nat) (he : Bool) (i : Int32) (w : ww) (n : Nat) (h : Cod D w b c s K F L kr m KT lo hi he) : AM l D M_Kc_key 1 0 0 [.ref b, .int i] w n (fun v w' n' => v = some (.int (if i = -1 then nI kr.length else atB kr i)) ∧ w' = w ∧ n' = n) := by
  refine AM.ofi (by decide +kernel) rfl (Nat.le_of_ble_eq_true rfl) (fun X A Q hin S RT => ?_)
  have S : FX X (D, A, 2, Q) prog_1_method_12_code "KeyCodec" 1 0 0 := S
  have RT : RTi X (D, A, 2, Q) prog_1_method_12_code 0 0 _ := RT
  obtain ⟨Z, lf, rg, KK, h0, hs, hL, hZ, hkr, hlf, hrg, hK, hlo, hhi, hI⟩ := h
  have hm := hI.1
  have hc5 := hs.1
  refine a_lve (lv' := [(0, .ref b), (1, .int i)]) rfl ?_
  have fr : Fr w w b 208 := Fr.refl _ _ _
  refine a_iload_n S d_Kc_key_0 rfl rfl ?_
  refine a_iconst S (v := (-1)) d_Kc_key_1 (by decide) ?_
  refine a_icmp_ne S (tgt := 15) d_Kc_key_2 rfl (fun h2 => ?_) (fun h2 => ?_)
  · refine a_aload_n S d_Kc_key_15 rfl rfl ?_
    refine a_get S kc_Kc 3 (by decide) lf_Kc_29 h0 rfl d_Kc_key_16 ?_
    refine a_iload_n S d_Kc_key_19 rfl rfl ?_
    refine a_callV S (rest := []) lg_Kc_156 hkr.cell (c_Row_byteAt X.2.1 D (b + 28) kr i w n hkr) (by decide) (by omega) (by omega) rfl (Nat.le_of_ble_eq_true rfl) d_Kc_key_20 (fun v1 w2 n3 p4 => ?_)
    obtain ⟨rfl, e5, e6⟩ := p4
    rw [e5, e6]
    refine a_st (st' := [.int (atB kr i)]) rfl ?_
    exact RT _ _ _ _ _ _ _ d_Kc_key_23 (by omega) (by omega) ⟨by rw [if_neg h2], rfl, rfl⟩
  · refine a_aload_n S d_Kc_key_5 rfl rfl ?_
    have kc1 := hkr.cell
    refine a_get S kc_Kc 3 (by decide) lf_Kc_29 h0 rfl d_Kc_key_6 ?_
    refine a_get S kc_Row 1 (by decide) lf_Kc_148 kc1 rfl d_Kc_key_9 ?_
    refine a_goto S (tgt := 23) d_Kc_key_12 rfl ?_
    exact RT _ _ _ _ _ _ _ d_Kc_key_23 (by omega) (by omega) ⟨by rw [if_pos h2], rfl, rfl⟩
set_option maxHeartbeats 400000 in
set_option maxRecDepth 100000 in
theorem c_Kc_kept (l : Launch) (D : kD) (b c : Nat) (s : Bool) (K F : Nat → Nat) (L : Nat → kV) (kr : List Nat) (m : Nat) (KT : Nat → Nat → kV) (lo hi : List Nat) (he : Bool)  (w : ww) (n : Nat) (h : Cod D w b c s K F L kr m KT lo hi he) : AM l D M_Kc_kept 0 0 0 [.ref b] w n (fun v w' n' => v = some (.int (nI m)) ∧ w' = w ∧ n' = n) := by
  refine AM.ofi (by decide +kernel) rfl (Nat.le_of_ble_eq_true rfl) (fun X A Q hin S RT => ?_)
  have S : FX X (D, A, 1, Q) prog_1_method_16_code "KeyCodec" 0 0 0 := S
  have RT : RTi X (D, A, 1, Q) prog_1_method_16_code 0 0 _ := RT
  obtain ⟨Z, lf, rg, KK, h0, hs, hL, hZ, hkr, hlf, hrg, hK, hlo, hhi, hI⟩ := h
  have hm := hI.1
  have hc5 := hs.1
  refine a_lve (lv' := [(0, .ref b)]) rfl ?_
  have fr : Fr w w b 208 := Fr.refl _ _ _
  refine a_aload_n S d_Kc_kept_0 rfl rfl ?_
  refine a_get S kc_Kc 8 (by decide) lf_Kc_47 h0 rfl d_Kc_kept_1 ?_
  exact RT _ _ _ _ _ _ _ d_Kc_kept_4 (by omega) (by omega) ⟨rfl, rfl, rfl⟩
set_option maxHeartbeats 400000 in
set_option maxRecDepth 100000 in
theorem c_Kc_get (l : Launch) (D : kD) (b c : Nat) (s : Bool) (K F : Nat → Nat) (L : Nat → kV) (kr : List Nat) (m : Nat) (KT : Nat → Nat → kV) (lo hi : List Nat) (he : Bool) (i x : Int32) (w : ww) (n : Nat) (h : Cod D w b c s K F L kr m KT lo hi he) : AM l D M_Kc_get 1 0 0 [.ref b, .int i, .int x] w n (fun v w' n' => ((∃ j, j < c ∧ s = true ∧ i = nI j ∧ ¬ x < 0 ∧ v = some (.long (gtV (K j) (L j) x))) ∨ ((∀ j, j < c → s = true → i = nI j → ¬ x < 0 → False) ∧ v = some (.long (-1)))) ∧ w' = w ∧ n' = n) := by
  refine AM.ofl (by decide +kernel) rfl (Nat.le_of_ble_eq_true rfl) (fun X A Q hin S RT => ?_)
  have S : FX X (D, A, 4, Q) prog_1_method_8_code "KeyCodec" 1 0 0 := S
  have RT : RTl X (D, A, 4, Q) prog_1_method_8_code 0 0 _ := RT
  obtain ⟨Z, lf, rg, KK, h0, hs, hL, hZ, hkr, hlf, hrg, hK, hlo, hhi, hI⟩ := h
  have hm := hI.1
  have hc5 := hs.1
  refine a_lve (lv' := [(0, .ref b), (1, .int i), (2, .int x)]) rfl ?_
  have fr : Fr w w b 208 := Fr.refl _ _ _
  refine a_aload_n S d_Kc_get_0 rfl rfl ?_
  refine a_get S kc_Kc 0 (by decide) lf_Kc_12 h0 rfl d_Kc_get_1 ?_
  refine a_iload_n S d_Kc_get_4 rfl rfl ?_
  refine a_callV S (rest := []) lg_Kc_90 hs.cell (c_Schema_isUsable X.2.1 D (b + 1) c s K F i w n hs) (by decide) (by omega) (by omega) rfl (Nat.le_of_ble_eq_true rfl) d_Kc_get_5 (fun v1 w2 n3 p4 => ?_)
  obtain ⟨rfl, e5, e6⟩ := p4
  rw [e5, e6]
  refine a_st (st' := [.int (if usB s c i then 1 else 0)]) rfl ?_
  refine a_if_eq S (tgt := 15) d_Kc_get_8 rfl (fun h8 => ?_) (fun h8 => ?_)
  · have hx : ∀ j, j < c → s = true → i = nI j → ¬ x < 0 → False := fun j hj hs_ e _ => usB_no (by omega) (bo_0 h8) hj hs_ e
    refine a_ldc2 S (v := (-1)) lK_Kc_121 d_Kc_get_15 ?_
    exact RT _ _ _ _ _ _ _ d_Kc_get_18 (by omega) (by omega) ⟨Or.inr ⟨hx, rfl⟩, rfl, rfl⟩
  · obtain ⟨hs_j, j, hj, rfl⟩ := usB_ix (by omega) (bo_1 h8)
    refine a_iload_n S d_Kc_get_11 rfl rfl ?_
    refine a_if_ge S (tgt := 19) d_Kc_get_12 rfl (fun h12 => ?_) (fun h12 => ?_)
    · have h12 : ¬ x < 0 := k2_nlt h12
      refine a_aload_n S d_Kc_get_19 rfl rfl ?_
      obtain ⟨⟨tf, t1, t2, t3⟩, tvs⟩ := hL
      have hL : Tup D w (b + 4) L := ⟨⟨tf, t1, t2, t3⟩, tvs⟩
      have hv := tvs j (by omega)
      have vc := hv.cell
      refine a_get S kc_Kc 1 (by decide) lf_Kc_19 h0 rfl d_Kc_get_20 ?_
      refine a_get S kc_Tuple 0 (by decide) lf_Kc_98 t1 rfl d_Kc_get_23 ?_
      refine a_iload_n S d_Kc_get_26 rfl rfl ?_
      refine a_aald S (i := j) (q := b + 4 + 2 + 2 * j) rfl t2 rfl (by omega) (by decide) (t3 j (by omega)) d_Kc_get_27 ?_
      refine a_astore_n S d_Kc_get_28 rfl (Nat.le_of_ble_eq_true rfl) (lv' := [(0, .ref b), (1, .int (nI j)), (2, .int x), (3, .ref (b + 4 + 2 + 2 * j))]) rfl ?_
      refine a_iload_n S d_Kc_get_29 rfl rfl ?_
      rcases gt_cases h12 with rfl | rfl | rfl | hx2
      · refine a_tswIn S (tgt := 56) d_Kc_get_30 (by decide) (by decide) rfl rfl ?_
        refine a_aload_n S d_Kc_get_56 rfl rfl ?_
        refine a_get S kc_Value 0 (by decide) lf_Kc_123 vc rfl d_Kc_get_57 ?_
        refine a_if_eq S (tgt := 67) d_Kc_get_60 rfl (fun h60 => ?_) (fun h60 => ?_)
        · have hb : (L j).1 = false := bo_0 h60
          refine a_lconst S (v := 0) d_Kc_get_67 (by decide) ?_
          exact RT _ _ _ _ _ _ _ d_Kc_get_68 (by omega) (by omega) ⟨Or.inl ⟨j, hj, hs_j, rfl, h12, (by rw [gtV, if_pos rfl, hb]; rfl)⟩, rfl, rfl⟩
        · have hb : (L j).1 = true := bo_1 h60
          refine a_lconst S (v := 1) d_Kc_get_63 (by decide) ?_
          refine a_goto S (tgt := 68) d_Kc_get_64 rfl ?_
          exact RT _ _ _ _ _ _ _ d_Kc_get_68 (by omega) (by omega) ⟨Or.inl ⟨j, hj, hs_j, rfl, h12, (by rw [gtV, if_pos rfl, hb]; rfl)⟩, rfl, rfl⟩
      · refine a_tswIn S (tgt := 69) d_Kc_get_30 (by decide) (by decide) rfl rfl ?_
        refine a_aload_n S d_Kc_get_69 rfl rfl ?_
        obtain ⟨hc, hkf, sf, sg, s1, s2, s3, sfg⟩ := hs
        have hs : Sch D w (b + 1) c s K F := ⟨hc, hkf, sf, sg, s1, s2, s3, sfg⟩
        refine a_get S kc_Kc 0 (by decide) lf_Kc_12 h0 rfl d_Kc_get_70 ?_
        refine a_get S kc_Schema 0 (by decide) lf_Kc_108 s1 rfl d_Kc_get_73 ?_
        refine a_iload_n S d_Kc_get_76 rfl rfl ?_
        refine a_iald S (i := j) s2 rfl (by omega) (by decide) d_Kc_get_77 ?_
        refine a_eqi ((sfg j hj).1) ?_
        refine a_iconst S (v := 2) d_Kc_get_78 (by decide) ?_
        refine a_icmp_ne S (tgt := 90) d_Kc_get_79 rfl (fun h79 => ?_) (fun h79 => ?_)
        · have hk2 : ¬ K j = 2 := fun z => h79 (by rw [z]; rfl)
          refine a_aload_n S d_Kc_get_90 rfl rfl ?_
          refine a_get S kc_Value 1 (by decide) lf_Kc_129 vc rfl d_Kc_get_91 ?_
          exact RT _ _ _ _ _ _ _ d_Kc_get_94 (by omega) (by omega) ⟨Or.inl ⟨j, hj, hs_j, rfl, h12, (by rw [gtV, if_neg (by decide), if_pos rfl, if_neg hk2])⟩, rfl, rfl⟩
        · have hk2 : K j = 2 := (nI_eq (by have := (hkf j hj).1; omega) (by decide)).mp h79
          refine a_aload_n S d_Kc_get_82 rfl rfl ?_
          refine a_get S kc_Value 4 (by decide) lf_Kc_126 vc rfl d_Kc_get_83 ?_
          refine a_i2l S d_Kc_get_86 ?_
          refine a_goto S (tgt := 94) d_Kc_get_87 rfl ?_
          exact RT _ _ _ _ _ _ _ d_Kc_get_94 (by omega) (by omega) ⟨Or.inl ⟨j, hj, hs_j, rfl, h12, (by rw [gtV, if_neg (by decide), if_pos rfl, if_pos hk2])⟩, rfl, rfl⟩
      · refine a_tswIn S (tgt := 95) d_Kc_get_30 (by decide) (by decide) rfl rfl ?_
        refine a_aload_n S d_Kc_get_95 rfl rfl ?_
        refine a_get S kc_Value 2 (by decide) lf_Kc_133 vc rfl d_Kc_get_96 ?_
        refine a_i2l S d_Kc_get_99 ?_
        exact RT _ _ _ _ _ _ _ d_Kc_get_100 (by omega) (by omega) ⟨Or.inl ⟨j, hj, hs_j, rfl, h12, (by rw [gtV, if_neg (by decide), if_neg (by decide), if_pos rfl])⟩, rfl, rfl⟩
      · refine a_tswOut S (tgt := 101) d_Kc_get_30 (Or.inr (Int32.lt_iff_toInt_lt.mp hx2)) rfl ?_
        refine a_aload_n S d_Kc_get_101 rfl rfl ?_
        refine a_iload_n S d_Kc_get_102 rfl rfl ?_
        refine a_iconst S (v := 3) d_Kc_get_103 (by decide) ?_
        refine a_isub S d_Kc_get_104 ?_
        refine a_callV S (rest := []) lg_Kc_136 vc (c_Value_byteAt X.2.1 D (b + 4 + 2 + 2 * j) (L j) (x - 3) w n hv) (by decide) (by omega) (by omega) rfl (Nat.le_of_ble_eq_true rfl) d_Kc_get_105 (fun v7 w8 n9 p10 => ?_)
        obtain ⟨rfl, e11, e12⟩ := p10
        rw [e11, e12]
        refine a_st (st' := [.int (atB (L j).2.2.2 (x - 3))]) rfl ?_
        refine a_i2l S d_Kc_get_108 ?_
        exact RT _ _ _ _ _ _ _ d_Kc_get_109 (by omega) (by omega) ⟨Or.inl ⟨j, hj, hs_j, rfl, h12, (by rw [gtV_3 hx2])⟩, rfl, rfl⟩
    · have hx : ∀ j2, j2 < c → s = true → nI j = nI j2 → ¬ x < 0 → False := fun j2 hj2 _ e q => q (k2_lt h12)
      refine a_ldc2 S (v := (-1)) lK_Kc_121 d_Kc_get_15 ?_
      exact RT _ _ _ _ _ _ _ d_Kc_get_18 (by omega) (by omega) ⟨Or.inr ⟨hx, rfl⟩, rfl, rfl⟩
set_option maxHeartbeats 400000 in
set_option maxRecDepth 100000 in
theorem c_Kc_take (l : Launch) (D : kD) (b c : Nat) (s : Bool) (K F : Nat → Nat) (L : Nat → kV) (kr : List Nat) (m : Nat) (KT : Nat → Nat → kV) (lo hi : List Nat) (he : Bool) (i : Int32) (w : ww) (n : Nat) (h : Cod D w b c s K F L kr m KT lo hi he) : AM l D M_Kc_take 3 0 0 [.ref b, .int i] w n (fun v w' n' => (∃ t, t < m ∧ i = nI t ∧ v = some (.int 1) ∧ n' = n ∧ Fr w w' b 208 ∧ Cod D w' b c s K F (KT t) kr m KT lo hi he) ∨ ((∀ t, t < m → i = nI t → False) ∧ v = some (.int 0) ∧ w' = w ∧ n' = n)) := by
  refine AM.ofz (by decide +kernel) rfl (Nat.le_of_ble_eq_true rfl) (fun X A Q hin S RT => ?_)
  have S : FX X (D, A, 2, Q) prog_1_method_15_code "KeyCodec" 3 0 0 := S
  have RT : RTz X (D, A, 2, Q) prog_1_method_15_code 0 0 _ := RT
  obtain ⟨Z, lf, rg, KK, h0, hs, hL, hZ, hkr, hlf, hrg, hK, hlo, hhi, hI⟩ := h
  have hm := hI.1
  have hc5 := hs.1
  refine a_lve (lv' := [(0, .ref b), (1, .int i)]) rfl ?_
  have fr : Fr w w b 208 := Fr.refl _ _ _
  refine a_aload_n S d_Kc_take_0 rfl rfl ?_
  refine a_iload_n S d_Kc_take_1 rfl rfl ?_
  refine a_callV S (rest := []) lg_Kc_177 h0 (c_Kc_isKept X.2.1 D b m he i w n h0) (by decide) (by omega) (by omega) rfl (Nat.le_of_ble_eq_true rfl) d_Kc_take_2 (fun v1 w2 n3 p4 => ?_)
  obtain ⟨rfl, e5, e6⟩ := p4
  rw [e5, e6]
  refine a_st (st' := [.int (if usB true m i then 1 else 0)]) rfl ?_
  refine a_if_ne S (tgt := 10) d_Kc_take_5 rfl (fun h5 => ?_) (fun h5 => ?_)
  · obtain ⟨hs_t, t, ht, rfl⟩ := usB_ix (by omega) (bo_1 h5)
    refine a_aload_n S d_Kc_take_10 rfl rfl ?_
    obtain ⟨⟨kf, kg, k1, k2, k3⟩, k4⟩ := hK
    have hK : Kept D w b KT KK := ⟨⟨kf, kg, k1, k2, k3⟩, k4⟩
    obtain ⟨kt_t, kk_t⟩ := k4 t (by omega)
    refine a_get S kc_Kc 1 (by decide) lf_Kc_19 h0 rfl d_Kc_take_11 ?_
    refine a_aload_n S d_Kc_take_14 rfl rfl ?_
    refine a_get S kc_Kc 6 (by decide) lf_Kc_39 h0 rfl d_Kc_take_15 ?_
    refine a_iload_n S d_Kc_take_18 rfl rfl ?_
    refine a_aald S (i := t) (q := b + 40 + 14 * t) rfl k1 rfl (by omega) (by decide) (k3 t (by omega)).1 d_Kc_take_19 ?_
    refine a_callV S (rest := []) lg_Kc_172 hL.cell (c_Tuple_become X.2.1 D (b + 4) (b + 40 + 14 * t) L (KT t) w n (by omega) hL kt_t) (by decide) (by omega) (by omega) rfl (Nat.le_of_ble_eq_true rfl) d_Kc_take_20 (fun v7 w8 n9 p10 => ?_)
    obtain ⟨rfl, e12, f11, hL⟩ := p10
    rw [e12]
    refine a_st (st' := []) rfl ?_
    have fr := fr.trans (Fr.sub f11 (by omega) (by omega))
    have h0 := Fr.cell f11 h0 (by omega)
    have k1 := Fr.cell f11 k1 (by omega)
    have k2 := Fr.cell f11 k2 (by omega)
    have hs := Sch.fr f11 hs (by omega)
    have hZ := Tup.fr f11 hZ (by omega)
    have hkr := Row.fr f11 hkr (by omega)
    have hlf := Row.fr f11 hlf (by omega)
    have hrg := Row.fr f11 hrg (by omega)
    have hK := Kept.fr f11 hK (by omega)
    have hlo := Row.fr f11 hlo (by omega)
    have hhi := Row.fr f11 hhi (by omega)
    have kt_t := Tup.fr f11 kt_t (by omega)
    have kk_t := Row.fr f11 kk_t (by omega)
    refine a_iconst S (v := 1) d_Kc_take_23 (by decide) ?_
    exact RT _ _ _ _ _ _ _ d_Kc_take_24 rfl (by omega) (by omega) (Or.inl ⟨t, ht, rfl, rfl, rfl, fr, _, _, _, _, h0, hs, hL, hZ, hkr, hlf, hrg, hK, hlo, hhi, (hI.lo ht)⟩)
  · have hx : ∀ t, t < m → i = nI t → False := fun t ht e => usB_no (by omega) (bo_0 h5) ht rfl e
    refine a_iconst S (v := 0) d_Kc_take_8 (by decide) ?_
    exact RT _ _ _ _ _ _ _ d_Kc_take_9 rfl (by omega) (by omega) (Or.inr ⟨hx, rfl, rfl, rfl⟩)
set_option maxHeartbeats 400000 in
set_option maxRecDepth 100000 in
theorem c_Kc_writeStart (l : Launch) (D : kD) (b c : Nat) (s : Bool) (K F : Nat → Nat) (m : Nat) (KT : Nat → Nat → kV) (KK : Nat → List Nat) (he : Bool) (r j k : Nat) (l0 : List Nat) (w : ww) (n : Nat) (hd : (b + 30 ≤ r ∧ r + 2 ≤ b + 34) ∨ (b + 36 ≤ r ∧ r + 2 ≤ b + 40)) (hj : j < 12) (hk : k ≤ c) (hok : okT K F (KT j) c) (h0 : Cc w b m he) (hs : Sch D w (b + 1) c s K F) (hK : Kept D w b KT KK) (hr : Row D w r l0) : AM l D M_Kc_writeStart 5 0 0 [.ref b, .int (nI j), .int (nI k), .ref r] w n (fun v w' n' => v = none ∧ n' = n ∧ Fr w w' r 2 ∧ Row D w' r (fldB K F (KT j) k)) := by
  refine AM.ofv (by decide +kernel) rfl (Nat.le_of_ble_eq_true rfl) (fun X A Q hin S RT => ?_)
  have S : FX X (D, A, 4, Q) prog_1_method_26_code "KeyCodec" 5 0 0 := S
  have RT : RTv X (D, A, 4, Q) prog_1_method_26_code 0 0 _ := RT
  have hc5 := hs.1
  refine a_lve (lv' := [(0, .ref b), (1, .int (nI j)), (2, .int (nI k)), (3, .ref r)]) rfl ?_
  have fr : Fr w w r 2 := Fr.refl _ _ _
  obtain ⟨⟨kf, kg, k1, k2, k3⟩, k4⟩ := hK
  have hK : Kept D w b KT KK := ⟨⟨kf, kg, k1, k2, k3⟩, k4⟩
  obtain ⟨kt_j, kk_j⟩ := k4 j (by omega)
  refine a_aload_n S d_Kc_writeStart_0 rfl rfl ?_
  refine a_callV S (rest := []) lg_Kc_87 hr.cell (c_Row_empty X.2.1 D r l0 w n hr) (by decide) (by omega) (by omega) rfl (Nat.le_of_ble_eq_true rfl) d_Kc_writeStart_1 (fun v1 w2 n3 p4 => ?_)
  obtain ⟨rfl, e6, f5, hr⟩ := p4
  rw [e6]
  refine a_st (st' := []) rfl ?_
  have fr := fr.trans (Fr.sub f5 (by omega) (by omega))
  have h0 := Fr.cell f5 h0 (by omega)
  have k1 := Fr.cell f5 k1 (by omega)
  have k2 := Fr.cell f5 k2 (by omega)
  have hs := Sch.fr f5 hs (by omega)
  have hK := Kept.fr f5 hK (by omega)
  have kt_j := Tup.fr f5 kt_j (by omega)
  have kk_j := Row.fr f5 kk_j (by omega)
  refine a_aload_n S d_Kc_writeStart_4 rfl rfl ?_
  refine a_get S kc_Kc 0 (by decide) lf_Kc_12 h0 rfl d_Kc_writeStart_5 ?_
  refine a_aload_n S d_Kc_writeStart_8 rfl rfl ?_
  refine a_get S kc_Kc 6 (by decide) lf_Kc_39 h0 rfl d_Kc_writeStart_9 ?_
  refine a_iload_n S d_Kc_writeStart_12 rfl rfl ?_
  refine a_aald S (i := j) (q := b + 40 + 14 * j) rfl k1 rfl (by omega) (by decide) (k3 j (by omega)).1 d_Kc_writeStart_13 ?_
  refine a_iload_n S d_Kc_writeStart_14 rfl rfl ?_
  refine a_aload_n S d_Kc_writeStart_15 rfl rfl ?_
  refine a_callS S (rest := []) lg_Kc_201 (c_Writer_writeFields X.2.1 D (b + 1) (b + 40 + 14 * j) r c s K F (KT j) ([]) k w2 n (by omega) (by omega) hk (okT_le hok hk) hs kt_j hr) (by decide) (by omega) (by omega) rfl (Nat.le_of_ble_eq_true rfl) d_Kc_writeStart_16 (fun v7 w8 n9 p10 => ?_)
  obtain ⟨rfl, e12, f11, hr⟩ := p10
  rw [e12]
  refine a_st (st' := []) rfl ?_
  have fr := fr.trans (Fr.sub f11 (by omega) (by omega))
  have h0 := Fr.cell f11 h0 (by omega)
  have k1 := Fr.cell f11 k1 (by omega)
  have k2 := Fr.cell f11 k2 (by omega)
  have hs := Sch.fr f11 hs (by omega)
  have hK := Kept.fr f11 hK (by omega)
  have kt_j := Tup.fr f11 kt_j (by omega)
  have kk_j := Row.fr f11 kk_j (by omega)
  exact RT _ _ _ _ _ _ d_Kc_writeStart_19 (by omega) (by omega) ⟨rfl, rfl, fr, (by rw [ap_eq (by have := fldB_len hok hk; show 0 + _ ≤ 120; omega)] at hr; exact hr)⟩
set_option maxHeartbeats 400000 in
set_option maxRecDepth 100000 in
theorem c_Kc_countBefore (l : Launch) (D : kD) (b m : Nat) (KT : Nat → Nat → kV) (KK : Nat → List Nat) (he : Bool) (t : Nat) (w : ww) (n : Nat) (hm : m ≤ 12) (ht : t < m) (h0 : Cc w b m he) (hK : Kept D w b KT KK) : AM l D M_Kc_countBefore 3 0 0 [.ref b, .int (nI t)] w n (fun v w' n' => v = some (.int (nI (rankB KK m t))) ∧ w' = w ∧ n' = n) := by
  refine AM.ofi (by decide +kernel) rfl (Nat.le_of_ble_eq_true rfl) (fun X A Q hin S RT => ?_)
  have S : FX X (D, A, 5, Q) prog_1_method_27_code "KeyCodec" 3 0 0 := S
  have RT : RTi X (D, A, 5, Q) prog_1_method_27_code 0 0 _ := RT
  refine a_lve (lv' := [(0, .ref b), (1, .int (nI t))]) rfl ?_
  obtain ⟨⟨kf, kg, k1, k2, k3⟩, k4⟩ := hK
  have hK : Kept D w b KT KK := ⟨⟨kf, kg, k1, k2, k3⟩, k4⟩
  obtain ⟨kt_t, kk_t⟩ := k4 t (by omega)
  refine a_iconst S (v := 0) d_Kc_countBefore_0 (by decide) ?_
  refine a_istore_n S d_Kc_countBefore_1 rfl (Nat.le_of_ble_eq_true rfl) (lv' := [(0, .ref b), (1, .int (nI t)), (2, .int 0)]) rfl ?_
  refine a_iconst S (v := 0) d_Kc_countBefore_2 (by decide) ?_
  refine a_istore_n S d_Kc_countBefore_3 rfl (Nat.le_of_ble_eq_true rfl) (lv' := [(0, .ref b), (1, .int (nI t)), (2, .int 0), (3, .int 0)]) rfl ?_
  have loop4 : ∀ (kk4 : Nat) (i : Nat), m - i = kk4 → (i ≤ m) → AW X (D, A, 5, Q) 4 [(0, .ref b), (1, .int (nI t)), (2, .int (nI (cntB (bef KK t) i))), (3, .int (nI i))] [] w n 0 0 := by
    intro kk4
    induction kk4 using Nat.strongRecOn with
    | ind kk4 ih4 =>
      intro i hk4 hi
      refine a_iload_n S d_Kc_countBefore_4 rfl rfl ?_
      refine a_aload_n S d_Kc_countBefore_5 rfl rfl ?_
      refine a_get S kc_Kc 8 (by decide) lf_Kc_47 h0 rfl d_Kc_countBefore_6 ?_
      refine a_icmp_ge S (tgt := 53) d_Kc_countBefore_9 rfl (fun h9 => ?_) (fun h9 => ?_)
      · have hi : i = m := Nat.le_antisymm hi ((nI_leI (by omega) (by omega)).mp h9)
        refine a_iload_n S d_Kc_countBefore_53 rfl rfl ?_
        exact RT _ _ _ _ _ _ _ d_Kc_countBefore_54 (by omega) (by omega) ⟨by rw [hi]; rfl, rfl, rfl⟩
      · have hi : i < m := Nat.not_le.mp fun z => h9 ((nI_leI (by omega) (by omega)).mpr z)
        have kk_i := (k4 i (by omega)).2
        refine a_aload_n S d_Kc_countBefore_12 rfl rfl ?_
        refine a_get S kc_Kc 7 (by decide) lf_Kc_43 h0 rfl d_Kc_countBefore_13 ?_
        refine a_iload_n S d_Kc_countBefore_16 rfl rfl ?_
        refine a_aald S (i := i) (q := b + 52 + 14 * i) rfl k2 rfl (by omega) (by decide) (k3 i (by omega)).2 d_Kc_countBefore_17 ?_
        refine a_aload_n S d_Kc_countBefore_18 rfl rfl ?_
        refine a_get S kc_Kc 7 (by decide) lf_Kc_43 h0 rfl d_Kc_countBefore_19 ?_
        refine a_iload_n S d_Kc_countBefore_22 rfl rfl ?_
        refine a_aald S (i := t) (q := b + 52 + 14 * t) rfl k2 rfl (by omega) (by decide) (k3 t (by omega)).2 d_Kc_countBefore_23 ?_
        refine a_callV S (rest := []) lg_Kc_166 kk_i.cell (c_Row_orderAgainst X.2.1 D (b + 52 + 14 * i) (b + 52 + 14 * t) (KK i) (KK t) w n kk_i kk_t) (by decide) (by omega) (by omega) rfl (Nat.le_of_ble_eq_true rfl) d_Kc_countBefore_24 (fun v1 w2 n3 p4 => ?_)
        obtain ⟨rfl, e5, e6⟩ := p4
        rw [e5, e6]
        refine a_st (st' := [.int (Int32.ofInt (cmpB (KK i) (KK t)))]) rfl ?_
        refine a_istore S d_Kc_countBefore_27 (Nat.le_of_ble_eq_true rfl) (lv' := [(0, .ref b), (1, .int (nI t)), (2, .int (nI (cntB (bef KK t) i))), (3, .int (nI i)), (4, .int (Int32.ofInt (cmpB (KK i) (KK t))))]) rfl ?_
        refine a_iload S d_Kc_countBefore_29 rfl ?_
        refine a_if_lt S (tgt := 44) d_Kc_countBefore_31 rfl (fun h31 => ?_) (fun h31 => ?_)
        · refine a_iinc S (v := nI (cntB (bef KK t) i + 1)) d_Kc_countBefore_44 rfl (ni_add rfl (by decide)) (Nat.le_of_ble_eq_true rfl) (lv' := [(0, .ref b), (1, .int (nI t)), (2, .int (nI (cntB (bef KK t) i + 1))), (3, .int (nI i)), (4, .int (Int32.ofInt (cmpB (KK i) (KK t))))]) rfl ?_
          refine a_iinc S (v := nI (i + 1)) d_Kc_countBefore_47 rfl (ni_add rfl (by decide)) (Nat.le_of_ble_eq_true rfl) (lv' := [(0, .ref b), (1, .int (nI t)), (2, .int (nI (cntB (bef KK t) i + 1))), (3, .int (nI (i + 1))), (4, .int (Int32.ofInt (cmpB (KK i) (KK t))))]) rfl ?_
          refine a_goto S (tgt := 4) d_Kc_countBefore_50 rfl ?_
          refine a_lv [0, 1, 2, 3] (lv' := [(0, .ref b), (1, .int (nI t)), (2, .int (nI (cntB (bef KK t) i + 1))), (3, .int (nI (i + 1)))]) rfl ?_
          refine a_lve (lv' := [(0, .ref b), (1, .int (nI t)), (2, .int (nI (cntB (bef KK t) (i + 1)))), (3, .int (nI (i + 1)))]) (by rw [cntB_1 (bef_1 h31)]) ?_
          exact ih4 _ (by omega) (i + 1) rfl (by omega)
        · refine a_iload S d_Kc_countBefore_34 rfl ?_
          refine a_if_ne S (tgt := 47) d_Kc_countBefore_36 rfl (fun h36 => ?_) (fun h36 => ?_)
          · refine a_iinc S (v := nI (i + 1)) d_Kc_countBefore_47 rfl (ni_add rfl (by decide)) (Nat.le_of_ble_eq_true rfl) (lv' := [(0, .ref b), (1, .int (nI t)), (2, .int (nI (cntB (bef KK t) i))), (3, .int (nI (i + 1))), (4, .int (Int32.ofInt (cmpB (KK i) (KK t))))]) rfl ?_
            refine a_goto S (tgt := 4) d_Kc_countBefore_50 rfl ?_
            refine a_lv [0, 1, 2, 3] (lv' := [(0, .ref b), (1, .int (nI t)), (2, .int (nI (cntB (bef KK t) i))), (3, .int (nI (i + 1)))]) rfl ?_
            refine a_lve (lv' := [(0, .ref b), (1, .int (nI t)), (2, .int (nI (cntB (bef KK t) (i + 1)))), (3, .int (nI (i + 1)))]) (by rw [cntB_0 (bef_3 h31 h36)]) ?_
            exact ih4 _ (by omega) (i + 1) rfl (by omega)
          · refine a_iload_n S d_Kc_countBefore_39 rfl rfl ?_
            refine a_iload_n S d_Kc_countBefore_40 rfl rfl ?_
            refine a_icmp_ge S (tgt := 47) d_Kc_countBefore_41 rfl (fun h41 => ?_) (fun h41 => ?_)
            · refine a_iinc S (v := nI (i + 1)) d_Kc_countBefore_47 rfl (ni_add rfl (by decide)) (Nat.le_of_ble_eq_true rfl) (lv' := [(0, .ref b), (1, .int (nI t)), (2, .int (nI (cntB (bef KK t) i))), (3, .int (nI (i + 1))), (4, .int (Int32.ofInt (cmpB (KK i) (KK t))))]) rfl ?_
              refine a_goto S (tgt := 4) d_Kc_countBefore_50 rfl ?_
              refine a_lv [0, 1, 2, 3] (lv' := [(0, .ref b), (1, .int (nI t)), (2, .int (nI (cntB (bef KK t) i))), (3, .int (nI (i + 1)))]) rfl ?_
              refine a_lve (lv' := [(0, .ref b), (1, .int (nI t)), (2, .int (nI (cntB (bef KK t) (i + 1)))), (3, .int (nI (i + 1)))]) (by rw [cntB_0 (bef_4 h31 (Nat.not_lt.mpr ((nI_leI (by omega) (by omega)).mp h41)))]) ?_
              exact ih4 _ (by omega) (i + 1) rfl (by omega)
            · refine a_iinc S (v := nI (cntB (bef KK t) i + 1)) d_Kc_countBefore_44 rfl (ni_add rfl (by decide)) (Nat.le_of_ble_eq_true rfl) (lv' := [(0, .ref b), (1, .int (nI t)), (2, .int (nI (cntB (bef KK t) i + 1))), (3, .int (nI i)), (4, .int (Int32.ofInt (cmpB (KK i) (KK t))))]) rfl ?_
              refine a_iinc S (v := nI (i + 1)) d_Kc_countBefore_47 rfl (ni_add rfl (by decide)) (Nat.le_of_ble_eq_true rfl) (lv' := [(0, .ref b), (1, .int (nI t)), (2, .int (nI (cntB (bef KK t) i + 1))), (3, .int (nI (i + 1))), (4, .int (Int32.ofInt (cmpB (KK i) (KK t))))]) rfl ?_
              refine a_goto S (tgt := 4) d_Kc_countBefore_50 rfl ?_
              refine a_lv [0, 1, 2, 3] (lv' := [(0, .ref b), (1, .int (nI t)), (2, .int (nI (cntB (bef KK t) i + 1))), (3, .int (nI (i + 1)))]) rfl ?_
              refine a_lve (lv' := [(0, .ref b), (1, .int (nI t)), (2, .int (nI (cntB (bef KK t) (i + 1)))), (3, .int (nI (i + 1)))]) (by rw [cntB_1 (bef_2 h36 (Nat.not_le.mp fun z => h41 ((nI_leI (by omega) (by omega)).mpr z)))]) ?_
              exact ih4 _ (by omega) (i + 1) rfl (by omega)
  exact loop4 _ 0 rfl (Nat.zero_le _)
set_option maxHeartbeats 400000 in
set_option maxRecDepth 100000 in
theorem c_Kc_withRank (l : Launch) (D : kD) (b m : Nat) (KT : Nat → Nat → kV) (KK : Nat → List Nat) (he : Bool) (r : Nat) (w : ww) (n : Nat) (hm : m ≤ 12) (hr : r < m) (h0 : Cc w b m he) (hK : Kept D w b KT KK) : AM l D M_Kc_withRank 4 0 0 [.ref b, .int (nI r)] w n (fun v w' n' => ∃ t, t < m ∧ rankB KK m t = r ∧ v = some (.int (nI t)) ∧ w' = w ∧ n' = n) := by
  refine AM.ofi (by decide +kernel) rfl (Nat.le_of_ble_eq_true rfl) (fun X A Q hin S RT => ?_)
  have S : FX X (D, A, 3, Q) prog_1_method_28_code "KeyCodec" 4 0 0 := S
  have RT : RTi X (D, A, 3, Q) prog_1_method_28_code 0 0 _ := RT
  refine a_lve (lv' := [(0, .ref b), (1, .int (nI r))]) rfl ?_
  refine a_iconst S (v := 0) d_Kc_withRank_0 (by decide) ?_
  refine a_istore_n S d_Kc_withRank_1 rfl (Nat.le_of_ble_eq_true rfl) (lv' := [(0, .ref b), (1, .int (nI r)), (2, .int 0)]) rfl ?_
  have loop2 : ∀ (kk2 : Nat) (i : Nat), m - i = kk2 → (i ≤ m) → (∀ t, t < i → ¬ rankB KK m t = r) → AW X (D, A, 3, Q) 2 [(0, .ref b), (1, .int (nI r)), (2, .int (nI i))] [] w n 0 0 := by
    intro kk2
    induction kk2 using Nat.strongRecOn with
    | ind kk2 ih2 =>
      intro i hk2 hi hn
      refine a_iload_n S d_Kc_withRank_2 rfl rfl ?_
      refine a_aload_n S d_Kc_withRank_3 rfl rfl ?_
      refine a_get S kc_Kc 8 (by decide) lf_Kc_47 h0 rfl d_Kc_withRank_4 ?_
      refine a_icmp_ge S (tgt := 27) d_Kc_withRank_7 rfl (fun h7 => ?_) (fun h7 => ?_)
      · have hi : i = m := Nat.le_antisymm hi ((nI_leI (by omega) (by omega)).mp h7)
        obtain ⟨t, g1, g2⟩ := rankB_onto (ks := KK) hr
        exact absurd g2 (hn t (by omega))
      · have hi : i < m := Nat.not_le.mp fun z => h7 ((nI_leI (by omega) (by omega)).mpr z)
        refine a_aload_n S d_Kc_withRank_10 rfl rfl ?_
        refine a_iload_n S d_Kc_withRank_11 rfl rfl ?_
        refine a_callV S (rest := []) lg_Kc_184 h0 (c_Kc_countBefore X.2.1 D b m KT KK he i w n hm hi h0 hK) (by decide) (by omega) (by omega) rfl (Nat.le_of_ble_eq_true rfl) d_Kc_withRank_12 (fun v1 w2 n3 p4 => ?_)
        obtain ⟨rfl, e5, e6⟩ := p4
        rw [e5, e6]
        refine a_st (st' := [.int (nI (rankB KK m i))]) rfl ?_
        refine a_iload_n S d_Kc_withRank_15 rfl rfl ?_
        refine a_icmp_ne S (tgt := 21) d_Kc_withRank_16 rfl (fun h16 => ?_) (fun h16 => ?_)
        · refine a_iinc S (v := nI (i + 1)) d_Kc_withRank_21 rfl (ni_add rfl (by decide)) (Nat.le_of_ble_eq_true rfl) (lv' := [(0, .ref b), (1, .int (nI r)), (2, .int (nI (i + 1)))]) rfl ?_
          refine a_goto S (tgt := 2) d_Kc_withRank_24 rfl ?_
          exact ih2 _ (by omega) (i + 1) rfl (by omega) (fun t ht => by
          by_cases e : t = i
          · subst e; exact fun z => h16 (by rw [z])
          · exact hn t (by omega))
        · refine a_iload_n S d_Kc_withRank_19 rfl rfl ?_
          exact RT _ _ _ _ _ _ _ d_Kc_withRank_20 (by omega) (by omega) ⟨i, hi, (nI_eq (by have := rankB_lt (ks := KK) hi; omega) (by omega)).mp h16, rfl, rfl, rfl⟩
  exact loop2 _ 0 rfl (Nat.zero_le _) (fun t h => absurd h (Nat.not_lt_zero t))
set_option maxHeartbeats 400000 in
set_option maxRecDepth 100000 in
theorem c_Kc_compare (l : Launch) (D : kD) (b c : Nat) (s : Bool) (K F : Nat → Nat) (L : Nat → kV) (kr : List Nat) (m : Nat) (KT : Nat → Nat → kV) (lo hi : List Nat) (he : Bool) (i x : Int32) (w : ww) (n : Nat) (h : Cod D w b c s K F L kr m KT lo hi he) : AM l D M_Kc_compare 6 0 0 [.ref b, .int i, .int x] w n (fun v w' n' => ((∃ t u, t < m ∧ u < m ∧ i = nI t ∧ x = nI u ∧ v = some (.int (Int32.ofInt (ordT K F (KT t) (KT u) c)))) ∨ ((∀ t u, t < m → u < m → i = nI t → x = nI u → False) ∧ v = some (.int (-2)))) ∧ n' = n ∧ Fr w w' b 208 ∧ Cod D w' b c s K F L kr m KT lo hi he) := by
  refine AM.ofi (by decide +kernel) rfl (Nat.le_of_ble_eq_true rfl) (fun X A Q hin S RT => ?_)
  have S : FX X (D, A, 3, Q) prog_1_method_17_code "KeyCodec" 6 0 0 := S
  have RT : RTi X (D, A, 3, Q) prog_1_method_17_code 0 0 _ := RT
  obtain ⟨Z, lf, rg, KK, h0, hs, hL, hZ, hkr, hlf, hrg, hK, hlo, hhi, hI⟩ := h
  have hm := hI.1
  have hc5 := hs.1
  refine a_lve (lv' := [(0, .ref b), (1, .int i), (2, .int x)]) rfl ?_
  have fr : Fr w w b 208 := Fr.refl _ _ _
  refine a_aload_n S d_Kc_compare_0 rfl rfl ?_
  refine a_iload_n S d_Kc_compare_1 rfl rfl ?_
  refine a_callV S (rest := []) lg_Kc_177 h0 (c_Kc_isKept X.2.1 D b m he i w n h0) (by decide) (by omega) (by omega) rfl (Nat.le_of_ble_eq_true rfl) d_Kc_compare_2 (fun v1 w2 n3 p4 => ?_)
  obtain ⟨rfl, e5, e6⟩ := p4
  rw [e5, e6]
  refine a_st (st' := [.int (if usB true m i then 1 else 0)]) rfl ?_
  refine a_if_eq S (tgt := 16) d_Kc_compare_5 rfl (fun h5 => ?_) (fun h5 => ?_)
  · have hx : ∀ t u, t < m → u < m → i = nI t → x = nI u → False := fun t u ht hu e e2 => usB_no (by omega) (bo_0 h5) ht rfl e
    refine a_bipush S (v := (-2)) d_Kc_compare_16 (by decide) ?_
    exact RT _ _ _ _ _ _ _ d_Kc_compare_18 (by omega) (by omega) ⟨Or.inr ⟨hx, rfl⟩, rfl, fr, ⟨_, _, _, _, h0, hs, hL, hZ, hkr, hlf, hrg, hK, hlo, hhi, hI⟩⟩
  · obtain ⟨hs_t, t, ht, rfl⟩ := usB_ix (by omega) (bo_1 h5)
    refine a_aload_n S d_Kc_compare_8 rfl rfl ?_
    refine a_iload_n S d_Kc_compare_9 rfl rfl ?_
    refine a_callV S (rest := []) lg_Kc_177 h0 (c_Kc_isKept X.2.1 D b m he x w n h0) (by decide) (by omega) (by omega) rfl (Nat.le_of_ble_eq_true rfl) d_Kc_compare_10 (fun v7 w8 n9 p10 => ?_)
    obtain ⟨rfl, e11, e12⟩ := p10
    rw [e11, e12]
    refine a_st (st' := [.int (if usB true m x then 1 else 0)]) rfl ?_
    refine a_if_ne S (tgt := 19) d_Kc_compare_13 rfl (fun h13 => ?_) (fun h13 => ?_)
    · obtain ⟨hs_u, u, hu, rfl⟩ := usB_ix (by omega) (bo_1 h13)
      have s1 := hs.cell
      refine a_aload_n S d_Kc_compare_19 rfl rfl ?_
      refine a_iload_n S d_Kc_compare_20 rfl rfl ?_
      refine a_aload_n S d_Kc_compare_21 rfl rfl ?_
      refine a_get S kc_Kc 0 (by decide) lf_Kc_12 h0 rfl d_Kc_compare_22 ?_
      refine a_get S kc_Schema 2 (by decide) lf_Kc_71 s1 rfl d_Kc_compare_25 ?_
      refine a_aload_n S d_Kc_compare_28 rfl rfl ?_
      refine a_get S kc_Kc 4 (by decide) lf_Kc_33 h0 rfl d_Kc_compare_29 ?_
      refine a_callV S (rest := []) lg_Kc_180 h0 (c_Kc_writeStart X.2.1 D b c s K F m KT KK he (b + 30) t c lf w n (by omega) (by omega) (Nat.le_refl _) (hI.2.2 t ht).2.1 h0 hs hK hlf) (by decide) (by omega) (by omega) rfl (Nat.le_of_ble_eq_true rfl) d_Kc_compare_32 (fun v13 w14 n15 p16 => ?_)
      obtain ⟨rfl, e18, f17, hlf⟩ := p16
      rw [e18]
      refine a_st (st' := []) rfl ?_
      have fr := fr.trans (Fr.sub f17 (by omega) (by omega))
      have h0 := Fr.cell f17 h0 (by omega)
      have s1 := Fr.cell f17 s1 (by omega)
      have hs := Sch.fr f17 hs (by omega)
      have hL := Tup.fr f17 hL (by omega)
      have hZ := Tup.fr f17 hZ (by omega)
      have hkr := Row.fr f17 hkr (by omega)
      have hrg := Row.fr f17 hrg (by omega)
      have hK := Kept.fr f17 hK (by omega)
      have hlo := Row.fr f17 hlo (by omega)
      have hhi := Row.fr f17 hhi (by omega)
      refine a_aload_n S d_Kc_compare_35 rfl rfl ?_
      refine a_iload_n S d_Kc_compare_36 rfl rfl ?_
      refine a_aload_n S d_Kc_compare_37 rfl rfl ?_
      refine a_get S kc_Kc 0 (by decide) lf_Kc_12 h0 rfl d_Kc_compare_38 ?_
      refine a_get S kc_Schema 2 (by decide) lf_Kc_71 s1 rfl d_Kc_compare_41 ?_
      refine a_aload_n S d_Kc_compare_44 rfl rfl ?_
      refine a_get S kc_Kc 5 (by decide) lf_Kc_36 h0 rfl d_Kc_compare_45 ?_
      refine a_callV S (rest := []) lg_Kc_180 h0 (c_Kc_writeStart X.2.1 D b c s K F m KT KK he (b + 32) u c rg w14 n (by omega) (by omega) (Nat.le_refl _) (hI.2.2 u hu).2.1 h0 hs hK hrg) (by decide) (by omega) (by omega) rfl (Nat.le_of_ble_eq_true rfl) d_Kc_compare_48 (fun v19 w20 n21 p22 => ?_)
      obtain ⟨rfl, e24, f23, hrg⟩ := p22
      rw [e24]
      refine a_st (st' := []) rfl ?_
      have fr := fr.trans (Fr.sub f23 (by omega) (by omega))
      have h0 := Fr.cell f23 h0 (by omega)
      have s1 := Fr.cell f23 s1 (by omega)
      have hs := Sch.fr f23 hs (by omega)
      have hL := Tup.fr f23 hL (by omega)
      have hZ := Tup.fr f23 hZ (by omega)
      have hkr := Row.fr f23 hkr (by omega)
      have hlf := Row.fr f23 hlf (by omega)
      have hK := Kept.fr f23 hK (by omega)
      have hlo := Row.fr f23 hlo (by omega)
      have hhi := Row.fr f23 hhi (by omega)
      refine a_aload_n S d_Kc_compare_51 rfl rfl ?_
      refine a_get S kc_Kc 4 (by decide) lf_Kc_33 h0 rfl d_Kc_compare_52 ?_
      refine a_aload_n S d_Kc_compare_55 rfl rfl ?_
      refine a_get S kc_Kc 5 (by decide) lf_Kc_36 h0 rfl d_Kc_compare_56 ?_
      refine a_callV S (rest := []) lg_Kc_166 hlf.cell (c_Row_orderAgainst X.2.1 D (b + 30) (b + 32) (fldB K F (KT t) c) (fldB K F (KT u) c) w20 n hlf hrg) (by decide) (by omega) (by omega) rfl (Nat.le_of_ble_eq_true rfl) d_Kc_compare_59 (fun v25 w26 n27 p28 => ?_)
      obtain ⟨rfl, e29, e30⟩ := p28
      rw [e29, e30]
      refine a_st (st' := [.int (Int32.ofInt (cmpB (fldB K F (KT t) c) (fldB K F (KT u) c)))]) rfl ?_
      exact RT _ _ _ _ _ _ _ d_Kc_compare_62 (by omega) (by omega) ⟨Or.inl ⟨t, u, ht, hu, rfl, rfl, (by rw [fldB_cmp (hI.2.2 t ht).2.1 (hI.2.2 u hu).2.1])⟩, rfl, fr, ⟨_, _, _, _, h0, hs, hL, hZ, hkr, hlf, hrg, hK, hlo, hhi, hI⟩⟩
    · have hx : ∀ t2 u, t2 < m → u < m → nI t = nI t2 → x = nI u → False := fun t2 u ht2 hu e e2 => usB_no (by omega) (bo_0 h13) hu rfl e2
      refine a_bipush S (v := (-2)) d_Kc_compare_16 (by decide) ?_
      exact RT _ _ _ _ _ _ _ d_Kc_compare_18 (by omega) (by omega) ⟨Or.inr ⟨hx, rfl⟩, rfl, fr, ⟨_, _, _, _, h0, hs, hL, hZ, hkr, hlf, hrg, hK, hlo, hhi, hI⟩⟩
set_option maxHeartbeats 400000 in
set_option maxRecDepth 100000 in
theorem c_Kc_compareKeys (l : Launch) (D : kD) (b c : Nat) (s : Bool) (K F : Nat → Nat) (L : Nat → kV) (kr : List Nat) (m : Nat) (KT : Nat → Nat → kV) (lo hi : List Nat) (he : Bool) (i x : Int32) (w : ww) (n : Nat) (h : Cod D w b c s K F L kr m KT lo hi he) : AM l D M_Kc_compareKeys 3 0 0 [.ref b, .int i, .int x] w n (fun v w' n' => ((∃ t u, t < m ∧ u < m ∧ i = nI t ∧ x = nI u ∧ v = some (.int (Int32.ofInt (cmpB (kyT K F KT c t) (kyT K F KT c u))))) ∨ ((∀ t u, t < m → u < m → i = nI t → x = nI u → False) ∧ v = some (.int (-2)))) ∧ w' = w ∧ n' = n) := by
  refine AM.ofi (by decide +kernel) rfl (Nat.le_of_ble_eq_true rfl) (fun X A Q hin S RT => ?_)
  have S : FX X (D, A, 3, Q) prog_1_method_18_code "KeyCodec" 3 0 0 := S
  have RT : RTi X (D, A, 3, Q) prog_1_method_18_code 0 0 _ := RT
  obtain ⟨Z, lf, rg, KK, h0, hs, hL, hZ, hkr, hlf, hrg, hK, hlo, hhi, hI⟩ := h
  have hm := hI.1
  have hc5 := hs.1
  refine a_lve (lv' := [(0, .ref b), (1, .int i), (2, .int x)]) rfl ?_
  have fr : Fr w w b 208 := Fr.refl _ _ _
  refine a_aload_n S d_Kc_compareKeys_0 rfl rfl ?_
  refine a_iload_n S d_Kc_compareKeys_1 rfl rfl ?_
  refine a_callV S (rest := []) lg_Kc_177 h0 (c_Kc_isKept X.2.1 D b m he i w n h0) (by decide) (by omega) (by omega) rfl (Nat.le_of_ble_eq_true rfl) d_Kc_compareKeys_2 (fun v1 w2 n3 p4 => ?_)
  obtain ⟨rfl, e5, e6⟩ := p4
  rw [e5, e6]
  refine a_st (st' := [.int (if usB true m i then 1 else 0)]) rfl ?_
  refine a_if_eq S (tgt := 16) d_Kc_compareKeys_5 rfl (fun h5 => ?_) (fun h5 => ?_)
  · have hx : ∀ t u, t < m → u < m → i = nI t → x = nI u → False := fun t u ht hu e e2 => usB_no (by omega) (bo_0 h5) ht rfl e
    refine a_bipush S (v := (-2)) d_Kc_compareKeys_16 (by decide) ?_
    exact RT _ _ _ _ _ _ _ d_Kc_compareKeys_18 (by omega) (by omega) ⟨Or.inr ⟨hx, rfl⟩, rfl, rfl⟩
  · obtain ⟨hs_t, t, ht, rfl⟩ := usB_ix (by omega) (bo_1 h5)
    refine a_aload_n S d_Kc_compareKeys_8 rfl rfl ?_
    refine a_iload_n S d_Kc_compareKeys_9 rfl rfl ?_
    refine a_callV S (rest := []) lg_Kc_177 h0 (c_Kc_isKept X.2.1 D b m he x w n h0) (by decide) (by omega) (by omega) rfl (Nat.le_of_ble_eq_true rfl) d_Kc_compareKeys_10 (fun v7 w8 n9 p10 => ?_)
    obtain ⟨rfl, e11, e12⟩ := p10
    rw [e11, e12]
    refine a_st (st' := [.int (if usB true m x then 1 else 0)]) rfl ?_
    refine a_if_ne S (tgt := 19) d_Kc_compareKeys_13 rfl (fun h13 => ?_) (fun h13 => ?_)
    · obtain ⟨hs_u, u, hu, rfl⟩ := usB_ix (by omega) (bo_1 h13)
      obtain ⟨⟨kf, kg, k1, k2, k3⟩, k4⟩ := hK
      have hK : Kept D w b KT KK := ⟨⟨kf, kg, k1, k2, k3⟩, k4⟩
      obtain ⟨kt_t, kk_t⟩ := k4 t (by omega)
      obtain ⟨kt_u, kk_u⟩ := k4 u (by omega)
      refine a_aload_n S d_Kc_compareKeys_19 rfl rfl ?_
      refine a_get S kc_Kc 7 (by decide) lf_Kc_43 h0 rfl d_Kc_compareKeys_20 ?_
      refine a_iload_n S d_Kc_compareKeys_23 rfl rfl ?_
      refine a_aald S (i := t) (q := b + 52 + 14 * t) rfl k2 rfl (by omega) (by decide) (k3 t (by omega)).2 d_Kc_compareKeys_24 ?_
      refine a_aload_n S d_Kc_compareKeys_25 rfl rfl ?_
      refine a_get S kc_Kc 7 (by decide) lf_Kc_43 h0 rfl d_Kc_compareKeys_26 ?_
      refine a_iload_n S d_Kc_compareKeys_29 rfl rfl ?_
      refine a_aald S (i := u) (q := b + 52 + 14 * u) rfl k2 rfl (by omega) (by decide) (k3 u (by omega)).2 d_Kc_compareKeys_30 ?_
      refine a_callV S (rest := []) lg_Kc_166 kk_t.cell (c_Row_orderAgainst X.2.1 D (b + 52 + 14 * t) (b + 52 + 14 * u) (KK t) (KK u) w n kk_t kk_u) (by decide) (by omega) (by omega) rfl (Nat.le_of_ble_eq_true rfl) d_Kc_compareKeys_31 (fun v13 w14 n15 p16 => ?_)
      obtain ⟨rfl, e17, e18⟩ := p16
      rw [e17, e18]
      refine a_st (st' := [.int (Int32.ofInt (cmpB (KK t) (KK u)))]) rfl ?_
      exact RT _ _ _ _ _ _ _ d_Kc_compareKeys_34 (by omega) (by omega) ⟨Or.inl ⟨t, u, ht, hu, rfl, rfl, (by rw [hI.ky t ht, hI.ky u hu])⟩, rfl, rfl⟩
    · have hx : ∀ t2 u, t2 < m → u < m → nI t = nI t2 → x = nI u → False := fun t2 u ht2 hu e e2 => usB_no (by omega) (bo_0 h13) hu rfl e2
      refine a_bipush S (v := (-2)) d_Kc_compareKeys_16 (by decide) ?_
      exact RT _ _ _ _ _ _ _ d_Kc_compareKeys_18 (by omega) (by omega) ⟨Or.inr ⟨hx, rfl⟩, rfl, rfl⟩
set_option maxHeartbeats 400000 in
set_option maxRecDepth 100000 in
theorem c_Kc_rank (l : Launch) (D : kD) (b c : Nat) (s : Bool) (K F : Nat → Nat) (L : Nat → kV) (kr : List Nat) (m : Nat) (KT : Nat → Nat → kV) (lo hi : List Nat) (he : Bool) (i : Int32) (w : ww) (n : Nat) (h : Cod D w b c s K F L kr m KT lo hi he) : AM l D M_Kc_rank 4 0 0 [.ref b, .int i] w n (fun v w' n' => ((∃ t, t < m ∧ i = nI t ∧ v = some (.int (nI (rankB (kyT K F KT c) m t)))) ∨ ((∀ t, t < m → i = nI t → False) ∧ v = some (.int (-1)))) ∧ w' = w ∧ n' = n) := by
  refine AM.ofi (by decide +kernel) rfl (Nat.le_of_ble_eq_true rfl) (fun X A Q hin S RT => ?_)
  have S : FX X (D, A, 2, Q) prog_1_method_19_code "KeyCodec" 4 0 0 := S
  have RT : RTi X (D, A, 2, Q) prog_1_method_19_code 0 0 _ := RT
  obtain ⟨Z, lf, rg, KK, h0, hs, hL, hZ, hkr, hlf, hrg, hK, hlo, hhi, hI⟩ := h
  have hm := hI.1
  have hc5 := hs.1
  refine a_lve (lv' := [(0, .ref b), (1, .int i)]) rfl ?_
  have fr : Fr w w b 208 := Fr.refl _ _ _
  refine a_aload_n S d_Kc_rank_0 rfl rfl ?_
  refine a_iload_n S d_Kc_rank_1 rfl rfl ?_
  refine a_callV S (rest := []) lg_Kc_177 h0 (c_Kc_isKept X.2.1 D b m he i w n h0) (by decide) (by omega) (by omega) rfl (Nat.le_of_ble_eq_true rfl) d_Kc_rank_2 (fun v1 w2 n3 p4 => ?_)
  obtain ⟨rfl, e5, e6⟩ := p4
  rw [e5, e6]
  refine a_st (st' := [.int (if usB true m i then 1 else 0)]) rfl ?_
  refine a_if_eq S (tgt := 16) d_Kc_rank_5 rfl (fun h5 => ?_) (fun h5 => ?_)
  · have hx : ∀ t, t < m → i = nI t → False := fun t ht e => usB_no (by omega) (bo_0 h5) ht rfl e
    refine a_iconst S (v := (-1)) d_Kc_rank_16 (by decide) ?_
    exact RT _ _ _ _ _ _ _ d_Kc_rank_17 (by omega) (by omega) ⟨Or.inr ⟨hx, rfl⟩, rfl, rfl⟩
  · obtain ⟨hs_t, t, ht, rfl⟩ := usB_ix (by omega) (bo_1 h5)
    refine a_aload_n S d_Kc_rank_8 rfl rfl ?_
    refine a_iload_n S d_Kc_rank_9 rfl rfl ?_
    refine a_callV S (rest := []) lg_Kc_184 h0 (c_Kc_countBefore X.2.1 D b m KT KK he t w n hm ht h0 hK) (by decide) (by omega) (by omega) rfl (Nat.le_of_ble_eq_true rfl) d_Kc_rank_10 (fun v7 w8 n9 p10 => ?_)
    obtain ⟨rfl, e11, e12⟩ := p10
    rw [e11, e12]
    refine a_st (st' := [.int (nI (rankB KK m t))]) rfl ?_
    refine a_goto S (tgt := 17) d_Kc_rank_13 rfl ?_
    exact RT _ _ _ _ _ _ _ d_Kc_rank_17 (by omega) (by omega) ⟨Or.inl ⟨t, ht, rfl, (by rw [hI.rk ht])⟩, rfl, rfl⟩
set_option maxHeartbeats 400000 in
set_option maxRecDepth 100000 in
theorem c_Kc_shared (l : Launch) (D : kD) (b c : Nat) (s : Bool) (K F : Nat → Nat) (L : Nat → kV) (kr : List Nat) (m : Nat) (KT : Nat → Nat → kV) (lo hi : List Nat) (he : Bool) (i : Int32) (w : ww) (n : Nat) (h : Cod D w b c s K F L kr m KT lo hi he) : AM l D M_Kc_shared 5 0 0 [.ref b, .int i] w n (fun v w' n' => ((∃ q, q < m ∧ i = nI q ∧ ((q = 0 ∧ v = some (.int 0)) ∨ ∃ t u, 0 < q ∧ t < m ∧ u < m ∧ rankB (kyT K F KT c) m t = q ∧ rankB (kyT K F KT c) m u = q - 1 ∧ v = some (.int (nI (shrB (kyT K F KT c t) (kyT K F KT c u)))))) ∨ ((∀ t, t < m → i = nI t → False) ∧ v = some (.int (-1)))) ∧ w' = w ∧ n' = n) := by
  refine AM.ofi (by decide +kernel) rfl (Nat.le_of_ble_eq_true rfl) (fun X A Q hin S RT => ?_)
  have S : FX X (D, A, 2, Q) prog_1_method_20_code "KeyCodec" 5 0 0 := S
  have RT : RTi X (D, A, 2, Q) prog_1_method_20_code 0 0 _ := RT
  obtain ⟨Z, lf, rg, KK, h0, hs, hL, hZ, hkr, hlf, hrg, hK, hlo, hhi, hI⟩ := h
  have hm := hI.1
  have hc5 := hs.1
  refine a_lve (lv' := [(0, .ref b), (1, .int i)]) rfl ?_
  have fr : Fr w w b 208 := Fr.refl _ _ _
  refine a_iload_n S d_Kc_shared_0 rfl rfl ?_
  refine a_if_lt S (tgt := 12) d_Kc_shared_1 rfl (fun h1 => ?_) (fun h1 => ?_)
  · have hx : ∀ t, t < m → i = nI t → False := fun t ht e => by subst e; exact nI_pos (by omega) h1
    refine a_iconst S (v := (-1)) d_Kc_shared_12 (by decide) ?_
    exact RT _ _ _ _ _ _ _ d_Kc_shared_13 (by omega) (by omega) ⟨Or.inr ⟨hx, rfl⟩, rfl, rfl⟩
  · refine a_iload_n S d_Kc_shared_4 rfl rfl ?_
    refine a_aload_n S d_Kc_shared_5 rfl rfl ?_
    refine a_get S kc_Kc 8 (by decide) lf_Kc_47 h0 rfl d_Kc_shared_6 ?_
    refine a_icmp_lt S (tgt := 14) d_Kc_shared_9 rfl (fun h9 => ?_) (fun h9 => ?_)
    · obtain ⟨q, hq, rfl⟩ := row_ix h1 (k2_nle h9) (by omega)
      refine a_iload_n S d_Kc_shared_14 rfl rfl ?_
      refine a_if_ne S (tgt := 20) d_Kc_shared_15 rfl (fun h15 => ?_) (fun h15 => ?_)
      · have hq0 : 0 < q := Nat.pos_of_ne_zero fun z => h15 (by rw [z]; rfl)
        obtain ⟨⟨kf, kg, k1, k2, k3⟩, k4⟩ := hK
        have hK : Kept D w b KT KK := ⟨⟨kf, kg, k1, k2, k3⟩, k4⟩
        refine a_aload_n S d_Kc_shared_20 rfl rfl ?_
        refine a_get S kc_Kc 7 (by decide) lf_Kc_43 h0 rfl d_Kc_shared_21 ?_
        refine a_aload_n S d_Kc_shared_24 rfl rfl ?_
        refine a_iload_n S d_Kc_shared_25 rfl rfl ?_
        refine a_callV S (rest := [_]) lg_Kc_187 h0 (c_Kc_withRank X.2.1 D b m KT KK he q w n hm (by omega) h0 hK) (by decide) (by omega) (by omega) rfl (Nat.le_of_ble_eq_true rfl) d_Kc_shared_26 (fun v1 w2 n3 p4 => ?_)
        obtain ⟨t, ht, hrt, rfl, e5, e6⟩ := p4
        rw [e5, e6]
        have kk_t := (k4 t (by omega)).2
        refine a_st (st' := [.int (nI t), .ref (b + 35)]) rfl ?_
        refine a_aald S (i := t) (q := b + 52 + 14 * t) rfl k2 rfl (by omega) (by decide) (k3 t (by omega)).2 d_Kc_shared_29 ?_
        refine a_aload_n S d_Kc_shared_30 rfl rfl ?_
        refine a_get S kc_Kc 7 (by decide) lf_Kc_43 h0 rfl d_Kc_shared_31 ?_
        refine a_aload_n S d_Kc_shared_34 rfl rfl ?_
        refine a_iload_n S d_Kc_shared_35 rfl rfl ?_
        refine a_iconst S (v := 1) d_Kc_shared_36 (by decide) ?_
        refine a_isub S d_Kc_shared_37 ?_
        refine a_eqi (y := nI (q - 1)) (ni_sub rfl rfl (show 1 ≤ q from hq0)) ?_
        refine a_callV S (rest := [_, _]) lg_Kc_187 h0 (c_Kc_withRank X.2.1 D b m KT KK he (q - 1) w n hm (by omega) h0 hK) (by decide) (by omega) (by omega) rfl (Nat.le_of_ble_eq_true rfl) d_Kc_shared_38 (fun v7 w8 n9 p10 => ?_)
        obtain ⟨u, hu, hru, rfl, e11, e12⟩ := p10
        rw [e11, e12]
        have kk_u := (k4 u (by omega)).2
        refine a_st (st' := [.int (nI u), .ref (b + 35), .ref (b + 52 + 14 * t)]) rfl ?_
        refine a_aald S (i := u) (q := b + 52 + 14 * u) rfl k2 rfl (by omega) (by decide) (k3 u (by omega)).2 d_Kc_shared_41 ?_
        refine a_callV S (rest := []) lg_Kc_190 kk_t.cell (c_Row_sharedWith X.2.1 D (b + 52 + 14 * t) (b + 52 + 14 * u) (KK t) (KK u) w n kk_t kk_u) (by decide) (by omega) (by omega) rfl (Nat.le_of_ble_eq_true rfl) d_Kc_shared_42 (fun v13 w14 n15 p16 => ?_)
        obtain ⟨rfl, e17, e18⟩ := p16
        rw [e17, e18]
        refine a_st (st' := [.int (nI (shrB (KK t) (KK u)))]) rfl ?_
        exact RT _ _ _ _ _ _ _ d_Kc_shared_45 (by omega) (by omega) ⟨Or.inl ⟨q, hq, rfl, Or.inr ⟨t, u, hq0, ht, hu, (by rw [← hI.rk ht]; exact hrt), (by rw [← hI.rk hu]; exact hru), (by rw [hI.ky t ht, hI.ky u hu])⟩⟩, rfl, rfl⟩
      · have hq0 : q = 0 := (nI_eq (by omega) (by decide)).mp h15
        refine a_iconst S (v := 0) d_Kc_shared_18 (by decide) ?_
        exact RT _ _ _ _ _ _ _ d_Kc_shared_19 (by omega) (by omega) ⟨Or.inl ⟨q, hq, rfl, Or.inl ⟨hq0, rfl⟩⟩, rfl, rfl⟩
    · have hx : ∀ t, t < m → i = nI t → False := fun t ht e => by subst e; exact h9 ((nI_ltI (by omega) (by omega)).mpr ht)
      refine a_iconst S (v := (-1)) d_Kc_shared_12 (by decide) ?_
      exact RT _ _ _ _ _ _ _ d_Kc_shared_13 (by omega) (by omega) ⟨Or.inr ⟨hx, rfl⟩, rfl, rfl⟩
set_option maxHeartbeats 400000 in
set_option maxRecDepth 100000 in
theorem c_Kc_bounds (l : Launch) (D : kD) (b c : Nat) (s : Bool) (K F : Nat → Nat) (L : Nat → kV) (kr : List Nat) (m : Nat) (KT : Nat → Nat → kV) (lo hi : List Nat) (he : Bool) (i x : Int32) (w : ww) (n : Nat) (h : Cod D w b c s K F L kr m KT lo hi he) : AM l D M_Kc_bounds 6 0 0 [.ref b, .int i, .int x] w n (fun v w' n' => (∃ t q, t < m ∧ q ≤ c ∧ i = nI t ∧ x = nI q ∧ v = some (.int 1) ∧ n' = n ∧ Fr w w' b 208 ∧ Cod D w' b c s K F L kr m KT (fldB K F (KT t) q) ((endI (fldB K F (KT t) q) (fldB K F (KT t) q).length).getD []) (endI (fldB K F (KT t) q) (fldB K F (KT t) q).length).isSome) ∨ ((∀ t q, t < m → q ≤ c → i = nI t → x = nI q → False) ∧ v = some (.int 0) ∧ w' = w ∧ n' = n)) := by
  refine AM.ofz (by decide +kernel) rfl (Nat.le_of_ble_eq_true rfl) (fun X A Q hin S RT => ?_)
  have S : FX X (D, A, 3, Q) prog_1_method_21_code "KeyCodec" 6 0 0 := S
  have RT : RTz X (D, A, 3, Q) prog_1_method_21_code 0 0 _ := RT
  obtain ⟨Z, lf, rg, KK, h0, hs, hL, hZ, hkr, hlf, hrg, hK, hlo, hhi, hI⟩ := h
  have hm := hI.1
  have hc5 := hs.1
  refine a_lve (lv' := [(0, .ref b), (1, .int i), (2, .int x)]) rfl ?_
  have fr : Fr w w b 208 := Fr.refl _ _ _
  refine a_aload_n S d_Kc_bounds_0 rfl rfl ?_
  refine a_iload_n S d_Kc_bounds_1 rfl rfl ?_
  refine a_callV S (rest := []) lg_Kc_177 h0 (c_Kc_isKept X.2.1 D b m he i w n h0) (by decide) (by omega) (by omega) rfl (Nat.le_of_ble_eq_true rfl) d_Kc_bounds_2 (fun v1 w2 n3 p4 => ?_)
  obtain ⟨rfl, e5, e6⟩ := p4
  rw [e5, e6]
  refine a_st (st' := [.int (if usB true m i then 1 else 0)]) rfl ?_
  refine a_if_eq S (tgt := 23) d_Kc_bounds_5 rfl (fun h5 => ?_) (fun h5 => ?_)
  · have hx : ∀ t q, t < m → q ≤ c → i = nI t → x = nI q → False := fun t q ht _ e _ => usB_no (by omega) (bo_0 h5) ht rfl e
    refine a_iconst S (v := 0) d_Kc_bounds_23 (by decide) ?_
    exact RT _ _ _ _ _ _ _ d_Kc_bounds_24 rfl (by omega) (by omega) (Or.inr ⟨hx, rfl, rfl, rfl⟩)
  · obtain ⟨hs_t, t, ht, rfl⟩ := usB_ix (by omega) (bo_1 h5)
    refine a_iload_n S d_Kc_bounds_8 rfl rfl ?_
    refine a_if_lt S (tgt := 23) d_Kc_bounds_9 rfl (fun h9 => ?_) (fun h9 => ?_)
    · have hx : ∀ t2 q, t2 < m → q ≤ c → nI t = nI t2 → x = nI q → False := fun t2 q _ hq _ e => by subst e; exact nI_pos (by omega) h9
      refine a_iconst S (v := 0) d_Kc_bounds_23 (by decide) ?_
      exact RT _ _ _ _ _ _ _ d_Kc_bounds_24 rfl (by omega) (by omega) (Or.inr ⟨hx, rfl, rfl, rfl⟩)
    · refine a_iload_n S d_Kc_bounds_12 rfl rfl ?_
      have s1 := hs.cell
      refine a_aload_n S d_Kc_bounds_13 rfl rfl ?_
      refine a_get S kc_Kc 0 (by decide) lf_Kc_12 h0 rfl d_Kc_bounds_14 ?_
      refine a_get S kc_Schema 2 (by decide) lf_Kc_71 s1 rfl d_Kc_bounds_17 ?_
      refine a_icmp_le S (tgt := 25) d_Kc_bounds_20 rfl (fun h20 => ?_) (fun h20 => ?_)
      · obtain ⟨q, hq, rfl⟩ := row_ix (n := c + 1) h9 (nle_s h20 (by omega)) (by omega)
        refine a_aload_n S d_Kc_bounds_25 rfl rfl ?_
        refine a_iload_n S d_Kc_bounds_26 rfl rfl ?_
        refine a_iload_n S d_Kc_bounds_27 rfl rfl ?_
        refine a_aload_n S d_Kc_bounds_28 rfl rfl ?_
        refine a_get S kc_Kc 9 (by decide) lf_Kc_51 h0 rfl d_Kc_bounds_29 ?_
        refine a_callV S (rest := []) lg_Kc_180 h0 (c_Kc_writeStart X.2.1 D b c s K F m KT KK he (b + 36) t q lo w n (by omega) (by omega) (by omega) (hI.2.2 t ht).2.1 h0 hs hK hlo) (by decide) (by omega) (by omega) rfl (Nat.le_of_ble_eq_true rfl) d_Kc_bounds_32 (fun v7 w8 n9 p10 => ?_)
        obtain ⟨rfl, e12, f11, hlo⟩ := p10
        rw [e12]
        refine a_st (st' := []) rfl ?_
        have fr := fr.trans (Fr.sub f11 (by omega) (by omega))
        have h0 := Fr.cell f11 h0 (by omega)
        have s1 := Fr.cell f11 s1 (by omega)
        have hs := Sch.fr f11 hs (by omega)
        have hL := Tup.fr f11 hL (by omega)
        have hZ := Tup.fr f11 hZ (by omega)
        have hkr := Row.fr f11 hkr (by omega)
        have hlf := Row.fr f11 hlf (by omega)
        have hrg := Row.fr f11 hrg (by omega)
        have hK := Kept.fr f11 hK (by omega)
        have hhi := Row.fr f11 hhi (by omega)
        refine a_aload_n S d_Kc_bounds_35 rfl rfl ?_
        refine a_aload_n S d_Kc_bounds_36 rfl rfl ?_
        refine a_get S kc_Kc 10 (by decide) lf_Kc_54 h0 rfl d_Kc_bounds_37 ?_
        refine a_aload_n S d_Kc_bounds_40 rfl rfl ?_
        refine a_get S kc_Kc 9 (by decide) lf_Kc_51 h0 rfl d_Kc_bounds_41 ?_
        refine a_callV S (rest := [_]) lg_Kc_193 hhi.cell (c_Row_becomeEndOf X.2.1 D (b + 38) (b + 36) (fldB K F (KT t) q) hi w8 n (by omega) hhi hlo) (by decide) (by omega) (by omega) rfl (Nat.le_of_ble_eq_true rfl) d_Kc_bounds_44 (fun v13 w14 n15 p16 => ?_)
        obtain ⟨rfl, e18, f17, hhi⟩ := p16
        rw [e18]
        refine a_st (st' := [.int (if (endI (fldB K F (KT t) q) (fldB K F (KT t) q).length).isSome then 1 else 0), .ref b]) rfl ?_
        have fr := fr.trans (Fr.sub f17 (by omega) (by omega))
        have h0 := Fr.cell f17 h0 (by omega)
        have s1 := Fr.cell f17 s1 (by omega)
        have hs := Sch.fr f17 hs (by omega)
        have hL := Tup.fr f17 hL (by omega)
        have hZ := Tup.fr f17 hZ (by omega)
        have hkr := Row.fr f17 hkr (by omega)
        have hlf := Row.fr f17 hlf (by omega)
        have hrg := Row.fr f17 hrg (by omega)
        have hK := Kept.fr f17 hK (by omega)
        have hlo := Row.fr f17 hlo (by omega)
        refine a_put S kc_Kc kt_Kc 11 (by decide) lf_Kc_57 rfl h0 (bo_nar _) (bo_fit _) (Nat.le_of_ble_eq_true rfl) d_Kc_bounds_47 (fun w19 h0 e20 => ?_)
        have h0 : w19 b = some (.inr (0, [.ref (b + 1), .ref (b + 4), .ref (b + 16), .ref (b + 28), .ref (b + 30), .ref (b + 32), .ref (b + 34), .ref (b + 35), .int (nI m), .ref (b + 36), .ref (b + 38), .int (if (endI (fldB K F (KT t) q) (fldB K F (KT t) q).length).isSome then 1 else 0)])) := h0
        have fr := fr.trans (Fr.sub (Fr.of1 e20) (by omega) (by omega))
        have s1 := Fr.cell (Fr.of1 e20) s1 (by omega)
        have hs := Sch.fr (Fr.of1 e20) hs (by omega)
        have hL := Tup.fr (Fr.of1 e20) hL (by omega)
        have hZ := Tup.fr (Fr.of1 e20) hZ (by omega)
        have hkr := Row.fr (Fr.of1 e20) hkr (by omega)
        have hlf := Row.fr (Fr.of1 e20) hlf (by omega)
        have hrg := Row.fr (Fr.of1 e20) hrg (by omega)
        have hK := Kept.fr (Fr.of1 e20) hK (by omega)
        have hlo := Row.fr (Fr.of1 e20) hlo (by omega)
        have hhi := Row.fr (Fr.of1 e20) hhi (by omega)
        refine a_iconst S (v := 1) d_Kc_bounds_50 (by decide) ?_
        exact RT _ _ _ _ _ _ _ d_Kc_bounds_51 rfl (by omega) (by omega) (Or.inl ⟨t, q, ht, by omega, rfl, rfl, rfl, rfl, fr, _, _, _, _, h0, hs, hL, hZ, hkr, hlf, hrg, hK, hlo, hhi, hI⟩)
      · have hx : ∀ t2 q, t2 < m → q ≤ c → nI t = nI t2 → x = nI q → False := fun t2 q _ hq _ e => by subst e; exact h20 ((nI_leI (by omega) (by omega)).mpr hq)
        refine a_iconst S (v := 0) d_Kc_bounds_23 (by decide) ?_
        exact RT _ _ _ _ _ _ _ d_Kc_bounds_24 rfl (by omega) (by omega) (Or.inr ⟨hx, rfl, rfl, rfl⟩)
set_option maxHeartbeats 400000 in
set_option maxRecDepth 100000 in
theorem c_Kc_bound (l : Launch) (D : kD) (b c : Nat) (s : Bool) (K F : Nat → Nat) (L : Nat → kV) (kr : List Nat) (m : Nat) (KT : Nat → Nat → kV) (lo hi : List Nat) (he : Bool) (x j : Int32) (w : ww) (n : Nat) (h : Cod D w b c s K F L kr m KT lo hi he) : AM l D M_Kc_bound 1 0 0 [.ref b, .int x, .int j] w n (fun v w' n' => v = some (.int (bdV lo hi he x j)) ∧ w' = w ∧ n' = n) := by
  refine AM.ofi (by decide +kernel) rfl (Nat.le_of_ble_eq_true rfl) (fun X A Q hin S RT => ?_)
  have S : FX X (D, A, 4, Q) prog_1_method_23_code "KeyCodec" 1 0 0 := S
  have RT : RTi X (D, A, 4, Q) prog_1_method_23_code 0 0 _ := RT
  obtain ⟨Z, lf, rg, KK, h0, hs, hL, hZ, hkr, hlf, hrg, hK, hlo, hhi, hI⟩ := h
  have hm := hI.1
  have hc5 := hs.1
  refine a_lve (lv' := [(0, .ref b), (1, .int x), (2, .int j)]) rfl ?_
  have fr : Fr w w b 208 := Fr.refl _ _ _
  refine a_iload_n S d_Kc_bound_0 rfl rfl ?_
  refine a_if_eq S (tgt := 18) d_Kc_bound_1 rfl (fun hA => ?_) (fun hA => ?_)
  · refine a_iload_n S d_Kc_bound_18 rfl rfl ?_
    refine a_if_ne S (tgt := 29) d_Kc_bound_19 rfl (fun h19 => ?_) (fun h19 => ?_)
    · exact absurd hA h19
    · have hd : ∀ z, bdV lo hi he x z = (if z = -1 then nI lo.length else atB lo z) := fun z => by rw [bdV, if_pos h19]
      refine a_aload_n S d_Kc_bound_22 rfl rfl ?_
      refine a_get S kc_Kc 9 (by decide) lf_Kc_51 h0 rfl d_Kc_bound_23 ?_
      refine a_goto S (tgt := 33) d_Kc_bound_26 rfl ?_
      refine a_astore_n S d_Kc_bound_33 rfl (Nat.le_of_ble_eq_true rfl) (lv' := [(0, .ref b), (1, .int x), (2, .int j), (3, .ref (b + 36))]) rfl ?_
      refine a_iload_n S d_Kc_bound_34 rfl rfl ?_
      refine a_iconst S (v := (-1)) d_Kc_bound_35 (by decide) ?_
      refine a_icmp_ne S (tgt := 46) d_Kc_bound_36 rfl (fun h36 => ?_) (fun h36 => ?_)
      · refine a_aload_n S d_Kc_bound_46 rfl rfl ?_
        refine a_iload_n S d_Kc_bound_47 rfl rfl ?_
        refine a_callV S (rest := []) lg_Kc_156 hlo.cell (c_Row_byteAt X.2.1 D (b + 36) lo j w n hlo) (by decide) (by omega) (by omega) rfl (Nat.le_of_ble_eq_true rfl) d_Kc_bound_48 (fun v1 w2 n3 p4 => ?_)
        obtain ⟨rfl, e5, e6⟩ := p4
        rw [e5, e6]
        refine a_st (st' := [.int (atB lo j)]) rfl ?_
        exact RT _ _ _ _ _ _ _ d_Kc_bound_51 (by omega) (by omega) ⟨by rw [hd, if_neg h36], rfl, rfl⟩
      · have rc1 := hlo.cell
        refine a_aload_n S d_Kc_bound_39 rfl rfl ?_
        refine a_get S kc_Row 1 (by decide) lf_Kc_148 rc1 rfl d_Kc_bound_40 ?_
        refine a_goto S (tgt := 51) d_Kc_bound_43 rfl ?_
        exact RT _ _ _ _ _ _ _ d_Kc_bound_51 (by omega) (by omega) ⟨by rw [hd, if_pos h36], rfl, rfl⟩
  · refine a_iload_n S d_Kc_bound_4 rfl rfl ?_
    refine a_iconst S (v := 1) d_Kc_bound_5 (by decide) ?_
    refine a_icmp_ne S (tgt := 16) d_Kc_bound_6 rfl (fun hB => ?_) (fun hB => ?_)
    · have hx : ∀ z, bdV lo hi he x z = -1 := fun z => by rw [bdV, if_neg hA, if_neg fun q => hB q.1]
      refine a_iconst S (v := (-1)) d_Kc_bound_16 (by decide) ?_
      exact RT _ _ _ _ _ _ _ d_Kc_bound_17 (by omega) (by omega) ⟨by rw [hx], rfl, rfl⟩
    · refine a_aload_n S d_Kc_bound_9 rfl rfl ?_
      refine a_get S kc_Kc 11 (by decide) lf_Kc_57 h0 rfl d_Kc_bound_10 ?_
      refine a_if_ne S (tgt := 18) d_Kc_bound_13 rfl (fun h13 => ?_) (fun h13 => ?_)
      · have hc : he = true := bo_1 h13
        refine a_iload_n S d_Kc_bound_18 rfl rfl ?_
        refine a_if_ne S (tgt := 29) d_Kc_bound_19 rfl (fun h19 => ?_) (fun h19 => ?_)
        · have hd : ∀ z, bdV lo hi he x z = (if z = -1 then nI hi.length else atB hi z) := fun z => by rw [bdV, if_neg h19, if_pos ⟨hB, hc⟩]
          refine a_aload_n S d_Kc_bound_29 rfl rfl ?_
          refine a_get S kc_Kc 10 (by decide) lf_Kc_54 h0 rfl d_Kc_bound_30 ?_
          refine a_astore_n S d_Kc_bound_33 rfl (Nat.le_of_ble_eq_true rfl) (lv' := [(0, .ref b), (1, .int x), (2, .int j), (3, .ref (b + 38))]) rfl ?_
          refine a_iload_n S d_Kc_bound_34 rfl rfl ?_
          refine a_iconst S (v := (-1)) d_Kc_bound_35 (by decide) ?_
          refine a_icmp_ne S (tgt := 46) d_Kc_bound_36 rfl (fun h36 => ?_) (fun h36 => ?_)
          · refine a_aload_n S d_Kc_bound_46 rfl rfl ?_
            refine a_iload_n S d_Kc_bound_47 rfl rfl ?_
            refine a_callV S (rest := []) lg_Kc_156 hhi.cell (c_Row_byteAt X.2.1 D (b + 38) hi j w n hhi) (by decide) (by omega) (by omega) rfl (Nat.le_of_ble_eq_true rfl) d_Kc_bound_48 (fun v7 w8 n9 p10 => ?_)
            obtain ⟨rfl, e11, e12⟩ := p10
            rw [e11, e12]
            refine a_st (st' := [.int (atB hi j)]) rfl ?_
            exact RT _ _ _ _ _ _ _ d_Kc_bound_51 (by omega) (by omega) ⟨by rw [hd, if_neg h36], rfl, rfl⟩
          · have rc1 := hhi.cell
            refine a_aload_n S d_Kc_bound_39 rfl rfl ?_
            refine a_get S kc_Row 1 (by decide) lf_Kc_148 rc1 rfl d_Kc_bound_40 ?_
            refine a_goto S (tgt := 51) d_Kc_bound_43 rfl ?_
            exact RT _ _ _ _ _ _ _ d_Kc_bound_51 (by omega) (by omega) ⟨by rw [hd, if_pos h36], rfl, rfl⟩
        · exact absurd h19 hA
      · have hx : ∀ z, bdV lo hi he x z = -1 := fun z => by rw [bdV, if_neg hA, if_neg fun q => by rw [bo_0 h13] at q; cases q.2]
        refine a_iconst S (v := (-1)) d_Kc_bound_16 (by decide) ?_
        exact RT _ _ _ _ _ _ _ d_Kc_bound_17 (by omega) (by omega) ⟨by rw [hx], rfl, rfl⟩
set_option maxHeartbeats 400000 in
set_option maxRecDepth 100000 in
theorem c_Kc_within (l : Launch) (D : kD) (b c : Nat) (s : Bool) (K F : Nat → Nat) (L : Nat → kV) (kr : List Nat) (m : Nat) (KT : Nat → Nat → kV) (lo hi : List Nat) (he : Bool) (i : Int32) (w : ww) (n : Nat) (h : Cod D w b c s K F L kr m KT lo hi he) : AM l D M_Kc_within 3 0 0 [.ref b, .int i] w n (fun v w' n' => ((∃ t, t < m ∧ i = nI t ∧ v = some (.int (if wiB (kyT K F KT c t) lo hi he then 1 else 0))) ∨ ((∀ t, t < m → i = nI t → False) ∧ v = some (.int 0))) ∧ w' = w ∧ n' = n) := by
  refine AM.ofz (by decide +kernel) rfl (Nat.le_of_ble_eq_true rfl) (fun X A Q hin S RT => ?_)
  have S : FX X (D, A, 3, Q) prog_1_method_24_code "KeyCodec" 3 0 0 := S
  have RT : RTz X (D, A, 3, Q) prog_1_method_24_code 0 0 _ := RT
  obtain ⟨Z, lf, rg, KK, h0, hs, hL, hZ, hkr, hlf, hrg, hK, hlo, hhi, hI⟩ := h
  have hm := hI.1
  have hc5 := hs.1
  refine a_lve (lv' := [(0, .ref b), (1, .int i)]) rfl ?_
  have fr : Fr w w b 208 := Fr.refl _ _ _
  refine a_aload_n S d_Kc_within_0 rfl rfl ?_
  refine a_iload_n S d_Kc_within_1 rfl rfl ?_
  refine a_callV S (rest := []) lg_Kc_177 h0 (c_Kc_isKept X.2.1 D b m he i w n h0) (by decide) (by omega) (by omega) rfl (Nat.le_of_ble_eq_true rfl) d_Kc_within_2 (fun v1 w2 n3 p4 => ?_)
  obtain ⟨rfl, e5, e6⟩ := p4
  rw [e5, e6]
  refine a_st (st' := [.int (if usB true m i then 1 else 0)]) rfl ?_
  refine a_if_ne S (tgt := 10) d_Kc_within_5 rfl (fun h5 => ?_) (fun h5 => ?_)
  · obtain ⟨hs_t, t, ht, rfl⟩ := usB_ix (by omega) (bo_1 h5)
    obtain ⟨⟨kf, kg, k1, k2, k3⟩, k4⟩ := hK
    have hK : Kept D w b KT KK := ⟨⟨kf, kg, k1, k2, k3⟩, k4⟩
    obtain ⟨kt_t, kk_t⟩ := k4 t (by omega)
    refine a_aload_n S d_Kc_within_10 rfl rfl ?_
    refine a_get S kc_Kc 7 (by decide) lf_Kc_43 h0 rfl d_Kc_within_11 ?_
    refine a_iload_n S d_Kc_within_14 rfl rfl ?_
    refine a_aald S (i := t) (q := b + 52 + 14 * t) rfl k2 rfl (by omega) (by decide) (k3 t (by omega)).2 d_Kc_within_15 ?_
    refine a_astore_n S d_Kc_within_16 rfl (Nat.le_of_ble_eq_true rfl) (lv' := [(0, .ref b), (1, .int (nI t)), (2, .ref (b + 52 + 14 * t))]) rfl ?_
    refine a_aload_n S d_Kc_within_17 rfl rfl ?_
    refine a_aload_n S d_Kc_within_18 rfl rfl ?_
    refine a_get S kc_Kc 9 (by decide) lf_Kc_51 h0 rfl d_Kc_within_19 ?_
    refine a_callV S (rest := []) lg_Kc_166 kk_t.cell (c_Row_orderAgainst X.2.1 D (b + 52 + 14 * t) (b + 36) (KK t) lo w n kk_t hlo) (by decide) (by omega) (by omega) rfl (Nat.le_of_ble_eq_true rfl) d_Kc_within_22 (fun v7 w8 n9 p10 => ?_)
    obtain ⟨rfl, e11, e12⟩ := p10
    rw [e11, e12]
    refine a_st (st' := [.int (Int32.ofInt (cmpB (KK t) lo))]) rfl ?_
    refine a_if_lt S (tgt := 50) d_Kc_within_25 rfl (fun h25 => ?_) (fun h25 => ?_)
    · have hw : wiB (KK t) lo hi he = false := wi_1 h25
      refine a_iconst S (v := 0) d_Kc_within_50 (by decide) ?_
      exact RT _ _ _ _ _ _ _ d_Kc_within_51 rfl (by omega) (by omega) ⟨Or.inl ⟨t, ht, rfl, (by rw [← hI.ky t ht, hw]; rfl)⟩, rfl, rfl⟩
    · refine a_aload_n S d_Kc_within_28 rfl rfl ?_
      refine a_get S kc_Kc 11 (by decide) lf_Kc_57 h0 rfl d_Kc_within_29 ?_
      refine a_if_eq S (tgt := 46) d_Kc_within_32 rfl (fun h32 => ?_) (fun h32 => ?_)
      · have hw : wiB (KK t) lo hi he = true := wi_2 h25 (bo_0 h32)
        refine a_iconst S (v := 1) d_Kc_within_46 (by decide) ?_
        refine a_goto S (tgt := 51) d_Kc_within_47 rfl ?_
        exact RT _ _ _ _ _ _ _ d_Kc_within_51 rfl (by omega) (by omega) ⟨Or.inl ⟨t, ht, rfl, (by rw [← hI.ky t ht, hw]; rfl)⟩, rfl, rfl⟩
      · have hc : he = true := bo_1 h32
        refine a_aload_n S d_Kc_within_35 rfl rfl ?_
        refine a_aload_n S d_Kc_within_36 rfl rfl ?_
        refine a_get S kc_Kc 10 (by decide) lf_Kc_54 h0 rfl d_Kc_within_37 ?_
        refine a_callV S (rest := []) lg_Kc_166 kk_t.cell (c_Row_orderAgainst X.2.1 D (b + 52 + 14 * t) (b + 38) (KK t) hi w n kk_t hhi) (by decide) (by omega) (by omega) rfl (Nat.le_of_ble_eq_true rfl) d_Kc_within_40 (fun v13 w14 n15 p16 => ?_)
        obtain ⟨rfl, e17, e18⟩ := p16
        rw [e17, e18]
        refine a_st (st' := [.int (Int32.ofInt (cmpB (KK t) hi))]) rfl ?_
        refine a_if_ge S (tgt := 50) d_Kc_within_43 rfl (fun h43 => ?_) (fun h43 => ?_)
        · have hw : wiB (KK t) lo hi he = false := wi_4 hc (k2_nlt h43)
          refine a_iconst S (v := 0) d_Kc_within_50 (by decide) ?_
          exact RT _ _ _ _ _ _ _ d_Kc_within_51 rfl (by omega) (by omega) ⟨Or.inl ⟨t, ht, rfl, (by rw [← hI.ky t ht, hw]; rfl)⟩, rfl, rfl⟩
        · have hw : wiB (KK t) lo hi he = true := wi_3 h25 (k2_lt h43)
          refine a_iconst S (v := 1) d_Kc_within_46 (by decide) ?_
          refine a_goto S (tgt := 51) d_Kc_within_47 rfl ?_
          exact RT _ _ _ _ _ _ _ d_Kc_within_51 rfl (by omega) (by omega) ⟨Or.inl ⟨t, ht, rfl, (by rw [← hI.ky t ht, hw]; rfl)⟩, rfl, rfl⟩
  · have hx : ∀ t, t < m → i = nI t → False := fun t ht e => usB_no (by omega) (bo_0 h5) ht rfl e
    refine a_iconst S (v := 0) d_Kc_within_8 (by decide) ?_
    exact RT _ _ _ _ _ _ _ d_Kc_within_9 rfl (by omega) (by omega) ⟨Or.inr ⟨hx, rfl⟩, rfl, rfl⟩
set_option maxHeartbeats 400000 in
set_option maxRecDepth 100000 in
theorem c_Kc_between (l : Launch) (D : kD) (b c : Nat) (s : Bool) (K F : Nat → Nat) (L : Nat → kV) (kr : List Nat) (m : Nat) (KT : Nat → Nat → kV) (lo hi : List Nat) (he : Bool) (i x a1 a2 : Int32) (w : ww) (n : Nat) (h : Cod D w b c s K F L kr m KT lo hi he) : AM l D M_Kc_between 6 0 0 [.ref b, .int i, .int x, .int a1, .int a2] w n (fun v w' n' => (∃ t q u y, t < m ∧ q < c ∧ u < m ∧ y < m ∧ i = nI t ∧ x = nI q ∧ a1 = nI u ∧ a2 = nI y ∧ v = some (.int 1) ∧ n' = n ∧ Fr w w' b 208 ∧ Cod D w' b c s K F L kr m KT (fldB K F (KT t) q ++ encF (K q) (F q) (KT u q)) (fldB K F (KT t) q ++ encF (K q) (F q) (KT y q)) true) ∨ ((∀ t q u y, t < m → q < c → u < m → y < m → i = nI t → x = nI q → a1 = nI u → a2 = nI y → False) ∧ v = some (.int 0) ∧ w' = w ∧ n' = n)) := by
  refine AM.ofz (by decide +kernel) rfl (Nat.le_of_ble_eq_true rfl) (fun X A Q hin S RT => ?_)
  have S : FX X (D, A, 5, Q) prog_1_method_22_code "KeyCodec" 6 0 0 := S
  have RT : RTz X (D, A, 5, Q) prog_1_method_22_code 0 0 _ := RT
  obtain ⟨Z, lf, rg, KK, h0, hs, hL, hZ, hkr, hlf, hrg, hK, hlo, hhi, hI⟩ := h
  have hm := hI.1
  have hc5 := hs.1
  refine a_lve (lv' := [(0, .ref b), (1, .int i), (2, .int x), (3, .int a1), (4, .int a2)]) rfl ?_
  have fr : Fr w w b 208 := Fr.refl _ _ _
  refine a_aload_n S d_Kc_between_0 rfl rfl ?_
  refine a_iload_n S d_Kc_between_1 rfl rfl ?_
  refine a_callV S (rest := []) lg_Kc_177 h0 (c_Kc_isKept X.2.1 D b m he i w n h0) (by decide) (by omega) (by omega) rfl (Nat.le_of_ble_eq_true rfl) d_Kc_between_2 (fun v1 w2 n3 p4 => ?_)
  obtain ⟨rfl, e5, e6⟩ := p4
  rw [e5, e6]
  refine a_st (st' := [.int (if usB true m i then 1 else 0)]) rfl ?_
  refine a_if_eq S (tgt := 40) d_Kc_between_5 rfl (fun h5 => ?_) (fun h5 => ?_)
  · have hx : ∀ t1 q1 u1 y1, t1 < m → q1 < c → u1 < m → y1 < m → i = nI t1 → x = nI q1 → a1 = nI u1 → a2 = nI y1 → False := fun t1 q1 u1 y1 ht1 hq1 hu1 hy1 e1_ e2_ e3_ e4_ => usB_no (by omega) (bo_0 h5) ht1 rfl e1_
    refine a_iconst S (v := 0) d_Kc_between_40 (by decide) ?_
    exact RT _ _ _ _ _ _ _ d_Kc_between_41 rfl (by omega) (by omega) (Or.inr ⟨hx, rfl, rfl, rfl⟩)
  · obtain ⟨hs_t, t, ht, rfl⟩ := usB_ix (by omega) (bo_1 h5)
    refine a_aload_n S d_Kc_between_8 rfl rfl ?_
    refine a_iload_n S d_Kc_between_9 rfl rfl ?_
    refine a_callV S (rest := []) lg_Kc_177 h0 (c_Kc_isKept X.2.1 D b m he a1 w n h0) (by decide) (by omega) (by omega) rfl (Nat.le_of_ble_eq_true rfl) d_Kc_between_10 (fun v7 w8 n9 p10 => ?_)
    obtain ⟨rfl, e11, e12⟩ := p10
    rw [e11, e12]
    refine a_st (st' := [.int (if usB true m a1 then 1 else 0)]) rfl ?_
    refine a_if_eq S (tgt := 40) d_Kc_between_13 rfl (fun h13 => ?_) (fun h13 => ?_)
    · have hx : ∀ t1 q1 u1 y1, t1 < m → q1 < c → u1 < m → y1 < m → nI t = nI t1 → x = nI q1 → a1 = nI u1 → a2 = nI y1 → False := fun t1 q1 u1 y1 ht1 hq1 hu1 hy1 e1_ e2_ e3_ e4_ => usB_no (by omega) (bo_0 h13) hu1 rfl e3_
      refine a_iconst S (v := 0) d_Kc_between_40 (by decide) ?_
      exact RT _ _ _ _ _ _ _ d_Kc_between_41 rfl (by omega) (by omega) (Or.inr ⟨hx, rfl, rfl, rfl⟩)
    · obtain ⟨hs_u, u, hu, rfl⟩ := usB_ix (by omega) (bo_1 h13)
      refine a_aload_n S d_Kc_between_16 rfl rfl ?_
      refine a_iload S d_Kc_between_17 rfl ?_
      refine a_callV S (rest := []) lg_Kc_177 h0 (c_Kc_isKept X.2.1 D b m he a2 w n h0) (by decide) (by omega) (by omega) rfl (Nat.le_of_ble_eq_true rfl) d_Kc_between_19 (fun v13 w14 n15 p16 => ?_)
      obtain ⟨rfl, e17, e18⟩ := p16
      rw [e17, e18]
      refine a_st (st' := [.int (if usB true m a2 then 1 else 0)]) rfl ?_
      refine a_if_eq S (tgt := 40) d_Kc_between_22 rfl (fun h22 => ?_) (fun h22 => ?_)
      · have hx : ∀ t1 q1 u1 y1, t1 < m → q1 < c → u1 < m → y1 < m → nI t = nI t1 → x = nI q1 → nI u = nI u1 → a2 = nI y1 → False := fun t1 q1 u1 y1 ht1 hq1 hu1 hy1 e1_ e2_ e3_ e4_ => usB_no (by omega) (bo_0 h22) hy1 rfl e4_
        refine a_iconst S (v := 0) d_Kc_between_40 (by decide) ?_
        exact RT _ _ _ _ _ _ _ d_Kc_between_41 rfl (by omega) (by omega) (Or.inr ⟨hx, rfl, rfl, rfl⟩)
      · obtain ⟨hs_y, y, hy, rfl⟩ := usB_ix (by omega) (bo_1 h22)
        refine a_iload_n S d_Kc_between_25 rfl rfl ?_
        refine a_if_lt S (tgt := 40) d_Kc_between_26 rfl (fun h26 => ?_) (fun h26 => ?_)
        · have hx : ∀ t1 q1 u1 y1, t1 < m → q1 < c → u1 < m → y1 < m → nI t = nI t1 → x = nI q1 → nI u = nI u1 → nI y = nI y1 → False := fun t1 q1 u1 y1 ht1 hq1 hu1 hy1 e1_ e2_ e3_ e4_ => by subst e2_; exact nI_pos (by omega) h26
          refine a_iconst S (v := 0) d_Kc_between_40 (by decide) ?_
          exact RT _ _ _ _ _ _ _ d_Kc_between_41 rfl (by omega) (by omega) (Or.inr ⟨hx, rfl, rfl, rfl⟩)
        · refine a_iload_n S d_Kc_between_29 rfl rfl ?_
          have s1 := hs.cell
          refine a_aload_n S d_Kc_between_30 rfl rfl ?_
          refine a_get S kc_Kc 0 (by decide) lf_Kc_12 h0 rfl d_Kc_between_31 ?_
          refine a_get S kc_Schema 2 (by decide) lf_Kc_71 s1 rfl d_Kc_between_34 ?_
          refine a_icmp_lt S (tgt := 42) d_Kc_between_37 rfl (fun h37 => ?_) (fun h37 => ?_)
          · obtain ⟨q, hq, rfl⟩ := row_ix h26 (k2_nle h37) (by omega)
            obtain ⟨⟨kf, kg, k1, k2, k3⟩, k4⟩ := hK
            have hK : Kept D w b KT KK := ⟨⟨kf, kg, k1, k2, k3⟩, k4⟩
            obtain ⟨kt_u, kk_u⟩ := k4 u (by omega)
            obtain ⟨kt_y, kk_y⟩ := k4 y (by omega)
            refine a_aload_n S d_Kc_between_42 rfl rfl ?_
            refine a_iload_n S d_Kc_between_43 rfl rfl ?_
            refine a_iload_n S d_Kc_between_44 rfl rfl ?_
            refine a_aload_n S d_Kc_between_45 rfl rfl ?_
            refine a_get S kc_Kc 9 (by decide) lf_Kc_51 h0 rfl d_Kc_between_46 ?_
            refine a_callV S (rest := []) lg_Kc_180 h0 (c_Kc_writeStart X.2.1 D b c s K F m KT KK he (b + 36) t q lo w n (by omega) (by omega) (by omega) (hI.2.2 t ht).2.1 h0 hs hK hlo) (by decide) (by omega) (by omega) rfl (Nat.le_of_ble_eq_true rfl) d_Kc_between_49 (fun v19 w20 n21 p22 => ?_)
            obtain ⟨rfl, e24, f23, hlo⟩ := p22
            rw [e24]
            refine a_st (st' := []) rfl ?_
            have fr := fr.trans (Fr.sub f23 (by omega) (by omega))
            have h0 := Fr.cell f23 h0 (by omega)
            have s1 := Fr.cell f23 s1 (by omega)
            have k1 := Fr.cell f23 k1 (by omega)
            have k2 := Fr.cell f23 k2 (by omega)
            have hs := Sch.fr f23 hs (by omega)
            have hL := Tup.fr f23 hL (by omega)
            have hZ := Tup.fr f23 hZ (by omega)
            have hkr := Row.fr f23 hkr (by omega)
            have hlf := Row.fr f23 hlf (by omega)
            have hrg := Row.fr f23 hrg (by omega)
            have hK := Kept.fr f23 hK (by omega)
            have hhi := Row.fr f23 hhi (by omega)
            have kt_u := Tup.fr f23 kt_u (by omega)
            have kk_u := Row.fr f23 kk_u (by omega)
            have kt_y := Tup.fr f23 kt_y (by omega)
            have kk_y := Row.fr f23 kk_y (by omega)
            refine a_aload_n S d_Kc_between_52 rfl rfl ?_
            refine a_get S kc_Kc 0 (by decide) lf_Kc_12 h0 rfl d_Kc_between_53 ?_
            refine a_aload_n S d_Kc_between_56 rfl rfl ?_
            refine a_get S kc_Kc 6 (by decide) lf_Kc_39 h0 rfl d_Kc_between_57 ?_
            refine a_iload_n S d_Kc_between_60 rfl rfl ?_
            refine a_aald S (i := u) (q := b + 40 + 14 * u) rfl k1 rfl (by omega) (by decide) (k3 u (by omega)).1 d_Kc_between_61 ?_
            refine a_iload_n S d_Kc_between_62 rfl rfl ?_
            refine a_aload_n S d_Kc_between_63 rfl rfl ?_
            refine a_get S kc_Kc 9 (by decide) lf_Kc_51 h0 rfl d_Kc_between_64 ?_
            refine a_callS S (rest := []) lg_Kc_197 (c_Writer_writeField X.2.1 D (b + 1) (b + 40 + 14 * u) (b + 36) c s K F (KT u) (fldB K F (KT t) q) q w20 n (by omega) (by omega) hq ((hI.2.2 u hu).2.1 q hq) hs kt_u hlo) (by decide) (by omega) (by omega) rfl (Nat.le_of_ble_eq_true rfl) d_Kc_between_67 (fun v25 w26 n27 p28 => ?_)
            obtain ⟨rfl, e30, f29, hlo⟩ := p28
            rw [e30]
            refine a_st (st' := []) rfl ?_
            have fr := fr.trans (Fr.sub f29 (by omega) (by omega))
            have h0 := Fr.cell f29 h0 (by omega)
            have s1 := Fr.cell f29 s1 (by omega)
            have k1 := Fr.cell f29 k1 (by omega)
            have k2 := Fr.cell f29 k2 (by omega)
            have hs := Sch.fr f29 hs (by omega)
            have hL := Tup.fr f29 hL (by omega)
            have hZ := Tup.fr f29 hZ (by omega)
            have hkr := Row.fr f29 hkr (by omega)
            have hlf := Row.fr f29 hlf (by omega)
            have hrg := Row.fr f29 hrg (by omega)
            have hK := Kept.fr f29 hK (by omega)
            have hhi := Row.fr f29 hhi (by omega)
            have kt_u := Tup.fr f29 kt_u (by omega)
            have kk_u := Row.fr f29 kk_u (by omega)
            have kt_y := Tup.fr f29 kt_y (by omega)
            have kk_y := Row.fr f29 kk_y (by omega)
            refine a_aload_n S d_Kc_between_70 rfl rfl ?_
            refine a_iload_n S d_Kc_between_71 rfl rfl ?_
            refine a_iload_n S d_Kc_between_72 rfl rfl ?_
            refine a_aload_n S d_Kc_between_73 rfl rfl ?_
            refine a_get S kc_Kc 10 (by decide) lf_Kc_54 h0 rfl d_Kc_between_74 ?_
            refine a_callV S (rest := []) lg_Kc_180 h0 (c_Kc_writeStart X.2.1 D b c s K F m KT KK he (b + 38) t q hi w26 n (by omega) (by omega) (by omega) (hI.2.2 t ht).2.1 h0 hs hK hhi) (by decide) (by omega) (by omega) rfl (Nat.le_of_ble_eq_true rfl) d_Kc_between_77 (fun v31 w32 n33 p34 => ?_)
            obtain ⟨rfl, e36, f35, hhi⟩ := p34
            rw [e36]
            refine a_st (st' := []) rfl ?_
            have fr := fr.trans (Fr.sub f35 (by omega) (by omega))
            have h0 := Fr.cell f35 h0 (by omega)
            have s1 := Fr.cell f35 s1 (by omega)
            have k1 := Fr.cell f35 k1 (by omega)
            have k2 := Fr.cell f35 k2 (by omega)
            have hs := Sch.fr f35 hs (by omega)
            have hL := Tup.fr f35 hL (by omega)
            have hZ := Tup.fr f35 hZ (by omega)
            have hkr := Row.fr f35 hkr (by omega)
            have hlf := Row.fr f35 hlf (by omega)
            have hrg := Row.fr f35 hrg (by omega)
            have hK := Kept.fr f35 hK (by omega)
            have hlo := Row.fr f35 hlo (by omega)
            have kt_u := Tup.fr f35 kt_u (by omega)
            have kk_u := Row.fr f35 kk_u (by omega)
            have kt_y := Tup.fr f35 kt_y (by omega)
            have kk_y := Row.fr f35 kk_y (by omega)
            refine a_aload_n S d_Kc_between_80 rfl rfl ?_
            refine a_get S kc_Kc 0 (by decide) lf_Kc_12 h0 rfl d_Kc_between_81 ?_
            refine a_aload_n S d_Kc_between_84 rfl rfl ?_
            refine a_get S kc_Kc 6 (by decide) lf_Kc_39 h0 rfl d_Kc_between_85 ?_
            refine a_iload S d_Kc_between_88 rfl ?_
            refine a_aald S (i := y) (q := b + 40 + 14 * y) rfl k1 rfl (by omega) (by decide) (k3 y (by omega)).1 d_Kc_between_90 ?_
            refine a_iload_n S d_Kc_between_91 rfl rfl ?_
            refine a_aload_n S d_Kc_between_92 rfl rfl ?_
            refine a_get S kc_Kc 10 (by decide) lf_Kc_54 h0 rfl d_Kc_between_93 ?_
            refine a_callS S (rest := []) lg_Kc_197 (c_Writer_writeField X.2.1 D (b + 1) (b + 40 + 14 * y) (b + 38) c s K F (KT y) (fldB K F (KT t) q) q w32 n (by omega) (by omega) hq ((hI.2.2 y hy).2.1 q hq) hs kt_y hhi) (by decide) (by omega) (by omega) rfl (Nat.le_of_ble_eq_true rfl) d_Kc_between_96 (fun v37 w38 n39 p40 => ?_)
            obtain ⟨rfl, e42, f41, hhi⟩ := p40
            rw [e42]
            refine a_st (st' := []) rfl ?_
            have fr := fr.trans (Fr.sub f41 (by omega) (by omega))
            have h0 := Fr.cell f41 h0 (by omega)
            have s1 := Fr.cell f41 s1 (by omega)
            have k1 := Fr.cell f41 k1 (by omega)
            have k2 := Fr.cell f41 k2 (by omega)
            have hs := Sch.fr f41 hs (by omega)
            have hL := Tup.fr f41 hL (by omega)
            have hZ := Tup.fr f41 hZ (by omega)
            have hkr := Row.fr f41 hkr (by omega)
            have hlf := Row.fr f41 hlf (by omega)
            have hrg := Row.fr f41 hrg (by omega)
            have hK := Kept.fr f41 hK (by omega)
            have hlo := Row.fr f41 hlo (by omega)
            have kt_u := Tup.fr f41 kt_u (by omega)
            have kk_u := Row.fr f41 kk_u (by omega)
            have kt_y := Tup.fr f41 kt_y (by omega)
            have kk_y := Row.fr f41 kk_y (by omega)
            refine a_aload_n S d_Kc_between_99 rfl rfl ?_
            refine a_iconst S (v := 1) d_Kc_between_100 (by decide) ?_
            refine a_put S kc_Kc kt_Kc 11 (by decide) lf_Kc_57 rfl h0 rfl rfl (Nat.le_of_ble_eq_true rfl) d_Kc_between_101 (fun w43 h0 e44 => ?_)
            have h0 : w43 b = some (.inr (0, [.ref (b + 1), .ref (b + 4), .ref (b + 16), .ref (b + 28), .ref (b + 30), .ref (b + 32), .ref (b + 34), .ref (b + 35), .int (nI m), .ref (b + 36), .ref (b + 38), .int 1])) := h0
            have fr := fr.trans (Fr.sub (Fr.of1 e44) (by omega) (by omega))
            have s1 := Fr.cell (Fr.of1 e44) s1 (by omega)
            have k1 := Fr.cell (Fr.of1 e44) k1 (by omega)
            have k2 := Fr.cell (Fr.of1 e44) k2 (by omega)
            have hs := Sch.fr (Fr.of1 e44) hs (by omega)
            have hL := Tup.fr (Fr.of1 e44) hL (by omega)
            have hZ := Tup.fr (Fr.of1 e44) hZ (by omega)
            have hkr := Row.fr (Fr.of1 e44) hkr (by omega)
            have hlf := Row.fr (Fr.of1 e44) hlf (by omega)
            have hrg := Row.fr (Fr.of1 e44) hrg (by omega)
            have hK := Kept.fr (Fr.of1 e44) hK (by omega)
            have hlo := Row.fr (Fr.of1 e44) hlo (by omega)
            have hhi := Row.fr (Fr.of1 e44) hhi (by omega)
            have kt_u := Tup.fr (Fr.of1 e44) kt_u (by omega)
            have kk_u := Row.fr (Fr.of1 e44) kk_u (by omega)
            have kt_y := Tup.fr (Fr.of1 e44) kt_y (by omega)
            have kk_y := Row.fr (Fr.of1 e44) kk_y (by omega)
            refine a_iconst S (v := 1) d_Kc_between_104 (by decide) ?_
            exact RT _ _ _ _ _ _ _ d_Kc_between_105 rfl (by omega) (by omega) (Or.inl ⟨t, q, u, y, ht, hq, hu, hy, rfl, rfl, rfl, rfl, rfl, rfl, fr, _, _, _, _, h0, hs, hL, hZ, hkr, hlf, hrg, hK, (by rw [ap_eq (bt_len (hI.2.2 t ht).2.1 (hI.2.2 u hu).2.1 hq hc5)] at hlo; exact hlo), (by rw [ap_eq (bt_len (hI.2.2 t ht).2.1 (hI.2.2 y hy).2.1 hq hc5)] at hhi; exact hhi), hI⟩)
          · have hx : ∀ t1 q1 u1 y1, t1 < m → q1 < c → u1 < m → y1 < m → nI t = nI t1 → x = nI q1 → nI u = nI u1 → nI y = nI y1 → False := fun t1 q1 u1 y1 ht1 hq1 hu1 hy1 e1_ e2_ e3_ e4_ => by subst e2_; exact h37 ((nI_ltI (by omega) (by omega)).mpr hq1)
            refine a_iconst S (v := 0) d_Kc_between_40 (by decide) ?_
            exact RT _ _ _ _ _ _ _ d_Kc_between_41 rfl (by omega) (by omega) (Or.inr ⟨hx, rfl, rfl, rfl⟩)
