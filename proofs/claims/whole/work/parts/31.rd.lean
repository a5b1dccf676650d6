set_option maxHeartbeats 400000 in
set_option maxRecDepth 100000 in
theorem c_Reader_init (l : Launch) (D : kD) (a sa ra : Nat) (w : ww) (r1 : w a = some (.inr (5, [.null, .null, .int 0, .int 0, .null]))) : AM l D M_Reader_init 1 1 5 [.ref a, .ref sa, .ref ra] w (a + 1) (fun v w' n' => v = none ∧ n' = a + 2 ∧ Fr w w' a 2 ∧ Rd D w' a sa ra 0 0 (fun _ => 0)) := by
  refine AM.ofv (by decide +kernel) rfl (Nat.le_of_ble_eq_true rfl) (fun X A Q hin S RT => ?_)
  have S : FX X (D, A, 3, Q) prog_2_method_1_code "KeyCodec$KeyReader" 1 1 5 := S
  have RT : RTv X (D, A, 3, Q) prog_2_method_1_code 1 5 _ := RT
  refine a_lve (lv' := [(0, .ref a), (1, .ref sa), (2, .ref ra)]) rfl ?_
  have fr : Fr w w a 2 := Fr.refl _ _ _
  refine a_aload_n S d_Reader_init_0 rfl rfl ?_
  refine a_objInit S lo_Reader_3 ts_oi1 ts_oi2 (by decide) (Nat.le_of_ble_eq_true rfl) d_Reader_init_1 ?_
  refine a_aload_n S d_Reader_init_4 rfl rfl ?_
  refine a_iconst S (v := 0) d_Reader_init_5 (by decide) ?_
  refine a_put S kc_Reader kt_Reader 2 (by decide) lf_Reader_9 rfl r1 rfl rfl (Nat.le_of_ble_eq_true rfl) d_Reader_init_6 (fun w1 r1 e2 => ?_)
  have r1 : w1 a = some (.inr (5, [.null, .null, .int 0, .int 0, .null])) := r1
  have fr := fr.trans (Fr.sub (Fr.of1 e2) (by omega) (by omega))
  refine a_aload_n S d_Reader_init_9 rfl rfl ?_
  refine a_iconst S (v := 0) d_Reader_init_10 (by decide) ?_
  refine a_put S kc_Reader kt_Reader 3 (by decide) lf_Reader_15 rfl r1 rfl rfl (Nat.le_of_ble_eq_true rfl) d_Reader_init_11 (fun w3 r1 e4 => ?_)
  have r1 : w3 a = some (.inr (5, [.null, .null, .int 0, .int 0, .null])) := r1
  have fr := fr.trans (Fr.sub (Fr.of1 e4) (by omega) (by omega))
  refine a_aload_n S d_Reader_init_14 rfl rfl ?_
  refine a_iconst S (v := 5) d_Reader_init_15 (by decide) ?_
  refine a_newa S (at0 := .int) (ty := .int) (t0 := 0) (N := 5) (a0 := (5, .inl (fun _ => 0))) rfl rfl (fun _ _ h => h) ar_int (fun _ => rfl) rfl (by decide) (by decide) (by omega) (by omega) d_Reader_init_16 (fun w5 hn7 e6 => ?_)
  have fr := fr.trans (Fr.sub (Fr.of1 e6) (by omega) (by omega))
  have r1 := Fr.cell (Fr.of1 e6) r1 (by omega)
  refine a_putF S hin kc_Reader kt_Reader 4 (by decide) lf_Reader_18 rfl rfl r1 rfl rfl (Nat.le_of_ble_eq_true rfl) d_Reader_init_18 (fun w8 r1 e9 => ?_)
  have r1 : w8 a = some (.inr (5, [.null, .null, .int 0, .int 0, .ref (a + 1)])) := r1
  have fr := fr.trans (Fr.sub (Fr.of1 e9) (by omega) (by omega))
  have hn7 := Fr.cell (Fr.of1 e9) hn7 (by omega)
  refine a_aload_n S d_Reader_init_21 rfl rfl ?_
  refine a_aload_n S d_Reader_init_22 rfl rfl ?_
  refine a_putF S hin kc_Reader kt_Reader 0 (by decide) lf_Reader_22 rfl rfl r1 rfl rfl (Nat.le_of_ble_eq_true rfl) d_Reader_init_23 (fun w10 r1 e11 => ?_)
  have r1 : w10 a = some (.inr (5, [.ref sa, .null, .int 0, .int 0, .ref (a + 1)])) := r1
  have fr := fr.trans (Fr.sub (Fr.of1 e11) (by omega) (by omega))
  have hn7 := Fr.cell (Fr.of1 e11) hn7 (by omega)
  refine a_aload_n S d_Reader_init_26 rfl rfl ?_
  refine a_aload_n S d_Reader_init_27 rfl rfl ?_
  refine a_putF S hin kc_Reader kt_Reader 1 (by decide) lf_Reader_26 rfl rfl r1 rfl rfl (Nat.le_of_ble_eq_true rfl) d_Reader_init_28 (fun w12 r1 e13 => ?_)
  have r1 : w12 a = some (.inr (5, [.ref sa, .ref ra, .int 0, .int 0, .ref (a + 1)])) := r1
  have fr := fr.trans (Fr.sub (Fr.of1 e13) (by omega) (by omega))
  have hn7 := Fr.cell (Fr.of1 e13) hn7 (by omega)
  exact RT _ _ _ _ _ _ d_Reader_init_31 (by omega) (by omega) ⟨rfl, rfl, fr, r1, hn7⟩
set_option maxHeartbeats 400000 in
set_option maxRecDepth 100000 in
theorem c_Reader_next (l : Launch) (D : kD) (a sa ra p t : Nat) (pw : Nat → Int32) (l0 : List Nat) (w : ww) (n : Nat) (hd : a + 2 ≤ ra ∨ ra + 2 ≤ a) (hp0 : p ≤ l0.length) (ht : t = 0 ∨ t = 255) (hl : Row D w ra l0) (hr : Rd D w a sa ra p t pw) : AM l D M_Reader_next 1 0 0 [.ref a] w n (fun v w' n' => n' = n ∧ Fr w w' a 2 ∧ ((p < l0.length ∧ v = some (.int (nI (tnB t (l0.getD p 0)))) ∧ Rd D w' a sa ra (p + 1) t pw) ∨ (l0.length ≤ p ∧ v = some (.int (-1)) ∧ Rd D w' a sa ra p t pw))) := by
  refine AM.ofi (by decide +kernel) rfl (Nat.le_of_ble_eq_true rfl) (fun X A Q hin S RT => ?_)
  have S : FX X (D, A, 2, Q) prog_2_method_3_code "KeyCodec$KeyReader" 1 0 0 := S
  have RT : RTi X (D, A, 2, Q) prog_2_method_3_code 0 0 _ := RT
  have hl0 := hl
  obtain ⟨r1, r2⟩ := hr
  refine a_lve (lv' := [(0, .ref a)]) rfl ?_
  have fr : Fr w w a 2 := Fr.refl _ _ _
  refine a_aload_n S d_Reader_next_0 rfl rfl ?_
  refine a_get S kc_Reader 1 (by decide) lf_Reader_26 r1 rfl d_Reader_next_1 ?_
  refine a_aload_n S d_Reader_next_4 rfl rfl ?_
  refine a_get S kc_Reader 2 (by decide) lf_Reader_9 r1 rfl d_Reader_next_5 ?_
  refine a_callV S (rest := []) lg_Reader_57 hl.cell (c_Row_byteAt X.2.1 D ra l0 (nI p) w n hl) (by decide) (by omega) (by omega) rfl (Nat.le_of_ble_eq_true rfl) d_Reader_next_8 (fun v1 w2 n3 p4 => ?_)
  obtain ⟨rfl, e5, e6⟩ := p4
  rw [e5, e6]
  refine a_st (st' := [.int (atB l0 (nI p))]) rfl ?_
  rcases Nat.lt_or_ge p l0.length with hp | hp
  · refine a_eqi (y := nI (l0.getD p 0)) (atB_in hp (by have := hl.1; omega)) ?_
    refine a_istore_n S d_Reader_next_11 rfl (Nat.le_of_ble_eq_true rfl) (lv' := [(0, .ref a), (1, .int (nI (l0.getD p 0)))]) rfl ?_
    refine a_iload_n S d_Reader_next_12 rfl rfl ?_
    refine a_iconst S (v := (-1)) d_Reader_next_13 (by decide) ?_
    refine a_icmp_ne S (tgt := 19) d_Reader_next_14 rfl (fun h14 => ?_) (fun h14 => ?_)
    · refine a_aload_n S d_Reader_next_19 rfl rfl ?_
      refine a_dup S d_Reader_next_20 rfl ?_
      refine a_get S kc_Reader 2 (by decide) lf_Reader_9 r1 rfl d_Reader_next_21 ?_
      refine a_iconst S (v := 1) d_Reader_next_24 (by decide) ?_
      refine a_iadd S d_Reader_next_25 ?_
      refine a_put S kc_Reader kt_Reader 2 (by decide) lf_Reader_9 rfl r1 rfl rfl (Nat.le_of_ble_eq_true rfl) d_Reader_next_26 (fun w7 r1 e8 => ?_)
      have r1 : w7 a = some (.inr (5, [.ref sa, .ref ra, .int (nI p + 1), .int (nI t), .ref (a + 1)])) := r1
      have fr := fr.trans (Fr.sub (Fr.of1 e8) (by omega) (by omega))
      have r2 := Fr.cell (Fr.of1 e8) r2 (by omega)
      have hl := Row.fr (Fr.of1 e8) hl (by omega)
      refine a_iload_n S d_Reader_next_29 rfl rfl ?_
      refine a_aload_n S d_Reader_next_30 rfl rfl ?_
      refine a_get S kc_Reader 3 (by decide) lf_Reader_15 r1 rfl d_Reader_next_31 ?_
      refine a_ixor S d_Reader_next_34 ?_
      refine a_eqi (y := nI (tnB t (l0.getD p 0))) (xor_tn ht (getD_lt hl0.2.1 p)) ?_
      exact RT _ _ _ _ _ _ _ d_Reader_next_35 (by omega) (by omega) ⟨rfl, fr, Or.inl ⟨hp, rfl, (by rw [nI_succ]; exact r1), r2⟩⟩
    · exact absurd h14 (nI_m1 (getD_lt hl.2.1 p))
  · refine a_eqi (y := (-1)) (atB_out hp (by have := hl.1; omega)) ?_
    refine a_istore_n S d_Reader_next_11 rfl (Nat.le_of_ble_eq_true rfl) (lv' := [(0, .ref a), (1, .int (-1))]) rfl ?_
    refine a_iload_n S d_Reader_next_12 rfl rfl ?_
    refine a_iconst S (v := (-1)) d_Reader_next_13 (by decide) ?_
    refine a_icmp_ne S (tgt := 19) d_Reader_next_14 rfl (fun h14 => ?_) (fun h14 => ?_)
    · exact absurd h14 (by decide)
    · refine a_iconst S (v := (-1)) d_Reader_next_17 (by decide) ?_
      exact RT _ _ _ _ _ _ _ d_Reader_next_18 (by omega) (by omega) ⟨rfl, fr, Or.inr ⟨hp, rfl, r1, r2⟩⟩
