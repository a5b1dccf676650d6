set_option maxHeartbeats 400000 in
set_option maxRecDepth 100000 in
theorem c_Value_init (l : Launch) (D : kD) (a : Nat) (w : ww) (h1 : w a = some (.inr (2, [.int 0, .long 0, .int 0, .null, .int 0]))) : AM l D M_Value_init 1 1 10 [.ref a] w (a + 1) (fun v w' n' => v = none ∧ n' = a + 2 ∧ Fr w w' a 2 ∧ Val D w' a (false, 0, 0, [])) := by
  refine AM.ofv (by decide +kernel) rfl (Nat.le_of_ble_eq_true rfl) (fun X A Q hin S RT => ?_)
  have S : FX X (D, A, 1, Q) prog_7_method_1_code "KeyCodec$Value" 1 1 10 := S
  have RT : RTv X (D, A, 1, Q) prog_7_method_1_code 1 10 _ := RT
  refine a_lve (lv' := [(0, .ref a)]) rfl ?_
  have fr : Fr w w a 2 := Fr.refl _ _ _
  refine a_aload_n S d_Value_init_0 rfl rfl ?_
  refine a_objInit S lo_Value_3 ts_oi1 ts_oi2 (by decide) (Nat.le_of_ble_eq_true rfl) d_Value_init_1 ?_
  refine a_aload_n S d_Value_init_4 rfl rfl ?_
  refine a_iconst S (v := 0) d_Value_init_5 (by decide) ?_
  refine a_put S kc_Value kt_Value 0 (by decide) lf_Value_9 rfl h1 rfl rfl (Nat.le_of_ble_eq_true rfl) d_Value_init_6 (fun w1 h1 e2 => ?_)
  have h1 : w1 a = some (.inr (2, [.int 0, .long 0, .int 0, .null, .int 0])) := h1
  have fr := fr.trans (Fr.sub (Fr.of1 e2) (by omega) (by omega))
  refine a_aload_n S d_Value_init_9 rfl rfl ?_
  refine a_lconst S (v := 0) d_Value_init_10 (by decide) ?_
  refine a_put S kc_Value kt_Value 1 (by decide) lf_Value_15 rfl h1 rfl rfl (Nat.le_of_ble_eq_true rfl) d_Value_init_11 (fun w3 h1 e4 => ?_)
  have h1 : w3 a = some (.inr (2, [.int 0, .long 0, .int 0, .null, .int 0])) := h1
  have fr := fr.trans (Fr.sub (Fr.of1 e4) (by omega) (by omega))
  refine a_aload_n S d_Value_init_14 rfl rfl ?_
  refine a_iconst S (v := 0) d_Value_init_15 (by decide) ?_
  refine a_put S kc_Value kt_Value 2 (by decide) lf_Value_19 rfl h1 rfl rfl (Nat.le_of_ble_eq_true rfl) d_Value_init_16 (fun w5 h1 e6 => ?_)
  have h1 : w5 a = some (.inr (2, [.int 0, .long 0, .int 0, .null, .int 0])) := h1
  have fr := fr.trans (Fr.sub (Fr.of1 e6) (by omega) (by omega))
  refine a_aload_n S d_Value_init_19 rfl rfl ?_
  refine a_bipush S (v := 10) d_Value_init_20 (by decide) ?_
  refine a_newa S (at0 := .int) (ty := .int) (t0 := 0) (N := 10) (a0 := (10, .inl (fun _ => 0))) rfl rfl (fun _ _ h => h) ar_int (fun _ => rfl) rfl (by decide) (by decide) (by omega) (by omega) d_Value_init_22 (fun w7 hn9 e8 => ?_)
  have fr := fr.trans (Fr.sub (Fr.of1 e8) (by omega) (by omega))
  have h1 := Fr.cell (Fr.of1 e8) h1 (by omega)
  refine a_putF S hin kc_Value kt_Value 3 (by decide) lf_Value_23 rfl rfl h1 rfl rfl (Nat.le_of_ble_eq_true rfl) d_Value_init_24 (fun w10 h1 e11 => ?_)
  have h1 : w10 a = some (.inr (2, [.int 0, .long 0, .int 0, .ref (a + 1), .int 0])) := h1
  have fr := fr.trans (Fr.sub (Fr.of1 e11) (by omega) (by omega))
  have hn9 := Fr.cell (Fr.of1 e11) hn9 (by omega)
  refine a_aload_n S d_Value_init_27 rfl rfl ?_
  refine a_iconst S (v := 0) d_Value_init_28 (by decide) ?_
  refine a_put S kc_Value kt_Value 4 (by decide) lf_Value_27 rfl h1 rfl rfl (Nat.le_of_ble_eq_true rfl) d_Value_init_29 (fun w12 h1 e13 => ?_)
  have h1 : w12 a = some (.inr (2, [.int 0, .long 0, .int 0, .ref (a + 1), .int 0])) := h1
  have fr := fr.trans (Fr.sub (Fr.of1 e13) (by omega) (by omega))
  have hn9 := Fr.cell (Fr.of1 e13) hn9 (by omega)
  exact RT _ _ _ _ _ _ d_Value_init_32 (by omega) (by omega) ⟨rfl, rfl, fr, by decide, (fun b h => by cases h), _, h1, hn9, Arr.nil _⟩
set_option maxHeartbeats 400000 in
set_option maxRecDepth 100000 in
theorem c_Value_become (l : Launch) (D : kD) (a : Nat) (v0 : kV) (z : Int64) (i : Int32) (w : ww) (n : Nat) (h : Val D w a v0) : AM l D M_Value_become 0 0 0 [.ref a, .long z, .int i] w n (fun v w' n' => v = none ∧ n' = n ∧ Fr w w' a 2 ∧ Val D w' a (false, z, i, [])) := by
  refine AM.ofv (by decide +kernel) rfl (Nat.le_of_ble_eq_true rfl) (fun X A Q hin S RT => ?_)
  have S : FX X (D, A, 4, Q) prog_7_method_2_code "KeyCodec$Value" 0 0 0 := S
  have RT : RTv X (D, A, 4, Q) prog_7_method_2_code 0 0 _ := RT
  obtain ⟨hlen, hby, f, h1, h2, hf⟩ := h
  refine a_lve (lv' := [(0, .ref a), (1, .long z), (3, .int i)]) rfl ?_
  have fr : Fr w w a 2 := Fr.refl _ _ _
  refine a_aload_n S d_Value_become_0 rfl rfl ?_
  refine a_iconst S (v := 0) d_Value_become_1 (by decide) ?_
  refine a_put S kc_Value kt_Value 0 (by decide) lf_Value_9 rfl h1 rfl rfl (Nat.le_of_ble_eq_true rfl) d_Value_become_2 (fun w1 h1 e2 => ?_)
  have h1 : w1 a = some (.inr (2, [.int 0, .long v0.2.1, .int v0.2.2.1, .ref (a + 1), .int (nI v0.2.2.2.length)])) := h1
  have fr := fr.trans (Fr.sub (Fr.of1 e2) (by omega) (by omega))
  have h2 := Fr.cell (Fr.of1 e2) h2 (by omega)
  refine a_aload_n S d_Value_become_5 rfl rfl ?_
  refine a_lload_n S d_Value_become_6 rfl rfl ?_
  refine a_put S kc_Value kt_Value 1 (by decide) lf_Value_15 rfl h1 rfl rfl (Nat.le_of_ble_eq_true rfl) d_Value_become_7 (fun w3 h1 e4 => ?_)
  have h1 : w3 a = some (.inr (2, [.int 0, .long z, .int v0.2.2.1, .ref (a + 1), .int (nI v0.2.2.2.length)])) := h1
  have fr := fr.trans (Fr.sub (Fr.of1 e4) (by omega) (by omega))
  have h2 := Fr.cell (Fr.of1 e4) h2 (by omega)
  refine a_aload_n S d_Value_become_10 rfl rfl ?_
  refine a_iload_n S d_Value_become_11 rfl rfl ?_
  refine a_put S kc_Value kt_Value 2 (by decide) lf_Value_19 rfl h1 rfl rfl (Nat.le_of_ble_eq_true rfl) d_Value_become_12 (fun w5 h1 e6 => ?_)
  have h1 : w5 a = some (.inr (2, [.int 0, .long z, .int i, .ref (a + 1), .int (nI v0.2.2.2.length)])) := h1
  have fr := fr.trans (Fr.sub (Fr.of1 e6) (by omega) (by omega))
  have h2 := Fr.cell (Fr.of1 e6) h2 (by omega)
  refine a_aload_n S d_Value_become_15 rfl rfl ?_
  refine a_iconst S (v := 0) d_Value_become_16 (by decide) ?_
  refine a_put S kc_Value kt_Value 4 (by decide) lf_Value_27 rfl h1 rfl rfl (Nat.le_of_ble_eq_true rfl) d_Value_become_17 (fun w7 h1 e8 => ?_)
  have h1 : w7 a = some (.inr (2, [.int 0, .long z, .int i, .ref (a + 1), .int 0])) := h1
  have fr := fr.trans (Fr.sub (Fr.of1 e8) (by omega) (by omega))
  have h2 := Fr.cell (Fr.of1 e8) h2 (by omega)
  exact RT _ _ _ _ _ _ d_Value_become_20 (by omega) (by omega) ⟨rfl, rfl, fr, Nat.zero_le 10, (fun b h => by cases h), _, h1, h2, Arr.nil _⟩
set_option maxHeartbeats 400000 in
set_option maxRecDepth 100000 in
theorem c_Value_vanish (l : Launch) (D : kD) (a : Nat) (v0 : kV) (w : ww) (n : Nat) (h : Val D w a v0) : AM l D M_Value_vanish 1 0 0 [.ref a] w n (fun v w' n' => v = none ∧ n' = n ∧ Fr w w' a 2 ∧ Val D w' a (true, 0, 0, [])) := by
  refine AM.ofv (by decide +kernel) rfl (Nat.le_of_ble_eq_true rfl) (fun X A Q hin S RT => ?_)
  have S : FX X (D, A, 1, Q) prog_7_method_3_code "KeyCodec$Value" 1 0 0 := S
  have RT : RTv X (D, A, 1, Q) prog_7_method_3_code 0 0 _ := RT
  refine a_lve (lv' := [(0, .ref a)]) rfl ?_
  have fr : Fr w w a 2 := Fr.refl _ _ _
  refine a_aload_n S d_Value_vanish_0 rfl rfl ?_
  refine a_lconst S (v := 0) d_Value_vanish_1 (by decide) ?_
  refine a_iconst S (v := 0) d_Value_vanish_2 (by decide) ?_
  refine a_callV S (rest := []) lg_Value_30 h.cell (c_Value_become X.2.1 D a v0 0 0 w n h) (by decide) (by omega) (by omega) rfl (Nat.le_of_ble_eq_true rfl) d_Value_vanish_3 (fun v1 w2 n3 p4 => ?_)
  obtain ⟨rfl, e6, f5, h⟩ := p4
  rw [e6]
  refine a_st (st' := []) rfl ?_
  have fr := fr.trans (Fr.sub f5 (by omega) (by omega))
  obtain ⟨hlen, hby, f, h1, h2, hf⟩ := h
  refine a_aload_n S d_Value_vanish_6 rfl rfl ?_
  refine a_iconst S (v := 1) d_Value_vanish_7 (by decide) ?_
  refine a_put S kc_Value kt_Value 0 (by decide) lf_Value_9 rfl h1 rfl rfl (Nat.le_of_ble_eq_true rfl) d_Value_vanish_8 (fun w7 h1 e8 => ?_)
  have h1 : w7 a = some (.inr (2, [.int 1, .long 0, .int 0, .ref (a + 1), .int 0])) := h1
  have fr := fr.trans (Fr.sub (Fr.of1 e8) (by omega) (by omega))
  have h2 := Fr.cell (Fr.of1 e8) h2 (by omega)
  exact RT _ _ _ _ _ _ d_Value_vanish_11 (by omega) (by omega) ⟨rfl, rfl, fr, by decide, (fun b h => by cases h), _, h1, h2, Arr.nil _⟩
set_option maxHeartbeats 400000 in
set_option maxRecDepth 100000 in
theorem c_Value_append (l : Launch) (D : kD) (a : Nat) (v0 : kV) (b : Int32) (w : ww) (n : Nat) (h : Val D w a v0) : AM l D M_Value_append 0 0 0 [.ref a, .int b] w n (fun v w' n' => v = some (.int (if v0.2.2.2.length < 10 then 1 else 0)) ∧ n' = n ∧ Fr w w' a 2 ∧ Val D w' a (if v0.2.2.2.length < 10 then (false, v0.2.1, v0.2.2.1, v0.2.2.2 ++ [by8 b]) else v0)) := by
  refine AM.ofz (by decide +kernel) rfl (Nat.le_of_ble_eq_true rfl) (fun X A Q hin S RT => ?_)
  have S : FX X (D, A, 2, Q) prog_7_method_4_code "KeyCodec$Value" 0 0 0 := S
  have RT : RTz X (D, A, 2, Q) prog_7_method_4_code 0 0 _ := RT
  obtain ⟨hlen, hby, f, h1, h2, hf⟩ := h
  refine a_lve (lv' := [(0, .ref a), (1, .int b)]) rfl ?_
  have fr : Fr w w a 2 := Fr.refl _ _ _
  refine a_aload_n S d_Value_append_0 rfl rfl ?_
  refine a_get S kc_Value 4 (by decide) lf_Value_27 h1 rfl d_Value_append_1 ?_
  refine a_bipush S (v := 10) d_Value_append_4 (by decide) ?_
  refine a_icmp_lt S (tgt := 11) d_Value_append_6 rfl (fun h6 => ?_) (fun h6 => ?_)
  · have hl : v0.2.2.2.length < 10 := (nI_ltI (by omega) (by decide)).mp h6
    refine a_aload_n S d_Value_append_11 rfl rfl ?_
    refine a_get S kc_Value 3 (by decide) lf_Value_23 h1 rfl d_Value_append_12 ?_
    refine a_aload_n S d_Value_append_15 rfl rfl ?_
    refine a_get S kc_Value 4 (by decide) lf_Value_27 h1 rfl d_Value_append_16 ?_
    refine a_iload_n S d_Value_append_19 rfl rfl ?_
    refine a_sipush S (v := 255) d_Value_append_20 (by decide) ?_
    refine a_iand S d_Value_append_23 ?_
    refine a_eqi (by8_and b) ?_
    refine a_iast S (i := v0.2.2.2.length) h2 rfl (by omega) (by decide) d_Value_append_24 (fun w1 h2 e2 => ?_)
    have fr := fr.trans (Fr.sub (Fr.of1 e2) (by omega) (by omega))
    have h1 := Fr.cell (Fr.of1 e2) h1 (by omega)
    refine a_aload_n S d_Value_append_25 rfl rfl ?_
    refine a_dup S d_Value_append_26 rfl ?_
    refine a_get S kc_Value 4 (by decide) lf_Value_27 h1 rfl d_Value_append_27 ?_
    refine a_iconst S (v := 1) d_Value_append_30 (by decide) ?_
    refine a_iadd S d_Value_append_31 ?_
    refine a_put S kc_Value kt_Value 4 (by decide) lf_Value_27 rfl h1 rfl rfl (Nat.le_of_ble_eq_true rfl) d_Value_append_32 (fun w3 h1 e4 => ?_)
    have h1 : w3 a = some (.inr (2, [.int (if v0.1 then 1 else 0), .long v0.2.1, .int v0.2.2.1, .ref (a + 1), .int (nI v0.2.2.2.length + 1)])) := h1
    have fr := fr.trans (Fr.sub (Fr.of1 e4) (by omega) (by omega))
    have h2 := Fr.cell (Fr.of1 e4) h2 (by omega)
    refine a_aload_n S d_Value_append_35 rfl rfl ?_
    refine a_iconst S (v := 0) d_Value_append_36 (by decide) ?_
    refine a_put S kc_Value kt_Value 0 (by decide) lf_Value_9 rfl h1 rfl rfl (Nat.le_of_ble_eq_true rfl) d_Value_append_37 (fun w5 h1 e6 => ?_)
    have h1 : w5 a = some (.inr (2, [.int 0, .long v0.2.1, .int v0.2.2.1, .ref (a + 1), .int (nI v0.2.2.2.length + 1)])) := h1
    have fr := fr.trans (Fr.sub (Fr.of1 e6) (by omega) (by omega))
    have h2 := Fr.cell (Fr.of1 e6) h2 (by omega)
    refine a_iconst S (v := 1) d_Value_append_40 (by decide) ?_
    exact RT _ _ _ _ _ _ _ d_Value_append_41 rfl (by omega) (by omega) (by rw [if_pos hl, if_pos hl]; exact ⟨rfl, rfl, fr, by show (v0.2.2.2 ++ [by8 b]).length ≤ 10; rw [List.length_append]; exact hl, (fun x hx => by rcases List.mem_append.mp hx with hx | hx; exact hby x hx; rw [List.mem_singleton.mp hx]; exact by8_lt b), _, (by show _ = some (Sum.inr (2, [_, _, _, _, Value.int (nI (v0.2.2.2 ++ [by8 b]).length)])); rw [List.length_append, List.length_singleton, nI_succ]; exact h1), h2, hf.push _⟩)
  · have hl : ¬ v0.2.2.2.length < 10 := fun z => h6 ((nI_ltI (by omega) (by decide)).mpr z)
    refine a_iconst S (v := 0) d_Value_append_9 (by decide) ?_
    exact RT _ _ _ _ _ _ _ d_Value_append_10 rfl (by omega) (by omega) (by rw [if_neg hl, if_neg hl]; exact ⟨rfl, rfl, fr, hlen, hby, f, h1, h2, hf⟩)
set_option maxHeartbeats 400000 in
set_option maxRecDepth 100000 in
theorem c_Value_byteAt (l : Launch) (D : kD) (a : Nat) (v0 : kV) (i : Int32) (w : ww) (n : Nat) (h : Val D w a v0) : AM l D M_Value_byteAt 0 0 0 [.ref a, .int i] w n (fun v w' n' => v = some (.int (atB v0.2.2.2 i)) ∧ w' = w ∧ n' = n) := by
  refine AM.ofi (by decide +kernel) rfl (Nat.le_of_ble_eq_true rfl) (fun X A Q hin S RT => ?_)
  have S : FX X (D, A, 2, Q) prog_7_method_5_code "KeyCodec$Value" 0 0 0 := S
  have RT : RTi X (D, A, 2, Q) prog_7_method_5_code 0 0 _ := RT
  obtain ⟨hlen, hby, f, h1, h2, hf⟩ := h
  refine a_lve (lv' := [(0, .ref a), (1, .int i)]) rfl ?_
  refine a_iload_n S d_Value_byteAt_0 rfl rfl ?_
  refine a_if_lt S (tgt := 21) d_Value_byteAt_1 rfl (fun hneg => ?_) (fun hneg => ?_)
  · refine a_iconst S (v := (-1)) d_Value_byteAt_21 (by decide) ?_
    exact RT _ _ _ _ _ _ _ d_Value_byteAt_22 (by omega) (by omega) ⟨by rw [atB_neg hneg], rfl, rfl⟩
  · refine a_iload_n S d_Value_byteAt_4 rfl rfl ?_
    refine a_aload_n S d_Value_byteAt_5 rfl rfl ?_
    refine a_get S kc_Value 4 (by decide) lf_Value_27 h1 rfl d_Value_byteAt_6 ?_
    refine a_icmp_ge S (tgt := 21) d_Value_byteAt_9 rfl (fun h9 => ?_) (fun h9 => ?_)
    · refine a_iconst S (v := (-1)) d_Value_byteAt_21 (by decide) ?_
      exact RT _ _ _ _ _ _ _ d_Value_byteAt_22 (by omega) (by omega) ⟨by rw [atB_big h9], rfl, rfl⟩
    · obtain ⟨j, hj, rfl⟩ := row_ix hneg h9 (by omega)
      refine a_aload_n S d_Value_byteAt_12 rfl rfl ?_
      refine a_get S kc_Value 3 (by decide) lf_Value_23 h1 rfl d_Value_byteAt_13 ?_
      refine a_iload_n S d_Value_byteAt_16 rfl rfl ?_
      refine a_iald S (i := j) h2 rfl (by omega) (by decide) d_Value_byteAt_17 ?_
      refine a_eqi (hf j hj) ?_
      refine a_goto S (tgt := 22) d_Value_byteAt_18 rfl ?_
      exact RT _ _ _ _ _ _ _ d_Value_byteAt_22 (by omega) (by omega) ⟨by rw [atB_in hj (by omega)], rfl, rfl⟩
set_option maxHeartbeats 400000 in
set_option maxRecDepth 100000 in
theorem c_Value_copy (l : Launch) (D : kD) (a b : Nat) (v0 v1 : kV) (w : ww) (n : Nat) (hd : a + 2 ≤ b ∨ b + 2 ≤ a) (h : Val D w a v0) (h0 : Val D w b v1) : AM l D M_Value_copy 1 0 0 [.ref a, .ref b] w n (fun v w' n' => v = none ∧ n' = n ∧ Fr w w' a 2 ∧ Val D w' a v1) := by
  refine AM.ofv (by decide +kernel) rfl (Nat.le_of_ble_eq_true rfl) (fun X A Q hin S RT => ?_)
  have S : FX X (D, A, 2, Q) prog_7_method_6_code "KeyCodec$Value" 1 0 0 := S
  have RT : RTv X (D, A, 2, Q) prog_7_method_6_code 0 0 _ := RT
  obtain ⟨hlen, hby, f, h1, h2, hf⟩ := h
  obtain ⟨hlen2, hby2, g, g1, g2, hg⟩ := h0
  refine a_lve (lv' := [(0, .ref a), (1, .ref b)]) rfl ?_
  have fr : Fr w w a 2 := Fr.refl _ _ _
  refine a_aload_n S d_Value_copy_0 rfl rfl ?_
  refine a_aload_n S d_Value_copy_1 rfl rfl ?_
  refine a_get S kc_Value 0 (by decide) lf_Value_9 g1 rfl d_Value_copy_2 ?_
  refine a_put S kc_Value kt_Value 0 (by decide) lf_Value_9 rfl h1 (bo_nar _) (bo_fit _) (Nat.le_of_ble_eq_true rfl) d_Value_copy_5 (fun w1 h1 e2 => ?_)
  have h1 : w1 a = some (.inr (2, [.int (if v1.1 then 1 else 0), .long v0.2.1, .int v0.2.2.1, .ref (a + 1), .int (nI v0.2.2.2.length)])) := h1
  have fr := fr.trans (Fr.sub (Fr.of1 e2) (by omega) (by omega))
  have h2 := Fr.cell (Fr.of1 e2) h2 (by omega)
  have g1 := Fr.cell (Fr.of1 e2) g1 (by omega)
  have g2 := Fr.cell (Fr.of1 e2) g2 (by omega)
  refine a_aload_n S d_Value_copy_8 rfl rfl ?_
  refine a_aload_n S d_Value_copy_9 rfl rfl ?_
  refine a_get S kc_Value 1 (by decide) lf_Value_15 g1 rfl d_Value_copy_10 ?_
  refine a_put S kc_Value kt_Value 1 (by decide) lf_Value_15 rfl h1 rfl rfl (Nat.le_of_ble_eq_true rfl) d_Value_copy_13 (fun w3 h1 e4 => ?_)
  have h1 : w3 a = some (.inr (2, [.int (if v1.1 then 1 else 0), .long v1.2.1, .int v0.2.2.1, .ref (a + 1), .int (nI v0.2.2.2.length)])) := h1
  have fr := fr.trans (Fr.sub (Fr.of1 e4) (by omega) (by omega))
  have h2 := Fr.cell (Fr.of1 e4) h2 (by omega)
  have g1 := Fr.cell (Fr.of1 e4) g1 (by omega)
  have g2 := Fr.cell (Fr.of1 e4) g2 (by omega)
  refine a_aload_n S d_Value_copy_16 rfl rfl ?_
  refine a_aload_n S d_Value_copy_17 rfl rfl ?_
  refine a_get S kc_Value 2 (by decide) lf_Value_19 g1 rfl d_Value_copy_18 ?_
  refine a_put S kc_Value kt_Value 2 (by decide) lf_Value_19 rfl h1 rfl rfl (Nat.le_of_ble_eq_true rfl) d_Value_copy_21 (fun w5 h1 e6 => ?_)
  have h1 : w5 a = some (.inr (2, [.int (if v1.1 then 1 else 0), .long v1.2.1, .int v1.2.2.1, .ref (a + 1), .int (nI v0.2.2.2.length)])) := h1
  have fr := fr.trans (Fr.sub (Fr.of1 e6) (by omega) (by omega))
  have h2 := Fr.cell (Fr.of1 e6) h2 (by omega)
  have g1 := Fr.cell (Fr.of1 e6) g1 (by omega)
  have g2 := Fr.cell (Fr.of1 e6) g2 (by omega)
  refine a_aload_n S d_Value_copy_24 rfl rfl ?_
  refine a_aload_n S d_Value_copy_25 rfl rfl ?_
  refine a_get S kc_Value 4 (by decide) lf_Value_27 g1 rfl d_Value_copy_26 ?_
  refine a_put S kc_Value kt_Value 4 (by decide) lf_Value_27 rfl h1 rfl rfl (Nat.le_of_ble_eq_true rfl) d_Value_copy_29 (fun w7 h1 e8 => ?_)
  have h1 : w7 a = some (.inr (2, [.int (if v1.1 then 1 else 0), .long v1.2.1, .int v1.2.2.1, .ref (a + 1), .int (nI v1.2.2.2.length)])) := h1
  have fr := fr.trans (Fr.sub (Fr.of1 e8) (by omega) (by omega))
  have h2 := Fr.cell (Fr.of1 e8) h2 (by omega)
  have g1 := Fr.cell (Fr.of1 e8) g1 (by omega)
  have g2 := Fr.cell (Fr.of1 e8) g2 (by omega)
  refine a_aload_n S d_Value_copy_32 rfl rfl ?_
  refine a_get S kc_Value 3 (by decide) lf_Value_23 g1 rfl d_Value_copy_33 ?_
  refine a_iconst S (v := 0) d_Value_copy_36 (by decide) ?_
  refine a_aload_n S d_Value_copy_37 rfl rfl ?_
  refine a_get S kc_Value 3 (by decide) lf_Value_23 h1 rfl d_Value_copy_38 ?_
  refine a_iconst S (v := 0) d_Value_copy_41 (by decide) ?_
  refine a_bipush S (v := 10) d_Value_copy_42 (by decide) ?_
  refine a_copyi S (sp := 0) (dp := 0) (k := 10) lm_Value_34 ts_cp1 ts_cp2 ts_cp3 g2 h2 rfl rfl rfl (by omega) (by omega) (by decide) (by decide) (by decide) (Nat.le_of_ble_eq_true rfl) (by decide) d_Value_copy_44 (fun w9 h2 e10 => ?_)
  have fr := fr.trans (Fr.sub (Fr.of1 e10) (by omega) (by omega))
  have h1 := Fr.cell (Fr.of1 e10) h1 (by omega)
  have g1 := Fr.cell (Fr.of1 e10) g1 (by omega)
  have g2 := Fr.cell (Fr.of1 e10) g2 (by omega)
  exact RT _ _ _ _ _ _ d_Value_copy_47 (by omega) (by omega) ⟨rfl, rfl, fr, hlen2, hby2, _, h1, h2, (fun i hi => by rw [pk_cpy_in (by omega) (by omega), Nat.zero_add, Nat.sub_zero]; exact hg i hi)⟩
