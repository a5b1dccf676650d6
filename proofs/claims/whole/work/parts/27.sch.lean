set_option maxHeartbeats 400000 in
set_option maxRecDepth 100000 in
theorem c_Schema_init (l : Launch) (D : kD) (a : Nat) (w : ww) (h1 : w a = some (.inr (4, [.null, .null, .int 0, .int 0]))) : AM l D M_Schema_init 1 2 10 [.ref a] w (a + 1) (fun v w' n' => v = none ∧ n' = a + 3 ∧ Fr w w' a 3 ∧ ∀ K F : Nat → Nat, Sch D w' a 0 false K F) := by
  refine AM.ofv (by decide +kernel) rfl (Nat.le_of_ble_eq_true rfl) (fun X A Q hin S RT => ?_)
  have S : FX X (D, A, 1, Q) prog_5_method_1_code "KeyCodec$Schema" 1 2 10 := S
  have RT : RTv X (D, A, 1, Q) prog_5_method_1_code 2 10 _ := RT
  refine a_lve (lv' := [(0, .ref a)]) rfl ?_
  have fr : Fr w w a 3 := Fr.refl _ _ _
  refine a_aload_n S d_Schema_init_0 rfl rfl ?_
  refine a_objInit S lo_Schema_3 ts_oi1 ts_oi2 (by decide) (Nat.le_of_ble_eq_true rfl) d_Schema_init_1 ?_
  refine a_aload_n S d_Schema_init_4 rfl rfl ?_
  refine a_iconst S (v := 5) d_Schema_init_5 (by decide) ?_
  refine a_newa S (at0 := .int) (ty := .int) (t0 := 0) (N := 5) (a0 := (5, .inl (fun _ => 0))) rfl rfl (fun _ _ h => h) ar_int (fun _ => rfl) rfl (by decide) (by decide) (by omega) (by omega) d_Schema_init_6 (fun w1 hn3 e2 => ?_)
  have fr := fr.trans (Fr.sub (Fr.of1 e2) (by omega) (by omega))
  have h1 := Fr.cell (Fr.of1 e2) h1 (by omega)
  refine a_putF S hin kc_Schema kt_Schema 0 (by decide) lf_Schema_9 rfl rfl h1 rfl rfl (Nat.le_of_ble_eq_true rfl) d_Schema_init_8 (fun w4 h1 e5 => ?_)
  have h1 : w4 a = some (.inr (4, [.ref (a + 1), .null, .int 0, .int 0])) := h1
  have fr := fr.trans (Fr.sub (Fr.of1 e5) (by omega) (by omega))
  have hn3 := Fr.cell (Fr.of1 e5) hn3 (by omega)
  refine a_aload_n S d_Schema_init_11 rfl rfl ?_
  refine a_iconst S (v := 5) d_Schema_init_12 (by decide) ?_
  refine a_newa S (at0 := .int) (ty := .int) (t0 := 0) (N := 5) (a0 := (5, .inl (fun _ => 0))) rfl rfl (fun _ _ h => h) ar_int (fun _ => rfl) rfl (by decide) (by decide) (by omega) (by omega) d_Schema_init_13 (fun w6 hn8 e7 => ?_)
  have fr := fr.trans (Fr.sub (Fr.of1 e7) (by omega) (by omega))
  have h1 := Fr.cell (Fr.of1 e7) h1 (by omega)
  have hn3 := Fr.cell (Fr.of1 e7) hn3 (by omega)
  refine a_putF S hin kc_Schema kt_Schema 1 (by decide) lf_Schema_15 rfl rfl h1 rfl rfl (Nat.le_of_ble_eq_true rfl) d_Schema_init_15 (fun w9 h1 e10 => ?_)
  have h1 : w9 a = some (.inr (4, [.ref (a + 1), .ref (a + 2), .int 0, .int 0])) := h1
  have fr := fr.trans (Fr.sub (Fr.of1 e10) (by omega) (by omega))
  have hn3 := Fr.cell (Fr.of1 e10) hn3 (by omega)
  have hn8 := Fr.cell (Fr.of1 e10) hn8 (by omega)
  refine a_aload_n S d_Schema_init_18 rfl rfl ?_
  refine a_iconst S (v := 0) d_Schema_init_19 (by decide) ?_
  refine a_put S kc_Schema kt_Schema 2 (by decide) lf_Schema_18 rfl h1 rfl rfl (Nat.le_of_ble_eq_true rfl) d_Schema_init_20 (fun w11 h1 e12 => ?_)
  have h1 : w11 a = some (.inr (4, [.ref (a + 1), .ref (a + 2), .int 0, .int 0])) := h1
  have fr := fr.trans (Fr.sub (Fr.of1 e12) (by omega) (by omega))
  have hn3 := Fr.cell (Fr.of1 e12) hn3 (by omega)
  have hn8 := Fr.cell (Fr.of1 e12) hn8 (by omega)
  refine a_aload_n S d_Schema_init_23 rfl rfl ?_
  refine a_iconst S (v := 0) d_Schema_init_24 (by decide) ?_
  refine a_put S kc_Schema kt_Schema 3 (by decide) lf_Schema_22 rfl h1 rfl rfl (Nat.le_of_ble_eq_true rfl) d_Schema_init_25 (fun w13 h1 e14 => ?_)
  have h1 : w13 a = some (.inr (4, [.ref (a + 1), .ref (a + 2), .int 0, .int 0])) := h1
  have fr := fr.trans (Fr.sub (Fr.of1 e14) (by omega) (by omega))
  have hn3 := Fr.cell (Fr.of1 e14) hn3 (by omega)
  have hn8 := Fr.cell (Fr.of1 e14) hn8 (by omega)
  exact RT _ _ _ _ _ _ d_Schema_init_28 (by omega) (by omega) ⟨rfl, rfl, fr, fun K F => ⟨Nat.zero_le 5, (fun i h => absurd h (Nat.not_lt_zero i)), _, _, h1, hn3, hn8, (fun i h => absurd h (Nat.not_lt_zero i))⟩⟩
set_option maxHeartbeats 400000 in
set_option maxRecDepth 100000 in
theorem c_Schema_reset (l : Launch) (D : kD) (a c : Nat) (s : Bool) (K F : Nat → Nat) (w : ww) (n : Nat) (h : Sch D w a c s K F) : AM l D M_Schema_reset 0 0 0 [.ref a] w n (fun v w' n' => v = none ∧ n' = n ∧ Fr w w' a 3 ∧ ∀ K F : Nat → Nat, Sch D w' a 0 false K F) := by
  refine AM.ofv (by decide +kernel) rfl (Nat.le_of_ble_eq_true rfl) (fun X A Q hin S RT => ?_)
  have S : FX X (D, A, 1, Q) prog_5_method_2_code "KeyCodec$Schema" 0 0 0 := S
  have RT : RTv X (D, A, 1, Q) prog_5_method_2_code 0 0 _ := RT
  obtain ⟨hc, hkf, f, g, h1, h2, h3, hfg⟩ := h
  refine a_lve (lv' := [(0, .ref a)]) rfl ?_
  have fr : Fr w w a 3 := Fr.refl _ _ _
  refine a_aload_n S d_Schema_reset_0 rfl rfl ?_
  refine a_iconst S (v := 0) d_Schema_reset_1 (by decide) ?_
  refine a_put S kc_Schema kt_Schema 2 (by decide) lf_Schema_18 rfl h1 rfl rfl (Nat.le_of_ble_eq_true rfl) d_Schema_reset_2 (fun w1 h1 e2 => ?_)
  have h1 : w1 a = some (.inr (4, [.ref (a + 1), .ref (a + 2), .int 0, .int (if s then 1 else 0)])) := h1
  have fr := fr.trans (Fr.sub (Fr.of1 e2) (by omega) (by omega))
  have h2 := Fr.cell (Fr.of1 e2) h2 (by omega)
  have h3 := Fr.cell (Fr.of1 e2) h3 (by omega)
  refine a_aload_n S d_Schema_reset_5 rfl rfl ?_
  refine a_iconst S (v := 0) d_Schema_reset_6 (by decide) ?_
  refine a_put S kc_Schema kt_Schema 3 (by decide) lf_Schema_22 rfl h1 rfl rfl (Nat.le_of_ble_eq_true rfl) d_Schema_reset_7 (fun w3 h1 e4 => ?_)
  have h1 : w3 a = some (.inr (4, [.ref (a + 1), .ref (a + 2), .int 0, .int 0])) := h1
  have fr := fr.trans (Fr.sub (Fr.of1 e4) (by omega) (by omega))
  have h2 := Fr.cell (Fr.of1 e4) h2 (by omega)
  have h3 := Fr.cell (Fr.of1 e4) h3 (by omega)
  exact RT _ _ _ _ _ _ d_Schema_reset_10 (by omega) (by omega) ⟨rfl, rfl, fr, fun K F => ⟨Nat.zero_le 5, (fun i h => absurd h (Nat.not_lt_zero i)), _, _, h1, h2, h3, (fun i h => absurd h (Nat.not_lt_zero i))⟩⟩
set_option maxHeartbeats 400000 in
set_option maxRecDepth 100000 in
theorem c_Schema_append (l : Launch) (D : kD) (a c : Nat) (s : Bool) (K F : Nat → Nat) (kd fl : Nat) (w : ww) (n : Nat) (hc5 : c < 5) (hk4 : kd < 4) (hf8 : fl < 8) (h : Sch D w a c s K F) : AM l D M_Schema_append 0 0 0 [.ref a, .int (nI kd), .int (nI fl)] w n (fun v w' n' => v = some (.int (nI c)) ∧ n' = n ∧ Fr w w' a 3 ∧ Sch D w' a (c + 1) s (va_up K c kd) (va_up F c fl)) := by
  refine AM.ofi (by decide +kernel) rfl (Nat.le_of_ble_eq_true rfl) (fun X A Q hin S RT => ?_)
  have S : FX X (D, A, 3, Q) prog_5_method_3_code "KeyCodec$Schema" 0 0 0 := S
  have RT : RTi X (D, A, 3, Q) prog_5_method_3_code 0 0 _ := RT
  obtain ⟨hc, hkf, f, g, h1, h2, h3, hfg⟩ := h
  refine a_lve (lv' := [(0, .ref a), (1, .int (nI kd)), (2, .int (nI fl))]) rfl ?_
  have fr : Fr w w a 3 := Fr.refl _ _ _
  refine a_aload_n S d_Schema_append_0 rfl rfl ?_
  refine a_get S kc_Schema 2 (by decide) lf_Schema_18 h1 rfl d_Schema_append_1 ?_
  refine a_iconst S (v := 5) d_Schema_append_4 (by decide) ?_
  refine a_icmp_lt S (tgt := 10) d_Schema_append_5 rfl (fun h5 => ?_) (fun h5 => ?_)
  · refine a_aload_n S d_Schema_append_10 rfl rfl ?_
    refine a_get S kc_Schema 0 (by decide) lf_Schema_9 h1 rfl d_Schema_append_11 ?_
    refine a_aload_n S d_Schema_append_14 rfl rfl ?_
    refine a_get S kc_Schema 2 (by decide) lf_Schema_18 h1 rfl d_Schema_append_15 ?_
    refine a_iload_n S d_Schema_append_18 rfl rfl ?_
    refine a_iast S (i := c) h2 rfl (by omega) (by decide) d_Schema_append_19 (fun w1 h2 e2 => ?_)
    have fr := fr.trans (Fr.sub (Fr.of1 e2) (by omega) (by omega))
    have h1 := Fr.cell (Fr.of1 e2) h1 (by omega)
    have h3 := Fr.cell (Fr.of1 e2) h3 (by omega)
    refine a_aload_n S d_Schema_append_20 rfl rfl ?_
    refine a_get S kc_Schema 1 (by decide) lf_Schema_15 h1 rfl d_Schema_append_21 ?_
    refine a_aload_n S d_Schema_append_24 rfl rfl ?_
    refine a_get S kc_Schema 2 (by decide) lf_Schema_18 h1 rfl d_Schema_append_25 ?_
    refine a_iload_n S d_Schema_append_28 rfl rfl ?_
    refine a_iast S (i := c) h3 rfl (by omega) (by decide) d_Schema_append_29 (fun w3 h3 e4 => ?_)
    have fr := fr.trans (Fr.sub (Fr.of1 e4) (by omega) (by omega))
    have h1 := Fr.cell (Fr.of1 e4) h1 (by omega)
    have h2 := Fr.cell (Fr.of1 e4) h2 (by omega)
    refine a_aload_n S d_Schema_append_30 rfl rfl ?_
    refine a_dup S d_Schema_append_31 rfl ?_
    refine a_get S kc_Schema 2 (by decide) lf_Schema_18 h1 rfl d_Schema_append_32 ?_
    refine a_iconst S (v := 1) d_Schema_append_35 (by decide) ?_
    refine a_iadd S d_Schema_append_36 ?_
    refine a_put S kc_Schema kt_Schema 2 (by decide) lf_Schema_18 rfl h1 rfl rfl (Nat.le_of_ble_eq_true rfl) d_Schema_append_37 (fun w5 h1 e6 => ?_)
    have h1 : w5 a = some (.inr (4, [.ref (a + 1), .ref (a + 2), .int (nI c + 1), .int (if s then 1 else 0)])) := h1
    have fr := fr.trans (Fr.sub (Fr.of1 e6) (by omega) (by omega))
    have h2 := Fr.cell (Fr.of1 e6) h2 (by omega)
    have h3 := Fr.cell (Fr.of1 e6) h3 (by omega)
    refine a_aload_n S d_Schema_append_40 rfl rfl ?_
    refine a_get S kc_Schema 2 (by decide) lf_Schema_18 h1 rfl d_Schema_append_41 ?_
    refine a_iconst S (v := 1) d_Schema_append_44 (by decide) ?_
    refine a_isub S d_Schema_append_45 ?_
    exact RT _ _ _ _ _ _ _ d_Schema_append_46 (by omega) (by omega) ⟨by rw [← nI_succ, nI_pred], rfl, fr, by omega, (fun i hi => by by_cases e : i = c; subst e; rw [va_up_self, va_up_self]; exact ⟨hk4, hf8⟩; rw [va_up_ne _ _ e, va_up_ne _ _ e]; exact hkf i (by omega)), _, _, (by rw [nI_succ]; exact h1), h2, h3, (fun i hi => by by_cases e : i = c; subst e; rw [va_up_self, va_up_self, pk_us, pk_us]; exact ⟨rfl, rfl⟩; rw [va_up_ne _ _ e, va_up_ne _ _ e, pk_un e, pk_un e]; exact hfg i (by omega))⟩
  · exact absurd ((nI_ltI (by omega) (by decide)).mpr hc5) h5
set_option maxHeartbeats 400000 in
set_option maxRecDepth 100000 in
theorem c_Schema_isUsable (l : Launch) (D : kD) (a c : Nat) (s : Bool) (K F : Nat → Nat) (i : Int32) (w : ww) (n : Nat) (h : Sch D w a c s K F) : AM l D M_Schema_isUsable 0 0 0 [.ref a, .int i] w n (fun v w' n' => v = some (.int (if usB s c i then 1 else 0)) ∧ w' = w ∧ n' = n) := by
  refine AM.ofz (by decide +kernel) rfl (Nat.le_of_ble_eq_true rfl) (fun X A Q hin S RT => ?_)
  have S : FX X (D, A, 2, Q) prog_5_method_4_code "KeyCodec$Schema" 0 0 0 := S
  have RT : RTz X (D, A, 2, Q) prog_5_method_4_code 0 0 _ := RT
  obtain ⟨hc, hkf, f, g, h1, h2, h3, hfg⟩ := h
  refine a_lve (lv' := [(0, .ref a), (1, .int i)]) rfl ?_
  refine a_aload_n S d_Schema_isUsable_0 rfl rfl ?_
  refine a_get S kc_Schema 3 (by decide) lf_Schema_22 h1 rfl d_Schema_isUsable_1 ?_
  refine a_if_eq S (tgt := 23) d_Schema_isUsable_4 rfl (fun h4 => ?_) (fun h4 => ?_)
  · have hs0 : ¬ usB s c i = true := fun z => usB_s h4 z
    refine a_iconst S (v := 0) d_Schema_isUsable_23 (by decide) ?_
    exact RT _ _ _ _ _ _ _ d_Schema_isUsable_24 rfl (by omega) (by omega) ⟨by rw [usB_0 (fun z => hs0 z)], rfl, rfl⟩
  · have hs := bo_1 h4
    refine a_iload_n S d_Schema_isUsable_7 rfl rfl ?_
    refine a_if_lt S (tgt := 23) d_Schema_isUsable_8 rfl (fun h8 => ?_) (fun h8 => ?_)
    · have hs0 : ¬ usB s c i = true := fun z => usB_n h8 z
      refine a_iconst S (v := 0) d_Schema_isUsable_23 (by decide) ?_
      exact RT _ _ _ _ _ _ _ d_Schema_isUsable_24 rfl (by omega) (by omega) ⟨by rw [usB_0 (fun z => hs0 z)], rfl, rfl⟩
    · have hneg := h8
      refine a_iload_n S d_Schema_isUsable_11 rfl rfl ?_
      refine a_aload_n S d_Schema_isUsable_12 rfl rfl ?_
      refine a_get S kc_Schema 2 (by decide) lf_Schema_18 h1 rfl d_Schema_isUsable_13 ?_
      refine a_icmp_ge S (tgt := 23) d_Schema_isUsable_16 rfl (fun h16 => ?_) (fun h16 => ?_)
      · have hs0 : ¬ usB s c i = true := fun z => usB_b h16 z
        refine a_iconst S (v := 0) d_Schema_isUsable_23 (by decide) ?_
        exact RT _ _ _ _ _ _ _ d_Schema_isUsable_24 rfl (by omega) (by omega) ⟨by rw [usB_0 (fun z => hs0 z)], rfl, rfl⟩
      · refine a_iconst S (v := 1) d_Schema_isUsable_19 (by decide) ?_
        refine a_goto S (tgt := 24) d_Schema_isUsable_20 rfl ?_
        exact RT _ _ _ _ _ _ _ d_Schema_isUsable_24 rfl (by omega) (by omega) ⟨by rw [usB_1 hs hneg h16], rfl, rfl⟩
set_option maxHeartbeats 400000 in
set_option maxRecDepth 100000 in
theorem c_Schema_has (l : Launch) (D : kD) (a c : Nat) (s : Bool) (K F : Nat → Nat) (i : Nat) (fl : Int32) (w : ww) (n : Nat) (hi : i < c) (h : Sch D w a c s K F) : AM l D M_Schema_has 0 0 0 [.ref a, .int (nI i), .int fl] w n (fun v w' n' => v = some (.int (if nI (F i) &&& fl = 0 then 0 else 1)) ∧ w' = w ∧ n' = n) := by
  refine AM.ofz (by decide +kernel) rfl (Nat.le_of_ble_eq_true rfl) (fun X A Q hin S RT => ?_)
  have S : FX X (D, A, 3, Q) prog_5_method_5_code "KeyCodec$Schema" 0 0 0 := S
  have RT : RTz X (D, A, 3, Q) prog_5_method_5_code 0 0 _ := RT
  obtain ⟨hc, hkf, f, g, h1, h2, h3, hfg⟩ := h
  refine a_lve (lv' := [(0, .ref a), (1, .int (nI i)), (2, .int fl)]) rfl ?_
  refine a_aload_n S d_Schema_has_0 rfl rfl ?_
  refine a_get S kc_Schema 1 (by decide) lf_Schema_15 h1 rfl d_Schema_has_1 ?_
  refine a_iload_n S d_Schema_has_4 rfl rfl ?_
  refine a_iald S (i := i) h3 rfl (by omega) (by decide) d_Schema_has_5 ?_
  refine a_eqi ((hfg i hi).2) ?_
  refine a_iload_n S d_Schema_has_6 rfl rfl ?_
  refine a_iand S d_Schema_has_7 ?_
  refine a_if_eq S (tgt := 15) d_Schema_has_8 rfl (fun h8 => ?_) (fun h8 => ?_)
  · refine a_iconst S (v := 0) d_Schema_has_15 (by decide) ?_
    exact RT _ _ _ _ _ _ _ d_Schema_has_16 rfl (by omega) (by omega) ⟨by rw [if_pos h8], rfl, rfl⟩
  · refine a_iconst S (v := 1) d_Schema_has_11 (by decide) ?_
    refine a_goto S (tgt := 16) d_Schema_has_12 rfl ?_
    exact RT _ _ _ _ _ _ _ d_Schema_has_16 rfl (by omega) (by omega) ⟨by rw [if_neg h8], rfl, rfl⟩
set_option maxHeartbeats 400000 in
set_option maxRecDepth 100000 in
theorem c_Schema_turnOf (l : Launch) (D : kD) (a c : Nat) (s : Bool) (K F : Nat → Nat) (i : Nat) (w : ww) (n : Nat) (hi : i < c) (h : Sch D w a c s K F) : AM l D M_Schema_turnOf 1 0 0 [.ref a, .int (nI i)] w n (fun v w' n' => v = some (.int (nI (tnF (F i)))) ∧ w' = w ∧ n' = n) := by
  refine AM.ofi (by decide +kernel) rfl (Nat.le_of_ble_eq_true rfl) (fun X A Q hin S RT => ?_)
  have S : FX X (D, A, 2, Q) prog_5_method_6_code "KeyCodec$Schema" 1 0 0 := S
  have RT : RTi X (D, A, 2, Q) prog_5_method_6_code 0 0 _ := RT
  have hF : ∀ i, i < c → F i < 8 := fun i hi => (h.2.1 i hi).2
  refine a_lve (lv' := [(0, .ref a), (1, .int (nI i))]) rfl ?_
  refine a_aload_n S d_Schema_turnOf_0 rfl rfl ?_
  refine a_iload_n S d_Schema_turnOf_1 rfl rfl ?_
  refine a_iconst S (v := 1) d_Schema_turnOf_2 (by decide) ?_
  refine a_callV S (rest := []) lg_Schema_26 h.cell (c_Schema_has X.2.1 D a c s K F i 1 w n (by omega) h) (by decide) (by omega) (by omega) rfl (Nat.le_of_ble_eq_true rfl) d_Schema_turnOf_3 (fun v1 w2 n3 p4 => ?_)
  obtain ⟨rfl, e5, e6⟩ := p4
  rw [e5, e6]
  refine a_st (st' := [.int (if nI (F i) &&& 1 = 0 then 0 else 1)]) rfl ?_
  refine a_if_eq S (tgt := 15) d_Schema_turnOf_6 rfl (fun h6 => ?_) (fun h6 => ?_)
  · refine a_iconst S (v := 0) d_Schema_turnOf_15 (by decide) ?_
    exact RT _ _ _ _ _ _ _ d_Schema_turnOf_16 (by omega) (by omega) ⟨by rw [tnF_0 (hF i hi) h6]; rfl, rfl, rfl⟩
  · refine a_sipush S (v := 255) d_Schema_turnOf_9 (by decide) ?_
    refine a_goto S (tgt := 16) d_Schema_turnOf_12 rfl ?_
    exact RT _ _ _ _ _ _ _ d_Schema_turnOf_16 (by omega) (by omega) ⟨by rw [tnF_1 (hF i hi) h6]; rfl, rfl, rfl⟩
set_option maxHeartbeats 400000 in
set_option maxRecDepth 100000 in
theorem c_Schema_absentMark (l : Launch) (D : kD) (a c : Nat) (s : Bool) (K F : Nat → Nat) (i : Nat) (w : ww) (n : Nat) (hi : i < c) (h : Sch D w a c s K F) : AM l D M_Schema_absentMark 1 0 0 [.ref a, .int (nI i)] w n (fun v w' n' => v = some (.int (nI (mkA (F i)))) ∧ w' = w ∧ n' = n) := by
  refine AM.ofi (by decide +kernel) rfl (Nat.le_of_ble_eq_true rfl) (fun X A Q hin S RT => ?_)
  have S : FX X (D, A, 2, Q) prog_5_method_7_code "KeyCodec$Schema" 1 0 0 := S
  have RT : RTi X (D, A, 2, Q) prog_5_method_7_code 0 0 _ := RT
  have hF : ∀ i, i < c → F i < 8 := fun i hi => (h.2.1 i hi).2
  refine a_lve (lv' := [(0, .ref a), (1, .int (nI i))]) rfl ?_
  refine a_aload_n S d_Schema_absentMark_0 rfl rfl ?_
  refine a_iload_n S d_Schema_absentMark_1 rfl rfl ?_
  refine a_iconst S (v := 4) d_Schema_absentMark_2 (by decide) ?_
  refine a_callV S (rest := []) lg_Schema_26 h.cell (c_Schema_has X.2.1 D a c s K F i 4 w n (by omega) h) (by decide) (by omega) (by omega) rfl (Nat.le_of_ble_eq_true rfl) d_Schema_absentMark_3 (fun v1 w2 n3 p4 => ?_)
  obtain ⟨rfl, e5, e6⟩ := p4
  rw [e5, e6]
  refine a_st (st' := [.int (if nI (F i) &&& 4 = 0 then 0 else 1)]) rfl ?_
  refine a_if_eq S (tgt := 13) d_Schema_absentMark_6 rfl (fun h6 => ?_) (fun h6 => ?_)
  · refine a_iconst S (v := 0) d_Schema_absentMark_13 (by decide) ?_
    exact RT _ _ _ _ _ _ _ d_Schema_absentMark_14 (by omega) (by omega) ⟨by rw [mkA_0 (hF i hi) h6]; rfl, rfl, rfl⟩
  · refine a_iconst S (v := 2) d_Schema_absentMark_9 (by decide) ?_
    refine a_goto S (tgt := 14) d_Schema_absentMark_10 rfl ?_
    exact RT _ _ _ _ _ _ _ d_Schema_absentMark_14 (by omega) (by omega) ⟨by rw [mkA_1 (hF i hi) h6]; rfl, rfl, rfl⟩
set_option maxHeartbeats 400000 in
set_option maxRecDepth 100000 in
theorem c_Schema_allows (l : Launch) (D : kD) (a c : Nat) (s : Bool) (K F : Nat → Nat) (i : Nat) (z : Int64) (j : Int32) (w : ww) (n : Nat) (hi : i < c) (h : Sch D w a c s K F) : AM l D M_Schema_allows 0 0 0 [.ref a, .int (nI i), .long z, .int j] w n (fun v w' n' => ∃ b : Bool, v = some (.int (if b then 1 else 0)) ∧ (b = true ↔ okN (K i) z j) ∧ w' = w ∧ n' = n) := by
  refine AM.ofz (by decide +kernel) rfl (Nat.le_of_ble_eq_true rfl) (fun X A Q hin S RT => ?_)
  have S : FX X (D, A, 5, Q) prog_5_method_8_code "KeyCodec$Schema" 0 0 0 := S
  have RT : RTz X (D, A, 5, Q) prog_5_method_8_code 0 0 _ := RT
  obtain ⟨hc, hkf, f, g, h1, h2, h3, hfg⟩ := h
  refine a_lve (lv' := [(0, .ref a), (1, .int (nI i)), (2, .long z), (4, .int j)]) rfl ?_
  refine a_aload_n S d_Schema_allows_0 rfl rfl ?_
  refine a_get S kc_Schema 0 (by decide) lf_Schema_9 h1 rfl d_Schema_allows_1 ?_
  refine a_iload_n S d_Schema_allows_4 rfl rfl ?_
  refine a_iald S (i := i) h2 rfl (by omega) (by decide) d_Schema_allows_5 ?_
  refine a_eqi ((hfg i hi).1) ?_
  rcases (show K i = 0 ∨ K i = 1 ∨ K i = 2 ∨ K i = 3 by have := (hkf i hi).1; omega) with hk | hk | hk | hk
  · refine a_eqi (y := 0) (by rw [hk]; rfl) ?_
    refine a_tswIn S (tgt := 32) d_Schema_allows_6 (by decide) (by decide) rfl rfl ?_
    refine a_iload S d_Schema_allows_32 rfl ?_
    refine a_if_ne S (tgt := 41) d_Schema_allows_34 rfl (fun h34 => ?_) (fun h34 => ?_)
    · have hx : ¬ okN (K i) z j := fun q => h34 (by rw [hk] at q; exact q)
      refine a_iconst S (v := 0) d_Schema_allows_41 (by decide) ?_
      exact RT _ _ _ _ _ _ _ d_Schema_allows_42 rfl (by omega) (by omega) ⟨false, rfl, ⟨fun q => absurd q (by decide), fun q => absurd q hx⟩, rfl, rfl⟩
    · refine a_iconst S (v := 1) d_Schema_allows_37 (by decide) ?_
      refine a_goto S (tgt := 42) d_Schema_allows_38 rfl ?_
      exact RT _ _ _ _ _ _ _ d_Schema_allows_42 rfl (by omega) (by omega) ⟨true, rfl, ⟨fun _ => by rw [hk]; exact h34, fun _ => rfl⟩, rfl, rfl⟩
  · refine a_eqi (y := 1) (by rw [hk]; rfl) ?_
    refine a_tswIn S (tgt := 43) d_Schema_allows_6 (by decide) (by decide) rfl rfl ?_
    refine a_lload_n S d_Schema_allows_43 rfl rfl ?_
    refine a_ldc2 S (v := (-1000000000000000)) lK_Schema_30 d_Schema_allows_44 ?_
    refine a_lcmp S d_Schema_allows_47 ?_
    refine a_if_lt S (tgt := 75) d_Schema_allows_48 rfl (fun h48 => ?_) (fun h48 => ?_)
    · have hx : ¬ okN (K i) z j := fun q => by rw [hk] at q; exact alowN h48 q.1
      refine a_iconst S (v := 0) d_Schema_allows_75 (by decide) ?_
      exact RT _ _ _ _ _ _ _ d_Schema_allows_76 rfl (by omega) (by omega) ⟨false, rfl, ⟨fun q => absurd q (by decide), fun q => absurd q hx⟩, rfl, rfl⟩
    · refine a_lload_n S d_Schema_allows_51 rfl rfl ?_
      refine a_ldc2 S (v := 1000000000000000) lK_Schema_32 d_Schema_allows_52 ?_
      refine a_lcmp S d_Schema_allows_55 ?_
      refine a_if_gt S (tgt := 75) d_Schema_allows_56 rfl (fun h56 => ?_) (fun h56 => ?_)
      · have hx : ¬ okN (K i) z j := fun q => by rw [hk] at q; exact ahiN h56 q.2.1
        refine a_iconst S (v := 0) d_Schema_allows_75 (by decide) ?_
        exact RT _ _ _ _ _ _ _ d_Schema_allows_76 rfl (by omega) (by omega) ⟨false, rfl, ⟨fun q => absurd q (by decide), fun q => absurd q hx⟩, rfl, rfl⟩
      · refine a_iload S d_Schema_allows_59 rfl ?_
        refine a_if_lt S (tgt := 75) d_Schema_allows_61 rfl (fun h61 => ?_) (fun h61 => ?_)
        · have hx : ¬ okN (K i) z j := fun q => by rw [hk] at q; exact i32neg h61 q.2.2.1
          refine a_iconst S (v := 0) d_Schema_allows_75 (by decide) ?_
          exact RT _ _ _ _ _ _ _ d_Schema_allows_76 rfl (by omega) (by omega) ⟨false, rfl, ⟨fun q => absurd q (by decide), fun q => absurd q hx⟩, rfl, rfl⟩
        · refine a_iload S d_Schema_allows_64 rfl ?_
          refine a_bipush S (v := 9) d_Schema_allows_66 (by decide) ?_
          refine a_icmp_gt S (tgt := 75) d_Schema_allows_68 rfl (fun h68 => ?_) (fun h68 => ?_)
          · have hx : ¬ okN (K i) z j := fun q => by rw [hk] at q; exact i32big h68 q.2.2.2
            refine a_iconst S (v := 0) d_Schema_allows_75 (by decide) ?_
            exact RT _ _ _ _ _ _ _ d_Schema_allows_76 rfl (by omega) (by omega) ⟨false, rfl, ⟨fun q => absurd q (by decide), fun q => absurd q hx⟩, rfl, rfl⟩
          · refine a_iconst S (v := 1) d_Schema_allows_71 (by decide) ?_
            refine a_goto S (tgt := 76) d_Schema_allows_72 rfl ?_
            exact RT _ _ _ _ _ _ _ d_Schema_allows_76 rfl (by omega) (by omega) ⟨true, rfl, ⟨fun _ => by rw [hk]; exact ⟨alow h48, ahi h56, i32nn h61, i32sm h68⟩, fun _ => rfl⟩, rfl, rfl⟩
  · refine a_eqi (y := 2) (by rw [hk]; rfl) ?_
    refine a_tswIn S (tgt := 77) d_Schema_allows_6 (by decide) (by decide) rfl rfl ?_
    refine a_lload_n S d_Schema_allows_77 rfl rfl ?_
    refine a_lconst S (v := 0) d_Schema_allows_78 (by decide) ?_
    refine a_lcmp S d_Schema_allows_79 ?_
    refine a_if_ne S (tgt := 92) d_Schema_allows_80 rfl (fun h80 => ?_) (fun h80 => ?_)
    · have hx : ¬ okN (K i) z j := fun q => by rw [hk] at q; exact h80 (aeqN q.1)
      refine a_iconst S (v := 0) d_Schema_allows_92 (by decide) ?_
      exact RT _ _ _ _ _ _ _ d_Schema_allows_93 rfl (by omega) (by omega) ⟨false, rfl, ⟨fun q => absurd q (by decide), fun q => absurd q hx⟩, rfl, rfl⟩
    · refine a_iload S d_Schema_allows_83 rfl ?_
      refine a_if_ne S (tgt := 92) d_Schema_allows_85 rfl (fun h85 => ?_) (fun h85 => ?_)
      · have hx : ¬ okN (K i) z j := fun q => by rw [hk] at q; exact h85 q.2
        refine a_iconst S (v := 0) d_Schema_allows_92 (by decide) ?_
        exact RT _ _ _ _ _ _ _ d_Schema_allows_93 rfl (by omega) (by omega) ⟨false, rfl, ⟨fun q => absurd q (by decide), fun q => absurd q hx⟩, rfl, rfl⟩
      · refine a_iconst S (v := 1) d_Schema_allows_88 (by decide) ?_
        refine a_goto S (tgt := 93) d_Schema_allows_89 rfl ?_
        exact RT _ _ _ _ _ _ _ d_Schema_allows_93 rfl (by omega) (by omega) ⟨true, rfl, ⟨fun _ => by rw [hk]; exact ⟨aeq h80, h85⟩, fun _ => rfl⟩, rfl, rfl⟩
  · refine a_eqi (y := 3) (by rw [hk]; rfl) ?_
    refine a_tswOut S (tgt := 94) d_Schema_allows_6 (by decide) rfl ?_
    refine a_lload_n S d_Schema_allows_94 rfl rfl ?_
    refine a_ldc2 S (v := (-1099511627776)) lK_Schema_34 d_Schema_allows_95 ?_
    refine a_lcmp S d_Schema_allows_98 ?_
    refine a_if_lt S (tgt := 130) d_Schema_allows_99 rfl (fun h99 => ?_) (fun h99 => ?_)
    · have hx : ¬ okN (K i) z j := fun q => by rw [hk] at q; exact alowN h99 q.1
      refine a_iconst S (v := 0) d_Schema_allows_130 (by decide) ?_
      exact RT _ _ _ _ _ _ _ d_Schema_allows_131 rfl (by omega) (by omega) ⟨false, rfl, ⟨fun q => absurd q (by decide), fun q => absurd q hx⟩, rfl, rfl⟩
    · refine a_lload_n S d_Schema_allows_102 rfl rfl ?_
      refine a_ldc2 S (v := 1099511627776) lK_Schema_36 d_Schema_allows_103 ?_
      refine a_lcmp S d_Schema_allows_106 ?_
      refine a_if_gt S (tgt := 130) d_Schema_allows_107 rfl (fun h107 => ?_) (fun h107 => ?_)
      · have hx : ¬ okN (K i) z j := fun q => by rw [hk] at q; exact ahiN h107 q.2.1
        refine a_iconst S (v := 0) d_Schema_allows_130 (by decide) ?_
        exact RT _ _ _ _ _ _ _ d_Schema_allows_131 rfl (by omega) (by omega) ⟨false, rfl, ⟨fun q => absurd q (by decide), fun q => absurd q hx⟩, rfl, rfl⟩
      · refine a_iload S d_Schema_allows_110 rfl ?_
        refine a_sipush S (v := (-900)) d_Schema_allows_112 (by decide) ?_
        refine a_icmp_lt S (tgt := 130) d_Schema_allows_115 rfl (fun h115 => ?_) (fun h115 => ?_)
        · have hx : ¬ okN (K i) z j := fun q => by rw [hk] at q; exact i32low h115 q.2.2.1
          refine a_iconst S (v := 0) d_Schema_allows_130 (by decide) ?_
          exact RT _ _ _ _ _ _ _ d_Schema_allows_131 rfl (by omega) (by omega) ⟨false, rfl, ⟨fun q => absurd q (by decide), fun q => absurd q hx⟩, rfl, rfl⟩
        · refine a_iload S d_Schema_allows_118 rfl ?_
          refine a_sipush S (v := 900) d_Schema_allows_120 (by decide) ?_
          refine a_icmp_gt S (tgt := 130) d_Schema_allows_123 rfl (fun h123 => ?_) (fun h123 => ?_)
          · have hx : ¬ okN (K i) z j := fun q => by rw [hk] at q; exact i32big h123 q.2.2.2
            refine a_iconst S (v := 0) d_Schema_allows_130 (by decide) ?_
            exact RT _ _ _ _ _ _ _ d_Schema_allows_131 rfl (by omega) (by omega) ⟨false, rfl, ⟨fun q => absurd q (by decide), fun q => absurd q hx⟩, rfl, rfl⟩
          · refine a_iconst S (v := 1) d_Schema_allows_126 (by decide) ?_
            refine a_goto S (tgt := 131) d_Schema_allows_127 rfl ?_
            exact RT _ _ _ _ _ _ _ d_Schema_allows_131 rfl (by omega) (by omega) ⟨true, rfl, ⟨fun _ => by rw [hk]; exact ⟨alow h99, ahi h107, i32lo h115, i32sm h123⟩, fun _ => rfl⟩, rfl, rfl⟩
