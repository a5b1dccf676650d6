set_option maxHeartbeats 400000 in
set_option maxRecDepth 100000 in
theorem c_Tuple_init (l : Launch) (D : kD) (a : Nat) (w : ww) (h1 : w a = some (.inr (3, [.null]))) : AM l D M_Tuple_init 2 11 80 [.ref a] w (a + 1) (fun v w' n' => v = none ∧ n' = a + 12 ∧ Fr w w' a 12 ∧ Tup D w' a (fun _ => (false, 0, 0, []))) := by
  refine AM.ofv (by decide +kernel) rfl (Nat.le_of_ble_eq_true rfl) (fun X A Q hin S RT => ?_)
  have S : FX X (D, A, 2, Q) prog_6_method_1_code "KeyCodec$Tuple" 2 11 80 := S
  have RT : RTv X (D, A, 2, Q) prog_6_method_1_code 11 80 _ := RT
  refine a_lve (lv' := [(0, .ref a)]) rfl ?_
  have fr : Fr w w a 12 := Fr.refl _ _ _
  refine a_aload_n S d_Tuple_init_0 rfl rfl ?_
  refine a_objInit S lo_Tuple_3 ts_oi1 ts_oi2 (by decide) (Nat.le_of_ble_eq_true rfl) d_Tuple_init_1 ?_
  refine a_aload_n S d_Tuple_init_4 rfl rfl ?_
  refine a_iconst S (v := 5) d_Tuple_init_5 (by decide) ?_
  refine a_newq S (t0 := 3) (N := 5) rfl lc_Tuple_9 ov_Value rfl (by decide) (by omega) (by omega) d_Tuple_init_6 (fun w1 hn3 e2 => ?_)
  have fr := fr.trans (Fr.sub (Fr.of1 e2) (by omega) (by omega))
  have h1 := Fr.cell (Fr.of1 e2) h1 (by omega)
  refine a_putF S hin kc_Tuple kt_Tuple 0 (by decide) lf_Tuple_11 rfl rfl h1 rfl rfl (Nat.le_of_ble_eq_true rfl) d_Tuple_init_9 (fun w4 h1 e5 => ?_)
  have h1 : w4 a = some (.inr (3, [.ref (a + 1)])) := h1
  have fr := fr.trans (Fr.sub (Fr.of1 e5) (by omega) (by omega))
  have hn3 := Fr.cell (Fr.of1 e5) hn3 (by omega)
  refine a_iconst S (v := 0) d_Tuple_init_12 (by decide) ?_
  refine a_istore_n S d_Tuple_init_13 rfl (Nat.le_of_ble_eq_true rfl) (lv' := [(0, .ref a), (1, .int 0)]) rfl ?_
  have loop14 : ∀ (kk14 : Nat) (i : Nat) (w1 : ww) (f : Nat → Option Nat), 5 - i = kk14 → (i ≤ 5) → (Fr w w1 a 12) → (w1 a = some (.inr (3, [.ref (a + 1)]))) → (w1 (a + 1) = some (.inl (D.2 3, 5, .inr (.inr (.inr (.inr f)))))) → (∀ j, j < i → f j = some (a + 2 + 2 * j)) → (Vals D w1 (a + 2) i) → AW X (D, A, 2, Q) 14 [(0, .ref a), (1, .int (nI i))] [] w1 (a + 2 + 2 * i) (1 + 2 * i) (5 + 15 * i) := by
    intro kk14
    induction kk14 using Nat.strongRecOn with
    | ind kk14 ih14 =>
      intro i w1 f hk14 hi fr h1 h2 hf hvs
      refine a_iload_n S d_Tuple_init_14 rfl rfl ?_
      refine a_iconst S (v := 5) d_Tuple_init_15 (by decide) ?_
      refine a_icmp_ge S (tgt := 38) d_Tuple_init_16 rfl (fun h16 => ?_) (fun h16 => ?_)
      · have hi : i = 5 := Nat.le_antisymm hi ((nI_leI (by decide) (by omega)).mp h16)
        subst hi
        exact RT _ _ _ _ _ _ d_Tuple_init_38 (by omega) (by omega) ⟨rfl, rfl, fr, ⟨f, h1, h2, hf⟩, hvs⟩
      · have hi : i < 5 := Nat.not_le.mp fun z => h16 ((nI_leI (by decide) (by omega)).mpr z)
        refine a_aload_n S d_Tuple_init_19 rfl rfl ?_
        refine a_get S kc_Tuple 0 (by decide) lf_Tuple_11 h1 rfl d_Tuple_init_20 ?_
        refine a_iload_n S d_Tuple_init_23 rfl rfl ?_
        refine a_new S kc_Value kt_Value lc_Tuple_9 in_Value ii_Value (fs := [.int 0, .long 0, .int 0, .null, .int 0]) df_Value (by omega) (by omega) d_Tuple_init_24 (fun w6 hn8 e7 => ?_)
        have fr := fr.trans (Fr.sub (Fr.of1 e7) (by omega) (by omega))
        have h1 := Fr.cell (Fr.of1 e7) h1 (by omega)
        have h2 := Fr.cell (Fr.of1 e7) h2 (by omega)
        have hvs := Vals.fr (Fr.of1 e7) hvs (by omega)
        refine a_dup S d_Tuple_init_27 rfl ?_
        refine a_callIN S (rest := [_, _, _]) lg_Tuple_17 (c_Value_init X.2.1 D (a + 2 + 2 * i) w6 hn8) (by decide) (by omega) (by omega) rfl (Nat.le_of_ble_eq_true rfl) d_Tuple_init_28 (fun v9 w10 n11 p12 => ?_)
        obtain ⟨rfl, e14, f13, hv15⟩ := p12
        rw [e14]
        refine a_st (st' := [.ref (a + 2 + 2 * i), .int (nI i), .ref (a + 1)]) rfl ?_
        have fr := fr.trans (Fr.sub f13 (by omega) (by omega))
        have h1 := Fr.cell f13 h1 (by omega)
        have h2 := Fr.cell f13 h2 (by omega)
        have hvs := Vals.fr f13 hvs (by omega)
        refine a_aast S (i := i) (q := a + 2 + 2 * i) (t0 := 3) (ci := 2) (r := ("KeyCodec$Value", F_Value, 5)) rfl rfl hv15.cell h2 rfl (by omega) (by decide) d_Tuple_init_31 (fun w16 h2 e17 => ?_)
        have fr := fr.trans (Fr.sub (Fr.of1 e17) (by omega) (by omega))
        have h1 := Fr.cell (Fr.of1 e17) h1 (by omega)
        have hvs := Vals.fr (Fr.of1 e17) hvs (by omega)
        have hv15 := Val.fr (Fr.of1 e17) hv15 (by omega)
        refine a_iinc S (v := nI (i + 1)) d_Tuple_init_32 rfl (ni_add rfl (by decide)) (Nat.le_of_ble_eq_true rfl) (lv' := [(0, .ref a), (1, .int (nI (i + 1)))]) rfl ?_
        refine a_goto S (tgt := 14) d_Tuple_init_35 rfl ?_
        refine a_eqn (n2 := a + 2 + 2 * (i + 1)) (by omega) ?_
        refine a_wid (c2 := 1 + 2 * (i + 1)) (s2 := 5 + 15 * (i + 1)) (by omega) (by omega) ?_
        exact ih14 _ (by omega) (i + 1) w16 _ rfl (by omega) fr h1 h2 (fun j hj => by
          by_cases e : j = i
          · subst e; rw [va_up_self]
          · rw [va_up_ne _ _ e]; exact hf j (by omega)) (Vals.push hvs hv15)
  exact loop14 _ 0 w4 _ rfl (Nat.zero_le _) fr h1 hn3 (fun j hj => absurd hj (Nat.not_lt_zero j)) (fun j hj => absurd hj (Nat.not_lt_zero j))
set_option maxHeartbeats 400000 in
set_option maxRecDepth 100000 in
theorem c_Tuple_reset (l : Launch) (D : kD) (a : Nat) (T0 : Nat → kV) (w : ww) (n : Nat) (h : Tup D w a T0) : AM l D M_Tuple_reset 1 0 0 [.ref a] w n (fun v w' n' => v = none ∧ n' = n ∧ Fr w w' a 12 ∧ Tup D w' a (fun _ => (false, 0, 0, []))) := by
  refine AM.ofv (by decide +kernel) rfl (Nat.le_of_ble_eq_true rfl) (fun X A Q hin S RT => ?_)
  have S : FX X (D, A, 2, Q) prog_6_method_2_code "KeyCodec$Tuple" 1 0 0 := S
  have RT : RTv X (D, A, 2, Q) prog_6_method_2_code 0 0 _ := RT
  refine a_lve (lv' := [(0, .ref a)]) rfl ?_
  have fr : Fr w w a 12 := Fr.refl _ _ _
  refine a_iconst S (v := 0) d_Tuple_reset_0 (by decide) ?_
  refine a_istore_n S d_Tuple_reset_1 rfl (Nat.le_of_ble_eq_true rfl) (lv' := [(0, .ref a), (1, .int 0)]) rfl ?_
  have loop2 : ∀ (kk2 : Nat) (i : Nat) (w1 : ww) (T1 : Nat → kV), 5 - i = kk2 → (i ≤ 5) → (Fr w w1 a 12) → (Tup D w1 a T1) → (∀ j, j < i → T1 j = (false, 0, 0, [])) → AW X (D, A, 2, Q) 2 [(0, .ref a), (1, .int (nI i))] [] w1 n 0 0 := by
    intro kk2
    induction kk2 using Nat.strongRecOn with
    | ind kk2 ih2 =>
      intro i w1 T1 hk2 hi fr hT ht
      refine a_iload_n S d_Tuple_reset_2 rfl rfl ?_
      refine a_iconst S (v := 5) d_Tuple_reset_3 (by decide) ?_
      refine a_icmp_ge S (tgt := 24) d_Tuple_reset_4 rfl (fun h4 => ?_) (fun h4 => ?_)
      · have hi : i = 5 := Nat.le_antisymm hi ((nI_leI (by decide) (by omega)).mp h4)
        subst hi
        exact RT _ _ _ _ _ _ d_Tuple_reset_24 (by omega) (by omega) ⟨rfl, rfl, fr, hT.congr (fun j hj => (ht j (by omega)).symm)⟩
      · have hi : i < 5 := Nat.not_le.mp fun z => h4 ((nI_leI (by decide) (by omega)).mpr z)
        obtain ⟨⟨f, h1, h2, h3⟩, hvs⟩ := hT
        have hT : Tup D w1 a T1 := ⟨⟨f, h1, h2, h3⟩, hvs⟩
        have hv := hvs i hi
        refine a_aload_n S d_Tuple_reset_7 rfl rfl ?_
        refine a_get S kc_Tuple 0 (by decide) lf_Tuple_11 h1 rfl d_Tuple_reset_8 ?_
        refine a_iload_n S d_Tuple_reset_11 rfl rfl ?_
        refine a_aald S (i := i) (q := a + 2 + 2 * i) rfl h2 rfl (by omega) (by decide) (h3 i hi) d_Tuple_reset_12 ?_
        refine a_lconst S (v := 0) d_Tuple_reset_13 (by decide) ?_
        refine a_iconst S (v := 0) d_Tuple_reset_14 (by decide) ?_
        refine a_callV S (rest := []) lg_Tuple_18 hv.cell (c_Value_become X.2.1 D (a + 2 + 2 * i) (T1 i) 0 0 w1 n hv) (by decide) (by omega) (by omega) rfl (Nat.le_of_ble_eq_true rfl) d_Tuple_reset_15 (fun v1 w2 n3 p4 => ?_)
        obtain ⟨rfl, e6, f5, hv⟩ := p4
        rw [e6]
        refine a_st (st' := []) rfl ?_
        have fr := fr.trans (Fr.sub f5 (by omega) (by omega))
        have hT := Tup.put hT hi f5 hv
        refine a_iinc S (v := nI (i + 1)) d_Tuple_reset_18 rfl (ni_add rfl (by decide)) (Nat.le_of_ble_eq_true rfl) (lv' := [(0, .ref a), (1, .int (nI (i + 1)))]) rfl ?_
        refine a_goto S (tgt := 2) d_Tuple_reset_21 rfl ?_
        exact ih2 _ (by omega) (i + 1) w2 _ rfl (by omega) fr hT (fun j hj => by
          by_cases e : j = i
          · subst e; rw [va_up_self]
          · rw [va_up_ne _ _ e]; exact ht j (by omega))
  exact loop2 _ 0 w T0 rfl (Nat.zero_le _) (Fr.refl _ _ _) h (fun j hj => absurd hj (Nat.not_lt_zero j))
set_option maxHeartbeats 400000 in
set_option maxRecDepth 100000 in
theorem c_Tuple_become (l : Launch) (D : kD) (a b : Nat) (T0 T2 : Nat → kV) (w : ww) (n : Nat) (hd : a + 12 ≤ b ∨ b + 12 ≤ a) (h : Tup D w a T0) (h0 : Tup D w b T2) : AM l D M_Tuple_become 2 0 0 [.ref a, .ref b] w n (fun v w' n' => v = none ∧ n' = n ∧ Fr w w' a 12 ∧ Tup D w' a T2) := by
  refine AM.ofv (by decide +kernel) rfl (Nat.le_of_ble_eq_true rfl) (fun X A Q hin S RT => ?_)
  have S : FX X (D, A, 3, Q) prog_6_method_3_code "KeyCodec$Tuple" 2 0 0 := S
  have RT : RTv X (D, A, 3, Q) prog_6_method_3_code 0 0 _ := RT
  refine a_lve (lv' := [(0, .ref a), (1, .ref b)]) rfl ?_
  have fr : Fr w w a 12 := Fr.refl _ _ _
  refine a_iconst S (v := 0) d_Tuple_become_0 (by decide) ?_
  refine a_istore_n S d_Tuple_become_1 rfl (Nat.le_of_ble_eq_true rfl) (lv' := [(0, .ref a), (1, .ref b), (2, .int 0)]) rfl ?_
  have loop2 : ∀ (kk2 : Nat) (i : Nat) (w1 : ww) (T1 : Nat → kV), 5 - i = kk2 → (i ≤ 5) → (Fr w w1 a 12) → (Tup D w1 a T1) → (Tup D w1 b T2) → (∀ j, j < i → T1 j = T2 j) → AW X (D, A, 3, Q) 2 [(0, .ref a), (1, .ref b), (2, .int (nI i))] [] w1 n 0 0 := by
    intro kk2
    induction kk2 using Nat.strongRecOn with
    | ind kk2 ih2 =>
      intro i w1 T1 hk2 hi fr hT hU ht
      refine a_iload_n S d_Tuple_become_2 rfl rfl ?_
      refine a_iconst S (v := 5) d_Tuple_become_3 (by decide) ?_
      refine a_icmp_ge S (tgt := 28) d_Tuple_become_4 rfl (fun h4 => ?_) (fun h4 => ?_)
      · have hi : i = 5 := Nat.le_antisymm hi ((nI_leI (by decide) (by omega)).mp h4)
        subst hi
        exact RT _ _ _ _ _ _ d_Tuple_become_28 (by omega) (by omega) ⟨rfl, rfl, fr, hT.congr (fun j hj => (ht j (by omega)).symm)⟩
      · have hi : i < 5 := Nat.not_le.mp fun z => h4 ((nI_leI (by decide) (by omega)).mpr z)
        obtain ⟨⟨f, h1, h2, h3⟩, hvs⟩ := hT
        have hT : Tup D w1 a T1 := ⟨⟨f, h1, h2, h3⟩, hvs⟩
        have hv := hvs i hi
        obtain ⟨⟨g, g1, g2, g3⟩, gvs⟩ := hU
        have hU : Tup D w1 b T2 := ⟨⟨g, g1, g2, g3⟩, gvs⟩
        have gv := gvs i hi
        refine a_aload_n S d_Tuple_become_7 rfl rfl ?_
        refine a_get S kc_Tuple 0 (by decide) lf_Tuple_11 h1 rfl d_Tuple_become_8 ?_
        refine a_iload_n S d_Tuple_become_11 rfl rfl ?_
        refine a_aald S (i := i) (q := a + 2 + 2 * i) rfl h2 rfl (by omega) (by decide) (h3 i hi) d_Tuple_become_12 ?_
        refine a_aload_n S d_Tuple_become_13 rfl rfl ?_
        refine a_get S kc_Tuple 0 (by decide) lf_Tuple_11 g1 rfl d_Tuple_become_14 ?_
        refine a_iload_n S d_Tuple_become_17 rfl rfl ?_
        refine a_aald S (i := i) (q := b + 2 + 2 * i) rfl g2 rfl (by omega) (by decide) (g3 i hi) d_Tuple_become_18 ?_
        refine a_callV S (rest := []) lg_Tuple_22 hv.cell (c_Value_copy X.2.1 D (a + 2 + 2 * i) (b + 2 + 2 * i) (T1 i) (T2 i) w1 n (by omega) hv gv) (by decide) (by omega) (by omega) rfl (Nat.le_of_ble_eq_true rfl) d_Tuple_become_19 (fun v1 w2 n3 p4 => ?_)
        obtain ⟨rfl, e6, f5, hv⟩ := p4
        rw [e6]
        refine a_st (st' := []) rfl ?_
        have fr := fr.trans (Fr.sub f5 (by omega) (by omega))
        have hU := Tup.fr f5 hU (by omega)
        have hT := Tup.put hT hi f5 hv
        refine a_iinc S (v := nI (i + 1)) d_Tuple_become_22 rfl (ni_add rfl (by decide)) (Nat.le_of_ble_eq_true rfl) (lv' := [(0, .ref a), (1, .ref b), (2, .int (nI (i + 1)))]) rfl ?_
        refine a_goto S (tgt := 2) d_Tuple_become_25 rfl ?_
        exact ih2 _ (by omega) (i + 1) w2 _ rfl (by omega) fr hT hU (fun j hj => by
          by_cases e : j = i
          · subst e; rw [va_up_self]
          · rw [va_up_ne _ _ e]; exact ht j (by omega))
  exact loop2 _ 0 w T0 rfl (Nat.zero_le _) (Fr.refl _ _ _) h h0 (fun j hj => absurd hj (Nat.not_lt_zero j))
