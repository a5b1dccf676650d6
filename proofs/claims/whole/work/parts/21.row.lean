set_option maxHeartbeats 400000 in
set_option maxRecDepth 100000 in
theorem c_Row_init (l : Launch) (D : kD) (a : Nat) (w : ww) (h1 : w a = some (.inr (1, [.null, .int 0]))) : AM l D M_Row_init 1 1 120 [.ref a] w (a + 1) (fun v w' n' => v = none ∧ n' = a + 2 ∧ Fr w w' a 2 ∧ Row D w' a []) := by
  refine AM.ofv (by decide +kernel) rfl (Nat.le_of_ble_eq_true rfl) (fun X A Q hin S RT => ?_)
  have S : FX X (D, A, 1, Q) prog_4_method_1_code "KeyCodec$Row" 1 1 120 := S
  have RT : RTv X (D, A, 1, Q) prog_4_method_1_code 1 120 _ := RT
  refine a_lve (lv' := [(0, .ref a)]) rfl ?_
  have fr : Fr w w a 2 := Fr.refl _ _ _
  refine a_aload_n S d_Row_init_0 rfl rfl ?_
  refine a_objInit S lo_Row_3 ts_oi1 ts_oi2 (by decide) (Nat.le_of_ble_eq_true rfl) d_Row_init_1 ?_
  refine a_aload_n S d_Row_init_4 rfl rfl ?_
  refine a_bipush S (v := 120) d_Row_init_5 (by decide) ?_
  refine a_newa S (at0 := .int) (ty := .int) (t0 := 0) (N := 120) (a0 := (120, .inl (fun _ => 0))) rfl rfl (fun _ _ h => h) ar_int (fun _ => rfl) rfl (by decide) (by decide) (by omega) (by omega) d_Row_init_7 (fun w1 hn3 e2 => ?_)
  have fr := fr.trans (Fr.sub (Fr.of1 e2) (by omega) (by omega))
  have h1 := Fr.cell (Fr.of1 e2) h1 (by omega)
  refine a_putF S hin kc_Row kt_Row 0 (by decide) lf_Row_9 rfl rfl h1 rfl rfl (Nat.le_of_ble_eq_true rfl) d_Row_init_9 (fun w4 h1 e5 => ?_)
  have h1 : w4 a = some (.inr (1, [.ref (a + 1), .int 0])) := h1
  have fr := fr.trans (Fr.sub (Fr.of1 e5) (by omega) (by omega))
  have hn3 := Fr.cell (Fr.of1 e5) hn3 (by omega)
  refine a_aload_n S d_Row_init_12 rfl rfl ?_
  refine a_iconst S (v := 0) d_Row_init_13 (by decide) ?_
  refine a_put S kc_Row kt_Row 1 (by decide) lf_Row_15 rfl h1 rfl rfl (Nat.le_of_ble_eq_true rfl) d_Row_init_14 (fun w6 h1 e7 => ?_)
  have h1 : w6 a = some (.inr (1, [.ref (a + 1), .int 0])) := h1
  have fr := fr.trans (Fr.sub (Fr.of1 e7) (by omega) (by omega))
  have hn3 := Fr.cell (Fr.of1 e7) hn3 (by omega)
  exact RT _ _ _ _ _ _ d_Row_init_17 (by omega) (by omega) ⟨rfl, rfl, fr, by decide, (fun b h => by cases h), _, h1, hn3, Arr.nil _⟩
set_option maxHeartbeats 400000 in
set_option maxRecDepth 100000 in
theorem c_Row_empty (l : Launch) (D : kD) (a : Nat) (l0 : List Nat) (w : ww) (n : Nat) (h : Row D w a l0) : AM l D M_Row_empty 0 0 0 [.ref a] w n (fun v w' n' => v = none ∧ n' = n ∧ Fr w w' a 2 ∧ Row D w' a []) := by
  refine AM.ofv (by decide +kernel) rfl (Nat.le_of_ble_eq_true rfl) (fun X A Q hin S RT => ?_)
  have S : FX X (D, A, 1, Q) prog_4_method_2_code "KeyCodec$Row" 0 0 0 := S
  have RT : RTv X (D, A, 1, Q) prog_4_method_2_code 0 0 _ := RT
  obtain ⟨hlen, hby, f, h1, h2, hf⟩ := h
  refine a_lve (lv' := [(0, .ref a)]) rfl ?_
  have fr : Fr w w a 2 := Fr.refl _ _ _
  refine a_aload_n S d_Row_empty_0 rfl rfl ?_
  refine a_iconst S (v := 0) d_Row_empty_1 (by decide) ?_
  refine a_put S kc_Row kt_Row 1 (by decide) lf_Row_15 rfl h1 rfl rfl (Nat.le_of_ble_eq_true rfl) d_Row_empty_2 (fun w1 h1 e2 => ?_)
  have h1 : w1 a = some (.inr (1, [.ref (a + 1), .int 0])) := h1
  have fr := fr.trans (Fr.sub (Fr.of1 e2) (by omega) (by omega))
  have h2 := Fr.cell (Fr.of1 e2) h2 (by omega)
  exact RT _ _ _ _ _ _ d_Row_empty_5 (by omega) (by omega) ⟨rfl, rfl, fr, by decide, (fun b h => by cases h), _, h1, h2, Arr.nil _⟩
set_option maxHeartbeats 400000 in
set_option maxRecDepth 100000 in
theorem c_Row_hasRoomFor (l : Launch) (D : kD) (a : Nat) (l0 : List Nat) (k : Int32) (w : ww) (n : Nat) (h : Row D w a l0) : AM l D M_Row_hasRoomFor 0 0 0 [.ref a, .int k] w n (fun v w' n' => v = some (.int (if k ≤ nI (120 - l0.length) then 1 else 0)) ∧ w' = w ∧ n' = n) := by
  refine AM.ofz (by decide +kernel) rfl (Nat.le_of_ble_eq_true rfl) (fun X A Q hin S RT => ?_)
  have S : FX X (D, A, 2, Q) prog_4_method_3_code "KeyCodec$Row" 0 0 0 := S
  have RT : RTz X (D, A, 2, Q) prog_4_method_3_code 0 0 _ := RT
  obtain ⟨hlen, hby, f, h1, h2, hf⟩ := h
  refine a_lve (lv' := [(0, .ref a), (1, .int k)]) rfl ?_
  refine a_iload_n S d_Row_hasRoomFor_0 rfl rfl ?_
  refine a_bipush S (v := 120) d_Row_hasRoomFor_1 (by decide) ?_
  refine a_aload_n S d_Row_hasRoomFor_3 rfl rfl ?_
  refine a_get S kc_Row 1 (by decide) lf_Row_15 h1 rfl d_Row_hasRoomFor_4 ?_
  refine a_isub S d_Row_hasRoomFor_7 ?_
  refine a_icmp_gt S (tgt := 15) d_Row_hasRoomFor_8 rfl (fun h8 => ?_) (fun h8 => ?_)
  · rw [show (120 : Int32) - nI l0.length = nI (120 - l0.length) from ni_sub rfl rfl hlen] at h8
    refine a_iconst S (v := 0) d_Row_hasRoomFor_15 (by decide) ?_
    exact RT _ _ _ _ _ _ _ d_Row_hasRoomFor_16 rfl (by omega) (by omega) ⟨by rw [if_neg (k2_nle h8)], rfl, rfl⟩
  · rw [show (120 : Int32) - nI l0.length = nI (120 - l0.length) from ni_sub rfl rfl hlen] at h8
    refine a_iconst S (v := 1) d_Row_hasRoomFor_11 (by decide) ?_
    refine a_goto S (tgt := 16) d_Row_hasRoomFor_12 rfl ?_
    exact RT _ _ _ _ _ _ _ d_Row_hasRoomFor_16 rfl (by omega) (by omega) ⟨by rw [if_pos (k2_le h8)], rfl, rfl⟩
set_option maxHeartbeats 400000 in
set_option maxRecDepth 100000 in
theorem c_Row_append (l : Launch) (D : kD) (a : Nat) (l0 : List Nat) (b : Int32) (w : ww) (n : Nat) (h : Row D w a l0) : AM l D M_Row_append 0 0 0 [.ref a, .int b] w n (fun v w' n' => v = none ∧ n' = n ∧ Fr w w' a 2 ∧ Row D w' a (ap l0 [by8 b])) := by
  refine AM.ofv (by decide +kernel) rfl (Nat.le_of_ble_eq_true rfl) (fun X A Q hin S RT => ?_)
  have S : FX X (D, A, 2, Q) prog_4_method_4_code "KeyCodec$Row" 0 0 0 := S
  have RT : RTv X (D, A, 2, Q) prog_4_method_4_code 0 0 _ := RT
  obtain ⟨hlen, hby, f, h1, h2, hf⟩ := h
  refine a_lve (lv' := [(0, .ref a), (1, .int b)]) rfl ?_
  have fr : Fr w w a 2 := Fr.refl _ _ _
  refine a_aload_n S d_Row_append_0 rfl rfl ?_
  refine a_get S kc_Row 1 (by decide) lf_Row_15 h1 rfl d_Row_append_1 ?_
  refine a_bipush S (v := 120) d_Row_append_4 (by decide) ?_
  refine a_icmp_ge S (tgt := 33) d_Row_append_6 rfl (fun h6 => ?_) (fun h6 => ?_)
  · have hl : l0.length = 120 := Nat.le_antisymm hlen ((nI_leI (by decide) (by omega)).mp h6)
    exact RT _ _ _ _ _ _ d_Row_append_33 (by omega) (by omega) ⟨rfl, rfl, fr, by rw [ap_full hl]; exact ⟨hlen, hby, f, h1, h2, hf⟩⟩
  · have hl : l0.length < 120 := Nat.not_le.mp fun z => h6 ((nI_leI (by decide) (by omega)).mpr z)
    refine a_aload_n S d_Row_append_9 rfl rfl ?_
    refine a_get S kc_Row 0 (by decide) lf_Row_9 h1 rfl d_Row_append_10 ?_
    refine a_aload_n S d_Row_append_13 rfl rfl ?_
    refine a_get S kc_Row 1 (by decide) lf_Row_15 h1 rfl d_Row_append_14 ?_
    refine a_iload_n S d_Row_append_17 rfl rfl ?_
    refine a_sipush S (v := 255) d_Row_append_18 (by decide) ?_
    refine a_iand S d_Row_append_21 ?_
    refine a_eqi (by8_and b) ?_
    refine a_iast S (i := l0.length) h2 rfl (by omega) (by decide) d_Row_append_22 (fun w1 h2 e2 => ?_)
    have fr := fr.trans (Fr.sub (Fr.of1 e2) (by omega) (by omega))
    have h1 := Fr.cell (Fr.of1 e2) h1 (by omega)
    refine a_aload_n S d_Row_append_23 rfl rfl ?_
    refine a_dup S d_Row_append_24 rfl ?_
    refine a_get S kc_Row 1 (by decide) lf_Row_15 h1 rfl d_Row_append_25 ?_
    refine a_iconst S (v := 1) d_Row_append_28 (by decide) ?_
    refine a_iadd S d_Row_append_29 ?_
    refine a_put S kc_Row kt_Row 1 (by decide) lf_Row_15 rfl h1 rfl rfl (Nat.le_of_ble_eq_true rfl) d_Row_append_30 (fun w3 h1 e4 => ?_)
    have h1 : w3 a = some (.inr (1, [.ref (a + 1), .int (nI l0.length + 1)])) := h1
    have fr := fr.trans (Fr.sub (Fr.of1 e4) (by omega) (by omega))
    have h2 := Fr.cell (Fr.of1 e4) h2 (by omega)
    exact RT _ _ _ _ _ _ d_Row_append_33 (by omega) (by omega) ⟨rfl, rfl, fr, ap_len _ _, ap_lt hby (fun x hx => by rw [List.mem_singleton.mp hx]; exact by8_lt b), _, (by rw [ap_eq (by simp; omega), List.length_append, List.length_singleton, nI_succ]; exact h1), h2, (by rw [ap_eq (by simp; omega)]; exact hf.push _)⟩
set_option maxHeartbeats 400000 in
set_option maxRecDepth 100000 in
theorem c_Integer_compare (l : Launch) (D : kD) (x y : Int32) (w : ww) (n : Nat)  : AM l D M_Integer_compare 0 0 0 [.int x, .int y] w n (fun v w' n' => v = some (.int (ci32 x y)) ∧ w' = w ∧ n' = n) := by
  refine AM.ofi (by decide +kernel) rfl (Nat.le_of_ble_eq_true rfl) (fun X A Q hin S RT => ?_)
  have S : FX X (D, A, 2, Q) prog_13_method_40_code "java/lang/Integer" 0 0 0 := S
  have RT : RTi X (D, A, 2, Q) prog_13_method_40_code 0 0 _ := RT
  refine a_lve (lv' := [(0, .int x), (1, .int y)]) rfl ?_
  refine a_iload_n S d_Integer_compare_0 rfl rfl ?_
  refine a_iload_n S d_Integer_compare_1 rfl rfl ?_
  refine a_icmp_ge S (tgt := 9) d_Integer_compare_2 rfl (fun h2 => ?_) (fun h2 => ?_)
  · refine a_iload_n S d_Integer_compare_9 rfl rfl ?_
    refine a_iload_n S d_Integer_compare_10 rfl rfl ?_
    refine a_icmp_ne S (tgt := 18) d_Integer_compare_11 rfl (fun h11 => ?_) (fun h11 => ?_)
    · refine a_iconst S (v := 1) d_Integer_compare_18 (by decide) ?_
      exact RT _ _ _ _ _ _ _ d_Integer_compare_19 (by omega) (by omega) ⟨by unfold ci32; rw [if_neg (k2_nlt h2), if_neg h11], rfl, rfl⟩
    · refine a_iconst S (v := 0) d_Integer_compare_14 (by decide) ?_
      refine a_goto S (tgt := 19) d_Integer_compare_15 rfl ?_
      exact RT _ _ _ _ _ _ _ d_Integer_compare_19 (by omega) (by omega) ⟨by unfold ci32; rw [if_neg (k2_nlt h2), if_pos h11], rfl, rfl⟩
  · refine a_iconst S (v := (-1)) d_Integer_compare_5 (by decide) ?_
    refine a_goto S (tgt := 19) d_Integer_compare_6 rfl ?_
    exact RT _ _ _ _ _ _ _ d_Integer_compare_19 (by omega) (by omega) ⟨by unfold ci32; rw [if_pos (k2_lt h2)], rfl, rfl⟩
set_option maxHeartbeats 400000 in
set_option maxRecDepth 100000 in
theorem c_Row_byteAt (l : Launch) (D : kD) (a : Nat) (l0 : List Nat) (i : Int32) (w : ww) (n : Nat) (h : Row D w a l0) : AM l D M_Row_byteAt 0 0 0 [.ref a, .int i] w n (fun v w' n' => v = some (.int (atB l0 i)) ∧ w' = w ∧ n' = n) := by
  refine AM.ofi (by decide +kernel) rfl (Nat.le_of_ble_eq_true rfl) (fun X A Q hin S RT => ?_)
  have S : FX X (D, A, 2, Q) prog_4_method_6_code "KeyCodec$Row" 0 0 0 := S
  have RT : RTi X (D, A, 2, Q) prog_4_method_6_code 0 0 _ := RT
  obtain ⟨hlen, hby, f, h1, h2, hf⟩ := h
  refine a_lve (lv' := [(0, .ref a), (1, .int i)]) rfl ?_
  refine a_iload_n S d_Row_byteAt_0 rfl rfl ?_
  refine a_if_lt S (tgt := 21) d_Row_byteAt_1 rfl (fun hneg => ?_) (fun hneg => ?_)
  · refine a_iconst S (v := (-1)) d_Row_byteAt_21 (by decide) ?_
    exact RT _ _ _ _ _ _ _ d_Row_byteAt_22 (by omega) (by omega) ⟨by rw [atB_neg hneg], rfl, rfl⟩
  · refine a_iload_n S d_Row_byteAt_4 rfl rfl ?_
    refine a_aload_n S d_Row_byteAt_5 rfl rfl ?_
    refine a_get S kc_Row 1 (by decide) lf_Row_15 h1 rfl d_Row_byteAt_6 ?_
    refine a_icmp_ge S (tgt := 21) d_Row_byteAt_9 rfl (fun h9 => ?_) (fun h9 => ?_)
    · refine a_iconst S (v := (-1)) d_Row_byteAt_21 (by decide) ?_
      exact RT _ _ _ _ _ _ _ d_Row_byteAt_22 (by omega) (by omega) ⟨by rw [atB_big h9], rfl, rfl⟩
    · obtain ⟨j, hj, rfl⟩ := row_ix hneg h9 (by omega)
      refine a_aload_n S d_Row_byteAt_12 rfl rfl ?_
      refine a_get S kc_Row 0 (by decide) lf_Row_9 h1 rfl d_Row_byteAt_13 ?_
      refine a_iload_n S d_Row_byteAt_16 rfl rfl ?_
      refine a_iald S (i := j) h2 rfl (by omega) (by decide) d_Row_byteAt_17 ?_
      refine a_eqi (hf j hj) ?_
      refine a_goto S (tgt := 22) d_Row_byteAt_18 rfl ?_
      exact RT _ _ _ _ _ _ _ d_Row_byteAt_22 (by omega) (by omega) ⟨by rw [atB_in hj (by omega)], rfl, rfl⟩
set_option maxHeartbeats 400000 in
set_option maxRecDepth 100000 in
theorem c_Row_sharedWith (l : Launch) (D : kD) (a b : Nat) (l0 r0 : List Nat) (w : ww) (n : Nat) (h : Row D w a l0) (h0 : Row D w b r0) : AM l D M_Row_sharedWith 1 0 0 [.ref a, .ref b] w n (fun v w' n' => v = some (.int (nI (shrB l0 r0))) ∧ w' = w ∧ n' = n) := by
  refine AM.ofi (by decide +kernel) rfl (Nat.le_of_ble_eq_true rfl) (fun X A Q hin S RT => ?_)
  have S : FX X (D, A, 4, Q) prog_4_method_7_code "KeyCodec$Row" 1 0 0 := S
  have RT : RTi X (D, A, 4, Q) prog_4_method_7_code 0 0 _ := RT
  obtain ⟨hlen, hby, f, h1, h2, hf⟩ := h
  obtain ⟨hlen2, hby2, g, g1, g2, hg⟩ := h0
  obtain ⟨m, hm⟩ : ∃ m, m = min l0.length r0.length := ⟨_, rfl⟩
  refine a_lve (lv' := [(0, .ref a), (1, .ref b)]) rfl ?_
  refine a_aload_n S d_Row_sharedWith_0 rfl rfl ?_
  refine a_get S kc_Row 1 (by decide) lf_Row_15 h1 rfl d_Row_sharedWith_1 ?_
  refine a_aload_n S d_Row_sharedWith_4 rfl rfl ?_
  refine a_get S kc_Row 1 (by decide) lf_Row_15 g1 rfl d_Row_sharedWith_5 ?_
  refine a_mmin S lm_Row_23 ts_min1 ts_math ts_min2 (by decide) (by omega) (by omega) (Nat.le_of_ble_eq_true rfl) d_Row_sharedWith_8 ?_
  refine a_eqi (y := nI m) (by rw [hm]; exact mn_eq (by omega) (by omega)) ?_
  refine a_istore_n S d_Row_sharedWith_11 rfl (Nat.le_of_ble_eq_true rfl) (lv' := [(0, .ref a), (1, .ref b), (2, .int (nI m))]) rfl ?_
  refine a_iconst S (v := 0) d_Row_sharedWith_12 (by decide) ?_
  refine a_istore_n S d_Row_sharedWith_13 rfl (Nat.le_of_ble_eq_true rfl) (lv' := [(0, .ref a), (1, .ref b), (2, .int (nI m)), (3, .int 0)]) rfl ?_
  have loop14 : ∀ (kk14 : Nat) (i : Nat), m - i = kk14 → (i ≤ m) → (shrB l0 r0 = i + shrB (l0.drop i) (r0.drop i)) → AW X (D, A, 4, Q) 14 [(0, .ref a), (1, .ref b), (2, .int (nI m)), (3, .int (nI i))] [] w n 0 0 := by
    intro kk14
    induction kk14 using Nat.strongRecOn with
    | ind kk14 ih14 =>
      intro i hk14 hi hs
      refine a_iload_n S d_Row_sharedWith_14 rfl rfl ?_
      refine a_iload_n S d_Row_sharedWith_15 rfl rfl ?_
      refine a_icmp_ge S (tgt := 42) d_Row_sharedWith_16 rfl (fun h16 => ?_) (fun h16 => ?_)
      · have hi : i = m := Nat.le_antisymm hi ((nI_leI (by omega) (by omega)).mp h16)
        refine a_iload_n S d_Row_sharedWith_42 rfl rfl ?_
        exact RT _ _ _ _ _ _ _ d_Row_sharedWith_43 (by omega) (by omega) ⟨by rw [hs, shr_end (by omega), ← hi]; rfl, rfl, rfl⟩
      · have hi : i < m := Nat.not_le.mp fun z => h16 ((nI_leI (by omega) (by omega)).mpr z)
        refine a_aload_n S d_Row_sharedWith_19 rfl rfl ?_
        refine a_get S kc_Row 0 (by decide) lf_Row_9 h1 rfl d_Row_sharedWith_20 ?_
        refine a_iload_n S d_Row_sharedWith_23 rfl rfl ?_
        refine a_iald S (i := i) h2 rfl (by omega) (by decide) d_Row_sharedWith_24 ?_
        refine a_eqi (hf i (by omega)) ?_
        refine a_aload_n S d_Row_sharedWith_25 rfl rfl ?_
        refine a_get S kc_Row 0 (by decide) lf_Row_9 g1 rfl d_Row_sharedWith_26 ?_
        refine a_iload_n S d_Row_sharedWith_29 rfl rfl ?_
        refine a_iald S (i := i) g2 rfl (by omega) (by decide) d_Row_sharedWith_30 ?_
        refine a_eqi (hg i (by omega)) ?_
        refine a_icmp_eq S (tgt := 36) d_Row_sharedWith_31 rfl (fun h31 => ?_) (fun h31 => ?_)
        · have h31 := nI_byte (getD_lt hby i) (getD_lt hby2 i) h31
          refine a_iinc S (v := nI (i + 1)) d_Row_sharedWith_36 rfl (ni_add rfl (by decide)) (Nat.le_of_ble_eq_true rfl) (lv' := [(0, .ref a), (1, .ref b), (2, .int (nI m)), (3, .int (nI (i + 1)))]) rfl ?_
          refine a_goto S (tgt := 14) d_Row_sharedWith_39 rfl ?_
          exact ih14 _ (by omega) (i + 1) rfl (by omega) (by rw [hs, shr_step (by omega) (by omega) h31]; omega)
        · have h31 : ¬ l0.getD i 0 = r0.getD i 0 := fun z => h31 (by rw [z])
          refine a_iload_n S d_Row_sharedWith_34 rfl rfl ?_
          exact RT _ _ _ _ _ _ _ d_Row_sharedWith_35 (by omega) (by omega) ⟨by rw [hs, shr_stop (by omega) (by omega) h31]; rfl, rfl, rfl⟩
  exact loop14 _ 0 rfl (Nat.zero_le _) (by simp)
set_option maxHeartbeats 400000 in
set_option maxRecDepth 100000 in
theorem c_Row_orderAgainst (l : Launch) (D : kD) (a b : Nat) (l0 r0 : List Nat) (w : ww) (n : Nat) (h : Row D w a l0) (h0 : Row D w b r0) : AM l D M_Row_orderAgainst 2 0 0 [.ref a, .ref b] w n (fun v w' n' => v = some (.int (Int32.ofInt (cmpB l0 r0))) ∧ w' = w ∧ n' = n) := by
  refine AM.ofi (by decide +kernel) rfl (Nat.le_of_ble_eq_true rfl) (fun X A Q hin S RT => ?_)
  have S : FX X (D, A, 3, Q) prog_4_method_8_code "KeyCodec$Row" 2 0 0 := S
  have RT : RTi X (D, A, 3, Q) prog_4_method_8_code 0 0 _ := RT
  refine a_lve (lv' := [(0, .ref a), (1, .ref b)]) rfl ?_
  refine a_aload_n S d_Row_orderAgainst_0 rfl rfl ?_
  refine a_aload_n S d_Row_orderAgainst_1 rfl rfl ?_
  refine a_callV S (rest := []) lg_Row_29 h.cell (c_Row_sharedWith X.2.1 D a b l0 r0 w n h h0) (by decide) (by omega) (by omega) rfl (Nat.le_of_ble_eq_true rfl) d_Row_orderAgainst_2 (fun v1 w2 n3 p4 => ?_)
  obtain ⟨rfl, e5, e6⟩ := p4
  rw [e5, e6]
  refine a_st (st' := [.int (nI (shrB l0 r0))]) rfl ?_
  refine a_istore_n S d_Row_orderAgainst_5 rfl (Nat.le_of_ble_eq_true rfl) (lv' := [(0, .ref a), (1, .ref b), (2, .int (nI (shrB l0 r0)))]) rfl ?_
  refine a_aload_n S d_Row_orderAgainst_6 rfl rfl ?_
  refine a_iload_n S d_Row_orderAgainst_7 rfl rfl ?_
  refine a_callV S (rest := []) lg_Row_33 h.cell (c_Row_byteAt X.2.1 D a l0 (nI (shrB l0 r0)) w n h) (by decide) (by omega) (by omega) rfl (Nat.le_of_ble_eq_true rfl) d_Row_orderAgainst_8 (fun v7 w8 n9 p10 => ?_)
  obtain ⟨rfl, e11, e12⟩ := p10
  rw [e11, e12]
  refine a_st (st' := [.int (atB l0 (nI (shrB l0 r0)))]) rfl ?_
  refine a_aload_n S d_Row_orderAgainst_11 rfl rfl ?_
  refine a_iload_n S d_Row_orderAgainst_12 rfl rfl ?_
  refine a_callV S (rest := [_]) lg_Row_33 h0.cell (c_Row_byteAt X.2.1 D b r0 (nI (shrB l0 r0)) w n h0) (by decide) (by omega) (by omega) rfl (Nat.le_of_ble_eq_true rfl) d_Row_orderAgainst_13 (fun v13 w14 n15 p16 => ?_)
  obtain ⟨rfl, e17, e18⟩ := p16
  rw [e17, e18]
  refine a_st (st' := [.int (atB r0 (nI (shrB l0 r0))), .int (atB l0 (nI (shrB l0 r0)))]) rfl ?_
  refine a_callS S (rest := []) lg_Row_37 (c_Integer_compare X.2.1 D (atB l0 (nI (shrB l0 r0))) (atB r0 (nI (shrB l0 r0))) w n) (by decide) (by omega) (by omega) rfl (Nat.le_of_ble_eq_true rfl) d_Row_orderAgainst_16 (fun v19 w20 n21 p22 => ?_)
  obtain ⟨rfl, e23, e24⟩ := p22
  rw [e23, e24]
  refine a_st (st' := [.int (ci32 (atB l0 (nI (shrB l0 r0))) (atB r0 (nI (shrB l0 r0))))]) rfl ?_
  exact RT _ _ _ _ _ _ _ d_Row_orderAgainst_19 (by omega) (by omega) ⟨by rw [ord_at h.1 h0.1 h.2.1 h0.2.1], rfl, rfl⟩
set_option maxHeartbeats 400000 in
set_option maxRecDepth 100000 in
theorem c_Row_appendLowest (l : Launch) (D : kD) (a : Nat) (l0 : List Nat) (k : Nat) (v : Int64) (t : Nat) (w : ww) (n : Nat) (hk : k ≤ 8) (ht : t = 0 ∨ t = 255) (h : Row D w a l0) : AM l D M_Row_appendLowest 1 0 0 [.ref a, .int (nI k), .long v, .int (nI t)] w n (fun v' w' n' => v' = none ∧ n' = n ∧ Fr w w' a 2 ∧ Row D w' a (ap l0 ((be k (uL v)).map (tnB t)))) := by
  refine AM.ofv (by decide +kernel) rfl (Nat.le_of_ble_eq_true rfl) (fun X A Q hin S RT => ?_)
  have S : FX X (D, A, 6, Q) prog_4_method_5_code "KeyCodec$Row" 1 0 0 := S
  have RT : RTv X (D, A, 6, Q) prog_4_method_5_code 0 0 _ := RT
  refine a_lve (lv' := [(0, .ref a), (1, .int (nI k)), (2, .long v), (4, .int (nI t))]) rfl ?_
  have fr : Fr w w a 2 := Fr.refl _ _ _
  refine a_iload_n S d_Row_appendLowest_0 rfl rfl ?_
  refine a_iconst S (v := 1) d_Row_appendLowest_1 (by decide) ?_
  refine a_isub S d_Row_appendLowest_2 ?_
  refine a_istore S d_Row_appendLowest_3 (Nat.le_of_ble_eq_true rfl) (lv' := [(0, .ref a), (1, .int (nI k)), (2, .long v), (4, .int (nI t)), (5, .int (nI k - 1))]) rfl ?_
  have loop5 : ∀ (kk5 : Nat) (j : Nat) (w1 : ww) (l1 : List Nat), j = kk5 → (j ≤ 8) → (Fr w w1 a 2) → (Row D w1 a l1) → (ap l1 ((be j (uL v)).map (tnB t)) = ap l0 ((be k (uL v)).map (tnB t))) → AW X (D, A, 6, Q) 5 [(0, .ref a), (1, .int (nI k)), (2, .long v), (4, .int (nI t)), (5, .int (nI j - 1))] [] w1 n 0 0 := by
    intro kk5
    induction kk5 using Nat.strongRecOn with
    | ind kk5 ih5 =>
      intro j w1 l1 hk5 hj fr hr he
      refine a_iload S d_Row_appendLowest_5 rfl ?_
      refine a_if_lt S (tgt := 31) d_Row_appendLowest_7 rfl (fun h7 => ?_) (fun h7 => ?_)
      · have hj0 : j = 0 := Nat.eq_zero_of_not_pos fun z => absurd h7 (k2_nlt (by obtain ⟨i, rfl⟩ : ∃ i, j = i + 1 := ⟨j - 1, by omega⟩; rw [nI_pred]; exact nI_pos' (by omega)))
        subst hj0
        rw [show ap l1 ((be 0 (uL v)).map (tnB t)) = l1 from ap_nil hr.1] at he
        rw [he] at hr
        exact RT _ _ _ _ _ _ d_Row_appendLowest_31 (by omega) (by omega) ⟨rfl, rfl, fr, hr⟩
      · obtain ⟨i, rfl⟩ : ∃ i, j = i + 1 := ⟨j - 1, by have : j ≠ 0 := (fun z => h7 (by subst z; decide)); omega⟩
        refine a_lve (lv' := [(0, .ref a), (1, .int (nI k)), (2, .long v), (4, .int (nI t)), (5, .int (nI i))]) (by rw [nI_pred]) ?_
        refine a_aload_n S d_Row_appendLowest_10 rfl rfl ?_
        refine a_lload_n S d_Row_appendLowest_11 rfl rfl ?_
        refine a_bipush S (v := 8) d_Row_appendLowest_12 (by decide) ?_
        refine a_iload S d_Row_appendLowest_14 rfl ?_
        refine a_imul S d_Row_appendLowest_16 ?_
        refine a_lushr S d_Row_appendLowest_17 rfl ?_
        refine a_l2i S d_Row_appendLowest_18 ?_
        refine a_iload S d_Row_appendLowest_19 rfl ?_
        refine a_ixor S d_Row_appendLowest_21 ?_
        refine a_callV S (rest := []) lg_Row_19 hr.cell (c_Row_append X.2.1 D a l1 (((v.toUInt64 >>> ((8 * nI i).toInt64.toUInt64 &&& Int64.toUInt64 63)).toInt64).toInt32 ^^^ nI t) w1 n hr) (by decide) (by omega) (by omega) rfl (Nat.le_of_ble_eq_true rfl) d_Row_appendLowest_22 (fun v1 w2 n3 p4 => ?_)
        obtain ⟨rfl, e6, f5, hr⟩ := p4
        rw [e6]
        refine a_st (st' := []) rfl ?_
        have fr := fr.trans (Fr.sub f5 (by omega) (by omega))
        refine a_iinc S (v := (nI i - 1)) d_Row_appendLowest_25 rfl (ni_m1 i) (Nat.le_of_ble_eq_true rfl) (lv' := [(0, .ref a), (1, .int (nI k)), (2, .long v), (4, .int (nI t)), (5, .int (nI i - 1))]) rfl ?_
        refine a_goto S (tgt := 5) d_Row_appendLowest_28 rfl ?_
        exact ih5 _ (by omega) i w2 _ rfl (by omega) fr hr (by rw [ap_ap, by8_sh (by omega) ht]; exact he)
  exact loop5 _ k w l0 rfl hk (Fr.refl _ _ _) h rfl
set_option maxHeartbeats 400000 in
set_option maxRecDepth 100000 in
theorem c_Row_becomeEndOf (l : Launch) (D : kD) (a b : Nat) (l0 r0 : List Nat) (w : ww) (n : Nat) (hd : a + 2 ≤ b ∨ b + 2 ≤ a) (h0 : Row D w a r0) (h : Row D w b l0) : AM l D M_Row_becomeEndOf 1 0 0 [.ref a, .ref b] w n (fun v w' n' => v = some (.int (if (endI l0 l0.length).isSome then 1 else 0)) ∧ n' = n ∧ Fr w w' a 2 ∧ Row D w' a ((endI l0 l0.length).getD [])) := by
  refine AM.ofz (by decide +kernel) rfl (Nat.le_of_ble_eq_true rfl) (fun X A Q hin S RT => ?_)
  have S : FX X (D, A, 3, Q) prog_4_method_9_code "KeyCodec$Row" 1 0 0 := S
  have RT : RTz X (D, A, 3, Q) prog_4_method_9_code 0 0 _ := RT
  obtain ⟨hlen, hby, f, h1, h2, hf⟩ := h
  obtain ⟨hlen2, hby2, g, g1, g2, hg⟩ := h0
  refine a_lve (lv' := [(0, .ref a), (1, .ref b)]) rfl ?_
  have fr : Fr w w a 2 := Fr.refl _ _ _
  refine a_aload_n S d_Row_becomeEndOf_0 rfl rfl ?_
  refine a_iconst S (v := 0) d_Row_becomeEndOf_1 (by decide) ?_
  refine a_put S kc_Row kt_Row 1 (by decide) lf_Row_15 rfl g1 rfl rfl (Nat.le_of_ble_eq_true rfl) d_Row_becomeEndOf_2 (fun w1 g1 e2 => ?_)
  have g1 : w1 a = some (.inr (1, [.ref (a + 1), .int 0])) := g1
  have fr := fr.trans (Fr.sub (Fr.of1 e2) (by omega) (by omega))
  have g2 := Fr.cell (Fr.of1 e2) g2 (by omega)
  have h1 := Fr.cell (Fr.of1 e2) h1 (by omega)
  have h2 := Fr.cell (Fr.of1 e2) h2 (by omega)
  refine a_aload_n S d_Row_becomeEndOf_5 rfl rfl ?_
  refine a_get S kc_Row 1 (by decide) lf_Row_15 h1 rfl d_Row_becomeEndOf_6 ?_
  refine a_iconst S (v := 1) d_Row_becomeEndOf_9 (by decide) ?_
  refine a_isub S d_Row_becomeEndOf_10 ?_
  refine a_istore_n S d_Row_becomeEndOf_11 rfl (Nat.le_of_ble_eq_true rfl) (lv' := [(0, .ref a), (1, .ref b), (2, .int (nI l0.length - 1))]) rfl ?_
  have loop12 : ∀ (kk12 : Nat) (j : Nat) (w1 : ww), j = kk12 → (j ≤ l0.length) → (Fr w w1 a 2) → (w1 a = some (.inr (1, [.ref (a + 1), .int 0]))) → (w1 (a + 1) = some (.inl (D.2 0, 120, .inl g))) → (w1 b = some (.inr (1, [.ref (b + 1), .int (nI l0.length)]))) → (w1 (b + 1) = some (.inl (D.2 0, 120, .inl f))) → (endI l0 l0.length = endI l0 j) → AW X (D, A, 3, Q) 12 [(0, .ref a), (1, .ref b), (2, .int (nI j - 1))] [] w1 n 0 0 := by
    intro kk12
    induction kk12 using Nat.strongRecOn with
    | ind kk12 ih12 =>
      intro j w1 hk12 hj fr g1 g2 h1 h2 he
      refine a_iload_n S d_Row_becomeEndOf_12 rfl rfl ?_
      refine a_if_lt S (tgt := 71) d_Row_becomeEndOf_13 rfl (fun h13 => ?_) (fun h13 => ?_)
      · have hj0 : j = 0 := Nat.eq_zero_of_not_pos fun z => absurd h13 (k2_nlt (by obtain ⟨i, rfl⟩ : ∃ i, j = i + 1 := ⟨j - 1, by omega⟩; rw [nI_pred]; exact nI_pos' (by omega)))
        subst hj0
        refine a_iconst S (v := 0) d_Row_becomeEndOf_71 (by decide) ?_
        exact RT _ _ _ _ _ _ _ d_Row_becomeEndOf_72 rfl (by omega) (by omega) (by rw [he]; exact ⟨rfl, rfl, fr, Nat.zero_le 120, (fun b h => by cases h), g, g1, g2, Arr.nil _⟩)
      · obtain ⟨i, rfl⟩ : ∃ i, j = i + 1 := ⟨j - 1, by have : j ≠ 0 := (fun z => h13 (by subst z; decide)); omega⟩
        refine a_lve (lv' := [(0, .ref a), (1, .ref b), (2, .int (nI i))]) (by rw [nI_pred]) ?_
        refine a_aload_n S d_Row_becomeEndOf_16 rfl rfl ?_
        refine a_get S kc_Row 0 (by decide) lf_Row_9 h1 rfl d_Row_becomeEndOf_17 ?_
        refine a_iload_n S d_Row_becomeEndOf_20 rfl rfl ?_
        refine a_iald S (i := i) h2 rfl (by omega) (by decide) d_Row_becomeEndOf_21 ?_
        refine a_eqi (hf i (by omega)) ?_
        refine a_sipush S (v := 255) d_Row_becomeEndOf_22 (by decide) ?_
        refine a_icmp_ge S (tgt := 65) d_Row_becomeEndOf_25 rfl (fun h25 => ?_) (fun h25 => ?_)
        · have h25 : 255 ≤ l0.getD i 0 := (nI_leI (by decide) (by have := getD_lt hby i; omega)).mp h25
          refine a_iinc S (v := (nI i - 1)) d_Row_becomeEndOf_65 rfl (ni_m1 i) (Nat.le_of_ble_eq_true rfl) (lv' := [(0, .ref a), (1, .ref b), (2, .int (nI i - 1))]) rfl ?_
          refine a_goto S (tgt := 12) d_Row_becomeEndOf_68 rfl ?_
          exact ih12 _ (by omega) i w1 rfl (by omega) fr g1 g2 h1 h2 (by rw [he, endI, if_neg (by omega)])
        · have h25 : l0.getD i 0 < 255 := Nat.not_le.mp fun z => h25 ((nI_leI (by decide) (by have := getD_lt hby i; omega)).mpr z)
          refine a_aload_n S d_Row_becomeEndOf_28 rfl rfl ?_
          refine a_get S kc_Row 0 (by decide) lf_Row_9 h1 rfl d_Row_becomeEndOf_29 ?_
          refine a_iconst S (v := 0) d_Row_becomeEndOf_32 (by decide) ?_
          refine a_aload_n S d_Row_becomeEndOf_33 rfl rfl ?_
          refine a_get S kc_Row 0 (by decide) lf_Row_9 g1 rfl d_Row_becomeEndOf_34 ?_
          refine a_iconst S (v := 0) d_Row_becomeEndOf_37 (by decide) ?_
          refine a_iload_n S d_Row_becomeEndOf_38 rfl rfl ?_
          refine a_copyi S (sp := 0) (dp := 0) (k := i) lm_Row_42 ts_cp1 ts_cp2 ts_cp3 h2 g2 rfl rfl rfl (by omega) (by omega) (by decide) (by decide) (by decide) (Nat.le_of_ble_eq_true rfl) (by decide) d_Row_becomeEndOf_39 (fun w3 g2 e4 => ?_)
          have fr := fr.trans (Fr.sub (Fr.of1 e4) (by omega) (by omega))
          have g1 := Fr.cell (Fr.of1 e4) g1 (by omega)
          have h1 := Fr.cell (Fr.of1 e4) h1 (by omega)
          have h2 := Fr.cell (Fr.of1 e4) h2 (by omega)
          refine a_aload_n S d_Row_becomeEndOf_42 rfl rfl ?_
          refine a_get S kc_Row 0 (by decide) lf_Row_9 g1 rfl d_Row_becomeEndOf_43 ?_
          refine a_iload_n S d_Row_becomeEndOf_46 rfl rfl ?_
          refine a_aload_n S d_Row_becomeEndOf_47 rfl rfl ?_
          refine a_get S kc_Row 0 (by decide) lf_Row_9 h1 rfl d_Row_becomeEndOf_48 ?_
          refine a_iload_n S d_Row_becomeEndOf_51 rfl rfl ?_
          refine a_iald S (i := i) h2 rfl (by omega) (by decide) d_Row_becomeEndOf_52 ?_
          refine a_eqi (hf i (by omega)) ?_
          refine a_iconst S (v := 1) d_Row_becomeEndOf_53 (by decide) ?_
          refine a_iadd S d_Row_becomeEndOf_54 ?_
          refine a_iast S (i := i) g2 rfl (by omega) (by decide) d_Row_becomeEndOf_55 (fun w5 g2 e6 => ?_)
          have fr := fr.trans (Fr.sub (Fr.of1 e6) (by omega) (by omega))
          have g1 := Fr.cell (Fr.of1 e6) g1 (by omega)
          have h1 := Fr.cell (Fr.of1 e6) h1 (by omega)
          have h2 := Fr.cell (Fr.of1 e6) h2 (by omega)
          refine a_aload_n S d_Row_becomeEndOf_56 rfl rfl ?_
          refine a_iload_n S d_Row_becomeEndOf_57 rfl rfl ?_
          refine a_iconst S (v := 1) d_Row_becomeEndOf_58 (by decide) ?_
          refine a_iadd S d_Row_becomeEndOf_59 ?_
          refine a_put S kc_Row kt_Row 1 (by decide) lf_Row_15 rfl g1 rfl rfl (Nat.le_of_ble_eq_true rfl) d_Row_becomeEndOf_60 (fun w7 g1 e8 => ?_)
          have g1 : w7 a = some (.inr (1, [.ref (a + 1), .int (nI i + 1)])) := g1
          have fr := fr.trans (Fr.sub (Fr.of1 e8) (by omega) (by omega))
          have g2 := Fr.cell (Fr.of1 e8) g2 (by omega)
          have h1 := Fr.cell (Fr.of1 e8) h1 (by omega)
          have h2 := Fr.cell (Fr.of1 e8) h2 (by omega)
          refine a_iconst S (v := 1) d_Row_becomeEndOf_63 (by decide) ?_
          exact RT _ _ _ _ _ _ _ d_Row_becomeEndOf_64 rfl (by omega) (by omega) (by rw [he, endI, if_pos h25]; exact ⟨rfl, rfl, fr, endR_row hlen hby hf (by omega) h25 g1 g2⟩)
  exact loop12 _ l0.length w1 rfl (Nat.le_refl _) fr g1 g2 h1 h2 rfl
