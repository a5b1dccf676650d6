set_option maxHeartbeats 400000 in
set_option maxRecDepth 100000 in
theorem c_Mod_thrown (l : Launch) (D : kD) (b : Nat) (th : Int32) (c : Nat) (s : Bool) (K F : Nat → Nat) (L : Nat → kV) (kr : List Nat) (m : Nat) (KT : Nat → Nat → kV) (lo hi : List Nat) (he : Bool)  (w : ww) (n : Nat)  (h : Mdl D w b th c s K F L kr m KT lo hi he) : AM l D M_Mod_thrown 0 0 0 [.ref b] w n (fun v w' n' => v = some (.int th) ∧ w' = w ∧ n' = n) := by
  refine AM.ofi (by decide +kernel) rfl (Nat.le_of_ble_eq_true rfl) (fun X A Q hin S RT => ?_)
  have S : FX X (D, A, 1, Q) prog_9_method_2_code "KeyCodecModel" 0 0 0 := S
  have RT : RTi X (D, A, 1, Q) prog_9_method_2_code 0 0 _ := RT
  obtain ⟨ki, fl, va, fo, go, si, te, ro, ma, sz, en, ms, lw, hw, pt, bd, h, hI, hG⟩ := h
  obtain ⟨h0, h1, h2, h3, h4, h5, h6, h7, h8, h9, h10, h11, h12, h13⟩ := h
  have hc5 := hI.1
  have hm12 := hI.2.1
  have hkr := hI.2.2.1
  have hlo := hI.2.2.2.1
  have hhi := hI.2.2.2.2.1
  have hkf := hI.2.2.2.2.2.1
  refine a_lve (lv' := [(0, .ref b)]) rfl ?_
  have fr : Fr w w b 14 := Fr.refl _ _ _
  refine a_aload_n S d_Mod_thrown_0 rfl rfl ?_
  refine a_get S kc_Mod 0 (by decide) lf_Mod_55 h0 rfl d_Mod_thrown_1 ?_
  exact RT _ _ _ _ _ _ _ d_Mod_thrown_4 (by omega) (by omega) ⟨rfl, rfl, rfl⟩
set_option maxHeartbeats 400000 in
set_option maxRecDepth 100000 in
theorem c_Mod_kept (l : Launch) (D : kD) (b : Nat) (th : Int32) (c : Nat) (s : Bool) (K F : Nat → Nat) (L : Nat → kV) (kr : List Nat) (m : Nat) (KT : Nat → Nat → kV) (lo hi : List Nat) (he : Bool)  (w : ww) (n : Nat)  (h : Mdl D w b th c s K F L kr m KT lo hi he) : AM l D M_Mod_kept 0 0 0 [.ref b] w n (fun v w' n' => v = some (.int (nI m)) ∧ n' = n ∧ Fr w w' b 14 ∧ Mdl D w' b 0 c s K F L kr m KT lo hi he) := by
  refine AM.ofi (by decide +kernel) rfl (Nat.le_of_ble_eq_true rfl) (fun X A Q hin S RT => ?_)
  have S : FX X (D, A, 1, Q) prog_9_method_41_code "KeyCodecModel" 0 0 0 := S
  have RT : RTi X (D, A, 1, Q) prog_9_method_41_code 0 0 _ := RT
  obtain ⟨ki, fl, va, fo, go, si, te, ro, ma, sz, en, ms, lw, hw, pt, bd, h, hI, hG⟩ := h
  obtain ⟨h0, h1, h2, h3, h4, h5, h6, h7, h8, h9, h10, h11, h12, h13⟩ := h
  have hc5 := hI.1
  have hm12 := hI.2.1
  have hkr := hI.2.2.1
  have hlo := hI.2.2.2.1
  have hhi := hI.2.2.2.2.1
  have hkf := hI.2.2.2.2.2.1
  refine a_lve (lv' := [(0, .ref b)]) rfl ?_
  have fr : Fr w w b 14 := Fr.refl _ _ _
  refine a_aload_n S d_Mod_kept_0 rfl rfl ?_
  refine a_iconst S (v := 0) d_Mod_kept_1 (by decide) ?_
  refine a_put S kc_Mod kt_Mod 0 (by decide) lf_Mod_55 rfl h0 rfl rfl (Nat.le_of_ble_eq_true rfl) d_Mod_kept_2 (fun w1 h0 e2 => ?_)
  have h0 : w1 b = some (.inr (6, [.int 0, .int (nI c), .int (if s then 1 else 0), .ref (b + 1), .ref (b + 2), .ref (b + 3), .ref (b + 4), .ref (b + 5), .ref (b + 6), .ref (b + 7), .int (nI m), .ref (b + 8), .int (nI kr.length), .ref (b + 9), .int (nI sz), .ref (b + 10), .ref (b + 11), .ref (b + 12), .ref (b + 13), .int (nI lo.length), .int (if he then nI hi.length else -1), .int (nI pt), .int (if bd then 1 else 0)])) := h0
  have fr := fr.trans (Fr.sub (Fr.of1 e2) (by omega) (by omega))
  have h1 := Fr.cell (Fr.of1 e2) h1 (by omega)
  have h2 := Fr.cell (Fr.of1 e2) h2 (by omega)
  have h3 := Fr.cell (Fr.of1 e2) h3 (by omega)
  have h4 := Fr.cell (Fr.of1 e2) h4 (by omega)
  have h5 := Fr.cell (Fr.of1 e2) h5 (by omega)
  have h6 := Fr.cell (Fr.of1 e2) h6 (by omega)
  have h7 := Fr.cell (Fr.of1 e2) h7 (by omega)
  have h8 := Fr.cell (Fr.of1 e2) h8 (by omega)
  have h9 := Fr.cell (Fr.of1 e2) h9 (by omega)
  have h10 := Fr.cell (Fr.of1 e2) h10 (by omega)
  have h11 := Fr.cell (Fr.of1 e2) h11 (by omega)
  have h12 := Fr.cell (Fr.of1 e2) h12 (by omega)
  have h13 := Fr.cell (Fr.of1 e2) h13 (by omega)
  refine a_aload_n S d_Mod_kept_5 rfl rfl ?_
  refine a_get S kc_Mod 10 (by decide) lf_Mod_69 h0 rfl d_Mod_kept_6 ?_
  exact RT _ _ _ _ _ _ _ d_Mod_kept_9 (by omega) (by omega) ⟨rfl, rfl, fr, ⟨_, _, _, _, _, _, _, _, _, _, _, _, _, _, _, _, ⟨h0, h1, h2, h3, h4, h5, h6, h7, h8, h9, h10, h11, h12, h13⟩, hI, hG⟩⟩
set_option maxHeartbeats 400000 in
set_option maxRecDepth 100000 in
theorem c_Mod_clearKey (l : Launch) (D : kD) (b : Nat) (th : Int32) (c : Nat) (s : Bool) (K F : Nat → Nat) (L : Nat → kV) (kr : List Nat) (m : Nat) (KT : Nat → Nat → kV) (lo hi : List Nat) (he : Bool)  (w : ww) (n : Nat)  (h : Mdl D w b th c s K F L kr m KT lo hi he) : AM l D M_Mod_clearKey 0 0 0 [.ref b] w n (fun v w' n' => v = none ∧ n' = n ∧ Fr w w' b 14 ∧ Mdl D w' b 0 c s K F L [] m KT lo hi he) := by
  refine AM.ofv (by decide +kernel) rfl (Nat.le_of_ble_eq_true rfl) (fun X A Q hin S RT => ?_)
  have S : FX X (D, A, 1, Q) prog_9_method_27_code "KeyCodecModel" 0 0 0 := S
  have RT : RTv X (D, A, 1, Q) prog_9_method_27_code 0 0 _ := RT
  obtain ⟨ki, fl, va, fo, go, si, te, ro, ma, sz, en, ms, lw, hw, pt, bd, h, hI, hG⟩ := h
  obtain ⟨h0, h1, h2, h3, h4, h5, h6, h7, h8, h9, h10, h11, h12, h13⟩ := h
  have hc5 := hI.1
  have hm12 := hI.2.1
  have hkr := hI.2.2.1
  have hlo := hI.2.2.2.1
  have hhi := hI.2.2.2.2.1
  have hkf := hI.2.2.2.2.2.1
  refine a_lve (lv' := [(0, .ref b)]) rfl ?_
  have fr : Fr w w b 14 := Fr.refl _ _ _
  refine a_aload_n S d_Mod_clearKey_0 rfl rfl ?_
  refine a_iconst S (v := 0) d_Mod_clearKey_1 (by decide) ?_
  refine a_put S kc_Mod kt_Mod 0 (by decide) lf_Mod_55 rfl h0 rfl rfl (Nat.le_of_ble_eq_true rfl) d_Mod_clearKey_2 (fun w1 h0 e2 => ?_)
  have h0 : w1 b = some (.inr (6, [.int 0, .int (nI c), .int (if s then 1 else 0), .ref (b + 1), .ref (b + 2), .ref (b + 3), .ref (b + 4), .ref (b + 5), .ref (b + 6), .ref (b + 7), .int (nI m), .ref (b + 8), .int (nI kr.length), .ref (b + 9), .int (nI sz), .ref (b + 10), .ref (b + 11), .ref (b + 12), .ref (b + 13), .int (nI lo.length), .int (if he then nI hi.length else -1), .int (nI pt), .int (if bd then 1 else 0)])) := h0
  have fr := fr.trans (Fr.sub (Fr.of1 e2) (by omega) (by omega))
  have h1 := Fr.cell (Fr.of1 e2) h1 (by omega)
  have h2 := Fr.cell (Fr.of1 e2) h2 (by omega)
  have h3 := Fr.cell (Fr.of1 e2) h3 (by omega)
  have h4 := Fr.cell (Fr.of1 e2) h4 (by omega)
  have h5 := Fr.cell (Fr.of1 e2) h5 (by omega)
  have h6 := Fr.cell (Fr.of1 e2) h6 (by omega)
  have h7 := Fr.cell (Fr.of1 e2) h7 (by omega)
  have h8 := Fr.cell (Fr.of1 e2) h8 (by omega)
  have h9 := Fr.cell (Fr.of1 e2) h9 (by omega)
  have h10 := Fr.cell (Fr.of1 e2) h10 (by omega)
  have h11 := Fr.cell (Fr.of1 e2) h11 (by omega)
  have h12 := Fr.cell (Fr.of1 e2) h12 (by omega)
  have h13 := Fr.cell (Fr.of1 e2) h13 (by omega)
  refine a_aload_n S d_Mod_clearKey_5 rfl rfl ?_
  refine a_iconst S (v := 0) d_Mod_clearKey_6 (by decide) ?_
  refine a_put S kc_Mod kt_Mod 12 (by decide) lf_Mod_72 rfl h0 rfl rfl (Nat.le_of_ble_eq_true rfl) d_Mod_clearKey_7 (fun w3 h0 e4 => ?_)
  have h0 : w3 b = some (.inr (6, [.int 0, .int (nI c), .int (if s then 1 else 0), .ref (b + 1), .ref (b + 2), .ref (b + 3), .ref (b + 4), .ref (b + 5), .ref (b + 6), .ref (b + 7), .int (nI m), .ref (b + 8), .int 0, .ref (b + 9), .int (nI sz), .ref (b + 10), .ref (b + 11), .ref (b + 12), .ref (b + 13), .int (nI lo.length), .int (if he then nI hi.length else -1), .int (nI pt), .int (if bd then 1 else 0)])) := h0
  have fr := fr.trans (Fr.sub (Fr.of1 e4) (by omega) (by omega))
  have h1 := Fr.cell (Fr.of1 e4) h1 (by omega)
  have h2 := Fr.cell (Fr.of1 e4) h2 (by omega)
  have h3 := Fr.cell (Fr.of1 e4) h3 (by omega)
  have h4 := Fr.cell (Fr.of1 e4) h4 (by omega)
  have h5 := Fr.cell (Fr.of1 e4) h5 (by omega)
  have h6 := Fr.cell (Fr.of1 e4) h6 (by omega)
  have h7 := Fr.cell (Fr.of1 e4) h7 (by omega)
  have h8 := Fr.cell (Fr.of1 e4) h8 (by omega)
  have h9 := Fr.cell (Fr.of1 e4) h9 (by omega)
  have h10 := Fr.cell (Fr.of1 e4) h10 (by omega)
  have h11 := Fr.cell (Fr.of1 e4) h11 (by omega)
  have h12 := Fr.cell (Fr.of1 e4) h12 (by omega)
  have h13 := Fr.cell (Fr.of1 e4) h13 (by omega)
  exact RT _ _ _ _ _ _ d_Mod_clearKey_10 (by omega) (by omega) ⟨rfl, rfl, fr, ⟨_, _, _, _, _, _, _, _, _, _, _, _, _, _, _, _, ⟨h0, h1, h2, h3, h4, h5, h6, h7, h8, h9, h10, h11, h12, h13⟩, (hI.rw_ (Nat.zero_le _) (fun b h => by cases h) (Arr.nil _)), hG⟩⟩
set_option maxHeartbeats 400000 in
set_option maxRecDepth 100000 in
theorem c_Mod_key (l : Launch) (D : kD) (b : Nat) (th : Int32) (c : Nat) (s : Bool) (K F : Nat → Nat) (L : Nat → kV) (kr : List Nat) (m : Nat) (KT : Nat → Nat → kV) (lo hi : List Nat) (he : Bool) (i : Int32) (w : ww) (n : Nat)  (h : Mdl D w b th c s K F L kr m KT lo hi he) : AM l D M_Mod_key 0 0 0 [.ref b, .int i] w n (fun v w' n' => v = some (.int (if i = -1 then nI kr.length else atB kr i)) ∧ n' = n ∧ Fr w w' b 14 ∧ Mdl D w' b 0 c s K F L kr m KT lo hi he) := by
  refine AM.ofi (by decide +kernel) rfl (Nat.le_of_ble_eq_true rfl) (fun X A Q hin S RT => ?_)
  have S : FX X (D, A, 2, Q) prog_9_method_28_code "KeyCodecModel" 0 0 0 := S
  have RT : RTi X (D, A, 2, Q) prog_9_method_28_code 0 0 _ := RT
  obtain ⟨ki, fl, va, fo, go, si, te, ro, ma, sz, en, ms, lw, hw, pt, bd, h, hI, hG⟩ := h
  obtain ⟨h0, h1, h2, h3, h4, h5, h6, h7, h8, h9, h10, h11, h12, h13⟩ := h
  have hc5 := hI.1
  have hm12 := hI.2.1
  have hkr := hI.2.2.1
  have hlo := hI.2.2.2.1
  have hhi := hI.2.2.2.2.1
  have hkf := hI.2.2.2.2.2.1
  refine a_lve (lv' := [(0, .ref b), (1, .int i)]) rfl ?_
  have fr : Fr w w b 14 := Fr.refl _ _ _
  refine a_aload_n S d_Mod_key_0 rfl rfl ?_
  refine a_iconst S (v := 0) d_Mod_key_1 (by decide) ?_
  refine a_put S kc_Mod kt_Mod 0 (by decide) lf_Mod_55 rfl h0 rfl rfl (Nat.le_of_ble_eq_true rfl) d_Mod_key_2 (fun w1 h0 e2 => ?_)
  have h0 : w1 b = some (.inr (6, [.int 0, .int (nI c), .int (if s then 1 else 0), .ref (b + 1), .ref (b + 2), .ref (b + 3), .ref (b + 4), .ref (b + 5), .ref (b + 6), .ref (b + 7), .int (nI m), .ref (b + 8), .int (nI kr.length), .ref (b + 9), .int (nI sz), .ref (b + 10), .ref (b + 11), .ref (b + 12), .ref (b + 13), .int (nI lo.length), .int (if he then nI hi.length else -1), .int (nI pt), .int (if bd then 1 else 0)])) := h0
  have fr := fr.trans (Fr.sub (Fr.of1 e2) (by omega) (by omega))
  have h1 := Fr.cell (Fr.of1 e2) h1 (by omega)
  have h2 := Fr.cell (Fr.of1 e2) h2 (by omega)
  have h3 := Fr.cell (Fr.of1 e2) h3 (by omega)
  have h4 := Fr.cell (Fr.of1 e2) h4 (by omega)
  have h5 := Fr.cell (Fr.of1 e2) h5 (by omega)
  have h6 := Fr.cell (Fr.of1 e2) h6 (by omega)
  have h7 := Fr.cell (Fr.of1 e2) h7 (by omega)
  have h8 := Fr.cell (Fr.of1 e2) h8 (by omega)
  have h9 := Fr.cell (Fr.of1 e2) h9 (by omega)
  have h10 := Fr.cell (Fr.of1 e2) h10 (by omega)
  have h11 := Fr.cell (Fr.of1 e2) h11 (by omega)
  have h12 := Fr.cell (Fr.of1 e2) h12 (by omega)
  have h13 := Fr.cell (Fr.of1 e2) h13 (by omega)
  refine a_iload_n S d_Mod_key_5 rfl rfl ?_
  refine a_iconst S (v := (-1)) d_Mod_key_6 (by decide) ?_
  refine a_icmp_ne S (tgt := 15) d_Mod_key_7 rfl (fun hk_ => ?_) (fun hk_ => ?_)
  · refine a_iload_n S d_Mod_key_15 rfl rfl ?_
    refine a_if_lt S (tgt := 36) d_Mod_key_16 rfl (fun h16 => ?_) (fun h16 => ?_)
    · have hv : atB kr i = -1 := atB_neg h16
      refine a_iconst S (v := (-1)) d_Mod_key_36 (by decide) ?_
      exact RT _ _ _ _ _ _ _ d_Mod_key_37 (by omega) (by omega) ⟨by rw [if_neg hk_, hv], rfl, fr, ⟨_, _, _, _, _, _, _, _, _, _, _, _, _, _, _, _, ⟨h0, h1, h2, h3, h4, h5, h6, h7, h8, h9, h10, h11, h12, h13⟩, hI, hG⟩⟩
    · refine a_iload_n S d_Mod_key_19 rfl rfl ?_
      refine a_aload_n S d_Mod_key_20 rfl rfl ?_
      refine a_get S kc_Mod 12 (by decide) lf_Mod_72 h0 rfl d_Mod_key_21 ?_
      refine a_icmp_ge S (tgt := 36) d_Mod_key_24 rfl (fun h24 => ?_) (fun h24 => ?_)
      · have hv : atB kr i = -1 := atB_big h24
        refine a_iconst S (v := (-1)) d_Mod_key_36 (by decide) ?_
        exact RT _ _ _ _ _ _ _ d_Mod_key_37 (by omega) (by omega) ⟨by rw [if_neg hk_, hv], rfl, fr, ⟨_, _, _, _, _, _, _, _, _, _, _, _, _, _, _, _, ⟨h0, h1, h2, h3, h4, h5, h6, h7, h8, h9, h10, h11, h12, h13⟩, hI, hG⟩⟩
      · obtain ⟨j, hj, rfl⟩ := row_ix h16 h24 (by omega)
        refine a_aload_n S d_Mod_key_27 rfl rfl ?_
        refine a_get S kc_Mod 11 (by decide) lf_Mod_33 h0 rfl d_Mod_key_28 ?_
        refine a_iload_n S d_Mod_key_31 rfl rfl ?_
        refine a_iald S (i := j) h8 rfl (by omega) (by decide) d_Mod_key_32 ?_
        refine a_eqi (atM hI.row.2 hj (by omega)) ?_
        refine a_goto S (tgt := 37) d_Mod_key_33 rfl ?_
        exact RT _ _ _ _ _ _ _ d_Mod_key_37 (by omega) (by omega) ⟨by rw [if_neg hk_], rfl, fr, ⟨_, _, _, _, _, _, _, _, _, _, _, _, _, _, _, _, ⟨h0, h1, h2, h3, h4, h5, h6, h7, h8, h9, h10, h11, h12, h13⟩, hI, hG⟩⟩
  · refine a_aload_n S d_Mod_key_10 rfl rfl ?_
    refine a_get S kc_Mod 12 (by decide) lf_Mod_72 h0 rfl d_Mod_key_11 ?_
    exact RT _ _ _ _ _ _ _ d_Mod_key_14 (by omega) (by omega) ⟨by rw [if_pos hk_], rfl, fr, ⟨_, _, _, _, _, _, _, _, _, _, _, _, _, _, _, _, ⟨h0, h1, h2, h3, h4, h5, h6, h7, h8, h9, h10, h11, h12, h13⟩, hI, hG⟩⟩
set_option maxHeartbeats 400000 in
set_option maxRecDepth 100000 in
theorem c_Mod_put (l : Launch) (D : kD) (b : Nat) (th : Int32) (c : Nat) (s : Bool) (K F : Nat → Nat) (L : Nat → kV) (kr : List Nat) (m : Nat) (KT : Nat → Nat → kV) (lo hi : List Nat) (he : Bool) (i : Int32) (z : Int64) (f : Int32) (w : ww) (n : Nat)  (h : Mdl D w b th c s K F L kr m KT lo hi he) : AM l D M_Mod_put 1 0 0 [.ref b, .int i, .long z, .int f] w n (fun v w' n' => (∃ j, j < c ∧ s = true ∧ i = nI j ∧ okN (K j) z f ∧ v = some (.int 1) ∧ n' = n ∧ Fr w w' b 14 ∧ Mdl D w' b 0 c s K F (va_up L j (false, z, f, [])) kr m KT lo hi he) ∨ ((∀ j, j < c → s = true → i = nI j → okN (K j) z f → False) ∧ v = some (.int 0) ∧ n' = n ∧ Fr w w' b 14 ∧ Mdl D w' b 0 c s K F L kr m KT lo hi he)) := by
  refine AM.ofz (by decide +kernel) rfl (Nat.le_of_ble_eq_true rfl) (fun X A Q hin S RT => ?_)
  have S : FX X (D, A, 5, Q) prog_9_method_13_code "KeyCodecModel" 1 0 0 := S
  have RT : RTz X (D, A, 5, Q) prog_9_method_13_code 0 0 _ := RT
  obtain ⟨ki, fl, va, fo, go, si, te, ro, ma, sz, en, ms, lw, hw, pt, bd, h, hI, hG⟩ := h
  obtain ⟨h0, h1, h2, h3, h4, h5, h6, h7, h8, h9, h10, h11, h12, h13⟩ := h
  have hc5 := hI.1
  have hm12 := hI.2.1
  have hkr := hI.2.2.1
  have hlo := hI.2.2.2.1
  have hhi := hI.2.2.2.2.1
  have hkf := hI.2.2.2.2.2.1
  refine a_lve (lv' := [(0, .ref b), (1, .int i), (2, .long z), (4, .int f)]) rfl ?_
  have fr : Fr w w b 14 := Fr.refl _ _ _
  refine a_aload_n S d_Mod_put_0 rfl rfl ?_
  refine a_iconst S (v := 0) d_Mod_put_1 (by decide) ?_
  refine a_put S kc_Mod kt_Mod 0 (by decide) lf_Mod_55 rfl h0 rfl rfl (Nat.le_of_ble_eq_true rfl) d_Mod_put_2 (fun w1 h0 e2 => ?_)
  have h0 : w1 b = some (.inr (6, [.int 0, .int (nI c), .int (if s then 1 else 0), .ref (b + 1), .ref (b + 2), .ref (b + 3), .ref (b + 4), .ref (b + 5), .ref (b + 6), .ref (b + 7), .int (nI m), .ref (b + 8), .int (nI kr.length), .ref (b + 9), .int (nI sz), .ref (b + 10), .ref (b + 11), .ref (b + 12), .ref (b + 13), .int (nI lo.length), .int (if he then nI hi.length else -1), .int (nI pt), .int (if bd then 1 else 0)])) := h0
  have fr := fr.trans (Fr.sub (Fr.of1 e2) (by omega) (by omega))
  have h1 := Fr.cell (Fr.of1 e2) h1 (by omega)
  have h2 := Fr.cell (Fr.of1 e2) h2 (by omega)
  have h3 := Fr.cell (Fr.of1 e2) h3 (by omega)
  have h4 := Fr.cell (Fr.of1 e2) h4 (by omega)
  have h5 := Fr.cell (Fr.of1 e2) h5 (by omega)
  have h6 := Fr.cell (Fr.of1 e2) h6 (by omega)
  have h7 := Fr.cell (Fr.of1 e2) h7 (by omega)
  have h8 := Fr.cell (Fr.of1 e2) h8 (by omega)
  have h9 := Fr.cell (Fr.of1 e2) h9 (by omega)
  have h10 := Fr.cell (Fr.of1 e2) h10 (by omega)
  have h11 := Fr.cell (Fr.of1 e2) h11 (by omega)
  have h12 := Fr.cell (Fr.of1 e2) h12 (by omega)
  have h13 := Fr.cell (Fr.of1 e2) h13 (by omega)
  refine a_aload_n S d_Mod_put_5 rfl rfl ?_
  refine a_iload_n S d_Mod_put_6 rfl rfl ?_
  refine a_callV S (rest := []) lg_Mod_83 h0 (c_Mod_isField X.2.1 D b 0 c s ki fl va fo go si te m ro kr.length ma sz en ms lw hw lo.length (if he then nI hi.length else -1) pt bd i w1 n  ⟨h0, h1, h2, h3, h4, h5, h6, h7, h8, h9, h10, h11, h12, h13⟩) (by decide) (by omega) (by omega) rfl (Nat.le_of_ble_eq_true rfl) d_Mod_put_7 (fun v3 w4 n5 p6 => ?_)
  obtain ⟨rfl, e7, e8⟩ := p6
  rw [e7, e8]
  refine a_st (st' := [.int (if usB s c i then 1 else 0)]) rfl ?_
  refine a_if_eq S (tgt := 28) d_Mod_put_10 rfl (fun hu_ => ?_) (fun hu_ => ?_)
  · have hx : ∀ j, j < c → s = true → i = nI j → okN (K j) z f → False := fun j hj hs_ e _ => usB_no (by omega) (bo_0 hu_) hj hs_ e
    refine a_iconst S (v := 0) d_Mod_put_28 (by decide) ?_
    exact RT _ _ _ _ _ _ _ d_Mod_put_29 rfl (by omega) (by omega) (Or.inr ⟨hx, rfl, rfl, fr, ⟨_, _, _, _, _, _, _, _, _, _, _, _, _, _, _, _, ⟨h0, h1, h2, h3, h4, h5, h6, h7, h8, h9, h10, h11, h12, h13⟩, hI, hG⟩⟩)
  · obtain ⟨hs_j, j, hj, rfl⟩ := usB_ix (by omega) (bo_1 hu_)
    refine a_aload_n S d_Mod_put_13 rfl rfl ?_
    refine a_get S kc_Mod 3 (by decide) lf_Mod_7 h0 rfl d_Mod_put_14 ?_
    refine a_iload_n S d_Mod_put_17 rfl rfl ?_
    refine a_iald S (i := j) h1 rfl (by omega) (by decide) d_Mod_put_18 ?_
    refine a_eqi (hkf j hj).2.2.1 ?_
    refine a_lload_n S d_Mod_put_19 rfl rfl ?_
    refine a_iload S d_Mod_put_20 rfl ?_
    refine a_callS S (rest := []) lg_Mod_87 (c_Mod_isValue X.2.1 D (K j) z f w1 n (hkf j hj).1) (by decide) (by omega) (by omega) rfl (Nat.le_of_ble_eq_true rfl) d_Mod_put_22 (fun v9 w10 n11 p12 => ?_)
    obtain ⟨ab, rfl, hab, e13, e14⟩ := p12
    rw [e13, e14]
    refine a_st (st' := [.int (if ab then 1 else 0)]) rfl ?_
    refine a_if_ne S (tgt := 30) d_Mod_put_25 rfl (fun h25 => ?_) (fun h25 => ?_)
    · have hok := hab.mp (bo_1 h25)
      refine a_aload_n S d_Mod_put_30 rfl rfl ?_
      refine a_iload_n S d_Mod_put_31 rfl rfl ?_
      refine a_lload_n S d_Mod_put_32 rfl rfl ?_
      refine a_iload S d_Mod_put_33 rfl ?_
      refine a_callV S (rest := []) lg_Mod_91 h0 (c_Mod_set X.2.1 D b 0 c s ki fl va fo go si te m ro kr.length ma sz en ms lw hw lo.length (if he then nI hi.length else -1) pt bd j z f w1 n (by omega) ⟨h0, h1, h2, h3, h4, h5, h6, h7, h8, h9, h10, h11, h12, h13⟩) (by decide) (by omega) (by omega) rfl (Nat.le_of_ble_eq_true rfl) d_Mod_put_35 (fun v15 w16 n17 p18 => ?_)
      obtain ⟨rfl, e20, f19, h0, h1, h2, h3, h4, h5, h6, h7, h8, h9, h10, h11, h12, h13⟩ := p18
      rw [e20]
      refine a_st (st' := []) rfl ?_
      have fr := fr.trans (Fr.sub f19 (by omega) (by omega))
      refine a_iconst S (v := 1) d_Mod_put_38 (by decide) ?_
      exact RT _ _ _ _ _ _ _ d_Mod_put_39 rfl (by omega) (by omega) (Or.inl ⟨j, hj, hs_j, rfl, hok, rfl, rfl, fr, ⟨_, _, _, _, _, _, _, _, _, _, _, _, _, _, _, _, ⟨h0, h1, h2, h3, h4, h5, h6, h7, h8, h9, h10, h11, h12, h13⟩, (hI.upL hj VR.set (fun p x e h => VR.ne e h)), (NG.upd hG _ _)⟩⟩)
    · have hx : ∀ j2, j2 < c → s = true → nI j = nI j2 → okN (K j2) z f → False := fun j2 hj2 _ e q => by
        have e2 := (nI_eq (by omega) (by omega)).mp e
        subst e2
        have := hab.mpr q
        rw [bo_0 h25] at this; cases this
      refine a_iconst S (v := 0) d_Mod_put_28 (by decide) ?_
      exact RT _ _ _ _ _ _ _ d_Mod_put_29 rfl (by omega) (by omega) (Or.inr ⟨hx, rfl, rfl, fr, ⟨_, _, _, _, _, _, _, _, _, _, _, _, _, _, _, _, ⟨h0, h1, h2, h3, h4, h5, h6, h7, h8, h9, h10, h11, h12, h13⟩, hI, hG⟩⟩)
set_option maxHeartbeats 400000 in
set_option maxRecDepth 100000 in
theorem c_Mod_absent (l : Launch) (D : kD) (b : Nat) (th : Int32) (c : Nat) (s : Bool) (K F : Nat → Nat) (L : Nat → kV) (kr : List Nat) (m : Nat) (KT : Nat → Nat → kV) (lo hi : List Nat) (he : Bool) (i : Int32) (w : ww) (n : Nat)  (h : Mdl D w b th c s K F L kr m KT lo hi he) : AM l D M_Mod_absent 1 0 0 [.ref b, .int i] w n (fun v w' n' => (∃ j, j < c ∧ s = true ∧ i = nI j ∧ fOp (F j) = true ∧ v = some (.int 1) ∧ n' = n ∧ Fr w w' b 14 ∧ Mdl D w' b 0 c s K F (va_up L j (true, 0, 0, [])) kr m KT lo hi he) ∨ ((∀ j, j < c → s = true → i = nI j → fOp (F j) = true → False) ∧ v = some (.int 0) ∧ n' = n ∧ Fr w w' b 14 ∧ Mdl D w' b 0 c s K F L kr m KT lo hi he)) := by
  refine AM.ofz (by decide +kernel) rfl (Nat.le_of_ble_eq_true rfl) (fun X A Q hin S RT => ?_)
  have S : FX X (D, A, 2, Q) prog_9_method_15_code "KeyCodecModel" 1 0 0 := S
  have RT : RTz X (D, A, 2, Q) prog_9_method_15_code 0 0 _ := RT
  obtain ⟨ki, fl, va, fo, go, si, te, ro, ma, sz, en, ms, lw, hw, pt, bd, h, hI, hG⟩ := h
  obtain ⟨h0, h1, h2, h3, h4, h5, h6, h7, h8, h9, h10, h11, h12, h13⟩ := h
  have hc5 := hI.1
  have hm12 := hI.2.1
  have hkr := hI.2.2.1
  have hlo := hI.2.2.2.1
  have hhi := hI.2.2.2.2.1
  have hkf := hI.2.2.2.2.2.1
  refine a_lve (lv' := [(0, .ref b), (1, .int i)]) rfl ?_
  have fr : Fr w w b 14 := Fr.refl _ _ _
  refine a_aload_n S d_Mod_absent_0 rfl rfl ?_
  refine a_iconst S (v := 0) d_Mod_absent_1 (by decide) ?_
  refine a_put S kc_Mod kt_Mod 0 (by decide) lf_Mod_55 rfl h0 rfl rfl (Nat.le_of_ble_eq_true rfl) d_Mod_absent_2 (fun w1 h0 e2 => ?_)
  have h0 : w1 b = some (.inr (6, [.int 0, .int (nI c), .int (if s then 1 else 0), .ref (b + 1), .ref (b + 2), .ref (b + 3), .ref (b + 4), .ref (b + 5), .ref (b + 6), .ref (b + 7), .int (nI m), .ref (b + 8), .int (nI kr.length), .ref (b + 9), .int (nI sz), .ref (b + 10), .ref (b + 11), .ref (b + 12), .ref (b + 13), .int (nI lo.length), .int (if he then nI hi.length else -1), .int (nI pt), .int (if bd then 1 else 0)])) := h0
  have fr := fr.trans (Fr.sub (Fr.of1 e2) (by omega) (by omega))
  have h1 := Fr.cell (Fr.of1 e2) h1 (by omega)
  have h2 := Fr.cell (Fr.of1 e2) h2 (by omega)
  have h3 := Fr.cell (Fr.of1 e2) h3 (by omega)
  have h4 := Fr.cell (Fr.of1 e2) h4 (by omega)
  have h5 := Fr.cell (Fr.of1 e2) h5 (by omega)
  have h6 := Fr.cell (Fr.of1 e2) h6 (by omega)
  have h7 := Fr.cell (Fr.of1 e2) h7 (by omega)
  have h8 := Fr.cell (Fr.of1 e2) h8 (by omega)
  have h9 := Fr.cell (Fr.of1 e2) h9 (by omega)
  have h10 := Fr.cell (Fr.of1 e2) h10 (by omega)
  have h11 := Fr.cell (Fr.of1 e2) h11 (by omega)
  have h12 := Fr.cell (Fr.of1 e2) h12 (by omega)
  have h13 := Fr.cell (Fr.of1 e2) h13 (by omega)
  refine a_aload_n S d_Mod_absent_5 rfl rfl ?_
  refine a_iload_n S d_Mod_absent_6 rfl rfl ?_
  refine a_callV S (rest := []) lg_Mod_83 h0 (c_Mod_isField X.2.1 D b 0 c s ki fl va fo go si te m ro kr.length ma sz en ms lw hw lo.length (if he then nI hi.length else -1) pt bd i w1 n  ⟨h0, h1, h2, h3, h4, h5, h6, h7, h8, h9, h10, h11, h12, h13⟩) (by decide) (by omega) (by omega) rfl (Nat.le_of_ble_eq_true rfl) d_Mod_absent_7 (fun v3 w4 n5 p6 => ?_)
  obtain ⟨rfl, e7, e8⟩ := p6
  rw [e7, e8]
  refine a_st (st' := [.int (if usB s c i then 1 else 0)]) rfl ?_
  refine a_if_eq S (tgt := 21) d_Mod_absent_10 rfl (fun hu_ => ?_) (fun hu_ => ?_)
  · have hx : ∀ j, j < c → s = true → i = nI j → fOp (F j) = true → False := fun j hj hs_ e _ => usB_no (by omega) (bo_0 hu_) hj hs_ e
    refine a_iconst S (v := 0) d_Mod_absent_21 (by decide) ?_
    exact RT _ _ _ _ _ _ _ d_Mod_absent_22 rfl (by omega) (by omega) (Or.inr ⟨hx, rfl, rfl, fr, ⟨_, _, _, _, _, _, _, _, _, _, _, _, _, _, _, _, ⟨h0, h1, h2, h3, h4, h5, h6, h7, h8, h9, h10, h11, h12, h13⟩, hI, hG⟩⟩)
  · obtain ⟨hs_j, j, hj, rfl⟩ := usB_ix (by omega) (bo_1 hu_)
    refine a_aload_n S d_Mod_absent_13 rfl rfl ?_
    refine a_iload_n S d_Mod_absent_14 rfl rfl ?_
    refine a_callV S (rest := []) lg_Mod_95 h0 (c_Mod_isOptional X.2.1 D b 0 c s ki fl va fo go si te m ro kr.length ma sz en ms lw hw lo.length (if he then nI hi.length else -1) pt bd j w1 n (by omega) ⟨h0, h1, h2, h3, h4, h5, h6, h7, h8, h9, h10, h11, h12, h13⟩) (by decide) (by omega) (by omega) rfl (Nat.le_of_ble_eq_true rfl) d_Mod_absent_15 (fun v9 w10 n11 p12 => ?_)
    obtain ⟨rfl, e13, e14⟩ := p12
    rw [e13, e14]
    refine a_st (st' := [.int (if fl j &&& 2 = 0 then 0 else 1)]) rfl ?_
    refine a_if_ne S (tgt := 23) d_Mod_absent_18 rfl (fun h18 => ?_) (fun h18 => ?_)
    · rw [(hkf j hj).2.2.2] at h18
      have ho := fOp_1 (hkf j hj).2.1 h18
      refine a_aload_n S d_Mod_absent_23 rfl rfl ?_
      refine a_iload_n S d_Mod_absent_24 rfl rfl ?_
      refine a_lconst S (v := 0) d_Mod_absent_25 (by decide) ?_
      refine a_iconst S (v := 0) d_Mod_absent_26 (by decide) ?_
      refine a_callV S (rest := []) lg_Mod_91 h0 (c_Mod_set X.2.1 D b 0 c s ki fl va fo go si te m ro kr.length ma sz en ms lw hw lo.length (if he then nI hi.length else -1) pt bd j 0 0 w1 n (by omega) ⟨h0, h1, h2, h3, h4, h5, h6, h7, h8, h9, h10, h11, h12, h13⟩) (by decide) (by omega) (by omega) rfl (Nat.le_of_ble_eq_true rfl) d_Mod_absent_27 (fun v15 w16 n17 p18 => ?_)
      obtain ⟨rfl, e20, f19, h0, h1, h2, h3, h4, h5, h6, h7, h8, h9, h10, h11, h12, h13⟩ := p18
      rw [e20]
      refine a_st (st' := []) rfl ?_
      have fr := fr.trans (Fr.sub f19 (by omega) (by omega))
      refine a_aload_n S d_Mod_absent_30 rfl rfl ?_
      refine a_get S kc_Mod 7 (by decide) lf_Mod_23 h0 rfl d_Mod_absent_31 ?_
      refine a_iload_n S d_Mod_absent_34 rfl rfl ?_
      refine a_iconst S (v := 1) d_Mod_absent_35 (by decide) ?_
      refine a_zast S (i := j) h5 rfl (by omega) (by decide) d_Mod_absent_36 (fun w21 h5 e22 => ?_)
      have fr := fr.trans (Fr.sub (Fr.of1 e22) (by omega) (by omega))
      have h0 := Fr.cell (Fr.of1 e22) h0 (by omega)
      have h1 := Fr.cell (Fr.of1 e22) h1 (by omega)
      have h2 := Fr.cell (Fr.of1 e22) h2 (by omega)
      have h3 := Fr.cell (Fr.of1 e22) h3 (by omega)
      have h4 := Fr.cell (Fr.of1 e22) h4 (by omega)
      have h6 := Fr.cell (Fr.of1 e22) h6 (by omega)
      have h7 := Fr.cell (Fr.of1 e22) h7 (by omega)
      have h8 := Fr.cell (Fr.of1 e22) h8 (by omega)
      have h9 := Fr.cell (Fr.of1 e22) h9 (by omega)
      have h10 := Fr.cell (Fr.of1 e22) h10 (by omega)
      have h11 := Fr.cell (Fr.of1 e22) h11 (by omega)
      have h12 := Fr.cell (Fr.of1 e22) h12 (by omega)
      have h13 := Fr.cell (Fr.of1 e22) h13 (by omega)
      refine a_iconst S (v := 1) d_Mod_absent_37 (by decide) ?_
      exact RT _ _ _ _ _ _ _ d_Mod_absent_38 rfl (by omega) (by omega) (Or.inl ⟨j, hj, hs_j, rfl, ho, rfl, rfl, fr, ⟨_, _, _, _, _, _, _, _, _, _, _, _, _, _, _, _, ⟨h0, h1, h2, h3, h4, h5, h6, h7, h8, h9, h10, h11, h12, h13⟩, (hI.upL hj VR.gone (fun p x e h => VR.gne e (VR.ne e h))), (NG.upd (NG.upd hG _ _) _ _)⟩⟩)
    · rw [(hkf j hj).2.2.2] at h18
      have hx : ∀ j2, j2 < c → s = true → nI j = nI j2 → fOp (F j2) = true → False := fun j2 hj2 _ e q => by
        have e2 := (nI_eq (by omega) (by omega)).mp e
        subst e2
        rw [fOp_0 (hkf j hj).2.1 h18] at q; cases q
      refine a_iconst S (v := 0) d_Mod_absent_21 (by decide) ?_
      exact RT _ _ _ _ _ _ _ d_Mod_absent_22 rfl (by omega) (by omega) (Or.inr ⟨hx, rfl, rfl, fr, ⟨_, _, _, _, _, _, _, _, _, _, _, _, _, _, _, _, ⟨h0, h1, h2, h3, h4, h5, h6, h7, h8, h9, h10, h11, h12, h13⟩, hI, hG⟩⟩)
set_option maxHeartbeats 400000 in
set_option maxRecDepth 100000 in
theorem c_Mod_seal (l : Launch) (D : kD) (b : Nat) (th : Int32) (c : Nat) (s : Bool) (K F : Nat → Nat) (L : Nat → kV) (kr : List Nat) (m : Nat) (KT : Nat → Nat → kV) (lo hi : List Nat) (he : Bool)  (w : ww) (n : Nat)  (h : Mdl D w b th c s K F L kr m KT lo hi he) : AM l D M_Mod_seal 1 0 0 [.ref b] w n (fun v w' n' => (s = false ∧ 0 < c ∧ v = some (.int 1) ∧ n' = n ∧ Fr w w' b 14 ∧ Mdl D w' b 0 c true K F (fun _ => (false, 0, 0, [])) kr m KT lo hi he) ∨ (¬ (s = false ∧ 0 < c) ∧ v = some (.int 0) ∧ n' = n ∧ Fr w w' b 14 ∧ Mdl D w' b 0 c s K F L kr m KT lo hi he)) := by
  refine AM.ofz (by decide +kernel) rfl (Nat.le_of_ble_eq_true rfl) (fun X A Q hin S RT => ?_)
  have S : FX X (D, A, 1, Q) prog_9_method_8_code "KeyCodecModel" 1 0 0 := S
  have RT : RTz X (D, A, 1, Q) prog_9_method_8_code 0 0 _ := RT
  obtain ⟨ki, fl, va, fo, go, si, te, ro, ma, sz, en, ms, lw, hw, pt, bd, h, hI, hG⟩ := h
  obtain ⟨h0, h1, h2, h3, h4, h5, h6, h7, h8, h9, h10, h11, h12, h13⟩ := h
  have hc5 := hI.1
  have hm12 := hI.2.1
  have hkr := hI.2.2.1
  have hlo := hI.2.2.2.1
  have hhi := hI.2.2.2.2.1
  have hkf := hI.2.2.2.2.2.1
  refine a_lve (lv' := [(0, .ref b)]) rfl ?_
  have fr : Fr w w b 14 := Fr.refl _ _ _
  refine a_aload_n S d_Mod_seal_0 rfl rfl ?_
  refine a_iconst S (v := 0) d_Mod_seal_1 (by decide) ?_
  refine a_put S kc_Mod kt_Mod 0 (by decide) lf_Mod_55 rfl h0 rfl rfl (Nat.le_of_ble_eq_true rfl) d_Mod_seal_2 (fun w1 h0 e2 => ?_)
  have h0 : w1 b = some (.inr (6, [.int 0, .int (nI c), .int (if s then 1 else 0), .ref (b + 1), .ref (b + 2), .ref (b + 3), .ref (b + 4), .ref (b + 5), .ref (b + 6), .ref (b + 7), .int (nI m), .ref (b + 8), .int (nI kr.length), .ref (b + 9), .int (nI sz), .ref (b + 10), .ref (b + 11), .ref (b + 12), .ref (b + 13), .int (nI lo.length), .int (if he then nI hi.length else -1), .int (nI pt), .int (if bd then 1 else 0)])) := h0
  have fr := fr.trans (Fr.sub (Fr.of1 e2) (by omega) (by omega))
  have h1 := Fr.cell (Fr.of1 e2) h1 (by omega)
  have h2 := Fr.cell (Fr.of1 e2) h2 (by omega)
  have h3 := Fr.cell (Fr.of1 e2) h3 (by omega)
  have h4 := Fr.cell (Fr.of1 e2) h4 (by omega)
  have h5 := Fr.cell (Fr.of1 e2) h5 (by omega)
  have h6 := Fr.cell (Fr.of1 e2) h6 (by omega)
  have h7 := Fr.cell (Fr.of1 e2) h7 (by omega)
  have h8 := Fr.cell (Fr.of1 e2) h8 (by omega)
  have h9 := Fr.cell (Fr.of1 e2) h9 (by omega)
  have h10 := Fr.cell (Fr.of1 e2) h10 (by omega)
  have h11 := Fr.cell (Fr.of1 e2) h11 (by omega)
  have h12 := Fr.cell (Fr.of1 e2) h12 (by omega)
  have h13 := Fr.cell (Fr.of1 e2) h13 (by omega)
  refine a_aload_n S d_Mod_seal_5 rfl rfl ?_
  refine a_get S kc_Mod 2 (by decide) lf_Mod_58 h0 rfl d_Mod_seal_6 ?_
  refine a_if_ne S (tgt := 19) d_Mod_seal_9 rfl (fun hs_ => ?_) (fun hs_ => ?_)
  · have hx : ¬ (s = false ∧ 0 < c) := fun z => by rw [z.1] at hs_; exact hs_ rfl
    refine a_iconst S (v := 0) d_Mod_seal_19 (by decide) ?_
    exact RT _ _ _ _ _ _ _ d_Mod_seal_20 rfl (by omega) (by omega) (Or.inr ⟨hx, rfl, rfl, fr, ⟨_, _, _, _, _, _, _, _, _, _, _, _, _, _, _, _, ⟨h0, h1, h2, h3, h4, h5, h6, h7, h8, h9, h10, h11, h12, h13⟩, hI, hG⟩⟩)
  · have hs0 : s = false := bo_0 hs_
    refine a_aload_n S d_Mod_seal_12 rfl rfl ?_
    refine a_get S kc_Mod 1 (by decide) lf_Mod_62 h0 rfl d_Mod_seal_13 ?_
    refine a_if_ne S (tgt := 21) d_Mod_seal_16 rfl (fun h16 => ?_) (fun h16 => ?_)
    · have hc0 : 0 < c := Nat.pos_of_ne_zero fun z => h16 (by rw [z]; rfl)
      refine a_aload_n S d_Mod_seal_21 rfl rfl ?_
      refine a_iconst S (v := 1) d_Mod_seal_22 (by decide) ?_
      refine a_put S kc_Mod kt_Mod 2 (by decide) lf_Mod_58 rfl h0 rfl rfl (Nat.le_of_ble_eq_true rfl) d_Mod_seal_23 (fun w3 h0 e4 => ?_)
      have h0 : w3 b = some (.inr (6, [.int 0, .int (nI c), .int 1, .ref (b + 1), .ref (b + 2), .ref (b + 3), .ref (b + 4), .ref (b + 5), .ref (b + 6), .ref (b + 7), .int (nI m), .ref (b + 8), .int (nI kr.length), .ref (b + 9), .int (nI sz), .ref (b + 10), .ref (b + 11), .ref (b + 12), .ref (b + 13), .int (nI lo.length), .int (if he then nI hi.length else -1), .int (nI pt), .int (if bd then 1 else 0)])) := h0
      have fr := fr.trans (Fr.sub (Fr.of1 e4) (by omega) (by omega))
      have h1 := Fr.cell (Fr.of1 e4) h1 (by omega)
      have h2 := Fr.cell (Fr.of1 e4) h2 (by omega)
      have h3 := Fr.cell (Fr.of1 e4) h3 (by omega)
      have h4 := Fr.cell (Fr.of1 e4) h4 (by omega)
      have h5 := Fr.cell (Fr.of1 e4) h5 (by omega)
      have h6 := Fr.cell (Fr.of1 e4) h6 (by omega)
      have h7 := Fr.cell (Fr.of1 e4) h7 (by omega)
      have h8 := Fr.cell (Fr.of1 e4) h8 (by omega)
      have h9 := Fr.cell (Fr.of1 e4) h9 (by omega)
      have h10 := Fr.cell (Fr.of1 e4) h10 (by omega)
      have h11 := Fr.cell (Fr.of1 e4) h11 (by omega)
      have h12 := Fr.cell (Fr.of1 e4) h12 (by omega)
      have h13 := Fr.cell (Fr.of1 e4) h13 (by omega)
      refine a_aload_n S d_Mod_seal_26 rfl rfl ?_
      refine a_iconst S (v := 0) d_Mod_seal_27 (by decide) ?_
      refine a_callV S (rest := []) lg_Mod_65 h0 (c_Mod_empty X.2.1 D b 0 c true ki fl va fo go si te m ro kr.length ma sz en ms lw hw lo.length (if he then nI hi.length else -1) pt bd 0 w3 n (by omega) ⟨h0, h1, h2, h3, h4, h5, h6, h7, h8, h9, h10, h11, h12, h13⟩) (by decide) (by omega) (by omega) rfl (Nat.le_of_ble_eq_true rfl) d_Mod_seal_28 (fun v5 w6 n7 p8 => ?_)
      obtain ⟨va11, fo11, go11, si11, rfl, e10, f9, ⟨h0, h1, h2, h3, h4, h5, h6, h7, h8, h9, h10, h11, h12, h13⟩, hz11, hq11, hN11⟩ := p8
      rw [e10]
      refine a_st (st' := []) rfl ?_
      have fr := fr.trans (Fr.sub f9 (by omega) (by omega))
      refine a_iconst S (v := 1) d_Mod_seal_31 (by decide) ?_
      exact RT _ _ _ _ _ _ _ d_Mod_seal_32 rfl (by omega) (by omega) (Or.inl ⟨hs0, hc0, rfl, rfl, fr, ⟨_, _, _, _, _, _, _, _, _, _, _, _, _, _, _, _, ⟨h0, h1, h2, h3, h4, h5, h6, h7, h8, h9, h10, h11, h12, h13⟩, (hI.em hz11 hq11), (hN11 hG)⟩⟩)
    · have hx : ¬ (s = false ∧ 0 < c) := fun z => absurd (show c = 0 from (nI_eq (by omega) (by decide)).mp h16) (by omega)
      refine a_iconst S (v := 0) d_Mod_seal_19 (by decide) ?_
      exact RT _ _ _ _ _ _ _ d_Mod_seal_20 rfl (by omega) (by omega) (Or.inr ⟨hx, rfl, rfl, fr, ⟨_, _, _, _, _, _, _, _, _, _, _, _, _, _, _, _, ⟨h0, h1, h2, h3, h4, h5, h6, h7, h8, h9, h10, h11, h12, h13⟩, hI, hG⟩⟩)
set_option maxHeartbeats 400000 in
set_option maxRecDepth 100000 in
theorem c_Mod_clear (l : Launch) (D : kD) (b : Nat) (th : Int32) (c : Nat) (s : Bool) (K F : Nat → Nat) (L : Nat → kV) (kr : List Nat) (m : Nat) (KT : Nat → Nat → kV) (lo hi : List Nat) (he : Bool)  (w : ww) (n : Nat)  (h : Mdl D w b th c s K F L kr m KT lo hi he) : AM l D M_Mod_clear 1 0 0 [.ref b] w n (fun v w' n' => v = none ∧ n' = n ∧ Fr w w' b 14 ∧ Mdl D w' b 0 0 false K F (fun _ => (false, 0, 0, [])) [] 0 KT lo hi he) := by
  refine AM.ofv (by decide +kernel) rfl (Nat.le_of_ble_eq_true rfl) (fun X A Q hin S RT => ?_)
  have S : FX X (D, A, 1, Q) prog_9_method_9_code "KeyCodecModel" 1 0 0 := S
  have RT : RTv X (D, A, 1, Q) prog_9_method_9_code 0 0 _ := RT
  obtain ⟨ki, fl, va, fo, go, si, te, ro, ma, sz, en, ms, lw, hw, pt, bd, h, hI, hG⟩ := h
  obtain ⟨h0, h1, h2, h3, h4, h5, h6, h7, h8, h9, h10, h11, h12, h13⟩ := h
  have hc5 := hI.1
  have hm12 := hI.2.1
  have hkr := hI.2.2.1
  have hlo := hI.2.2.2.1
  have hhi := hI.2.2.2.2.1
  have hkf := hI.2.2.2.2.2.1
  refine a_lve (lv' := [(0, .ref b)]) rfl ?_
  have fr : Fr w w b 14 := Fr.refl _ _ _
  refine a_aload_n S d_Mod_clear_0 rfl rfl ?_
  refine a_iconst S (v := 0) d_Mod_clear_1 (by decide) ?_
  refine a_put S kc_Mod kt_Mod 0 (by decide) lf_Mod_55 rfl h0 rfl rfl (Nat.le_of_ble_eq_true rfl) d_Mod_clear_2 (fun w1 h0 e2 => ?_)
  have h0 : w1 b = some (.inr (6, [.int 0, .int (nI c), .int (if s then 1 else 0), .ref (b + 1), .ref (b + 2), .ref (b + 3), .ref (b + 4), .ref (b + 5), .ref (b + 6), .ref (b + 7), .int (nI m), .ref (b + 8), .int (nI kr.length), .ref (b + 9), .int (nI sz), .ref (b + 10), .ref (b + 11), .ref (b + 12), .ref (b + 13), .int (nI lo.length), .int (if he then nI hi.length else -1), .int (nI pt), .int (if bd then 1 else 0)])) := h0
  have fr := fr.trans (Fr.sub (Fr.of1 e2) (by omega) (by omega))
  have h1 := Fr.cell (Fr.of1 e2) h1 (by omega)
  have h2 := Fr.cell (Fr.of1 e2) h2 (by omega)
  have h3 := Fr.cell (Fr.of1 e2) h3 (by omega)
  have h4 := Fr.cell (Fr.of1 e2) h4 (by omega)
  have h5 := Fr.cell (Fr.of1 e2) h5 (by omega)
  have h6 := Fr.cell (Fr.of1 e2) h6 (by omega)
  have h7 := Fr.cell (Fr.of1 e2) h7 (by omega)
  have h8 := Fr.cell (Fr.of1 e2) h8 (by omega)
  have h9 := Fr.cell (Fr.of1 e2) h9 (by omega)
  have h10 := Fr.cell (Fr.of1 e2) h10 (by omega)
  have h11 := Fr.cell (Fr.of1 e2) h11 (by omega)
  have h12 := Fr.cell (Fr.of1 e2) h12 (by omega)
  have h13 := Fr.cell (Fr.of1 e2) h13 (by omega)
  refine a_aload_n S d_Mod_clear_5 rfl rfl ?_
  refine a_iconst S (v := 0) d_Mod_clear_6 (by decide) ?_
  refine a_put S kc_Mod kt_Mod 2 (by decide) lf_Mod_58 rfl h0 rfl rfl (Nat.le_of_ble_eq_true rfl) d_Mod_clear_7 (fun w3 h0 e4 => ?_)
  have h0 : w3 b = some (.inr (6, [.int 0, .int (nI c), .int 0, .ref (b + 1), .ref (b + 2), .ref (b + 3), .ref (b + 4), .ref (b + 5), .ref (b + 6), .ref (b + 7), .int (nI m), .ref (b + 8), .int (nI kr.length), .ref (b + 9), .int (nI sz), .ref (b + 10), .ref (b + 11), .ref (b + 12), .ref (b + 13), .int (nI lo.length), .int (if he then nI hi.length else -1), .int (nI pt), .int (if bd then 1 else 0)])) := h0
  have fr := fr.trans (Fr.sub (Fr.of1 e4) (by omega) (by omega))
  have h1 := Fr.cell (Fr.of1 e4) h1 (by omega)
  have h2 := Fr.cell (Fr.of1 e4) h2 (by omega)
  have h3 := Fr.cell (Fr.of1 e4) h3 (by omega)
  have h4 := Fr.cell (Fr.of1 e4) h4 (by omega)
  have h5 := Fr.cell (Fr.of1 e4) h5 (by omega)
  have h6 := Fr.cell (Fr.of1 e4) h6 (by omega)
  have h7 := Fr.cell (Fr.of1 e4) h7 (by omega)
  have h8 := Fr.cell (Fr.of1 e4) h8 (by omega)
  have h9 := Fr.cell (Fr.of1 e4) h9 (by omega)
  have h10 := Fr.cell (Fr.of1 e4) h10 (by omega)
  have h11 := Fr.cell (Fr.of1 e4) h11 (by omega)
  have h12 := Fr.cell (Fr.of1 e4) h12 (by omega)
  have h13 := Fr.cell (Fr.of1 e4) h13 (by omega)
  refine a_aload_n S d_Mod_clear_10 rfl rfl ?_
  refine a_iconst S (v := 0) d_Mod_clear_11 (by decide) ?_
  refine a_put S kc_Mod kt_Mod 1 (by decide) lf_Mod_62 rfl h0 rfl rfl (Nat.le_of_ble_eq_true rfl) d_Mod_clear_12 (fun w5 h0 e6 => ?_)
  have h0 : w5 b = some (.inr (6, [.int 0, .int 0, .int 0, .ref (b + 1), .ref (b + 2), .ref (b + 3), .ref (b + 4), .ref (b + 5), .ref (b + 6), .ref (b + 7), .int (nI m), .ref (b + 8), .int (nI kr.length), .ref (b + 9), .int (nI sz), .ref (b + 10), .ref (b + 11), .ref (b + 12), .ref (b + 13), .int (nI lo.length), .int (if he then nI hi.length else -1), .int (nI pt), .int (if bd then 1 else 0)])) := h0
  have fr := fr.trans (Fr.sub (Fr.of1 e6) (by omega) (by omega))
  have h1 := Fr.cell (Fr.of1 e6) h1 (by omega)
  have h2 := Fr.cell (Fr.of1 e6) h2 (by omega)
  have h3 := Fr.cell (Fr.of1 e6) h3 (by omega)
  have h4 := Fr.cell (Fr.of1 e6) h4 (by omega)
  have h5 := Fr.cell (Fr.of1 e6) h5 (by omega)
  have h6 := Fr.cell (Fr.of1 e6) h6 (by omega)
  have h7 := Fr.cell (Fr.of1 e6) h7 (by omega)
  have h8 := Fr.cell (Fr.of1 e6) h8 (by omega)
  have h9 := Fr.cell (Fr.of1 e6) h9 (by omega)
  have h10 := Fr.cell (Fr.of1 e6) h10 (by omega)
  have h11 := Fr.cell (Fr.of1 e6) h11 (by omega)
  have h12 := Fr.cell (Fr.of1 e6) h12 (by omega)
  have h13 := Fr.cell (Fr.of1 e6) h13 (by omega)
  refine a_aload_n S d_Mod_clear_15 rfl rfl ?_
  refine a_iconst S (v := 0) d_Mod_clear_16 (by decide) ?_
  refine a_put S kc_Mod kt_Mod 10 (by decide) lf_Mod_69 rfl h0 rfl rfl (Nat.le_of_ble_eq_true rfl) d_Mod_clear_17 (fun w7 h0 e8 => ?_)
  have h0 : w7 b = some (.inr (6, [.int 0, .int 0, .int 0, .ref (b + 1), .ref (b + 2), .ref (b + 3), .ref (b + 4), .ref (b + 5), .ref (b + 6), .ref (b + 7), .int 0, .ref (b + 8), .int (nI kr.length), .ref (b + 9), .int (nI sz), .ref (b + 10), .ref (b + 11), .ref (b + 12), .ref (b + 13), .int (nI lo.length), .int (if he then nI hi.length else -1), .int (nI pt), .int (if bd then 1 else 0)])) := h0
  have fr := fr.trans (Fr.sub (Fr.of1 e8) (by omega) (by omega))
  have h1 := Fr.cell (Fr.of1 e8) h1 (by omega)
  have h2 := Fr.cell (Fr.of1 e8) h2 (by omega)
  have h3 := Fr.cell (Fr.of1 e8) h3 (by omega)
  have h4 := Fr.cell (Fr.of1 e8) h4 (by omega)
  have h5 := Fr.cell (Fr.of1 e8) h5 (by omega)
  have h6 := Fr.cell (Fr.of1 e8) h6 (by omega)
  have h7 := Fr.cell (Fr.of1 e8) h7 (by omega)
  have h8 := Fr.cell (Fr.of1 e8) h8 (by omega)
  have h9 := Fr.cell (Fr.of1 e8) h9 (by omega)
  have h10 := Fr.cell (Fr.of1 e8) h10 (by omega)
  have h11 := Fr.cell (Fr.of1 e8) h11 (by omega)
  have h12 := Fr.cell (Fr.of1 e8) h12 (by omega)
  have h13 := Fr.cell (Fr.of1 e8) h13 (by omega)
  refine a_aload_n S d_Mod_clear_20 rfl rfl ?_
  refine a_iconst S (v := 0) d_Mod_clear_21 (by decide) ?_
  refine a_put S kc_Mod kt_Mod 12 (by decide) lf_Mod_72 rfl h0 rfl rfl (Nat.le_of_ble_eq_true rfl) d_Mod_clear_22 (fun w9 h0 e10 => ?_)
  have h0 : w9 b = some (.inr (6, [.int 0, .int 0, .int 0, .ref (b + 1), .ref (b + 2), .ref (b + 3), .ref (b + 4), .ref (b + 5), .ref (b + 6), .ref (b + 7), .int 0, .ref (b + 8), .int 0, .ref (b + 9), .int (nI sz), .ref (b + 10), .ref (b + 11), .ref (b + 12), .ref (b + 13), .int (nI lo.length), .int (if he then nI hi.length else -1), .int (nI pt), .int (if bd then 1 else 0)])) := h0
  have fr := fr.trans (Fr.sub (Fr.of1 e10) (by omega) (by omega))
  have h1 := Fr.cell (Fr.of1 e10) h1 (by omega)
  have h2 := Fr.cell (Fr.of1 e10) h2 (by omega)
  have h3 := Fr.cell (Fr.of1 e10) h3 (by omega)
  have h4 := Fr.cell (Fr.of1 e10) h4 (by omega)
  have h5 := Fr.cell (Fr.of1 e10) h5 (by omega)
  have h6 := Fr.cell (Fr.of1 e10) h6 (by omega)
  have h7 := Fr.cell (Fr.of1 e10) h7 (by omega)
  have h8 := Fr.cell (Fr.of1 e10) h8 (by omega)
  have h9 := Fr.cell (Fr.of1 e10) h9 (by omega)
  have h10 := Fr.cell (Fr.of1 e10) h10 (by omega)
  have h11 := Fr.cell (Fr.of1 e10) h11 (by omega)
  have h12 := Fr.cell (Fr.of1 e10) h12 (by omega)
  have h13 := Fr.cell (Fr.of1 e10) h13 (by omega)
  refine a_aload_n S d_Mod_clear_25 rfl rfl ?_
  refine a_iconst S (v := 0) d_Mod_clear_26 (by decide) ?_
  refine a_callV S (rest := []) lg_Mod_65 h0 (c_Mod_empty X.2.1 D b 0 0 false ki fl va fo go si te 0 ro 0 ma sz en ms lw hw lo.length (if he then nI hi.length else -1) pt bd 0 w9 n (by omega) ⟨h0, h1, h2, h3, h4, h5, h6, h7, h8, h9, h10, h11, h12, h13⟩) (by decide) (by omega) (by omega) rfl (Nat.le_of_ble_eq_true rfl) d_Mod_clear_27 (fun v11 w12 n13 p14 => ?_)
  obtain ⟨va17, fo17, go17, si17, rfl, e16, f15, ⟨h0, h1, h2, h3, h4, h5, h6, h7, h8, h9, h10, h11, h12, h13⟩, hz17, hq17, hN17⟩ := p14
  rw [e16]
  refine a_st (st' := []) rfl ?_
  have fr := fr.trans (Fr.sub f15 (by omega) (by omega))
  exact RT _ _ _ _ _ _ d_Mod_clear_30 (by omega) (by omega) ⟨rfl, rfl, fr, ⟨_, _, _, _, _, _, _, _, _, _, _, _, _, _, _, _, ⟨h0, h1, h2, h3, h4, h5, h6, h7, h8, h9, h10, h11, h12, h13⟩, hI.cl, (hN17 hG)⟩⟩
set_option maxHeartbeats 400000 in
set_option maxRecDepth 100000 in
theorem c_Mod_take (l : Launch) (D : kD) (b : Nat) (th : Int32) (c : Nat) (s : Bool) (K F : Nat → Nat) (L : Nat → kV) (kr : List Nat) (m : Nat) (KT : Nat → Nat → kV) (lo hi : List Nat) (he : Bool) (i : Int32) (w : ww) (n : Nat)  (h : Mdl D w b th c s K F L kr m KT lo hi he) : AM l D M_Mod_take 1 0 0 [.ref b, .int i] w n (fun v w' n' => (∃ t, t < m ∧ i = nI t ∧ v = some (.int 1) ∧ n' = n ∧ Fr w w' b 14 ∧ Mdl D w' b 0 c s K F (KT t) kr m KT lo hi he) ∨ ((∀ t, t < m → i = nI t → False) ∧ v = some (.int 0) ∧ n' = n ∧ Fr w w' b 14 ∧ Mdl D w' b 0 c s K F L kr m KT lo hi he)) := by
  refine AM.ofz (by decide +kernel) rfl (Nat.le_of_ble_eq_true rfl) (fun X A Q hin S RT => ?_)
  have S : FX X (D, A, 2, Q) prog_9_method_40_code "KeyCodecModel" 1 0 0 := S
  have RT : RTz X (D, A, 2, Q) prog_9_method_40_code 0 0 _ := RT
  obtain ⟨ki, fl, va, fo, go, si, te, ro, ma, sz, en, ms, lw, hw, pt, bd, h, hI, hG⟩ := h
  obtain ⟨h0, h1, h2, h3, h4, h5, h6, h7, h8, h9, h10, h11, h12, h13⟩ := h
  have hc5 := hI.1
  have hm12 := hI.2.1
  have hkr := hI.2.2.1
  have hlo := hI.2.2.2.1
  have hhi := hI.2.2.2.2.1
  have hkf := hI.2.2.2.2.2.1
  refine a_lve (lv' := [(0, .ref b), (1, .int i)]) rfl ?_
  have fr : Fr w w b 14 := Fr.refl _ _ _
  refine a_aload_n S d_Mod_take_0 rfl rfl ?_
  refine a_iconst S (v := 0) d_Mod_take_1 (by decide) ?_
  refine a_put S kc_Mod kt_Mod 0 (by decide) lf_Mod_55 rfl h0 rfl rfl (Nat.le_of_ble_eq_true rfl) d_Mod_take_2 (fun w1 h0 e2 => ?_)
  have h0 : w1 b = some (.inr (6, [.int 0, .int (nI c), .int (if s then 1 else 0), .ref (b + 1), .ref (b + 2), .ref (b + 3), .ref (b + 4), .ref (b + 5), .ref (b + 6), .ref (b + 7), .int (nI m), .ref (b + 8), .int (nI kr.length), .ref (b + 9), .int (nI sz), .ref (b + 10), .ref (b + 11), .ref (b + 12), .ref (b + 13), .int (nI lo.length), .int (if he then nI hi.length else -1), .int (nI pt), .int (if bd then 1 else 0)])) := h0
  have fr := fr.trans (Fr.sub (Fr.of1 e2) (by omega) (by omega))
  have h1 := Fr.cell (Fr.of1 e2) h1 (by omega)
  have h2 := Fr.cell (Fr.of1 e2) h2 (by omega)
  have h3 := Fr.cell (Fr.of1 e2) h3 (by omega)
  have h4 := Fr.cell (Fr.of1 e2) h4 (by omega)
  have h5 := Fr.cell (Fr.of1 e2) h5 (by omega)
  have h6 := Fr.cell (Fr.of1 e2) h6 (by omega)
  have h7 := Fr.cell (Fr.of1 e2) h7 (by omega)
  have h8 := Fr.cell (Fr.of1 e2) h8 (by omega)
  have h9 := Fr.cell (Fr.of1 e2) h9 (by omega)
  have h10 := Fr.cell (Fr.of1 e2) h10 (by omega)
  have h11 := Fr.cell (Fr.of1 e2) h11 (by omega)
  have h12 := Fr.cell (Fr.of1 e2) h12 (by omega)
  have h13 := Fr.cell (Fr.of1 e2) h13 (by omega)
  refine a_aload_n S d_Mod_take_5 rfl rfl ?_
  refine a_iload_n S d_Mod_take_6 rfl rfl ?_
  refine a_callV S (rest := []) lg_Mod_177 h0 (c_Mod_isKept X.2.1 D b 0 c s ki fl va fo go si te m ro kr.length ma sz en ms lw hw lo.length (if he then nI hi.length else -1) pt bd i w1 n  ⟨h0, h1, h2, h3, h4, h5, h6, h7, h8, h9, h10, h11, h12, h13⟩) (by decide) (by omega) (by omega) rfl (Nat.le_of_ble_eq_true rfl) d_Mod_take_7 (fun v3 w4 n5 p6 => ?_)
  obtain ⟨rfl, e7, e8⟩ := p6
  rw [e7, e8]
  refine a_st (st' := [.int (if usB true m i then 1 else 0)]) rfl ?_
  refine a_if_ne S (tgt := 15) d_Mod_take_10 rfl (fun hu_ => ?_) (fun hu_ => ?_)
  · obtain ⟨hs_t, t, ht, rfl⟩ := usB_ix (by omega) (bo_1 hu_)
    refine a_aload_n S d_Mod_take_15 rfl rfl ?_
    refine a_iload_n S d_Mod_take_16 rfl rfl ?_
    refine a_iconst S (v := 1) d_Mod_take_17 (by decide) ?_
    refine a_iadd S d_Mod_take_18 ?_
    refine a_eqi (y := nI (t + 1)) (ni_add rfl rfl) ?_
    refine a_iconst S (v := 0) d_Mod_take_19 (by decide) ?_
    refine a_callV S (rest := []) lg_Mod_174 h0 (c_Mod_copy X.2.1 D b 0 c s ki fl va fo go si te m ro kr.length ma sz en ms lw hw lo.length (if he then nI hi.length else -1) pt bd (t + 1) 0 w1 n (by omega) (by omega) (by omega) hG ⟨h0, h1, h2, h3, h4, h5, h6, h7, h8, h9, h10, h11, h12, h13⟩) (by decide) (by omega) (by omega) rfl (Nat.le_of_ble_eq_true rfl) d_Mod_take_20 (fun v9 w10 n11 p12 => ?_)
    obtain ⟨va15, fo15, go15, si15, te15, rfl, e14, f13, ⟨h0, h1, h2, h3, h4, h5, h6, h7, h8, h9, h10, h11, h12, h13⟩, hC1, hC2, hC3, hC4, hC5⟩ := p12
    rw [e14]
    refine a_st (st' := []) rfl ?_
    have hG := NG.cpd hG hC3
    have fr := fr.trans (Fr.sub f13 (by omega) (by omega))
    refine a_iconst S (v := 1) d_Mod_take_23 (by decide) ?_
    exact RT _ _ _ _ _ _ _ d_Mod_take_24 rfl (by omega) (by omega) (Or.inl ⟨t, ht, rfl, rfl, rfl, fr, ⟨_, _, _, _, _, _, _, _, _, _, _, _, _, _, _, _, ⟨h0, h1, h2, h3, h4, h5, h6, h7, h8, h9, h10, h11, h12, h13⟩, (hI.tk ht hC1 hC2 hC3 hC4 hC5), hG⟩⟩)
  · have hx : ∀ t, t < m → i = nI t → False := fun t ht e => usB_no (by omega) (bo_0 hu_) ht rfl e
    refine a_iconst S (v := 0) d_Mod_take_13 (by decide) ?_
    exact RT _ _ _ _ _ _ _ d_Mod_take_14 rfl (by omega) (by omega) (Or.inr ⟨hx, rfl, rfl, fr, ⟨_, _, _, _, _, _, _, _, _, _, _, _, _, _, _, _, ⟨h0, h1, h2, h3, h4, h5, h6, h7, h8, h9, h10, h11, h12, h13⟩, hI, hG⟩⟩)
set_option maxHeartbeats 400000 in
set_option maxRecDepth 100000 in
theorem c_Mod_keep (l : Launch) (D : kD) (b : Nat) (th : Int32) (c : Nat) (s : Bool) (K F : Nat → Nat) (L : Nat → kV) (kr : List Nat) (m : Nat) (KT : Nat → Nat → kV) (lo hi : List Nat) (he : Bool)  (w : ww) (n : Nat)  (h : Mdl D w b th c s K F L kr m KT lo hi he) : AM l D M_Mod_keep 1 0 0 [.ref b] w n (fun v w' n' => (s = true ∧ m < 12 ∧ v = some (.int (nI m)) ∧ n' = n ∧ Fr w w' b 14 ∧ Mdl D w' b 0 c s K F L kr (m + 1) (va_up KT m L) lo hi he) ∨ (¬ (s = true ∧ m < 12) ∧ v = some (.int 0) ∧ n' = n ∧ Fr w w' b 14 ∧ Mdl D w' b 1 c s K F L kr m KT lo hi he)) := by
  refine AM.ofi (by decide +kernel) rfl (Nat.le_of_ble_eq_true rfl) (fun X A Q hin S RT => ?_)
  have S : FX X (D, A, 1, Q) prog_9_method_38_code "KeyCodecModel" 1 0 0 := S
  have RT : RTi X (D, A, 1, Q) prog_9_method_38_code 0 0 _ := RT
  obtain ⟨ki, fl, va, fo, go, si, te, ro, ma, sz, en, ms, lw, hw, pt, bd, h, hI, hG⟩ := h
  obtain ⟨h0, h1, h2, h3, h4, h5, h6, h7, h8, h9, h10, h11, h12, h13⟩ := h
  have hc5 := hI.1
  have hm12 := hI.2.1
  have hkr := hI.2.2.1
  have hlo := hI.2.2.2.1
  have hhi := hI.2.2.2.2.1
  have hkf := hI.2.2.2.2.2.1
  refine a_lve (lv' := [(0, .ref b)]) rfl ?_
  have fr : Fr w w b 14 := Fr.refl _ _ _
  refine a_aload_n S d_Mod_keep_0 rfl rfl ?_
  refine a_aload_n S d_Mod_keep_1 rfl rfl ?_
  refine a_get S kc_Mod 2 (by decide) lf_Mod_58 h0 rfl d_Mod_keep_2 ?_
  refine a_if_eq S (tgt := 17) d_Mod_keep_5 rfl (fun hs_ => ?_) (fun hs_ => ?_)
  · have hx : ¬ (s = true ∧ m < 12) := fun z => by rw [z.1] at hs_; exact absurd hs_ (by decide)
    refine a_iconst S (v := 1) d_Mod_keep_17 (by decide) ?_
    refine a_goto S (tgt := 22) d_Mod_keep_18 rfl ?_
    refine a_put S kc_Mod kt_Mod 0 (by decide) lf_Mod_55 rfl h0 rfl rfl (Nat.le_of_ble_eq_true rfl) d_Mod_keep_22 (fun w1 h0 e2 => ?_)
    have h0 : w1 b = some (.inr (6, [.int 1, .int (nI c), .int (if s then 1 else 0), .ref (b + 1), .ref (b + 2), .ref (b + 3), .ref (b + 4), .ref (b + 5), .ref (b + 6), .ref (b + 7), .int (nI m), .ref (b + 8), .int (nI kr.length), .ref (b + 9), .int (nI sz), .ref (b + 10), .ref (b + 11), .ref (b + 12), .ref (b + 13), .int (nI lo.length), .int (if he then nI hi.length else -1), .int (nI pt), .int (if bd then 1 else 0)])) := h0
    have fr := fr.trans (Fr.sub (Fr.of1 e2) (by omega) (by omega))
    have h1 := Fr.cell (Fr.of1 e2) h1 (by omega)
    have h2 := Fr.cell (Fr.of1 e2) h2 (by omega)
    have h3 := Fr.cell (Fr.of1 e2) h3 (by omega)
    have h4 := Fr.cell (Fr.of1 e2) h4 (by omega)
    have h5 := Fr.cell (Fr.of1 e2) h5 (by omega)
    have h6 := Fr.cell (Fr.of1 e2) h6 (by omega)
    have h7 := Fr.cell (Fr.of1 e2) h7 (by omega)
    have h8 := Fr.cell (Fr.of1 e2) h8 (by omega)
    have h9 := Fr.cell (Fr.of1 e2) h9 (by omega)
    have h10 := Fr.cell (Fr.of1 e2) h10 (by omega)
    have h11 := Fr.cell (Fr.of1 e2) h11 (by omega)
    have h12 := Fr.cell (Fr.of1 e2) h12 (by omega)
    have h13 := Fr.cell (Fr.of1 e2) h13 (by omega)
    refine a_aload_n S d_Mod_keep_25 rfl rfl ?_
    refine a_get S kc_Mod 0 (by decide) lf_Mod_55 h0 rfl d_Mod_keep_26 ?_
    refine a_if_eq S (tgt := 34) d_Mod_keep_29 rfl (fun h29 => ?_) (fun h29 => ?_)
    · exact absurd h29 (by decide)
    · refine a_iconst S (v := 0) d_Mod_keep_32 (by decide) ?_
      exact RT _ _ _ _ _ _ _ d_Mod_keep_33 (by omega) (by omega) (Or.inr ⟨hx, rfl, rfl, fr, ⟨_, _, _, _, _, _, _, _, _, _, _, _, _, _, _, _, ⟨h0, h1, h2, h3, h4, h5, h6, h7, h8, h9, h10, h11, h12, h13⟩, hI, hG⟩⟩)
  · have hs0 : s = true := bo_1 hs_
    refine a_aload_n S d_Mod_keep_8 rfl rfl ?_
    refine a_get S kc_Mod 10 (by decide) lf_Mod_69 h0 rfl d_Mod_keep_9 ?_
    refine a_bipush S (v := 12) d_Mod_keep_12 (by decide) ?_
    refine a_icmp_ne S (tgt := 21) d_Mod_keep_14 rfl (fun h14 => ?_) (fun h14 => ?_)
    · have hm0 : m < 12 := Nat.lt_of_le_of_ne hm12 fun z => h14 (by rw [z]; rfl)
      refine a_iconst S (v := 0) d_Mod_keep_21 (by decide) ?_
      refine a_put S kc_Mod kt_Mod 0 (by decide) lf_Mod_55 rfl h0 rfl rfl (Nat.le_of_ble_eq_true rfl) d_Mod_keep_22 (fun w3 h0 e4 => ?_)
      have h0 : w3 b = some (.inr (6, [.int 0, .int (nI c), .int (if s then 1 else 0), .ref (b + 1), .ref (b + 2), .ref (b + 3), .ref (b + 4), .ref (b + 5), .ref (b + 6), .ref (b + 7), .int (nI m), .ref (b + 8), .int (nI kr.length), .ref (b + 9), .int (nI sz), .ref (b + 10), .ref (b + 11), .ref (b + 12), .ref (b + 13), .int (nI lo.length), .int (if he then nI hi.length else -1), .int (nI pt), .int (if bd then 1 else 0)])) := h0
      have fr := fr.trans (Fr.sub (Fr.of1 e4) (by omega) (by omega))
      have h1 := Fr.cell (Fr.of1 e4) h1 (by omega)
      have h2 := Fr.cell (Fr.of1 e4) h2 (by omega)
      have h3 := Fr.cell (Fr.of1 e4) h3 (by omega)
      have h4 := Fr.cell (Fr.of1 e4) h4 (by omega)
      have h5 := Fr.cell (Fr.of1 e4) h5 (by omega)
      have h6 := Fr.cell (Fr.of1 e4) h6 (by omega)
      have h7 := Fr.cell (Fr.of1 e4) h7 (by omega)
      have h8 := Fr.cell (Fr.of1 e4) h8 (by omega)
      have h9 := Fr.cell (Fr.of1 e4) h9 (by omega)
      have h10 := Fr.cell (Fr.of1 e4) h10 (by omega)
      have h11 := Fr.cell (Fr.of1 e4) h11 (by omega)
      have h12 := Fr.cell (Fr.of1 e4) h12 (by omega)
      have h13 := Fr.cell (Fr.of1 e4) h13 (by omega)
      refine a_aload_n S d_Mod_keep_25 rfl rfl ?_
      refine a_get S kc_Mod 0 (by decide) lf_Mod_55 h0 rfl d_Mod_keep_26 ?_
      refine a_if_eq S (tgt := 34) d_Mod_keep_29 rfl (fun h29 => ?_) (fun h29 => ?_)
      · refine a_aload_n S d_Mod_keep_34 rfl rfl ?_
        refine a_dup S d_Mod_keep_35 rfl ?_
        refine a_get S kc_Mod 10 (by decide) lf_Mod_69 h0 rfl d_Mod_keep_36 ?_
        refine a_iconst S (v := 1) d_Mod_keep_39 (by decide) ?_
        refine a_iadd S d_Mod_keep_40 ?_
        refine a_eqi (y := nI (m + 1)) (ni_add rfl rfl) ?_
        refine a_put S kc_Mod kt_Mod 10 (by decide) lf_Mod_69 rfl h0 rfl rfl (Nat.le_of_ble_eq_true rfl) d_Mod_keep_41 (fun w5 h0 e6 => ?_)
        have h0 : w5 b = some (.inr (6, [.int 0, .int (nI c), .int (if s then 1 else 0), .ref (b + 1), .ref (b + 2), .ref (b + 3), .ref (b + 4), .ref (b + 5), .ref (b + 6), .ref (b + 7), .int (nI (m + 1)), .ref (b + 8), .int (nI kr.length), .ref (b + 9), .int (nI sz), .ref (b + 10), .ref (b + 11), .ref (b + 12), .ref (b + 13), .int (nI lo.length), .int (if he then nI hi.length else -1), .int (nI pt), .int (if bd then 1 else 0)])) := h0
        have fr := fr.trans (Fr.sub (Fr.of1 e6) (by omega) (by omega))
        have h1 := Fr.cell (Fr.of1 e6) h1 (by omega)
        have h2 := Fr.cell (Fr.of1 e6) h2 (by omega)
        have h3 := Fr.cell (Fr.of1 e6) h3 (by omega)
        have h4 := Fr.cell (Fr.of1 e6) h4 (by omega)
        have h5 := Fr.cell (Fr.of1 e6) h5 (by omega)
        have h6 := Fr.cell (Fr.of1 e6) h6 (by omega)
        have h7 := Fr.cell (Fr.of1 e6) h7 (by omega)
        have h8 := Fr.cell (Fr.of1 e6) h8 (by omega)
        have h9 := Fr.cell (Fr.of1 e6) h9 (by omega)
        have h10 := Fr.cell (Fr.of1 e6) h10 (by omega)
        have h11 := Fr.cell (Fr.of1 e6) h11 (by omega)
        have h12 := Fr.cell (Fr.of1 e6) h12 (by omega)
        have h13 := Fr.cell (Fr.of1 e6) h13 (by omega)
        refine a_aload_n S d_Mod_keep_44 rfl rfl ?_
        refine a_iconst S (v := 0) d_Mod_keep_45 (by decide) ?_
        refine a_aload_n S d_Mod_keep_46 rfl rfl ?_
        refine a_get S kc_Mod 10 (by decide) lf_Mod_69 h0 rfl d_Mod_keep_47 ?_
        refine a_callV S (rest := []) lg_Mod_174 h0 (c_Mod_copy X.2.1 D b 0 c s ki fl va fo go si te (m + 1) ro kr.length ma sz en ms lw hw lo.length (if he then nI hi.length else -1) pt bd 0 (m + 1) w5 n (by omega) (by omega) (by omega) hG ⟨h0, h1, h2, h3, h4, h5, h6, h7, h8, h9, h10, h11, h12, h13⟩) (by decide) (by omega) (by omega) rfl (Nat.le_of_ble_eq_true rfl) d_Mod_keep_50 (fun v7 w8 n9 p10 => ?_)
        obtain ⟨va13, fo13, go13, si13, te13, rfl, e12, f11, ⟨h0, h1, h2, h3, h4, h5, h6, h7, h8, h9, h10, h11, h12, h13⟩, hC1, hC2, hC3, hC4, hC5⟩ := p10
        rw [e12]
        refine a_st (st' := []) rfl ?_
        have hG := NG.cpd hG hC3
        have fr := fr.trans (Fr.sub f11 (by omega) (by omega))
        refine a_aload_n S d_Mod_keep_53 rfl rfl ?_
        refine a_get S kc_Mod 10 (by decide) lf_Mod_69 h0 rfl d_Mod_keep_54 ?_
        refine a_iconst S (v := 1) d_Mod_keep_57 (by decide) ?_
        refine a_isub S d_Mod_keep_58 ?_
        refine a_eqi (y := nI (m + 1 - 1)) (ni_sub rfl rfl (by omega)) ?_
        exact RT _ _ _ _ _ _ _ d_Mod_keep_59 (by omega) (by omega) (Or.inl ⟨hs0, hm0, rfl, rfl, fr, ⟨_, _, _, _, _, _, _, _, _, _, _, _, _, _, _, _, ⟨h0, h1, h2, h3, h4, h5, h6, h7, h8, h9, h10, h11, h12, h13⟩, (hI.kp hs0 hm0 hC1 hC2 hC3 hC4 hC5), hG⟩⟩)
      · exact absurd (by decide) h29
    · have hx : ¬ (s = true ∧ m < 12) := fun z => absurd (show m = 12 from (nI_eq (by omega) (by decide)).mp h14) (by omega)
      refine a_iconst S (v := 1) d_Mod_keep_17 (by decide) ?_
      refine a_goto S (tgt := 22) d_Mod_keep_18 rfl ?_
      refine a_put S kc_Mod kt_Mod 0 (by decide) lf_Mod_55 rfl h0 rfl rfl (Nat.le_of_ble_eq_true rfl) d_Mod_keep_22 (fun w14 h0 e15 => ?_)
      have h0 : w14 b = some (.inr (6, [.int 1, .int (nI c), .int (if s then 1 else 0), .ref (b + 1), .ref (b + 2), .ref (b + 3), .ref (b + 4), .ref (b + 5), .ref (b + 6), .ref (b + 7), .int (nI m), .ref (b + 8), .int (nI kr.length), .ref (b + 9), .int (nI sz), .ref (b + 10), .ref (b + 11), .ref (b + 12), .ref (b + 13), .int (nI lo.length), .int (if he then nI hi.length else -1), .int (nI pt), .int (if bd then 1 else 0)])) := h0
      have fr := fr.trans (Fr.sub (Fr.of1 e15) (by omega) (by omega))
      have h1 := Fr.cell (Fr.of1 e15) h1 (by omega)
      have h2 := Fr.cell (Fr.of1 e15) h2 (by omega)
      have h3 := Fr.cell (Fr.of1 e15) h3 (by omega)
      have h4 := Fr.cell (Fr.of1 e15) h4 (by omega)
      have h5 := Fr.cell (Fr.of1 e15) h5 (by omega)
      have h6 := Fr.cell (Fr.of1 e15) h6 (by omega)
      have h7 := Fr.cell (Fr.of1 e15) h7 (by omega)
      have h8 := Fr.cell (Fr.of1 e15) h8 (by omega)
      have h9 := Fr.cell (Fr.of1 e15) h9 (by omega)
      have h10 := Fr.cell (Fr.of1 e15) h10 (by omega)
      have h11 := Fr.cell (Fr.of1 e15) h11 (by omega)
      have h12 := Fr.cell (Fr.of1 e15) h12 (by omega)
      have h13 := Fr.cell (Fr.of1 e15) h13 (by omega)
      refine a_aload_n S d_Mod_keep_25 rfl rfl ?_
      refine a_get S kc_Mod 0 (by decide) lf_Mod_55 h0 rfl d_Mod_keep_26 ?_
      refine a_if_eq S (tgt := 34) d_Mod_keep_29 rfl (fun h29 => ?_) (fun h29 => ?_)
      · exact absurd h29 (by decide)
      · refine a_iconst S (v := 0) d_Mod_keep_32 (by decide) ?_
        exact RT _ _ _ _ _ _ _ d_Mod_keep_33 (by omega) (by omega) (Or.inr ⟨hx, rfl, rfl, fr, ⟨_, _, _, _, _, _, _, _, _, _, _, _, _, _, _, _, ⟨h0, h1, h2, h3, h4, h5, h6, h7, h8, h9, h10, h11, h12, h13⟩, hI, hG⟩⟩)
set_option maxHeartbeats 400000 in
set_option maxRecDepth 100000 in
theorem c_Mod_load (l : Launch) (D : kD) (b : Nat) (th : Int32) (c : Nat) (s : Bool) (K F : Nat → Nat) (L : Nat → kV) (kr : List Nat) (m : Nat) (KT : Nat → Nat → kV) (lo hi : List Nat) (he : Bool) (x : Int32) (z : Int64) (w : ww) (n : Nat)  (h : Mdl D w b th c s K F L kr m KT lo hi he) : AM l D M_Mod_load 0 0 0 [.ref b, .int x, .long z] w n (fun v w' n' => (∃ k, 1 ≤ k ∧ k ≤ 8 ∧ x = nI k ∧ k + kr.length ≤ 120 ∧ v = some (.int 1) ∧ n' = n ∧ Fr w w' b 14 ∧ Mdl D w' b 0 c s K F L (kr ++ be k (uL z)) m KT lo hi he) ∨ ((∀ k, 1 ≤ k → k ≤ 8 → x = nI k → k + kr.length ≤ 120 → False) ∧ v = some (.int 0) ∧ n' = n ∧ Fr w w' b 14 ∧ Mdl D w' b 0 c s K F L kr m KT lo hi he)) := by
  refine AM.ofz (by decide +kernel) rfl (Nat.le_of_ble_eq_true rfl) (fun X A Q hin S RT => ?_)
  have S : FX X (D, A, 5, Q) prog_9_method_26_code "KeyCodecModel" 0 0 0 := S
  have RT : RTz X (D, A, 5, Q) prog_9_method_26_code 0 0 _ := RT
  obtain ⟨ki, fl, va, fo, go, si, te, ro, ma, sz, en, ms, lw, hw, pt, bd, h, hI, hG⟩ := h
  obtain ⟨h0, h1, h2, h3, h4, h5, h6, h7, h8, h9, h10, h11, h12, h13⟩ := h
  have hc5 := hI.1
  have hm12 := hI.2.1
  have hkr := hI.2.2.1
  have hlo := hI.2.2.2.1
  have hhi := hI.2.2.2.2.1
  have hkf := hI.2.2.2.2.2.1
  refine a_lve (lv' := [(0, .ref b), (1, .int x), (2, .long z)]) rfl ?_
  have fr : Fr w w b 14 := Fr.refl _ _ _
  refine a_aload_n S d_Mod_load_0 rfl rfl ?_
  refine a_iconst S (v := 0) d_Mod_load_1 (by decide) ?_
  refine a_put S kc_Mod kt_Mod 0 (by decide) lf_Mod_55 rfl h0 rfl rfl (Nat.le_of_ble_eq_true rfl) d_Mod_load_2 (fun w1 h0 e2 => ?_)
  have h0 : w1 b = some (.inr (6, [.int 0, .int (nI c), .int (if s then 1 else 0), .ref (b + 1), .ref (b + 2), .ref (b + 3), .ref (b + 4), .ref (b + 5), .ref (b + 6), .ref (b + 7), .int (nI m), .ref (b + 8), .int (nI kr.length), .ref (b + 9), .int (nI sz), .ref (b + 10), .ref (b + 11), .ref (b + 12), .ref (b + 13), .int (nI lo.length), .int (if he then nI hi.length else -1), .int (nI pt), .int (if bd then 1 else 0)])) := h0
  have fr := fr.trans (Fr.sub (Fr.of1 e2) (by omega) (by omega))
  have h1 := Fr.cell (Fr.of1 e2) h1 (by omega)
  have h2 := Fr.cell (Fr.of1 e2) h2 (by omega)
  have h3 := Fr.cell (Fr.of1 e2) h3 (by omega)
  have h4 := Fr.cell (Fr.of1 e2) h4 (by omega)
  have h5 := Fr.cell (Fr.of1 e2) h5 (by omega)
  have h6 := Fr.cell (Fr.of1 e2) h6 (by omega)
  have h7 := Fr.cell (Fr.of1 e2) h7 (by omega)
  have h8 := Fr.cell (Fr.of1 e2) h8 (by omega)
  have h9 := Fr.cell (Fr.of1 e2) h9 (by omega)
  have h10 := Fr.cell (Fr.of1 e2) h10 (by omega)
  have h11 := Fr.cell (Fr.of1 e2) h11 (by omega)
  have h12 := Fr.cell (Fr.of1 e2) h12 (by omega)
  have h13 := Fr.cell (Fr.of1 e2) h13 (by omega)
  refine a_iload_n S d_Mod_load_5 rfl rfl ?_
  refine a_iconst S (v := 1) d_Mod_load_6 (by decide) ?_
  refine a_icmp_lt S (tgt := 27) d_Mod_load_7 rfl (fun ha_ => ?_) (fun ha_ => ?_)
  · have hx : ∀ k, 1 ≤ k → k ≤ 8 → x = nI k → k + kr.length ≤ 120 → False := fun k q1 q2 e _ => by subst e; exact absurd ((nI_ltI (b := 1) (by omega) (by decide)).mp ha_) (by omega)
    refine a_iconst S (v := 0) d_Mod_load_27 (by decide) ?_
    exact RT _ _ _ _ _ _ _ d_Mod_load_28 rfl (by omega) (by omega) (Or.inr ⟨hx, rfl, rfl, fr, ⟨_, _, _, _, _, _, _, _, _, _, _, _, _, _, _, _, ⟨h0, h1, h2, h3, h4, h5, h6, h7, h8, h9, h10, h11, h12, h13⟩, hI, hG⟩⟩)
  · refine a_iload_n S d_Mod_load_10 rfl rfl ?_
    refine a_bipush S (v := 8) d_Mod_load_11 (by decide) ?_
    refine a_icmp_gt S (tgt := 27) d_Mod_load_13 rfl (fun hb_ => ?_) (fun hb_ => ?_)
    · have hx : ∀ k, 1 ≤ k → k ≤ 8 → x = nI k → k + kr.length ≤ 120 → False := fun k q1 q2 e _ => by subst e; exact absurd ((nI_ltI (a := 8) (by decide) (by omega)).mp hb_) (by omega)
      refine a_iconst S (v := 0) d_Mod_load_27 (by decide) ?_
      exact RT _ _ _ _ _ _ _ d_Mod_load_28 rfl (by omega) (by omega) (Or.inr ⟨hx, rfl, rfl, fr, ⟨_, _, _, _, _, _, _, _, _, _, _, _, _, _, _, _, ⟨h0, h1, h2, h3, h4, h5, h6, h7, h8, h9, h10, h11, h12, h13⟩, hI, hG⟩⟩)
    · obtain ⟨k, hk1, hk8, rfl⟩ := ld_ix ha_ hb_
      refine a_aload_n S d_Mod_load_16 rfl rfl ?_
      refine a_get S kc_Mod 12 (by decide) lf_Mod_72 h0 rfl d_Mod_load_17 ?_
      refine a_iload_n S d_Mod_load_20 rfl rfl ?_
      refine a_iadd S d_Mod_load_21 ?_
      refine a_bipush S (v := 120) d_Mod_load_22 (by decide) ?_
      refine a_icmp_le S (tgt := 29) d_Mod_load_24 rfl (fun h24 => ?_) (fun h24 => ?_)
      · have hr : k + kr.length ≤ 120 := ldo_1 hk8 hkr h24
        refine a_iload_n S d_Mod_load_29 rfl rfl ?_
        refine a_iconst S (v := 1) d_Mod_load_30 (by decide) ?_
        refine a_isub S d_Mod_load_31 ?_
        refine a_istore S d_Mod_load_32 (Nat.le_of_ble_eq_true rfl) (lv' := [(0, .ref b), (1, .int (nI k)), (2, .long z), (4, .int ((nI k) - 1))]) rfl ?_
        have loop34 : ∀ (kk34 : Nat) (j : Nat) (w1 : ww) (k1 : List Nat) (ro1 : Nat → Int32), j = kk34 → (j ≤ 8) → (Fr w w1 b 14) → (Mo D w1 b 0 c s ki fl va fo go si te m ro1 k1.length ma sz en ms lw hw lo.length (if he then nI hi.length else -1) pt bd) → (k1 ++ be j (uL z) = kr ++ be k (uL z)) → (Arr ro1 k1) → (∀ b ∈ k1, b < 256) → AW X (D, A, 5, Q) 34 [(0, .ref b), (1, .int (nI k)), (2, .long z), (4, .int (nI j - 1))] [] w1 n 0 0 := by
          intro kk34
          induction kk34 using Nat.strongRecOn with
          | ind kk34 ih34 =>
            intro j w1 k1 ro1 hk34 hj fr h hE hA hB
            obtain ⟨h0, h1, h2, h3, h4, h5, h6, h7, h8, h9, h10, h11, h12, h13⟩ := h
            refine a_iload S d_Mod_load_34 rfl ?_
            refine a_if_lt S (tgt := 76) d_Mod_load_36 rfl (fun h36 => ?_) (fun h36 => ?_)
            · have hj0 : j = 0 := Nat.eq_zero_of_not_pos fun z => absurd h36 (k2_nlt (by obtain ⟨i, rfl⟩ : ∃ i, j = i + 1 := ⟨j - 1, by omega⟩; rw [nI_pred]; exact nI_pos' (by omega)))
              subst hj0
              rw [show k1 ++ be 0 (uL z) = k1 from List.append_nil k1] at hE
              subst hE
              refine a_iconst S (v := 1) d_Mod_load_76 (by decide) ?_
              exact RT _ _ _ _ _ _ _ d_Mod_load_77 rfl (by omega) (by omega) (Or.inl ⟨k, hk1, hk8, rfl, hr, rfl, rfl, fr, ⟨_, _, _, _, _, _, _, _, _, _, _, _, _, _, _, _, ⟨h0, h1, h2, h3, h4, h5, h6, h7, h8, h9, h10, h11, h12, h13⟩, (hI.rw_ (by rw [List.length_append, be_len]; omega) hB hA), hG⟩⟩)
            · obtain ⟨i, rfl⟩ : ∃ i, j = i + 1 := ⟨j - 1, by have : j ≠ 0 := (fun z => h36 (by subst z; decide)); omega⟩
              have hlen := congrArg List.length hE
              rw [List.length_append, List.length_append, be_len, be_len] at hlen
              refine a_lve (lv' := [(0, .ref b), (1, .int (nI k)), (2, .long z), (4, .int (nI i))]) (by rw [nI_pred]) ?_
              refine a_aload_n S d_Mod_load_39 rfl rfl ?_
              refine a_get S kc_Mod 11 (by decide) lf_Mod_33 h0 rfl d_Mod_load_40 ?_
              refine a_aload_n S d_Mod_load_43 rfl rfl ?_
              refine a_get S kc_Mod 12 (by decide) lf_Mod_72 h0 rfl d_Mod_load_44 ?_
              refine a_lload_n S d_Mod_load_47 rfl rfl ?_
              refine a_bipush S (v := 8) d_Mod_load_48 (by decide) ?_
              refine a_iload S d_Mod_load_50 rfl ?_
              refine a_imul S d_Mod_load_52 ?_
              refine a_eqi (y := (8 * nI i)) rfl ?_
              refine a_lshr S d_Mod_load_53 rfl ?_
              refine a_ldc2 S (v := 255) lK_Mod_109 d_Mod_load_54 ?_
              refine a_land S d_Mod_load_57 ?_
              refine a_l2i S d_Mod_load_58 ?_
              refine a_eqi (y := nI (uL z / 256 ^ i % 256)) (ars z (by omega)) ?_
              refine a_iast S (i := k1.length) h8 rfl (by omega) (by decide) d_Mod_load_59 (fun w3 h8 e4 => ?_)
              have fr := fr.trans (Fr.sub (Fr.of1 e4) (by omega) (by omega))
              have h0 := Fr.cell (Fr.of1 e4) h0 (by omega)
              have h1 := Fr.cell (Fr.of1 e4) h1 (by omega)
              have h2 := Fr.cell (Fr.of1 e4) h2 (by omega)
              have h3 := Fr.cell (Fr.of1 e4) h3 (by omega)
              have h4 := Fr.cell (Fr.of1 e4) h4 (by omega)
              have h5 := Fr.cell (Fr.of1 e4) h5 (by omega)
              have h6 := Fr.cell (Fr.of1 e4) h6 (by omega)
              have h7 := Fr.cell (Fr.of1 e4) h7 (by omega)
              have h9 := Fr.cell (Fr.of1 e4) h9 (by omega)
              have h10 := Fr.cell (Fr.of1 e4) h10 (by omega)
              have h11 := Fr.cell (Fr.of1 e4) h11 (by omega)
              have h12 := Fr.cell (Fr.of1 e4) h12 (by omega)
              have h13 := Fr.cell (Fr.of1 e4) h13 (by omega)
              refine a_aload_n S d_Mod_load_60 rfl rfl ?_
              refine a_dup S d_Mod_load_61 rfl ?_
              refine a_get S kc_Mod 12 (by decide) lf_Mod_72 h0 rfl d_Mod_load_62 ?_
              refine a_iconst S (v := 1) d_Mod_load_65 (by decide) ?_
              refine a_iadd S d_Mod_load_66 ?_
              refine a_eqi (y := nI (k1.length + 1)) (ni_add rfl rfl) ?_
              refine a_put S kc_Mod kt_Mod 12 (by decide) lf_Mod_72 rfl h0 rfl rfl (Nat.le_of_ble_eq_true rfl) d_Mod_load_67 (fun w5 h0 e6 => ?_)
              have h0 : w5 b = some (.inr (6, [.int 0, .int (nI c), .int (if s then 1 else 0), .ref (b + 1), .ref (b + 2), .ref (b + 3), .ref (b + 4), .ref (b + 5), .ref (b + 6), .ref (b + 7), .int (nI m), .ref (b + 8), .int (nI (k1.length + 1)), .ref (b + 9), .int (nI sz), .ref (b + 10), .ref (b + 11), .ref (b + 12), .ref (b + 13), .int (nI lo.length), .int (if he then nI hi.length else -1), .int (nI pt), .int (if bd then 1 else 0)])) := h0
              have fr := fr.trans (Fr.sub (Fr.of1 e6) (by omega) (by omega))
              have h1 := Fr.cell (Fr.of1 e6) h1 (by omega)
              have h2 := Fr.cell (Fr.of1 e6) h2 (by omega)
              have h3 := Fr.cell (Fr.of1 e6) h3 (by omega)
              have h4 := Fr.cell (Fr.of1 e6) h4 (by omega)
              have h5 := Fr.cell (Fr.of1 e6) h5 (by omega)
              have h6 := Fr.cell (Fr.of1 e6) h6 (by omega)
              have h7 := Fr.cell (Fr.of1 e6) h7 (by omega)
              have h8 := Fr.cell (Fr.of1 e6) h8 (by omega)
              have h9 := Fr.cell (Fr.of1 e6) h9 (by omega)
              have h10 := Fr.cell (Fr.of1 e6) h10 (by omega)
              have h11 := Fr.cell (Fr.of1 e6) h11 (by omega)
              have h12 := Fr.cell (Fr.of1 e6) h12 (by omega)
              have h13 := Fr.cell (Fr.of1 e6) h13 (by omega)
              refine a_iinc S (v := (nI i - 1)) d_Mod_load_70 rfl (ni_m1 i) (Nat.le_of_ble_eq_true rfl) (lv' := [(0, .ref b), (1, .int (nI k)), (2, .long z), (4, .int (nI i - 1))]) rfl ?_
              refine a_goto S (tgt := 34) d_Mod_load_73 rfl ?_
              exact ih34 _ (by omega) i w5 (k1 ++ [uL z / 256 ^ i % 256]) _ rfl (by omega) fr (by rw [List.length_append, List.length_singleton]; exact ⟨h0, h1, h2, h3, h4, h5, h6, h7, h8, h9, h10, h11, h12, h13⟩) (ld_s hE) (hA.push _) (ap1_lt hB (Nat.mod_lt _ (by decide)))
        exact loop34 _ k w1 kr ro rfl hk8 fr ⟨h0, h1, h2, h3, h4, h5, h6, h7, h8, h9, h10, h11, h12, h13⟩ rfl hI.row.2 hI.row.1
      · have hx : ∀ k2, 1 ≤ k2 → k2 ≤ 8 → nI k = nI k2 → k2 + kr.length ≤ 120 → False := fun k2 _ q2 e q => by
          have e2 := (nI_eq (by omega) (by omega)).mp e
          subst e2; exact ldo_0 hk8 hkr h24 q
        refine a_iconst S (v := 0) d_Mod_load_27 (by decide) ?_
        exact RT _ _ _ _ _ _ _ d_Mod_load_28 rfl (by omega) (by omega) (Or.inr ⟨hx, rfl, rfl, fr, ⟨_, _, _, _, _, _, _, _, _, _, _, _, _, _, _, _, ⟨h0, h1, h2, h3, h4, h5, h6, h7, h8, h9, h10, h11, h12, h13⟩, hI, hG⟩⟩)
