theorem hd_Law_field : M_Law_field.1.cls ≠ "java/lang/invoke/MethodHandle" ∧ M_Law_field.1.cls ≠ "java/lang/invoke/VarHandle" ∧ (parseMethodDescriptor M_Law_field.1.desc).map (fun d => d.parameters.length) = some 4 := by decide +kernel
theorem hd_Law_encode : M_Law_encode.1.cls ≠ "java/lang/invoke/MethodHandle" ∧ M_Law_encode.1.cls ≠ "java/lang/invoke/VarHandle" ∧ (parseMethodDescriptor M_Law_encode.1.desc).map (fun d => d.parameters.length) = some 2 := by decide +kernel
theorem hd_Law_decode : M_Law_decode.1.cls ≠ "java/lang/invoke/MethodHandle" ∧ M_Law_decode.1.cls ≠ "java/lang/invoke/VarHandle" ∧ (parseMethodDescriptor M_Law_decode.1.desc).map (fun d => d.parameters.length) = some 2 := by decide +kernel
theorem hd_Law_keep : M_Law_keep.1.cls ≠ "java/lang/invoke/MethodHandle" ∧ M_Law_keep.1.cls ≠ "java/lang/invoke/VarHandle" ∧ (parseMethodDescriptor M_Law_keep.1.desc).map (fun d => d.parameters.length) = some 2 := by decide +kernel
set_option maxHeartbeats 1000000 in
set_option maxRecDepth 100000 in
theorem op_seal {X : MX} {Y : kY} (S : FX X Y code "KeyCodecLaw" 9 601024 7293034) (hY : Y.2.2.1 = 7) (Zs : kS X.2.2.2.2.1 Y.2.1) (hfX : X.2.1.flags = pinnedFlags ++ [noTraceFlag]) (b a N i : Nat) (xs : Nat → Int32) (hX : SCR X Y b N xs) (hN : N ≤ 2560) (hi5 : i + 5 ≤ N) (NX : LQ X Y b a i) (c : Nat) (s : Bool) (K F : Nat → Nat) (L : Nat → kV) (kr : List Nat) (m : Nat) (KT : Nat → Nat → kV) (lo hi : List Nat) (he : Bool) (th : Int32) (g0 : Nat → Int64) (w : ww) (n : Nat) (hL : LI Y.1 w n a g0 th c s K F L kr m KT lo hi he) : AW X Y 212 [(0, .ref b), (1, .ref a), (2, .ref (a + 208)), (3, .ref (a + 222)), (4, .int (nI i))] [] w n (300 + i) (6000 + 4 * i) := by
  obtain ⟨D, A, nL, Q⟩ := Y
  have hY : nL = 7 := hY
  subst hY
  obtain ⟨hC, hM, ho, hn⟩ := hL
  have hV := hC.VI.1
  have hc5 := hC.VI.2.1
  have hm12 := hC.VI.2.2
  refine a_aload_n S d_Law_law_212 rfl rfl ?_
  refine a_callV S (rest := []) lg_Law_41 hC.cell (c_Kc_seal X.2.1 D a c s K F L kr m KT lo hi he  w n hC) (by decide) (by omega) (by omega) rfl (Nat.le_of_ble_eq_true rfl) d_Law_law_213 (fun v1 w2 n3 p4 => ?_)
  rcases p4 with ⟨hs1, hc1, rfl, e6, f5, hC⟩ | ⟨hn1, rfl, e7, e6⟩
  · rw [e6]
    refine a_st (st' := [.int 1]) rfl ?_
    have ho := Fr.cell f5 ho (by omega)
    have hM := hM.mv (fun q z1 z2 => f5 q (by omega))
    refine a_aload_n S d_Law_law_216 rfl rfl ?_
    refine a_callV S (rest := [_]) lg_Law_44 hM.cell.choose_spec (c_Mod_seal X.2.1 D (a + 208) th c s K F L kr m KT lo hi he  w2 n hM) (by decide) (by omega) (by omega) rfl (Nat.le_of_ble_eq_true rfl) d_Law_law_217 (fun v8 w9 n10 p11 => ?_)
    rcases p11 with ⟨gs1, gc1, rfl, e13, f12, hM⟩ | ⟨gn1, rfl, e13, f12, hM⟩
    · rw [e13]
      refine a_st (st' := [.int 1, .int 1]) rfl ?_
      have ho := Fr.cell f12 ho (by omega)
      have hC := hC.mv (fun q z1 z2 => f12 q (by omega))
      refine a_icmp_eq S (tgt := 983) d_Law_law_220 rfl (fun h220 => ?_) (fun h220 => ?_)
      · refine a_lv [0, 1, 2, 3, 4] (lv' := [(0, .ref b), (1, .ref a), (2, .ref (a + 208)), (3, .ref (a + 222)), (4, .int (nI i))]) rfl ?_
        exact NX c true K F (fun _ => (false, 0, 0, [])) kr m KT lo hi he 0 _ _ _ _ _ ⟨hC, hM, ho, by omega⟩ (by omega) (by omega)
      · exact absurd (by decide) h220
    · rw [e13]
      refine a_st (st' := [.int 0, .int 1]) rfl ?_
      have ho := Fr.cell f12 ho (by omega)
      have hC := hC.mv (fun q z1 z2 => f12 q (by omega))
      exact absurd ⟨hs1, hc1⟩ gn1
  · rw [e7, e6]
    refine a_st (st' := [.int 0]) rfl ?_
    refine a_aload_n S d_Law_law_216 rfl rfl ?_
    refine a_callV S (rest := [_]) lg_Law_44 hM.cell.choose_spec (c_Mod_seal X.2.1 D (a + 208) th c s K F L kr m KT lo hi he  w n hM) (by decide) (by omega) (by omega) rfl (Nat.le_of_ble_eq_true rfl) d_Law_law_217 (fun v15 w16 n17 p18 => ?_)
    rcases p18 with ⟨gs1, gc1, rfl, e20, f19, hM⟩ | ⟨gn1, rfl, e20, f19, hM⟩
    · rw [e20]
      refine a_st (st' := [.int 1, .int 0]) rfl ?_
      have ho := Fr.cell f19 ho (by omega)
      have hC := hC.mv (fun q z1 z2 => f19 q (by omega))
      exact absurd ⟨gs1, gc1⟩ hn1
    · rw [e20]
      refine a_st (st' := [.int 0, .int 0]) rfl ?_
      have ho := Fr.cell f19 ho (by omega)
      have hC := hC.mv (fun q z1 z2 => f19 q (by omega))
      refine a_icmp_eq S (tgt := 983) d_Law_law_220 rfl (fun h220 => ?_) (fun h220 => ?_)
      · refine a_lv [0, 1, 2, 3, 4] (lv' := [(0, .ref b), (1, .ref a), (2, .ref (a + 208)), (3, .ref (a + 222)), (4, .int (nI i))]) rfl ?_
        exact NX c s K F L kr m KT lo hi he 0 _ _ _ _ _ ⟨hC, hM, ho, by omega⟩ (by omega) (by omega)
      · exact absurd (by decide) h220
set_option maxHeartbeats 1000000 in
set_option maxRecDepth 100000 in
theorem op_clear {X : MX} {Y : kY} (S : FX X Y code "KeyCodecLaw" 9 601024 7293034) (hY : Y.2.2.1 = 7) (Zs : kS X.2.2.2.2.1 Y.2.1) (hfX : X.2.1.flags = pinnedFlags ++ [noTraceFlag]) (b a N i : Nat) (xs : Nat → Int32) (hX : SCR X Y b N xs) (hN : N ≤ 2560) (hi5 : i + 5 ≤ N) (NX : LQ X Y b a i) (c : Nat) (s : Bool) (K F : Nat → Nat) (L : Nat → kV) (kr : List Nat) (m : Nat) (KT : Nat → Nat → kV) (lo hi : List Nat) (he : Bool) (th : Int32) (g0 : Nat → Int64) (w : ww) (n : Nat) (hL : LI Y.1 w n a g0 th c s K F L kr m KT lo hi he) : AW X Y 225 [(0, .ref b), (1, .ref a), (2, .ref (a + 208)), (3, .ref (a + 222)), (4, .int (nI i))] [] w n (300 + i) (6000 + 4 * i) := by
  obtain ⟨D, A, nL, Q⟩ := Y
  have hY : nL = 7 := hY
  subst hY
  obtain ⟨hC, hM, ho, hn⟩ := hL
  have hV := hC.VI.1
  have hc5 := hC.VI.2.1
  have hm12 := hC.VI.2.2
  refine a_aload_n S d_Law_law_225 rfl rfl ?_
  refine a_callV S (rest := []) lg_Law_45 hC.cell (c_Kc_clear X.2.1 D a c s K F L kr m KT lo hi he  w n hC) (by decide) (by omega) (by omega) rfl (Nat.le_of_ble_eq_true rfl) d_Law_law_226 (fun v1 w2 n3 p4 => ?_)
  obtain ⟨rfl, e6, f5, hC⟩ := p4
  rw [e6]
  refine a_st (st' := []) rfl ?_
  have ho := Fr.cell f5 ho (by omega)
  have hM := hM.mv (fun q z1 z2 => f5 q (by omega))
  refine a_aload_n S d_Law_law_229 rfl rfl ?_
  refine a_callV S (rest := []) lg_Law_48 hM.cell.choose_spec (c_Mod_clear X.2.1 D (a + 208) th c s K F L kr m KT lo hi he  w2 n hM) (by decide) (by omega) (by omega) rfl (Nat.le_of_ble_eq_true rfl) d_Law_law_230 (fun v8 w9 n10 p11 => ?_)
  obtain ⟨rfl, e13, f12, hM⟩ := p11
  rw [e13]
  refine a_st (st' := []) rfl ?_
  have ho := Fr.cell f12 ho (by omega)
  have hC := hC.mv (fun q z1 z2 => f12 q (by omega))
  refine a_goto S (tgt := 983) d_Law_law_233 rfl ?_
  refine a_lv [0, 1, 2, 3, 4] (lv' := [(0, .ref b), (1, .ref a), (2, .ref (a + 208)), (3, .ref (a + 222)), (4, .int (nI i))]) rfl ?_
  exact NX 0 false K F (fun _ => (false, 0, 0, [])) ([]) 0 KT lo hi he 0 _ _ _ _ _ ⟨hC, hM, ho, by omega⟩ (by omega) (by omega)
set_option maxHeartbeats 1000000 in
set_option maxRecDepth 100000 in
theorem op_clearKey {X : MX} {Y : kY} (S : FX X Y code "KeyCodecLaw" 9 601024 7293034) (hY : Y.2.2.1 = 7) (Zs : kS X.2.2.2.2.1 Y.2.1) (hfX : X.2.1.flags = pinnedFlags ++ [noTraceFlag]) (b a N i : Nat) (xs : Nat → Int32) (hX : SCR X Y b N xs) (hN : N ≤ 2560) (hi5 : i + 5 ≤ N) (NX : LQ X Y b a i) (c : Nat) (s : Bool) (K F : Nat → Nat) (L : Nat → kV) (kr : List Nat) (m : Nat) (KT : Nat → Nat → kV) (lo hi : List Nat) (he : Bool) (th : Int32) (g0 : Nat → Int64) (w : ww) (n : Nat) (hL : LI Y.1 w n a g0 th c s K F L kr m KT lo hi he) : AW X Y 530 [(0, .ref b), (1, .ref a), (2, .ref (a + 208)), (3, .ref (a + 222)), (4, .int (nI i))] [] w n (300 + i) (6000 + 4 * i) := by
  obtain ⟨D, A, nL, Q⟩ := Y
  have hY : nL = 7 := hY
  subst hY
  obtain ⟨hC, hM, ho, hn⟩ := hL
  have hV := hC.VI.1
  have hc5 := hC.VI.2.1
  have hm12 := hC.VI.2.2
  refine a_aload_n S d_Law_law_530 rfl rfl ?_
  refine a_callV S (rest := []) lg_Law_80 hC.cell (c_Kc_clearKey X.2.1 D a c s K F L kr m KT lo hi he  w n hC) (by decide) (by omega) (by omega) rfl (Nat.le_of_ble_eq_true rfl) d_Law_law_531 (fun v1 w2 n3 p4 => ?_)
  obtain ⟨rfl, e6, f5, hC⟩ := p4
  rw [e6]
  refine a_st (st' := []) rfl ?_
  have ho := Fr.cell f5 ho (by omega)
  have hM := hM.mv (fun q z1 z2 => f5 q (by omega))
  refine a_aload_n S d_Law_law_534 rfl rfl ?_
  refine a_callV S (rest := []) lg_Law_83 hM.cell.choose_spec (c_Mod_clearKey X.2.1 D (a + 208) th c s K F L kr m KT lo hi he  w2 n hM) (by decide) (by omega) (by omega) rfl (Nat.le_of_ble_eq_true rfl) d_Law_law_535 (fun v8 w9 n10 p11 => ?_)
  obtain ⟨rfl, e13, f12, hM⟩ := p11
  rw [e13]
  refine a_st (st' := []) rfl ?_
  have ho := Fr.cell f12 ho (by omega)
  have hC := hC.mv (fun q z1 z2 => f12 q (by omega))
  refine a_goto S (tgt := 983) d_Law_law_538 rfl ?_
  refine a_lv [0, 1, 2, 3, 4] (lv' := [(0, .ref b), (1, .ref a), (2, .ref (a + 208)), (3, .ref (a + 222)), (4, .int (nI i))]) rfl ?_
  exact NX c s K F L ([]) m KT lo hi he 0 _ _ _ _ _ ⟨hC, hM, ho, by omega⟩ (by omega) (by omega)
set_option maxHeartbeats 1000000 in
set_option maxRecDepth 100000 in
theorem op_put {X : MX} {Y : kY} (S : FX X Y code "KeyCodecLaw" 9 601024 7293034) (hY : Y.2.2.1 = 7) (Zs : kS X.2.2.2.2.1 Y.2.1) (hfX : X.2.1.flags = pinnedFlags ++ [noTraceFlag]) (b a N i : Nat) (xs : Nat → Int32) (hX : SCR X Y b N xs) (hN : N ≤ 2560) (hi5 : i + 5 ≤ N) (NX : LQ X Y b a i) (c : Nat) (s : Bool) (K F : Nat → Nat) (L : Nat → kV) (kr : List Nat) (m : Nat) (KT : Nat → Nat → kV) (lo hi : List Nat) (he : Bool) (th : Int32) (g0 : Nat → Int64) (w : ww) (n : Nat) (hL : LI Y.1 w n a g0 th c s K F L kr m KT lo hi he) : AW X Y 236 [(0, .ref b), (1, .ref a), (2, .ref (a + 208)), (3, .ref (a + 222)), (4, .int (nI i))] [] w n (300 + i) (6000 + 4 * i) := by
  obtain ⟨D, A, nL, Q⟩ := Y
  have hY : nL = 7 := hY
  subst hY
  obtain ⟨hC, hM, ho, hn⟩ := hL
  have hV := hC.VI.1
  have hc5 := hC.VI.2.1
  have hm12 := hC.VI.2.2
  refine a_aload_n S d_Law_law_236 rfl rfl ?_
  refine a_aload_n S d_Law_law_237 rfl rfl ?_
  refine a_iload S d_Law_law_238 rfl ?_
  refine a_iconst S (v := 1) d_Law_law_240 (by decide) ?_
  refine a_iadd S d_Law_law_241 ?_
  refine a_eqi (y := nI (i + 1)) (ni_add rfl rfl) ?_
  refine a_sld S (i := i + 1) hX rfl (by omega) d_Law_law_242 ?_
  refine a_aload_n S d_Law_law_243 rfl rfl ?_
  refine a_iload S d_Law_law_244 rfl ?_
  refine a_iconst S (v := 2) d_Law_law_246 (by decide) ?_
  refine a_iadd S d_Law_law_247 ?_
  refine a_eqi (y := nI (i + 2)) (ni_add rfl rfl) ?_
  refine a_sld S (i := i + 2) hX rfl (by omega) d_Law_law_248 ?_
  refine a_i2l S d_Law_law_249 ?_
  refine a_bipush S (v := 32) d_Law_law_250 (by decide) ?_
  refine a_lshl S d_Law_law_252 rfl ?_
  refine a_eql (y := ((xs (i + 2)).toInt64 <<< ((32 : Int32).toInt64 &&& 63))) rfl ?_
  refine a_aload_n S d_Law_law_253 rfl rfl ?_
  refine a_iload S d_Law_law_254 rfl ?_
  refine a_iconst S (v := 3) d_Law_law_256 (by decide) ?_
  refine a_iadd S d_Law_law_257 ?_
  refine a_eqi (y := nI (i + 3)) (ni_add rfl rfl) ?_
  refine a_sld S (i := i + 3) hX rfl (by omega) d_Law_law_258 ?_
  refine a_i2l S d_Law_law_259 ?_
  refine a_ldc2 S (v := 4294967295) lK_Law_49 d_Law_law_260 ?_
  refine a_land S d_Law_law_263 ?_
  refine a_lor S d_Law_law_264 ?_
  refine a_aload_n S d_Law_law_265 rfl rfl ?_
  refine a_iload S d_Law_law_266 rfl ?_
  refine a_iconst S (v := 4) d_Law_law_268 (by decide) ?_
  refine a_iadd S d_Law_law_269 ?_
  refine a_eqi (y := nI (i + 4)) (ni_add rfl rfl) ?_
  refine a_sld S (i := i + 4) hX rfl (by omega) d_Law_law_270 ?_
  refine a_callV S (rest := []) lg_Law_51 hC.cell (c_Kc_put X.2.1 D a c s K F L kr m KT lo hi he (xs (i + 1)) (((xs (i + 2)).toInt64 <<< ((32 : Int32).toInt64 &&& 63)) ||| ((xs (i + 3)).toInt64 &&& 4294967295)) (xs (i + 4)) w n hC) (by decide) (by omega) (by omega) rfl (Nat.le_of_ble_eq_true rfl) d_Law_law_271 (fun v1 w2 n3 p4 => ?_)
  rcases p4 with ⟨j, hj, hs1, e1, hp0, rfl, e6, f5, hC⟩ | ⟨gx, rfl, e7, e6⟩
  · rw [e6]
    refine a_st (st' := [.int 1]) rfl ?_
    have ho := Fr.cell f5 ho (by omega)
    have hM := hM.mv (fun q z1 z2 => f5 q (by omega))
    refine a_aload_n S d_Law_law_274 rfl rfl ?_
    refine a_aload_n S d_Law_law_275 rfl rfl ?_
    refine a_iload S d_Law_law_276 rfl ?_
    refine a_iconst S (v := 1) d_Law_law_278 (by decide) ?_
    refine a_iadd S d_Law_law_279 ?_
    refine a_eqi (y := nI (i + 1)) (ni_add rfl rfl) ?_
    refine a_sld S (i := i + 1) hX rfl (by omega) d_Law_law_280 ?_
    refine a_aload_n S d_Law_law_281 rfl rfl ?_
    refine a_iload S d_Law_law_282 rfl ?_
    refine a_iconst S (v := 2) d_Law_law_284 (by decide) ?_
    refine a_iadd S d_Law_law_285 ?_
    refine a_eqi (y := nI (i + 2)) (ni_add rfl rfl) ?_
    refine a_sld S (i := i + 2) hX rfl (by omega) d_Law_law_286 ?_
    refine a_i2l S d_Law_law_287 ?_
    refine a_bipush S (v := 32) d_Law_law_288 (by decide) ?_
    refine a_lshl S d_Law_law_290 rfl ?_
    refine a_eql (y := ((xs (i + 2)).toInt64 <<< ((32 : Int32).toInt64 &&& 63))) rfl ?_
    refine a_aload_n S d_Law_law_291 rfl rfl ?_
    refine a_iload S d_Law_law_292 rfl ?_
    refine a_iconst S (v := 3) d_Law_law_294 (by decide) ?_
    refine a_iadd S d_Law_law_295 ?_
    refine a_eqi (y := nI (i + 3)) (ni_add rfl rfl) ?_
    refine a_sld S (i := i + 3) hX rfl (by omega) d_Law_law_296 ?_
    refine a_i2l S d_Law_law_297 ?_
    refine a_ldc2 S (v := 4294967295) lK_Law_49 d_Law_law_298 ?_
    refine a_land S d_Law_law_301 ?_
    refine a_lor S d_Law_law_302 ?_
    refine a_aload_n S d_Law_law_303 rfl rfl ?_
    refine a_iload S d_Law_law_304 rfl ?_
    refine a_iconst S (v := 4) d_Law_law_306 (by decide) ?_
    refine a_iadd S d_Law_law_307 ?_
    refine a_eqi (y := nI (i + 4)) (ni_add rfl rfl) ?_
    refine a_sld S (i := i + 4) hX rfl (by omega) d_Law_law_308 ?_
    refine a_callV S (rest := [_]) lg_Law_55 hM.cell.choose_spec (c_Mod_put X.2.1 D (a + 208) th c s K F L kr m KT lo hi he (xs (i + 1)) (((xs (i + 2)).toInt64 <<< ((32 : Int32).toInt64 &&& 63)) ||| ((xs (i + 3)).toInt64 &&& 4294967295)) (xs (i + 4)) w2 n hM) (by decide) (by omega) (by omega) rfl (Nat.le_of_ble_eq_true rfl) d_Law_law_309 (fun v8 w9 n10 p11 => ?_)
    rcases p11 with ⟨j2, hj2, gs1, e2, hq0, rfl, e13, f12, hM⟩ | ⟨gm, rfl, e13, f12, hM⟩
    · rw [e13]
      refine a_st (st' := [.int 1, .int 1]) rfl ?_
      have ho := Fr.cell f12 ho (by omega)
      have hC := hC.mv (fun q z1 z2 => f12 q (by omega))
      obtain rfl : j = j2 := (nI_eq (by omega) (by omega)).mp (e1.symm.trans e2)
      refine a_icmp_eq S (tgt := 983) d_Law_law_312 rfl (fun h312 => ?_) (fun h312 => ?_)
      · refine a_lv [0, 1, 2, 3, 4] (lv' := [(0, .ref b), (1, .ref a), (2, .ref (a + 208)), (3, .ref (a + 222)), (4, .int (nI i))]) rfl ?_
        exact NX c s K F (va_up L j (false, (((xs (i + 2)).toInt64 <<< ((32 : Int32).toInt64 &&& 63)) ||| ((xs (i + 3)).toInt64 &&& 4294967295)), xs (i + 4), [])) kr m KT lo hi he 0 _ _ _ _ _ ⟨hC, hM, ho, by omega⟩ (by omega) (by omega)
      · exact absurd (by decide) h312
    · rw [e13]
      refine a_st (st' := [.int 0, .int 1]) rfl ?_
      have ho := Fr.cell f12 ho (by omega)
      have hC := hC.mv (fun q z1 z2 => f12 q (by omega))
      exact (gm j hj hs1 e1 hp0).elim
  · rw [e7, e6]
    refine a_st (st' := [.int 0]) rfl ?_
    refine a_aload_n S d_Law_law_274 rfl rfl ?_
    refine a_aload_n S d_Law_law_275 rfl rfl ?_
    refine a_iload S d_Law_law_276 rfl ?_
    refine a_iconst S (v := 1) d_Law_law_278 (by decide) ?_
    refine a_iadd S d_Law_law_279 ?_
    refine a_eqi (y := nI (i + 1)) (ni_add rfl rfl) ?_
    refine a_sld S (i := i + 1) hX rfl (by omega) d_Law_law_280 ?_
    refine a_aload_n S d_Law_law_281 rfl rfl ?_
    refine a_iload S d_Law_law_282 rfl ?_
    refine a_iconst S (v := 2) d_Law_law_284 (by decide) ?_
    refine a_iadd S d_Law_law_285 ?_
    refine a_eqi (y := nI (i + 2)) (ni_add rfl rfl) ?_
    refine a_sld S (i := i + 2) hX rfl (by omega) d_Law_law_286 ?_
    refine a_i2l S d_Law_law_287 ?_
    refine a_bipush S (v := 32) d_Law_law_288 (by decide) ?_
    refine a_lshl S d_Law_law_290 rfl ?_
    refine a_eql (y := ((xs (i + 2)).toInt64 <<< ((32 : Int32).toInt64 &&& 63))) rfl ?_
    refine a_aload_n S d_Law_law_291 rfl rfl ?_
    refine a_iload S d_Law_law_292 rfl ?_
    refine a_iconst S (v := 3) d_Law_law_294 (by decide) ?_
    refine a_iadd S d_Law_law_295 ?_
    refine a_eqi (y := nI (i + 3)) (ni_add rfl rfl) ?_
    refine a_sld S (i := i + 3) hX rfl (by omega) d_Law_law_296 ?_
    refine a_i2l S d_Law_law_297 ?_
    refine a_ldc2 S (v := 4294967295) lK_Law_49 d_Law_law_298 ?_
    refine a_land S d_Law_law_301 ?_
    refine a_lor S d_Law_law_302 ?_
    refine a_aload_n S d_Law_law_303 rfl rfl ?_
    refine a_iload S d_Law_law_304 rfl ?_
    refine a_iconst S (v := 4) d_Law_law_306 (by decide) ?_
    refine a_iadd S d_Law_law_307 ?_
    refine a_eqi (y := nI (i + 4)) (ni_add rfl rfl) ?_
    refine a_sld S (i := i + 4) hX rfl (by omega) d_Law_law_308 ?_
    refine a_callV S (rest := [_]) lg_Law_55 hM.cell.choose_spec (c_Mod_put X.2.1 D (a + 208) th c s K F L kr m KT lo hi he (xs (i + 1)) (((xs (i + 2)).toInt64 <<< ((32 : Int32).toInt64 &&& 63)) ||| ((xs (i + 3)).toInt64 &&& 4294967295)) (xs (i + 4)) w n hM) (by decide) (by omega) (by omega) rfl (Nat.le_of_ble_eq_true rfl) d_Law_law_309 (fun v15 w16 n17 p18 => ?_)
    rcases p18 with ⟨j2, hj2, gs1, e2, hq0, rfl, e20, f19, hM⟩ | ⟨gm, rfl, e20, f19, hM⟩
    · rw [e20]
      refine a_st (st' := [.int 1, .int 0]) rfl ?_
      have ho := Fr.cell f19 ho (by omega)
      have hC := hC.mv (fun q z1 z2 => f19 q (by omega))
      exact (gx j2 hj2 gs1 e2 hq0).elim
    · rw [e20]
      refine a_st (st' := [.int 0, .int 0]) rfl ?_
      have ho := Fr.cell f19 ho (by omega)
      have hC := hC.mv (fun q z1 z2 => f19 q (by omega))
      refine a_icmp_eq S (tgt := 983) d_Law_law_312 rfl (fun h312 => ?_) (fun h312 => ?_)
      · refine a_lv [0, 1, 2, 3, 4] (lv' := [(0, .ref b), (1, .ref a), (2, .ref (a + 208)), (3, .ref (a + 222)), (4, .int (nI i))]) rfl ?_
        exact NX c s K F L kr m KT lo hi he 0 _ _ _ _ _ ⟨hC, hM, ho, by omega⟩ (by omega) (by omega)
      · exact absurd (by decide) h312
set_option maxHeartbeats 1000000 in
set_option maxRecDepth 100000 in
theorem op_text {X : MX} {Y : kY} (S : FX X Y code "KeyCodecLaw" 9 601024 7293034) (hY : Y.2.2.1 = 7) (Zs : kS X.2.2.2.2.1 Y.2.1) (hfX : X.2.1.flags = pinnedFlags ++ [noTraceFlag]) (b a N i : Nat) (xs : Nat → Int32) (hX : SCR X Y b N xs) (hN : N ≤ 2560) (hi5 : i + 5 ≤ N) (NX : LQ X Y b a i) (c : Nat) (s : Bool) (K F : Nat → Nat) (L : Nat → kV) (kr : List Nat) (m : Nat) (KT : Nat → Nat → kV) (lo hi : List Nat) (he : Bool) (th : Int32) (g0 : Nat → Int64) (w : ww) (n : Nat) (hL : LI Y.1 w n a g0 th c s K F L kr m KT lo hi he) : AW X Y 317 [(0, .ref b), (1, .ref a), (2, .ref (a + 208)), (3, .ref (a + 222)), (4, .int (nI i))] [] w n (300 + i) (6000 + 4 * i) := by
  obtain ⟨D, A, nL, Q⟩ := Y
  have hY : nL = 7 := hY
  subst hY
  obtain ⟨hC, hM, ho, hn⟩ := hL
  have hV := hC.VI.1
  have hc5 := hC.VI.2.1
  have hm12 := hC.VI.2.2
  refine a_aload_n S d_Law_law_317 rfl rfl ?_
  refine a_aload_n S d_Law_law_318 rfl rfl ?_
  refine a_iload S d_Law_law_319 rfl ?_
  refine a_iconst S (v := 1) d_Law_law_321 (by decide) ?_
  refine a_iadd S d_Law_law_322 ?_
  refine a_eqi (y := nI (i + 1)) (ni_add rfl rfl) ?_
  refine a_sld S (i := i + 1) hX rfl (by omega) d_Law_law_323 ?_
  refine a_aload_n S d_Law_law_324 rfl rfl ?_
  refine a_iload S d_Law_law_325 rfl ?_
  refine a_iconst S (v := 2) d_Law_law_327 (by decide) ?_
  refine a_iadd S d_Law_law_328 ?_
  refine a_eqi (y := nI (i + 2)) (ni_add rfl rfl) ?_
  refine a_sld S (i := i + 2) hX rfl (by omega) d_Law_law_329 ?_
  refine a_callV S (rest := []) lg_Law_56 hC.cell (c_Kc_text X.2.1 D a c s K F L kr m KT lo hi he (xs (i + 1)) (xs (i + 2)) w n hC) (by decide) (by omega) (by omega) rfl (Nat.le_of_ble_eq_true rfl) d_Law_law_330 (fun v1 w2 n3 p4 => ?_)
  rcases p4 with ⟨j, hj, hs1, e1, hp0, hp1, rfl, e6, f5, hC⟩ | ⟨gx, rfl, e6, f5, hC⟩
  · rw [e6]
    refine a_st (st' := [.int 1]) rfl ?_
    have ho := Fr.cell f5 ho (by omega)
    have hM := hM.mv (fun q z1 z2 => f5 q (by omega))
    refine a_aload_n S d_Law_law_333 rfl rfl ?_
    refine a_aload_n S d_Law_law_334 rfl rfl ?_
    refine a_iload S d_Law_law_335 rfl ?_
    refine a_iconst S (v := 1) d_Law_law_337 (by decide) ?_
    refine a_iadd S d_Law_law_338 ?_
    refine a_eqi (y := nI (i + 1)) (ni_add rfl rfl) ?_
    refine a_sld S (i := i + 1) hX rfl (by omega) d_Law_law_339 ?_
    refine a_aload_n S d_Law_law_340 rfl rfl ?_
    refine a_iload S d_Law_law_341 rfl ?_
    refine a_iconst S (v := 2) d_Law_law_343 (by decide) ?_
    refine a_iadd S d_Law_law_344 ?_
    refine a_eqi (y := nI (i + 2)) (ni_add rfl rfl) ?_
    refine a_sld S (i := i + 2) hX rfl (by omega) d_Law_law_345 ?_
    refine a_callV S (rest := [_]) lg_Law_60 hM.cell.choose_spec (c_Mod_text X.2.1 D (a + 208) th c s K F L kr m KT lo hi he (xs (i + 1)) (xs (i + 2)) w2 n hV hM) (by decide) (by omega) (by omega) rfl (Nat.le_of_ble_eq_true rfl) d_Law_law_346 (fun v8 w9 n10 p11 => ?_)
    rcases p11 with ⟨j2, hj2, gs1, e2, hq0, hq1, rfl, e13, f12, hM⟩ | ⟨gm, rfl, e13, f12, hM⟩
    · rw [e13]
      refine a_st (st' := [.int 1, .int 1]) rfl ?_
      have ho := Fr.cell f12 ho (by omega)
      have hC := hC.mv (fun q z1 z2 => f12 q (by omega))
      obtain rfl : j = j2 := (nI_eq (by omega) (by omega)).mp (e1.symm.trans e2)
      refine a_icmp_eq S (tgt := 983) d_Law_law_349 rfl (fun h349 => ?_) (fun h349 => ?_)
      · refine a_lv [0, 1, 2, 3, 4] (lv' := [(0, .ref b), (1, .ref a), (2, .ref (a + 208)), (3, .ref (a + 222)), (4, .int (nI i))]) rfl ?_
        exact NX c s K F (va_up L j (false, (L j).2.1, (L j).2.2.1, (L j).2.2.2 ++ [by8 (xs (i + 2))])) kr m KT lo hi he 0 _ _ _ _ _ ⟨hC, hM, ho, by omega⟩ (by omega) (by omega)
      · exact absurd (by decide) h349
    · rw [e13]
      refine a_st (st' := [.int 0, .int 1]) rfl ?_
      have ho := Fr.cell f12 ho (by omega)
      have hC := hC.mv (fun q z1 z2 => f12 q (by omega))
      exact (gm j hj hs1 e1 hp0 hp1).elim
  · rw [e6]
    refine a_st (st' := [.int 0]) rfl ?_
    have ho := Fr.cell f5 ho (by omega)
    have hM := hM.mv (fun q z1 z2 => f5 q (by omega))
    refine a_aload_n S d_Law_law_333 rfl rfl ?_
    refine a_aload_n S d_Law_law_334 rfl rfl ?_
    refine a_iload S d_Law_law_335 rfl ?_
    refine a_iconst S (v := 1) d_Law_law_337 (by decide) ?_
    refine a_iadd S d_Law_law_338 ?_
    refine a_eqi (y := nI (i + 1)) (ni_add rfl rfl) ?_
    refine a_sld S (i := i + 1) hX rfl (by omega) d_Law_law_339 ?_
    refine a_aload_n S d_Law_law_340 rfl rfl ?_
    refine a_iload S d_Law_law_341 rfl ?_
    refine a_iconst S (v := 2) d_Law_law_343 (by decide) ?_
    refine a_iadd S d_Law_law_344 ?_
    refine a_eqi (y := nI (i + 2)) (ni_add rfl rfl) ?_
    refine a_sld S (i := i + 2) hX rfl (by omega) d_Law_law_345 ?_
    refine a_callV S (rest := [_]) lg_Law_60 hM.cell.choose_spec (c_Mod_text X.2.1 D (a + 208) th c s K F L kr m KT lo hi he (xs (i + 1)) (xs (i + 2)) w2 n hV hM) (by decide) (by omega) (by omega) rfl (Nat.le_of_ble_eq_true rfl) d_Law_law_346 (fun v15 w16 n17 p18 => ?_)
    rcases p18 with ⟨j2, hj2, gs1, e2, hq0, hq1, rfl, e20, f19, hM⟩ | ⟨gm, rfl, e20, f19, hM⟩
    · rw [e20]
      refine a_st (st' := [.int 1, .int 0]) rfl ?_
      have ho := Fr.cell f19 ho (by omega)
      have hC := hC.mv (fun q z1 z2 => f19 q (by omega))
      exact (gx j2 hj2 gs1 e2 hq0 hq1).elim
    · rw [e20]
      refine a_st (st' := [.int 0, .int 0]) rfl ?_
      have ho := Fr.cell f19 ho (by omega)
      have hC := hC.mv (fun q z1 z2 => f19 q (by omega))
      refine a_icmp_eq S (tgt := 983) d_Law_law_349 rfl (fun h349 => ?_) (fun h349 => ?_)
      · refine a_lv [0, 1, 2, 3, 4] (lv' := [(0, .ref b), (1, .ref a), (2, .ref (a + 208)), (3, .ref (a + 222)), (4, .int (nI i))]) rfl ?_
        exact NX c s K F L kr m KT lo hi he 0 _ _ _ _ _ ⟨hC, hM, ho, by omega⟩ (by omega) (by omega)
      · exact absurd (by decide) h349
set_option maxHeartbeats 1000000 in
set_option maxRecDepth 100000 in
theorem op_absent {X : MX} {Y : kY} (S : FX X Y code "KeyCodecLaw" 9 601024 7293034) (hY : Y.2.2.1 = 7) (Zs : kS X.2.2.2.2.1 Y.2.1) (hfX : X.2.1.flags = pinnedFlags ++ [noTraceFlag]) (b a N i : Nat) (xs : Nat → Int32) (hX : SCR X Y b N xs) (hN : N ≤ 2560) (hi5 : i + 5 ≤ N) (NX : LQ X Y b a i) (c : Nat) (s : Bool) (K F : Nat → Nat) (L : Nat → kV) (kr : List Nat) (m : Nat) (KT : Nat → Nat → kV) (lo hi : List Nat) (he : Bool) (th : Int32) (g0 : Nat → Int64) (w : ww) (n : Nat) (hL : LI Y.1 w n a g0 th c s K F L kr m KT lo hi he) : AW X Y 354 [(0, .ref b), (1, .ref a), (2, .ref (a + 208)), (3, .ref (a + 222)), (4, .int (nI i))] [] w n (300 + i) (6000 + 4 * i) := by
  obtain ⟨D, A, nL, Q⟩ := Y
  have hY : nL = 7 := hY
  subst hY
  obtain ⟨hC, hM, ho, hn⟩ := hL
  have hV := hC.VI.1
  have hc5 := hC.VI.2.1
  have hm12 := hC.VI.2.2
  refine a_aload_n S d_Law_law_354 rfl rfl ?_
  refine a_aload_n S d_Law_law_355 rfl rfl ?_
  refine a_iload S d_Law_law_356 rfl ?_
  refine a_iconst S (v := 1) d_Law_law_358 (by decide) ?_
  refine a_iadd S d_Law_law_359 ?_
  refine a_eqi (y := nI (i + 1)) (ni_add rfl rfl) ?_
  refine a_sld S (i := i + 1) hX rfl (by omega) d_Law_law_360 ?_
  refine a_callV S (rest := []) lg_Law_61 hC.cell (c_Kc_absent X.2.1 D a c s K F L kr m KT lo hi he (xs (i + 1)) w n hC) (by decide) (by omega) (by omega) rfl (Nat.le_of_ble_eq_true rfl) d_Law_law_361 (fun v1 w2 n3 p4 => ?_)
  rcases p4 with ⟨j, hj, hs1, e1, hp0, rfl, e6, f5, hC⟩ | ⟨gx, rfl, e7, e6⟩
  · rw [e6]
    refine a_st (st' := [.int 1]) rfl ?_
    have ho := Fr.cell f5 ho (by omega)
    have hM := hM.mv (fun q z1 z2 => f5 q (by omega))
    refine a_aload_n S d_Law_law_364 rfl rfl ?_
    refine a_aload_n S d_Law_law_365 rfl rfl ?_
    refine a_iload S d_Law_law_366 rfl ?_
    refine a_iconst S (v := 1) d_Law_law_368 (by decide) ?_
    refine a_iadd S d_Law_law_369 ?_
    refine a_eqi (y := nI (i + 1)) (ni_add rfl rfl) ?_
    refine a_sld S (i := i + 1) hX rfl (by omega) d_Law_law_370 ?_
    refine a_callV S (rest := [_]) lg_Law_65 hM.cell.choose_spec (c_Mod_absent X.2.1 D (a + 208) th c s K F L kr m KT lo hi he (xs (i + 1)) w2 n hM) (by decide) (by omega) (by omega) rfl (Nat.le_of_ble_eq_true rfl) d_Law_law_371 (fun v8 w9 n10 p11 => ?_)
    rcases p11 with ⟨j2, hj2, gs1, e2, hq0, rfl, e13, f12, hM⟩ | ⟨gm, rfl, e13, f12, hM⟩
    · rw [e13]
      refine a_st (st' := [.int 1, .int 1]) rfl ?_
      have ho := Fr.cell f12 ho (by omega)
      have hC := hC.mv (fun q z1 z2 => f12 q (by omega))
      obtain rfl : j = j2 := (nI_eq (by omega) (by omega)).mp (e1.symm.trans e2)
      refine a_icmp_eq S (tgt := 983) d_Law_law_374 rfl (fun h374 => ?_) (fun h374 => ?_)
      · refine a_lv [0, 1, 2, 3, 4] (lv' := [(0, .ref b), (1, .ref a), (2, .ref (a + 208)), (3, .ref (a + 222)), (4, .int (nI i))]) rfl ?_
        exact NX c s K F (va_up L j (true, 0, 0, [])) kr m KT lo hi he 0 _ _ _ _ _ ⟨hC, hM, ho, by omega⟩ (by omega) (by omega)
      · exact absurd (by decide) h374
    · rw [e13]
      refine a_st (st' := [.int 0, .int 1]) rfl ?_
      have ho := Fr.cell f12 ho (by omega)
      have hC := hC.mv (fun q z1 z2 => f12 q (by omega))
      exact (gm j hj hs1 e1 hp0).elim
  · rw [e7, e6]
    refine a_st (st' := [.int 0]) rfl ?_
    refine a_aload_n S d_Law_law_364 rfl rfl ?_
    refine a_aload_n S d_Law_law_365 rfl rfl ?_
    refine a_iload S d_Law_law_366 rfl ?_
    refine a_iconst S (v := 1) d_Law_law_368 (by decide) ?_
    refine a_iadd S d_Law_law_369 ?_
    refine a_eqi (y := nI (i + 1)) (ni_add rfl rfl) ?_
    refine a_sld S (i := i + 1) hX rfl (by omega) d_Law_law_370 ?_
    refine a_callV S (rest := [_]) lg_Law_65 hM.cell.choose_spec (c_Mod_absent X.2.1 D (a + 208) th c s K F L kr m KT lo hi he (xs (i + 1)) w n hM) (by decide) (by omega) (by omega) rfl (Nat.le_of_ble_eq_true rfl) d_Law_law_371 (fun v15 w16 n17 p18 => ?_)
    rcases p18 with ⟨j2, hj2, gs1, e2, hq0, rfl, e20, f19, hM⟩ | ⟨gm, rfl, e20, f19, hM⟩
    · rw [e20]
      refine a_st (st' := [.int 1, .int 0]) rfl ?_
      have ho := Fr.cell f19 ho (by omega)
      have hC := hC.mv (fun q z1 z2 => f19 q (by omega))
      exact (gx j2 hj2 gs1 e2 hq0).elim
    · rw [e20]
      refine a_st (st' := [.int 0, .int 0]) rfl ?_
      have ho := Fr.cell f19 ho (by omega)
      have hC := hC.mv (fun q z1 z2 => f19 q (by omega))
      refine a_icmp_eq S (tgt := 983) d_Law_law_374 rfl (fun h374 => ?_) (fun h374 => ?_)
      · refine a_lv [0, 1, 2, 3, 4] (lv' := [(0, .ref b), (1, .ref a), (2, .ref (a + 208)), (3, .ref (a + 222)), (4, .int (nI i))]) rfl ?_
        exact NX c s K F L kr m KT lo hi he 0 _ _ _ _ _ ⟨hC, hM, ho, by omega⟩ (by omega) (by omega)
      · exact absurd (by decide) h374
set_option maxHeartbeats 1000000 in
set_option maxRecDepth 100000 in
theorem op_get {X : MX} {Y : kY} (S : FX X Y code "KeyCodecLaw" 9 601024 7293034) (hY : Y.2.2.1 = 7) (Zs : kS X.2.2.2.2.1 Y.2.1) (hfX : X.2.1.flags = pinnedFlags ++ [noTraceFlag]) (b a N i : Nat) (xs : Nat → Int32) (hX : SCR X Y b N xs) (hN : N ≤ 2560) (hi5 : i + 5 ≤ N) (NX : LQ X Y b a i) (c : Nat) (s : Bool) (K F : Nat → Nat) (L : Nat → kV) (kr : List Nat) (m : Nat) (KT : Nat → Nat → kV) (lo hi : List Nat) (he : Bool) (th : Int32) (g0 : Nat → Int64) (w : ww) (n : Nat) (hL : LI Y.1 w n a g0 th c s K F L kr m KT lo hi he) : AW X Y 379 [(0, .ref b), (1, .ref a), (2, .ref (a + 208)), (3, .ref (a + 222)), (4, .int (nI i))] [] w n (300 + i) (6000 + 4 * i) := by
  obtain ⟨D, A, nL, Q⟩ := Y
  have hY : nL = 7 := hY
  subst hY
  obtain ⟨hC, hM, ho, hn⟩ := hL
  have hV := hC.VI.1
  have hc5 := hC.VI.2.1
  have hm12 := hC.VI.2.2
  refine a_aload_n S d_Law_law_379 rfl rfl ?_
  refine a_aload_n S d_Law_law_380 rfl rfl ?_
  refine a_iload S d_Law_law_381 rfl ?_
  refine a_iconst S (v := 1) d_Law_law_383 (by decide) ?_
  refine a_iadd S d_Law_law_384 ?_
  refine a_eqi (y := nI (i + 1)) (ni_add rfl rfl) ?_
  refine a_sld S (i := i + 1) hX rfl (by omega) d_Law_law_385 ?_
  refine a_aload_n S d_Law_law_386 rfl rfl ?_
  refine a_iload S d_Law_law_387 rfl ?_
  refine a_iconst S (v := 2) d_Law_law_389 (by decide) ?_
  refine a_iadd S d_Law_law_390 ?_
  refine a_eqi (y := nI (i + 2)) (ni_add rfl rfl) ?_
  refine a_sld S (i := i + 2) hX rfl (by omega) d_Law_law_391 ?_
  refine a_callV S (rest := []) lg_Law_66 hC.cell (c_Kc_get X.2.1 D a c s K F L kr m KT lo hi he (xs (i + 1)) (xs (i + 2)) w n hC) (by decide) (by omega) (by omega) rfl (Nat.le_of_ble_eq_true rfl) d_Law_law_392 (fun v1 w2 n3 p4 => ?_)
  rcases p4 with ⟨⟨j, hj, hs1, e1, hp0, rfl⟩ | ⟨gx, rfl⟩, e7, e6⟩
  · rw [e7, e6]
    refine a_st (st' := [.long (gtV (K j) (L j) (xs (i + 2)))]) rfl ?_
    refine a_aload_n S d_Law_law_395 rfl rfl ?_
    refine a_aload_n S d_Law_law_396 rfl rfl ?_
    refine a_iload S d_Law_law_397 rfl ?_
    refine a_iconst S (v := 1) d_Law_law_399 (by decide) ?_
    refine a_iadd S d_Law_law_400 ?_
    refine a_eqi (y := nI (i + 1)) (ni_add rfl rfl) ?_
    refine a_sld S (i := i + 1) hX rfl (by omega) d_Law_law_401 ?_
    refine a_aload_n S d_Law_law_402 rfl rfl ?_
    refine a_iload S d_Law_law_403 rfl ?_
    refine a_iconst S (v := 2) d_Law_law_405 (by decide) ?_
    refine a_iadd S d_Law_law_406 ?_
    refine a_eqi (y := nI (i + 2)) (ni_add rfl rfl) ?_
    refine a_sld S (i := i + 2) hX rfl (by omega) d_Law_law_407 ?_
    refine a_callV S (rest := [_]) lg_Law_70 hM.cell.choose_spec (c_Mod_get X.2.1 D (a + 208) th c s K F L kr m KT lo hi he (xs (i + 1)) (xs (i + 2)) w n hV hM) (by decide) (by omega) (by omega) rfl (Nat.le_of_ble_eq_true rfl) d_Law_law_408 (fun v8 w9 n10 p11 => ?_)
    rcases p11 with ⟨⟨j2, hj2, gs1, e2, hq0, rfl⟩ | ⟨gm, rfl⟩, e13, f12, hM⟩
    · rw [e13]
      refine a_st (st' := [.long (gtV (K j2) (L j2) (xs (i + 2))), .long (gtV (K j) (L j) (xs (i + 2)))]) rfl ?_
      have ho := Fr.cell f12 ho (by omega)
      have hC := hC.mv (fun q z1 z2 => f12 q (by omega))
      obtain rfl : j = j2 := (nI_eq (by omega) (by omega)).mp (e1.symm.trans e2)
      refine a_lcmp S d_Law_law_411 ?_
      refine a_if_eq S (tgt := 983) d_Law_law_412 rfl (fun h412 => ?_) (fun h412 => ?_)
      · refine a_lv [0, 1, 2, 3, 4] (lv' := [(0, .ref b), (1, .ref a), (2, .ref (a + 208)), (3, .ref (a + 222)), (4, .int (nI i))]) rfl ?_
        exact NX c s K F L kr m KT lo hi he 0 _ _ _ _ _ ⟨hC, hM, ho, by omega⟩ (by omega) (by omega)
      · exact absurd (lg_self _) h412
    · rw [e13]
      refine a_st (st' := [.long (-1), .long (gtV (K j) (L j) (xs (i + 2)))]) rfl ?_
      have ho := Fr.cell f12 ho (by omega)
      have hC := hC.mv (fun q z1 z2 => f12 q (by omega))
      exact (gm j hj hs1 e1 hp0).elim
  · rw [e7, e6]
    refine a_st (st' := [.long (-1)]) rfl ?_
    refine a_aload_n S d_Law_law_395 rfl rfl ?_
    refine a_aload_n S d_Law_law_396 rfl rfl ?_
    refine a_iload S d_Law_law_397 rfl ?_
    refine a_iconst S (v := 1) d_Law_law_399 (by decide) ?_
    refine a_iadd S d_Law_law_400 ?_
    refine a_eqi (y := nI (i + 1)) (ni_add rfl rfl) ?_
    refine a_sld S (i := i + 1) hX rfl (by omega) d_Law_law_401 ?_
    refine a_aload_n S d_Law_law_402 rfl rfl ?_
    refine a_iload S d_Law_law_403 rfl ?_
    refine a_iconst S (v := 2) d_Law_law_405 (by decide) ?_
    refine a_iadd S d_Law_law_406 ?_
    refine a_eqi (y := nI (i + 2)) (ni_add rfl rfl) ?_
    refine a_sld S (i := i + 2) hX rfl (by omega) d_Law_law_407 ?_
    refine a_callV S (rest := [_]) lg_Law_70 hM.cell.choose_spec (c_Mod_get X.2.1 D (a + 208) th c s K F L kr m KT lo hi he (xs (i + 1)) (xs (i + 2)) w n hV hM) (by decide) (by omega) (by omega) rfl (Nat.le_of_ble_eq_true rfl) d_Law_law_408 (fun v15 w16 n17 p18 => ?_)
    rcases p18 with ⟨⟨j2, hj2, gs1, e2, hq0, rfl⟩ | ⟨gm, rfl⟩, e20, f19, hM⟩
    · rw [e20]
      refine a_st (st' := [.long (gtV (K j2) (L j2) (xs (i + 2))), .long (-1)]) rfl ?_
      have ho := Fr.cell f19 ho (by omega)
      have hC := hC.mv (fun q z1 z2 => f19 q (by omega))
      exact (gx j2 hj2 gs1 e2 hq0).elim
    · rw [e20]
      refine a_st (st' := [.long (-1), .long (-1)]) rfl ?_
      have ho := Fr.cell f19 ho (by omega)
      have hC := hC.mv (fun q z1 z2 => f19 q (by omega))
      refine a_lcmp S d_Law_law_411 ?_
      refine a_if_eq S (tgt := 983) d_Law_law_412 rfl (fun h412 => ?_) (fun h412 => ?_)
      · refine a_lv [0, 1, 2, 3, 4] (lv' := [(0, .ref b), (1, .ref a), (2, .ref (a + 208)), (3, .ref (a + 222)), (4, .int (nI i))]) rfl ?_
        exact NX c s K F L kr m KT lo hi he 0 _ _ _ _ _ ⟨hC, hM, ho, by omega⟩ (by omega) (by omega)
      · exact absurd (lg_self _) h412
set_option maxHeartbeats 1000000 in
set_option maxRecDepth 100000 in
theorem op_load {X : MX} {Y : kY} (S : FX X Y code "KeyCodecLaw" 9 601024 7293034) (hY : Y.2.2.1 = 7) (Zs : kS X.2.2.2.2.1 Y.2.1) (hfX : X.2.1.flags = pinnedFlags ++ [noTraceFlag]) (b a N i : Nat) (xs : Nat → Int32) (hX : SCR X Y b N xs) (hN : N ≤ 2560) (hi5 : i + 5 ≤ N) (NX : LQ X Y b a i) (c : Nat) (s : Bool) (K F : Nat → Nat) (L : Nat → kV) (kr : List Nat) (m : Nat) (KT : Nat → Nat → kV) (lo hi : List Nat) (he : Bool) (th : Int32) (g0 : Nat → Int64) (w : ww) (n : Nat) (hL : LI Y.1 w n a g0 th c s K F L kr m KT lo hi he) : AW X Y 461 [(0, .ref b), (1, .ref a), (2, .ref (a + 208)), (3, .ref (a + 222)), (4, .int (nI i))] [] w n (300 + i) (6000 + 4 * i) := by
  obtain ⟨D, A, nL, Q⟩ := Y
  have hY : nL = 7 := hY
  subst hY
  obtain ⟨hC, hM, ho, hn⟩ := hL
  have hV := hC.VI.1
  have hc5 := hC.VI.2.1
  have hm12 := hC.VI.2.2
  refine a_aload_n S d_Law_law_461 rfl rfl ?_
  refine a_aload_n S d_Law_law_462 rfl rfl ?_
  refine a_iload S d_Law_law_463 rfl ?_
  refine a_iconst S (v := 1) d_Law_law_465 (by decide) ?_
  refine a_iadd S d_Law_law_466 ?_
  refine a_eqi (y := nI (i + 1)) (ni_add rfl rfl) ?_
  refine a_sld S (i := i + 1) hX rfl (by omega) d_Law_law_467 ?_
  refine a_aload_n S d_Law_law_468 rfl rfl ?_
  refine a_iload S d_Law_law_469 rfl ?_
  refine a_iconst S (v := 2) d_Law_law_471 (by decide) ?_
  refine a_iadd S d_Law_law_472 ?_
  refine a_eqi (y := nI (i + 2)) (ni_add rfl rfl) ?_
  refine a_sld S (i := i + 2) hX rfl (by omega) d_Law_law_473 ?_
  refine a_i2l S d_Law_law_474 ?_
  refine a_bipush S (v := 32) d_Law_law_475 (by decide) ?_
  refine a_lshl S d_Law_law_477 rfl ?_
  refine a_eql (y := ((xs (i + 2)).toInt64 <<< ((32 : Int32).toInt64 &&& 63))) rfl ?_
  refine a_aload_n S d_Law_law_478 rfl rfl ?_
  refine a_iload S d_Law_law_479 rfl ?_
  refine a_iconst S (v := 3) d_Law_law_481 (by decide) ?_
  refine a_iadd S d_Law_law_482 ?_
  refine a_eqi (y := nI (i + 3)) (ni_add rfl rfl) ?_
  refine a_sld S (i := i + 3) hX rfl (by omega) d_Law_law_483 ?_
  refine a_i2l S d_Law_law_484 ?_
  refine a_ldc2 S (v := 4294967295) lK_Law_49 d_Law_law_485 ?_
  refine a_land S d_Law_law_488 ?_
  refine a_lor S d_Law_law_489 ?_
  refine a_callV S (rest := []) lg_Law_75 hC.cell (c_Kc_load X.2.1 D a c s K F L kr m KT lo hi he (xs (i + 1)) (((xs (i + 2)).toInt64 <<< ((32 : Int32).toInt64 &&& 63)) ||| ((xs (i + 3)).toInt64 &&& 4294967295)) w n hC) (by decide) (by omega) (by omega) rfl (Nat.le_of_ble_eq_true rfl) d_Law_law_490 (fun v1 w2 n3 p4 => ?_)
  rcases p4 with ⟨k, hk1, hk8, e1, hk, rfl, e6, f5, hC⟩ | ⟨gx, rfl, e7, e6⟩
  · rw [e6]
    refine a_st (st' := [.int 1]) rfl ?_
    have ho := Fr.cell f5 ho (by omega)
    have hM := hM.mv (fun q z1 z2 => f5 q (by omega))
    refine a_aload_n S d_Law_law_493 rfl rfl ?_
    refine a_aload_n S d_Law_law_494 rfl rfl ?_
    refine a_iload S d_Law_law_495 rfl ?_
    refine a_iconst S (v := 1) d_Law_law_497 (by decide) ?_
    refine a_iadd S d_Law_law_498 ?_
    refine a_eqi (y := nI (i + 1)) (ni_add rfl rfl) ?_
    refine a_sld S (i := i + 1) hX rfl (by omega) d_Law_law_499 ?_
    refine a_aload_n S d_Law_law_500 rfl rfl ?_
    refine a_iload S d_Law_law_501 rfl ?_
    refine a_iconst S (v := 2) d_Law_law_503 (by decide) ?_
    refine a_iadd S d_Law_law_504 ?_
    refine a_eqi (y := nI (i + 2)) (ni_add rfl rfl) ?_
    refine a_sld S (i := i + 2) hX rfl (by omega) d_Law_law_505 ?_
    refine a_i2l S d_Law_law_506 ?_
    refine a_bipush S (v := 32) d_Law_law_507 (by decide) ?_
    refine a_lshl S d_Law_law_509 rfl ?_
    refine a_eql (y := ((xs (i + 2)).toInt64 <<< ((32 : Int32).toInt64 &&& 63))) rfl ?_
    refine a_aload_n S d_Law_law_510 rfl rfl ?_
    refine a_iload S d_Law_law_511 rfl ?_
    refine a_iconst S (v := 3) d_Law_law_513 (by decide) ?_
    refine a_iadd S d_Law_law_514 ?_
    refine a_eqi (y := nI (i + 3)) (ni_add rfl rfl) ?_
    refine a_sld S (i := i + 3) hX rfl (by omega) d_Law_law_515 ?_
    refine a_i2l S d_Law_law_516 ?_
    refine a_ldc2 S (v := 4294967295) lK_Law_49 d_Law_law_517 ?_
    refine a_land S d_Law_law_520 ?_
    refine a_lor S d_Law_law_521 ?_
    refine a_callV S (rest := [_]) lg_Law_79 hM.cell.choose_spec (c_Mod_load X.2.1 D (a + 208) th c s K F L kr m KT lo hi he (xs (i + 1)) (((xs (i + 2)).toInt64 <<< ((32 : Int32).toInt64 &&& 63)) ||| ((xs (i + 3)).toInt64 &&& 4294967295)) w2 n hM) (by decide) (by omega) (by omega) rfl (Nat.le_of_ble_eq_true rfl) d_Law_law_522 (fun v8 w9 n10 p11 => ?_)
    rcases p11 with ⟨k2, gk1, gk8, e2, gk, rfl, e13, f12, hM⟩ | ⟨gm, rfl, e13, f12, hM⟩
    · rw [e13]
      refine a_st (st' := [.int 1, .int 1]) rfl ?_
      have ho := Fr.cell f12 ho (by omega)
      have hC := hC.mv (fun q z1 z2 => f12 q (by omega))
      obtain rfl : k = k2 := (nI_eq (by omega) (by omega)).mp (e1.symm.trans e2)
      refine a_icmp_eq S (tgt := 983) d_Law_law_525 rfl (fun h525 => ?_) (fun h525 => ?_)
      · refine a_lv [0, 1, 2, 3, 4] (lv' := [(0, .ref b), (1, .ref a), (2, .ref (a + 208)), (3, .ref (a + 222)), (4, .int (nI i))]) rfl ?_
        exact NX c s K F L (kr ++ be k (uL (((xs (i + 2)).toInt64 <<< ((32 : Int32).toInt64 &&& 63)) ||| ((xs (i + 3)).toInt64 &&& 4294967295)))) m KT lo hi he 0 _ _ _ _ _ ⟨hC, hM, ho, by omega⟩ (by omega) (by omega)
      · exact absurd (by decide) h525
    · rw [e13]
      refine a_st (st' := [.int 0, .int 1]) rfl ?_
      have ho := Fr.cell f12 ho (by omega)
      have hC := hC.mv (fun q z1 z2 => f12 q (by omega))
      exact (gm k hk1 hk8 e1 hk).elim
  · rw [e7, e6]
    refine a_st (st' := [.int 0]) rfl ?_
    refine a_aload_n S d_Law_law_493 rfl rfl ?_
    refine a_aload_n S d_Law_law_494 rfl rfl ?_
    refine a_iload S d_Law_law_495 rfl ?_
    refine a_iconst S (v := 1) d_Law_law_497 (by decide) ?_
    refine a_iadd S d_Law_law_498 ?_
    refine a_eqi (y := nI (i + 1)) (ni_add rfl rfl) ?_
    refine a_sld S (i := i + 1) hX rfl (by omega) d_Law_law_499 ?_
    refine a_aload_n S d_Law_law_500 rfl rfl ?_
    refine a_iload S d_Law_law_501 rfl ?_
    refine a_iconst S (v := 2) d_Law_law_503 (by decide) ?_
    refine a_iadd S d_Law_law_504 ?_
    refine a_eqi (y := nI (i + 2)) (ni_add rfl rfl) ?_
    refine a_sld S (i := i + 2) hX rfl (by omega) d_Law_law_505 ?_
    refine a_i2l S d_Law_law_506 ?_
    refine a_bipush S (v := 32) d_Law_law_507 (by decide) ?_
    refine a_lshl S d_Law_law_509 rfl ?_
    refine a_eql (y := ((xs (i + 2)).toInt64 <<< ((32 : Int32).toInt64 &&& 63))) rfl ?_
    refine a_aload_n S d_Law_law_510 rfl rfl ?_
    refine a_iload S d_Law_law_511 rfl ?_
    refine a_iconst S (v := 3) d_Law_law_513 (by decide) ?_
    refine a_iadd S d_Law_law_514 ?_
    refine a_eqi (y := nI (i + 3)) (ni_add rfl rfl) ?_
    refine a_sld S (i := i + 3) hX rfl (by omega) d_Law_law_515 ?_
    refine a_i2l S d_Law_law_516 ?_
    refine a_ldc2 S (v := 4294967295) lK_Law_49 d_Law_law_517 ?_
    refine a_land S d_Law_law_520 ?_
    refine a_lor S d_Law_law_521 ?_
    refine a_callV S (rest := [_]) lg_Law_79 hM.cell.choose_spec (c_Mod_load X.2.1 D (a + 208) th c s K F L kr m KT lo hi he (xs (i + 1)) (((xs (i + 2)).toInt64 <<< ((32 : Int32).toInt64 &&& 63)) ||| ((xs (i + 3)).toInt64 &&& 4294967295)) w n hM) (by decide) (by omega) (by omega) rfl (Nat.le_of_ble_eq_true rfl) d_Law_law_522 (fun v15 w16 n17 p18 => ?_)
    rcases p18 with ⟨k2, gk1, gk8, e2, gk, rfl, e20, f19, hM⟩ | ⟨gm, rfl, e20, f19, hM⟩
    · rw [e20]
      refine a_st (st' := [.int 1, .int 0]) rfl ?_
      have ho := Fr.cell f19 ho (by omega)
      have hC := hC.mv (fun q z1 z2 => f19 q (by omega))
      exact (gx k2 gk1 gk8 e2 gk).elim
    · rw [e20]
      refine a_st (st' := [.int 0, .int 0]) rfl ?_
      have ho := Fr.cell f19 ho (by omega)
      have hC := hC.mv (fun q z1 z2 => f19 q (by omega))
      refine a_icmp_eq S (tgt := 983) d_Law_law_525 rfl (fun h525 => ?_) (fun h525 => ?_)
      · refine a_lv [0, 1, 2, 3, 4] (lv' := [(0, .ref b), (1, .ref a), (2, .ref (a + 208)), (3, .ref (a + 222)), (4, .int (nI i))]) rfl ?_
        exact NX c s K F L kr m KT lo hi he 0 _ _ _ _ _ ⟨hC, hM, ho, by omega⟩ (by omega) (by omega)
      · exact absurd (by decide) h525
set_option maxHeartbeats 1000000 in
set_option maxRecDepth 100000 in
theorem op_key {X : MX} {Y : kY} (S : FX X Y code "KeyCodecLaw" 9 601024 7293034) (hY : Y.2.2.1 = 7) (Zs : kS X.2.2.2.2.1 Y.2.1) (hfX : X.2.1.flags = pinnedFlags ++ [noTraceFlag]) (b a N i : Nat) (xs : Nat → Int32) (hX : SCR X Y b N xs) (hN : N ≤ 2560) (hi5 : i + 5 ≤ N) (NX : LQ X Y b a i) (c : Nat) (s : Bool) (K F : Nat → Nat) (L : Nat → kV) (kr : List Nat) (m : Nat) (KT : Nat → Nat → kV) (lo hi : List Nat) (he : Bool) (th : Int32) (g0 : Nat → Int64) (w : ww) (n : Nat) (hL : LI Y.1 w n a g0 th c s K F L kr m KT lo hi he) : AW X Y 541 [(0, .ref b), (1, .ref a), (2, .ref (a + 208)), (3, .ref (a + 222)), (4, .int (nI i))] [] w n (300 + i) (6000 + 4 * i) := by
  obtain ⟨D, A, nL, Q⟩ := Y
  have hY : nL = 7 := hY
  subst hY
  obtain ⟨hC, hM, ho, hn⟩ := hL
  have hV := hC.VI.1
  have hc5 := hC.VI.2.1
  have hm12 := hC.VI.2.2
  refine a_aload_n S d_Law_law_541 rfl rfl ?_
  refine a_aload_n S d_Law_law_542 rfl rfl ?_
  refine a_iload S d_Law_law_543 rfl ?_
  refine a_iconst S (v := 1) d_Law_law_545 (by decide) ?_
  refine a_iadd S d_Law_law_546 ?_
  refine a_eqi (y := nI (i + 1)) (ni_add rfl rfl) ?_
  refine a_sld S (i := i + 1) hX rfl (by omega) d_Law_law_547 ?_
  refine a_callV S (rest := []) lg_Law_84 hC.cell (c_Kc_key X.2.1 D a c s K F L kr m KT lo hi he (xs (i + 1)) w n hC) (by decide) (by omega) (by omega) rfl (Nat.le_of_ble_eq_true rfl) d_Law_law_548 (fun v1 w2 n3 p4 => ?_)
  obtain ⟨rfl, e7, e6⟩ := p4
  rw [e7, e6]
  refine a_st (st' := [.int (if (xs (i + 1)) = -1 then nI kr.length else atB kr (xs (i + 1)))]) rfl ?_
  refine a_aload_n S d_Law_law_551 rfl rfl ?_
  refine a_aload_n S d_Law_law_552 rfl rfl ?_
  refine a_iload S d_Law_law_553 rfl ?_
  refine a_iconst S (v := 1) d_Law_law_555 (by decide) ?_
  refine a_iadd S d_Law_law_556 ?_
  refine a_eqi (y := nI (i + 1)) (ni_add rfl rfl) ?_
  refine a_sld S (i := i + 1) hX rfl (by omega) d_Law_law_557 ?_
  refine a_callV S (rest := [_]) lg_Law_88 hM.cell.choose_spec (c_Mod_key X.2.1 D (a + 208) th c s K F L kr m KT lo hi he (xs (i + 1)) w n hM) (by decide) (by omega) (by omega) rfl (Nat.le_of_ble_eq_true rfl) d_Law_law_558 (fun v8 w9 n10 p11 => ?_)
  obtain ⟨rfl, e13, f12, hM⟩ := p11
  rw [e13]
  refine a_st (st' := [.int (if (xs (i + 1)) = -1 then nI kr.length else atB kr (xs (i + 1))), .int (if (xs (i + 1)) = -1 then nI kr.length else atB kr (xs (i + 1)))]) rfl ?_
  have ho := Fr.cell f12 ho (by omega)
  have hC := hC.mv (fun q z1 z2 => f12 q (by omega))
  refine a_icmp_eq S (tgt := 983) d_Law_law_561 rfl (fun h561 => ?_) (fun h561 => ?_)
  · refine a_lv [0, 1, 2, 3, 4] (lv' := [(0, .ref b), (1, .ref a), (2, .ref (a + 208)), (3, .ref (a + 222)), (4, .int (nI i))]) rfl ?_
    exact NX c s K F L kr m KT lo hi he 0 _ _ _ _ _ ⟨hC, hM, ho, by omega⟩ (by omega) (by omega)
  · exact absurd rfl h561
set_option maxHeartbeats 1000000 in
set_option maxRecDepth 100000 in
theorem op_take {X : MX} {Y : kY} (S : FX X Y code "KeyCodecLaw" 9 601024 7293034) (hY : Y.2.2.1 = 7) (Zs : kS X.2.2.2.2.1 Y.2.1) (hfX : X.2.1.flags = pinnedFlags ++ [noTraceFlag]) (b a N i : Nat) (xs : Nat → Int32) (hX : SCR X Y b N xs) (hN : N ≤ 2560) (hi5 : i + 5 ≤ N) (NX : LQ X Y b a i) (c : Nat) (s : Bool) (K F : Nat → Nat) (L : Nat → kV) (kr : List Nat) (m : Nat) (KT : Nat → Nat → kV) (lo hi : List Nat) (he : Bool) (th : Int32) (g0 : Nat → Int64) (w : ww) (n : Nat) (hL : LI Y.1 w n a g0 th c s K F L kr m KT lo hi he) : AW X Y 661 [(0, .ref b), (1, .ref a), (2, .ref (a + 208)), (3, .ref (a + 222)), (4, .int (nI i))] [] w n (300 + i) (6000 + 4 * i) := by
  obtain ⟨D, A, nL, Q⟩ := Y
  have hY : nL = 7 := hY
  subst hY
  obtain ⟨hC, hM, ho, hn⟩ := hL
  have hV := hC.VI.1
  have hc5 := hC.VI.2.1
  have hm12 := hC.VI.2.2
  refine a_aload_n S d_Law_law_661 rfl rfl ?_
  refine a_aload_n S d_Law_law_662 rfl rfl ?_
  refine a_iload S d_Law_law_663 rfl ?_
  refine a_iconst S (v := 1) d_Law_law_665 (by decide) ?_
  refine a_iadd S d_Law_law_666 ?_
  refine a_eqi (y := nI (i + 1)) (ni_add rfl rfl) ?_
  refine a_sld S (i := i + 1) hX rfl (by omega) d_Law_law_667 ?_
  refine a_callV S (rest := []) lg_Law_95 hC.cell (c_Kc_take X.2.1 D a c s K F L kr m KT lo hi he (xs (i + 1)) w n hC) (by decide) (by omega) (by omega) rfl (Nat.le_of_ble_eq_true rfl) d_Law_law_668 (fun v1 w2 n3 p4 => ?_)
  rcases p4 with ⟨t, ht, e1, rfl, e6, f5, hC⟩ | ⟨gx, rfl, e7, e6⟩
  · rw [e6]
    refine a_st (st' := [.int 1]) rfl ?_
    have ho := Fr.cell f5 ho (by omega)
    have hM := hM.mv (fun q z1 z2 => f5 q (by omega))
    refine a_aload_n S d_Law_law_671 rfl rfl ?_
    refine a_aload_n S d_Law_law_672 rfl rfl ?_
    refine a_iload S d_Law_law_673 rfl ?_
    refine a_iconst S (v := 1) d_Law_law_675 (by decide) ?_
    refine a_iadd S d_Law_law_676 ?_
    refine a_eqi (y := nI (i + 1)) (ni_add rfl rfl) ?_
    refine a_sld S (i := i + 1) hX rfl (by omega) d_Law_law_677 ?_
    refine a_callV S (rest := [_]) lg_Law_98 hM.cell.choose_spec (c_Mod_take X.2.1 D (a + 208) th c s K F L kr m KT lo hi he (xs (i + 1)) w2 n hM) (by decide) (by omega) (by omega) rfl (Nat.le_of_ble_eq_true rfl) d_Law_law_678 (fun v8 w9 n10 p11 => ?_)
    rcases p11 with ⟨t2, ht2, e2, rfl, e13, f12, hM⟩ | ⟨gm, rfl, e13, f12, hM⟩
    · rw [e13]
      refine a_st (st' := [.int 1, .int 1]) rfl ?_
      have ho := Fr.cell f12 ho (by omega)
      have hC := hC.mv (fun q z1 z2 => f12 q (by omega))
      obtain rfl : t = t2 := (nI_eq (by omega) (by omega)).mp (e1.symm.trans e2)
      refine a_icmp_eq S (tgt := 983) d_Law_law_681 rfl (fun h681 => ?_) (fun h681 => ?_)
      · refine a_lv [0, 1, 2, 3, 4] (lv' := [(0, .ref b), (1, .ref a), (2, .ref (a + 208)), (3, .ref (a + 222)), (4, .int (nI i))]) rfl ?_
        exact NX c s K F (KT t) kr m KT lo hi he 0 _ _ _ _ _ ⟨hC, hM, ho, by omega⟩ (by omega) (by omega)
      · exact absurd (by decide) h681
    · rw [e13]
      refine a_st (st' := [.int 0, .int 1]) rfl ?_
      have ho := Fr.cell f12 ho (by omega)
      have hC := hC.mv (fun q z1 z2 => f12 q (by omega))
      exact (gm t ht e1).elim
  · rw [e7, e6]
    refine a_st (st' := [.int 0]) rfl ?_
    refine a_aload_n S d_Law_law_671 rfl rfl ?_
    refine a_aload_n S d_Law_law_672 rfl rfl ?_
    refine a_iload S d_Law_law_673 rfl ?_
    refine a_iconst S (v := 1) d_Law_law_675 (by decide) ?_
    refine a_iadd S d_Law_law_676 ?_
    refine a_eqi (y := nI (i + 1)) (ni_add rfl rfl) ?_
    refine a_sld S (i := i + 1) hX rfl (by omega) d_Law_law_677 ?_
    refine a_callV S (rest := [_]) lg_Law_98 hM.cell.choose_spec (c_Mod_take X.2.1 D (a + 208) th c s K F L kr m KT lo hi he (xs (i + 1)) w n hM) (by decide) (by omega) (by omega) rfl (Nat.le_of_ble_eq_true rfl) d_Law_law_678 (fun v15 w16 n17 p18 => ?_)
    rcases p18 with ⟨t2, ht2, e2, rfl, e20, f19, hM⟩ | ⟨gm, rfl, e20, f19, hM⟩
    · rw [e20]
      refine a_st (st' := [.int 1, .int 0]) rfl ?_
      have ho := Fr.cell f19 ho (by omega)
      have hC := hC.mv (fun q z1 z2 => f19 q (by omega))
      exact (gx t2 ht2 e2).elim
    · rw [e20]
      refine a_st (st' := [.int 0, .int 0]) rfl ?_
      have ho := Fr.cell f19 ho (by omega)
      have hC := hC.mv (fun q z1 z2 => f19 q (by omega))
      refine a_icmp_eq S (tgt := 983) d_Law_law_681 rfl (fun h681 => ?_) (fun h681 => ?_)
      · refine a_lv [0, 1, 2, 3, 4] (lv' := [(0, .ref b), (1, .ref a), (2, .ref (a + 208)), (3, .ref (a + 222)), (4, .int (nI i))]) rfl ?_
        exact NX c s K F L kr m KT lo hi he 0 _ _ _ _ _ ⟨hC, hM, ho, by omega⟩ (by omega) (by omega)
      · exact absurd (by decide) h681
set_option maxHeartbeats 1000000 in
set_option maxRecDepth 100000 in
theorem op_kept {X : MX} {Y : kY} (S : FX X Y code "KeyCodecLaw" 9 601024 7293034) (hY : Y.2.2.1 = 7) (Zs : kS X.2.2.2.2.1 Y.2.1) (hfX : X.2.1.flags = pinnedFlags ++ [noTraceFlag]) (b a N i : Nat) (xs : Nat → Int32) (hX : SCR X Y b N xs) (hN : N ≤ 2560) (hi5 : i + 5 ≤ N) (NX : LQ X Y b a i) (c : Nat) (s : Bool) (K F : Nat → Nat) (L : Nat → kV) (kr : List Nat) (m : Nat) (KT : Nat → Nat → kV) (lo hi : List Nat) (he : Bool) (th : Int32) (g0 : Nat → Int64) (w : ww) (n : Nat) (hL : LI Y.1 w n a g0 th c s K F L kr m KT lo hi he) : AW X Y 686 [(0, .ref b), (1, .ref a), (2, .ref (a + 208)), (3, .ref (a + 222)), (4, .int (nI i))] [] w n (300 + i) (6000 + 4 * i) := by
  obtain ⟨D, A, nL, Q⟩ := Y
  have hY : nL = 7 := hY
  subst hY
  obtain ⟨hC, hM, ho, hn⟩ := hL
  have hV := hC.VI.1
  have hc5 := hC.VI.2.1
  have hm12 := hC.VI.2.2
  refine a_aload_n S d_Law_law_686 rfl rfl ?_
  refine a_callV S (rest := []) lg_Law_99 hC.cell (c_Kc_kept X.2.1 D a c s K F L kr m KT lo hi he  w n hC) (by decide) (by omega) (by omega) rfl (Nat.le_of_ble_eq_true rfl) d_Law_law_687 (fun v1 w2 n3 p4 => ?_)
  obtain ⟨rfl, e7, e6⟩ := p4
  rw [e7, e6]
  refine a_st (st' := [.int (nI m)]) rfl ?_
  refine a_aload_n S d_Law_law_690 rfl rfl ?_
  refine a_callV S (rest := [_]) lg_Law_102 hM.cell.choose_spec (c_Mod_kept X.2.1 D (a + 208) th c s K F L kr m KT lo hi he  w n hM) (by decide) (by omega) (by omega) rfl (Nat.le_of_ble_eq_true rfl) d_Law_law_691 (fun v8 w9 n10 p11 => ?_)
  obtain ⟨rfl, e13, f12, hM⟩ := p11
  rw [e13]
  refine a_st (st' := [.int (nI m), .int (nI m)]) rfl ?_
  have ho := Fr.cell f12 ho (by omega)
  have hC := hC.mv (fun q z1 z2 => f12 q (by omega))
  refine a_icmp_eq S (tgt := 983) d_Law_law_694 rfl (fun h694 => ?_) (fun h694 => ?_)
  · refine a_lv [0, 1, 2, 3, 4] (lv' := [(0, .ref b), (1, .ref a), (2, .ref (a + 208)), (3, .ref (a + 222)), (4, .int (nI i))]) rfl ?_
    exact NX c s K F L kr m KT lo hi he 0 _ _ _ _ _ ⟨hC, hM, ho, by omega⟩ (by omega) (by omega)
  · exact absurd rfl h694
set_option maxHeartbeats 1000000 in
set_option maxRecDepth 100000 in
theorem op_compare {X : MX} {Y : kY} (S : FX X Y code "KeyCodecLaw" 9 601024 7293034) (hY : Y.2.2.1 = 7) (Zs : kS X.2.2.2.2.1 Y.2.1) (hfX : X.2.1.flags = pinnedFlags ++ [noTraceFlag]) (b a N i : Nat) (xs : Nat → Int32) (hX : SCR X Y b N xs) (hN : N ≤ 2560) (hi5 : i + 5 ≤ N) (NX : LQ X Y b a i) (c : Nat) (s : Bool) (K F : Nat → Nat) (L : Nat → kV) (kr : List Nat) (m : Nat) (KT : Nat → Nat → kV) (lo hi : List Nat) (he : Bool) (th : Int32) (g0 : Nat → Int64) (w : ww) (n : Nat) (hL : LI Y.1 w n a g0 th c s K F L kr m KT lo hi he) : AW X Y 699 [(0, .ref b), (1, .ref a), (2, .ref (a + 208)), (3, .ref (a + 222)), (4, .int (nI i))] [] w n (300 + i) (6000 + 4 * i) := by
  obtain ⟨D, A, nL, Q⟩ := Y
  have hY : nL = 7 := hY
  subst hY
  obtain ⟨hC, hM, ho, hn⟩ := hL
  have hV := hC.VI.1
  have hc5 := hC.VI.2.1
  have hm12 := hC.VI.2.2
  refine a_aload_n S d_Law_law_699 rfl rfl ?_
  refine a_aload_n S d_Law_law_700 rfl rfl ?_
  refine a_iload S d_Law_law_701 rfl ?_
  refine a_iconst S (v := 1) d_Law_law_703 (by decide) ?_
  refine a_iadd S d_Law_law_704 ?_
  refine a_eqi (y := nI (i + 1)) (ni_add rfl rfl) ?_
  refine a_sld S (i := i + 1) hX rfl (by omega) d_Law_law_705 ?_
  refine a_aload_n S d_Law_law_706 rfl rfl ?_
  refine a_iload S d_Law_law_707 rfl ?_
  refine a_iconst S (v := 2) d_Law_law_709 (by decide) ?_
  refine a_iadd S d_Law_law_710 ?_
  refine a_eqi (y := nI (i + 2)) (ni_add rfl rfl) ?_
  refine a_sld S (i := i + 2) hX rfl (by omega) d_Law_law_711 ?_
  refine a_callV S (rest := []) lg_Law_103 hC.cell (c_Kc_compare X.2.1 D a c s K F L kr m KT lo hi he (xs (i + 1)) (xs (i + 2)) w n hC) (by decide) (by omega) (by omega) rfl (Nat.le_of_ble_eq_true rfl) d_Law_law_712 (fun v1 w2 n3 p4 => ?_)
  rcases p4 with ⟨⟨t, u, ht, hu, e1, e3, rfl⟩ | ⟨gx, rfl⟩, e6, f5, hC⟩
  · rw [e6]
    refine a_st (st' := [.int (Int32.ofInt (ordT K F (KT t) (KT u) c))]) rfl ?_
    have ho := Fr.cell f5 ho (by omega)
    have hM := hM.mv (fun q z1 z2 => f5 q (by omega))
    refine a_aload_n S d_Law_law_715 rfl rfl ?_
    refine a_aload_n S d_Law_law_716 rfl rfl ?_
    refine a_iload S d_Law_law_717 rfl ?_
    refine a_iconst S (v := 1) d_Law_law_719 (by decide) ?_
    refine a_iadd S d_Law_law_720 ?_
    refine a_eqi (y := nI (i + 1)) (ni_add rfl rfl) ?_
    refine a_sld S (i := i + 1) hX rfl (by omega) d_Law_law_721 ?_
    refine a_aload_n S d_Law_law_722 rfl rfl ?_
    refine a_iload S d_Law_law_723 rfl ?_
    refine a_iconst S (v := 2) d_Law_law_725 (by decide) ?_
    refine a_iadd S d_Law_law_726 ?_
    refine a_eqi (y := nI (i + 2)) (ni_add rfl rfl) ?_
    refine a_sld S (i := i + 2) hX rfl (by omega) d_Law_law_727 ?_
    refine a_callV S (rest := [_]) lg_Law_106 hM.cell.choose_spec (c_Mod_compare X.2.1 D (a + 208) th c s K F L kr m KT lo hi he (xs (i + 1)) (xs (i + 2)) w2 n hV hM) (by decide) (by omega) (by omega) rfl (Nat.le_of_ble_eq_true rfl) d_Law_law_728 (fun v8 w9 n10 p11 => ?_)
    rcases p11 with ⟨⟨t2, u2, ht2, hu2, e2, e4, rfl⟩ | ⟨gm, rfl⟩, e13, f12, hM⟩
    · rw [e13]
      refine a_st (st' := [.int (Int32.ofInt (ordT K F (KT t2) (KT u2) c)), .int (Int32.ofInt (ordT K F (KT t) (KT u) c))]) rfl ?_
      have ho := Fr.cell f12 ho (by omega)
      have hC := hC.mv (fun q z1 z2 => f12 q (by omega))
      obtain rfl : t = t2 := (nI_eq (by omega) (by omega)).mp (e1.symm.trans e2)
      obtain rfl : u = u2 := (nI_eq (by omega) (by omega)).mp (e3.symm.trans e4)
      refine a_icmp_eq S (tgt := 983) d_Law_law_731 rfl (fun h731 => ?_) (fun h731 => ?_)
      · refine a_lv [0, 1, 2, 3, 4] (lv' := [(0, .ref b), (1, .ref a), (2, .ref (a + 208)), (3, .ref (a + 222)), (4, .int (nI i))]) rfl ?_
        exact NX c s K F L kr m KT lo hi he 0 _ _ _ _ _ ⟨hC, hM, ho, by omega⟩ (by omega) (by omega)
      · exact absurd rfl h731
    · rw [e13]
      refine a_st (st' := [.int (-2), .int (Int32.ofInt (ordT K F (KT t) (KT u) c))]) rfl ?_
      have ho := Fr.cell f12 ho (by omega)
      have hC := hC.mv (fun q z1 z2 => f12 q (by omega))
      exact (gm t u ht hu e1 e3).elim
  · rw [e6]
    refine a_st (st' := [.int (-2)]) rfl ?_
    have ho := Fr.cell f5 ho (by omega)
    have hM := hM.mv (fun q z1 z2 => f5 q (by omega))
    refine a_aload_n S d_Law_law_715 rfl rfl ?_
    refine a_aload_n S d_Law_law_716 rfl rfl ?_
    refine a_iload S d_Law_law_717 rfl ?_
    refine a_iconst S (v := 1) d_Law_law_719 (by decide) ?_
    refine a_iadd S d_Law_law_720 ?_
    refine a_eqi (y := nI (i + 1)) (ni_add rfl rfl) ?_
    refine a_sld S (i := i + 1) hX rfl (by omega) d_Law_law_721 ?_
    refine a_aload_n S d_Law_law_722 rfl rfl ?_
    refine a_iload S d_Law_law_723 rfl ?_
    refine a_iconst S (v := 2) d_Law_law_725 (by decide) ?_
    refine a_iadd S d_Law_law_726 ?_
    refine a_eqi (y := nI (i + 2)) (ni_add rfl rfl) ?_
    refine a_sld S (i := i + 2) hX rfl (by omega) d_Law_law_727 ?_
    refine a_callV S (rest := [_]) lg_Law_106 hM.cell.choose_spec (c_Mod_compare X.2.1 D (a + 208) th c s K F L kr m KT lo hi he (xs (i + 1)) (xs (i + 2)) w2 n hV hM) (by decide) (by omega) (by omega) rfl (Nat.le_of_ble_eq_true rfl) d_Law_law_728 (fun v15 w16 n17 p18 => ?_)
    rcases p18 with ⟨⟨t2, u2, ht2, hu2, e2, e4, rfl⟩ | ⟨gm, rfl⟩, e20, f19, hM⟩
    · rw [e20]
      refine a_st (st' := [.int (Int32.ofInt (ordT K F (KT t2) (KT u2) c)), .int (-2)]) rfl ?_
      have ho := Fr.cell f19 ho (by omega)
      have hC := hC.mv (fun q z1 z2 => f19 q (by omega))
      exact (gx t2 u2 ht2 hu2 e2 e4).elim
    · rw [e20]
      refine a_st (st' := [.int (-2), .int (-2)]) rfl ?_
      have ho := Fr.cell f19 ho (by omega)
      have hC := hC.mv (fun q z1 z2 => f19 q (by omega))
      refine a_icmp_eq S (tgt := 983) d_Law_law_731 rfl (fun h731 => ?_) (fun h731 => ?_)
      · refine a_lv [0, 1, 2, 3, 4] (lv' := [(0, .ref b), (1, .ref a), (2, .ref (a + 208)), (3, .ref (a + 222)), (4, .int (nI i))]) rfl ?_
        exact NX c s K F L kr m KT lo hi he 0 _ _ _ _ _ ⟨hC, hM, ho, by omega⟩ (by omega) (by omega)
      · exact absurd (by decide) h731
set_option maxHeartbeats 1000000 in
set_option maxRecDepth 100000 in
theorem op_compareKeys {X : MX} {Y : kY} (S : FX X Y code "KeyCodecLaw" 9 601024 7293034) (hY : Y.2.2.1 = 7) (Zs : kS X.2.2.2.2.1 Y.2.1) (hfX : X.2.1.flags = pinnedFlags ++ [noTraceFlag]) (b a N i : Nat) (xs : Nat → Int32) (hX : SCR X Y b N xs) (hN : N ≤ 2560) (hi5 : i + 5 ≤ N) (NX : LQ X Y b a i) (c : Nat) (s : Bool) (K F : Nat → Nat) (L : Nat → kV) (kr : List Nat) (m : Nat) (KT : Nat → Nat → kV) (lo hi : List Nat) (he : Bool) (th : Int32) (g0 : Nat → Int64) (w : ww) (n : Nat) (hL : LI Y.1 w n a g0 th c s K F L kr m KT lo hi he) : AW X Y 736 [(0, .ref b), (1, .ref a), (2, .ref (a + 208)), (3, .ref (a + 222)), (4, .int (nI i))] [] w n (300 + i) (6000 + 4 * i) := by
  obtain ⟨D, A, nL, Q⟩ := Y
  have hY : nL = 7 := hY
  subst hY
  obtain ⟨hC, hM, ho, hn⟩ := hL
  have hV := hC.VI.1
  have hc5 := hC.VI.2.1
  have hm12 := hC.VI.2.2
  refine a_aload_n S d_Law_law_736 rfl rfl ?_
  refine a_aload_n S d_Law_law_737 rfl rfl ?_
  refine a_iload S d_Law_law_738 rfl ?_
  refine a_iconst S (v := 1) d_Law_law_740 (by decide) ?_
  refine a_iadd S d_Law_law_741 ?_
  refine a_eqi (y := nI (i + 1)) (ni_add rfl rfl) ?_
  refine a_sld S (i := i + 1) hX rfl (by omega) d_Law_law_742 ?_
  refine a_aload_n S d_Law_law_743 rfl rfl ?_
  refine a_iload S d_Law_law_744 rfl ?_
  refine a_iconst S (v := 2) d_Law_law_746 (by decide) ?_
  refine a_iadd S d_Law_law_747 ?_
  refine a_eqi (y := nI (i + 2)) (ni_add rfl rfl) ?_
  refine a_sld S (i := i + 2) hX rfl (by omega) d_Law_law_748 ?_
  refine a_callV S (rest := []) lg_Law_107 hC.cell (c_Kc_compareKeys X.2.1 D a c s K F L kr m KT lo hi he (xs (i + 1)) (xs (i + 2)) w n hC) (by decide) (by omega) (by omega) rfl (Nat.le_of_ble_eq_true rfl) d_Law_law_749 (fun v1 w2 n3 p4 => ?_)
  rcases p4 with ⟨⟨t, u, ht, hu, e1, e3, rfl⟩ | ⟨gx, rfl⟩, e7, e6⟩
  · rw [e7, e6]
    refine a_st (st' := [.int (Int32.ofInt (cmpB (kyT K F KT c t) (kyT K F KT c u)))]) rfl ?_
    refine a_aload_n S d_Law_law_752 rfl rfl ?_
    refine a_aload_n S d_Law_law_753 rfl rfl ?_
    refine a_iload S d_Law_law_754 rfl ?_
    refine a_iconst S (v := 1) d_Law_law_756 (by decide) ?_
    refine a_iadd S d_Law_law_757 ?_
    refine a_eqi (y := nI (i + 1)) (ni_add rfl rfl) ?_
    refine a_sld S (i := i + 1) hX rfl (by omega) d_Law_law_758 ?_
    refine a_aload_n S d_Law_law_759 rfl rfl ?_
    refine a_iload S d_Law_law_760 rfl ?_
    refine a_iconst S (v := 2) d_Law_law_762 (by decide) ?_
    refine a_iadd S d_Law_law_763 ?_
    refine a_eqi (y := nI (i + 2)) (ni_add rfl rfl) ?_
    refine a_sld S (i := i + 2) hX rfl (by omega) d_Law_law_764 ?_
    refine a_callV S (rest := [_]) lg_Law_110 hM.cell.choose_spec (c_Mod_compareKeys X.2.1 D (a + 208) th c s K F L kr m KT lo hi he (xs (i + 1)) (xs (i + 2)) w n hV hM) (by decide) (by omega) (by omega) rfl (Nat.le_of_ble_eq_true rfl) d_Law_law_765 (fun v8 w9 n10 p11 => ?_)
    rcases p11 with ⟨⟨t2, u2, ht2, hu2, e2, e4, rfl⟩ | ⟨gm, rfl⟩, e13, f12, hM⟩
    · rw [e13]
      refine a_st (st' := [.int (Int32.ofInt (cmpB (kyT K F KT c t2) (kyT K F KT c u2))), .int (Int32.ofInt (cmpB (kyT K F KT c t) (kyT K F KT c u)))]) rfl ?_
      have ho := Fr.cell f12 ho (by omega)
      have hC := hC.mv (fun q z1 z2 => f12 q (by omega))
      obtain rfl : t = t2 := (nI_eq (by omega) (by omega)).mp (e1.symm.trans e2)
      obtain rfl : u = u2 := (nI_eq (by omega) (by omega)).mp (e3.symm.trans e4)
      refine a_icmp_eq S (tgt := 983) d_Law_law_768 rfl (fun h768 => ?_) (fun h768 => ?_)
      · refine a_lv [0, 1, 2, 3, 4] (lv' := [(0, .ref b), (1, .ref a), (2, .ref (a + 208)), (3, .ref (a + 222)), (4, .int (nI i))]) rfl ?_
        exact NX c s K F L kr m KT lo hi he 0 _ _ _ _ _ ⟨hC, hM, ho, by omega⟩ (by omega) (by omega)
      · exact absurd rfl h768
    · rw [e13]
      refine a_st (st' := [.int (-2), .int (Int32.ofInt (cmpB (kyT K F KT c t) (kyT K F KT c u)))]) rfl ?_
      have ho := Fr.cell f12 ho (by omega)
      have hC := hC.mv (fun q z1 z2 => f12 q (by omega))
      exact (gm t u ht hu e1 e3).elim
  · rw [e7, e6]
    refine a_st (st' := [.int (-2)]) rfl ?_
    refine a_aload_n S d_Law_law_752 rfl rfl ?_
    refine a_aload_n S d_Law_law_753 rfl rfl ?_
    refine a_iload S d_Law_law_754 rfl ?_
    refine a_iconst S (v := 1) d_Law_law_756 (by decide) ?_
    refine a_iadd S d_Law_law_757 ?_
    refine a_eqi (y := nI (i + 1)) (ni_add rfl rfl) ?_
    refine a_sld S (i := i + 1) hX rfl (by omega) d_Law_law_758 ?_
    refine a_aload_n S d_Law_law_759 rfl rfl ?_
    refine a_iload S d_Law_law_760 rfl ?_
    refine a_iconst S (v := 2) d_Law_law_762 (by decide) ?_
    refine a_iadd S d_Law_law_763 ?_
    refine a_eqi (y := nI (i + 2)) (ni_add rfl rfl) ?_
    refine a_sld S (i := i + 2) hX rfl (by omega) d_Law_law_764 ?_
    refine a_callV S (rest := [_]) lg_Law_110 hM.cell.choose_spec (c_Mod_compareKeys X.2.1 D (a + 208) th c s K F L kr m KT lo hi he (xs (i + 1)) (xs (i + 2)) w n hV hM) (by decide) (by omega) (by omega) rfl (Nat.le_of_ble_eq_true rfl) d_Law_law_765 (fun v15 w16 n17 p18 => ?_)
    rcases p18 with ⟨⟨t2, u2, ht2, hu2, e2, e4, rfl⟩ | ⟨gm, rfl⟩, e20, f19, hM⟩
    · rw [e20]
      refine a_st (st' := [.int (Int32.ofInt (cmpB (kyT K F KT c t2) (kyT K F KT c u2))), .int (-2)]) rfl ?_
      have ho := Fr.cell f19 ho (by omega)
      have hC := hC.mv (fun q z1 z2 => f19 q (by omega))
      exact (gx t2 u2 ht2 hu2 e2 e4).elim
    · rw [e20]
      refine a_st (st' := [.int (-2), .int (-2)]) rfl ?_
      have ho := Fr.cell f19 ho (by omega)
      have hC := hC.mv (fun q z1 z2 => f19 q (by omega))
      refine a_icmp_eq S (tgt := 983) d_Law_law_768 rfl (fun h768 => ?_) (fun h768 => ?_)
      · refine a_lv [0, 1, 2, 3, 4] (lv' := [(0, .ref b), (1, .ref a), (2, .ref (a + 208)), (3, .ref (a + 222)), (4, .int (nI i))]) rfl ?_
        exact NX c s K F L kr m KT lo hi he 0 _ _ _ _ _ ⟨hC, hM, ho, by omega⟩ (by omega) (by omega)
      · exact absurd (by decide) h768
set_option maxHeartbeats 1000000 in
set_option maxRecDepth 100000 in
theorem op_rank {X : MX} {Y : kY} (S : FX X Y code "KeyCodecLaw" 9 601024 7293034) (hY : Y.2.2.1 = 7) (Zs : kS X.2.2.2.2.1 Y.2.1) (hfX : X.2.1.flags = pinnedFlags ++ [noTraceFlag]) (b a N i : Nat) (xs : Nat → Int32) (hX : SCR X Y b N xs) (hN : N ≤ 2560) (hi5 : i + 5 ≤ N) (NX : LQ X Y b a i) (c : Nat) (s : Bool) (K F : Nat → Nat) (L : Nat → kV) (kr : List Nat) (m : Nat) (KT : Nat → Nat → kV) (lo hi : List Nat) (he : Bool) (th : Int32) (g0 : Nat → Int64) (w : ww) (n : Nat) (hL : LI Y.1 w n a g0 th c s K F L kr m KT lo hi he) : AW X Y 773 [(0, .ref b), (1, .ref a), (2, .ref (a + 208)), (3, .ref (a + 222)), (4, .int (nI i))] [] w n (300 + i) (6000 + 4 * i) := by
  obtain ⟨D, A, nL, Q⟩ := Y
  have hY : nL = 7 := hY
  subst hY
  obtain ⟨hC, hM, ho, hn⟩ := hL
  have hV := hC.VI.1
  have hc5 := hC.VI.2.1
  have hm12 := hC.VI.2.2
  refine a_aload_n S d_Law_law_773 rfl rfl ?_
  refine a_aload_n S d_Law_law_774 rfl rfl ?_
  refine a_iload S d_Law_law_775 rfl ?_
  refine a_iconst S (v := 1) d_Law_law_777 (by decide) ?_
  refine a_iadd S d_Law_law_778 ?_
  refine a_eqi (y := nI (i + 1)) (ni_add rfl rfl) ?_
  refine a_sld S (i := i + 1) hX rfl (by omega) d_Law_law_779 ?_
  refine a_callV S (rest := []) lg_Law_111 hC.cell (c_Kc_rank X.2.1 D a c s K F L kr m KT lo hi he (xs (i + 1)) w n hC) (by decide) (by omega) (by omega) rfl (Nat.le_of_ble_eq_true rfl) d_Law_law_780 (fun v1 w2 n3 p4 => ?_)
  rcases p4 with ⟨⟨t, ht, e1, rfl⟩ | ⟨gx, rfl⟩, e7, e6⟩
  · rw [e7, e6]
    refine a_st (st' := [.int (nI (rankB (kyT K F KT c) m t))]) rfl ?_
    refine a_aload_n S d_Law_law_783 rfl rfl ?_
    refine a_aload_n S d_Law_law_784 rfl rfl ?_
    refine a_iload S d_Law_law_785 rfl ?_
    refine a_iconst S (v := 1) d_Law_law_787 (by decide) ?_
    refine a_iadd S d_Law_law_788 ?_
    refine a_eqi (y := nI (i + 1)) (ni_add rfl rfl) ?_
    refine a_sld S (i := i + 1) hX rfl (by omega) d_Law_law_789 ?_
    refine a_callV S (rest := [_]) lg_Law_114 hM.cell.choose_spec (c_Mod_rank X.2.1 D (a + 208) th c s K F L kr m KT lo hi he (xs (i + 1)) w n hV hM) (by decide) (by omega) (by omega) rfl (Nat.le_of_ble_eq_true rfl) d_Law_law_790 (fun v8 w9 n10 p11 => ?_)
    rcases p11 with ⟨⟨t2, ht2, e2, rfl⟩ | ⟨gm, rfl⟩, e13, f12, hM⟩
    · rw [e13]
      refine a_st (st' := [.int (nI (rankB (kyT K F KT c) m t2)), .int (nI (rankB (kyT K F KT c) m t))]) rfl ?_
      have ho := Fr.cell f12 ho (by omega)
      have hC := hC.mv (fun q z1 z2 => f12 q (by omega))
      obtain rfl : t = t2 := (nI_eq (by omega) (by omega)).mp (e1.symm.trans e2)
      refine a_icmp_eq S (tgt := 983) d_Law_law_793 rfl (fun h793 => ?_) (fun h793 => ?_)
      · refine a_lv [0, 1, 2, 3, 4] (lv' := [(0, .ref b), (1, .ref a), (2, .ref (a + 208)), (3, .ref (a + 222)), (4, .int (nI i))]) rfl ?_
        exact NX c s K F L kr m KT lo hi he 0 _ _ _ _ _ ⟨hC, hM, ho, by omega⟩ (by omega) (by omega)
      · exact absurd rfl h793
    · rw [e13]
      refine a_st (st' := [.int (-1), .int (nI (rankB (kyT K F KT c) m t))]) rfl ?_
      have ho := Fr.cell f12 ho (by omega)
      have hC := hC.mv (fun q z1 z2 => f12 q (by omega))
      exact (gm t ht e1).elim
  · rw [e7, e6]
    refine a_st (st' := [.int (-1)]) rfl ?_
    refine a_aload_n S d_Law_law_783 rfl rfl ?_
    refine a_aload_n S d_Law_law_784 rfl rfl ?_
    refine a_iload S d_Law_law_785 rfl ?_
    refine a_iconst S (v := 1) d_Law_law_787 (by decide) ?_
    refine a_iadd S d_Law_law_788 ?_
    refine a_eqi (y := nI (i + 1)) (ni_add rfl rfl) ?_
    refine a_sld S (i := i + 1) hX rfl (by omega) d_Law_law_789 ?_
    refine a_callV S (rest := [_]) lg_Law_114 hM.cell.choose_spec (c_Mod_rank X.2.1 D (a + 208) th c s K F L kr m KT lo hi he (xs (i + 1)) w n hV hM) (by decide) (by omega) (by omega) rfl (Nat.le_of_ble_eq_true rfl) d_Law_law_790 (fun v15 w16 n17 p18 => ?_)
    rcases p18 with ⟨⟨t2, ht2, e2, rfl⟩ | ⟨gm, rfl⟩, e20, f19, hM⟩
    · rw [e20]
      refine a_st (st' := [.int (nI (rankB (kyT K F KT c) m t2)), .int (-1)]) rfl ?_
      have ho := Fr.cell f19 ho (by omega)
      have hC := hC.mv (fun q z1 z2 => f19 q (by omega))
      exact (gx t2 ht2 e2).elim
    · rw [e20]
      refine a_st (st' := [.int (-1), .int (-1)]) rfl ?_
      have ho := Fr.cell f19 ho (by omega)
      have hC := hC.mv (fun q z1 z2 => f19 q (by omega))
      refine a_icmp_eq S (tgt := 983) d_Law_law_793 rfl (fun h793 => ?_) (fun h793 => ?_)
      · refine a_lv [0, 1, 2, 3, 4] (lv' := [(0, .ref b), (1, .ref a), (2, .ref (a + 208)), (3, .ref (a + 222)), (4, .int (nI i))]) rfl ?_
        exact NX c s K F L kr m KT lo hi he 0 _ _ _ _ _ ⟨hC, hM, ho, by omega⟩ (by omega) (by omega)
      · exact absurd (by decide) h793
set_option maxHeartbeats 1000000 in
set_option maxRecDepth 100000 in
theorem op_within {X : MX} {Y : kY} (S : FX X Y code "KeyCodecLaw" 9 601024 7293034) (hY : Y.2.2.1 = 7) (Zs : kS X.2.2.2.2.1 Y.2.1) (hfX : X.2.1.flags = pinnedFlags ++ [noTraceFlag]) (b a N i : Nat) (xs : Nat → Int32) (hX : SCR X Y b N xs) (hN : N ≤ 2560) (hi5 : i + 5 ≤ N) (NX : LQ X Y b a i) (c : Nat) (s : Bool) (K F : Nat → Nat) (L : Nat → kV) (kr : List Nat) (m : Nat) (KT : Nat → Nat → kV) (lo hi : List Nat) (he : Bool) (th : Int32) (g0 : Nat → Int64) (w : ww) (n : Nat) (hL : LI Y.1 w n a g0 th c s K F L kr m KT lo hi he) : AW X Y 958 [(0, .ref b), (1, .ref a), (2, .ref (a + 208)), (3, .ref (a + 222)), (4, .int (nI i))] [] w n (300 + i) (6000 + 4 * i) := by
  obtain ⟨D, A, nL, Q⟩ := Y
  have hY : nL = 7 := hY
  subst hY
  obtain ⟨hC, hM, ho, hn⟩ := hL
  have hV := hC.VI.1
  have hc5 := hC.VI.2.1
  have hm12 := hC.VI.2.2
  refine a_aload_n S d_Law_law_958 rfl rfl ?_
  refine a_aload_n S d_Law_law_959 rfl rfl ?_
  refine a_iload S d_Law_law_960 rfl ?_
  refine a_iconst S (v := 1) d_Law_law_962 (by decide) ?_
  refine a_iadd S d_Law_law_963 ?_
  refine a_eqi (y := nI (i + 1)) (ni_add rfl rfl) ?_
  refine a_sld S (i := i + 1) hX rfl (by omega) d_Law_law_964 ?_
  refine a_callV S (rest := []) lg_Law_132 hC.cell (c_Kc_within X.2.1 D a c s K F L kr m KT lo hi he (xs (i + 1)) w n hC) (by decide) (by omega) (by omega) rfl (Nat.le_of_ble_eq_true rfl) d_Law_law_965 (fun v1 w2 n3 p4 => ?_)
  rcases p4 with ⟨⟨t, ht, e1, rfl⟩ | ⟨gx, rfl⟩, e7, e6⟩
  · rw [e7, e6]
    refine a_st (st' := [.int (if wiB (kyT K F KT c t) lo hi he then 1 else 0)]) rfl ?_
    refine a_aload_n S d_Law_law_968 rfl rfl ?_
    refine a_aload_n S d_Law_law_969 rfl rfl ?_
    refine a_iload S d_Law_law_970 rfl ?_
    refine a_iconst S (v := 1) d_Law_law_972 (by decide) ?_
    refine a_iadd S d_Law_law_973 ?_
    refine a_eqi (y := nI (i + 1)) (ni_add rfl rfl) ?_
    refine a_sld S (i := i + 1) hX rfl (by omega) d_Law_law_974 ?_
    refine a_callV S (rest := [_]) lg_Law_135 hM.cell.choose_spec (c_Mod_within X.2.1 D (a + 208) th c s K F L kr m KT lo hi he (xs (i + 1)) w n hV hM) (by decide) (by omega) (by omega) rfl (Nat.le_of_ble_eq_true rfl) d_Law_law_975 (fun v8 w9 n10 p11 => ?_)
    rcases p11 with ⟨⟨t2, ht2, e2, rfl⟩ | ⟨gm, rfl⟩, e13, f12, hM⟩
    · rw [e13]
      refine a_st (st' := [.int (if wiB (kyT K F KT c t2) lo hi he then 1 else 0), .int (if wiB (kyT K F KT c t) lo hi he then 1 else 0)]) rfl ?_
      have ho := Fr.cell f12 ho (by omega)
      have hC := hC.mv (fun q z1 z2 => f12 q (by omega))
      obtain rfl : t = t2 := (nI_eq (by omega) (by omega)).mp (e1.symm.trans e2)
      refine a_icmp_eq S (tgt := 983) d_Law_law_978 rfl (fun h978 => ?_) (fun h978 => ?_)
      · refine a_lv [0, 1, 2, 3, 4] (lv' := [(0, .ref b), (1, .ref a), (2, .ref (a + 208)), (3, .ref (a + 222)), (4, .int (nI i))]) rfl ?_
        exact NX c s K F L kr m KT lo hi he 0 _ _ _ _ _ ⟨hC, hM, ho, by omega⟩ (by omega) (by omega)
      · exact absurd rfl h978
    · rw [e13]
      refine a_st (st' := [.int 0, .int (if wiB (kyT K F KT c t) lo hi he then 1 else 0)]) rfl ?_
      have ho := Fr.cell f12 ho (by omega)
      have hC := hC.mv (fun q z1 z2 => f12 q (by omega))
      exact (gm t ht e1).elim
  · rw [e7, e6]
    refine a_st (st' := [.int 0]) rfl ?_
    refine a_aload_n S d_Law_law_968 rfl rfl ?_
    refine a_aload_n S d_Law_law_969 rfl rfl ?_
    refine a_iload S d_Law_law_970 rfl ?_
    refine a_iconst S (v := 1) d_Law_law_972 (by decide) ?_
    refine a_iadd S d_Law_law_973 ?_
    refine a_eqi (y := nI (i + 1)) (ni_add rfl rfl) ?_
    refine a_sld S (i := i + 1) hX rfl (by omega) d_Law_law_974 ?_
    refine a_callV S (rest := [_]) lg_Law_135 hM.cell.choose_spec (c_Mod_within X.2.1 D (a + 208) th c s K F L kr m KT lo hi he (xs (i + 1)) w n hV hM) (by decide) (by omega) (by omega) rfl (Nat.le_of_ble_eq_true rfl) d_Law_law_975 (fun v15 w16 n17 p18 => ?_)
    rcases p18 with ⟨⟨t2, ht2, e2, rfl⟩ | ⟨gm, rfl⟩, e20, f19, hM⟩
    · rw [e20]
      refine a_st (st' := [.int (if wiB (kyT K F KT c t2) lo hi he then 1 else 0), .int 0]) rfl ?_
      have ho := Fr.cell f19 ho (by omega)
      have hC := hC.mv (fun q z1 z2 => f19 q (by omega))
      exact (gx t2 ht2 e2).elim
    · rw [e20]
      refine a_st (st' := [.int 0, .int 0]) rfl ?_
      have ho := Fr.cell f19 ho (by omega)
      have hC := hC.mv (fun q z1 z2 => f19 q (by omega))
      refine a_icmp_eq S (tgt := 983) d_Law_law_978 rfl (fun h978 => ?_) (fun h978 => ?_)
      · refine a_lv [0, 1, 2, 3, 4] (lv' := [(0, .ref b), (1, .ref a), (2, .ref (a + 208)), (3, .ref (a + 222)), (4, .int (nI i))]) rfl ?_
        exact NX c s K F L kr m KT lo hi he 0 _ _ _ _ _ ⟨hC, hM, ho, by omega⟩ (by omega) (by omega)
      · exact absurd (by decide) h978
set_option maxHeartbeats 1000000 in
set_option maxRecDepth 100000 in
theorem op_shared {X : MX} {Y : kY} (S : FX X Y code "KeyCodecLaw" 9 601024 7293034) (hY : Y.2.2.1 = 7) (Zs : kS X.2.2.2.2.1 Y.2.1) (hfX : X.2.1.flags = pinnedFlags ++ [noTraceFlag]) (b a N i : Nat) (xs : Nat → Int32) (hX : SCR X Y b N xs) (hN : N ≤ 2560) (hi5 : i + 5 ≤ N) (NX : LQ X Y b a i) (c : Nat) (s : Bool) (K F : Nat → Nat) (L : Nat → kV) (kr : List Nat) (m : Nat) (KT : Nat → Nat → kV) (lo hi : List Nat) (he : Bool) (th : Int32) (g0 : Nat → Int64) (w : ww) (n : Nat) (hL : LI Y.1 w n a g0 th c s K F L kr m KT lo hi he) : AW X Y 798 [(0, .ref b), (1, .ref a), (2, .ref (a + 208)), (3, .ref (a + 222)), (4, .int (nI i))] [] w n (300 + i) (6000 + 4 * i) := by
  obtain ⟨D, A, nL, Q⟩ := Y
  have hY : nL = 7 := hY
  subst hY
  obtain ⟨hC, hM, ho, hn⟩ := hL
  have hV := hC.VI.1
  have hc5 := hC.VI.2.1
  have hm12 := hC.VI.2.2
  refine a_aload_n S d_Law_law_798 rfl rfl ?_
  refine a_aload_n S d_Law_law_799 rfl rfl ?_
  refine a_iload S d_Law_law_800 rfl ?_
  refine a_iconst S (v := 1) d_Law_law_802 (by decide) ?_
  refine a_iadd S d_Law_law_803 ?_
  refine a_eqi (y := nI (i + 1)) (ni_add rfl rfl) ?_
  refine a_sld S (i := i + 1) hX rfl (by omega) d_Law_law_804 ?_
  refine a_callV S (rest := []) lg_Law_115 hC.cell (c_Kc_shared X.2.1 D a c s K F L kr m KT lo hi he (xs (i + 1)) w n hC) (by decide) (by omega) (by omega) rfl (Nat.le_of_ble_eq_true rfl) d_Law_law_805 (fun v1 w2 n3 p4 => ?_)
  rcases p4 with ⟨⟨q, hq, e1, ⟨hq0, rfl⟩ | ⟨t, u, hq0, ht, hu, r1, r2, rfl⟩⟩ | ⟨gx, rfl⟩, e7, e6⟩
  · rw [e7, e6]
    refine a_st (st' := [.int 0]) rfl ?_
    refine a_aload_n S d_Law_law_808 rfl rfl ?_
    refine a_aload_n S d_Law_law_809 rfl rfl ?_
    refine a_iload S d_Law_law_810 rfl ?_
    refine a_iconst S (v := 1) d_Law_law_812 (by decide) ?_
    refine a_iadd S d_Law_law_813 ?_
    refine a_eqi (y := nI (i + 1)) (ni_add rfl rfl) ?_
    refine a_sld S (i := i + 1) hX rfl (by omega) d_Law_law_814 ?_
    refine a_callV S (rest := [_]) lg_Law_118 hM.cell.choose_spec (c_Mod_shared X.2.1 D (a + 208) th c s K F L kr m KT lo hi he (xs (i + 1)) w n hV hM) (by decide) (by omega) (by omega) rfl (Nat.le_of_ble_eq_true rfl) d_Law_law_815 (fun v8 w9 n10 p11 => ?_)
    rcases p11 with ⟨⟨q2, hq2, e2, ⟨gq0, rfl⟩ | ⟨t2, u2, gq0, ht2, hu2, s1, s2, rfl⟩⟩ | ⟨gm, rfl⟩, e13, f12, hM⟩
    · rw [e13]
      refine a_st (st' := [.int 0, .int 0]) rfl ?_
      have ho := Fr.cell f12 ho (by omega)
      have hC := hC.mv (fun q z1 z2 => f12 q (by omega))
      refine a_icmp_eq S (tgt := 983) d_Law_law_818 rfl (fun h818 => ?_) (fun h818 => ?_)
      · refine a_lv [0, 1, 2, 3, 4] (lv' := [(0, .ref b), (1, .ref a), (2, .ref (a + 208)), (3, .ref (a + 222)), (4, .int (nI i))]) rfl ?_
        exact NX c s K F L kr m KT lo hi he 0 _ _ _ _ _ ⟨hC, hM, ho, by omega⟩ (by omega) (by omega)
      · exact absurd (by decide) h818
    · rw [e13]
      refine a_st (st' := [.int (nI (shrB (kyT K F KT c u2) (kyT K F KT c t2))), .int 0]) rfl ?_
      have ho := Fr.cell f12 ho (by omega)
      have hC := hC.mv (fun q z1 z2 => f12 q (by omega))
      obtain rfl : q = q2 := (nI_eq (by omega) (by omega)).mp (e1.symm.trans e2)
      exact absurd gq0 (by omega)
    · rw [e13]
      refine a_st (st' := [.int (-1), .int 0]) rfl ?_
      have ho := Fr.cell f12 ho (by omega)
      have hC := hC.mv (fun q z1 z2 => f12 q (by omega))
      exact (gm q hq e1).elim
  · rw [e7, e6]
    refine a_st (st' := [.int (nI (shrB (kyT K F KT c t) (kyT K F KT c u)))]) rfl ?_
    refine a_aload_n S d_Law_law_808 rfl rfl ?_
    refine a_aload_n S d_Law_law_809 rfl rfl ?_
    refine a_iload S d_Law_law_810 rfl ?_
    refine a_iconst S (v := 1) d_Law_law_812 (by decide) ?_
    refine a_iadd S d_Law_law_813 ?_
    refine a_eqi (y := nI (i + 1)) (ni_add rfl rfl) ?_
    refine a_sld S (i := i + 1) hX rfl (by omega) d_Law_law_814 ?_
    refine a_callV S (rest := [_]) lg_Law_118 hM.cell.choose_spec (c_Mod_shared X.2.1 D (a + 208) th c s K F L kr m KT lo hi he (xs (i + 1)) w n hV hM) (by decide) (by omega) (by omega) rfl (Nat.le_of_ble_eq_true rfl) d_Law_law_815 (fun v15 w16 n17 p18 => ?_)
    rcases p18 with ⟨⟨q2, hq2, e2, ⟨gq0, rfl⟩ | ⟨t2, u2, gq0, ht2, hu2, s1, s2, rfl⟩⟩ | ⟨gm, rfl⟩, e20, f19, hM⟩
    · rw [e20]
      refine a_st (st' := [.int 0, .int (nI (shrB (kyT K F KT c t) (kyT K F KT c u)))]) rfl ?_
      have ho := Fr.cell f19 ho (by omega)
      have hC := hC.mv (fun q z1 z2 => f19 q (by omega))
      obtain rfl : q = q2 := (nI_eq (by omega) (by omega)).mp (e1.symm.trans e2)
      exact absurd hq0 (by omega)
    · rw [e20]
      refine a_st (st' := [.int (nI (shrB (kyT K F KT c u2) (kyT K F KT c t2))), .int (nI (shrB (kyT K F KT c t) (kyT K F KT c u)))]) rfl ?_
      have ho := Fr.cell f19 ho (by omega)
      have hC := hC.mv (fun q z1 z2 => f19 q (by omega))
      obtain rfl : q = q2 := (nI_eq (by omega) (by omega)).mp (e1.symm.trans e2)
      obtain rfl : t = t2 := rankB_inj ht ht2 (r1.trans s1.symm)
      obtain rfl : u = u2 := rankB_inj hu hu2 (r2.trans s2.symm)
      refine a_eqi (y := nI (shrB (kyT K F KT c t) (kyT K F KT c u))) (by rw [shrB_comm]) ?_
      refine a_icmp_eq S (tgt := 983) d_Law_law_818 rfl (fun h818 => ?_) (fun h818 => ?_)
      · refine a_lv [0, 1, 2, 3, 4] (lv' := [(0, .ref b), (1, .ref a), (2, .ref (a + 208)), (3, .ref (a + 222)), (4, .int (nI i))]) rfl ?_
        exact NX c s K F L kr m KT lo hi he 0 _ _ _ _ _ ⟨hC, hM, ho, by omega⟩ (by omega) (by omega)
      · exact absurd rfl h818
    · rw [e20]
      refine a_st (st' := [.int (-1), .int (nI (shrB (kyT K F KT c t) (kyT K F KT c u)))]) rfl ?_
      have ho := Fr.cell f19 ho (by omega)
      have hC := hC.mv (fun q z1 z2 => f19 q (by omega))
      exact (gm q hq e1).elim
  · rw [e7, e6]
    refine a_st (st' := [.int (-1)]) rfl ?_
    refine a_aload_n S d_Law_law_808 rfl rfl ?_
    refine a_aload_n S d_Law_law_809 rfl rfl ?_
    refine a_iload S d_Law_law_810 rfl ?_
    refine a_iconst S (v := 1) d_Law_law_812 (by decide) ?_
    refine a_iadd S d_Law_law_813 ?_
    refine a_eqi (y := nI (i + 1)) (ni_add rfl rfl) ?_
    refine a_sld S (i := i + 1) hX rfl (by omega) d_Law_law_814 ?_
    refine a_callV S (rest := [_]) lg_Law_118 hM.cell.choose_spec (c_Mod_shared X.2.1 D (a + 208) th c s K F L kr m KT lo hi he (xs (i + 1)) w n hV hM) (by decide) (by omega) (by omega) rfl (Nat.le_of_ble_eq_true rfl) d_Law_law_815 (fun v22 w23 n24 p25 => ?_)
    rcases p25 with ⟨⟨q2, hq2, e2, ⟨gq0, rfl⟩ | ⟨t2, u2, gq0, ht2, hu2, s1, s2, rfl⟩⟩ | ⟨gm, rfl⟩, e27, f26, hM⟩
    · rw [e27]
      refine a_st (st' := [.int 0, .int (-1)]) rfl ?_
      have ho := Fr.cell f26 ho (by omega)
      have hC := hC.mv (fun q z1 z2 => f26 q (by omega))
      exact (gx q2 hq2 e2).elim
    · rw [e27]
      refine a_st (st' := [.int (nI (shrB (kyT K F KT c u2) (kyT K F KT c t2))), .int (-1)]) rfl ?_
      have ho := Fr.cell f26 ho (by omega)
      have hC := hC.mv (fun q z1 z2 => f26 q (by omega))
      exact (gx q2 hq2 e2).elim
    · rw [e27]
      refine a_st (st' := [.int (-1), .int (-1)]) rfl ?_
      have ho := Fr.cell f26 ho (by omega)
      have hC := hC.mv (fun q z1 z2 => f26 q (by omega))
      refine a_icmp_eq S (tgt := 983) d_Law_law_818 rfl (fun h818 => ?_) (fun h818 => ?_)
      · refine a_lv [0, 1, 2, 3, 4] (lv' := [(0, .ref b), (1, .ref a), (2, .ref (a + 208)), (3, .ref (a + 222)), (4, .int (nI i))]) rfl ?_
        exact NX c s K F L kr m KT lo hi he 0 _ _ _ _ _ ⟨hC, hM, ho, by omega⟩ (by omega) (by omega)
      · exact absurd (by decide) h818
set_option maxHeartbeats 1000000 in
set_option maxRecDepth 100000 in
theorem op_bounds {X : MX} {Y : kY} (S : FX X Y code "KeyCodecLaw" 9 601024 7293034) (hY : Y.2.2.1 = 7) (Zs : kS X.2.2.2.2.1 Y.2.1) (hfX : X.2.1.flags = pinnedFlags ++ [noTraceFlag]) (b a N i : Nat) (xs : Nat → Int32) (hX : SCR X Y b N xs) (hN : N ≤ 2560) (hi5 : i + 5 ≤ N) (NX : LQ X Y b a i) (c : Nat) (s : Bool) (K F : Nat → Nat) (L : Nat → kV) (kr : List Nat) (m : Nat) (KT : Nat → Nat → kV) (lo hi : List Nat) (he : Bool) (th : Int32) (g0 : Nat → Int64) (w : ww) (n : Nat) (hL : LI Y.1 w n a g0 th c s K F L kr m KT lo hi he) : AW X Y 823 [(0, .ref b), (1, .ref a), (2, .ref (a + 208)), (3, .ref (a + 222)), (4, .int (nI i))] [] w n (300 + i) (6000 + 4 * i) := by
  obtain ⟨D, A, nL, Q⟩ := Y
  have hY : nL = 7 := hY
  subst hY
  obtain ⟨hC, hM, ho, hn⟩ := hL
  have hV := hC.VI.1
  have hc5 := hC.VI.2.1
  have hm12 := hC.VI.2.2
  refine a_aload_n S d_Law_law_823 rfl rfl ?_
  refine a_aload_n S d_Law_law_824 rfl rfl ?_
  refine a_iload S d_Law_law_825 rfl ?_
  refine a_iconst S (v := 1) d_Law_law_827 (by decide) ?_
  refine a_iadd S d_Law_law_828 ?_
  refine a_eqi (y := nI (i + 1)) (ni_add rfl rfl) ?_
  refine a_sld S (i := i + 1) hX rfl (by omega) d_Law_law_829 ?_
  refine a_aload_n S d_Law_law_830 rfl rfl ?_
  refine a_iload S d_Law_law_831 rfl ?_
  refine a_iconst S (v := 2) d_Law_law_833 (by decide) ?_
  refine a_iadd S d_Law_law_834 ?_
  refine a_eqi (y := nI (i + 2)) (ni_add rfl rfl) ?_
  refine a_sld S (i := i + 2) hX rfl (by omega) d_Law_law_835 ?_
  refine a_callV S (rest := []) lg_Law_119 hC.cell (c_Kc_bounds X.2.1 D a c s K F L kr m KT lo hi he (xs (i + 1)) (xs (i + 2)) w n hC) (by decide) (by omega) (by omega) rfl (Nat.le_of_ble_eq_true rfl) d_Law_law_836 (fun v1 w2 n3 p4 => ?_)
  rcases p4 with ⟨t, q, ht, hq, e1, e3, rfl, e6, f5, hC⟩ | ⟨gx, rfl, e7, e6⟩
  · rw [e6]
    refine a_st (st' := [.int 1]) rfl ?_
    have ho := Fr.cell f5 ho (by omega)
    have hM := hM.mv (fun q z1 z2 => f5 q (by omega))
    refine a_aload_n S d_Law_law_839 rfl rfl ?_
    refine a_aload_n S d_Law_law_840 rfl rfl ?_
    refine a_iload S d_Law_law_841 rfl ?_
    refine a_iconst S (v := 1) d_Law_law_843 (by decide) ?_
    refine a_iadd S d_Law_law_844 ?_
    refine a_eqi (y := nI (i + 1)) (ni_add rfl rfl) ?_
    refine a_sld S (i := i + 1) hX rfl (by omega) d_Law_law_845 ?_
    refine a_aload_n S d_Law_law_846 rfl rfl ?_
    refine a_iload S d_Law_law_847 rfl ?_
    refine a_iconst S (v := 2) d_Law_law_849 (by decide) ?_
    refine a_iadd S d_Law_law_850 ?_
    refine a_eqi (y := nI (i + 2)) (ni_add rfl rfl) ?_
    refine a_sld S (i := i + 2) hX rfl (by omega) d_Law_law_851 ?_
    refine a_callV S (rest := [_]) lg_Law_122 hM.cell.choose_spec (c_Mod_bounds X.2.1 D (a + 208) th c s K F L kr m KT lo hi he (xs (i + 1)) (xs (i + 2)) w2 n hV hM) (by decide) (by omega) (by omega) rfl (Nat.le_of_ble_eq_true rfl) d_Law_law_852 (fun v8 w9 n10 p11 => ?_)
    rcases p11 with ⟨t2, q2, ht2, hq2, e2, e4, rfl, e13, f12, hM⟩ | ⟨gm, rfl, e13, f12, hM⟩
    · rw [e13]
      refine a_st (st' := [.int 1, .int 1]) rfl ?_
      have ho := Fr.cell f12 ho (by omega)
      have hC := hC.mv (fun q z1 z2 => f12 q (by omega))
      obtain rfl : t = t2 := (nI_eq (by omega) (by omega)).mp (e1.symm.trans e2)
      obtain rfl : q = q2 := (nI_eq (by omega) (by omega)).mp (e3.symm.trans e4)
      refine a_icmp_eq S (tgt := 983) d_Law_law_855 rfl (fun h855 => ?_) (fun h855 => ?_)
      · refine a_lv [0, 1, 2, 3, 4] (lv' := [(0, .ref b), (1, .ref a), (2, .ref (a + 208)), (3, .ref (a + 222)), (4, .int (nI i))]) rfl ?_
        exact NX c s K F L kr m KT (fldB K F (KT t) q) ((endI (fldB K F (KT t) q) (fldB K F (KT t) q).length).getD []) ((endI (fldB K F (KT t) q) (fldB K F (KT t) q).length).isSome) 0 _ _ _ _ _ ⟨hC, hM, ho, by omega⟩ (by omega) (by omega)
      · exact absurd (by decide) h855
    · rw [e13]
      refine a_st (st' := [.int 0, .int 1]) rfl ?_
      have ho := Fr.cell f12 ho (by omega)
      have hC := hC.mv (fun q z1 z2 => f12 q (by omega))
      exact (gm t q ht hq e1 e3).elim
  · rw [e7, e6]
    refine a_st (st' := [.int 0]) rfl ?_
    refine a_aload_n S d_Law_law_839 rfl rfl ?_
    refine a_aload_n S d_Law_law_840 rfl rfl ?_
    refine a_iload S d_Law_law_841 rfl ?_
    refine a_iconst S (v := 1) d_Law_law_843 (by decide) ?_
    refine a_iadd S d_Law_law_844 ?_
    refine a_eqi (y := nI (i + 1)) (ni_add rfl rfl) ?_
    refine a_sld S (i := i + 1) hX rfl (by omega) d_Law_law_845 ?_
    refine a_aload_n S d_Law_law_846 rfl rfl ?_
    refine a_iload S d_Law_law_847 rfl ?_
    refine a_iconst S (v := 2) d_Law_law_849 (by decide) ?_
    refine a_iadd S d_Law_law_850 ?_
    refine a_eqi (y := nI (i + 2)) (ni_add rfl rfl) ?_
    refine a_sld S (i := i + 2) hX rfl (by omega) d_Law_law_851 ?_
    refine a_callV S (rest := [_]) lg_Law_122 hM.cell.choose_spec (c_Mod_bounds X.2.1 D (a + 208) th c s K F L kr m KT lo hi he (xs (i + 1)) (xs (i + 2)) w n hV hM) (by decide) (by omega) (by omega) rfl (Nat.le_of_ble_eq_true rfl) d_Law_law_852 (fun v15 w16 n17 p18 => ?_)
    rcases p18 with ⟨t2, q2, ht2, hq2, e2, e4, rfl, e20, f19, hM⟩ | ⟨gm, rfl, e20, f19, hM⟩
    · rw [e20]
      refine a_st (st' := [.int 1, .int 0]) rfl ?_
      have ho := Fr.cell f19 ho (by omega)
      have hC := hC.mv (fun q z1 z2 => f19 q (by omega))
      exact (gx t2 q2 ht2 hq2 e2 e4).elim
    · rw [e20]
      refine a_st (st' := [.int 0, .int 0]) rfl ?_
      have ho := Fr.cell f19 ho (by omega)
      have hC := hC.mv (fun q z1 z2 => f19 q (by omega))
      refine a_icmp_eq S (tgt := 983) d_Law_law_855 rfl (fun h855 => ?_) (fun h855 => ?_)
      · refine a_lv [0, 1, 2, 3, 4] (lv' := [(0, .ref b), (1, .ref a), (2, .ref (a + 208)), (3, .ref (a + 222)), (4, .int (nI i))]) rfl ?_
        exact NX c s K F L kr m KT lo hi he 0 _ _ _ _ _ ⟨hC, hM, ho, by omega⟩ (by omega) (by omega)
      · exact absurd (by decide) h855
set_option maxHeartbeats 1000000 in
set_option maxRecDepth 100000 in
theorem op_between {X : MX} {Y : kY} (S : FX X Y code "KeyCodecLaw" 9 601024 7293034) (hY : Y.2.2.1 = 7) (Zs : kS X.2.2.2.2.1 Y.2.1) (hfX : X.2.1.flags = pinnedFlags ++ [noTraceFlag]) (b a N i : Nat) (xs : Nat → Int32) (hX : SCR X Y b N xs) (hN : N ≤ 2560) (hi5 : i + 5 ≤ N) (NX : LQ X Y b a i) (c : Nat) (s : Bool) (K F : Nat → Nat) (L : Nat → kV) (kr : List Nat) (m : Nat) (KT : Nat → Nat → kV) (lo hi : List Nat) (he : Bool) (th : Int32) (g0 : Nat → Int64) (w : ww) (n : Nat) (hL : LI Y.1 w n a g0 th c s K F L kr m KT lo hi he) : AW X Y 860 [(0, .ref b), (1, .ref a), (2, .ref (a + 208)), (3, .ref (a + 222)), (4, .int (nI i))] [] w n (300 + i) (6000 + 4 * i) := by
  obtain ⟨D, A, nL, Q⟩ := Y
  have hY : nL = 7 := hY
  subst hY
  obtain ⟨hC, hM, ho, hn⟩ := hL
  have hV := hC.VI.1
  have hc5 := hC.VI.2.1
  have hm12 := hC.VI.2.2
  refine a_aload_n S d_Law_law_860 rfl rfl ?_
  refine a_aload_n S d_Law_law_861 rfl rfl ?_
  refine a_iload S d_Law_law_862 rfl ?_
  refine a_iconst S (v := 1) d_Law_law_864 (by decide) ?_
  refine a_iadd S d_Law_law_865 ?_
  refine a_eqi (y := nI (i + 1)) (ni_add rfl rfl) ?_
  refine a_sld S (i := i + 1) hX rfl (by omega) d_Law_law_866 ?_
  refine a_aload_n S d_Law_law_867 rfl rfl ?_
  refine a_iload S d_Law_law_868 rfl ?_
  refine a_iconst S (v := 2) d_Law_law_870 (by decide) ?_
  refine a_iadd S d_Law_law_871 ?_
  refine a_eqi (y := nI (i + 2)) (ni_add rfl rfl) ?_
  refine a_sld S (i := i + 2) hX rfl (by omega) d_Law_law_872 ?_
  refine a_aload_n S d_Law_law_873 rfl rfl ?_
  refine a_iload S d_Law_law_874 rfl ?_
  refine a_iconst S (v := 3) d_Law_law_876 (by decide) ?_
  refine a_iadd S d_Law_law_877 ?_
  refine a_eqi (y := nI (i + 3)) (ni_add rfl rfl) ?_
  refine a_sld S (i := i + 3) hX rfl (by omega) d_Law_law_878 ?_
  refine a_aload_n S d_Law_law_879 rfl rfl ?_
  refine a_iload S d_Law_law_880 rfl ?_
  refine a_iconst S (v := 4) d_Law_law_882 (by decide) ?_
  refine a_iadd S d_Law_law_883 ?_
  refine a_eqi (y := nI (i + 4)) (ni_add rfl rfl) ?_
  refine a_sld S (i := i + 4) hX rfl (by omega) d_Law_law_884 ?_
  refine a_callV S (rest := []) lg_Law_123 hC.cell (c_Kc_between X.2.1 D a c s K F L kr m KT lo hi he (xs (i + 1)) (xs (i + 2)) (xs (i + 3)) (xs (i + 4)) w n hC) (by decide) (by omega) (by omega) rfl (Nat.le_of_ble_eq_true rfl) d_Law_law_885 (fun v1 w2 n3 p4 => ?_)
  rcases p4 with ⟨t, q, u, y, ht, hq, hu, hy, e1, e3, e5, e7, rfl, e6, f5, hC⟩ | ⟨gx, rfl, e7, e6⟩
  · rw [e6]
    refine a_st (st' := [.int 1]) rfl ?_
    have ho := Fr.cell f5 ho (by omega)
    have hM := hM.mv (fun q z1 z2 => f5 q (by omega))
    refine a_aload_n S d_Law_law_888 rfl rfl ?_
    refine a_aload_n S d_Law_law_889 rfl rfl ?_
    refine a_iload S d_Law_law_890 rfl ?_
    refine a_iconst S (v := 1) d_Law_law_892 (by decide) ?_
    refine a_iadd S d_Law_law_893 ?_
    refine a_eqi (y := nI (i + 1)) (ni_add rfl rfl) ?_
    refine a_sld S (i := i + 1) hX rfl (by omega) d_Law_law_894 ?_
    refine a_aload_n S d_Law_law_895 rfl rfl ?_
    refine a_iload S d_Law_law_896 rfl ?_
    refine a_iconst S (v := 2) d_Law_law_898 (by decide) ?_
    refine a_iadd S d_Law_law_899 ?_
    refine a_eqi (y := nI (i + 2)) (ni_add rfl rfl) ?_
    refine a_sld S (i := i + 2) hX rfl (by omega) d_Law_law_900 ?_
    refine a_aload_n S d_Law_law_901 rfl rfl ?_
    refine a_iload S d_Law_law_902 rfl ?_
    refine a_iconst S (v := 3) d_Law_law_904 (by decide) ?_
    refine a_iadd S d_Law_law_905 ?_
    refine a_eqi (y := nI (i + 3)) (ni_add rfl rfl) ?_
    refine a_sld S (i := i + 3) hX rfl (by omega) d_Law_law_906 ?_
    refine a_aload_n S d_Law_law_907 rfl rfl ?_
    refine a_iload S d_Law_law_908 rfl ?_
    refine a_iconst S (v := 4) d_Law_law_910 (by decide) ?_
    refine a_iadd S d_Law_law_911 ?_
    refine a_eqi (y := nI (i + 4)) (ni_add rfl rfl) ?_
    refine a_sld S (i := i + 4) hX rfl (by omega) d_Law_law_912 ?_
    refine a_callV S (rest := [_]) lg_Law_127 hM.cell.choose_spec (c_Mod_between X.2.1 D (a + 208) th c s K F L kr m KT lo hi he (xs (i + 1)) (xs (i + 2)) (xs (i + 3)) (xs (i + 4)) w2 n hV hM) (by decide) (by omega) (by omega) rfl (Nat.le_of_ble_eq_true rfl) d_Law_law_913 (fun v8 w9 n10 p11 => ?_)
    rcases p11 with ⟨t2, q2, u2, y2, ht2, hq2, hu2, hy2, e2, e4, e6, e8, rfl, e13, f12, hM⟩ | ⟨gm, rfl, e13, f12, hM⟩
    · rw [e13]
      refine a_st (st' := [.int 1, .int 1]) rfl ?_
      have ho := Fr.cell f12 ho (by omega)
      have hC := hC.mv (fun q z1 z2 => f12 q (by omega))
      obtain rfl : t = t2 := (nI_eq (by omega) (by omega)).mp (e1.symm.trans e2)
      obtain rfl : q = q2 := (nI_eq (by omega) (by omega)).mp (e3.symm.trans e4)
      obtain rfl : u = u2 := (nI_eq (by omega) (by omega)).mp (e5.symm.trans e6)
      obtain rfl : y = y2 := (nI_eq (by omega) (by omega)).mp (e7.symm.trans e8)
      refine a_icmp_eq S (tgt := 983) d_Law_law_916 rfl (fun h916 => ?_) (fun h916 => ?_)
      · refine a_lv [0, 1, 2, 3, 4] (lv' := [(0, .ref b), (1, .ref a), (2, .ref (a + 208)), (3, .ref (a + 222)), (4, .int (nI i))]) rfl ?_
        exact NX c s K F L kr m KT (fldB K F (KT t) q ++ encF (K q) (F q) (KT u q)) (fldB K F (KT t) q ++ encF (K q) (F q) (KT y q)) true 0 _ _ _ _ _ ⟨hC, hM, ho, by omega⟩ (by omega) (by omega)
      · exact absurd (by decide) h916
    · rw [e13]
      refine a_st (st' := [.int 0, .int 1]) rfl ?_
      have ho := Fr.cell f12 ho (by omega)
      have hC := hC.mv (fun q z1 z2 => f12 q (by omega))
      exact (gm t q u y ht hq hu hy e1 e3 e5 e7).elim
  · rw [e7, e6]
    refine a_st (st' := [.int 0]) rfl ?_
    refine a_aload_n S d_Law_law_888 rfl rfl ?_
    refine a_aload_n S d_Law_law_889 rfl rfl ?_
    refine a_iload S d_Law_law_890 rfl ?_
    refine a_iconst S (v := 1) d_Law_law_892 (by decide) ?_
    refine a_iadd S d_Law_law_893 ?_
    refine a_eqi (y := nI (i + 1)) (ni_add rfl rfl) ?_
    refine a_sld S (i := i + 1) hX rfl (by omega) d_Law_law_894 ?_
    refine a_aload_n S d_Law_law_895 rfl rfl ?_
    refine a_iload S d_Law_law_896 rfl ?_
    refine a_iconst S (v := 2) d_Law_law_898 (by decide) ?_
    refine a_iadd S d_Law_law_899 ?_
    refine a_eqi (y := nI (i + 2)) (ni_add rfl rfl) ?_
    refine a_sld S (i := i + 2) hX rfl (by omega) d_Law_law_900 ?_
    refine a_aload_n S d_Law_law_901 rfl rfl ?_
    refine a_iload S d_Law_law_902 rfl ?_
    refine a_iconst S (v := 3) d_Law_law_904 (by decide) ?_
    refine a_iadd S d_Law_law_905 ?_
    refine a_eqi (y := nI (i + 3)) (ni_add rfl rfl) ?_
    refine a_sld S (i := i + 3) hX rfl (by omega) d_Law_law_906 ?_
    refine a_aload_n S d_Law_law_907 rfl rfl ?_
    refine a_iload S d_Law_law_908 rfl ?_
    refine a_iconst S (v := 4) d_Law_law_910 (by decide) ?_
    refine a_iadd S d_Law_law_911 ?_
    refine a_eqi (y := nI (i + 4)) (ni_add rfl rfl) ?_
    refine a_sld S (i := i + 4) hX rfl (by omega) d_Law_law_912 ?_
    refine a_callV S (rest := [_]) lg_Law_127 hM.cell.choose_spec (c_Mod_between X.2.1 D (a + 208) th c s K F L kr m KT lo hi he (xs (i + 1)) (xs (i + 2)) (xs (i + 3)) (xs (i + 4)) w n hV hM) (by decide) (by omega) (by omega) rfl (Nat.le_of_ble_eq_true rfl) d_Law_law_913 (fun v15 w16 n17 p18 => ?_)
    rcases p18 with ⟨t2, q2, u2, y2, ht2, hq2, hu2, hy2, e2, e4, e6, e8, rfl, e20, f19, hM⟩ | ⟨gm, rfl, e20, f19, hM⟩
    · rw [e20]
      refine a_st (st' := [.int 1, .int 0]) rfl ?_
      have ho := Fr.cell f19 ho (by omega)
      have hC := hC.mv (fun q z1 z2 => f19 q (by omega))
      exact (gx t2 q2 u2 y2 ht2 hq2 hu2 hy2 e2 e4 e6 e8).elim
    · rw [e20]
      refine a_st (st' := [.int 0, .int 0]) rfl ?_
      have ho := Fr.cell f19 ho (by omega)
      have hC := hC.mv (fun q z1 z2 => f19 q (by omega))
      refine a_icmp_eq S (tgt := 983) d_Law_law_916 rfl (fun h916 => ?_) (fun h916 => ?_)
      · refine a_lv [0, 1, 2, 3, 4] (lv' := [(0, .ref b), (1, .ref a), (2, .ref (a + 208)), (3, .ref (a + 222)), (4, .int (nI i))]) rfl ?_
        exact NX c s K F L kr m KT lo hi he 0 _ _ _ _ _ ⟨hC, hM, ho, by omega⟩ (by omega) (by omega)
      · exact absurd (by decide) h916
set_option maxHeartbeats 1000000 in
set_option maxRecDepth 100000 in
theorem op_bound {X : MX} {Y : kY} (S : FX X Y code "KeyCodecLaw" 9 601024 7293034) (hY : Y.2.2.1 = 7) (Zs : kS X.2.2.2.2.1 Y.2.1) (hfX : X.2.1.flags = pinnedFlags ++ [noTraceFlag]) (b a N i : Nat) (xs : Nat → Int32) (hX : SCR X Y b N xs) (hN : N ≤ 2560) (hi5 : i + 5 ≤ N) (NX : LQ X Y b a i) (c : Nat) (s : Bool) (K F : Nat → Nat) (L : Nat → kV) (kr : List Nat) (m : Nat) (KT : Nat → Nat → kV) (lo hi : List Nat) (he : Bool) (th : Int32) (g0 : Nat → Int64) (w : ww) (n : Nat) (hL : LI Y.1 w n a g0 th c s K F L kr m KT lo hi he) : AW X Y 921 [(0, .ref b), (1, .ref a), (2, .ref (a + 208)), (3, .ref (a + 222)), (4, .int (nI i))] [] w n (300 + i) (6000 + 4 * i) := by
  obtain ⟨D, A, nL, Q⟩ := Y
  have hY : nL = 7 := hY
  subst hY
  obtain ⟨hC, hM, ho, hn⟩ := hL
  have hV := hC.VI.1
  have hc5 := hC.VI.2.1
  have hm12 := hC.VI.2.2
  refine a_aload_n S d_Law_law_921 rfl rfl ?_
  refine a_aload_n S d_Law_law_922 rfl rfl ?_
  refine a_iload S d_Law_law_923 rfl ?_
  refine a_iconst S (v := 1) d_Law_law_925 (by decide) ?_
  refine a_iadd S d_Law_law_926 ?_
  refine a_eqi (y := nI (i + 1)) (ni_add rfl rfl) ?_
  refine a_sld S (i := i + 1) hX rfl (by omega) d_Law_law_927 ?_
  refine a_aload_n S d_Law_law_928 rfl rfl ?_
  refine a_iload S d_Law_law_929 rfl ?_
  refine a_iconst S (v := 2) d_Law_law_931 (by decide) ?_
  refine a_iadd S d_Law_law_932 ?_
  refine a_eqi (y := nI (i + 2)) (ni_add rfl rfl) ?_
  refine a_sld S (i := i + 2) hX rfl (by omega) d_Law_law_933 ?_
  refine a_callV S (rest := []) lg_Law_128 hC.cell (c_Kc_bound X.2.1 D a c s K F L kr m KT lo hi he (xs (i + 1)) (xs (i + 2)) w n hC) (by decide) (by omega) (by omega) rfl (Nat.le_of_ble_eq_true rfl) d_Law_law_934 (fun v1 w2 n3 p4 => ?_)
  obtain ⟨rfl, e7, e6⟩ := p4
  rw [e7, e6]
  refine a_st (st' := [.int (bdV lo hi he (xs (i + 1)) (xs (i + 2)))]) rfl ?_
  refine a_aload_n S d_Law_law_937 rfl rfl ?_
  refine a_aload_n S d_Law_law_938 rfl rfl ?_
  refine a_iload S d_Law_law_939 rfl ?_
  refine a_iconst S (v := 1) d_Law_law_941 (by decide) ?_
  refine a_iadd S d_Law_law_942 ?_
  refine a_eqi (y := nI (i + 1)) (ni_add rfl rfl) ?_
  refine a_sld S (i := i + 1) hX rfl (by omega) d_Law_law_943 ?_
  refine a_aload_n S d_Law_law_944 rfl rfl ?_
  refine a_iload S d_Law_law_945 rfl ?_
  refine a_iconst S (v := 2) d_Law_law_947 (by decide) ?_
  refine a_iadd S d_Law_law_948 ?_
  refine a_eqi (y := nI (i + 2)) (ni_add rfl rfl) ?_
  refine a_sld S (i := i + 2) hX rfl (by omega) d_Law_law_949 ?_
  refine a_callV S (rest := [_]) lg_Law_131 hM.cell.choose_spec (c_Mod_bound X.2.1 D (a + 208) th c s K F L kr m KT lo hi he (xs (i + 1)) (xs (i + 2)) w n hM) (by decide) (by omega) (by omega) rfl (Nat.le_of_ble_eq_true rfl) d_Law_law_950 (fun v8 w9 n10 p11 => ?_)
  obtain ⟨rfl, e13, f12, hM⟩ := p11
  rw [e13]
  refine a_st (st' := [.int (bdV lo hi he (xs (i + 1)) (xs (i + 2))), .int (bdV lo hi he (xs (i + 1)) (xs (i + 2)))]) rfl ?_
  have ho := Fr.cell f12 ho (by omega)
  have hC := hC.mv (fun q z1 z2 => f12 q (by omega))
  refine a_icmp_eq S (tgt := 983) d_Law_law_953 rfl (fun h953 => ?_) (fun h953 => ?_)
  · refine a_lv [0, 1, 2, 3, 4] (lv' := [(0, .ref b), (1, .ref a), (2, .ref (a + 208)), (3, .ref (a + 222)), (4, .int (nI i))]) rfl ?_
    exact NX c s K F L kr m KT lo hi he 0 _ _ _ _ _ ⟨hC, hM, ho, by omega⟩ (by omega) (by omega)
  · exact absurd rfl h953
set_option maxHeartbeats 1000000 in
set_option maxRecDepth 100000 in
theorem op_field {X : MX} {Y : kY} (S : FX X Y code "KeyCodecLaw" 9 601024 7293034) (hY : Y.2.2.1 = 7) (Zs : kS X.2.2.2.2.1 Y.2.1) (hfX : X.2.1.flags = pinnedFlags ++ [noTraceFlag]) (b a N i : Nat) (xs : Nat → Int32) (hX : SCR X Y b N xs) (hN : N ≤ 2560) (hi5 : i + 5 ≤ N) (NX : LQ X Y b a i) (c : Nat) (s : Bool) (K F : Nat → Nat) (L : Nat → kV) (kr : List Nat) (m : Nat) (KT : Nat → Nat → kV) (lo hi : List Nat) (he : Bool) (th : Int32) (g0 : Nat → Int64) (w : ww) (n : Nat) (hL : LI Y.1 w n a g0 th c s K F L kr m KT lo hi he) : AW X Y 144 [(0, .ref b), (1, .ref a), (2, .ref (a + 208)), (3, .ref (a + 222)), (4, .int (nI i))] [] w n (300 + i) (6000 + 4 * i) := by
  obtain ⟨D, A, nL, Q⟩ := Y
  have hY : nL = 7 := hY
  subst hY
  obtain ⟨hC, hM, ho, hn⟩ := hL
  have hV := hC.VI.1
  have hc5 := hC.VI.2.1
  have hm12 := hC.VI.2.2
  refine a_aload_n S d_Law_law_144 rfl rfl ?_
  refine a_aload_n S d_Law_law_145 rfl rfl ?_
  refine a_iload S d_Law_law_146 rfl ?_
  refine a_iconst S (v := 1) d_Law_law_148 (by decide) ?_
  refine a_iadd S d_Law_law_149 ?_
  refine a_eqi (y := nI (i + 1)) (ni_add rfl rfl) ?_
  refine a_sld S (i := i + 1) hX rfl (by omega) d_Law_law_150 ?_
  refine a_aload_n S d_Law_law_151 rfl rfl ?_
  refine a_iload S d_Law_law_152 rfl ?_
  refine a_iconst S (v := 2) d_Law_law_154 (by decide) ?_
  refine a_iadd S d_Law_law_155 ?_
  refine a_eqi (y := nI (i + 2)) (ni_add rfl rfl) ?_
  refine a_sld S (i := i + 2) hX rfl (by omega) d_Law_law_156 ?_
  refine a_aload_n S d_Law_law_157 rfl rfl ?_
  rcases fld_c (xs (i + 1)) (xs (i + 2)) with ⟨kd, fg, hkd, hfg, e1, e2⟩ | hx
  · by_cases hsc : s = false ∧ c < 5
    · refine a_st (st' := [.ref (a + 222), .int (nI fg), .int (nI kd), .ref a]) (by rw [e1, e2]) ?_
      refine a_callSH S Zs (As := [.ref a, .int (nI kd), .int (nI fg), .ref (a + 222)]) (rest := []) ii_Law cw_Law_field hd_Law_field (by decide) lh_Law_32 ls_Law_field (h_field0 X.2.1 D a c s K F L kr m KT lo hi he (a + 222) g0 kd fg w n hfX hkd hfg hsc.1 hsc.2 (Or.inr (by omega)) ho hC) (by decide) (by omega) (by omega) rfl (Nat.le_of_ble_eq_true rfl) d_Law_law_158 (fun v w2 n2 hp => ?_)
      obtain ⟨rfl, en, fL, g1, ho, hg1, hC⟩ := hp
      rw [en]
      have hM := hM.mv (fun q z1 z2 => fL q (by omega) (by omega) (by omega))
      refine a_st (st' := [.int 0]) rfl ?_
      refine a_istore S d_Law_law_161 (Nat.le_of_ble_eq_true rfl) (lv' := [(0, .ref b), (1, .ref a), (2, .ref (a + 208)), (3, .ref (a + 222)), (4, .int (nI i)), (5, .int 0)]) rfl ?_
      refine a_aload_n S d_Law_law_163 rfl rfl ?_
      refine a_aload_n S d_Law_law_164 rfl rfl ?_
      refine a_iload S d_Law_law_165 rfl ?_
      refine a_iconst S (v := 1) d_Law_law_167 (by decide) ?_
      refine a_iadd S d_Law_law_168 ?_
      refine a_eqi (y := nI (i + 1)) (ni_add rfl rfl) ?_
      refine a_sld S (i := i + 1) hX rfl (by omega) d_Law_law_169 ?_
      refine a_aload_n S d_Law_law_170 rfl rfl ?_
      refine a_iload S d_Law_law_171 rfl ?_
      refine a_iconst S (v := 2) d_Law_law_173 (by decide) ?_
      refine a_iadd S d_Law_law_174 ?_
      refine a_eqi (y := nI (i + 2)) (ni_add rfl rfl) ?_
      refine a_sld S (i := i + 2) hX rfl (by omega) d_Law_law_175 ?_
      refine a_callV S (rest := []) lg_Law_37 hM.cell.choose_spec (c_Mod_field X.2.1 D (a + 208) th c s K F L kr m KT lo hi he (xs (i + 1)) (xs (i + 2)) w2 n hV hM) (by decide) (by omega) (by omega) rfl (Nat.le_of_ble_eq_true rfl) d_Law_law_176 (fun v1 w2 n3 p4 => ?_)
      rcases p4 with ⟨kd2, fg2, hk2, hf2, e3, e4, ⟨gs, gc, rfl, e6, f5, hM⟩ | ⟨gn, rfl, e6, f5, hM⟩⟩ | ⟨gx, rfl, e6, f5, hM⟩
      · rw [e6]
        refine a_st (st' := [.int (nI c)]) rfl ?_
        have ho := Fr.cell f5 ho (by omega)
        have hC := hC.mv (fun q z1 z2 => f5 q (by omega))
        obtain rfl : kd = kd2 := (nI_eq (by omega) (by omega)).mp (e1.symm.trans e3)
        obtain rfl : fg = fg2 := (nI_eq (by omega) (by omega)).mp (e2.symm.trans e4)
        refine a_istore S d_Law_law_179 (Nat.le_of_ble_eq_true rfl) (lv' := [(0, .ref b), (1, .ref a), (2, .ref (a + 208)), (3, .ref (a + 222)), (4, .int (nI i)), (5, .int 0), (6, .int (nI c))]) rfl ?_
        refine a_aload_n S d_Law_law_181 rfl rfl ?_
        refine a_callV S (rest := []) lg_Law_38 hM.cell.choose_spec (c_Mod_thrown X.2.1 D (a + 208) 0 (c + 1) s (va_up K c kd) (va_up F c fg) L kr m KT lo hi he w2 n hM) (by decide) (by omega) (by omega) rfl (Nat.le_of_ble_eq_true rfl) d_Law_law_182 (fun v8 w9 n10 p11 => ?_)
        obtain ⟨rfl, e12, e13⟩ := p11
        rw [e12, e13]
        refine a_st (st' := [.int 0]) rfl ?_
        refine a_iload S d_Law_law_185 rfl ?_
        refine a_icmp_eq S (tgt := 192) d_Law_law_187 rfl (fun h187 => ?_) (fun h187 => ?_)
        · refine a_iload S d_Law_law_192 rfl ?_
          refine a_if_ne S (tgt := 209) d_Law_law_194 rfl (fun h194 => ?_) (fun h194 => ?_)
          · exact absurd (by decide) h194
          · refine a_aload_n S d_Law_law_197 rfl rfl ?_
            refine a_iconst S (v := 0) d_Law_law_198 (by decide) ?_
            refine a_lald S (i := 0) ho rfl (by omega) (by decide) d_Law_law_199 ?_
            refine a_eql hg1 ?_
            refine a_iload S d_Law_law_200 rfl ?_
            refine a_i2l S d_Law_law_202 ?_
            refine a_lcmp S d_Law_law_203 ?_
            refine a_if_eq S (tgt := 209) d_Law_law_204 rfl (fun h204 => ?_) (fun h204 => ?_)
            · refine a_goto S (tgt := 983) d_Law_law_209 rfl ?_
              refine a_lv [0, 1, 2, 3, 4] (lv' := [(0, .ref b), (1, .ref a), (2, .ref (a + 208)), (3, .ref (a + 222)), (4, .int (nI i))]) rfl ?_
              exact NX (c + 1) s (va_up K c kd) (va_up F c fg) L kr m KT lo hi he 0 _ _ _ _ _ ⟨hC, hM, ho, by omega⟩ (by omega) (by omega)
            · exact absurd (lg_self _) h204
        · exact absurd (by decide) h187
      · rw [e6]
        refine a_st (st' := [.int 0]) rfl ?_
        have ho := Fr.cell f5 ho (by omega)
        have hC := hC.mv (fun q z1 z2 => f5 q (by omega))
        exact absurd hsc gn
      · rw [e6]
        refine a_st (st' := [.int 0]) rfl ?_
        have ho := Fr.cell f5 ho (by omega)
        have hC := hC.mv (fun q z1 z2 => f5 q (by omega))
        exact (gx kd fg hkd hfg e1 e2).elim
    · refine a_st (st' := [.ref (a + 222), .int (nI fg), .int (nI kd), .ref a]) (by rw [e1, e2]) ?_
      refine a_callSH S Zs (As := [.ref a, .int (nI kd), .int (nI fg), .ref (a + 222)]) (rest := []) ii_Law cw_Law_field hd_Law_field (by decide) lh_Law_32 ls_Law_field (h_field2 X.2.1 D a c s K F L kr m KT lo hi he (a + 222) g0 kd fg w n hfX hkd hfg hsc (Or.inr (by omega)) ho hC) (by decide) (by omega) (by omega) rfl (Nat.le_of_ble_eq_true rfl) d_Law_law_158 (fun v w2 n2 hp => ?_)
      obtain ⟨rfl, ew, en⟩ := hp
      rw [ew, en]
      refine a_st (st' := [.int 2]) rfl ?_
      refine a_istore S d_Law_law_161 (Nat.le_of_ble_eq_true rfl) (lv' := [(0, .ref b), (1, .ref a), (2, .ref (a + 208)), (3, .ref (a + 222)), (4, .int (nI i)), (5, .int 2)]) rfl ?_
      refine a_aload_n S d_Law_law_163 rfl rfl ?_
      refine a_aload_n S d_Law_law_164 rfl rfl ?_
      refine a_iload S d_Law_law_165 rfl ?_
      refine a_iconst S (v := 1) d_Law_law_167 (by decide) ?_
      refine a_iadd S d_Law_law_168 ?_
      refine a_eqi (y := nI (i + 1)) (ni_add rfl rfl) ?_
      refine a_sld S (i := i + 1) hX rfl (by omega) d_Law_law_169 ?_
      refine a_aload_n S d_Law_law_170 rfl rfl ?_
      refine a_iload S d_Law_law_171 rfl ?_
      refine a_iconst S (v := 2) d_Law_law_173 (by decide) ?_
      refine a_iadd S d_Law_law_174 ?_
      refine a_eqi (y := nI (i + 2)) (ni_add rfl rfl) ?_
      refine a_sld S (i := i + 2) hX rfl (by omega) d_Law_law_175 ?_
      refine a_callV S (rest := []) lg_Law_37 hM.cell.choose_spec (c_Mod_field X.2.1 D (a + 208) th c s K F L kr m KT lo hi he (xs (i + 1)) (xs (i + 2)) w (n + 1) hV hM) (by decide) (by omega) (by omega) rfl (Nat.le_of_ble_eq_true rfl) d_Law_law_176 (fun v14 w15 n16 p17 => ?_)
      rcases p17 with ⟨kd2, fg2, hk2, hf2, e3, e4, ⟨gs, gc, rfl, e19, f18, hM⟩ | ⟨gn, rfl, e19, f18, hM⟩⟩ | ⟨gx, rfl, e19, f18, hM⟩
      · rw [e19]
        refine a_st (st' := [.int (nI c)]) rfl ?_
        have ho := Fr.cell f18 ho (by omega)
        have hC := hC.mv (fun q z1 z2 => f18 q (by omega))
        exact absurd ⟨gs, gc⟩ hsc
      · rw [e19]
        refine a_st (st' := [.int 0]) rfl ?_
        have ho := Fr.cell f18 ho (by omega)
        have hC := hC.mv (fun q z1 z2 => f18 q (by omega))
        refine a_istore S d_Law_law_179 (Nat.le_of_ble_eq_true rfl) (lv' := [(0, .ref b), (1, .ref a), (2, .ref (a + 208)), (3, .ref (a + 222)), (4, .int (nI i)), (5, .int 2), (6, .int 0)]) rfl ?_
        refine a_aload_n S d_Law_law_181 rfl rfl ?_
        refine a_callV S (rest := []) lg_Law_38 hM.cell.choose_spec (c_Mod_thrown X.2.1 D (a + 208) 2 c s K F L kr m KT lo hi he w15 (n + 1) hM) (by decide) (by omega) (by omega) rfl (Nat.le_of_ble_eq_true rfl) d_Law_law_182 (fun v21 w22 n23 p24 => ?_)
        obtain ⟨rfl, e25, e26⟩ := p24
        rw [e25, e26]
        refine a_st (st' := [.int 2]) rfl ?_
        refine a_iload S d_Law_law_185 rfl ?_
        refine a_icmp_eq S (tgt := 192) d_Law_law_187 rfl (fun h187 => ?_) (fun h187 => ?_)
        · refine a_iload S d_Law_law_192 rfl ?_
          refine a_if_ne S (tgt := 209) d_Law_law_194 rfl (fun h194 => ?_) (fun h194 => ?_)
          · refine a_goto S (tgt := 983) d_Law_law_209 rfl ?_
            refine a_lv [0, 1, 2, 3, 4] (lv' := [(0, .ref b), (1, .ref a), (2, .ref (a + 208)), (3, .ref (a + 222)), (4, .int (nI i))]) rfl ?_
            exact NX c s K F L kr m KT lo hi he 2 _ _ _ _ _ ⟨hC, hM, ho, by omega⟩ (by omega) (by omega)
          · exact absurd h194 (by decide)
        · exact absurd (by decide) h187
      · rw [e19]
        refine a_st (st' := [.int 0]) rfl ?_
        have ho := Fr.cell f18 ho (by omega)
        have hC := hC.mv (fun q z1 z2 => f18 q (by omega))
        exact (gx kd fg hkd hfg e1 e2).elim
  · refine a_callSH S Zs (As := [.ref a, .int (xs (i + 1)), .int (xs (i + 2)), .ref (a + 222)]) (rest := []) ii_Law cw_Law_field hd_Law_field (by decide) lh_Law_32 ls_Law_field (h_field1 X.2.1 D a c s K F L kr m KT lo hi he (a + 222) g0 (xs (i + 1)) (xs (i + 2)) w n hfX hx (Or.inr (by omega)) ho hC) (by decide) (by omega) (by omega) rfl (Nat.le_of_ble_eq_true rfl) d_Law_law_158 (fun v w2 n2 hp => ?_)
    obtain ⟨rfl, ew, en⟩ := hp
    rw [ew, en]
    refine a_st (st' := [.int 1]) rfl ?_
    refine a_istore S d_Law_law_161 (Nat.le_of_ble_eq_true rfl) (lv' := [(0, .ref b), (1, .ref a), (2, .ref (a + 208)), (3, .ref (a + 222)), (4, .int (nI i)), (5, .int 1)]) rfl ?_
    refine a_aload_n S d_Law_law_163 rfl rfl ?_
    refine a_aload_n S d_Law_law_164 rfl rfl ?_
    refine a_iload S d_Law_law_165 rfl ?_
    refine a_iconst S (v := 1) d_Law_law_167 (by decide) ?_
    refine a_iadd S d_Law_law_168 ?_
    refine a_eqi (y := nI (i + 1)) (ni_add rfl rfl) ?_
    refine a_sld S (i := i + 1) hX rfl (by omega) d_Law_law_169 ?_
    refine a_aload_n S d_Law_law_170 rfl rfl ?_
    refine a_iload S d_Law_law_171 rfl ?_
    refine a_iconst S (v := 2) d_Law_law_173 (by decide) ?_
    refine a_iadd S d_Law_law_174 ?_
    refine a_eqi (y := nI (i + 2)) (ni_add rfl rfl) ?_
    refine a_sld S (i := i + 2) hX rfl (by omega) d_Law_law_175 ?_
    refine a_callV S (rest := []) lg_Law_37 hM.cell.choose_spec (c_Mod_field X.2.1 D (a + 208) th c s K F L kr m KT lo hi he (xs (i + 1)) (xs (i + 2)) w (n + 1) hV hM) (by decide) (by omega) (by omega) rfl (Nat.le_of_ble_eq_true rfl) d_Law_law_176 (fun v27 w28 n29 p30 => ?_)
    rcases p30 with ⟨kd2, fg2, hk2, hf2, e3, e4, ⟨gs, gc, rfl, e32, f31, hM⟩ | ⟨gn, rfl, e32, f31, hM⟩⟩ | ⟨gx, rfl, e32, f31, hM⟩
    · rw [e32]
      refine a_st (st' := [.int (nI c)]) rfl ?_
      have ho := Fr.cell f31 ho (by omega)
      have hC := hC.mv (fun q z1 z2 => f31 q (by omega))
      exact (hx kd2 fg2 hk2 hf2 e3 e4).elim
    · rw [e32]
      refine a_st (st' := [.int 0]) rfl ?_
      have ho := Fr.cell f31 ho (by omega)
      have hC := hC.mv (fun q z1 z2 => f31 q (by omega))
      exact (hx kd2 fg2 hk2 hf2 e3 e4).elim
    · rw [e32]
      refine a_st (st' := [.int 0]) rfl ?_
      have ho := Fr.cell f31 ho (by omega)
      have hC := hC.mv (fun q z1 z2 => f31 q (by omega))
      refine a_istore S d_Law_law_179 (Nat.le_of_ble_eq_true rfl) (lv' := [(0, .ref b), (1, .ref a), (2, .ref (a + 208)), (3, .ref (a + 222)), (4, .int (nI i)), (5, .int 1), (6, .int 0)]) rfl ?_
      refine a_aload_n S d_Law_law_181 rfl rfl ?_
      refine a_callV S (rest := []) lg_Law_38 hM.cell.choose_spec (c_Mod_thrown X.2.1 D (a + 208) 1 c s K F L kr m KT lo hi he w28 (n + 1) hM) (by decide) (by omega) (by omega) rfl (Nat.le_of_ble_eq_true rfl) d_Law_law_182 (fun v34 w35 n36 p37 => ?_)
      obtain ⟨rfl, e38, e39⟩ := p37
      rw [e38, e39]
      refine a_st (st' := [.int 1]) rfl ?_
      refine a_iload S d_Law_law_185 rfl ?_
      refine a_icmp_eq S (tgt := 192) d_Law_law_187 rfl (fun h187 => ?_) (fun h187 => ?_)
      · refine a_iload S d_Law_law_192 rfl ?_
        refine a_if_ne S (tgt := 209) d_Law_law_194 rfl (fun h194 => ?_) (fun h194 => ?_)
        · refine a_goto S (tgt := 983) d_Law_law_209 rfl ?_
          refine a_lv [0, 1, 2, 3, 4] (lv' := [(0, .ref b), (1, .ref a), (2, .ref (a + 208)), (3, .ref (a + 222)), (4, .int (nI i))]) rfl ?_
          exact NX c s K F L kr m KT lo hi he 1 _ _ _ _ _ ⟨hC, hM, ho, by omega⟩ (by omega) (by omega)
        · exact absurd h194 (by decide)
      · exact absurd (by decide) h187
set_option maxHeartbeats 1000000 in
set_option maxRecDepth 100000 in
theorem op_encode {X : MX} {Y : kY} (S : FX X Y code "KeyCodecLaw" 9 601024 7293034) (hY : Y.2.2.1 = 7) (Zs : kS X.2.2.2.2.1 Y.2.1) (hfX : X.2.1.flags = pinnedFlags ++ [noTraceFlag]) (b a N i : Nat) (xs : Nat → Int32) (hX : SCR X Y b N xs) (hN : N ≤ 2560) (hi5 : i + 5 ≤ N) (NX : LQ X Y b a i) (c : Nat) (s : Bool) (K F : Nat → Nat) (L : Nat → kV) (kr : List Nat) (m : Nat) (KT : Nat → Nat → kV) (lo hi : List Nat) (he : Bool) (th : Int32) (g0 : Nat → Int64) (w : ww) (n : Nat) (hL : LI Y.1 w n a g0 th c s K F L kr m KT lo hi he) : AW X Y 417 [(0, .ref b), (1, .ref a), (2, .ref (a + 208)), (3, .ref (a + 222)), (4, .int (nI i))] [] w n (300 + i) (6000 + 4 * i) := by
  obtain ⟨D, A, nL, Q⟩ := Y
  have hY : nL = 7 := hY
  subst hY
  obtain ⟨hC, hM, ho, hn⟩ := hL
  have hV := hC.VI.1
  have hc5 := hC.VI.2.1
  have hm12 := hC.VI.2.2
  refine a_aload_n S d_Law_law_417 rfl rfl ?_
  refine a_aload_n S d_Law_law_418 rfl rfl ?_
  rcases Bool.eq_false_or_eq_true s with hs1 | hs1
  · refine a_callSH S Zs (As := [.ref a, .ref (a + 222)]) (rest := []) ii_Law cw_Law_encode hd_Law_encode (by decide) lh_Law_71 ls_Law_encode (h_encode0 X.2.1 D a c s K F L kr m KT lo hi he (a + 222) g0 w n hfX hs1 (Or.inr (by omega)) ho hC) (by decide) (by omega) (by omega) rfl (Nat.le_of_ble_eq_true rfl) d_Law_law_419 (fun v w2 n2 hp => ?_)
    obtain ⟨rfl, en, fL, g1, ho, hg1, hC⟩ := hp
    rw [en]
    have hM := hM.mv (fun q z1 z2 => fL q (by omega) (by omega) (by omega))
    refine a_st (st' := [.int 0]) rfl ?_
    refine a_istore S d_Law_law_422 (Nat.le_of_ble_eq_true rfl) (lv' := [(0, .ref b), (1, .ref a), (2, .ref (a + 208)), (3, .ref (a + 222)), (4, .int (nI i)), (5, .int 0)]) rfl ?_
    refine a_aload_n S d_Law_law_424 rfl rfl ?_
    refine a_callV S (rest := []) lg_Law_74 hM.cell.choose_spec (c_Mod_encode X.2.1 D (a + 208) th c s K F L kr m KT lo hi he  w2 n hV hM) (by decide) (by omega) (by omega) rfl (Nat.le_of_ble_eq_true rfl) d_Law_law_425 (fun v1 w2 n3 p4 => ?_)
    rcases p4 with ⟨gs, rfl, e6, f5, hM⟩ | ⟨gs, rfl, e6, f5, hM⟩
    · rw [e6]
      refine a_st (st' := [.int (nI ((keyB K F L c).length))]) rfl ?_
      have ho := Fr.cell f5 ho (by omega)
      have hC := hC.mv (fun q z1 z2 => f5 q (by omega))
      refine a_istore S d_Law_law_428 (Nat.le_of_ble_eq_true rfl) (lv' := [(0, .ref b), (1, .ref a), (2, .ref (a + 208)), (3, .ref (a + 222)), (4, .int (nI i)), (5, .int 0), (6, .int (nI ((keyB K F L c).length)))]) rfl ?_
      refine a_aload_n S d_Law_law_430 rfl rfl ?_
      refine a_callV S (rest := []) lg_Law_38 hM.cell.choose_spec (c_Mod_thrown X.2.1 D (a + 208) 0 c s K F L (keyB K F L c) m KT lo hi he w2 n hM) (by decide) (by omega) (by omega) rfl (Nat.le_of_ble_eq_true rfl) d_Law_law_431 (fun v8 w9 n10 p11 => ?_)
      obtain ⟨rfl, e12, e13⟩ := p11
      rw [e12, e13]
      refine a_st (st' := [.int 0]) rfl ?_
      refine a_iload S d_Law_law_434 rfl ?_
      refine a_icmp_eq S (tgt := 441) d_Law_law_436 rfl (fun h436 => ?_) (fun h436 => ?_)
      · refine a_iload S d_Law_law_441 rfl ?_
        refine a_if_ne S (tgt := 458) d_Law_law_443 rfl (fun h443 => ?_) (fun h443 => ?_)
        · exact absurd (by decide) h443
        · refine a_aload_n S d_Law_law_446 rfl rfl ?_
          refine a_iconst S (v := 0) d_Law_law_447 (by decide) ?_
          refine a_lald S (i := 0) ho rfl (by omega) (by decide) d_Law_law_448 ?_
          refine a_eql hg1 ?_
          refine a_iload S d_Law_law_449 rfl ?_
          refine a_i2l S d_Law_law_451 ?_
          refine a_lcmp S d_Law_law_452 ?_
          refine a_if_eq S (tgt := 458) d_Law_law_453 rfl (fun h453 => ?_) (fun h453 => ?_)
          · refine a_goto S (tgt := 983) d_Law_law_458 rfl ?_
            refine a_lv [0, 1, 2, 3, 4] (lv' := [(0, .ref b), (1, .ref a), (2, .ref (a + 208)), (3, .ref (a + 222)), (4, .int (nI i))]) rfl ?_
            exact NX c s K F L (keyB K F L c) m KT lo hi he 0 _ _ _ _ _ ⟨hC, hM, ho, by omega⟩ (by omega) (by omega)
          · exact absurd (lg_self _) h453
      · exact absurd (by decide) h436
    · rw [e6]
      refine a_st (st' := [.int 0]) rfl ?_
      have ho := Fr.cell f5 ho (by omega)
      have hC := hC.mv (fun q z1 z2 => f5 q (by omega))
      rw [hs1] at gs; cases gs
  · refine a_callSH S Zs (As := [.ref a, .ref (a + 222)]) (rest := []) ii_Law cw_Law_encode hd_Law_encode (by decide) lh_Law_71 ls_Law_encode (h_encode1 X.2.1 D a c s K F L kr m KT lo hi he (a + 222) g0 w n hfX hs1 (Or.inr (by omega)) ho hC) (by decide) (by omega) (by omega) rfl (Nat.le_of_ble_eq_true rfl) d_Law_law_419 (fun v w2 n2 hp => ?_)
    obtain ⟨rfl, ew, en⟩ := hp
    rw [ew, en]
    refine a_st (st' := [.int 1]) rfl ?_
    refine a_istore S d_Law_law_422 (Nat.le_of_ble_eq_true rfl) (lv' := [(0, .ref b), (1, .ref a), (2, .ref (a + 208)), (3, .ref (a + 222)), (4, .int (nI i)), (5, .int 1)]) rfl ?_
    refine a_aload_n S d_Law_law_424 rfl rfl ?_
    refine a_callV S (rest := []) lg_Law_74 hM.cell.choose_spec (c_Mod_encode X.2.1 D (a + 208) th c s K F L kr m KT lo hi he  w (n + 1) hV hM) (by decide) (by omega) (by omega) rfl (Nat.le_of_ble_eq_true rfl) d_Law_law_425 (fun v14 w15 n16 p17 => ?_)
    rcases p17 with ⟨gs, rfl, e19, f18, hM⟩ | ⟨gs, rfl, e19, f18, hM⟩
    · rw [e19]
      refine a_st (st' := [.int (nI ((keyB K F L c).length))]) rfl ?_
      have ho := Fr.cell f18 ho (by omega)
      have hC := hC.mv (fun q z1 z2 => f18 q (by omega))
      rw [hs1] at gs; cases gs
    · rw [e19]
      refine a_st (st' := [.int 0]) rfl ?_
      have ho := Fr.cell f18 ho (by omega)
      have hC := hC.mv (fun q z1 z2 => f18 q (by omega))
      refine a_istore S d_Law_law_428 (Nat.le_of_ble_eq_true rfl) (lv' := [(0, .ref b), (1, .ref a), (2, .ref (a + 208)), (3, .ref (a + 222)), (4, .int (nI i)), (5, .int 1), (6, .int 0)]) rfl ?_
      refine a_aload_n S d_Law_law_430 rfl rfl ?_
      refine a_callV S (rest := []) lg_Law_38 hM.cell.choose_spec (c_Mod_thrown X.2.1 D (a + 208) 1 c s K F L kr m KT lo hi he w15 (n + 1) hM) (by decide) (by omega) (by omega) rfl (Nat.le_of_ble_eq_true rfl) d_Law_law_431 (fun v21 w22 n23 p24 => ?_)
      obtain ⟨rfl, e25, e26⟩ := p24
      rw [e25, e26]
      refine a_st (st' := [.int 1]) rfl ?_
      refine a_iload S d_Law_law_434 rfl ?_
      refine a_icmp_eq S (tgt := 441) d_Law_law_436 rfl (fun h436 => ?_) (fun h436 => ?_)
      · refine a_iload S d_Law_law_441 rfl ?_
        refine a_if_ne S (tgt := 458) d_Law_law_443 rfl (fun h443 => ?_) (fun h443 => ?_)
        · refine a_goto S (tgt := 983) d_Law_law_458 rfl ?_
          refine a_lv [0, 1, 2, 3, 4] (lv' := [(0, .ref b), (1, .ref a), (2, .ref (a + 208)), (3, .ref (a + 222)), (4, .int (nI i))]) rfl ?_
          exact NX c s K F L kr m KT lo hi he 1 _ _ _ _ _ ⟨hC, hM, ho, by omega⟩ (by omega) (by omega)
        · exact absurd h443 (by decide)
      · exact absurd (by decide) h436
set_option maxHeartbeats 1000000 in
set_option maxRecDepth 100000 in
theorem op_keep {X : MX} {Y : kY} (S : FX X Y code "KeyCodecLaw" 9 601024 7293034) (hY : Y.2.2.1 = 7) (Zs : kS X.2.2.2.2.1 Y.2.1) (hfX : X.2.1.flags = pinnedFlags ++ [noTraceFlag]) (b a N i : Nat) (xs : Nat → Int32) (hX : SCR X Y b N xs) (hN : N ≤ 2560) (hi5 : i + 5 ≤ N) (NX : LQ X Y b a i) (c : Nat) (s : Bool) (K F : Nat → Nat) (L : Nat → kV) (kr : List Nat) (m : Nat) (KT : Nat → Nat → kV) (lo hi : List Nat) (he : Bool) (th : Int32) (g0 : Nat → Int64) (w : ww) (n : Nat) (hL : LI Y.1 w n a g0 th c s K F L kr m KT lo hi he) : AW X Y 617 [(0, .ref b), (1, .ref a), (2, .ref (a + 208)), (3, .ref (a + 222)), (4, .int (nI i))] [] w n (300 + i) (6000 + 4 * i) := by
  obtain ⟨D, A, nL, Q⟩ := Y
  have hY : nL = 7 := hY
  subst hY
  obtain ⟨hC, hM, ho, hn⟩ := hL
  have hV := hC.VI.1
  have hc5 := hC.VI.2.1
  have hm12 := hC.VI.2.2
  refine a_aload_n S d_Law_law_617 rfl rfl ?_
  refine a_aload_n S d_Law_law_618 rfl rfl ?_
  by_cases hsk : s = true ∧ m < 12
  · refine a_callSH S Zs (As := [.ref a, .ref (a + 222)]) (rest := []) ii_Law cw_Law_keep hd_Law_keep (by decide) lh_Law_92 ls_Law_keep (h_keep0 X.2.1 D a c s K F L kr m KT lo hi he (a + 222) g0 w n hfX hsk.1 hsk.2 (Or.inr (by omega)) ho hC) (by decide) (by omega) (by omega) rfl (Nat.le_of_ble_eq_true rfl) d_Law_law_619 (fun v w2 n2 hp => ?_)
    obtain ⟨rfl, en, fL, g1, ho, hg1, hC⟩ := hp
    rw [en]
    have hM := hM.mv (fun q z1 z2 => fL q (by omega) (by omega) (by omega))
    refine a_st (st' := [.int 0]) rfl ?_
    refine a_istore S d_Law_law_622 (Nat.le_of_ble_eq_true rfl) (lv' := [(0, .ref b), (1, .ref a), (2, .ref (a + 208)), (3, .ref (a + 222)), (4, .int (nI i)), (5, .int 0)]) rfl ?_
    refine a_aload_n S d_Law_law_624 rfl rfl ?_
    refine a_callV S (rest := []) lg_Law_94 hM.cell.choose_spec (c_Mod_keep X.2.1 D (a + 208) th c s K F L kr m KT lo hi he  w2 n hM) (by decide) (by omega) (by omega) rfl (Nat.le_of_ble_eq_true rfl) d_Law_law_625 (fun v1 w2 n3 p4 => ?_)
    rcases p4 with ⟨gs, gm, rfl, e6, f5, hM⟩ | ⟨gn, rfl, e6, f5, hM⟩
    · rw [e6]
      refine a_st (st' := [.int (nI m)]) rfl ?_
      have ho := Fr.cell f5 ho (by omega)
      have hC := hC.mv (fun q z1 z2 => f5 q (by omega))
      refine a_istore S d_Law_law_628 (Nat.le_of_ble_eq_true rfl) (lv' := [(0, .ref b), (1, .ref a), (2, .ref (a + 208)), (3, .ref (a + 222)), (4, .int (nI i)), (5, .int 0), (6, .int (nI m))]) rfl ?_
      refine a_aload_n S d_Law_law_630 rfl rfl ?_
      refine a_callV S (rest := []) lg_Law_38 hM.cell.choose_spec (c_Mod_thrown X.2.1 D (a + 208) 0 c s K F L kr (m + 1) (va_up KT m L) lo hi he w2 n hM) (by decide) (by omega) (by omega) rfl (Nat.le_of_ble_eq_true rfl) d_Law_law_631 (fun v8 w9 n10 p11 => ?_)
      obtain ⟨rfl, e12, e13⟩ := p11
      rw [e12, e13]
      refine a_st (st' := [.int 0]) rfl ?_
      refine a_iload S d_Law_law_634 rfl ?_
      refine a_icmp_eq S (tgt := 641) d_Law_law_636 rfl (fun h636 => ?_) (fun h636 => ?_)
      · refine a_iload S d_Law_law_641 rfl ?_
        refine a_if_ne S (tgt := 658) d_Law_law_643 rfl (fun h643 => ?_) (fun h643 => ?_)
        · exact absurd (by decide) h643
        · refine a_aload_n S d_Law_law_646 rfl rfl ?_
          refine a_iconst S (v := 0) d_Law_law_647 (by decide) ?_
          refine a_lald S (i := 0) ho rfl (by omega) (by decide) d_Law_law_648 ?_
          refine a_eql hg1 ?_
          refine a_iload S d_Law_law_649 rfl ?_
          refine a_i2l S d_Law_law_651 ?_
          refine a_lcmp S d_Law_law_652 ?_
          refine a_if_eq S (tgt := 658) d_Law_law_653 rfl (fun h653 => ?_) (fun h653 => ?_)
          · refine a_goto S (tgt := 983) d_Law_law_658 rfl ?_
            refine a_lv [0, 1, 2, 3, 4] (lv' := [(0, .ref b), (1, .ref a), (2, .ref (a + 208)), (3, .ref (a + 222)), (4, .int (nI i))]) rfl ?_
            exact NX c s K F L kr (m + 1) (va_up KT m L) lo hi he 0 _ _ _ _ _ ⟨hC, hM, ho, by omega⟩ (by omega) (by omega)
          · exact absurd (lg_self _) h653
      · exact absurd (by decide) h636
    · rw [e6]
      refine a_st (st' := [.int 0]) rfl ?_
      have ho := Fr.cell f5 ho (by omega)
      have hC := hC.mv (fun q z1 z2 => f5 q (by omega))
      exact absurd hsk gn
  · refine a_callSH S Zs (As := [.ref a, .ref (a + 222)]) (rest := []) ii_Law cw_Law_keep hd_Law_keep (by decide) lh_Law_92 ls_Law_keep (h_keep1 X.2.1 D a c s K F L kr m KT lo hi he (a + 222) g0 w n hfX hsk (Or.inr (by omega)) ho hC) (by decide) (by omega) (by omega) rfl (Nat.le_of_ble_eq_true rfl) d_Law_law_619 (fun v w2 n2 hp => ?_)
    obtain ⟨rfl, ew, en⟩ := hp
    rw [ew, en]
    refine a_st (st' := [.int 1]) rfl ?_
    refine a_istore S d_Law_law_622 (Nat.le_of_ble_eq_true rfl) (lv' := [(0, .ref b), (1, .ref a), (2, .ref (a + 208)), (3, .ref (a + 222)), (4, .int (nI i)), (5, .int 1)]) rfl ?_
    refine a_aload_n S d_Law_law_624 rfl rfl ?_
    refine a_callV S (rest := []) lg_Law_94 hM.cell.choose_spec (c_Mod_keep X.2.1 D (a + 208) th c s K F L kr m KT lo hi he  w (n + 1) hM) (by decide) (by omega) (by omega) rfl (Nat.le_of_ble_eq_true rfl) d_Law_law_625 (fun v14 w15 n16 p17 => ?_)
    rcases p17 with ⟨gs, gm, rfl, e19, f18, hM⟩ | ⟨gn, rfl, e19, f18, hM⟩
    · rw [e19]
      refine a_st (st' := [.int (nI m)]) rfl ?_
      have ho := Fr.cell f18 ho (by omega)
      have hC := hC.mv (fun q z1 z2 => f18 q (by omega))
      exact absurd ⟨gs, gm⟩ hsk
    · rw [e19]
      refine a_st (st' := [.int 0]) rfl ?_
      have ho := Fr.cell f18 ho (by omega)
      have hC := hC.mv (fun q z1 z2 => f18 q (by omega))
      refine a_istore S d_Law_law_628 (Nat.le_of_ble_eq_true rfl) (lv' := [(0, .ref b), (1, .ref a), (2, .ref (a + 208)), (3, .ref (a + 222)), (4, .int (nI i)), (5, .int 1), (6, .int 0)]) rfl ?_
      refine a_aload_n S d_Law_law_630 rfl rfl ?_
      refine a_callV S (rest := []) lg_Law_38 hM.cell.choose_spec (c_Mod_thrown X.2.1 D (a + 208) 1 c s K F L kr m KT lo hi he w15 (n + 1) hM) (by decide) (by omega) (by omega) rfl (Nat.le_of_ble_eq_true rfl) d_Law_law_631 (fun v21 w22 n23 p24 => ?_)
      obtain ⟨rfl, e25, e26⟩ := p24
      rw [e25, e26]
      refine a_st (st' := [.int 1]) rfl ?_
      refine a_iload S d_Law_law_634 rfl ?_
      refine a_icmp_eq S (tgt := 641) d_Law_law_636 rfl (fun h636 => ?_) (fun h636 => ?_)
      · refine a_iload S d_Law_law_641 rfl ?_
        refine a_if_ne S (tgt := 658) d_Law_law_643 rfl (fun h643 => ?_) (fun h643 => ?_)
        · refine a_goto S (tgt := 983) d_Law_law_658 rfl ?_
          refine a_lv [0, 1, 2, 3, 4] (lv' := [(0, .ref b), (1, .ref a), (2, .ref (a + 208)), (3, .ref (a + 222)), (4, .int (nI i))]) rfl ?_
          exact NX c s K F L kr m KT lo hi he 1 _ _ _ _ _ ⟨hC, hM, ho, by omega⟩ (by omega) (by omega)
        · exact absurd h643 (by decide)
      · exact absurd (by decide) h636
set_option maxHeartbeats 1000000 in
set_option maxRecDepth 100000 in
theorem op_decode {X : MX} {Y : kY} (S : FX X Y code "KeyCodecLaw" 9 601024 7293034) (hY : Y.2.2.1 = 7) (Zs : kS X.2.2.2.2.1 Y.2.1) (hfX : X.2.1.flags = pinnedFlags ++ [noTraceFlag]) (b a N i : Nat) (xs : Nat → Int32) (hX : SCR X Y b N xs) (hN : N ≤ 2560) (hi5 : i + 5 ≤ N) (NX : LQ X Y b a i) (c : Nat) (s : Bool) (K F : Nat → Nat) (L : Nat → kV) (kr : List Nat) (m : Nat) (KT : Nat → Nat → kV) (lo hi : List Nat) (he : Bool) (th : Int32) (g0 : Nat → Int64) (w : ww) (n : Nat) (hL : LI Y.1 w n a g0 th c s K F L kr m KT lo hi he) : AW X Y 566 [(0, .ref b), (1, .ref a), (2, .ref (a + 208)), (3, .ref (a + 222)), (4, .int (nI i))] [] w n (300 + i) (6000 + 4 * i) := by
  obtain ⟨D, A, nL, Q⟩ := Y
  have hY : nL = 7 := hY
  subst hY
  obtain ⟨hC, hM, ho, hn⟩ := hL
  have hV := hC.VI.1
  have hc5 := hC.VI.2.1
  have hm12 := hC.VI.2.2
  refine a_aload_n S d_Law_law_566 rfl rfl ?_
  refine a_aload_n S d_Law_law_567 rfl rfl ?_
  rcases Bool.eq_false_or_eq_true s with hs1 | hs1
  · rcases dec_c K F c kr with ⟨T, hT, hkT⟩ | hno
    · refine a_callSH S Zs (As := [.ref a, .ref (a + 222)]) (rest := []) ii_Law cw_Law_decode hd_Law_decode (by decide) lh_Law_89 ls_Law_decode (h_decode0 X.2.1 D a c s K F L kr m KT lo hi he (a + 222) g0 T w n hfX hs1 hT hkT (Or.inr (by omega)) ho hC) (by decide) (by omega) (by omega) rfl (Nat.le_of_ble_eq_true rfl) d_Law_law_568 (fun v w2 n2 hp => ?_)
      obtain ⟨rfl, en, fL, g1, ho, hg1, T1, hT1, hC⟩ := hp
      rw [en]
      have hM := hM.mv (fun q z1 z2 => fL q (by omega) (by omega) (by omega))
      refine a_st (st' := [.int 0]) rfl ?_
      refine a_istore S d_Law_law_571 (Nat.le_of_ble_eq_true rfl) (lv' := [(0, .ref b), (1, .ref a), (2, .ref (a + 208)), (3, .ref (a + 222)), (4, .int (nI i)), (5, .int 0)]) rfl ?_
      refine a_aload_n S d_Law_law_573 rfl rfl ?_
      refine a_callV S (rest := []) lg_Law_91 hM.cell.choose_spec (c_Mod_decode X.2.1 D (a + 208) th c s K F L kr m KT lo hi he  w2 (n + 2) hM) (by decide) (by omega) (by omega) rfl (Nat.le_of_ble_eq_true rfl) d_Law_law_574 (fun v1 w2 n3 p4 => ?_)
      rcases p4 with ⟨gs, rfl, e6, f5, hM⟩ | ⟨T2, gs, goT, gkT, rfl, gun, e6, f5, hM⟩ | ⟨gs, gno, rfl, e6, f5, hM⟩
      · rw [e6]
        refine a_st (st' := [.int 0]) rfl ?_
        have ho := Fr.cell f5 ho (by omega)
        have hC := hC.mv (fun q z1 z2 => f5 q (by omega))
        rw [hs1] at gs; cases gs
      · rw [e6]
        refine a_st (st' := [.int 1]) rfl ?_
        have ho := Fr.cell f5 ho (by omega)
        have hC := hC.mv (fun q z1 z2 => f5 q (by omega))
        have hM := hM.cgL (L' := T1) (fun j hj => (gun T hT hkT j hj).trans (hT1 j hj).symm)
        refine a_istore S d_Law_law_577 (Nat.le_of_ble_eq_true rfl) (lv' := [(0, .ref b), (1, .ref a), (2, .ref (a + 208)), (3, .ref (a + 222)), (4, .int (nI i)), (5, .int 0), (6, .int 1)]) rfl ?_
        refine a_aload_n S d_Law_law_579 rfl rfl ?_
        refine a_callV S (rest := []) lg_Law_38 hM.cell.choose_spec (c_Mod_thrown X.2.1 D (a + 208) 0 c s K F T1 kr m KT lo hi he w2 (n + 2) hM) (by decide) (by omega) (by omega) rfl (Nat.le_of_ble_eq_true rfl) d_Law_law_580 (fun v8 w9 n10 p11 => ?_)
        obtain ⟨rfl, e12, e13⟩ := p11
        rw [e12, e13]
        refine a_st (st' := [.int 0]) rfl ?_
        refine a_iload S d_Law_law_583 rfl ?_
        refine a_icmp_eq S (tgt := 590) d_Law_law_585 rfl (fun h585 => ?_) (fun h585 => ?_)
        · refine a_iload S d_Law_law_590 rfl ?_
          refine a_if_ne S (tgt := 614) d_Law_law_592 rfl (fun h592 => ?_) (fun h592 => ?_)
          · exact absurd (by decide) h592
          · refine a_aload_n S d_Law_law_595 rfl rfl ?_
            refine a_iconst S (v := 0) d_Law_law_596 (by decide) ?_
            refine a_lald S (i := 0) ho rfl (by omega) (by decide) d_Law_law_597 ?_
            refine a_eql hg1 ?_
            refine a_iload S d_Law_law_598 rfl ?_
            refine a_if_eq S (tgt := 607) d_Law_law_600 rfl (fun h600 => ?_) (fun h600 => ?_)
            · exact absurd h600 (by decide)
            · refine a_lconst S (v := 1) d_Law_law_603 (by decide) ?_
              refine a_goto S (tgt := 608) d_Law_law_604 rfl ?_
              refine a_lcmp S d_Law_law_608 ?_
              refine a_if_eq S (tgt := 614) d_Law_law_609 rfl (fun h609 => ?_) (fun h609 => ?_)
              · refine a_goto S (tgt := 983) d_Law_law_614 rfl ?_
                refine a_lv [0, 1, 2, 3, 4] (lv' := [(0, .ref b), (1, .ref a), (2, .ref (a + 208)), (3, .ref (a + 222)), (4, .int (nI i))]) rfl ?_
                exact NX c s K F T1 kr m KT lo hi he 0 _ _ _ _ _ ⟨hC, hM, ho, by omega⟩ (by omega) (by omega)
              · exact absurd (lg_self _) h609
        · exact absurd (by decide) h585
      · rw [e6]
        refine a_st (st' := [.int 0]) rfl ?_
        have ho := Fr.cell f5 ho (by omega)
        have hC := hC.mv (fun q z1 z2 => f5 q (by omega))
        exact absurd hkT (gno T hT)
    · refine a_callSH S Zs (As := [.ref a, .ref (a + 222)]) (rest := []) ii_Law cw_Law_decode hd_Law_decode (by decide) lh_Law_89 ls_Law_decode (h_decode2 X.2.1 D a c s K F L kr m KT lo hi he (a + 222) g0 w n hfX hs1 hno (Or.inr (by omega)) ho hC) (by decide) (by omega) (by omega) rfl (Nat.le_of_ble_eq_true rfl) d_Law_law_568 (fun v w2 n2 hp => ?_)
      obtain ⟨rfl, en, fL, ho, hC⟩ := hp
      rw [en]
      have hM := hM.mv (fun q z1 z2 => fL q (by omega) (by omega) (by omega))
      refine a_st (st' := [.int 2]) rfl ?_
      refine a_istore S d_Law_law_571 (Nat.le_of_ble_eq_true rfl) (lv' := [(0, .ref b), (1, .ref a), (2, .ref (a + 208)), (3, .ref (a + 222)), (4, .int (nI i)), (5, .int 2)]) rfl ?_
      refine a_aload_n S d_Law_law_573 rfl rfl ?_
      refine a_callV S (rest := []) lg_Law_91 hM.cell.choose_spec (c_Mod_decode X.2.1 D (a + 208) th c s K F L kr m KT lo hi he  w2 (n + 3) hM) (by decide) (by omega) (by omega) rfl (Nat.le_of_ble_eq_true rfl) d_Law_law_574 (fun v14 w15 n16 p17 => ?_)
      rcases p17 with ⟨gs, rfl, e19, f18, hM⟩ | ⟨T2, gs, goT, gkT, rfl, gun, e19, f18, hM⟩ | ⟨gs, gno, rfl, e19, f18, hM⟩
      · rw [e19]
        refine a_st (st' := [.int 0]) rfl ?_
        have ho := Fr.cell f18 ho (by omega)
        have hC := hC.mv (fun q z1 z2 => f18 q (by omega))
        rw [hs1] at gs; cases gs
      · rw [e19]
        refine a_st (st' := [.int 1]) rfl ?_
        have ho := Fr.cell f18 ho (by omega)
        have hC := hC.mv (fun q z1 z2 => f18 q (by omega))
        exact absurd gkT (hno T2 goT)
      · rw [e19]
        refine a_st (st' := [.int 0]) rfl ?_
        have ho := Fr.cell f18 ho (by omega)
        have hC := hC.mv (fun q z1 z2 => f18 q (by omega))
        refine a_istore S d_Law_law_577 (Nat.le_of_ble_eq_true rfl) (lv' := [(0, .ref b), (1, .ref a), (2, .ref (a + 208)), (3, .ref (a + 222)), (4, .int (nI i)), (5, .int 2), (6, .int 0)]) rfl ?_
        refine a_aload_n S d_Law_law_579 rfl rfl ?_
        refine a_callV S (rest := []) lg_Law_38 hM.cell.choose_spec (c_Mod_thrown X.2.1 D (a + 208) 2 c s K F L kr m KT lo hi he w15 (n + 3) hM) (by decide) (by omega) (by omega) rfl (Nat.le_of_ble_eq_true rfl) d_Law_law_580 (fun v21 w22 n23 p24 => ?_)
        obtain ⟨rfl, e25, e26⟩ := p24
        rw [e25, e26]
        refine a_st (st' := [.int 2]) rfl ?_
        refine a_iload S d_Law_law_583 rfl ?_
        refine a_icmp_eq S (tgt := 590) d_Law_law_585 rfl (fun h585 => ?_) (fun h585 => ?_)
        · refine a_iload S d_Law_law_590 rfl ?_
          refine a_if_ne S (tgt := 614) d_Law_law_592 rfl (fun h592 => ?_) (fun h592 => ?_)
          · refine a_goto S (tgt := 983) d_Law_law_614 rfl ?_
            refine a_lv [0, 1, 2, 3, 4] (lv' := [(0, .ref b), (1, .ref a), (2, .ref (a + 208)), (3, .ref (a + 222)), (4, .int (nI i))]) rfl ?_
            exact NX c s K F L kr m KT lo hi he 2 _ _ _ _ _ ⟨hC, hM, ho, by omega⟩ (by omega) (by omega)
          · exact absurd h592 (by decide)
        · exact absurd (by decide) h585
  · refine a_callSH S Zs (As := [.ref a, .ref (a + 222)]) (rest := []) ii_Law cw_Law_decode hd_Law_decode (by decide) lh_Law_89 ls_Law_decode (h_decode1 X.2.1 D a c s K F L kr m KT lo hi he (a + 222) g0 w n hfX hs1 (Or.inr (by omega)) ho hC) (by decide) (by omega) (by omega) rfl (Nat.le_of_ble_eq_true rfl) d_Law_law_568 (fun v w2 n2 hp => ?_)
    obtain ⟨rfl, ew, en⟩ := hp
    rw [ew, en]
    refine a_st (st' := [.int 1]) rfl ?_
    refine a_istore S d_Law_law_571 (Nat.le_of_ble_eq_true rfl) (lv' := [(0, .ref b), (1, .ref a), (2, .ref (a + 208)), (3, .ref (a + 222)), (4, .int (nI i)), (5, .int 1)]) rfl ?_
    refine a_aload_n S d_Law_law_573 rfl rfl ?_
    refine a_callV S (rest := []) lg_Law_91 hM.cell.choose_spec (c_Mod_decode X.2.1 D (a + 208) th c s K F L kr m KT lo hi he  w (n + 1) hM) (by decide) (by omega) (by omega) rfl (Nat.le_of_ble_eq_true rfl) d_Law_law_574 (fun v27 w28 n29 p30 => ?_)
    rcases p30 with ⟨gs, rfl, e32, f31, hM⟩ | ⟨T2, gs, goT, gkT, rfl, gun, e32, f31, hM⟩ | ⟨gs, gno, rfl, e32, f31, hM⟩
    · rw [e32]
      refine a_st (st' := [.int 0]) rfl ?_
      have ho := Fr.cell f31 ho (by omega)
      have hC := hC.mv (fun q z1 z2 => f31 q (by omega))
      refine a_istore S d_Law_law_577 (Nat.le_of_ble_eq_true rfl) (lv' := [(0, .ref b), (1, .ref a), (2, .ref (a + 208)), (3, .ref (a + 222)), (4, .int (nI i)), (5, .int 1), (6, .int 0)]) rfl ?_
      refine a_aload_n S d_Law_law_579 rfl rfl ?_
      refine a_callV S (rest := []) lg_Law_38 hM.cell.choose_spec (c_Mod_thrown X.2.1 D (a + 208) 1 c s K F L kr m KT lo hi he w28 (n + 1) hM) (by decide) (by omega) (by omega) rfl (Nat.le_of_ble_eq_true rfl) d_Law_law_580 (fun v34 w35 n36 p37 => ?_)
      obtain ⟨rfl, e38, e39⟩ := p37
      rw [e38, e39]
      refine a_st (st' := [.int 1]) rfl ?_
      refine a_iload S d_Law_law_583 rfl ?_
      refine a_icmp_eq S (tgt := 590) d_Law_law_585 rfl (fun h585 => ?_) (fun h585 => ?_)
      · refine a_iload S d_Law_law_590 rfl ?_
        refine a_if_ne S (tgt := 614) d_Law_law_592 rfl (fun h592 => ?_) (fun h592 => ?_)
        · refine a_goto S (tgt := 983) d_Law_law_614 rfl ?_
          refine a_lv [0, 1, 2, 3, 4] (lv' := [(0, .ref b), (1, .ref a), (2, .ref (a + 208)), (3, .ref (a + 222)), (4, .int (nI i))]) rfl ?_
          exact NX c s K F L kr m KT lo hi he 1 _ _ _ _ _ ⟨hC, hM, ho, by omega⟩ (by omega) (by omega)
        · exact absurd h592 (by decide)
      · exact absurd (by decide) h585
    · rw [e32]
      refine a_st (st' := [.int 1]) rfl ?_
      have ho := Fr.cell f31 ho (by omega)
      have hC := hC.mv (fun q z1 z2 => f31 q (by omega))
      rw [hs1] at gs; cases gs
    · rw [e32]
      refine a_st (st' := [.int 0]) rfl ?_
      have ho := Fr.cell f31 ho (by omega)
      have hC := hC.mv (fun q z1 z2 => f31 q (by omega))
      rw [hs1] at gs; cases gs
