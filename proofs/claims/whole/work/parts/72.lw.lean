set_option maxHeartbeats 1000000 in
set_option maxRecDepth 100000 in
theorem op_seal {X : MX} {Y : kY} (S : FX X Y code "KeyCodecLaw" 9 601024 7293034) (hY : Y.2.2.1 = 7) (Zs : kS X.2.2.2.2.1 Y.2.1) (hfX : X.2.1.flags = pinnedFlags ++ [noTraceFlag]) (b a N i : Nat) (xs : Nat → Int32) (hX : SCR X Y b N xs) (hN : N ≤ 2560) (hi5 : i + 5 ≤ N) (NX : LQ X Y b a i) (c : Nat) (s : Bool) (K F : Nat → Nat) (L : Nat → kV) (kr : List Nat) (m : Nat) (KT : Nat → Nat → kV) (lo hi : List Nat) (he : Bool) (th : Int32) (g0 : Nat → Int64) (w : ww) (n : Nat) (hL : LI Y.1 w n a g0 th c s K F L kr m KT lo hi he) : AW X Y 212 [(0, .ref b), (1, .ref a), (2, .ref (a + 208)), (3, .ref (a + 222)), (4, .int (nI i))] [] w n (300 + i) (6000 + 4 * i) := by
  obtain ⟨D, A, nL, Q⟩ := Y
  have hY : nL = 7 := hY
  subst hY
  obtain ⟨hC, hM, ho, hn⟩ := hL
  have hV := hC.VI.1
  have hc5 := hC.VI.2.1
  have hm12 := hC.VI.2.2
  refine a_aload_n S d_Law_law_212 rfl rfl ?_
  refine a_callV S (rest := []) lg_Law_41 hC.cell (c_Kc_seal X.2.1 D a c s K F L kr m KT lo hi he  w n hC) (by decide) (by omega) (by omega) rfl (Nat.le_of_ble_eq_true rfl) d_Law_law_213 (fun v1 w2 n3 p4 => ?_)
  rcases p4 with ⟨hs1, hc1, rfl, e6, f5, hC⟩ | ⟨hn1, rfl, e7, e6⟩
  · rw [e6]
    refine a_st (st' := [.int 1]) rfl ?_
    have ho := Fr.cell f5 ho (by omega)
    have hM := hM.mv (fun q z1 z2 => f5 q (by omega))
    refine a_aload_n S d_Law_law_216 rfl rfl ?_
    refine a_callV S (rest := [_]) lg_Law_44 hM.cell.choose_spec (c_Mod_seal X.2.1 D (a + 208) th c s K F L kr m KT lo hi he  w2 n hM) (by decide) (by omega) (by omega) rfl (Nat.le_of_ble_eq_true rfl) d_Law_law_217 (fun v8 w9 n10 p11 => ?_)
    rcases p11 with ⟨gs1, gc1, rfl, e13, f12, hM⟩ | ⟨gn1, rfl, e13, f12, hM⟩
    · rw [e13]
      refine a_st (st' := [.int 1, .int 1]) rfl ?_
      have ho := Fr.cell f12 ho (by omega)
      have hC := hC.mv (fun q z1 z2 => f12 q (by omega))
      refine a_icmp_eq S (tgt := 983) d_Law_law_220 rfl (fun h220 => ?_) (fun h220 => ?_)
      · refine a_lv [0, 1, 2, 3, 4] (lv' := [(0, .ref b), (1, .ref a), (2, .ref (a + 208)), (3, .ref (a + 222)), (4, .int (nI i))]) rfl ?_
        exact NX c true K F (fun _ => (false, 0, 0, [])) kr m KT lo hi he 0 _ _ _ _ _ ⟨hC, hM, ho, by omega⟩ (by omega) (by omega)
      · exact absurd (by decide) h220
    · rw [e13]
      refine a_st (st' := [.int 0, .int 1]) rfl ?_
      have ho := Fr.cell f12 ho (by omega)
      have hC := hC.mv (fun q z1 z2 => f12 q (by omega))
      exact absurd ⟨hs1, hc1⟩ gn1
  · rw [e7, e6]
    refine a_st (st' := [.int 0]) rfl ?_
    refine a_aload_n S d_Law_law_216 rfl rfl ?_
    refine a_callV S (rest := [_]) lg_Law_44 hM.cell.choose_spec (c_Mod_seal X.2.1 D (a + 208) th c s K F L kr m KT lo hi he  w n hM) (by decide) (by omega) (by omega) rfl (Nat.le_of_ble_eq_true rfl) d_Law_law_217 (fun v15 w16 n17 p18 => ?_)
    rcases p18 with ⟨gs1, gc1, rfl, e20, f19, hM⟩ | ⟨gn1, rfl, e20, f19, hM⟩
    · rw [e20]
      refine a_st (st' := [.int 1, .int 0]) rfl ?_
      have ho := Fr.cell f19 ho (by omega)
      have hC := hC.mv (fun q z1 z2 => f19 q (by omega))
      exact absurd ⟨gs1, gc1⟩ hn1
    · rw [e20]
      refine a_st (st' := [.int 0, .int 0]) rfl ?_
      have ho := Fr.cell f19 ho (by omega)
      have hC := hC.mv (fun q z1 z2 => f19 q (by omega))
      refine a_icmp_eq S (tgt := 983) d_Law_law_220 rfl (fun h220 => ?_) (fun h220 => ?_)
      · refine a_lv [0, 1, 2, 3, 4] (lv' := [(0, .ref b), (1, .ref a), (2, .ref (a + 208)), (3, .ref (a + 222)), (4, .int (nI i))]) rfl ?_
        exact NX c s K F L kr m KT lo hi he 0 _ _ _ _ _ ⟨hC, hM, ho, by omega⟩ (by omega) (by omega)
      · exact absurd (by decide) h220
set_option maxHeartbeats 1000000 in
set_option maxRecDepth 100000 in
theorem op_clear {X : MX} {Y : kY} (S : FX X Y code "KeyCodecLaw" 9 601024 7293034) (hY : Y.2.2.1 = 7) (Zs : kS X.2.2.2.2.1 Y.2.1) (hfX : X.2.1.flags = pinnedFlags ++ [noTraceFlag]) (b a N i : Nat) (xs : Nat → Int32) (hX : SCR X Y b N xs) (hN : N ≤ 2560) (hi5 : i + 5 ≤ N) (NX : LQ X Y b a i) (c : Nat) (s : Bool) (K F : Nat → Nat) (L : Nat → kV) (kr : List Nat) (m : Nat) (KT : Nat → Nat → kV) (lo hi : List Nat) (he : Bool) (th : Int32) (g0 : Nat → Int64) (w : ww) (n : Nat) (hL : LI Y.1 w n a g0 th c s K F L kr m KT lo hi he) : AW X Y 225 [(0, .ref b), (1, .ref a), (2, .ref (a + 208)), (3, .ref (a + 222)), (4, .int (nI i))] [] w n (300 + i) (6000 + 4 * i) := by
  obtain ⟨D, A, nL, Q⟩ := Y
  have hY : nL = 7 := hY
  subst hY
  obtain ⟨hC, hM, ho, hn⟩ := hL
  have hV := hC.VI.1
  have hc5 := hC.VI.2.1
  have hm12 := hC.VI.2.2
  refine a_aload_n S d_Law_law_225 rfl rfl ?_
  refine a_callV S (rest := []) lg_Law_45 hC.cell (c_Kc_clear X.2.1 D a c s K F L kr m KT lo hi he  w n hC) (by decide) (by omega) (by omega) rfl (Nat.le_of_ble_eq_true rfl) d_Law_law_226 (fun v1 w2 n3 p4 => ?_)
  obtain ⟨rfl, e6, f5, hC⟩ := p4
  rw [e6]
  refine a_st (st' := []) rfl ?_
  have ho := Fr.cell f5 ho (by omega)
  have hM := hM.mv (fun q z1 z2 => f5 q (by omega))
  refine a_aload_n S d_Law_law_229 rfl rfl ?_
  refine a_callV S (rest := []) lg_Law_48 hM.cell.choose_spec (c_Mod_clear X.2.1 D (a + 208) th c s K F L kr m KT lo hi he  w2 n hM) (by decide) (by omega) (by omega) rfl (Nat.le_of_ble_eq_true rfl) d_Law_law_230 (fun v8 w9 n10 p11 => ?_)
  obtain ⟨rfl, e13, f12, hM⟩ := p11
  rw [e13]
  refine a_st (st' := []) rfl ?_
  have ho := Fr.cell f12 ho (by omega)
  have hC := hC.mv (fun q z1 z2 => f12 q (by omega))
  refine a_goto S (tgt := 983) d_Law_law_233 rfl ?_
  refine a_lv [0, 1, 2, 3, 4] (lv' := [(0, .ref b), (1, .ref a), (2, .ref (a + 208)), (3, .ref (a + 222)), (4, .int (nI i))]) rfl ?_
  exact NX 0 false K F (fun _ => (false, 0, 0, [])) ([]) 0 KT lo hi he 0 _ _ _ _ _ ⟨hC, hM, ho, by omega⟩ (by omega) (by omega)
set_option maxHeartbeats 1000000 in
set_option maxRecDepth 100000 in
theorem op_clearKey {X : MX} {Y : kY} (S : FX X Y code "KeyCodecLaw" 9 601024 7293034) (hY : Y.2.2.1 = 7) (Zs : kS X.2.2.2.2.1 Y.2.1) (hfX : X.2.1.flags = pinnedFlags ++ [noTraceFlag]) (b a N i : Nat) (xs : Nat → Int32) (hX : SCR X Y b N xs) (hN : N ≤ 2560) (hi5 : i + 5 ≤ N) (NX : LQ X Y b a i) (c : Nat) (s : Bool) (K F : Nat → Nat) (L : Nat → kV) (kr : List Nat) (m : Nat) (KT : Nat → Nat → kV) (lo hi : List Nat) (he : Bool) (th : Int32) (g0 : Nat → Int64) (w : ww) (n : Nat) (hL : LI Y.1 w n a g0 th c s K F L kr m KT lo hi he) : AW X Y 530 [(0, .ref b), (1, .ref a), (2, .ref (a + 208)), (3, .ref (a + 222)), (4, .int (nI i))] [] w n (300 + i) (6000 + 4 * i) := by
  obtain ⟨D, A, nL, Q⟩ := Y
  have hY : nL = 7 := hY
  subst hY
  obtain ⟨hC, hM, ho, hn⟩ := hL
  have hV := hC.VI.1
  have hc5 := hC.VI.2.1
  have hm12 := hC.VI.2.2
  refine a_aload_n S d_Law_law_530 rfl rfl ?_
  refine a_callV S (rest := []) lg_Law_80 hC.cell (c_Kc_clearKey X.2.1 D a c s K F L kr m KT lo hi he  w n hC) (by decide) (by omega) (by omega) rfl (Nat.le_of_ble_eq_true rfl) d_Law_law_531 (fun v1 w2 n3 p4 => ?_)
  obtain ⟨rfl, e6, f5, hC⟩ := p4
  rw [e6]
  refine a_st (st' := []) rfl ?_
  have ho := Fr.cell f5 ho (by omega)
  have hM := hM.mv (fun q z1 z2 => f5 q (by omega))
  refine a_aload_n S d_Law_law_534 rfl rfl ?_
  refine a_callV S (rest := []) lg_Law_83 hM.cell.choose_spec (c_Mod_clearKey X.2.1 D (a + 208) th c s K F L kr m KT lo hi he  w2 n hM) (by decide) (by omega) (by omega) rfl (Nat.le_of_ble_eq_true rfl) d_Law_law_535 (fun v8 w9 n10 p11 => ?_)
  obtain ⟨rfl, e13, f12, hM⟩ := p11
  rw [e13]
  refine a_st (st' := []) rfl ?_
  have ho := Fr.cell f12 ho (by omega)
  have hC := hC.mv (fun q z1 z2 => f12 q (by omega))
  refine a_goto S (tgt := 983) d_Law_law_538 rfl ?_
  refine a_lv [0, 1, 2, 3, 4] (lv' := [(0, .ref b), (1, .ref a), (2, .ref (a + 208)), (3, .ref (a + 222)), (4, .int (nI i))]) rfl ?_
  exact NX c s K F L ([]) m KT lo hi he 0 _ _ _ _ _ ⟨hC, hM, ho, by omega⟩ (by omega) (by omega)
set_option maxHeartbeats 1000000 in
set_option maxRecDepth 100000 in
theorem op_put {X : MX} {Y : kY} (S : FX X Y code "KeyCodecLaw" 9 601024 7293034) (hY : Y.2.2.1 = 7) (Zs : kS X.2.2.2.2.1 Y.2.1) (hfX : X.2.1.flags = pinnedFlags ++ [noTraceFlag]) (b a N i : Nat) (xs : Nat → Int32) (hX : SCR X Y b N xs) (hN : N ≤ 2560) (hi5 : i + 5 ≤ N) (NX : LQ X Y b a i) (c : Nat) (s : Bool) (K F : Nat → Nat) (L : Nat → kV) (kr : List Nat) (m : Nat) (KT : Nat → Nat → kV) (lo hi : List Nat) (he : Bool) (th : Int32) (g0 : Nat → Int64) (w : ww) (n : Nat) (hL : LI Y.1 w n a g0 th c s K F L kr m KT lo hi he) : AW X Y 236 [(0, .ref b), (1, .ref a), (2, .ref (a + 208)), (3, .ref (a + 222)), (4, .int (nI i))] [] w n (300 + i) (6000 + 4 * i) := by
  obtain ⟨D, A, nL, Q⟩ := Y
  have hY : nL = 7 := hY
  subst hY
  obtain ⟨hC, hM, ho, hn⟩ := hL
  have hV := hC.VI.1
  have hc5 := hC.VI.2.1
  have hm12 := hC.VI.2.2
  refine a_aload_n S d_Law_law_236 rfl rfl ?_
  refine a_aload_n S d_Law_law_237 rfl rfl ?_
  refine a_iload S d_Law_law_238 rfl ?_
  refine a_iconst S (v := 1) d_Law_law_240 (by decide) ?_
  refine a_iadd S d_Law_law_241 ?_
  refine a_eqi (y := nI (i + 1)) (ni_add rfl rfl) ?_
  refine a_sld S (i := i + 1) hX rfl (by omega) d_Law_law_242 ?_
  refine a_aload_n S d_Law_law_243 rfl rfl ?_
  refine a_iload S d_Law_law_244 rfl ?_
  refine a_iconst S (v := 2) d_Law_law_246 (by decide) ?_
  refine a_iadd S d_Law_law_247 ?_
  refine a_eqi (y := nI (i + 2)) (ni_add rfl rfl) ?_
  refine a_sld S (i := i + 2) hX rfl (by omega) d_Law_law_248 ?_
  refine a_i2l S d_Law_law_249 ?_
  refine a_bipush S (v := 32) d_Law_law_250 (by decide) ?_
  refine a_lshl S d_Law_law_252 rfl ?_
  refine a_eql (y := ((xs (i + 2)).toInt64 <<< ((32 : Int32).toInt64 &&& 63))) rfl ?_
  refine a_aload_n S d_Law_law_253 rfl rfl ?_
  refine a_iload S d_Law_law_254 rfl ?_
  refine a_iconst S (v := 3) d_Law_law_256 (by decide) ?_
  refine a_iadd S d_Law_law_257 ?_
  refine a_eqi (y := nI (i + 3)) (ni_add rfl rfl) ?_
  refine a_sld S (i := i + 3) hX rfl (by omega) d_Law_law_258 ?_
  refine a_i2l S d_Law_law_259 ?_
  refine a_ldc2 S (v := 4294967295) lK_Law_49 d_Law_law_260 ?_
  refine a_land S d_Law_law_263 ?_
  refine a_lor S d_Law_law_264 ?_
  refine a_aload_n S d_Law_law_265 rfl rfl ?_
  refine a_iload S d_Law_law_266 rfl ?_
  refine a_iconst S (v := 4) d_Law_law_268 (by decide) ?_
  refine a_iadd S d_Law_law_269 ?_
  refine a_eqi (y := nI (i + 4)) (ni_add rfl rfl) ?_
  refine a_sld S (i := i + 4) hX rfl (by omega) d_Law_law_270 ?_
  refine a_callV S (rest := []) lg_Law_51 hC.cell (c_Kc_put X.2.1 D a c s K F L kr m KT lo hi he (xs (i + 1)) (((xs (i + 2)).toInt64 <<< ((32 : Int32).toInt64 &&& 63)) ||| ((xs (i + 3)).toInt64 &&& 4294967295)) (xs (i + 4)) w n hC) (by decide) (by omega) (by omega) rfl (Nat.le_of_ble_eq_true rfl) d_Law_law_271 (fun v1 w2 n3 p4 => ?_)
  rcases p4 with ⟨j, hj, hs1, e1, hp0, rfl, e6, f5, hC⟩ | ⟨gx, rfl, e7, e6⟩
  · rw [e6]
    refine a_st (st' := [.int 1]) rfl ?_
    have ho := Fr.cell f5 ho (by omega)
    have hM := hM.mv (fun q z1 z2 => f5 q (by omega))
    refine a_aload_n S d_Law_law_274 rfl rfl ?_
    refine a_aload_n S d_Law_law_275 rfl rfl ?_
    refine a_iload S d_Law_law_276 rfl ?_
    refine a_iconst S (v := 1) d_Law_law_278 (by decide) ?_
    refine a_iadd S d_Law_law_279 ?_
    refine a_eqi (y := nI (i + 1)) (ni_add rfl rfl) ?_
    refine a_sld S (i := i + 1) hX rfl (by omega) d_Law_law_280 ?_
    refine a_aload_n S d_Law_law_281 rfl rfl ?_
    refine a_iload S d_Law_law_282 rfl ?_
    refine a_iconst S (v := 2) d_Law_law_284 (by decide) ?_
    refine a_iadd S d_Law_law_285 ?_
    refine a_eqi (y := nI (i + 2)) (ni_add rfl rfl) ?_
    refine a_sld S (i := i + 2) hX rfl (by omega) d_Law_law_286 ?_
    refine a_i2l S d_Law_law_287 ?_
    refine a_bipush S (v := 32) d_Law_law_288 (by decide) ?_
    refine a_lshl S d_Law_law_290 rfl ?_
    refine a_eql (y := ((xs (i + 2)).toInt64 <<< ((32 : Int32).toInt64 &&& 63))) rfl ?_
    refine a_aload_n S d_Law_law_291 rfl rfl ?_
    refine a_iload S d_Law_law_292 rfl ?_
    refine a_iconst S (v := 3) d_Law_law_294 (by decide) ?_
    refine a_iadd S d_Law_law_295 ?_
    refine a_eqi (y := nI (i + 3)) (ni_add rfl rfl) ?_
    refine a_sld S (i := i + 3) hX rfl (by omega) d_Law_law_296 ?_
    refine a_i2l S d_Law_law_297 ?_
    refine a_ldc2 S (v := 4294967295) lK_Law_49 d_Law_law_298 ?_
    refine a_land S d_Law_law_301 ?_
    refine a_lor S d_Law_law_302 ?_
    refine a_aload_n S d_Law_law_303 rfl rfl ?_
    refine a_iload S d_Law_law_304 rfl ?_
    refine a_iconst S (v := 4) d_Law_law_306 (by decide) ?_
    refine a_iadd S d_Law_law_307 ?_
    refine a_eqi (y := nI (i + 4)) (ni_add rfl rfl) ?_
    refine a_sld S (i := i + 4) hX rfl (by omega) d_Law_law_308 ?_
    refine a_callV S (rest := [_]) lg_Law_55 hM.cell.choose_spec (c_Mod_put X.2.1 D (a + 208) th c s K F L kr m KT lo hi he (xs (i + 1)) (((xs (i + 2)).toInt64 <<< ((32 : Int32).toInt64 &&& 63)) ||| ((xs (i + 3)).toInt64 &&& 4294967295)) (xs (i + 4)) w2 n hM) (by decide) (by omega) (by omega) rfl (Nat.le_of_ble_eq_true rfl) d_Law_law_309 (fun v8 w9 n10 p11 => ?_)
    rcases p11 with ⟨j2, hj2, gs1, e2, hq0, rfl, e13, f12, hM⟩ | ⟨gm, rfl, e13, f12, hM⟩
    · rw [e13]
      refine a_st (st' := [.int 1, .int 1]) rfl ?_
      have ho := Fr.cell f12 ho (by omega)
      have hC := hC.mv (fun q z1 z2 => f12 q (by omega))
      obtain rfl : j = j2 := (nI_eq (by omega) (by omega)).mp (e1.symm.trans e2)
      refine a_icmp_eq S (tgt := 983) d_Law_law_312 rfl (fun h312 => ?_) (fun h312 => ?_)
      · refine a_lv [0, 1, 2, 3, 4] (lv' := [(0, .ref b), (1, .ref a), (2, .ref (a + 208)), (3, .ref (a + 222)), (4, .int (nI i))]) rfl ?_
        exact NX c s K F (va_up L j (false, (((xs (i + 2)).toInt64 <<< ((32 : Int32).toInt64 &&& 63)) ||| ((xs (i + 3)).toInt64 &&& 4294967295)), xs (i + 4), [])) kr m KT lo hi he 0 _ _ _ _ _ ⟨hC, hM, ho, by omega⟩ (by omega) (by omega)
      · exact absurd (by decide) h312
    · rw [e13]
      refine a_st (st' := [.int 0, .int 1]) rfl ?_
      have ho := Fr.cell f12 ho (by omega)
      have hC := hC.mv (fun q z1 z2 => f12 q (by omega))
      exact (gm j hj hs1 e1 hp0).elim
  · rw [e7, e6]
    refine a_st (st' := [.int 0]) rfl ?_
    refine a_aload_n S d_Law_law_274 rfl rfl ?_
    refine a_aload_n S d_Law_law_275 rfl rfl ?_
    refine a_iload S d_Law_law_276 rfl ?_
    refine a_iconst S (v := 1) d_Law_law_278 (by decide) ?_
    refine a_iadd S d_Law_law_279 ?_
    refine a_eqi (y := nI (i + 1)) (ni_add rfl rfl) ?_
    refine a_sld S (i := i + 1) hX rfl (by omega) d_Law_law_280 ?_
    refine a_aload_n S d_Law_law_281 rfl rfl ?_
    refine a_iload S d_Law_law_282 rfl ?_
    refine a_iconst S (v := 2) d_Law_law_284 (by decide) ?_
    refine a_iadd S d_Law_law_285 ?_
    refine a_eqi (y := nI (i + 2)) (ni_add rfl rfl) ?_
    refine a_sld S (i := i + 2) hX rfl (by omega) d_Law_law_286 ?_
    refine a_i2l S d_Law_law_287 ?_
    refine a_bipush S (v := 32) d_Law_law_288 (by decide) ?_
    refine a_lshl S d_Law_law_290 rfl ?_
    refine a_eql (y := ((xs (i + 2)).toInt64 <<< ((32 : Int32).toInt64 &&& 63))) rfl ?_
    refine a_aload_n S d_Law_law_291 rfl rfl ?_
    refine a_iload S d_Law_law_292 rfl ?_
    refine a_iconst S (v := 3) d_Law_law_294 (by decide) ?_
    refine a_iadd S d_Law_law_295 ?_
    refine a_eqi (y := nI (i + 3)) (ni_add rfl rfl) ?_
    refine a_sld S (i := i + 3) hX rfl (by omega) d_Law_law_296 ?_
    refine a_i2l S d_Law_law_297 ?_
    refine a_ldc2 S (v := 4294967295) lK_Law_49 d_Law_law_298 ?_
    refine a_land S d_Law_law_301 ?_
    refine a_lor S d_Law_law_302 ?_
    refine a_aload_n S d_Law_law_303 rfl rfl ?_
    refine a_iload S d_Law_law_304 rfl ?_
    refine a_iconst S (v := 4) d_Law_law_306 (by decide) ?_
    refine a_iadd S d_Law_law_307 ?_
    refine a_eqi (y := nI (i + 4)) (ni_add rfl rfl) ?_
    refine a_sld S (i := i + 4) hX rfl (by omega) d_Law_law_308 ?_
    refine a_callV S (rest := [_]) lg_Law_55 hM.cell.choose_spec (c_Mod_put X.2.1 D (a + 208) th c s K F L kr m KT lo hi he (xs (i + 1)) (((xs (i + 2)).toInt64 <<< ((32 : Int32).toInt64 &&& 63)) ||| ((xs (i + 3)).toInt64 &&& 4294967295)) (xs (i + 4)) w n hM) (by decide) (by omega) (by omega) rfl (Nat.le_of_ble_eq_true rfl) d_Law_law_309 (fun v15 w16 n17 p18 => ?_)
    rcases p18 with ⟨j2, hj2, gs1, e2, hq0, rfl, e20, f19, hM⟩ | ⟨gm, rfl, e20, f19, hM⟩
    · rw [e20]
      refine a_st (st' := [.int 1, .int 0]) rfl ?_
      have ho := Fr.cell f19 ho (by omega)
      have hC := hC.mv (fun q z1 z2 => f19 q (by omega))
      exact (gx j2 hj2 gs1 e2 hq0).elim
    · rw [e20]
      refine a_st (st' := [.int 0, .int 0]) rfl ?_
      have ho := Fr.cell f19 ho (by omega)
      have hC := hC.mv (fun q z1 z2 => f19 q (by omega))
      refine a_icmp_eq S (tgt := 983) d_Law_law_312 rfl (fun h312 => ?_) (fun h312 => ?_)
      · refine a_lv [0, 1, 2, 3, 4] (lv' := [(0, .ref b), (1, .ref a), (2, .ref (a + 208)), (3, .ref (a + 222)), (4, .int (nI i))]) rfl ?_
        exact NX c s K F L kr m KT lo hi he 0 _ _ _ _ _ ⟨hC, hM, ho, by omega⟩ (by omega) (by omega)
      · exact absurd (by decide) h312
set_option maxHeartbeats 1000000 in
set_option maxRecDepth 100000 in
theorem op_text {X : MX} {Y : kY} (S : FX X Y code "KeyCodecLaw" 9 601024 7293034) (hY : Y.2.2.1 = 7) (Zs : kS X.2.2.2.2.1 Y.2.1) (hfX : X.2.1.flags = pinnedFlags ++ [noTraceFlag]) (b a N i : Nat) (xs : Nat → Int32) (hX : SCR X Y b N xs) (hN : N ≤ 2560) (hi5 : i + 5 ≤ N) (NX : LQ X Y b a i) (c : Nat) (s : Bool) (K F : Nat → Nat) (L : Nat → kV) (kr : List Nat) (m : Nat) (KT : Nat → Nat → kV) (lo hi : List Nat) (he : Bool) (th : Int32) (g0 : Nat → Int64) (w : ww) (n : Nat) (hL : LI Y.1 w n a g0 th c s K F L kr m KT lo hi he) : AW X Y 317 [(0, .ref b), (1, .ref a), (2, .ref (a + 208)), (3, .ref (a + 222)), (4, .int (nI i))] [] w n (300 + i) (6000 + 4 * i) := by
  obtain ⟨D, A, nL, Q⟩ := Y
  have hY : nL = 7 := hY
  subst hY
  obtain ⟨hC, hM, ho, hn⟩ := hL
  have hV := hC.VI.1
  have hc5 := hC.VI.2.1
  have hm12 := hC.VI.2.2
  refine a_aload_n S d_Law_law_317 rfl rfl ?_
  refine a_aload_n S d_Law_law_318 rfl rfl ?_
  refine a_iload S d_Law_law_319 rfl ?_
  refine a_iconst S (v := 1) d_Law_law_321 (by decide) ?_
  refine a_iadd S d_Law_law_322 ?_
  refine a_eqi (y := nI (i + 1)) (ni_add rfl rfl) ?_
  refine a_sld S (i := i + 1) hX rfl (by omega) d_Law_law_323 ?_
  refine a_aload_n S d_Law_law_324 rfl rfl ?_
  refine a_iload S d_Law_law_325 rfl ?_
  refine a_iconst S (v := 2) d_Law_law_327 (by decide) ?_
  refine a_iadd S d_Law_law_328 ?_
  refine a_eqi (y := nI (i + 2)) (ni_add rfl rfl) ?_
  refine a_sld S (i := i + 2) hX rfl (by omega) d_Law_law_329 ?_
  refine a_callV S (rest := []) lg_Law_56 hC.cell (c_Kc_text X.2.1 D a c s K F L kr m KT lo hi he (xs (i + 1)) (xs (i + 2)) w n hC) (by decide) (by omega) (by omega) rfl (Nat.le_of_ble_eq_true rfl) d_Law_law_330 (fun v1 w2 n3 p4 => ?_)
  rcases p4 with ⟨j, hj, hs1, e1, hp0, hp1, rfl, e6, f5, hC⟩ | ⟨gx, rfl, e6, f5, hC⟩
  · rw [e6]
    refine a_st (st' := [.int 1]) rfl ?_
    have ho := Fr.cell f5 ho (by omega)
    have hM := hM.mv (fun q z1 z2 => f5 q (by omega))
    refine a_aload_n S d_Law_law_333 rfl rfl ?_
    refine a_aload_n S d_Law_law_334 rfl rfl ?_
    refine a_iload S d_Law_law_335 rfl ?_
    refine a_iconst S (v := 1) d_Law_law_337 (by decide) ?_
    refine a_iadd S d_Law_law_338 ?_
    refine a_eqi (y := nI (i + 1)) (ni_add rfl rfl) ?_
    refine a_sld S (i := i + 1) hX rfl (by omega) d_Law_law_339 ?_
    refine a_aload_n S d_Law_law_340 rfl rfl ?_
    refine a_iload S d_Law_law_341 rfl ?_
    refine a_iconst S (v := 2) d_Law_law_343 (by decide) ?_
    refine a_iadd S d_Law_law_344 ?_
    refine a_eqi (y := nI (i + 2)) (ni_add rfl rfl) ?_
    refine a_sld S (i := i + 2) hX rfl (by omega) d_Law_law_345 ?_
    refine a_callV S (rest := [_]) lg_Law_60 hM.cell.choose_spec (c_Mod_text X.2.1 D (a + 208) th c s K F L kr m KT lo hi he (xs (i + 1)) (xs (i + 2)) w2 n hV hM) (by decide) (by omega) (by omega) rfl (Nat.le_of_ble_eq_true rfl) d_Law_law_346 (fun v8 w9 n10 p11 => ?_)
    rcases p11 with ⟨j2, hj2, gs1, e2, hq0, hq1, rfl, e13, f12, hM⟩ | ⟨gm, rfl, e13, f12, hM⟩
    · rw [e13]
      refine a_st (st' := [.int 1, .int 1]) rfl ?_
      have ho := Fr.cell f12 ho (by omega)
      have hC := hC.mv (fun q z1 z2 => f12 q (by omega))
      obtain rfl : j = j2 := (nI_eq (by omega) (by omega)).mp (e1.symm.trans e2)
      refine a_icmp_eq S (tgt := 983) d_Law_law_349 rfl (fun h349 => ?_) (fun h349 => ?_)
      · refine a_lv [0, 1, 2, 3, 4] (lv' := [(0, .ref b), (1, .ref a), (2, .ref (a + 208)), (3, .ref (a + 222)), (4, .int (nI i))]) rfl ?_
        exact NX c s K F (va_up L j (false, (L j).2.1, (L j).2.2.1, (L j).2.2.2 ++ [by8 (xs (i + 2))])) kr m KT lo hi he 0 _ _ _ _ _ ⟨hC, hM, ho, by omega⟩ (by omega) (by omega)
      · exact absurd (by decide) h349
    · rw [e13]
      refine a_st (st' := [.int 0, .int 1]) rfl ?_
      have ho := Fr.cell f12 ho (by omega)
      have hC := hC.mv (fun q z1 z2 => f12 q (by omega))
      exact (gm j hj hs1 e1 hp0 hp1).elim
  · rw [e6]
    refine a_st (st' := [.int 0]) rfl ?_
    have ho := Fr.cell f5 ho (by omega)
    have hM := hM.mv (fun q z1 z2 => f5 q (by omega))
    refine a_aload_n S d_Law_law_333 rfl rfl ?_
    refine a_aload_n S d_Law_law_334 rfl rfl ?_
    refine a_iload S d_Law_law_335 rfl ?_
    refine a_iconst S (v := 1) d_Law_law_337 (by decide) ?_
    refine a_iadd S d_Law_law_338 ?_
    refine a_eqi (y := nI (i + 1)) (ni_add rfl rfl) ?_
    refine a_sld S (i := i + 1) hX rfl (by omega) d_Law_law_339 ?_
    refine a_aload_n S d_Law_law_340 rfl rfl ?_
    refine a_iload S d_Law_law_341 rfl ?_
    refine a_iconst S (v := 2) d_Law_law_343 (by decide) ?_
    refine a_iadd S d_Law_law_344 ?_
    refine a_eqi (y := nI (i + 2)) (ni_add rfl rfl) ?_
    refine a_sld S (i := i + 2) hX rfl (by omega) d_Law_law_345 ?_
    refine a_callV S (rest := [_]) lg_Law_60 hM.cell.choose_spec (c_Mod_text X.2.1 D (a + 208) th c s K F L kr m KT lo hi he (xs (i + 1)) (xs (i + 2)) w2 n hV hM) (by decide) (by omega) (by omega) rfl (Nat.le_of_ble_eq_true rfl) d_Law_law_346 (fun v15 w16 n17 p18 => ?_)
    rcases p18 with ⟨j2, hj2, gs1, e2, hq0, hq1, rfl, e20, f19, hM⟩ | ⟨gm, rfl, e20, f19, hM⟩
    · rw [e20]
      refine a_st (st' := [.int 1, .int 0]) rfl ?_
      have ho := Fr.cell f19 ho (by omega)
      have hC := hC.mv (fun q z1 z2 => f19 q (by omega))
      exact (gx j2 hj2 gs1 e2 hq0 hq1).elim
    · rw [e20]
      refine a_st (st' := [.int 0, .int 0]) rfl ?_
      have ho := Fr.cell f19 ho (by omega)
      have hC := hC.mv (fun q z1 z2 => f19 q (by omega))
      refine a_icmp_eq S (tgt := 983) d_Law_law_349 rfl (fun h349 => ?_) (fun h349 => ?_)
      · refine a_lv [0, 1, 2, 3, 4] (lv' := [(0, .ref b), (1, .ref a), (2, .ref (a + 208)), (3, .ref (a + 222)), (4, .int (nI i))]) rfl ?_
        exact NX c s K F L kr m KT lo hi he 0 _ _ _ _ _ ⟨hC, hM, ho, by omega⟩ (by omega) (by omega)
      · exact absurd (by decide) h349
set_option maxHeartbeats 1000000 in
set_option maxRecDepth 100000 in
theorem op_absent {X : MX} {Y : kY} (S : FX X Y code "KeyCodecLaw" 9 601024 7293034) (hY : Y.2.2.1 = 7) (Zs : kS X.2.2.2.2.1 Y.2.1) (hfX : X.2.1.flags = pinnedFlags ++ [noTraceFlag]) (b a N i : Nat) (xs : Nat → Int32) (hX : SCR X Y b N xs) (hN : N ≤ 2560) (hi5 : i + 5 ≤ N) (NX : LQ X Y b a i) (c : Nat) (s : Bool) (K F : Nat → Nat) (L : Nat → kV) (kr : List Nat) (m : Nat) (KT : Nat → Nat → kV) (lo hi : List Nat) (he : Bool) (th : Int32) (g0 : Nat → Int64) (w : ww) (n : Nat) (hL : LI Y.1 w n a g0 th c s K F L kr m KT lo hi he) : AW X Y 354 [(0, .ref b), (1, .ref a), (2, .ref (a + 208)), (3, .ref (a + 222)), (4, .int (nI i))] [] w n (300 + i) (6000 + 4 * i) := by
  obtain ⟨D, A, nL, Q⟩ := Y
  have hY : nL = 7 := hY
  subst hY
  obtain ⟨hC, hM, ho, hn⟩ := hL
  have hV := hC.VI.1
  have hc5 := hC.VI.2.1
  have hm12 := hC.VI.2.2
  refine a_aload_n S d_Law_law_354 rfl rfl ?_
  refine a_aload_n S d_Law_law_355 rfl rfl ?_
  refine a_iload S d_Law_law_356 rfl ?_
  refine a_iconst S (v := 1) d_Law_law_358 (by decide) ?_
  refine a_iadd S d_Law_law_359 ?_
  refine a_eqi (y := nI (i + 1)) (ni_add rfl rfl) ?_
  refine a_sld S (i := i + 1) hX rfl (by omega) d_Law_law_360 ?_
  refine a_callV S (rest := []) lg_Law_61 hC.cell (c_Kc_absent X.2.1 D a c s K F L kr m KT lo hi he (xs (i + 1)) w n hC) (by decide) (by omega) (by omega) rfl (Nat.le_of_ble_eq_true rfl) d_Law_law_361 (fun v1 w2 n3 p4 => ?_)
  rcases p4 with ⟨j, hj, hs1, e1, hp0, rfl, e6, f5, hC⟩ | ⟨gx, rfl, e7, e6⟩
  · rw [e6]
    refine a_st (st' := [.int 1]) rfl ?_
    have ho := Fr.cell f5 ho (by omega)
    have hM := hM.mv (fun q z1 z2 => f5 q (by omega))
    refine a_aload_n S d_Law_law_364 rfl rfl ?_
    refine a_aload_n S d_Law_law_365 rfl rfl ?_
    refine a_iload S d_Law_law_366 rfl ?_
    refine a_iconst S (v := 1) d_Law_law_368 (by decide) ?_
    refine a_iadd S d_Law_law_369 ?_
    refine a_eqi (y := nI (i + 1)) (ni_add rfl rfl) ?_
    refine a_sld S (i := i + 1) hX rfl (by omega) d_Law_law_370 ?_
    refine a_callV S (rest := [_]) lg_Law_65 hM.cell.choose_spec (c_Mod_absent X.2.1 D (a + 208) th c s K F L kr m KT lo hi he (xs (i + 1)) w2 n hM) (by decide) (by omega) (by omega) rfl (Nat.le_of_ble_eq_true rfl) d_Law_law_371 (fun v8 w9 n10 p11 => ?_)
    rcases p11 with ⟨j2, hj2, gs1, e2, hq0, rfl, e13, f12, hM⟩ | ⟨gm, rfl, e13, f12, hM⟩
    · rw [e13]
      refine a_st (st' := [.int 1, .int 1]) rfl ?_
      have ho := Fr.cell f12 ho (by omega)
      have hC := hC.mv (fun q z1 z2 => f12 q (by omega))
      obtain rfl : j = j2 := (nI_eq (by omega) (by omega)).mp (e1.symm.trans e2)
      refine a_icmp_eq S (tgt := 983) d_Law_law_374 rfl (fun h374 => ?_) (fun h374 => ?_)
      · refine a_lv [0, 1, 2, 3, 4] (lv' := [(0, .ref b), (1, .ref a), (2, .ref (a + 208)), (3, .ref (a + 222)), (4, .int (nI i))]) rfl ?_
        exact NX c s K F (va_up L j (true, 0, 0, [])) kr m KT lo hi he 0 _ _ _ _ _ ⟨hC, hM, ho, by omega⟩ (by omega) (by omega)
      · exact absurd (by decide) h374
    · rw [e13]
      refine a_st (st' := [.int 0, .int 1]) rfl ?_
      have ho := Fr.cell f12 ho (by omega)
      have hC := hC.mv (fun q z1 z2 => f12 q (by omega))
      exact (gm j hj hs1 e1 hp0).elim
  · rw [e7, e6]
    refine a_st (st' := [.int 0]) rfl ?_
    refine a_aload_n S d_Law_law_364 rfl rfl ?_
    refine a_aload_n S d_Law_law_365 rfl rfl ?_
    refine a_iload S d_Law_law_366 rfl ?_
    refine a_iconst S (v := 1) d_Law_law_368 (by decide) ?_
    refine a_iadd S d_Law_law_369 ?_
    refine a_eqi (y := nI (i + 1)) (ni_add rfl rfl) ?_
    refine a_sld S (i := i + 1) hX rfl (by omega) d_Law_law_370 ?_
    refine a_callV S (rest := [_]) lg_Law_65 hM.cell.choose_spec (c_Mod_absent X.2.1 D (a + 208) th c s K F L kr m KT lo hi he (xs (i + 1)) w n hM) (by decide) (by omega) (by omega) rfl (Nat.le_of_ble_eq_true rfl) d_Law_law_371 (fun v15 w16 n17 p18 => ?_)
    rcases p18 with ⟨j2, hj2, gs1, e2, hq0, rfl, e20, f19, hM⟩ | ⟨gm, rfl, e20, f19, hM⟩
    · rw [e20]
      refine a_st (st' := [.int 1, .int 0]) rfl ?_
      have ho := Fr.cell f19 ho (by omega)
      have hC := hC.mv (fun q z1 z2 => f19 q (by omega))
      exact (gx j2 hj2 gs1 e2 hq0).elim
    · rw [e20]
      refine a_st (st' := [.int 0, .int 0]) rfl ?_
      have ho := Fr.cell f19 ho (by omega)
      have hC := hC.mv (fun q z1 z2 => f19 q (by omega))
      refine a_icmp_eq S (tgt := 983) d_Law_law_374 rfl (fun h374 => ?_) (fun h374 => ?_)
      · refine a_lv [0, 1, 2, 3, 4] (lv' := [(0, .ref b), (1, .ref a), (2, .ref (a + 208)), (3, .ref (a + 222)), (4, .int (nI i))]) rfl ?_
        exact NX c s K F L kr m KT lo hi he 0 _ _ _ _ _ ⟨hC, hM, ho, by omega⟩ (by omega) (by omega)
      · exact absurd (by decide) h374
set_option maxHeartbeats 1000000 in
set_option maxRecDepth 100000 in
theorem op_get {X : MX} {Y : kY} (S : FX X Y code "KeyCodecLaw" 9 601024 7293034) (hY : Y.2.2.1 = 7) (Zs : kS X.2.2.2.2.1 Y.2.1) (hfX : X.2.1.flags = pinnedFlags ++ [noTraceFlag]) (b a N i : Nat) (xs : Nat → Int32) (hX : SCR X Y b N xs) (hN : N ≤ 2560) (hi5 : i + 5 ≤ N) (NX : LQ X Y b a i) (c : Nat) (s : Bool) (K F : Nat → Nat) (L : Nat → kV) (kr : List Nat) (m : Nat) (KT : Nat → Nat → kV) (lo hi : List Nat) (he : Bool) (th : Int32) (g0 : Nat → Int64) (w : ww) (n : Nat) (hL : LI Y.1 w n a g0 th c s K F L kr m KT lo hi he) : AW X Y 379 [(0, .ref b), (1, .ref a), (2, .ref (a + 208)), (3, .ref (a + 222)), (4, .int (nI i))] [] w n (300 + i) (6000 + 4 * i) := by
  obtain ⟨D, A, nL, Q⟩ := Y
  have hY : nL = 7 := hY
  subst hY
  obtain ⟨hC, hM, ho, hn⟩ := hL
  have hV := hC.VI.1
  have hc5 := hC.VI.2.1
  have hm12 := hC.VI.2.2
  refine a_aload_n S d_Law_law_379 rfl rfl ?_
  refine a_aload_n S d_Law_law_380 rfl rfl ?_
  refine a_iload S d_Law_law_381 rfl ?_
  refine a_iconst S (v := 1) d_Law_law_383 (by decide) ?_
  refine a_iadd S d_Law_law_384 ?_
  refine a_eqi (y := nI (i + 1)) (ni_add rfl rfl) ?_
  refine a_sld S (i := i + 1) hX rfl (by omega) d_Law_law_385 ?_
  refine a_aload_n S d_Law_law_386 rfl rfl ?_
  refine a_iload S d_Law_law_387 rfl ?_
  refine a_iconst S (v := 2) d_Law_law_389 (by decide) ?_
  refine a_iadd S d_Law_law_390 ?_
  refine a_eqi (y := nI (i + 2)) (ni_add rfl rfl) ?_
  refine a_sld S (i := i + 2) hX rfl (by omega) d_Law_law_391 ?_
  refine a_callV S (rest := []) lg_Law_66 hC.cell (c_Kc_get X.2.1 D a c s K F L kr m KT lo hi he (xs (i + 1)) (xs (i + 2)) w n hC) (by decide) (by omega) (by omega) rfl (Nat.le_of_ble_eq_true rfl) d_Law_law_392 (fun v1 w2 n3 p4 => ?_)
  rcases p4 with ⟨⟨j, hj, hs1, e1, hp0, rfl⟩ | ⟨gx, rfl⟩, e7, e6⟩
  · rw [e7, e6]
    refine a_st (st' := [.long (gtV (K j) (L j) (xs (i + 2)))]) rfl ?_
    refine a_aload_n S d_Law_law_395 rfl rfl ?_
    refine a_aload_n S d_Law_law_396 rfl rfl ?_
    refine a_iload S d_Law_law_397 rfl ?_
    refine a_iconst S (v := 1) d_Law_law_399 (by decide) ?_
    refine a_iadd S d_Law_law_400 ?_
    refine a_eqi (y := nI (i + 1)) (ni_add rfl rfl) ?_
    refine a_sld S (i := i + 1) hX rfl (by omega) d_Law_law_401 ?_
    refine a_aload_n S d_Law_law_402 rfl rfl ?_
    refine a_iload S d_Law_law_403 rfl ?_
    refine a_iconst S (v := 2) d_Law_law_405 (by decide) ?_
    refine a_iadd S d_Law_law_406 ?_
    refine a_eqi (y := nI (i + 2)) (ni_add rfl rfl) ?_
    refine a_sld S (i := i + 2) hX rfl (by omega) d_Law_law_407 ?_
    refine a_callV S (rest := [_]) lg_Law_70 hM.cell.choose_spec (c_Mod_get X.2.1 D (a + 208) th c s K F L kr m KT lo hi he (xs (i + 1)) (xs (i + 2)) w n hV hM) (by decide) (by omega) (by omega) rfl (Nat.le_of_ble_eq_true rfl) d_Law_law_408 (fun v8 w9 n10 p11 => ?_)
    rcases p11 with ⟨⟨j2, hj2, gs1, e2, hq0, rfl⟩ | ⟨gm, rfl⟩, e13, f12, hM⟩
    · rw [e13]
      refine a_st (st' := [.long (gtV (K j2) (L j2) (xs (i + 2))), .long (gtV (K j) (L j) (xs (i + 2)))]) rfl ?_
      have ho := Fr.cell f12 ho (by omega)
      have hC := hC.mv (fun q z1 z2 => f12 q (by omega))
      obtain rfl : j = j2 := (nI_eq (by omega) (by omega)).mp (e1.symm.trans e2)
      refine a_lcmp S d_Law_law_411 ?_
      refine a_if_eq S (tgt := 983) d_Law_law_412 rfl (fun h412 => ?_) (fun h412 => ?_)
      · refine a_lv [0, 1, 2, 3, 4] (lv' := [(0, .ref b), (1, .ref a), (2, .ref (a + 208)), (3, .ref (a + 222)), (4, .int (nI i))]) rfl ?_
        exact NX c s K F L kr m KT lo hi he 0 _ _ _ _ _ ⟨hC, hM, ho, by omega⟩ (by omega) (by omega)
      · exact absurd (lg_self _) h412
    · rw [e13]
      refine a_st (st' := [.long (-1), .long (gtV (K j) (L j) (xs (i + 2)))]) rfl ?_
      have ho := Fr.cell f12 ho (by omega)
      have hC := hC.mv (fun q z1 z2 => f12 q (by omega))
      exact (gm j hj hs1 e1 hp0).elim
  · rw [e7, e6]
    refine a_st (st' := [.long (-1)]) rfl ?_
    refine a_aload_n S d_Law_law_395 rfl rfl ?_
    refine a_aload_n S d_Law_law_396 rfl rfl ?_
    refine a_iload S d_Law_law_397 rfl ?_
    refine a_iconst S (v := 1) d_Law_law_399 (by decide) ?_
    refine a_iadd S d_Law_law_400 ?_
    refine a_eqi (y := nI (i + 1)) (ni_add rfl rfl) ?_
    refine a_sld S (i := i + 1) hX rfl (by omega) d_Law_law_401 ?_
    refine a_aload_n S d_Law_law_402 rfl rfl ?_
    refine a_iload S d_Law_law_403 rfl ?_
    refine a_iconst S (v := 2) d_Law_law_405 (by decide) ?_
    refine a_iadd S d_Law_law_406 ?_
    refine a_eqi (y := nI (i + 2)) (ni_add rfl rfl) ?_
    refine a_sld S (i := i + 2) hX rfl (by omega) d_Law_law_407 ?_
    refine a_callV S (rest := [_]) lg_Law_70 hM.cell.choose_spec (c_Mod_get X.2.1 D (a + 208) th c s K F L kr m KT lo hi he (xs (i + 1)) (xs (i + 2)) w n hV hM) (by decide) (by omega) (by omega) rfl (Nat.le_of_ble_eq_true rfl) d_Law_law_408 (fun v15 w16 n17 p18 => ?_)
    rcases p18 with ⟨⟨j2, hj2, gs1, e2, hq0, rfl⟩ | ⟨gm, rfl⟩, e20, f19, hM⟩
    · rw [e20]
      refine a_st (st' := [.long (gtV (K j2) (L j2) (xs (i + 2))), .long (-1)]) rfl ?_
      have ho := Fr.cell f19 ho (by omega)
      have hC := hC.mv (fun q z1 z2 => f19 q (by omega))
      exact (gx j2 hj2 gs1 e2 hq0).elim
    · rw [e20]
      refine a_st (st' := [.long (-1), .long (-1)]) rfl ?_
      have ho := Fr.cell f19 ho (by omega)
      have hC := hC.mv (fun q z1 z2 => f19 q (by omega))
      refine a_lcmp S d_Law_law_411 ?_
      refine a_if_eq S (tgt := 983) d_Law_law_412 rfl (fun h412 => ?_) (fun h412 => ?_)
      · refine a_lv [0, 1, 2, 3, 4] (lv' := [(0, .ref b), (1, .ref a), (2, .ref (a + 208)), (3, .ref (a + 222)), (4, .int (nI i))]) rfl ?_
        exact NX c s K F L kr m KT lo hi he 0 _ _ _ _ _ ⟨hC, hM, ho, by omega⟩ (by omega) (by omega)
      · exact absurd (lg_self _) h412
