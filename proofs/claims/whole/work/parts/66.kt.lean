set_option maxHeartbeats 400000 in
set_option maxRecDepth 100000 in
theorem t_Kc_field1 (l : Launch) (D : kD) (b c : Nat) (s : Bool) (K F : Nat → Nat) (L : Nat → kV) (kr : List Nat) (m : Nat) (KT : Nat → Nat → kV) (lo hi : List Nat) (he : Bool) (x y : Int32) (w : ww) (n : Nat) (hf : l.flags = pinnedFlags ++ [noTraceFlag]) (hx : ∀ kd fg, kd < 4 → fg < 8 → x = nI kd → y = nI fg → False) (h : Cod D w b c s K F L kr m KT lo hi he) : AT l D M_Kc_field 6 1 6 [.ref b, .int x, .int y] w n "java/lang/IllegalArgumentException" (fun w' n' => w' = w ∧ n' = n + 1) := by
  refine AT.of_ hf (by decide +kernel) (Nat.le_of_ble_eq_true rfl) (fun X A Q S Zt => ?_)
  have S : FX X (D, A, 3, Q) prog_1_method_2_code "KeyCodec" 6 1 6 := S
  have Zt : FT X (D, A, 3, Q) w n "java/lang/IllegalArgumentException" (fun w' n' => w' = w ∧ n' = n + 1) 1 6 := Zt
  obtain ⟨Z, lf, rg, KK, h0, hs, hL, hZ, hkr, hlf, hrg, hK, hlo, hhi, hI⟩ := h
  have hm := hI.1
  have hc5 := hs.1
  refine a_lve (lv' := [(0, .ref b), (1, .int x), (2, .int y)]) rfl ?_
  refine a_iload_n S d_Kc_field_0 rfl rfl ?_
  refine a_if_lt S (tgt := 19) d_Kc_field_1 rfl (fun h1 => ?_) (fun h1 => ?_)
  · exact a_throw S Zt (tx := "no such kind or flags") rfl (by decide +kernel) (by decide +kernel) ow_iae ol_Kc_iae ot_iae oi_iae (by decide) (by decide) (by omega) (by omega) d_Kc_field_19 d_Kc_field_22 d_Kc_field_23 d_Kc_field_25 d_Kc_field_28 ⟨rfl, rfl⟩
  · refine a_iload_n S d_Kc_field_4 rfl rfl ?_
    refine a_iconst S (v := 3) d_Kc_field_5 (by decide) ?_
    refine a_icmp_gt S (tgt := 19) d_Kc_field_6 rfl (fun h6 => ?_) (fun h6 => ?_)
    · exact a_throw S Zt (tx := "no such kind or flags") rfl (by decide +kernel) (by decide +kernel) ow_iae ol_Kc_iae ot_iae oi_iae (by decide) (by decide) (by omega) (by omega) d_Kc_field_19 d_Kc_field_22 d_Kc_field_23 d_Kc_field_25 d_Kc_field_28 ⟨rfl, rfl⟩
    · refine a_iload_n S d_Kc_field_9 rfl rfl ?_
      refine a_if_lt S (tgt := 19) d_Kc_field_10 rfl (fun h10 => ?_) (fun h10 => ?_)
      · exact a_throw S Zt (tx := "no such kind or flags") rfl (by decide +kernel) (by decide +kernel) ow_iae ol_Kc_iae ot_iae oi_iae (by decide) (by decide) (by omega) (by omega) d_Kc_field_19 d_Kc_field_22 d_Kc_field_23 d_Kc_field_25 d_Kc_field_28 ⟨rfl, rfl⟩
      · refine a_iload_n S d_Kc_field_13 rfl rfl ?_
        refine a_bipush S (v := 7) d_Kc_field_14 (by decide) ?_
        refine a_icmp_le S (tgt := 29) d_Kc_field_16 rfl (fun h16 => ?_) (fun h16 => ?_)
        · obtain ⟨kd, hkd, rfl⟩ := k4_ix h1 h6; obtain ⟨fg, hfg, rfl⟩ := k8_ix h10 h16; exact (hx kd fg hkd hfg rfl rfl).elim
        · exact a_throw S Zt (tx := "no such kind or flags") rfl (by decide +kernel) (by decide +kernel) ow_iae ol_Kc_iae ot_iae oi_iae (by decide) (by decide) (by omega) (by omega) d_Kc_field_19 d_Kc_field_22 d_Kc_field_23 d_Kc_field_25 d_Kc_field_28 ⟨rfl, rfl⟩
set_option maxHeartbeats 400000 in
set_option maxRecDepth 100000 in
theorem t_Kc_field2 (l : Launch) (D : kD) (b c : Nat) (s : Bool) (K F : Nat → Nat) (L : Nat → kV) (kr : List Nat) (m : Nat) (KT : Nat → Nat → kV) (lo hi : List Nat) (he : Bool) (kd fg : Nat) (w : ww) (n : Nat) (hf : l.flags = pinnedFlags ++ [noTraceFlag]) (hkd : kd < 4) (hfg : fg < 8) (hn : ¬ (s = false ∧ c < 5)) (h : Cod D w b c s K F L kr m KT lo hi he) : AT l D M_Kc_field 6 1 6 [.ref b, .int (nI kd), .int (nI fg)] w n "java/lang/IllegalStateException" (fun w' n' => w' = w ∧ n' = n + 1) := by
  refine AT.of_ hf (by decide +kernel) (Nat.le_of_ble_eq_true rfl) (fun X A Q S Zt => ?_)
  have S : FX X (D, A, 3, Q) prog_1_method_2_code "KeyCodec" 6 1 6 := S
  have Zt : FT X (D, A, 3, Q) w n "java/lang/IllegalStateException" (fun w' n' => w' = w ∧ n' = n + 1) 1 6 := Zt
  obtain ⟨Z, lf, rg, KK, h0, hs, hL, hZ, hkr, hlf, hrg, hK, hlo, hhi, hI⟩ := h
  have hm := hI.1
  have hc5 := hs.1
  refine a_lve (lv' := [(0, .ref b), (1, .int (nI kd)), (2, .int (nI fg))]) rfl ?_
  refine a_iload_n S d_Kc_field_0 rfl rfl ?_
  refine a_if_lt S (tgt := 19) d_Kc_field_1 rfl (fun h1 => ?_) (fun h1 => ?_)
  · exact absurd h1 (nI_pos (by omega))
  · refine a_iload_n S d_Kc_field_4 rfl rfl ?_
    refine a_iconst S (v := 3) d_Kc_field_5 (by decide) ?_
    refine a_icmp_gt S (tgt := 19) d_Kc_field_6 rfl (fun h6 => ?_) (fun h6 => ?_)
    · exact absurd ((nI_ltI (a := 3) (by decide) (by omega)).mp h6) (by omega)
    · refine a_iload_n S d_Kc_field_9 rfl rfl ?_
      refine a_if_lt S (tgt := 19) d_Kc_field_10 rfl (fun h10 => ?_) (fun h10 => ?_)
      · exact absurd h10 (nI_pos (by omega))
      · refine a_iload_n S d_Kc_field_13 rfl rfl ?_
        refine a_bipush S (v := 7) d_Kc_field_14 (by decide) ?_
        refine a_icmp_le S (tgt := 29) d_Kc_field_16 rfl (fun h16 => ?_) (fun h16 => ?_)
        · refine a_aload_n S d_Kc_field_29 rfl rfl ?_
          have s1 := hs.cell
          refine a_get S kc_Kc 0 (by decide) lf_Kc_12 h0 rfl d_Kc_field_30 ?_
          refine a_get S kc_Schema 3 (by decide) lf_Kc_68 s1 rfl d_Kc_field_33 ?_
          refine a_if_ne S (tgt := 50) d_Kc_field_36 rfl (fun h36 => ?_) (fun h36 => ?_)
          · exact a_throw S Zt (tx := "the schema takes no field more") rfl (by decide +kernel) (by decide +kernel) ow_ise ol_Kc_ise ot_ise oi_ise (by decide) (by decide) (by omega) (by omega) d_Kc_field_50 d_Kc_field_53 d_Kc_field_54 d_Kc_field_56 d_Kc_field_59 ⟨rfl, rfl⟩
          · have hs0 : s = false := bo_0 h36
            refine a_aload_n S d_Kc_field_39 rfl rfl ?_
            refine a_get S kc_Kc 0 (by decide) lf_Kc_12 h0 rfl d_Kc_field_40 ?_
            refine a_get S kc_Schema 2 (by decide) lf_Kc_71 s1 rfl d_Kc_field_43 ?_
            refine a_iconst S (v := 5) d_Kc_field_46 (by decide) ?_
            refine a_icmp_lt S (tgt := 60) d_Kc_field_47 rfl (fun h47 => ?_) (fun h47 => ?_)
            · exact absurd ⟨hs0, (nI_ltI (b := 5) (by omega) (by decide)).mp h47⟩ hn
            · exact a_throw S Zt (tx := "the schema takes no field more") rfl (by decide +kernel) (by decide +kernel) ow_ise ol_Kc_ise ot_ise oi_ise (by decide) (by decide) (by omega) (by omega) d_Kc_field_50 d_Kc_field_53 d_Kc_field_54 d_Kc_field_56 d_Kc_field_59 ⟨rfl, rfl⟩
        · exact absurd ((nI_leI (b := 7) (by omega) (by decide)).mpr (by omega)) h16
set_option maxHeartbeats 400000 in
set_option maxRecDepth 100000 in
theorem c_Kc_field (l : Launch) (D : kD) (b c : Nat) (s : Bool) (K F : Nat → Nat) (L : Nat → kV) (kr : List Nat) (m : Nat) (KT : Nat → Nat → kV) (lo hi : List Nat) (he : Bool) (kd fg : Nat) (w : ww) (n : Nat) (hkd : kd < 4) (hfg : fg < 8) (hs0 : s = false) (hc0 : c < 5) (h : Cod D w b c s K F L kr m KT lo hi he) : AM l D M_Kc_field 1 0 0 [.ref b, .int (nI kd), .int (nI fg)] w n (fun v w' n' => v = some (.int (nI c)) ∧ n' = n ∧ Fr w w' b 208 ∧ Cod D w' b (c + 1) s (va_up K c kd) (va_up F c fg) L kr m KT lo hi he) := by
  refine AM.ofi (by decide +kernel) rfl (Nat.le_of_ble_eq_true rfl) (fun X A Q hin S RT => ?_)
  have S : FX X (D, A, 3, Q) prog_1_method_2_code "KeyCodec" 1 0 0 := S
  have RT : RTi X (D, A, 3, Q) prog_1_method_2_code 0 0 _ := RT
  obtain ⟨Z, lf, rg, KK, h0, hs, hL, hZ, hkr, hlf, hrg, hK, hlo, hhi, hI⟩ := h
  have hm := hI.1
  have hc5 := hs.1
  refine a_lve (lv' := [(0, .ref b), (1, .int (nI kd)), (2, .int (nI fg))]) rfl ?_
  have fr : Fr w w b 208 := Fr.refl _ _ _
  refine a_iload_n S d_Kc_field_0 rfl rfl ?_
  refine a_if_lt S (tgt := 19) d_Kc_field_1 rfl (fun h1 => ?_) (fun h1 => ?_)
  · exact absurd h1 (nI_pos (by omega))
  · refine a_iload_n S d_Kc_field_4 rfl rfl ?_
    refine a_iconst S (v := 3) d_Kc_field_5 (by decide) ?_
    refine a_icmp_gt S (tgt := 19) d_Kc_field_6 rfl (fun h6 => ?_) (fun h6 => ?_)
    · exact absurd ((nI_ltI (a := 3) (by decide) (by omega)).mp h6) (by omega)
    · refine a_iload_n S d_Kc_field_9 rfl rfl ?_
      refine a_if_lt S (tgt := 19) d_Kc_field_10 rfl (fun h10 => ?_) (fun h10 => ?_)
      · exact absurd h10 (nI_pos (by omega))
      · refine a_iload_n S d_Kc_field_13 rfl rfl ?_
        refine a_bipush S (v := 7) d_Kc_field_14 (by decide) ?_
        refine a_icmp_le S (tgt := 29) d_Kc_field_16 rfl (fun h16 => ?_) (fun h16 => ?_)
        · refine a_aload_n S d_Kc_field_29 rfl rfl ?_
          have s1 := hs.cell
          refine a_get S kc_Kc 0 (by decide) lf_Kc_12 h0 rfl d_Kc_field_30 ?_
          refine a_get S kc_Schema 3 (by decide) lf_Kc_68 s1 rfl d_Kc_field_33 ?_
          refine a_if_ne S (tgt := 50) d_Kc_field_36 rfl (fun h36 => ?_) (fun h36 => ?_)
          · exact absurd (bo_1 h36) (by rw [hs0]; decide)
          · refine a_aload_n S d_Kc_field_39 rfl rfl ?_
            refine a_get S kc_Kc 0 (by decide) lf_Kc_12 h0 rfl d_Kc_field_40 ?_
            refine a_get S kc_Schema 2 (by decide) lf_Kc_71 s1 rfl d_Kc_field_43 ?_
            refine a_iconst S (v := 5) d_Kc_field_46 (by decide) ?_
            refine a_icmp_lt S (tgt := 60) d_Kc_field_47 rfl (fun h47 => ?_) (fun h47 => ?_)
            · refine a_aload_n S d_Kc_field_60 rfl rfl ?_
              refine a_get S kc_Kc 0 (by decide) lf_Kc_12 h0 rfl d_Kc_field_61 ?_
              refine a_iload_n S d_Kc_field_64 rfl rfl ?_
              refine a_iload_n S d_Kc_field_65 rfl rfl ?_
              refine a_callV S (rest := []) lg_Kc_79 s1 (c_Schema_append X.2.1 D (b + 1) c s K F kd fg w n hc0 hkd hfg hs) (by decide) (by omega) (by omega) rfl (Nat.le_of_ble_eq_true rfl) d_Kc_field_66 (fun v1 w2 n3 p4 => ?_)
              obtain ⟨rfl, e6, f5, hs⟩ := p4
              rw [e6]
              refine a_st (st' := [.int (nI c)]) rfl ?_
              have fr := fr.trans (Fr.sub f5 (by omega) (by omega))
              have h0 := Fr.cell f5 h0 (by omega)
              have hL := Tup.fr f5 hL (by omega)
              have hZ := Tup.fr f5 hZ (by omega)
              have hkr := Row.fr f5 hkr (by omega)
              have hlf := Row.fr f5 hlf (by omega)
              have hrg := Row.fr f5 hrg (by omega)
              have hK := Kept.fr f5 hK (by omega)
              have hlo := Row.fr f5 hlo (by omega)
              have hhi := Row.fr f5 hhi (by omega)
              exact RT _ _ _ _ _ _ _ d_Kc_field_69 (by omega) (by omega) ⟨rfl, rfl, fr, _, _, _, _, h0, hs, hL, hZ, hkr, hlf, hrg, hK, hlo, hhi, hm, (fun z => by rw [hs0] at z; cases z), (fun i hi => by have z := (hI.2.2 i hi).1; rw [hs0] at z; cases z)⟩
            · exact absurd ((nI_ltI (b := 5) (by omega) (by decide)).mpr hc0) h47
        · exact absurd ((nI_leI (b := 7) (by omega) (by decide)).mpr (by omega)) h16
set_option maxHeartbeats 400000 in
set_option maxRecDepth 100000 in
theorem t_Kc_encode (l : Launch) (D : kD) (b c : Nat) (s : Bool) (K F : Nat → Nat) (L : Nat → kV) (kr : List Nat) (m : Nat) (KT : Nat → Nat → kV) (lo hi : List Nat) (he : Bool)  (w : ww) (n : Nat) (hf : l.flags = pinnedFlags ++ [noTraceFlag]) (hs0 : s = false) (h : Cod D w b c s K F L kr m KT lo hi he) : AT l D M_Kc_encode 6 1 6 [.ref b] w n "java/lang/IllegalStateException" (fun w' n' => w' = w ∧ n' = n + 1) := by
  refine AT.of_ hf (by decide +kernel) (Nat.le_of_ble_eq_true rfl) (fun X A Q S Zt => ?_)
  have S : FX X (D, A, 1, Q) prog_1_method_9_code "KeyCodec" 6 1 6 := S
  have Zt : FT X (D, A, 1, Q) w n "java/lang/IllegalStateException" (fun w' n' => w' = w ∧ n' = n + 1) 1 6 := Zt
  obtain ⟨Z, lf, rg, KK, h0, hs, hL, hZ, hkr, hlf, hrg, hK, hlo, hhi, hI⟩ := h
  have hm := hI.1
  have hc5 := hs.1
  refine a_lve (lv' := [(0, .ref b)]) rfl ?_
  refine a_aload_n S d_Kc_encode_0 rfl rfl ?_
  have s1 := hs.cell
  refine a_get S kc_Kc 0 (by decide) lf_Kc_12 h0 rfl d_Kc_encode_1 ?_
  refine a_get S kc_Schema 3 (by decide) lf_Kc_68 s1 rfl d_Kc_encode_4 ?_
  refine a_if_ne S (tgt := 20) d_Kc_encode_7 rfl (fun h7 => ?_) (fun h7 => ?_)
  · exact absurd (bo_1 h7) (by rw [hs0]; decide)
  · exact a_throw S Zt (tx := "the schema is open") rfl (by decide +kernel) (by decide +kernel) ow_ise ol_Kc_ise ot_ise oi_ise (by decide) (by decide) (by omega) (by omega) d_Kc_encode_10 d_Kc_encode_13 d_Kc_encode_14 d_Kc_encode_16 d_Kc_encode_19 ⟨rfl, rfl⟩
set_option maxHeartbeats 400000 in
set_option maxRecDepth 100000 in
theorem c_Kc_encode (l : Launch) (D : kD) (b c : Nat) (s : Bool) (K F : Nat → Nat) (L : Nat → kV) (kr : List Nat) (m : Nat) (KT : Nat → Nat → kV) (lo hi : List Nat) (he : Bool)  (w : ww) (n : Nat) (hs0 : s = true) (h : Cod D w b c s K F L kr m KT lo hi he) : AM l D M_Kc_encode 6 0 0 [.ref b] w n (fun v w' n' => v = some (.int (nI (keyB K F L c).length)) ∧ n' = n ∧ Fr w w' b 208 ∧ Cod D w' b c s K F L (keyB K F L c) m KT lo hi he) := by
  refine AM.ofi (by decide +kernel) rfl (Nat.le_of_ble_eq_true rfl) (fun X A Q hin S RT => ?_)
  have S : FX X (D, A, 1, Q) prog_1_method_9_code "KeyCodec" 6 0 0 := S
  have RT : RTi X (D, A, 1, Q) prog_1_method_9_code 0 0 _ := RT
  obtain ⟨Z, lf, rg, KK, h0, hs, hL, hZ, hkr, hlf, hrg, hK, hlo, hhi, hI⟩ := h
  have hm := hI.1
  have hc5 := hs.1
  refine a_lve (lv' := [(0, .ref b)]) rfl ?_
  have fr : Fr w w b 208 := Fr.refl _ _ _
  refine a_aload_n S d_Kc_encode_0 rfl rfl ?_
  have s1 := hs.cell
  refine a_get S kc_Kc 0 (by decide) lf_Kc_12 h0 rfl d_Kc_encode_1 ?_
  refine a_get S kc_Schema 3 (by decide) lf_Kc_68 s1 rfl d_Kc_encode_4 ?_
  refine a_if_ne S (tgt := 20) d_Kc_encode_7 rfl (fun h7 => ?_) (fun h7 => ?_)
  · refine a_aload_n S d_Kc_encode_20 rfl rfl ?_
    refine a_get S kc_Kc 0 (by decide) lf_Kc_12 h0 rfl d_Kc_encode_21 ?_
    refine a_aload_n S d_Kc_encode_24 rfl rfl ?_
    refine a_get S kc_Kc 1 (by decide) lf_Kc_19 h0 rfl d_Kc_encode_25 ?_
    refine a_aload_n S d_Kc_encode_28 rfl rfl ?_
    refine a_get S kc_Kc 3 (by decide) lf_Kc_29 h0 rfl d_Kc_encode_29 ?_
    refine a_callS S (rest := []) lg_Kc_142 (c_Writer_writeKey X.2.1 D (b + 1) (b + 4) (b + 28) c s K F L kr w n (by omega) (by omega) (hI.2.1 hs0) hs hL hkr) (by decide) (by omega) (by omega) rfl (Nat.le_of_ble_eq_true rfl) d_Kc_encode_32 (fun v1 w2 n3 p4 => ?_)
    obtain ⟨rfl, e6, f5, hkr⟩ := p4
    rw [e6]
    refine a_st (st' := []) rfl ?_
    have fr := fr.trans (Fr.sub f5 (by omega) (by omega))
    have h0 := Fr.cell f5 h0 (by omega)
    have s1 := Fr.cell f5 s1 (by omega)
    have hs := Sch.fr f5 hs (by omega)
    have hL := Tup.fr f5 hL (by omega)
    have hZ := Tup.fr f5 hZ (by omega)
    have hlf := Row.fr f5 hlf (by omega)
    have hrg := Row.fr f5 hrg (by omega)
    have hK := Kept.fr f5 hK (by omega)
    have hlo := Row.fr f5 hlo (by omega)
    have hhi := Row.fr f5 hhi (by omega)
    refine a_aload_n S d_Kc_encode_35 rfl rfl ?_
    have kc1 := hkr.cell
    refine a_get S kc_Kc 3 (by decide) lf_Kc_29 h0 rfl d_Kc_encode_36 ?_
    refine a_get S kc_Row 1 (by decide) lf_Kc_148 kc1 rfl d_Kc_encode_39 ?_
    exact RT _ _ _ _ _ _ _ d_Kc_encode_42 (by omega) (by omega) ⟨rfl, rfl, fr, _, _, _, _, h0, hs, hL, hZ, hkr, hlf, hrg, hK, hlo, hhi, hI⟩
  · exact absurd (bo_0 h7) (by rw [hs0]; decide)
set_option maxHeartbeats 400000 in
set_option maxRecDepth 100000 in
theorem t_Kc_keep (l : Launch) (D : kD) (b c : Nat) (s : Bool) (K F : Nat → Nat) (L : Nat → kV) (kr : List Nat) (m : Nat) (KT : Nat → Nat → kV) (lo hi : List Nat) (he : Bool)  (w : ww) (n : Nat) (hf : l.flags = pinnedFlags ++ [noTraceFlag]) (hn : ¬ (s = true ∧ m < 12)) (h : Cod D w b c s K F L kr m KT lo hi he) : AT l D M_Kc_keep 6 1 6 [.ref b] w n "java/lang/IllegalStateException" (fun w' n' => w' = w ∧ n' = n + 1) := by
  refine AT.of_ hf (by decide +kernel) (Nat.le_of_ble_eq_true rfl) (fun X A Q S Zt => ?_)
  have S : FX X (D, A, 2, Q) prog_1_method_14_code "KeyCodec" 6 1 6 := S
  have Zt : FT X (D, A, 2, Q) w n "java/lang/IllegalStateException" (fun w' n' => w' = w ∧ n' = n + 1) 1 6 := Zt
  obtain ⟨Z, lf, rg, KK, h0, hs, hL, hZ, hkr, hlf, hrg, hK, hlo, hhi, hI⟩ := h
  have hm := hI.1
  have hc5 := hs.1
  refine a_lve (lv' := [(0, .ref b)]) rfl ?_
  refine a_aload_n S d_Kc_keep_0 rfl rfl ?_
  have s1 := hs.cell
  refine a_get S kc_Kc 0 (by decide) lf_Kc_12 h0 rfl d_Kc_keep_1 ?_
  refine a_get S kc_Schema 3 (by decide) lf_Kc_68 s1 rfl d_Kc_keep_4 ?_
  refine a_if_eq S (tgt := 19) d_Kc_keep_7 rfl (fun h7 => ?_) (fun h7 => ?_)
  · exact a_throw S Zt (tx := "the schema is open, or no tuple more can be kept") rfl (by decide +kernel) (by decide +kernel) ow_ise ol_Kc_ise ot_ise oi_ise (by decide) (by decide) (by omega) (by omega) d_Kc_keep_19 d_Kc_keep_22 d_Kc_keep_23 d_Kc_keep_25 d_Kc_keep_28 ⟨rfl, rfl⟩
  · have hs0 : s = true := bo_1 h7
    refine a_aload_n S d_Kc_keep_10 rfl rfl ?_
    refine a_get S kc_Kc 8 (by decide) lf_Kc_47 h0 rfl d_Kc_keep_11 ?_
    refine a_bipush S (v := 12) d_Kc_keep_14 (by decide) ?_
    refine a_icmp_lt S (tgt := 29) d_Kc_keep_16 rfl (fun h16 => ?_) (fun h16 => ?_)
    · exact absurd ⟨hs0, (nI_ltI (b := 12) (by omega) (by decide)).mp h16⟩ hn
    · exact a_throw S Zt (tx := "the schema is open, or no tuple more can be kept") rfl (by decide +kernel) (by decide +kernel) ow_ise ol_Kc_ise ot_ise oi_ise (by decide) (by decide) (by omega) (by omega) d_Kc_keep_19 d_Kc_keep_22 d_Kc_keep_23 d_Kc_keep_25 d_Kc_keep_28 ⟨rfl, rfl⟩
set_option maxHeartbeats 400000 in
set_option maxRecDepth 100000 in
theorem c_Kc_keep (l : Launch) (D : kD) (b c : Nat) (s : Bool) (K F : Nat → Nat) (L : Nat → kV) (kr : List Nat) (m : Nat) (KT : Nat → Nat → kV) (lo hi : List Nat) (he : Bool)  (w : ww) (n : Nat) (hs0 : s = true) (hm0 : m < 12) (h : Cod D w b c s K F L kr m KT lo hi he) : AM l D M_Kc_keep 6 0 0 [.ref b] w n (fun v w' n' => v = some (.int (nI m)) ∧ n' = n ∧ Fr w w' b 208 ∧ Cod D w' b c s K F L kr (m + 1) (va_up KT m L) lo hi he) := by
  refine AM.ofi (by decide +kernel) rfl (Nat.le_of_ble_eq_true rfl) (fun X A Q hin S RT => ?_)
  have S : FX X (D, A, 2, Q) prog_1_method_14_code "KeyCodec" 6 0 0 := S
  have RT : RTi X (D, A, 2, Q) prog_1_method_14_code 0 0 _ := RT
  obtain ⟨Z, lf, rg, KK, h0, hs, hL, hZ, hkr, hlf, hrg, hK, hlo, hhi, hI⟩ := h
  have hm := hI.1
  have hc5 := hs.1
  refine a_lve (lv' := [(0, .ref b)]) rfl ?_
  have fr : Fr w w b 208 := Fr.refl _ _ _
  refine a_aload_n S d_Kc_keep_0 rfl rfl ?_
  have s1 := hs.cell
  refine a_get S kc_Kc 0 (by decide) lf_Kc_12 h0 rfl d_Kc_keep_1 ?_
  refine a_get S kc_Schema 3 (by decide) lf_Kc_68 s1 rfl d_Kc_keep_4 ?_
  refine a_if_eq S (tgt := 19) d_Kc_keep_7 rfl (fun h7 => ?_) (fun h7 => ?_)
  · exact absurd (bo_0 h7) (by rw [hs0]; decide)
  · refine a_aload_n S d_Kc_keep_10 rfl rfl ?_
    refine a_get S kc_Kc 8 (by decide) lf_Kc_47 h0 rfl d_Kc_keep_11 ?_
    refine a_bipush S (v := 12) d_Kc_keep_14 (by decide) ?_
    refine a_icmp_lt S (tgt := 29) d_Kc_keep_16 rfl (fun h16 => ?_) (fun h16 => ?_)
    · refine a_aload_n S d_Kc_keep_29 rfl rfl ?_
      refine a_get S kc_Kc 8 (by decide) lf_Kc_47 h0 rfl d_Kc_keep_30 ?_
      refine a_istore_n S d_Kc_keep_33 rfl (Nat.le_of_ble_eq_true rfl) (lv' := [(0, .ref b), (1, .int (nI m))]) rfl ?_
      obtain ⟨⟨kf, kg, k1, k2, k3⟩, k4⟩ := hK
      have hK : Kept D w b KT KK := ⟨⟨kf, kg, k1, k2, k3⟩, k4⟩
      obtain ⟨kt_m, kk_m⟩ := k4 m (by omega)
      refine a_aload_n S d_Kc_keep_34 rfl rfl ?_
      refine a_get S kc_Kc 6 (by decide) lf_Kc_39 h0 rfl d_Kc_keep_35 ?_
      refine a_iload_n S d_Kc_keep_38 rfl rfl ?_
      refine a_aald S (i := m) (q := b + 40 + 14 * m) rfl k1 rfl (by omega) (by decide) (k3 m (by omega)).1 d_Kc_keep_39 ?_
      refine a_aload_n S d_Kc_keep_40 rfl rfl ?_
      refine a_get S kc_Kc 1 (by decide) lf_Kc_19 h0 rfl d_Kc_keep_41 ?_
      have hK0 := hK
      refine a_callV S (rest := []) lg_Kc_172 kt_m.cell (c_Tuple_become X.2.1 D (b + 40 + 14 * m) (b + 4) (KT m) L w n (by omega) kt_m hL) (by decide) (by omega) (by omega) rfl (Nat.le_of_ble_eq_true rfl) d_Kc_keep_44 (fun v1 w2 n3 p4 => ?_)
      obtain ⟨rfl, e6, f5, kt_m⟩ := p4
      rw [e6]
      refine a_st (st' := []) rfl ?_
      have fr := fr.trans (Fr.sub f5 (by omega) (by omega))
      have h0 := Fr.cell f5 h0 (by omega)
      have s1 := Fr.cell f5 s1 (by omega)
      have hs := Sch.fr f5 hs (by omega)
      have hL := Tup.fr f5 hL (by omega)
      have hZ := Tup.fr f5 hZ (by omega)
      have hkr := Row.fr f5 hkr (by omega)
      have hlf := Row.fr f5 hlf (by omega)
      have hrg := Row.fr f5 hrg (by omega)
      have hlo := Row.fr f5 hlo (by omega)
      have hhi := Row.fr f5 hhi (by omega)
      have kk_m := Row.fr f5 kk_m (by omega)
      have hK := Kept.putT hK0 (by omega) f5 kt_m
      obtain ⟨⟨kf, kg, k1, k2, k3⟩, k4⟩ := hK
      have hK : Kept D w2 b (va_up KT m L) KK := ⟨⟨kf, kg, k1, k2, k3⟩, k4⟩
      have kk_m := (k4 m hm0).2
      refine a_aload_n S d_Kc_keep_47 rfl rfl ?_
      refine a_get S kc_Kc 0 (by decide) lf_Kc_12 h0 rfl d_Kc_keep_48 ?_
      refine a_aload_n S d_Kc_keep_51 rfl rfl ?_
      refine a_get S kc_Kc 1 (by decide) lf_Kc_19 h0 rfl d_Kc_keep_52 ?_
      refine a_aload_n S d_Kc_keep_55 rfl rfl ?_
      refine a_get S kc_Kc 7 (by decide) lf_Kc_43 h0 rfl d_Kc_keep_56 ?_
      refine a_iload_n S d_Kc_keep_59 rfl rfl ?_
      refine a_aald S (i := m) (q := b + 52 + 14 * m) rfl k2 rfl (by omega) (by decide) (k3 m (by omega)).2 d_Kc_keep_60 ?_
      have hK0 := hK
      refine a_callS S (rest := []) lg_Kc_142 (c_Writer_writeKey X.2.1 D (b + 1) (b + 4) (b + 52 + 14 * m) c s K F L (KK m) w2 n (by omega) (by omega) (hI.2.1 hs0) hs hL kk_m) (by decide) (by omega) (by omega) rfl (Nat.le_of_ble_eq_true rfl) d_Kc_keep_61 (fun v7 w8 n9 p10 => ?_)
      obtain ⟨rfl, e12, f11, kk_m⟩ := p10
      rw [e12]
      refine a_st (st' := []) rfl ?_
      have fr := fr.trans (Fr.sub f11 (by omega) (by omega))
      have h0 := Fr.cell f11 h0 (by omega)
      have s1 := Fr.cell f11 s1 (by omega)
      have hs := Sch.fr f11 hs (by omega)
      have hL := Tup.fr f11 hL (by omega)
      have hZ := Tup.fr f11 hZ (by omega)
      have hkr := Row.fr f11 hkr (by omega)
      have hlf := Row.fr f11 hlf (by omega)
      have hrg := Row.fr f11 hrg (by omega)
      have hlo := Row.fr f11 hlo (by omega)
      have hhi := Row.fr f11 hhi (by omega)
      have hK := Kept.putK hK0 (by omega) f11 kk_m
      refine a_aload_n S d_Kc_keep_64 rfl rfl ?_
      refine a_dup S d_Kc_keep_65 rfl ?_
      refine a_get S kc_Kc 8 (by decide) lf_Kc_47 h0 rfl d_Kc_keep_66 ?_
      refine a_iconst S (v := 1) d_Kc_keep_69 (by decide) ?_
      refine a_iadd S d_Kc_keep_70 ?_
      refine a_eqi (y := nI (m + 1)) (ni_add rfl rfl) ?_
      refine a_put S kc_Kc kt_Kc 8 (by decide) lf_Kc_47 rfl h0 rfl rfl (Nat.le_of_ble_eq_true rfl) d_Kc_keep_71 (fun w13 h0 e14 => ?_)
      have h0 : w13 b = some (.inr (0, [.ref (b + 1), .ref (b + 4), .ref (b + 16), .ref (b + 28), .ref (b + 30), .ref (b + 32), .ref (b + 34), .ref (b + 35), .int (nI (m + 1)), .ref (b + 36), .ref (b + 38), .int (if he then 1 else 0)])) := h0
      have fr := fr.trans (Fr.sub (Fr.of1 e14) (by omega) (by omega))
      have s1 := Fr.cell (Fr.of1 e14) s1 (by omega)
      have hs := Sch.fr (Fr.of1 e14) hs (by omega)
      have hL := Tup.fr (Fr.of1 e14) hL (by omega)
      have hZ := Tup.fr (Fr.of1 e14) hZ (by omega)
      have hkr := Row.fr (Fr.of1 e14) hkr (by omega)
      have hlf := Row.fr (Fr.of1 e14) hlf (by omega)
      have hrg := Row.fr (Fr.of1 e14) hrg (by omega)
      have hlo := Row.fr (Fr.of1 e14) hlo (by omega)
      have hhi := Row.fr (Fr.of1 e14) hhi (by omega)
      have hK := Kept.fr (Fr.of1 e14) hK (by omega)
      refine a_iload_n S d_Kc_keep_74 rfl rfl ?_
      exact RT _ _ _ _ _ _ _ d_Kc_keep_75 (by omega) (by omega) ⟨rfl, rfl, fr, _, _, _, _, h0, hs, hL, hZ, hkr, hlf, hrg, hK, hlo, hhi, (hI.keep hs0 hm0)⟩
    · exact absurd ((nI_ltI (b := 12) (by omega) (by decide)).mpr hm0) h16
set_option maxHeartbeats 400000 in
set_option maxRecDepth 100000 in
theorem t_Kc_decode1 (l : Launch) (D : kD) (b c : Nat) (s : Bool) (K F : Nat → Nat) (L : Nat → kV) (kr : List Nat) (m : Nat) (KT : Nat → Nat → kV) (lo hi : List Nat) (he : Bool)  (w : ww) (n : Nat) (hf : l.flags = pinnedFlags ++ [noTraceFlag]) (hs0 : s = false) (h : Cod D w b c s K F L kr m KT lo hi he) : AT l D M_Kc_decode 6 1 6 [.ref b] w n "java/lang/IllegalStateException" (fun w' n' => w' = w ∧ n' = n + 1) := by
  refine AT.of_ hf (by decide +kernel) (Nat.le_of_ble_eq_true rfl) (fun X A Q S Zt => ?_)
  have S : FX X (D, A, 2, Q) prog_1_method_13_code "KeyCodec" 6 1 6 := S
  have Zt : FT X (D, A, 2, Q) w n "java/lang/IllegalStateException" (fun w' n' => w' = w ∧ n' = n + 1) 1 6 := Zt
  obtain ⟨Z, lf, rg, KK, h0, hs, hL, hZ, hkr, hlf, hrg, hK, hlo, hhi, hI⟩ := h
  have hm := hI.1
  have hc5 := hs.1
  refine a_lve (lv' := [(0, .ref b)]) rfl ?_
  refine a_aload_n S d_Kc_decode_0 rfl rfl ?_
  have s1 := hs.cell
  refine a_get S kc_Kc 0 (by decide) lf_Kc_12 h0 rfl d_Kc_decode_1 ?_
  refine a_get S kc_Schema 3 (by decide) lf_Kc_68 s1 rfl d_Kc_decode_4 ?_
  refine a_if_ne S (tgt := 20) d_Kc_decode_7 rfl (fun h7 => ?_) (fun h7 => ?_)
  · exact absurd (bo_1 h7) (by rw [hs0]; decide)
  · exact a_throw S Zt (tx := "the schema is open") rfl (by decide +kernel) (by decide +kernel) ow_ise ol_Kc_ise ot_ise oi_ise (by decide) (by decide) (by omega) (by omega) d_Kc_decode_10 d_Kc_decode_13 d_Kc_decode_14 d_Kc_decode_16 d_Kc_decode_19 ⟨rfl, rfl⟩
set_option maxHeartbeats 400000 in
set_option maxRecDepth 100000 in
theorem t_Kc_decode2 (l : Launch) (D : kD) (b c : Nat) (s : Bool) (K F : Nat → Nat) (L : Nat → kV) (kr : List Nat) (m : Nat) (KT : Nat → Nat → kV) (lo hi : List Nat) (he : Bool)  (w : ww) (n : Nat) (hf : l.flags = pinnedFlags ++ [noTraceFlag]) (hs0 : s = true) (hno : ∀ T : Nat → kV, okT K F T c → ¬ kr = keyB K F T c) (h : Cod D w b c s K F L kr m KT lo hi he) : AT l D M_Kc_decode 6 3 16 [.ref b] w n "java/lang/IllegalArgumentException" (fun w' n' => n' = n + 3 ∧ Fr2 w w' b 208 n 2 ∧ Cod D w' b c s K F L kr m KT lo hi he) := by
  refine AT.of_ hf (by decide +kernel) (Nat.le_of_ble_eq_true rfl) (fun X A Q S Zt => ?_)
  have S : FX X (D, A, 2, Q) prog_1_method_13_code "KeyCodec" 6 3 16 := S
  have Zt : FT X (D, A, 2, Q) w n "java/lang/IllegalArgumentException" (fun w' n' => n' = n + 3 ∧ Fr2 w w' b 208 n 2 ∧ Cod D w' b c s K F L kr m KT lo hi he) 3 16 := Zt
  obtain ⟨Z, lf, rg, KK, h0, hs, hL, hZ, hkr, hlf, hrg, hK, hlo, hhi, hI⟩ := h
  have hm := hI.1
  have hc5 := hs.1
  refine a_dom (fun hdom => ?_)
  have hbn : b + 208 ≤ n := by
    obtain ⟨_, _, f_, _, g_, _⟩ := (hK.2 11 (by decide)).2
    have := hdom _ _ g_
    omega
  refine a_lve (lv' := [(0, .ref b)]) rfl ?_
  have fr : Fr2 w w b 208 n 2 := fun _ _ _ => rfl
  refine a_aload_n S d_Kc_decode_0 rfl rfl ?_
  have s1 := hs.cell
  refine a_get S kc_Kc 0 (by decide) lf_Kc_12 h0 rfl d_Kc_decode_1 ?_
  refine a_get S kc_Schema 3 (by decide) lf_Kc_68 s1 rfl d_Kc_decode_4 ?_
  refine a_if_ne S (tgt := 20) d_Kc_decode_7 rfl (fun h7 => ?_) (fun h7 => ?_)
  · refine a_new S kc_Reader kt_Reader lc_Kc_157 in_Reader ii_Reader (fs := [.null, .null, .int 0, .int 0, .null]) df_Reader (by omega) (by omega) d_Kc_decode_20 (fun w1 hn3 e2 => ?_)
    have fr : Fr2 w w1 b 208 n 2 := fun q h1 h2 => ((Fr.of1 e2) q (by omega)).trans (fr q h1 h2)
    have h0 := Fr.cell (Fr.of1 e2) h0 (by omega)
    have s1 := Fr.cell (Fr.of1 e2) s1 (by omega)
    have hs := Sch.fr (Fr.of1 e2) hs (by omega)
    have hL := Tup.fr (Fr.of1 e2) hL (by omega)
    have hZ := Tup.fr (Fr.of1 e2) hZ (by omega)
    have hkr := Row.fr (Fr.of1 e2) hkr (by omega)
    have hlf := Row.fr (Fr.of1 e2) hlf (by omega)
    have hrg := Row.fr (Fr.of1 e2) hrg (by omega)
    have hK := Kept.fr (Fr.of1 e2) hK (by omega)
    have hlo := Row.fr (Fr.of1 e2) hlo (by omega)
    have hhi := Row.fr (Fr.of1 e2) hhi (by omega)
    refine a_dup S d_Kc_decode_23 rfl ?_
    refine a_aload_n S d_Kc_decode_24 rfl rfl ?_
    refine a_get S kc_Kc 0 (by decide) lf_Kc_12 h0 rfl d_Kc_decode_25 ?_
    refine a_aload_n S d_Kc_decode_28 rfl rfl ?_
    refine a_get S kc_Kc 3 (by decide) lf_Kc_29 h0 rfl d_Kc_decode_29 ?_
    refine a_callI S (rest := [_]) lg_Kc_159 (c_Reader_init X.2.1 D n (b + 1) (b + 28) w1 hn3) (by decide) (by omega) (by omega) rfl (Nat.le_of_ble_eq_true rfl) d_Kc_decode_32 (fun v4 w5 n6 p7 => ?_)
    obtain ⟨rfl, e9, f8, hr⟩ := p7
    rw [e9]
    refine a_st (st' := [.ref n]) rfl ?_
    have fr : Fr2 w w5 b 208 n 2 := fun q h1 h2 => (f8 q (by omega)).trans (fr q h1 h2)
    have h0 := Fr.cell f8 h0 (by omega)
    have s1 := Fr.cell f8 s1 (by omega)
    have hs := Sch.fr f8 hs (by omega)
    have hL := Tup.fr f8 hL (by omega)
    have hZ := Tup.fr f8 hZ (by omega)
    have hkr := Row.fr f8 hkr (by omega)
    have hlf := Row.fr f8 hlf (by omega)
    have hrg := Row.fr f8 hrg (by omega)
    have hK := Kept.fr f8 hK (by omega)
    have hlo := Row.fr f8 hlo (by omega)
    have hhi := Row.fr f8 hhi (by omega)
    refine a_aload_n S d_Kc_decode_35 rfl rfl ?_
    refine a_get S kc_Kc 2 (by decide) lf_Kc_23 h0 rfl d_Kc_decode_36 ?_
    refine a_callV S (rest := []) lg_Kc_162 hr.cell (c_Reader_readTuple X.2.1 D (b + 16) c s K F Z n (b + 1) (b + 28) (fun _ => 0) kr w5 (n + 2) (by omega) (by omega) (by omega) (by omega) (by omega) hs hkr hr hZ) (by decide) (by omega) (by omega) rfl (Nat.le_of_ble_eq_true rfl) d_Kc_decode_39 (fun v10 w11 n12 p13 => ?_)
    obtain ⟨ok, T1, rfl, e15, f14, hZ, hok1, hok2⟩ := p13
    rw [e15]
    refine a_st (st' := [.int (if ok then 1 else 0)]) rfl ?_
    have fr : Fr2 w w11 b 208 n 2 := fun q h1 h2 => (f14 q (by omega) (by omega)).trans (fr q h1 h2)
    have h0 := (f14 _ (by omega) (by omega)).trans h0
    have s1 := (f14 _ (by omega) (by omega)).trans s1
    have hs := Sch.mv (fun q h1 h2 => f14 q (by omega) (by omega)) hs
    have hL := Tup.mv (fun q h1 h2 => f14 q (by omega) (by omega)) hL
    have hkr := Row.mv (fun q h1 h2 => f14 q (by omega) (by omega)) hkr
    have hlf := Row.mv (fun q h1 h2 => f14 q (by omega) (by omega)) hlf
    have hrg := Row.mv (fun q h1 h2 => f14 q (by omega) (by omega)) hrg
    have hlo := Row.mv (fun q h1 h2 => f14 q (by omega) (by omega)) hlo
    have hhi := Row.mv (fun q h1 h2 => f14 q (by omega) (by omega)) hhi
    have hK := hK.mv (fun q hq => f14 q (by omega) (by omega))
    refine a_istore_n S d_Kc_decode_42 rfl (Nat.le_of_ble_eq_true rfl) (lv' := [(0, .ref b), (1, .int (if ok then 1 else 0))]) rfl ?_
    refine a_iload_n S d_Kc_decode_43 rfl rfl ?_
    refine a_if_eq S (tgt := 82) d_Kc_decode_44 rfl (fun h44 => ?_) (fun h44 => ?_)
    · obtain rfl : ok = false := bo_0 h44
      refine a_iload_n S d_Kc_decode_82 rfl rfl ?_
      refine a_if_ne S (tgt := 96) d_Kc_decode_83 rfl (fun h83 => ?_) (fun h83 => ?_)
      · exact absurd rfl h83
      · exact a_throw S Zt (tx := "no tuple has this key") rfl (by decide +kernel) (by decide +kernel) ow_iae ol_Kc_iae ot_iae oi_iae (by decide) (by decide) (by omega) (by omega) d_Kc_decode_86 d_Kc_decode_89 d_Kc_decode_90 d_Kc_decode_92 d_Kc_decode_95 ⟨rfl, fr, ⟨_, _, _, _, h0, hs, hL, hZ, hkr, hlf, hrg, hK, hlo, hhi, hI⟩⟩
    · obtain rfl : ok = true := bo_1 h44
      refine a_aload_n S d_Kc_decode_47 rfl rfl ?_
      refine a_get S kc_Kc 0 (by decide) lf_Kc_12 h0 rfl d_Kc_decode_48 ?_
      refine a_aload_n S d_Kc_decode_51 rfl rfl ?_
      refine a_get S kc_Kc 2 (by decide) lf_Kc_23 h0 rfl d_Kc_decode_52 ?_
      refine a_aload_n S d_Kc_decode_55 rfl rfl ?_
      refine a_get S kc_Kc 4 (by decide) lf_Kc_33 h0 rfl d_Kc_decode_56 ?_
      refine a_callS S (rest := []) lg_Kc_142 (c_Writer_writeKey X.2.1 D (b + 1) (b + 16) (b + 30) c s K F T1 lf w11 (n + 2) (by omega) (by omega) (hok1 rfl) hs hZ hlf) (by decide) (by omega) (by omega) rfl (Nat.le_of_ble_eq_true rfl) d_Kc_decode_59 (fun v16 w17 n18 p19 => ?_)
      obtain ⟨rfl, e21, f20, hlf⟩ := p19
      rw [e21]
      refine a_st (st' := []) rfl ?_
      have fr : Fr2 w w17 b 208 n 2 := fun q h1 h2 => (f20 q (by omega)).trans (fr q h1 h2)
      have h0 := Fr.cell f20 h0 (by omega)
      have s1 := Fr.cell f20 s1 (by omega)
      have hs := Sch.fr f20 hs (by omega)
      have hL := Tup.fr f20 hL (by omega)
      have hZ := Tup.fr f20 hZ (by omega)
      have hkr := Row.fr f20 hkr (by omega)
      have hrg := Row.fr f20 hrg (by omega)
      have hlo := Row.fr f20 hlo (by omega)
      have hhi := Row.fr f20 hhi (by omega)
      have hK := Kept.fr f20 hK (by omega)
      refine a_aload_n S d_Kc_decode_62 rfl rfl ?_
      refine a_get S kc_Kc 4 (by decide) lf_Kc_33 h0 rfl d_Kc_decode_63 ?_
      refine a_aload_n S d_Kc_decode_66 rfl rfl ?_
      refine a_get S kc_Kc 3 (by decide) lf_Kc_29 h0 rfl d_Kc_decode_67 ?_
      refine a_callV S (rest := []) lg_Kc_166 hlf.cell (c_Row_orderAgainst X.2.1 D (b + 30) (b + 28) (keyB K F T1 c) kr w17 (n + 2) hlf hkr) (by decide) (by omega) (by omega) rfl (Nat.le_of_ble_eq_true rfl) d_Kc_decode_70 (fun v22 w23 n24 p25 => ?_)
      obtain ⟨rfl, e26, e27⟩ := p25
      rw [e26, e27]
      refine a_st (st' := [.int (Int32.ofInt (cmpB (keyB K F T1 c) kr))]) rfl ?_
      refine a_if_ne S (tgt := 80) d_Kc_decode_73 rfl (fun h73 => ?_) (fun h73 => ?_)
      · refine a_iconst S (v := 0) d_Kc_decode_80 (by decide) ?_
        refine a_istore_n S d_Kc_decode_81 rfl (Nat.le_of_ble_eq_true rfl) (lv' := [(0, .ref b), (1, .int 0)]) rfl ?_
        refine a_iload_n S d_Kc_decode_82 rfl rfl ?_
        refine a_if_ne S (tgt := 96) d_Kc_decode_83 rfl (fun h83 => ?_) (fun h83 => ?_)
        · exact absurd rfl h83
        · exact a_throw S Zt (tx := "no tuple has this key") rfl (by decide +kernel) (by decide +kernel) ow_iae ol_Kc_iae ot_iae oi_iae (by decide) (by decide) (by omega) (by omega) d_Kc_decode_86 d_Kc_decode_89 d_Kc_decode_90 d_Kc_decode_92 d_Kc_decode_95 ⟨rfl, fr, ⟨_, _, _, _, h0, hs, hL, hZ, hkr, hlf, hrg, hK, hlo, hhi, hI⟩⟩
      · exact absurd (cmpB_eq (oi_eq.mp h73)).symm (hno T1 (hok1 rfl))
  · exact absurd (bo_0 h7) (by rw [hs0]; decide)
set_option maxHeartbeats 400000 in
set_option maxRecDepth 100000 in
theorem c_Kc_decode (l : Launch) (D : kD) (b c : Nat) (s : Bool) (K F : Nat → Nat) (L : Nat → kV) (kr : List Nat) (m : Nat) (KT : Nat → Nat → kV) (lo hi : List Nat) (he : Bool) (T : Nat → kV) (w : ww) (n : Nat) (hs0 : s = true) (hT : okT K F T c) (hkT : kr = keyB K F T c) (h : Cod D w b c s K F L kr m KT lo hi he) : AM l D M_Kc_decode 6 2 10 [.ref b] w n (fun v w' n' => ∃ T1 : Nat → kV, (∀ j, j < c → T1 j = T j) ∧ v = some (.int 1) ∧ n' = n + 2 ∧ Fr2 w w' b 208 n 2 ∧ Cod D w' b c s K F T1 kr m KT lo hi he) := by
  refine AM.ofz (by decide +kernel) rfl (Nat.le_of_ble_eq_true rfl) (fun X A Q hin S RT => ?_)
  have S : FX X (D, A, 2, Q) prog_1_method_13_code "KeyCodec" 6 2 10 := S
  have RT : RTz X (D, A, 2, Q) prog_1_method_13_code 2 10 _ := RT
  obtain ⟨Z, lf, rg, KK, h0, hs, hL, hZ, hkr, hlf, hrg, hK, hlo, hhi, hI⟩ := h
  have hm := hI.1
  have hc5 := hs.1
  refine a_dom (fun hdom => ?_)
  have hbn : b + 208 ≤ n := by
    obtain ⟨_, _, f_, _, g_, _⟩ := (hK.2 11 (by decide)).2
    have := hdom _ _ g_
    omega
  refine a_lve (lv' := [(0, .ref b)]) rfl ?_
  have fr : Fr2 w w b 208 n 2 := fun _ _ _ => rfl
  refine a_aload_n S d_Kc_decode_0 rfl rfl ?_
  have s1 := hs.cell
  refine a_get S kc_Kc 0 (by decide) lf_Kc_12 h0 rfl d_Kc_decode_1 ?_
  refine a_get S kc_Schema 3 (by decide) lf_Kc_68 s1 rfl d_Kc_decode_4 ?_
  refine a_if_ne S (tgt := 20) d_Kc_decode_7 rfl (fun h7 => ?_) (fun h7 => ?_)
  · refine a_new S kc_Reader kt_Reader lc_Kc_157 in_Reader ii_Reader (fs := [.null, .null, .int 0, .int 0, .null]) df_Reader (by omega) (by omega) d_Kc_decode_20 (fun w1 hn3 e2 => ?_)
    have fr : Fr2 w w1 b 208 n 2 := fun q h1 h2 => ((Fr.of1 e2) q (by omega)).trans (fr q h1 h2)
    have h0 := Fr.cell (Fr.of1 e2) h0 (by omega)
    have s1 := Fr.cell (Fr.of1 e2) s1 (by omega)
    have hs := Sch.fr (Fr.of1 e2) hs (by omega)
    have hL := Tup.fr (Fr.of1 e2) hL (by omega)
    have hZ := Tup.fr (Fr.of1 e2) hZ (by omega)
    have hkr := Row.fr (Fr.of1 e2) hkr (by omega)
    have hlf := Row.fr (Fr.of1 e2) hlf (by omega)
    have hrg := Row.fr (Fr.of1 e2) hrg (by omega)
    have hK := Kept.fr (Fr.of1 e2) hK (by omega)
    have hlo := Row.fr (Fr.of1 e2) hlo (by omega)
    have hhi := Row.fr (Fr.of1 e2) hhi (by omega)
    refine a_dup S d_Kc_decode_23 rfl ?_
    refine a_aload_n S d_Kc_decode_24 rfl rfl ?_
    refine a_get S kc_Kc 0 (by decide) lf_Kc_12 h0 rfl d_Kc_decode_25 ?_
    refine a_aload_n S d_Kc_decode_28 rfl rfl ?_
    refine a_get S kc_Kc 3 (by decide) lf_Kc_29 h0 rfl d_Kc_decode_29 ?_
    refine a_callI S (rest := [_]) lg_Kc_159 (c_Reader_init X.2.1 D n (b + 1) (b + 28) w1 hn3) (by decide) (by omega) (by omega) rfl (Nat.le_of_ble_eq_true rfl) d_Kc_decode_32 (fun v4 w5 n6 p7 => ?_)
    obtain ⟨rfl, e9, f8, hr⟩ := p7
    rw [e9]
    refine a_st (st' := [.ref n]) rfl ?_
    have fr : Fr2 w w5 b 208 n 2 := fun q h1 h2 => (f8 q (by omega)).trans (fr q h1 h2)
    have h0 := Fr.cell f8 h0 (by omega)
    have s1 := Fr.cell f8 s1 (by omega)
    have hs := Sch.fr f8 hs (by omega)
    have hL := Tup.fr f8 hL (by omega)
    have hZ := Tup.fr f8 hZ (by omega)
    have hkr := Row.fr f8 hkr (by omega)
    have hlf := Row.fr f8 hlf (by omega)
    have hrg := Row.fr f8 hrg (by omega)
    have hK := Kept.fr f8 hK (by omega)
    have hlo := Row.fr f8 hlo (by omega)
    have hhi := Row.fr f8 hhi (by omega)
    refine a_aload_n S d_Kc_decode_35 rfl rfl ?_
    refine a_get S kc_Kc 2 (by decide) lf_Kc_23 h0 rfl d_Kc_decode_36 ?_
    refine a_callV S (rest := []) lg_Kc_162 hr.cell (c_Reader_readTuple X.2.1 D (b + 16) c s K F Z n (b + 1) (b + 28) (fun _ => 0) kr w5 (n + 2) (by omega) (by omega) (by omega) (by omega) (by omega) hs hkr hr hZ) (by decide) (by omega) (by omega) rfl (Nat.le_of_ble_eq_true rfl) d_Kc_decode_39 (fun v10 w11 n12 p13 => ?_)
    obtain ⟨ok, T1, rfl, e15, f14, hZ, hok1, hok2⟩ := p13
    rw [e15]
    refine a_st (st' := [.int (if ok then 1 else 0)]) rfl ?_
    have fr : Fr2 w w11 b 208 n 2 := fun q h1 h2 => (f14 q (by omega) (by omega)).trans (fr q h1 h2)
    have h0 := (f14 _ (by omega) (by omega)).trans h0
    have s1 := (f14 _ (by omega) (by omega)).trans s1
    have hs := Sch.mv (fun q h1 h2 => f14 q (by omega) (by omega)) hs
    have hL := Tup.mv (fun q h1 h2 => f14 q (by omega) (by omega)) hL
    have hkr := Row.mv (fun q h1 h2 => f14 q (by omega) (by omega)) hkr
    have hlf := Row.mv (fun q h1 h2 => f14 q (by omega) (by omega)) hlf
    have hrg := Row.mv (fun q h1 h2 => f14 q (by omega) (by omega)) hrg
    have hlo := Row.mv (fun q h1 h2 => f14 q (by omega) (by omega)) hlo
    have hhi := Row.mv (fun q h1 h2 => f14 q (by omega) (by omega)) hhi
    have hK := hK.mv (fun q hq => f14 q (by omega) (by omega))
    refine a_istore_n S d_Kc_decode_42 rfl (Nat.le_of_ble_eq_true rfl) (lv' := [(0, .ref b), (1, .int (if ok then 1 else 0))]) rfl ?_
    refine a_iload_n S d_Kc_decode_43 rfl rfl ?_
    refine a_if_eq S (tgt := 82) d_Kc_decode_44 rfl (fun h44 => ?_) (fun h44 => ?_)
    · exact absurd (bo_0 h44) (by rw [(hok2 T hT hkT).1]; decide)
    · obtain rfl : ok = true := bo_1 h44
      refine a_aload_n S d_Kc_decode_47 rfl rfl ?_
      refine a_get S kc_Kc 0 (by decide) lf_Kc_12 h0 rfl d_Kc_decode_48 ?_
      refine a_aload_n S d_Kc_decode_51 rfl rfl ?_
      refine a_get S kc_Kc 2 (by decide) lf_Kc_23 h0 rfl d_Kc_decode_52 ?_
      refine a_aload_n S d_Kc_decode_55 rfl rfl ?_
      refine a_get S kc_Kc 4 (by decide) lf_Kc_33 h0 rfl d_Kc_decode_56 ?_
      refine a_callS S (rest := []) lg_Kc_142 (c_Writer_writeKey X.2.1 D (b + 1) (b + 16) (b + 30) c s K F T1 lf w11 (n + 2) (by omega) (by omega) (hok1 rfl) hs hZ hlf) (by decide) (by omega) (by omega) rfl (Nat.le_of_ble_eq_true rfl) d_Kc_decode_59 (fun v16 w17 n18 p19 => ?_)
      obtain ⟨rfl, e21, f20, hlf⟩ := p19
      rw [e21]
      refine a_st (st' := []) rfl ?_
      have fr : Fr2 w w17 b 208 n 2 := fun q h1 h2 => (f20 q (by omega)).trans (fr q h1 h2)
      have h0 := Fr.cell f20 h0 (by omega)
      have s1 := Fr.cell f20 s1 (by omega)
      have hs := Sch.fr f20 hs (by omega)
      have hL := Tup.fr f20 hL (by omega)
      have hZ := Tup.fr f20 hZ (by omega)
      have hkr := Row.fr f20 hkr (by omega)
      have hrg := Row.fr f20 hrg (by omega)
      have hlo := Row.fr f20 hlo (by omega)
      have hhi := Row.fr f20 hhi (by omega)
      have hK := Kept.fr f20 hK (by omega)
      refine a_aload_n S d_Kc_decode_62 rfl rfl ?_
      refine a_get S kc_Kc 4 (by decide) lf_Kc_33 h0 rfl d_Kc_decode_63 ?_
      refine a_aload_n S d_Kc_decode_66 rfl rfl ?_
      refine a_get S kc_Kc 3 (by decide) lf_Kc_29 h0 rfl d_Kc_decode_67 ?_
      refine a_callV S (rest := []) lg_Kc_166 hlf.cell (c_Row_orderAgainst X.2.1 D (b + 30) (b + 28) (keyB K F T1 c) kr w17 (n + 2) hlf hkr) (by decide) (by omega) (by omega) rfl (Nat.le_of_ble_eq_true rfl) d_Kc_decode_70 (fun v22 w23 n24 p25 => ?_)
      obtain ⟨rfl, e26, e27⟩ := p25
      rw [e26, e27]
      refine a_st (st' := [.int (Int32.ofInt (cmpB (keyB K F T1 c) kr))]) rfl ?_
      refine a_if_ne S (tgt := 80) d_Kc_decode_73 rfl (fun h73 => ?_) (fun h73 => ?_)
      · exact absurd (by rw [keyB_cg (hok2 T hT hkT).2, ← hkT, cmpB_self]; rfl) h73
      · refine a_iconst S (v := 1) d_Kc_decode_76 (by decide) ?_
        refine a_goto S (tgt := 81) d_Kc_decode_77 rfl ?_
        refine a_istore_n S d_Kc_decode_81 rfl (Nat.le_of_ble_eq_true rfl) (lv' := [(0, .ref b), (1, .int 1)]) rfl ?_
        refine a_iload_n S d_Kc_decode_82 rfl rfl ?_
        refine a_if_ne S (tgt := 96) d_Kc_decode_83 rfl (fun h83 => ?_) (fun h83 => ?_)
        · refine a_aload_n S d_Kc_decode_96 rfl rfl ?_
          refine a_get S kc_Kc 1 (by decide) lf_Kc_19 h0 rfl d_Kc_decode_97 ?_
          refine a_aload_n S d_Kc_decode_100 rfl rfl ?_
          refine a_get S kc_Kc 2 (by decide) lf_Kc_23 h0 rfl d_Kc_decode_101 ?_
          refine a_callV S (rest := []) lg_Kc_172 hL.cell (c_Tuple_become X.2.1 D (b + 4) (b + 16) L T1 w17 (n + 2) (by omega) hL hZ) (by decide) (by omega) (by omega) rfl (Nat.le_of_ble_eq_true rfl) d_Kc_decode_104 (fun v28 w29 n30 p31 => ?_)
          obtain ⟨rfl, e33, f32, hL⟩ := p31
          rw [e33]
          refine a_st (st' := []) rfl ?_
          have fr : Fr2 w w29 b 208 n 2 := fun q h1 h2 => (f32 q (by omega)).trans (fr q h1 h2)
          have h0 := Fr.cell f32 h0 (by omega)
          have s1 := Fr.cell f32 s1 (by omega)
          have hs := Sch.fr f32 hs (by omega)
          have hZ := Tup.fr f32 hZ (by omega)
          have hkr := Row.fr f32 hkr (by omega)
          have hlf := Row.fr f32 hlf (by omega)
          have hrg := Row.fr f32 hrg (by omega)
          have hlo := Row.fr f32 hlo (by omega)
          have hhi := Row.fr f32 hhi (by omega)
          have hK := Kept.fr f32 hK (by omega)
          refine a_iconst S (v := 1) d_Kc_decode_107 (by decide) ?_
          exact RT _ _ _ _ _ _ _ d_Kc_decode_108 rfl (by omega) (by omega) ⟨T1, (hok2 T hT hkT).2, rfl, rfl, fr, _, _, _, _, h0, hs, hL, hZ, hkr, hlf, hrg, hK, hlo, hhi, ⟨hm, (fun _ => hok1 rfl), hI.2.2⟩⟩
        · exact absurd h83 (by decide)
  · exact absurd (bo_0 h7) (by rw [hs0]; decide)
