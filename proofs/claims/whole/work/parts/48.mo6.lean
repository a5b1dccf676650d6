set_option maxHeartbeats 400000 in
set_option maxRecDepth 100000 in
theorem c_Mod_compareKeys (l : Launch) (D : kD) (b : Nat) (th : Int32) (c : Nat) (s : Bool) (K F : Nat → Nat) (L : Nat → kV) (kr : List Nat) (m : Nat) (KT : Nat → Nat → kV) (lo hi : List Nat) (he : Bool) (i x : Int32) (w : ww) (n : Nat) (hV : VI c s K F L m KT) (h : Mdl D w b th c s K F L kr m KT lo hi he) : AM l D M_Mod_compareKeys 4 0 0 [.ref b, .int i, .int x] w n (fun v w' n' => ((∃ t u, t < m ∧ u < m ∧ i = nI t ∧ x = nI u ∧ v = some (.int (Int32.ofInt (cmpB ((kyT K F KT c) t) ((kyT K F KT c) u))))) ∨ ((∀ t u, t < m → u < m → i = nI t → x = nI u → False) ∧ v = some (.int (-2)))) ∧ n' = n ∧ Fr w w' b 14 ∧ Mdl D w' b 0 c s K F L kr m KT lo hi he) := by
  refine AM.ofi (by decide +kernel) rfl (Nat.le_of_ble_eq_true rfl) (fun X A Q hin S RT => ?_)
  have S : FX X (D, A, 3, Q) prog_9_method_49_code "KeyCodecModel" 4 0 0 := S
  have RT : RTi X (D, A, 3, Q) prog_9_method_49_code 0 0 _ := RT
  obtain ⟨ki, fl, va, fo, go, si, te, ro, ma, sz, en, ms, lw, hw, pt, bd, h, hI, hG⟩ := h
  obtain ⟨h0, h1, h2, h3, h4, h5, h6, h7, h8, h9, h10, h11, h12, h13⟩ := h
  have hc5 := hI.1
  have hm12 := hI.2.1
  have hkr := hI.2.2.1
  have hlo := hI.2.2.2.1
  have hhi := hI.2.2.2.2.1
  have hkf := hI.2.2.2.2.2.1
  refine a_lve (lv' := [(0, .ref b), (1, .int i), (2, .int x)]) rfl ?_
  have fr : Fr w w b 14 := Fr.refl _ _ _
  refine a_aload_n S d_Mod_compareKeys_0 rfl rfl ?_
  refine a_iconst S (v := 0) d_Mod_compareKeys_1 (by decide) ?_
  refine a_put S kc_Mod kt_Mod 0 (by decide) lf_Mod_55 rfl h0 rfl rfl (Nat.le_of_ble_eq_true rfl) d_Mod_compareKeys_2 (fun w1 h0 e2 => ?_)
  have h0 : w1 b = some (.inr (6, [.int 0, .int (nI c), .int (if s then 1 else 0), .ref (b + 1), .ref (b + 2), .ref (b + 3), .ref (b + 4), .ref (b + 5), .ref (b + 6), .ref (b + 7), .int (nI m), .ref (b + 8), .int (nI kr.length), .ref (b + 9), .int (nI sz), .ref (b + 10), .ref (b + 11), .ref (b + 12), .ref (b + 13), .int (nI lo.length), .int (if he then nI hi.length else -1), .int (nI pt), .int (if bd then 1 else 0)])) := h0
  have fr := fr.trans (Fr.sub (Fr.of1 e2) (by omega) (by omega))
  have h1 := Fr.cell (Fr.of1 e2) h1 (by omega)
  have h2 := Fr.cell (Fr.of1 e2) h2 (by omega)
  have h3 := Fr.cell (Fr.of1 e2) h3 (by omega)
  have h4 := Fr.cell (Fr.of1 e2) h4 (by omega)
  have h5 := Fr.cell (Fr.of1 e2) h5 (by omega)
  have h6 := Fr.cell (Fr.of1 e2) h6 (by omega)
  have h7 := Fr.cell (Fr.of1 e2) h7 (by omega)
  have h8 := Fr.cell (Fr.of1 e2) h8 (by omega)
  have h9 := Fr.cell (Fr.of1 e2) h9 (by omega)
  have h10 := Fr.cell (Fr.of1 e2) h10 (by omega)
  have h11 := Fr.cell (Fr.of1 e2) h11 (by omega)
  have h12 := Fr.cell (Fr.of1 e2) h12 (by omega)
  have h13 := Fr.cell (Fr.of1 e2) h13 (by omega)
  refine a_aload_n S d_Mod_compareKeys_5 rfl rfl ?_
  refine a_iload_n S d_Mod_compareKeys_6 rfl rfl ?_
  refine a_callV S (rest := []) lg_Mod_177 h0 (c_Mod_isKept X.2.1 D b 0 c s ki fl va fo go si te m ro kr.length ma sz en ms lw hw lo.length (if he then nI hi.length else -1) pt bd i w1 n  ⟨h0, h1, h2, h3, h4, h5, h6, h7, h8, h9, h10, h11, h12, h13⟩) (by decide) (by omega) (by omega) rfl (Nat.le_of_ble_eq_true rfl) d_Mod_compareKeys_7 (fun v3 w4 n5 p6 => ?_)
  obtain ⟨rfl, e7, e8⟩ := p6
  rw [e7, e8]
  refine a_st (st' := [.int (if usB true m i then 1 else 0)]) rfl ?_
  refine a_if_eq S (tgt := 21) d_Mod_compareKeys_10 rfl (fun hu_ => ?_) (fun hu_ => ?_)
  · have hx : ∀ t u, t < m → u < m → i = nI t → x = nI u → False := fun t u ht hu e e2 => usB_no (by omega) (bo_0 hu_) ht rfl e
    refine a_bipush S (v := (-2)) d_Mod_compareKeys_21 (by decide) ?_
    exact RT _ _ _ _ _ _ _ d_Mod_compareKeys_23 (by omega) (by omega) ⟨Or.inr ⟨hx, rfl⟩, rfl, fr, ⟨_, _, _, _, _, _, _, _, _, _, _, _, _, _, _, _, ⟨h0, h1, h2, h3, h4, h5, h6, h7, h8, h9, h10, h11, h12, h13⟩, hI, hG⟩⟩
  · obtain ⟨hs_t, t, ht, rfl⟩ := usB_ix (by omega) (bo_1 hu_)
    have ok_t := (hV.2 t ht).2
    have kl_t := keyB_l ok_t hc5
    refine a_aload_n S d_Mod_compareKeys_13 rfl rfl ?_
    refine a_iload_n S d_Mod_compareKeys_14 rfl rfl ?_
    refine a_callV S (rest := []) lg_Mod_177 h0 (c_Mod_isKept X.2.1 D b 0 c s ki fl va fo go si te m ro kr.length ma sz en ms lw hw lo.length (if he then nI hi.length else -1) pt bd x w1 n  ⟨h0, h1, h2, h3, h4, h5, h6, h7, h8, h9, h10, h11, h12, h13⟩) (by decide) (by omega) (by omega) rfl (Nat.le_of_ble_eq_true rfl) d_Mod_compareKeys_15 (fun v9 w10 n11 p12 => ?_)
    obtain ⟨rfl, e13, e14⟩ := p12
    rw [e13, e14]
    refine a_st (st' := [.int (if usB true m x then 1 else 0)]) rfl ?_
    refine a_if_ne S (tgt := 24) d_Mod_compareKeys_18 rfl (fun h18 => ?_) (fun h18 => ?_)
    · obtain ⟨hs_u, u, hu, rfl⟩ := usB_ix (by omega) (bo_1 h18)
      have ok_u := (hV.2 u hu).2
      have kl_u := keyB_l ok_u hc5
      refine a_aload_n S d_Mod_compareKeys_24 rfl rfl ?_
      refine a_iconst S (v := 0) d_Mod_compareKeys_25 (by decide) ?_
      refine a_iload_n S d_Mod_compareKeys_26 rfl rfl ?_
      refine a_iconst S (v := 1) d_Mod_compareKeys_27 (by decide) ?_
      refine a_iadd S d_Mod_compareKeys_28 ?_
      refine a_eqi (y := nI (t + 1)) (ni_add rfl rfl) ?_
      refine a_callV S (rest := []) lg_Mod_136 h0 (c_Mod_make X.2.1 D b 0 c s ki fl va fo go si te m ro kr.length ma sz en ms lw hw lo.length (if he then nI hi.length else -1) pt bd 0 (t + 1) K F (KT t) w1 n (by decide) (by omega) hc5 hkf (hI.v1 ht) ok_t ⟨h0, h1, h2, h3, h4, h5, h6, h7, h8, h9, h10, h11, h12, h13⟩) (by decide) (by omega) (by omega) rfl (Nat.le_of_ble_eq_true rfl) d_Mod_compareKeys_29 (fun v15 w16 n17 p18 => ?_)
      obtain ⟨en_21, rfl, e20, f19, ⟨h0, h1, h2, h3, h4, h5, h6, h7, h8, h9, h10, h11, h12, h13⟩, hE22⟩ := p18
      rw [e20]
      refine a_st (st' := []) rfl ?_
      have fr := fr.trans (Fr.sub f19 (by omega) (by omega))
      refine a_aload_n S d_Mod_compareKeys_32 rfl rfl ?_
      refine a_iconst S (v := 1) d_Mod_compareKeys_33 (by decide) ?_
      refine a_iload_n S d_Mod_compareKeys_34 rfl rfl ?_
      refine a_iconst S (v := 1) d_Mod_compareKeys_35 (by decide) ?_
      refine a_iadd S d_Mod_compareKeys_36 ?_
      refine a_eqi (y := nI (u + 1)) (ni_add rfl rfl) ?_
      refine a_callV S (rest := []) lg_Mod_136 h0 (c_Mod_make X.2.1 D b 0 c s ki fl va fo go si te m ro kr.length (wrL ma (200 * 0) (keyB K F (KT t) c)) ((keyB K F (KT t) c).length) en_21 (upd ms 0 (nI (keyB K F (KT t) c).length)) lw hw lo.length (if he then nI hi.length else -1) pt bd 1 (u + 1) K F (KT u) w16 n (by decide) (by omega) hc5 hkf (hI.v1 hu) ok_u ⟨h0, h1, h2, h3, h4, h5, h6, h7, h8, h9, h10, h11, h12, h13⟩) (by decide) (by omega) (by omega) rfl (Nat.le_of_ble_eq_true rfl) d_Mod_compareKeys_37 (fun v23 w24 n25 p26 => ?_)
      obtain ⟨en_29, rfl, e28, f27, ⟨h0, h1, h2, h3, h4, h5, h6, h7, h8, h9, h10, h11, h12, h13⟩, hE30⟩ := p26
      rw [e28]
      refine a_st (st' := []) rfl ?_
      have fr := fr.trans (Fr.sub f27 (by omega) (by omega))
      refine a_aload_n S d_Mod_compareKeys_40 rfl rfl ?_
      refine a_callV S (rest := []) lg_Mod_201 h0 (c_Mod_orderMade X.2.1 D b 0 c s ki fl va fo go si te m ro kr.length (wrL (wrL ma (200 * 0) (keyB K F (KT t) c)) (200 * 1) (keyB K F (KT u) c)) ((keyB K F (KT u) c).length) en_29 (upd (upd ms 0 (nI (keyB K F (KT t) c).length)) 1 (nI (keyB K F (KT u) c).length)) lw hw lo.length (if he then nI hi.length else -1) pt bd (keyB K F (KT t) c) (keyB K F (KT u) c) w24 n (keyB_lt ok_t) (keyB_lt ok_u) (by omega) (by omega) us01 pk_us (fun i hi => om_1 (by omega) hi) (fun i hi => om_2 hi) ⟨h0, h1, h2, h3, h4, h5, h6, h7, h8, h9, h10, h11, h12, h13⟩) (by decide) (by omega) (by omega) rfl (Nat.le_of_ble_eq_true rfl) d_Mod_compareKeys_41 (fun v31 w32 n33 p34 => ?_)
      obtain ⟨rfl, e35, e36⟩ := p34
      rw [e35, e36]
      refine a_st (st' := [.int (Int32.ofInt (cmpB (keyB K F (KT t) c) (keyB K F (KT u) c)))]) rfl ?_
      exact RT _ _ _ _ _ _ _ d_Mod_compareKeys_44 (by omega) (by omega) ⟨Or.inl ⟨t, u, ht, hu, rfl, rfl, rfl⟩, rfl, fr, ⟨_, _, _, _, _, _, _, _, _, _, _, _, _, _, _, _, ⟨h0, h1, h2, h3, h4, h5, h6, h7, h8, h9, h10, h11, h12, h13⟩, hI, hG⟩⟩
    · have hx : ∀ t2 u, t2 < m → u < m → nI t = nI t2 → x = nI u → False := fun t2 u ht2 hu e e2 => usB_no (by omega) (bo_0 h18) hu rfl e2
      refine a_bipush S (v := (-2)) d_Mod_compareKeys_21 (by decide) ?_
      exact RT _ _ _ _ _ _ _ d_Mod_compareKeys_23 (by omega) (by omega) ⟨Or.inr ⟨hx, rfl⟩, rfl, fr, ⟨_, _, _, _, _, _, _, _, _, _, _, _, _, _, _, _, ⟨h0, h1, h2, h3, h4, h5, h6, h7, h8, h9, h10, h11, h12, h13⟩, hI, hG⟩⟩
set_option maxHeartbeats 400000 in
set_option maxRecDepth 100000 in
theorem c_Mod_rankOf (l : Launch) (D : kD) (b : Nat) (th : Int32) (c : Nat) (s : Bool) (K F : Nat → Nat) (L : Nat → kV) (kr : List Nat) (m : Nat) (KT : Nat → Nat → kV) (lo hi : List Nat) (he : Bool) (t : Nat) (w : ww) (n : Nat) (hV : VI c s K F L m KT) (ht : t < m) (h : Mdl D w b th c s K F L kr m KT lo hi he) : AM l D M_Mod_rankOf 4 0 0 [.ref b, .int (nI t)] w n (fun v w' n' => v = some (.int (nI (rankB (kyT K F KT c) m t))) ∧ n' = n ∧ Fr w w' b 14 ∧ Mdl D w' b th c s K F L kr m KT lo hi he) := by
  refine AM.ofi (by decide +kernel) rfl (Nat.le_of_ble_eq_true rfl) (fun X A Q hin S RT => ?_)
  have S : FX X (D, A, 5, Q) prog_9_method_50_code "KeyCodecModel" 4 0 0 := S
  have RT : RTi X (D, A, 5, Q) prog_9_method_50_code 0 0 _ := RT
  obtain ⟨ki, fl, va, fo, go, si, te, ro, ma, sz, en, ms, lw, hw, pt, bd, h, hI, hG⟩ := h
  obtain ⟨h0, h1, h2, h3, h4, h5, h6, h7, h8, h9, h10, h11, h12, h13⟩ := h
  have hc5 := hI.1
  have hm12 := hI.2.1
  have hkr := hI.2.2.1
  have hlo := hI.2.2.2.1
  have hhi := hI.2.2.2.2.1
  have hkf := hI.2.2.2.2.2.1
  have ok_t := (hV.2 t ht).2
  have kl_t := keyB_l ok_t hc5
  refine a_lve (lv' := [(0, .ref b), (1, .int (nI t))]) rfl ?_
  have fr : Fr w w b 14 := Fr.refl _ _ _
  refine a_iconst S (v := 0) d_Mod_rankOf_0 (by decide) ?_
  refine a_istore_n S d_Mod_rankOf_1 rfl (Nat.le_of_ble_eq_true rfl) (lv' := [(0, .ref b), (1, .int (nI t)), (2, .int 0)]) rfl ?_
  refine a_iconst S (v := 0) d_Mod_rankOf_2 (by decide) ?_
  refine a_istore_n S d_Mod_rankOf_3 rfl (Nat.le_of_ble_eq_true rfl) (lv' := [(0, .ref b), (1, .int (nI t)), (2, .int 0), (3, .int 0)]) rfl ?_
  have loop4 : ∀ (kk4 : Nat) (g : Nat) (w1 : ww), m - g = kk4 → (g ≤ m) → (Fr w w1 b 14) → (Mdl D w1 b th c s K F L kr m KT lo hi he) → AW X (D, A, 5, Q) 4 [(0, .ref b), (1, .int (nI t)), (2, .int (nI (cntB (bef (kyT K F KT c) t) g))), (3, .int (nI g))] [] w1 n 0 0 := by
    intro kk4
    induction kk4 using Nat.strongRecOn with
    | ind kk4 ih4 =>
      intro g w1 hk4 hg fr h
      obtain ⟨ki, fl, va, fo, go, si, te, ro, ma, sz, en, ms, lw, hw, pt, bd, h, hI, hG⟩ := h
      obtain ⟨h0, h1, h2, h3, h4, h5, h6, h7, h8, h9, h10, h11, h12, h13⟩ := h
      have hc5 := hI.1
      have hm12 := hI.2.1
      have hkr := hI.2.2.1
      have hlo := hI.2.2.2.1
      have hhi := hI.2.2.2.2.1
      have hkf := hI.2.2.2.2.2.1
      refine a_iload_n S d_Mod_rankOf_4 rfl rfl ?_
      refine a_aload_n S d_Mod_rankOf_5 rfl rfl ?_
      refine a_get S kc_Mod 10 (by decide) lf_Mod_69 h0 rfl d_Mod_rankOf_6 ?_
      refine a_icmp_ge S (tgt := 63) d_Mod_rankOf_9 rfl (fun hm_ => ?_) (fun hm_ => ?_)
      · have hg : g = m := Nat.le_antisymm hg ((nI_leI (by omega) (by omega)).mp hm_)
        refine a_iload_n S d_Mod_rankOf_63 rfl rfl ?_
        exact RT _ _ _ _ _ _ _ d_Mod_rankOf_64 (by omega) (by omega) ⟨by rw [hg]; rfl, rfl, fr, ⟨_, _, _, _, _, _, _, _, _, _, _, _, _, _, _, _, ⟨h0, h1, h2, h3, h4, h5, h6, h7, h8, h9, h10, h11, h12, h13⟩, hI, hG⟩⟩
      · have hg : g < m := Nat.not_le.mp fun z => hm_ ((nI_leI (by omega) (by omega)).mpr z)
        have ok_g := (hV.2 g hg).2
        have kl_g := keyB_l ok_g hc5
        refine a_aload_n S d_Mod_rankOf_12 rfl rfl ?_
        refine a_iconst S (v := 0) d_Mod_rankOf_13 (by decide) ?_
        refine a_iload_n S d_Mod_rankOf_14 rfl rfl ?_
        refine a_iconst S (v := 1) d_Mod_rankOf_15 (by decide) ?_
        refine a_iadd S d_Mod_rankOf_16 ?_
        refine a_eqi (y := nI (g + 1)) (ni_add rfl rfl) ?_
        refine a_callV S (rest := []) lg_Mod_136 h0 (c_Mod_make X.2.1 D b th c s ki fl va fo go si te m ro kr.length ma sz en ms lw hw lo.length (if he then nI hi.length else -1) pt bd 0 (g + 1) K F (KT g) w1 n (by decide) (by omega) hc5 hkf (hI.v1 hg) ok_g ⟨h0, h1, h2, h3, h4, h5, h6, h7, h8, h9, h10, h11, h12, h13⟩) (by decide) (by omega) (by omega) rfl (Nat.le_of_ble_eq_true rfl) d_Mod_rankOf_17 (fun v1 w2 n3 p4 => ?_)
        obtain ⟨en_7, rfl, e6, f5, ⟨h0, h1, h2, h3, h4, h5, h6, h7, h8, h9, h10, h11, h12, h13⟩, hE8⟩ := p4
        rw [e6]
        refine a_st (st' := []) rfl ?_
        have fr := fr.trans (Fr.sub f5 (by omega) (by omega))
        refine a_aload_n S d_Mod_rankOf_20 rfl rfl ?_
        refine a_iconst S (v := 1) d_Mod_rankOf_21 (by decide) ?_
        refine a_iload_n S d_Mod_rankOf_22 rfl rfl ?_
        refine a_iconst S (v := 1) d_Mod_rankOf_23 (by decide) ?_
        refine a_iadd S d_Mod_rankOf_24 ?_
        refine a_eqi (y := nI (t + 1)) (ni_add rfl rfl) ?_
        refine a_callV S (rest := []) lg_Mod_136 h0 (c_Mod_make X.2.1 D b th c s ki fl va fo go si te m ro kr.length (wrL ma (200 * 0) (keyB K F (KT g) c)) ((keyB K F (KT g) c).length) en_7 (upd ms 0 (nI (keyB K F (KT g) c).length)) lw hw lo.length (if he then nI hi.length else -1) pt bd 1 (t + 1) K F (KT t) w2 n (by decide) (by omega) hc5 hkf (hI.v1 ht) ok_t ⟨h0, h1, h2, h3, h4, h5, h6, h7, h8, h9, h10, h11, h12, h13⟩) (by decide) (by omega) (by omega) rfl (Nat.le_of_ble_eq_true rfl) d_Mod_rankOf_25 (fun v9 w10 n11 p12 => ?_)
        obtain ⟨en_15, rfl, e14, f13, ⟨h0, h1, h2, h3, h4, h5, h6, h7, h8, h9, h10, h11, h12, h13⟩, hE16⟩ := p12
        rw [e14]
        refine a_st (st' := []) rfl ?_
        have fr := fr.trans (Fr.sub f13 (by omega) (by omega))
        refine a_aload_n S d_Mod_rankOf_28 rfl rfl ?_
        refine a_callV S (rest := []) lg_Mod_201 h0 (c_Mod_orderMade X.2.1 D b th c s ki fl va fo go si te m ro kr.length (wrL (wrL ma (200 * 0) (keyB K F (KT g) c)) (200 * 1) (keyB K F (KT t) c)) ((keyB K F (KT t) c).length) en_15 (upd (upd ms 0 (nI (keyB K F (KT g) c).length)) 1 (nI (keyB K F (KT t) c).length)) lw hw lo.length (if he then nI hi.length else -1) pt bd (keyB K F (KT g) c) (keyB K F (KT t) c) w10 n (keyB_lt ok_g) (keyB_lt ok_t) (by omega) (by omega) us01 pk_us (fun i hi => om_1 (by omega) hi) (fun i hi => om_2 hi) ⟨h0, h1, h2, h3, h4, h5, h6, h7, h8, h9, h10, h11, h12, h13⟩) (by decide) (by omega) (by omega) rfl (Nat.le_of_ble_eq_true rfl) d_Mod_rankOf_29 (fun v17 w18 n19 p20 => ?_)
        obtain ⟨rfl, e21, e22⟩ := p20
        rw [e21, e22]
        refine a_st (st' := [.int (Int32.ofInt (cmpB (keyB K F (KT g) c) (keyB K F (KT t) c)))]) rfl ?_
        refine a_istore S d_Mod_rankOf_32 (Nat.le_of_ble_eq_true rfl) (lv' := [(0, .ref b), (1, .int (nI t)), (2, .int (nI (cntB (bef (kyT K F KT c) t) g))), (3, .int (nI g)), (4, .int (Int32.ofInt (cmpB (keyB K F (KT g) c) (keyB K F (KT t) c))))]) rfl ?_
        refine a_iload_n S d_Mod_rankOf_34 rfl rfl ?_
        refine a_iload S d_Mod_rankOf_35 rfl ?_
        refine a_if_lt S (tgt := 50) d_Mod_rankOf_37 rfl (fun h37 => ?_) (fun h37 => ?_)
        · refine a_iconst S (v := 1) d_Mod_rankOf_50 (by decide) ?_
          refine a_goto S (tgt := 55) d_Mod_rankOf_51 rfl ?_
          refine a_iadd S d_Mod_rankOf_55 ?_
          refine a_eqi (y := nI (cntB (bef (kyT K F KT c) t) g + 1)) (ni_add rfl rfl) ?_
          refine a_istore_n S d_Mod_rankOf_56 rfl (Nat.le_of_ble_eq_true rfl) (lv' := [(0, .ref b), (1, .int (nI t)), (2, .int (nI (cntB (bef (kyT K F KT c) t) g + 1))), (3, .int (nI g)), (4, .int (Int32.ofInt (cmpB (keyB K F (KT g) c) (keyB K F (KT t) c))))]) rfl ?_
          refine a_iinc S (v := nI (g + 1)) d_Mod_rankOf_57 rfl (ni_add rfl (by decide)) (Nat.le_of_ble_eq_true rfl) (lv' := [(0, .ref b), (1, .int (nI t)), (2, .int (nI (cntB (bef (kyT K F KT c) t) g + 1))), (3, .int (nI (g + 1))), (4, .int (Int32.ofInt (cmpB (keyB K F (KT g) c) (keyB K F (KT t) c))))]) rfl ?_
          refine a_goto S (tgt := 4) d_Mod_rankOf_60 rfl ?_
          refine a_lv [0, 1, 2, 3] (lv' := [(0, .ref b), (1, .int (nI t)), (2, .int (nI (cntB (bef (kyT K F KT c) t) g + 1))), (3, .int (nI (g + 1)))]) rfl ?_
          refine a_lve (lv' := [(0, .ref b), (1, .int (nI t)), (2, .int (nI (cntB (bef (kyT K F KT c) t) (g + 1)))), (3, .int (nI (g + 1)))]) (by rw [cntB_1 (bef_1 (ks := (kyT K F KT c)) h37)]; try rfl) ?_
          exact ih4 _ (by omega) (g + 1) w10 rfl (by omega) fr ⟨_, _, _, _, _, _, _, _, _, _, _, _, _, _, _, _, ⟨h0, h1, h2, h3, h4, h5, h6, h7, h8, h9, h10, h11, h12, h13⟩, hI, hG⟩
        · refine a_iload S d_Mod_rankOf_40 rfl ?_
          refine a_if_ne S (tgt := 54) d_Mod_rankOf_42 rfl (fun h42 => ?_) (fun h42 => ?_)
          · refine a_iconst S (v := 0) d_Mod_rankOf_54 (by decide) ?_
            refine a_iadd S d_Mod_rankOf_55 ?_
            refine a_eqi (y := nI (cntB (bef (kyT K F KT c) t) g + 0)) (ni_add rfl rfl) ?_
            refine a_istore_n S d_Mod_rankOf_56 rfl (Nat.le_of_ble_eq_true rfl) (lv' := [(0, .ref b), (1, .int (nI t)), (2, .int (nI (cntB (bef (kyT K F KT c) t) g + 0))), (3, .int (nI g)), (4, .int (Int32.ofInt (cmpB (keyB K F (KT g) c) (keyB K F (KT t) c))))]) rfl ?_
            refine a_iinc S (v := nI (g + 1)) d_Mod_rankOf_57 rfl (ni_add rfl (by decide)) (Nat.le_of_ble_eq_true rfl) (lv' := [(0, .ref b), (1, .int (nI t)), (2, .int (nI (cntB (bef (kyT K F KT c) t) g + 0))), (3, .int (nI (g + 1))), (4, .int (Int32.ofInt (cmpB (keyB K F (KT g) c) (keyB K F (KT t) c))))]) rfl ?_
            refine a_goto S (tgt := 4) d_Mod_rankOf_60 rfl ?_
            refine a_lv [0, 1, 2, 3] (lv' := [(0, .ref b), (1, .int (nI t)), (2, .int (nI (cntB (bef (kyT K F KT c) t) g + 0))), (3, .int (nI (g + 1)))]) rfl ?_
            refine a_lve (lv' := [(0, .ref b), (1, .int (nI t)), (2, .int (nI (cntB (bef (kyT K F KT c) t) (g + 1)))), (3, .int (nI (g + 1)))]) (by rw [cntB_0 (bef_3 (ks := (kyT K F KT c)) h37 h42)]; try rfl) ?_
            exact ih4 _ (by omega) (g + 1) w10 rfl (by omega) fr ⟨_, _, _, _, _, _, _, _, _, _, _, _, _, _, _, _, ⟨h0, h1, h2, h3, h4, h5, h6, h7, h8, h9, h10, h11, h12, h13⟩, hI, hG⟩
          · refine a_iload_n S d_Mod_rankOf_45 rfl rfl ?_
            refine a_iload_n S d_Mod_rankOf_46 rfl rfl ?_
            refine a_icmp_ge S (tgt := 54) d_Mod_rankOf_47 rfl (fun h47 => ?_) (fun h47 => ?_)
            · refine a_iconst S (v := 0) d_Mod_rankOf_54 (by decide) ?_
              refine a_iadd S d_Mod_rankOf_55 ?_
              refine a_eqi (y := nI (cntB (bef (kyT K F KT c) t) g + 0)) (ni_add rfl rfl) ?_
              refine a_istore_n S d_Mod_rankOf_56 rfl (Nat.le_of_ble_eq_true rfl) (lv' := [(0, .ref b), (1, .int (nI t)), (2, .int (nI (cntB (bef (kyT K F KT c) t) g + 0))), (3, .int (nI g)), (4, .int (Int32.ofInt (cmpB (keyB K F (KT g) c) (keyB K F (KT t) c))))]) rfl ?_
              refine a_iinc S (v := nI (g + 1)) d_Mod_rankOf_57 rfl (ni_add rfl (by decide)) (Nat.le_of_ble_eq_true rfl) (lv' := [(0, .ref b), (1, .int (nI t)), (2, .int (nI (cntB (bef (kyT K F KT c) t) g + 0))), (3, .int (nI (g + 1))), (4, .int (Int32.ofInt (cmpB (keyB K F (KT g) c) (keyB K F (KT t) c))))]) rfl ?_
              refine a_goto S (tgt := 4) d_Mod_rankOf_60 rfl ?_
              refine a_lv [0, 1, 2, 3] (lv' := [(0, .ref b), (1, .int (nI t)), (2, .int (nI (cntB (bef (kyT K F KT c) t) g + 0))), (3, .int (nI (g + 1)))]) rfl ?_
              refine a_lve (lv' := [(0, .ref b), (1, .int (nI t)), (2, .int (nI (cntB (bef (kyT K F KT c) t) (g + 1)))), (3, .int (nI (g + 1)))]) (by rw [cntB_0 (bef_4 (ks := (kyT K F KT c)) h37 (Nat.not_lt.mpr ((nI_leI (by omega) (by omega)).mp h47)))]; try rfl) ?_
              exact ih4 _ (by omega) (g + 1) w10 rfl (by omega) fr ⟨_, _, _, _, _, _, _, _, _, _, _, _, _, _, _, _, ⟨h0, h1, h2, h3, h4, h5, h6, h7, h8, h9, h10, h11, h12, h13⟩, hI, hG⟩
            · refine a_iconst S (v := 1) d_Mod_rankOf_50 (by decide) ?_
              refine a_goto S (tgt := 55) d_Mod_rankOf_51 rfl ?_
              refine a_iadd S d_Mod_rankOf_55 ?_
              refine a_eqi (y := nI (cntB (bef (kyT K F KT c) t) g + 1)) (ni_add rfl rfl) ?_
              refine a_istore_n S d_Mod_rankOf_56 rfl (Nat.le_of_ble_eq_true rfl) (lv' := [(0, .ref b), (1, .int (nI t)), (2, .int (nI (cntB (bef (kyT K F KT c) t) g + 1))), (3, .int (nI g)), (4, .int (Int32.ofInt (cmpB (keyB K F (KT g) c) (keyB K F (KT t) c))))]) rfl ?_
              refine a_iinc S (v := nI (g + 1)) d_Mod_rankOf_57 rfl (ni_add rfl (by decide)) (Nat.le_of_ble_eq_true rfl) (lv' := [(0, .ref b), (1, .int (nI t)), (2, .int (nI (cntB (bef (kyT K F KT c) t) g + 1))), (3, .int (nI (g + 1))), (4, .int (Int32.ofInt (cmpB (keyB K F (KT g) c) (keyB K F (KT t) c))))]) rfl ?_
              refine a_goto S (tgt := 4) d_Mod_rankOf_60 rfl ?_
              refine a_lv [0, 1, 2, 3] (lv' := [(0, .ref b), (1, .int (nI t)), (2, .int (nI (cntB (bef (kyT K F KT c) t) g + 1))), (3, .int (nI (g + 1)))]) rfl ?_
              refine a_lve (lv' := [(0, .ref b), (1, .int (nI t)), (2, .int (nI (cntB (bef (kyT K F KT c) t) (g + 1)))), (3, .int (nI (g + 1)))]) (by rw [cntB_1 (bef_2 (ks := (kyT K F KT c)) h42 (Nat.not_le.mp fun z => h47 ((nI_leI (by omega) (by omega)).mpr z)))]; try rfl) ?_
              exact ih4 _ (by omega) (g + 1) w10 rfl (by omega) fr ⟨_, _, _, _, _, _, _, _, _, _, _, _, _, _, _, _, ⟨h0, h1, h2, h3, h4, h5, h6, h7, h8, h9, h10, h11, h12, h13⟩, hI, hG⟩
  exact loop4 _ 0 w rfl (Nat.zero_le _) fr ⟨_, _, _, _, _, _, _, _, _, _, _, _, _, _, _, _, ⟨h0, h1, h2, h3, h4, h5, h6, h7, h8, h9, h10, h11, h12, h13⟩, hI, hG⟩
set_option maxHeartbeats 400000 in
set_option maxRecDepth 100000 in
theorem c_Mod_rank (l : Launch) (D : kD) (b : Nat) (th : Int32) (c : Nat) (s : Bool) (K F : Nat → Nat) (L : Nat → kV) (kr : List Nat) (m : Nat) (KT : Nat → Nat → kV) (lo hi : List Nat) (he : Bool) (i : Int32) (w : ww) (n : Nat) (hV : VI c s K F L m KT) (h : Mdl D w b th c s K F L kr m KT lo hi he) : AM l D M_Mod_rank 5 0 0 [.ref b, .int i] w n (fun v w' n' => ((∃ t, t < m ∧ i = nI t ∧ v = some (.int (nI (rankB (kyT K F KT c) m t)))) ∨ ((∀ t, t < m → i = nI t → False) ∧ v = some (.int (-1)))) ∧ n' = n ∧ Fr w w' b 14 ∧ Mdl D w' b 0 c s K F L kr m KT lo hi he) := by
  refine AM.ofi (by decide +kernel) rfl (Nat.le_of_ble_eq_true rfl) (fun X A Q hin S RT => ?_)
  have S : FX X (D, A, 2, Q) prog_9_method_51_code "KeyCodecModel" 5 0 0 := S
  have RT : RTi X (D, A, 2, Q) prog_9_method_51_code 0 0 _ := RT
  obtain ⟨ki, fl, va, fo, go, si, te, ro, ma, sz, en, ms, lw, hw, pt, bd, h, hI, hG⟩ := h
  obtain ⟨h0, h1, h2, h3, h4, h5, h6, h7, h8, h9, h10, h11, h12, h13⟩ := h
  have hc5 := hI.1
  have hm12 := hI.2.1
  have hkr := hI.2.2.1
  have hlo := hI.2.2.2.1
  have hhi := hI.2.2.2.2.1
  have hkf := hI.2.2.2.2.2.1
  refine a_lve (lv' := [(0, .ref b), (1, .int i)]) rfl ?_
  have fr : Fr w w b 14 := Fr.refl _ _ _
  refine a_aload_n S d_Mod_rank_0 rfl rfl ?_
  refine a_iconst S (v := 0) d_Mod_rank_1 (by decide) ?_
  refine a_put S kc_Mod kt_Mod 0 (by decide) lf_Mod_55 rfl h0 rfl rfl (Nat.le_of_ble_eq_true rfl) d_Mod_rank_2 (fun w1 h0 e2 => ?_)
  have h0 : w1 b = some (.inr (6, [.int 0, .int (nI c), .int (if s then 1 else 0), .ref (b + 1), .ref (b + 2), .ref (b + 3), .ref (b + 4), .ref (b + 5), .ref (b + 6), .ref (b + 7), .int (nI m), .ref (b + 8), .int (nI kr.length), .ref (b + 9), .int (nI sz), .ref (b + 10), .ref (b + 11), .ref (b + 12), .ref (b + 13), .int (nI lo.length), .int (if he then nI hi.length else -1), .int (nI pt), .int (if bd then 1 else 0)])) := h0
  have fr := fr.trans (Fr.sub (Fr.of1 e2) (by omega) (by omega))
  have h1 := Fr.cell (Fr.of1 e2) h1 (by omega)
  have h2 := Fr.cell (Fr.of1 e2) h2 (by omega)
  have h3 := Fr.cell (Fr.of1 e2) h3 (by omega)
  have h4 := Fr.cell (Fr.of1 e2) h4 (by omega)
  have h5 := Fr.cell (Fr.of1 e2) h5 (by omega)
  have h6 := Fr.cell (Fr.of1 e2) h6 (by omega)
  have h7 := Fr.cell (Fr.of1 e2) h7 (by omega)
  have h8 := Fr.cell (Fr.of1 e2) h8 (by omega)
  have h9 := Fr.cell (Fr.of1 e2) h9 (by omega)
  have h10 := Fr.cell (Fr.of1 e2) h10 (by omega)
  have h11 := Fr.cell (Fr.of1 e2) h11 (by omega)
  have h12 := Fr.cell (Fr.of1 e2) h12 (by omega)
  have h13 := Fr.cell (Fr.of1 e2) h13 (by omega)
  refine a_aload_n S d_Mod_rank_5 rfl rfl ?_
  refine a_iload_n S d_Mod_rank_6 rfl rfl ?_
  refine a_callV S (rest := []) lg_Mod_177 h0 (c_Mod_isKept X.2.1 D b 0 c s ki fl va fo go si te m ro kr.length ma sz en ms lw hw lo.length (if he then nI hi.length else -1) pt bd i w1 n  ⟨h0, h1, h2, h3, h4, h5, h6, h7, h8, h9, h10, h11, h12, h13⟩) (by decide) (by omega) (by omega) rfl (Nat.le_of_ble_eq_true rfl) d_Mod_rank_7 (fun v3 w4 n5 p6 => ?_)
  obtain ⟨rfl, e7, e8⟩ := p6
  rw [e7, e8]
  refine a_st (st' := [.int (if usB true m i then 1 else 0)]) rfl ?_
  refine a_if_eq S (tgt := 21) d_Mod_rank_10 rfl (fun hu_ => ?_) (fun hu_ => ?_)
  · have hx : ∀ t, t < m → i = nI t → False := fun t ht e => usB_no (by omega) (bo_0 hu_) ht rfl e
    refine a_iconst S (v := (-1)) d_Mod_rank_21 (by decide) ?_
    exact RT _ _ _ _ _ _ _ d_Mod_rank_22 (by omega) (by omega) ⟨Or.inr ⟨hx, rfl⟩, rfl, fr, ⟨_, _, _, _, _, _, _, _, _, _, _, _, _, _, _, _, ⟨h0, h1, h2, h3, h4, h5, h6, h7, h8, h9, h10, h11, h12, h13⟩, hI, hG⟩⟩
  · obtain ⟨hs_t, t, ht, rfl⟩ := usB_ix (by omega) (bo_1 hu_)
    refine a_aload_n S d_Mod_rank_13 rfl rfl ?_
    refine a_iload_n S d_Mod_rank_14 rfl rfl ?_
    refine a_callV S (rest := []) lg_Mod_205 h0 (c_Mod_rankOf X.2.1 D b 0 c s K F L kr m KT lo hi he t w1 n hV ht ⟨_, _, _, _, _, _, _, _, _, _, _, _, _, _, _, _, ⟨h0, h1, h2, h3, h4, h5, h6, h7, h8, h9, h10, h11, h12, h13⟩, hI, hG⟩) (by decide) (by omega) (by omega) rfl (Nat.le_of_ble_eq_true rfl) d_Mod_rank_15 (fun v9 w10 n11 p12 => ?_)
    obtain ⟨rfl, e14, f13, h⟩ := p12
    rw [e14]
    refine a_st (st' := [.int (nI (rankB (kyT K F KT c) m t))]) rfl ?_
    obtain ⟨ki, fl, va, fo, go, si, te, ro, ma, sz, en, ms, lw, hw, pt, bd, h, hI, hG⟩ := h
    obtain ⟨h0, h1, h2, h3, h4, h5, h6, h7, h8, h9, h10, h11, h12, h13⟩ := h
    have hc5 := hI.1
    have hm12 := hI.2.1
    have hkr := hI.2.2.1
    have hlo := hI.2.2.2.1
    have hhi := hI.2.2.2.2.1
    have hkf := hI.2.2.2.2.2.1
    have fr := fr.trans (Fr.sub f13 (by omega) (by omega))
    refine a_goto S (tgt := 22) d_Mod_rank_18 rfl ?_
    exact RT _ _ _ _ _ _ _ d_Mod_rank_22 (by omega) (by omega) ⟨Or.inl ⟨t, ht, rfl, rfl⟩, rfl, fr, ⟨_, _, _, _, _, _, _, _, _, _, _, _, _, _, _, _, ⟨h0, h1, h2, h3, h4, h5, h6, h7, h8, h9, h10, h11, h12, h13⟩, hI, hG⟩⟩
set_option maxHeartbeats 400000 in
set_option maxRecDepth 100000 in
theorem c_Mod_ofRank (l : Launch) (D : kD) (b : Nat) (th : Int32) (c : Nat) (s : Bool) (K F : Nat → Nat) (L : Nat → kV) (kr : List Nat) (m : Nat) (KT : Nat → Nat → kV) (lo hi : List Nat) (he : Bool) (r : Nat) (w : ww) (n : Nat) (hV : VI c s K F L m KT) (hr : r < m) (h : Mdl D w b th c s K F L kr m KT lo hi he) : AM l D M_Mod_ofRank 5 0 0 [.ref b, .int (nI r)] w n (fun v w' n' => ∃ t, t < m ∧ rankB (kyT K F KT c) m t = r ∧ v = some (.int (nI t)) ∧ n' = n ∧ Fr w w' b 14 ∧ Mdl D w' b th c s K F L kr m KT lo hi he) := by
  refine AM.ofi (by decide +kernel) rfl (Nat.le_of_ble_eq_true rfl) (fun X A Q hin S RT => ?_)
  have S : FX X (D, A, 3, Q) prog_9_method_52_code "KeyCodecModel" 5 0 0 := S
  have RT : RTi X (D, A, 3, Q) prog_9_method_52_code 0 0 _ := RT
  obtain ⟨ki, fl, va, fo, go, si, te, ro, ma, sz, en, ms, lw, hw, pt, bd, h, hI, hG⟩ := h
  obtain ⟨h0, h1, h2, h3, h4, h5, h6, h7, h8, h9, h10, h11, h12, h13⟩ := h
  have hc5 := hI.1
  have hm12 := hI.2.1
  have hkr := hI.2.2.1
  have hlo := hI.2.2.2.1
  have hhi := hI.2.2.2.2.1
  have hkf := hI.2.2.2.2.2.1
  refine a_lve (lv' := [(0, .ref b), (1, .int (nI r))]) rfl ?_
  have fr : Fr w w b 14 := Fr.refl _ _ _
  refine a_iconst S (v := 0) d_Mod_ofRank_0 (by decide) ?_
  refine a_istore_n S d_Mod_ofRank_1 rfl (Nat.le_of_ble_eq_true rfl) (lv' := [(0, .ref b), (1, .int (nI r)), (2, .int 0)]) rfl ?_
  have loop2 : ∀ (kk2 : Nat) (g : Nat) (w1 : ww), m - g = kk2 → (g ≤ m) → (Fr w w1 b 14) → (Mdl D w1 b th c s K F L kr m KT lo hi he) → (∀ t, t < g → ¬ rankB (kyT K F KT c) m t = r) → AW X (D, A, 3, Q) 2 [(0, .ref b), (1, .int (nI r)), (2, .int (nI g))] [] w1 n 0 0 := by
    intro kk2
    induction kk2 using Nat.strongRecOn with
    | ind kk2 ih2 =>
      intro g w1 hk2 hg fr h hn
      obtain ⟨ki, fl, va, fo, go, si, te, ro, ma, sz, en, ms, lw, hw, pt, bd, h, hI, hG⟩ := h
      obtain ⟨h0, h1, h2, h3, h4, h5, h6, h7, h8, h9, h10, h11, h12, h13⟩ := h
      have hc5 := hI.1
      have hm12 := hI.2.1
      have hkr := hI.2.2.1
      have hlo := hI.2.2.2.1
      have hhi := hI.2.2.2.2.1
      have hkf := hI.2.2.2.2.2.1
      refine a_iload_n S d_Mod_ofRank_2 rfl rfl ?_
      refine a_aload_n S d_Mod_ofRank_3 rfl rfl ?_
      refine a_get S kc_Mod 10 (by decide) lf_Mod_69 h0 rfl d_Mod_ofRank_4 ?_
      refine a_icmp_ge S (tgt := 27) d_Mod_ofRank_7 rfl (fun hm_ => ?_) (fun hm_ => ?_)
      · have hg : g = m := Nat.le_antisymm hg ((nI_leI (by omega) (by omega)).mp hm_)
        obtain ⟨t, g1, g2⟩ := rankB_onto (ks := (kyT K F KT c)) hr
        exact absurd g2 (hn t (by omega))
      · have hg : g < m := Nat.not_le.mp fun z => hm_ ((nI_leI (by omega) (by omega)).mpr z)
        refine a_aload_n S d_Mod_ofRank_10 rfl rfl ?_
        refine a_iload_n S d_Mod_ofRank_11 rfl rfl ?_
        refine a_callV S (rest := []) lg_Mod_205 h0 (c_Mod_rankOf X.2.1 D b th c s K F L kr m KT lo hi he g w1 n hV hg ⟨_, _, _, _, _, _, _, _, _, _, _, _, _, _, _, _, ⟨h0, h1, h2, h3, h4, h5, h6, h7, h8, h9, h10, h11, h12, h13⟩, hI, hG⟩) (by decide) (by omega) (by omega) rfl (Nat.le_of_ble_eq_true rfl) d_Mod_ofRank_12 (fun v1 w2 n3 p4 => ?_)
        obtain ⟨rfl, e6, f5, h⟩ := p4
        rw [e6]
        refine a_st (st' := [.int (nI (rankB (kyT K F KT c) m g))]) rfl ?_
        obtain ⟨ki, fl, va, fo, go, si, te, ro, ma, sz, en, ms, lw, hw, pt, bd, h, hI, hG⟩ := h
        obtain ⟨h0, h1, h2, h3, h4, h5, h6, h7, h8, h9, h10, h11, h12, h13⟩ := h
        have hc5 := hI.1
        have hm12 := hI.2.1
        have hkr := hI.2.2.1
        have hlo := hI.2.2.2.1
        have hhi := hI.2.2.2.2.1
        have hkf := hI.2.2.2.2.2.1
        have fr := fr.trans (Fr.sub f5 (by omega) (by omega))
        refine a_iload_n S d_Mod_ofRank_15 rfl rfl ?_
        refine a_icmp_ne S (tgt := 21) d_Mod_ofRank_16 rfl (fun h16 => ?_) (fun h16 => ?_)
        · refine a_iinc S (v := nI (g + 1)) d_Mod_ofRank_21 rfl (ni_add rfl (by decide)) (Nat.le_of_ble_eq_true rfl) (lv' := [(0, .ref b), (1, .int (nI r)), (2, .int (nI (g + 1)))]) rfl ?_
          refine a_goto S (tgt := 2) d_Mod_ofRank_24 rfl ?_
          exact ih2 _ (by omega) (g + 1) w2 rfl (by omega) fr ⟨_, _, _, _, _, _, _, _, _, _, _, _, _, _, _, _, ⟨h0, h1, h2, h3, h4, h5, h6, h7, h8, h9, h10, h11, h12, h13⟩, hI, hG⟩ (fun t ht => by
          by_cases e : t = g
          · subst e; exact fun z => h16 (by rw [z])
          · exact hn t (by omega))
        · refine a_iload_n S d_Mod_ofRank_19 rfl rfl ?_
          exact RT _ _ _ _ _ _ _ d_Mod_ofRank_20 (by omega) (by omega) ⟨g, hg, (nI_eq (by have := rankB_lt (ks := (kyT K F KT c)) hg; omega) (by omega)).mp h16, rfl, rfl, fr, ⟨_, _, _, _, _, _, _, _, _, _, _, _, _, _, _, _, ⟨h0, h1, h2, h3, h4, h5, h6, h7, h8, h9, h10, h11, h12, h13⟩, hI, hG⟩⟩
  exact loop2 _ 0 w rfl (Nat.zero_le _) fr ⟨_, _, _, _, _, _, _, _, _, _, _, _, _, _, _, _, ⟨h0, h1, h2, h3, h4, h5, h6, h7, h8, h9, h10, h11, h12, h13⟩, hI, hG⟩ (fun t h => absurd h (Nat.not_lt_zero t))
set_option maxHeartbeats 400000 in
set_option maxRecDepth 100000 in
theorem c_Mod_shared (l : Launch) (D : kD) (b : Nat) (th : Int32) (c : Nat) (s : Bool) (K F : Nat → Nat) (L : Nat → kV) (kr : List Nat) (m : Nat) (KT : Nat → Nat → kV) (lo hi : List Nat) (he : Bool) (i : Int32) (w : ww) (n : Nat) (hV : VI c s K F L m KT) (h : Mdl D w b th c s K F L kr m KT lo hi he) : AM l D M_Mod_shared 6 0 0 [.ref b, .int i] w n (fun v w' n' => ((∃ q, q < m ∧ i = nI q ∧ ((q = 0 ∧ v = some (.int 0)) ∨ ∃ t u, 0 < q ∧ t < m ∧ u < m ∧ rankB (kyT K F KT c) m t = q ∧ rankB (kyT K F KT c) m u = q - 1 ∧ v = some (.int (nI (shrB ((kyT K F KT c) u) ((kyT K F KT c) t)))))) ∨ ((∀ t, t < m → i = nI t → False) ∧ v = some (.int (-1)))) ∧ n' = n ∧ Fr w w' b 14 ∧ Mdl D w' b 0 c s K F L kr m KT lo hi he) := by
  refine AM.ofi (by decide +kernel) rfl (Nat.le_of_ble_eq_true rfl) (fun X A Q hin S RT => ?_)
  have S : FX X (D, A, 5, Q) prog_9_method_53_code "KeyCodecModel" 6 0 0 := S
  have RT : RTi X (D, A, 5, Q) prog_9_method_53_code 0 0 _ := RT
  obtain ⟨ki, fl, va, fo, go, si, te, ro, ma, sz, en, ms, lw, hw, pt, bd, h, hI, hG⟩ := h
  obtain ⟨h0, h1, h2, h3, h4, h5, h6, h7, h8, h9, h10, h11, h12, h13⟩ := h
  have hc5 := hI.1
  have hm12 := hI.2.1
  have hkr := hI.2.2.1
  have hlo := hI.2.2.2.1
  have hhi := hI.2.2.2.2.1
  have hkf := hI.2.2.2.2.2.1
  refine a_lve (lv' := [(0, .ref b), (1, .int i)]) rfl ?_
  have fr : Fr w w b 14 := Fr.refl _ _ _
  refine a_aload_n S d_Mod_shared_0 rfl rfl ?_
  refine a_iconst S (v := 0) d_Mod_shared_1 (by decide) ?_
  refine a_put S kc_Mod kt_Mod 0 (by decide) lf_Mod_55 rfl h0 rfl rfl (Nat.le_of_ble_eq_true rfl) d_Mod_shared_2 (fun w1 h0 e2 => ?_)
  have h0 : w1 b = some (.inr (6, [.int 0, .int (nI c), .int (if s then 1 else 0), .ref (b + 1), .ref (b + 2), .ref (b + 3), .ref (b + 4), .ref (b + 5), .ref (b + 6), .ref (b + 7), .int (nI m), .ref (b + 8), .int (nI kr.length), .ref (b + 9), .int (nI sz), .ref (b + 10), .ref (b + 11), .ref (b + 12), .ref (b + 13), .int (nI lo.length), .int (if he then nI hi.length else -1), .int (nI pt), .int (if bd then 1 else 0)])) := h0
  have fr := fr.trans (Fr.sub (Fr.of1 e2) (by omega) (by omega))
  have h1 := Fr.cell (Fr.of1 e2) h1 (by omega)
  have h2 := Fr.cell (Fr.of1 e2) h2 (by omega)
  have h3 := Fr.cell (Fr.of1 e2) h3 (by omega)
  have h4 := Fr.cell (Fr.of1 e2) h4 (by omega)
  have h5 := Fr.cell (Fr.of1 e2) h5 (by omega)
  have h6 := Fr.cell (Fr.of1 e2) h6 (by omega)
  have h7 := Fr.cell (Fr.of1 e2) h7 (by omega)
  have h8 := Fr.cell (Fr.of1 e2) h8 (by omega)
  have h9 := Fr.cell (Fr.of1 e2) h9 (by omega)
  have h10 := Fr.cell (Fr.of1 e2) h10 (by omega)
  have h11 := Fr.cell (Fr.of1 e2) h11 (by omega)
  have h12 := Fr.cell (Fr.of1 e2) h12 (by omega)
  have h13 := Fr.cell (Fr.of1 e2) h13 (by omega)
  refine a_iload_n S d_Mod_shared_5 rfl rfl ?_
  refine a_if_lt S (tgt := 17) d_Mod_shared_6 rfl (fun hn_ => ?_) (fun hn_ => ?_)
  · have hx : ∀ t, t < m → i = nI t → False := fun t ht e => by subst e; exact nI_pos (by omega) hn_
    refine a_iconst S (v := (-1)) d_Mod_shared_17 (by decide) ?_
    exact RT _ _ _ _ _ _ _ d_Mod_shared_18 (by omega) (by omega) ⟨Or.inr ⟨hx, rfl⟩, rfl, fr, ⟨_, _, _, _, _, _, _, _, _, _, _, _, _, _, _, _, ⟨h0, h1, h2, h3, h4, h5, h6, h7, h8, h9, h10, h11, h12, h13⟩, hI, hG⟩⟩
  · refine a_iload_n S d_Mod_shared_9 rfl rfl ?_
    refine a_aload_n S d_Mod_shared_10 rfl rfl ?_
    refine a_get S kc_Mod 10 (by decide) lf_Mod_69 h0 rfl d_Mod_shared_11 ?_
    refine a_icmp_lt S (tgt := 19) d_Mod_shared_14 rfl (fun h14 => ?_) (fun h14 => ?_)
    · obtain ⟨q, hq, rfl⟩ := row_ix hn_ (k2_nle h14) (by omega)
      refine a_iload_n S d_Mod_shared_19 rfl rfl ?_
      refine a_if_ne S (tgt := 25) d_Mod_shared_20 rfl (fun h20 => ?_) (fun h20 => ?_)
      · have hq0 : 0 < q := Nat.pos_of_ne_zero fun z => h20 (by rw [z]; rfl)
        refine a_aload_n S d_Mod_shared_25 rfl rfl ?_
        refine a_iload_n S d_Mod_shared_26 rfl rfl ?_
        refine a_iconst S (v := 1) d_Mod_shared_27 (by decide) ?_
        refine a_isub S d_Mod_shared_28 ?_
        refine a_eqi (y := nI (q - 1)) (ni_sub rfl rfl (show 1 ≤ q from hq0)) ?_
        refine a_callV S (rest := []) lg_Mod_208 h0 (c_Mod_ofRank X.2.1 D b 0 c s K F L kr m KT lo hi he (q - 1) w1 n hV (by omega) ⟨_, _, _, _, _, _, _, _, _, _, _, _, _, _, _, _, ⟨h0, h1, h2, h3, h4, h5, h6, h7, h8, h9, h10, h11, h12, h13⟩, hI, hG⟩) (by decide) (by omega) (by omega) rfl (Nat.le_of_ble_eq_true rfl) d_Mod_shared_29 (fun v3 w4 n5 p6 => ?_)
        obtain ⟨u, hu, hru, rfl, e8, f7, h⟩ := p6
        rw [e8]
        refine a_st (st' := [.int (nI u)]) rfl ?_
        obtain ⟨ki, fl, va, fo, go, si, te, ro, ma, sz, en, ms, lw, hw, pt, bd, h, hI, hG⟩ := h
        obtain ⟨h0, h1, h2, h3, h4, h5, h6, h7, h8, h9, h10, h11, h12, h13⟩ := h
        have hc5 := hI.1
        have hm12 := hI.2.1
        have hkr := hI.2.2.1
        have hlo := hI.2.2.2.1
        have hhi := hI.2.2.2.2.1
        have hkf := hI.2.2.2.2.2.1
        have fr := fr.trans (Fr.sub f7 (by omega) (by omega))
        refine a_istore_n S d_Mod_shared_32 rfl (Nat.le_of_ble_eq_true rfl) (lv' := [(0, .ref b), (1, .int (nI q)), (2, .int (nI u))]) rfl ?_
        refine a_aload_n S d_Mod_shared_33 rfl rfl ?_
        refine a_iload_n S d_Mod_shared_34 rfl rfl ?_
        refine a_callV S (rest := []) lg_Mod_208 h0 (c_Mod_ofRank X.2.1 D b 0 c s K F L kr m KT lo hi he q w4 n hV (by omega) ⟨_, _, _, _, _, _, _, _, _, _, _, _, _, _, _, _, ⟨h0, h1, h2, h3, h4, h5, h6, h7, h8, h9, h10, h11, h12, h13⟩, hI, hG⟩) (by decide) (by omega) (by omega) rfl (Nat.le_of_ble_eq_true rfl) d_Mod_shared_35 (fun v9 w10 n11 p12 => ?_)
        obtain ⟨t, ht, hrt, rfl, e14, f13, h⟩ := p12
        rw [e14]
        refine a_st (st' := [.int (nI t)]) rfl ?_
        obtain ⟨ki, fl, va, fo, go, si, te, ro, ma, sz, en, ms, lw, hw, pt, bd, h, hI, hG⟩ := h
        obtain ⟨h0, h1, h2, h3, h4, h5, h6, h7, h8, h9, h10, h11, h12, h13⟩ := h
        have hc5 := hI.1
        have hm12 := hI.2.1
        have hkr := hI.2.2.1
        have hlo := hI.2.2.2.1
        have hhi := hI.2.2.2.2.1
        have hkf := hI.2.2.2.2.2.1
        have fr := fr.trans (Fr.sub f13 (by omega) (by omega))
        refine a_istore_n S d_Mod_shared_38 rfl (Nat.le_of_ble_eq_true rfl) (lv' := [(0, .ref b), (1, .int (nI q)), (2, .int (nI u)), (3, .int (nI t))]) rfl ?_
        have ok_u := (hV.2 u hu).2
        have kl_u := keyB_l ok_u hc5
        have ok_t := (hV.2 t ht).2
        have kl_t := keyB_l ok_t hc5
        refine a_aload_n S d_Mod_shared_39 rfl rfl ?_
        refine a_iconst S (v := 0) d_Mod_shared_40 (by decide) ?_
        refine a_iload_n S d_Mod_shared_41 rfl rfl ?_
        refine a_iconst S (v := 1) d_Mod_shared_42 (by decide) ?_
        refine a_iadd S d_Mod_shared_43 ?_
        refine a_eqi (y := nI (u + 1)) (ni_add rfl rfl) ?_
        refine a_callV S (rest := []) lg_Mod_136 h0 (c_Mod_make X.2.1 D b 0 c s ki fl va fo go si te m ro kr.length ma sz en ms lw hw lo.length (if he then nI hi.length else -1) pt bd 0 (u + 1) K F (KT u) w10 n (by decide) (by omega) hc5 hkf (hI.v1 hu) ok_u ⟨h0, h1, h2, h3, h4, h5, h6, h7, h8, h9, h10, h11, h12, h13⟩) (by decide) (by omega) (by omega) rfl (Nat.le_of_ble_eq_true rfl) d_Mod_shared_44 (fun v15 w16 n17 p18 => ?_)
        obtain ⟨en_21, rfl, e20, f19, ⟨h0, h1, h2, h3, h4, h5, h6, h7, h8, h9, h10, h11, h12, h13⟩, hE22⟩ := p18
        rw [e20]
        refine a_st (st' := []) rfl ?_
        have fr := fr.trans (Fr.sub f19 (by omega) (by omega))
        refine a_aload_n S d_Mod_shared_47 rfl rfl ?_
        refine a_iconst S (v := 1) d_Mod_shared_48 (by decide) ?_
        refine a_iload_n S d_Mod_shared_49 rfl rfl ?_
        refine a_iconst S (v := 1) d_Mod_shared_50 (by decide) ?_
        refine a_iadd S d_Mod_shared_51 ?_
        refine a_eqi (y := nI (t + 1)) (ni_add rfl rfl) ?_
        refine a_callV S (rest := []) lg_Mod_136 h0 (c_Mod_make X.2.1 D b 0 c s ki fl va fo go si te m ro kr.length (wrL ma (200 * 0) (keyB K F (KT u) c)) ((keyB K F (KT u) c).length) en_21 (upd ms 0 (nI (keyB K F (KT u) c).length)) lw hw lo.length (if he then nI hi.length else -1) pt bd 1 (t + 1) K F (KT t) w16 n (by decide) (by omega) hc5 hkf (hI.v1 ht) ok_t ⟨h0, h1, h2, h3, h4, h5, h6, h7, h8, h9, h10, h11, h12, h13⟩) (by decide) (by omega) (by omega) rfl (Nat.le_of_ble_eq_true rfl) d_Mod_shared_52 (fun v23 w24 n25 p26 => ?_)
        obtain ⟨en_29, rfl, e28, f27, ⟨h0, h1, h2, h3, h4, h5, h6, h7, h8, h9, h10, h11, h12, h13⟩, hE30⟩ := p26
        rw [e28]
        refine a_st (st' := []) rfl ?_
        have fr := fr.trans (Fr.sub f27 (by omega) (by omega))
        refine a_iconst S (v := 0) d_Mod_shared_55 (by decide) ?_
        refine a_istore S d_Mod_shared_56 (Nat.le_of_ble_eq_true rfl) (lv' := [(0, .ref b), (1, .int (nI q)), (2, .int (nI u)), (3, .int (nI t)), (4, .int 0)]) rfl ?_
        have loop58 : ∀ (kk58 : Nat) (g : Nat), (keyB K F (KT u) c).length - g = kk58 → (g ≤ (keyB K F (KT u) c).length) → (shrB (keyB K F (KT u) c) (keyB K F (KT t) c) = g + shrB ((keyB K F (KT u) c).drop g) ((keyB K F (KT t) c).drop g)) → AW X (D, A, 5, Q) 58 [(0, .ref b), (1, .int (nI q)), (2, .int (nI u)), (3, .int (nI t)), (4, .int (nI g))] [] w24 n ((((0 + 0) + 0) + 0) + 0) ((((0 + 0) + 0) + 0) + 0) := by
          intro kk58
          induction kk58 using Nat.strongRecOn with
          | ind kk58 ih58 =>
            intro g hk58 hg hs
            refine a_iload S d_Mod_shared_58 rfl ?_
            refine a_aload_n S d_Mod_shared_60 rfl rfl ?_
            refine a_get S kc_Mod 16 (by decide) lf_Mod_42 h0 rfl d_Mod_shared_61 ?_
            refine a_iconst S (v := 0) d_Mod_shared_64 (by decide) ?_
            refine a_iald S (i := 0) h11 rfl (by omega) (by decide) d_Mod_shared_65 ?_
            refine a_eqi us01 ?_
            refine a_icmp_ge S (tgt := 107) d_Mod_shared_66 rfl (fun h66 => ?_) (fun h66 => ?_)
            · have hE : (keyB K F (KT u) c).length ≤ g ∨ (keyB K F (KT t) c).length ≤ g := Or.inl ((nI_leI (by omega) (by omega)).mp h66)
              refine a_iload S d_Mod_shared_107 rfl ?_
              exact RT _ _ _ _ _ _ _ d_Mod_shared_109 (by omega) (by omega) ⟨Or.inl ⟨q, hq, rfl, Or.inr ⟨t, u, hq0, ht, hu, hrt, hru, (by show _ = some (Value.int (nI (shrB (keyB K F (KT u) c) (keyB K F (KT t) c)))); rw [hs, shr_end hE]; rfl)⟩⟩, rfl, fr, ⟨_, _, _, _, _, _, _, _, _, _, _, _, _, _, _, _, ⟨h0, h1, h2, h3, h4, h5, h6, h7, h8, h9, h10, h11, h12, h13⟩, hI, hG⟩⟩
            · have h1_ : g < (keyB K F (KT u) c).length := Nat.not_le.mp fun z => h66 ((nI_leI (by omega) (by omega)).mpr z)
              refine a_iload S d_Mod_shared_69 rfl ?_
              refine a_aload_n S d_Mod_shared_71 rfl rfl ?_
              refine a_get S kc_Mod 16 (by decide) lf_Mod_42 h0 rfl d_Mod_shared_72 ?_
              refine a_iconst S (v := 1) d_Mod_shared_75 (by decide) ?_
              refine a_iald S (i := 1) h11 rfl (by omega) (by decide) d_Mod_shared_76 ?_
              refine a_eqi pk_us ?_
              refine a_icmp_ge S (tgt := 107) d_Mod_shared_77 rfl (fun h77 => ?_) (fun h77 => ?_)
              · have hE : (keyB K F (KT u) c).length ≤ g ∨ (keyB K F (KT t) c).length ≤ g := Or.inr ((nI_leI (by omega) (by omega)).mp h77)
                refine a_iload S d_Mod_shared_107 rfl ?_
                exact RT _ _ _ _ _ _ _ d_Mod_shared_109 (by omega) (by omega) ⟨Or.inl ⟨q, hq, rfl, Or.inr ⟨t, u, hq0, ht, hu, hrt, hru, (by show _ = some (Value.int (nI (shrB (keyB K F (KT u) c) (keyB K F (KT t) c)))); rw [hs, shr_end hE]; rfl)⟩⟩, rfl, fr, ⟨_, _, _, _, _, _, _, _, _, _, _, _, _, _, _, _, ⟨h0, h1, h2, h3, h4, h5, h6, h7, h8, h9, h10, h11, h12, h13⟩, hI, hG⟩⟩
              · have h2_ : g < (keyB K F (KT t) c).length := Nat.not_le.mp fun z => h77 ((nI_leI (by omega) (by omega)).mpr z)
                have hbx := getD_lt (keyB_lt ok_u) g
                have hby := getD_lt (keyB_lt ok_t) g
                refine a_aload_n S d_Mod_shared_80 rfl rfl ?_
                refine a_get S kc_Mod 13 (by decide) lf_Mod_36 h0 rfl d_Mod_shared_81 ?_
                refine a_iload S d_Mod_shared_84 rfl ?_
                refine a_iald S (i := g) h9 rfl (by omega) (by decide) d_Mod_shared_86 ?_
                refine a_eqi (om_1 (by omega) h1_) ?_
                refine a_aload_n S d_Mod_shared_87 rfl rfl ?_
                refine a_get S kc_Mod 13 (by decide) lf_Mod_36 h0 rfl d_Mod_shared_88 ?_
                refine a_sipush S (v := 200) d_Mod_shared_91 (by decide) ?_
                refine a_iload S d_Mod_shared_94 rfl ?_
                refine a_iadd S d_Mod_shared_96 ?_
                refine a_eqi (y := nI (200 + g)) (ni_add rfl rfl) ?_
                refine a_iald S (i := 200 + g) h9 rfl (by omega) (by decide) d_Mod_shared_97 ?_
                refine a_eqi (om_2 h2_) ?_
                refine a_icmp_ne S (tgt := 107) d_Mod_shared_98 rfl (fun h98 => ?_) (fun h98 => ?_)
                · have he_ : ¬ (keyB K F (KT u) c).getD g 0 = (keyB K F (KT t) c).getD g 0 := fun z => h98 (by rw [z])
                  refine a_iload S d_Mod_shared_107 rfl ?_
                  exact RT _ _ _ _ _ _ _ d_Mod_shared_109 (by omega) (by omega) ⟨Or.inl ⟨q, hq, rfl, Or.inr ⟨t, u, hq0, ht, hu, hrt, hru, (by show _ = some (Value.int (nI (shrB (keyB K F (KT u) c) (keyB K F (KT t) c)))); rw [hs, shr_stop h1_ h2_ he_]; rfl)⟩⟩, rfl, fr, ⟨_, _, _, _, _, _, _, _, _, _, _, _, _, _, _, _, ⟨h0, h1, h2, h3, h4, h5, h6, h7, h8, h9, h10, h11, h12, h13⟩, hI, hG⟩⟩
                · have he_ : (keyB K F (KT u) c).getD g 0 = (keyB K F (KT t) c).getD g 0 := (nI_eq (by omega) (by omega)).mp h98
                  refine a_iinc S (v := nI (g + 1)) d_Mod_shared_101 rfl (ni_add rfl (by decide)) (Nat.le_of_ble_eq_true rfl) (lv' := [(0, .ref b), (1, .int (nI q)), (2, .int (nI u)), (3, .int (nI t)), (4, .int (nI (g + 1)))]) rfl ?_
                  refine a_goto S (tgt := 58) d_Mod_shared_104 rfl ?_
                  exact ih58 _ (by omega) (g + 1) rfl (by omega) (by rw [hs, shr_step h1_ h2_ he_]; omega)
        exact loop58 _ 0 rfl (Nat.zero_le _) (by simp)
      · have hq0 : q = 0 := (nI_eq (by omega) (by decide)).mp h20
        refine a_iconst S (v := 0) d_Mod_shared_23 (by decide) ?_
        exact RT _ _ _ _ _ _ _ d_Mod_shared_24 (by omega) (by omega) ⟨Or.inl ⟨q, hq, rfl, Or.inl ⟨hq0, rfl⟩⟩, rfl, fr, ⟨_, _, _, _, _, _, _, _, _, _, _, _, _, _, _, _, ⟨h0, h1, h2, h3, h4, h5, h6, h7, h8, h9, h10, h11, h12, h13⟩, hI, hG⟩⟩
    · have hx : ∀ t, t < m → i = nI t → False := fun t ht e => by subst e; exact h14 ((nI_ltI (by omega) (by omega)).mpr ht)
      refine a_iconst S (v := (-1)) d_Mod_shared_17 (by decide) ?_
      exact RT _ _ _ _ _ _ _ d_Mod_shared_18 (by omega) (by omega) ⟨Or.inr ⟨hx, rfl⟩, rfl, fr, ⟨_, _, _, _, _, _, _, _, _, _, _, _, _, _, _, _, ⟨h0, h1, h2, h3, h4, h5, h6, h7, h8, h9, h10, h11, h12, h13⟩, hI, hG⟩⟩
