set_option maxHeartbeats 400000 in
set_option maxRecDepth 100000 in
theorem c_Mod_readField (l : Launch) (D : kD) (b : Nat) (th : Int32) (fd : Nat) (sl : Bool) (ki fl : Nat → Int32) (va : Nat → Int64) (fo go si te : Nat → Int32) (kp : Nat) (ro : Nat → Int32) (ma : Nat → Int32) (sz : Nat) (en ms lw hw : Nat → Int32) (ls : Nat) (hz : Int32) (pt : Nat) (bd : Bool) (l0 : List Nat) (u f kd fg : Nat) (w : ww) (n : Nat) (hl : l0.length ≤ 120) (hby : ∀ b ∈ l0, b < 256) (hA : Arr ro l0) (hpt : pt ≤ l0.length) (hu : u ≤ 13) (hf : f < 5) (hki : ki f = nI kd) (hfl : fl f = nI fg) (hk4 : kd < 4) (hf8 : fg < 8) (hV0 : VR va fo go si te (5 * u + f) (false, 0, 0, [])) (h : Mo D w b th fd sl ki fl va fo go si te kp ro l0.length ma sz en ms lw hw ls hz pt false) : AM l D M_Mod_readField 2 0 0 [.ref b, .int (nI u), .int (nI f)] w n (fun v w' n' => ∃ (v1 : kV) (va1 : Nat → Int64) (fo1 go1 si1 te1 : Nat → Int32) (p1 : Nat) (b1 : Bool), v = none ∧ n' = n ∧ Fr w w' b 14 ∧ Mo D w' b th fd sl ki fl va1 fo1 go1 si1 te1 kp ro l0.length ma sz en ms lw hw ls hz p1 b1 ∧ p1 ≤ l0.length ∧ VR va1 fo1 go1 si1 te1 (5 * u + f) v1 ∧ SX va fo go si te va1 fo1 go1 si1 te1 (5 * u + f) ∧ (NG go → NG go1) ∧ FdM l0 pt kd fg b1 p1 v1) := by
  refine AM.ofv (by decide +kernel) rfl (Nat.le_of_ble_eq_true rfl) (fun X A Q hin S RT => ?_)
  have S : FX X (D, A, 5, Q) prog_9_method_36_code "KeyCodecModel" 2 0 0 := S
  have RT : RTv X (D, A, 5, Q) prog_9_method_36_code 0 0 _ := RT
  obtain ⟨h0, h1, h2, h3, h4, h5, h6, h7, h8, h9, h10, h11, h12, h13⟩ := h
  refine a_lve (lv' := [(0, .ref b), (1, .int (nI u)), (2, .int (nI f))]) rfl ?_
  have fr : Fr w w b 14 := Fr.refl _ _ _
  refine a_iconst S (v := 5) d_Mod_readField_0 (by decide) ?_
  refine a_iload_n S d_Mod_readField_1 rfl rfl ?_
  refine a_imul S d_Mod_readField_2 ?_
  refine a_eqi (y := nI (5 * u)) (ni_mul rfl rfl) ?_
  refine a_iload_n S d_Mod_readField_3 rfl rfl ?_
  refine a_iadd S d_Mod_readField_4 ?_
  refine a_eqi (y := nI (5 * u + f)) (ni_add rfl rfl) ?_
  refine a_istore_n S d_Mod_readField_5 rfl (Nat.le_of_ble_eq_true rfl) (lv' := [(0, .ref b), (1, .int (nI u)), (2, .int (nI f)), (3, .int (nI (5 * u + f)))]) rfl ?_
  refine a_aload_n S d_Mod_readField_6 rfl rfl ?_
  refine a_iload_n S d_Mod_readField_7 rfl rfl ?_
  refine a_callV S (rest := []) lg_Mod_95 h0 (c_Mod_isOptional X.2.1 D b th fd sl ki fl va fo go si te kp ro l0.length ma sz en ms lw hw ls hz pt false f w n hf ⟨h0, h1, h2, h3, h4, h5, h6, h7, h8, h9, h10, h11, h12, h13⟩) (by decide) (by omega) (by omega) rfl (Nat.le_of_ble_eq_true rfl) d_Mod_readField_8 (fun v1 w2 n3 p4 => ?_)
  obtain ⟨rfl, e5, e6⟩ := p4
  rw [e5, e6]
  refine a_st (st' := [.int (if fl f &&& 2 = 0 then 0 else 1)]) rfl ?_
  refine a_if_eq S (tgt := 78) d_Mod_readField_11 rfl (fun h11_ => ?_) (fun h11_ => ?_)
  · rw [hfl] at h11_
    have hO := fOp_0 hf8 h11_
    refine a_aload_n S d_Mod_readField_78 rfl rfl ?_
    refine a_get S kc_Mod 7 (by decide) lf_Mod_23 h0 rfl d_Mod_readField_79 ?_
    refine a_iload_n S d_Mod_readField_82 rfl rfl ?_
    refine a_zald S (i := 5 * u + f) h5 rfl (by omega) (by decide) d_Mod_readField_83 ?_
    refine a_eqi hV0.2.2.1 ?_
    refine a_if_ne S (tgt := 94) d_Mod_readField_84 rfl (fun h84 => ?_) (fun h84 => ?_)
    · exact absurd (by decide) h84
    · refine a_aload_n S d_Mod_readField_87 rfl rfl ?_
      refine a_get S kc_Mod 22 (by decide) lf_Mod_142 h0 rfl d_Mod_readField_88 ?_
      refine a_if_eq S (tgt := 95) d_Mod_readField_91 rfl (fun h91 => ?_) (fun h91 => ?_)
      · have hVk := hV0
        have hpos : PosC l0 pt kd fg pt := PosC.n hO
        refine a_aload_n S d_Mod_readField_95 rfl rfl ?_
        refine a_iload_n S d_Mod_readField_96 rfl rfl ?_
        refine a_callV S (rest := []) lg_Mod_116 h0 (c_Mod_isDown X.2.1 D b th fd sl ki fl va fo go si te kp ro l0.length ma sz en ms lw hw ls hz pt false f w n hf ⟨h0, h1, h2, h3, h4, h5, h6, h7, h8, h9, h10, h11, h12, h13⟩) (by decide) (by omega) (by omega) rfl (Nat.le_of_ble_eq_true rfl) d_Mod_readField_97 (fun v7 w8 n9 p10 => ?_)
        obtain ⟨rfl, e11, e12⟩ := p10
        rw [e11, e12]
        refine a_st (st' := [.int (if fl f &&& 1 = 0 then 0 else 1)]) rfl ?_
        refine a_if_eq S (tgt := 109) d_Mod_readField_100 rfl (fun h100 => ?_) (fun h100 => ?_)
        · rw [hfl] at h100
          have hD := tnF_0 hf8 h100
          refine a_iconst S (v := 0) d_Mod_readField_109 (by decide) ?_
          refine a_eqi (y := nI (tnF fg)) (by rw [hD]; rfl) ?_
          refine a_istore S d_Mod_readField_110 (Nat.le_of_ble_eq_true rfl) (lv' := [(0, .ref b), (1, .int (nI u)), (2, .int (nI f)), (3, .int (nI (5 * u + f))), (4, .int (nI (tnF fg)))]) rfl ?_
          refine a_aload_n S d_Mod_readField_112 rfl rfl ?_
          refine a_get S kc_Mod 3 (by decide) lf_Mod_7 h0 rfl d_Mod_readField_113 ?_
          refine a_iload_n S d_Mod_readField_116 rfl rfl ?_
          refine a_iald S (i := f) h1 rfl (by omega) (by decide) d_Mod_readField_117 ?_
          refine a_eqi hki ?_
          refine a_iconst S (v := 1) d_Mod_readField_118 (by decide) ?_
          refine a_icmp_ne S (tgt := 132) d_Mod_readField_119 rfl (fun h119 => ?_) (fun h119 => ?_)
          · have hk1 : ¬ kd = 1 := fun z => h119 (by rw [z]; rfl)
            refine a_aload_n S d_Mod_readField_132 rfl rfl ?_
            refine a_get S kc_Mod 3 (by decide) lf_Mod_7 h0 rfl d_Mod_readField_133 ?_
            refine a_iload_n S d_Mod_readField_136 rfl rfl ?_
            refine a_iald S (i := f) h1 rfl (by omega) (by decide) d_Mod_readField_137 ?_
            refine a_eqi hki ?_
            refine a_iconst S (v := 2) d_Mod_readField_138 (by decide) ?_
            refine a_icmp_ne S (tgt := 152) d_Mod_readField_139 rfl (fun h139 => ?_) (fun h139 => ?_)
            · have hk2 : ¬ kd = 2 := fun z => h139 (by rw [z]; rfl)
              refine a_aload_n S d_Mod_readField_152 rfl rfl ?_
              refine a_get S kc_Mod 5 (by decide) lf_Mod_16 h0 rfl d_Mod_readField_153 ?_
              refine a_iload_n S d_Mod_readField_156 rfl rfl ?_
              refine a_aload_n S d_Mod_readField_157 rfl rfl ?_
              refine a_iload S d_Mod_readField_158 rfl ?_
              refine a_callV S (rest := [_, _]) lg_Mod_161 h0 (c_Mod_readInt X.2.1 D b th fd sl ki fl va fo go si te kp ro ma sz en ms lw hw ls hz pt false l0 (tnF fg) w n hl hby hA (by omega) (tnF_01 fg) ⟨h0, h1, h2, h3, h4, h5, h6, h7, h8, h9, h10, h11, h12, h13⟩) (by decide) (by omega) (by omega) rfl (Nat.le_of_ble_eq_true rfl) d_Mod_readField_160 (fun v13 w14 n15 p16 => ?_)
              obtain ⟨r, p1, b1, rfl, e18, f17, ⟨h0, h1, h2, h3, h4, h5, h6, h7, h8, h9, h10, h11, h12, h13⟩, hp1, hE⟩ := p16
              rw [e18]
              refine a_st (st' := [.long r, .int (nI (5 * u + f)), .ref (b + 3)]) rfl ?_
              have fr := fr.trans (Fr.sub f17 (by omega) (by omega))
              refine a_last S (i := 5 * u + f) h3 rfl (by omega) (by decide) d_Mod_readField_163 (fun w19 h3 e20 => ?_)
              have fr := fr.trans (Fr.sub (Fr.of1 e20) (by omega) (by omega))
              have h0 := Fr.cell (Fr.of1 e20) h0 (by omega)
              have h1 := Fr.cell (Fr.of1 e20) h1 (by omega)
              have h2 := Fr.cell (Fr.of1 e20) h2 (by omega)
              have h4 := Fr.cell (Fr.of1 e20) h4 (by omega)
              have h5 := Fr.cell (Fr.of1 e20) h5 (by omega)
              have h6 := Fr.cell (Fr.of1 e20) h6 (by omega)
              have h7 := Fr.cell (Fr.of1 e20) h7 (by omega)
              have h8 := Fr.cell (Fr.of1 e20) h8 (by omega)
              have h9 := Fr.cell (Fr.of1 e20) h9 (by omega)
              have h10 := Fr.cell (Fr.of1 e20) h10 (by omega)
              have h11 := Fr.cell (Fr.of1 e20) h11 (by omega)
              have h12 := Fr.cell (Fr.of1 e20) h12 (by omega)
              have h13 := Fr.cell (Fr.of1 e20) h13 (by omega)
              exact RT _ _ _ _ _ _ d_Mod_readField_164 (by omega) (by omega) ⟨(false, r, 0, []), _, _, _, _, _, p1, b1, rfl, rfl, fr, ⟨h0, h1, h2, h3, h4, h5, h6, h7, h8, h9, h10, h11, h12, h13⟩, hp1, hVk.vx, SX.trans SX.id SX.va, id, (FdM.int (by omega) hpos hE)⟩
            · have hk2 : kd = 2 := (nI_eq (by omega) (by decide)).mp h139
              refine a_aload_n S d_Mod_readField_142 rfl rfl ?_
              refine a_iload_n S d_Mod_readField_143 rfl rfl ?_
              refine a_iload S d_Mod_readField_144 rfl ?_
              refine a_callV S (rest := []) lg_Mod_158 h0 (c_Mod_readText X.2.1 D b th fd sl ki fl va fo go si te kp ro ma sz en ms lw hw ls hz pt false l0 (5 * u + f) (tnF fg) w n hl hby hA (by omega) (tnF_01 fg) (by omega) hVk.2.2.2.1 ⟨h0, h1, h2, h3, h4, h5, h6, h7, h8, h9, h10, h11, h12, h13⟩) (by decide) (by omega) (by omega) rfl (Nat.le_of_ble_eq_true rfl) d_Mod_readField_146 (fun v21 w22 n23 p24 => ?_)
              obtain ⟨x, si1, te1, p1, b1, rfl, e26, f25, ⟨h0, h1, h2, h3, h4, h5, h6, h7, h8, h9, h10, h11, h12, h13⟩, hp1, hTX, hE1, hE2⟩ := p24
              rw [e26]
              refine a_st (st' := []) rfl ?_
              have fr := fr.trans (Fr.sub f25 (by omega) (by omega))
              refine a_goto S (tgt := 164) d_Mod_readField_149 rfl ?_
              exact RT _ _ _ _ _ _ d_Mod_readField_164 (by omega) (by omega) ⟨(false, 0, 0, x), _, _, _, _, _, p1, b1, rfl, rfl, fr, ⟨h0, h1, h2, h3, h4, h5, h6, h7, h8, h9, h10, h11, h12, h13⟩, hp1, hVk.txx hTX, SX.trans SX.id hTX.sx, id, (FdM.text hk2 hpos hE1 hE2)⟩
          · have hk1 : kd = 1 := (nI_eq (by omega) (by decide)).mp h119
            refine a_aload_n S d_Mod_readField_122 rfl rfl ?_
            refine a_iload_n S d_Mod_readField_123 rfl rfl ?_
            refine a_iload S d_Mod_readField_124 rfl ?_
            refine a_callV S (rest := []) lg_Mod_155 h0 (c_Mod_readDecimal X.2.1 D b th fd sl ki fl va fo go si te kp ro ma sz en ms lw hw ls hz pt false l0 (5 * u + f) (tnF fg) w n hl hby hA (by omega) (tnF_01 fg) (by omega) hVk.1 hVk.2.1 ⟨h0, h1, h2, h3, h4, h5, h6, h7, h8, h9, h10, h11, h12, h13⟩) (by decide) (by omega) (by omega) rfl (Nat.le_of_ble_eq_true rfl) d_Mod_readField_126 (fun v27 w28 n29 p30 => ?_)
            obtain ⟨d1, e1, va1, fo1, p1, b1, rfl, e32, f31, ⟨h0, h1, h2, h3, h4, h5, h6, h7, h8, h9, h10, h11, h12, h13⟩, hp1, hDX, hE⟩ := p30
            rw [e32]
            refine a_st (st' := []) rfl ?_
            have fr := fr.trans (Fr.sub f31 (by omega) (by omega))
            refine a_goto S (tgt := 164) d_Mod_readField_129 rfl ?_
            exact RT _ _ _ _ _ _ d_Mod_readField_164 (by omega) (by omega) ⟨(false, d1, e1, []), _, _, _, _, _, p1, b1, rfl, rfl, fr, ⟨h0, h1, h2, h3, h4, h5, h6, h7, h8, h9, h10, h11, h12, h13⟩, hp1, hVk.dx hDX, SX.trans SX.id hDX.sx, id, (FdM.dec hk1 hpos hE)⟩
        · rw [hfl] at h100
          have hD := tnF_1 hf8 h100
          refine a_sipush S (v := 255) d_Mod_readField_103 (by decide) ?_
          refine a_goto S (tgt := 110) d_Mod_readField_106 rfl ?_
          refine a_eqi (y := nI (tnF fg)) (by rw [hD]; rfl) ?_
          refine a_istore S d_Mod_readField_110 (Nat.le_of_ble_eq_true rfl) (lv' := [(0, .ref b), (1, .int (nI u)), (2, .int (nI f)), (3, .int (nI (5 * u + f))), (4, .int (nI (tnF fg)))]) rfl ?_
          refine a_aload_n S d_Mod_readField_112 rfl rfl ?_
          refine a_get S kc_Mod 3 (by decide) lf_Mod_7 h0 rfl d_Mod_readField_113 ?_
          refine a_iload_n S d_Mod_readField_116 rfl rfl ?_
          refine a_iald S (i := f) h1 rfl (by omega) (by decide) d_Mod_readField_117 ?_
          refine a_eqi hki ?_
          refine a_iconst S (v := 1) d_Mod_readField_118 (by decide) ?_
          refine a_icmp_ne S (tgt := 132) d_Mod_readField_119 rfl (fun h119 => ?_) (fun h119 => ?_)
          · have hk1 : ¬ kd = 1 := fun z => h119 (by rw [z]; rfl)
            refine a_aload_n S d_Mod_readField_132 rfl rfl ?_
            refine a_get S kc_Mod 3 (by decide) lf_Mod_7 h0 rfl d_Mod_readField_133 ?_
            refine a_iload_n S d_Mod_readField_136 rfl rfl ?_
            refine a_iald S (i := f) h1 rfl (by omega) (by decide) d_Mod_readField_137 ?_
            refine a_eqi hki ?_
            refine a_iconst S (v := 2) d_Mod_readField_138 (by decide) ?_
            refine a_icmp_ne S (tgt := 152) d_Mod_readField_139 rfl (fun h139 => ?_) (fun h139 => ?_)
            · have hk2 : ¬ kd = 2 := fun z => h139 (by rw [z]; rfl)
              refine a_aload_n S d_Mod_readField_152 rfl rfl ?_
              refine a_get S kc_Mod 5 (by decide) lf_Mod_16 h0 rfl d_Mod_readField_153 ?_
              refine a_iload_n S d_Mod_readField_156 rfl rfl ?_
              refine a_aload_n S d_Mod_readField_157 rfl rfl ?_
              refine a_iload S d_Mod_readField_158 rfl ?_
              refine a_callV S (rest := [_, _]) lg_Mod_161 h0 (c_Mod_readInt X.2.1 D b th fd sl ki fl va fo go si te kp ro ma sz en ms lw hw ls hz pt false l0 (tnF fg) w n hl hby hA (by omega) (tnF_01 fg) ⟨h0, h1, h2, h3, h4, h5, h6, h7, h8, h9, h10, h11, h12, h13⟩) (by decide) (by omega) (by omega) rfl (Nat.le_of_ble_eq_true rfl) d_Mod_readField_160 (fun v33 w34 n35 p36 => ?_)
              obtain ⟨r, p1, b1, rfl, e38, f37, ⟨h0, h1, h2, h3, h4, h5, h6, h7, h8, h9, h10, h11, h12, h13⟩, hp1, hE⟩ := p36
              rw [e38]
              refine a_st (st' := [.long r, .int (nI (5 * u + f)), .ref (b + 3)]) rfl ?_
              have fr := fr.trans (Fr.sub f37 (by omega) (by omega))
              refine a_last S (i := 5 * u + f) h3 rfl (by omega) (by decide) d_Mod_readField_163 (fun w39 h3 e40 => ?_)
              have fr := fr.trans (Fr.sub (Fr.of1 e40) (by omega) (by omega))
              have h0 := Fr.cell (Fr.of1 e40) h0 (by omega)
              have h1 := Fr.cell (Fr.of1 e40) h1 (by omega)
              have h2 := Fr.cell (Fr.of1 e40) h2 (by omega)
              have h4 := Fr.cell (Fr.of1 e40) h4 (by omega)
              have h5 := Fr.cell (Fr.of1 e40) h5 (by omega)
              have h6 := Fr.cell (Fr.of1 e40) h6 (by omega)
              have h7 := Fr.cell (Fr.of1 e40) h7 (by omega)
              have h8 := Fr.cell (Fr.of1 e40) h8 (by omega)
              have h9 := Fr.cell (Fr.of1 e40) h9 (by omega)
              have h10 := Fr.cell (Fr.of1 e40) h10 (by omega)
              have h11 := Fr.cell (Fr.of1 e40) h11 (by omega)
              have h12 := Fr.cell (Fr.of1 e40) h12 (by omega)
              have h13 := Fr.cell (Fr.of1 e40) h13 (by omega)
              exact RT _ _ _ _ _ _ d_Mod_readField_164 (by omega) (by omega) ⟨(false, r, 0, []), _, _, _, _, _, p1, b1, rfl, rfl, fr, ⟨h0, h1, h2, h3, h4, h5, h6, h7, h8, h9, h10, h11, h12, h13⟩, hp1, hVk.vx, SX.trans SX.id SX.va, id, (FdM.int (by omega) hpos hE)⟩
            · have hk2 : kd = 2 := (nI_eq (by omega) (by decide)).mp h139
              refine a_aload_n S d_Mod_readField_142 rfl rfl ?_
              refine a_iload_n S d_Mod_readField_143 rfl rfl ?_
              refine a_iload S d_Mod_readField_144 rfl ?_
              refine a_callV S (rest := []) lg_Mod_158 h0 (c_Mod_readText X.2.1 D b th fd sl ki fl va fo go si te kp ro ma sz en ms lw hw ls hz pt false l0 (5 * u + f) (tnF fg) w n hl hby hA (by omega) (tnF_01 fg) (by omega) hVk.2.2.2.1 ⟨h0, h1, h2, h3, h4, h5, h6, h7, h8, h9, h10, h11, h12, h13⟩) (by decide) (by omega) (by omega) rfl (Nat.le_of_ble_eq_true rfl) d_Mod_readField_146 (fun v41 w42 n43 p44 => ?_)
              obtain ⟨x, si1, te1, p1, b1, rfl, e46, f45, ⟨h0, h1, h2, h3, h4, h5, h6, h7, h8, h9, h10, h11, h12, h13⟩, hp1, hTX, hE1, hE2⟩ := p44
              rw [e46]
              refine a_st (st' := []) rfl ?_
              have fr := fr.trans (Fr.sub f45 (by omega) (by omega))
              refine a_goto S (tgt := 164) d_Mod_readField_149 rfl ?_
              exact RT _ _ _ _ _ _ d_Mod_readField_164 (by omega) (by omega) ⟨(false, 0, 0, x), _, _, _, _, _, p1, b1, rfl, rfl, fr, ⟨h0, h1, h2, h3, h4, h5, h6, h7, h8, h9, h10, h11, h12, h13⟩, hp1, hVk.txx hTX, SX.trans SX.id hTX.sx, id, (FdM.text hk2 hpos hE1 hE2)⟩
          · have hk1 : kd = 1 := (nI_eq (by omega) (by decide)).mp h119
            refine a_aload_n S d_Mod_readField_122 rfl rfl ?_
            refine a_iload_n S d_Mod_readField_123 rfl rfl ?_
            refine a_iload S d_Mod_readField_124 rfl ?_
            refine a_callV S (rest := []) lg_Mod_155 h0 (c_Mod_readDecimal X.2.1 D b th fd sl ki fl va fo go si te kp ro ma sz en ms lw hw ls hz pt false l0 (5 * u + f) (tnF fg) w n hl hby hA (by omega) (tnF_01 fg) (by omega) hVk.1 hVk.2.1 ⟨h0, h1, h2, h3, h4, h5, h6, h7, h8, h9, h10, h11, h12, h13⟩) (by decide) (by omega) (by omega) rfl (Nat.le_of_ble_eq_true rfl) d_Mod_readField_126 (fun v47 w48 n49 p50 => ?_)
            obtain ⟨d1, e1, va1, fo1, p1, b1, rfl, e52, f51, ⟨h0, h1, h2, h3, h4, h5, h6, h7, h8, h9, h10, h11, h12, h13⟩, hp1, hDX, hE⟩ := p50
            rw [e52]
            refine a_st (st' := []) rfl ?_
            have fr := fr.trans (Fr.sub f51 (by omega) (by omega))
            refine a_goto S (tgt := 164) d_Mod_readField_129 rfl ?_
            exact RT _ _ _ _ _ _ d_Mod_readField_164 (by omega) (by omega) ⟨(false, d1, e1, []), _, _, _, _, _, p1, b1, rfl, rfl, fr, ⟨h0, h1, h2, h3, h4, h5, h6, h7, h8, h9, h10, h11, h12, h13⟩, hp1, hVk.dx hDX, SX.trans SX.id hDX.sx, id, (FdM.dec hk1 hpos hE)⟩
      · exact absurd rfl h91
  · rw [hfl] at h11_
    have hO := fOp_1 hf8 h11_
    refine a_aload_n S d_Mod_readField_14 rfl rfl ?_
    refine a_iconst S (v := 0) d_Mod_readField_15 (by decide) ?_
    refine a_callV S (rest := []) lg_Mod_145 h0 (c_Mod_next X.2.1 D b th fd sl ki fl va fo go si te kp ro ma sz en ms lw hw ls hz pt false l0 0 w n hl hby hA hpt (Or.inl rfl) ⟨h0, h1, h2, h3, h4, h5, h6, h7, h8, h9, h10, h11, h12, h13⟩) (by decide) (by omega) (by omega) rfl (Nat.le_of_ble_eq_true rfl) d_Mod_readField_16 (fun v53 w54 n55 p56 => ?_)
    rcases p56 with ⟨hq59, rfl, e58, f57, h0, h1, h2, h3, h4, h5, h6, h7, h8, h9, h10, h11, h12, h13⟩ | ⟨hq59, rfl, e58, f57, h0, h1, h2, h3, h4, h5, h6, h7, h8, h9, h10, h11, h12, h13⟩
    · rw [e58]
      refine a_st (st' := [.int (nI (tnB 0 (l0.getD pt 0)))]) rfl ?_
      have hbhq59 := tnB_lt (t := 0) (getD_lt hby pt)
      have fr := fr.trans (Fr.sub f57 (by omega) (by omega))
      refine a_istore S d_Mod_readField_19 (Nat.le_of_ble_eq_true rfl) (lv' := [(0, .ref b), (1, .int (nI u)), (2, .int (nI f)), (3, .int (nI (5 * u + f))), (4, .int (nI (tnB 0 (l0.getD pt 0))))]) rfl ?_
      refine a_aload_n S d_Mod_readField_21 rfl rfl ?_
      refine a_get S kc_Mod 7 (by decide) lf_Mod_23 h0 rfl d_Mod_readField_22 ?_
      refine a_iload_n S d_Mod_readField_25 rfl rfl ?_
      refine a_iload S d_Mod_readField_26 rfl ?_
      refine a_iconst S (v := 1) d_Mod_readField_28 (by decide) ?_
      refine a_icmp_eq S (tgt := 36) d_Mod_readField_29 rfl (fun h29 => ?_) (fun h29 => ?_)
      · have hy1 : tnB 0 (l0.getD pt 0) = 1 := (nI_eq (by omega) (by decide)).mp h29
        refine a_iconst S (v := 0) d_Mod_readField_36 (by decide) ?_
        refine a_zast S (i := 5 * u + f) h5 rfl (by omega) (by decide) d_Mod_readField_37 (fun w60 h5 e61 => ?_)
        have fr := fr.trans (Fr.sub (Fr.of1 e61) (by omega) (by omega))
        have h0 := Fr.cell (Fr.of1 e61) h0 (by omega)
        have h1 := Fr.cell (Fr.of1 e61) h1 (by omega)
        have h2 := Fr.cell (Fr.of1 e61) h2 (by omega)
        have h3 := Fr.cell (Fr.of1 e61) h3 (by omega)
        have h4 := Fr.cell (Fr.of1 e61) h4 (by omega)
        have h6 := Fr.cell (Fr.of1 e61) h6 (by omega)
        have h7 := Fr.cell (Fr.of1 e61) h7 (by omega)
        have h8 := Fr.cell (Fr.of1 e61) h8 (by omega)
        have h9 := Fr.cell (Fr.of1 e61) h9 (by omega)
        have h10 := Fr.cell (Fr.of1 e61) h10 (by omega)
        have h11 := Fr.cell (Fr.of1 e61) h11 (by omega)
        have h12 := Fr.cell (Fr.of1 e61) h12 (by omega)
        have h13 := Fr.cell (Fr.of1 e61) h13 (by omega)
        refine a_aload_n S d_Mod_readField_38 rfl rfl ?_
        refine a_aload_n S d_Mod_readField_39 rfl rfl ?_
        refine a_get S kc_Mod 22 (by decide) lf_Mod_142 h0 rfl d_Mod_readField_40 ?_
        refine a_if_ne S (tgt := 70) d_Mod_readField_43 rfl (fun h43 => ?_) (fun h43 => ?_)
        · exact absurd rfl h43
        · refine a_iload S d_Mod_readField_46 rfl ?_
          refine a_iconst S (v := 1) d_Mod_readField_48 (by decide) ?_
          refine a_icmp_eq S (tgt := 74) d_Mod_readField_49 rfl (fun h49 => ?_) (fun h49 => ?_)
          · refine a_iconst S (v := 0) d_Mod_readField_74 (by decide) ?_
            refine a_put S kc_Mod kt_Mod 22 (by decide) lf_Mod_142 rfl h0 rfl rfl (Nat.le_of_ble_eq_true rfl) d_Mod_readField_75 (fun w62 h0 e63 => ?_)
            have h0 : w62 b = some (.inr (6, [.int th, .int (nI fd), .int (if sl then 1 else 0), .ref (b + 1), .ref (b + 2), .ref (b + 3), .ref (b + 4), .ref (b + 5), .ref (b + 6), .ref (b + 7), .int (nI kp), .ref (b + 8), .int (nI l0.length), .ref (b + 9), .int (nI sz), .ref (b + 10), .ref (b + 11), .ref (b + 12), .ref (b + 13), .int (nI ls), .int hz, .int (nI (pt + 1)), .int 0])) := h0
            have fr := fr.trans (Fr.sub (Fr.of1 e63) (by omega) (by omega))
            have h1 := Fr.cell (Fr.of1 e63) h1 (by omega)
            have h2 := Fr.cell (Fr.of1 e63) h2 (by omega)
            have h3 := Fr.cell (Fr.of1 e63) h3 (by omega)
            have h4 := Fr.cell (Fr.of1 e63) h4 (by omega)
            have h5 := Fr.cell (Fr.of1 e63) h5 (by omega)
            have h6 := Fr.cell (Fr.of1 e63) h6 (by omega)
            have h7 := Fr.cell (Fr.of1 e63) h7 (by omega)
            have h8 := Fr.cell (Fr.of1 e63) h8 (by omega)
            have h9 := Fr.cell (Fr.of1 e63) h9 (by omega)
            have h10 := Fr.cell (Fr.of1 e63) h10 (by omega)
            have h11 := Fr.cell (Fr.of1 e63) h11 (by omega)
            have h12 := Fr.cell (Fr.of1 e63) h12 (by omega)
            have h13 := Fr.cell (Fr.of1 e63) h13 (by omega)
            refine a_aload_n S d_Mod_readField_78 rfl rfl ?_
            refine a_get S kc_Mod 7 (by decide) lf_Mod_23 h0 rfl d_Mod_readField_79 ?_
            refine a_iload_n S d_Mod_readField_82 rfl rfl ?_
            refine a_zald S (i := 5 * u + f) h5 rfl (by omega) (by decide) d_Mod_readField_83 ?_
            refine a_eqi (pk_us.trans rfl) ?_
            refine a_if_ne S (tgt := 94) d_Mod_readField_84 rfl (fun h84 => ?_) (fun h84 => ?_)
            · exact absurd (by decide) h84
            · refine a_aload_n S d_Mod_readField_87 rfl rfl ?_
              refine a_get S kc_Mod 22 (by decide) lf_Mod_142 h0 rfl d_Mod_readField_88 ?_
              refine a_if_eq S (tgt := 95) d_Mod_readField_91 rfl (fun h91 => ?_) (fun h91 => ?_)
              · have hVk := hV0.g0
                have hpos : PosC l0 pt kd fg (pt + 1) := PosC.o hO hy1
                refine a_aload_n S d_Mod_readField_95 rfl rfl ?_
                refine a_iload_n S d_Mod_readField_96 rfl rfl ?_
                refine a_callV S (rest := []) lg_Mod_116 h0 (c_Mod_isDown X.2.1 D b th fd sl ki fl va fo (upd go (5 * u + f) (vp_nar .boolean 0)) si te kp ro l0.length ma sz en ms lw hw ls hz (pt + 1) false f w62 n hf ⟨h0, h1, h2, h3, h4, h5, h6, h7, h8, h9, h10, h11, h12, h13⟩) (by decide) (by omega) (by omega) rfl (Nat.le_of_ble_eq_true rfl) d_Mod_readField_97 (fun v64 w65 n66 p67 => ?_)
                obtain ⟨rfl, e68, e69⟩ := p67
                rw [e68, e69]
                refine a_st (st' := [.int (if fl f &&& 1 = 0 then 0 else 1)]) rfl ?_
                refine a_if_eq S (tgt := 109) d_Mod_readField_100 rfl (fun h100 => ?_) (fun h100 => ?_)
                · rw [hfl] at h100
                  have hD := tnF_0 hf8 h100
                  refine a_iconst S (v := 0) d_Mod_readField_109 (by decide) ?_
                  refine a_eqi (y := nI (tnF fg)) (by rw [hD]; rfl) ?_
                  refine a_istore S d_Mod_readField_110 (Nat.le_of_ble_eq_true rfl) (lv' := [(0, .ref b), (1, .int (nI u)), (2, .int (nI f)), (3, .int (nI (5 * u + f))), (4, .int (nI (tnF fg)))]) rfl ?_
                  refine a_aload_n S d_Mod_readField_112 rfl rfl ?_
                  refine a_get S kc_Mod 3 (by decide) lf_Mod_7 h0 rfl d_Mod_readField_113 ?_
                  refine a_iload_n S d_Mod_readField_116 rfl rfl ?_
                  refine a_iald S (i := f) h1 rfl (by omega) (by decide) d_Mod_readField_117 ?_
                  refine a_eqi hki ?_
                  refine a_iconst S (v := 1) d_Mod_readField_118 (by decide) ?_
                  refine a_icmp_ne S (tgt := 132) d_Mod_readField_119 rfl (fun h119 => ?_) (fun h119 => ?_)
                  · have hk1 : ¬ kd = 1 := fun z => h119 (by rw [z]; rfl)
                    refine a_aload_n S d_Mod_readField_132 rfl rfl ?_
                    refine a_get S kc_Mod 3 (by decide) lf_Mod_7 h0 rfl d_Mod_readField_133 ?_
                    refine a_iload_n S d_Mod_readField_136 rfl rfl ?_
                    refine a_iald S (i := f) h1 rfl (by omega) (by decide) d_Mod_readField_137 ?_
                    refine a_eqi hki ?_
                    refine a_iconst S (v := 2) d_Mod_readField_138 (by decide) ?_
                    refine a_icmp_ne S (tgt := 152) d_Mod_readField_139 rfl (fun h139 => ?_) (fun h139 => ?_)
                    · have hk2 : ¬ kd = 2 := fun z => h139 (by rw [z]; rfl)
                      refine a_aload_n S d_Mod_readField_152 rfl rfl ?_
                      refine a_get S kc_Mod 5 (by decide) lf_Mod_16 h0 rfl d_Mod_readField_153 ?_
                      refine a_iload_n S d_Mod_readField_156 rfl rfl ?_
                      refine a_aload_n S d_Mod_readField_157 rfl rfl ?_
                      refine a_iload S d_Mod_readField_158 rfl ?_
                      refine a_callV S (rest := [_, _]) lg_Mod_161 h0 (c_Mod_readInt X.2.1 D b th fd sl ki fl va fo (upd go (5 * u + f) (vp_nar .boolean 0)) si te kp ro ma sz en ms lw hw ls hz (pt + 1) false l0 (tnF fg) w62 n hl hby hA (by omega) (tnF_01 fg) ⟨h0, h1, h2, h3, h4, h5, h6, h7, h8, h9, h10, h11, h12, h13⟩) (by decide) (by omega) (by omega) rfl (Nat.le_of_ble_eq_true rfl) d_Mod_readField_160 (fun v70 w71 n72 p73 => ?_)
                      obtain ⟨r, p1, b1, rfl, e75, f74, ⟨h0, h1, h2, h3, h4, h5, h6, h7, h8, h9, h10, h11, h12, h13⟩, hp1, hE⟩ := p73
                      rw [e75]
                      refine a_st (st' := [.long r, .int (nI (5 * u + f)), .ref (b + 3)]) rfl ?_
                      have fr := fr.trans (Fr.sub f74 (by omega) (by omega))
                      refine a_last S (i := 5 * u + f) h3 rfl (by omega) (by decide) d_Mod_readField_163 (fun w76 h3 e77 => ?_)
                      have fr := fr.trans (Fr.sub (Fr.of1 e77) (by omega) (by omega))
                      have h0 := Fr.cell (Fr.of1 e77) h0 (by omega)
                      have h1 := Fr.cell (Fr.of1 e77) h1 (by omega)
                      have h2 := Fr.cell (Fr.of1 e77) h2 (by omega)
                      have h4 := Fr.cell (Fr.of1 e77) h4 (by omega)
                      have h5 := Fr.cell (Fr.of1 e77) h5 (by omega)
                      have h6 := Fr.cell (Fr.of1 e77) h6 (by omega)
                      have h7 := Fr.cell (Fr.of1 e77) h7 (by omega)
                      have h8 := Fr.cell (Fr.of1 e77) h8 (by omega)
                      have h9 := Fr.cell (Fr.of1 e77) h9 (by omega)
                      have h10 := Fr.cell (Fr.of1 e77) h10 (by omega)
                      have h11 := Fr.cell (Fr.of1 e77) h11 (by omega)
                      have h12 := Fr.cell (Fr.of1 e77) h12 (by omega)
                      have h13 := Fr.cell (Fr.of1 e77) h13 (by omega)
                      exact RT _ _ _ _ _ _ d_Mod_readField_164 (by omega) (by omega) ⟨(false, r, 0, []), _, _, _, _, _, p1, b1, rfl, rfl, fr, ⟨h0, h1, h2, h3, h4, h5, h6, h7, h8, h9, h10, h11, h12, h13⟩, hp1, hVk.vx, SX.trans SX.go SX.va, (fun z => z.upd _ _), (FdM.int (by omega) hpos hE)⟩
                    · have hk2 : kd = 2 := (nI_eq (by omega) (by decide)).mp h139
                      refine a_aload_n S d_Mod_readField_142 rfl rfl ?_
                      refine a_iload_n S d_Mod_readField_143 rfl rfl ?_
                      refine a_iload S d_Mod_readField_144 rfl ?_
                      refine a_callV S (rest := []) lg_Mod_158 h0 (c_Mod_readText X.2.1 D b th fd sl ki fl va fo (upd go (5 * u + f) (vp_nar .boolean 0)) si te kp ro ma sz en ms lw hw ls hz (pt + 1) false l0 (5 * u + f) (tnF fg) w62 n hl hby hA (by omega) (tnF_01 fg) (by omega) hVk.2.2.2.1 ⟨h0, h1, h2, h3, h4, h5, h6, h7, h8, h9, h10, h11, h12, h13⟩) (by decide) (by omega) (by omega) rfl (Nat.le_of_ble_eq_true rfl) d_Mod_readField_146 (fun v78 w79 n80 p81 => ?_)
                      obtain ⟨x, si1, te1, p1, b1, rfl, e83, f82, ⟨h0, h1, h2, h3, h4, h5, h6, h7, h8, h9, h10, h11, h12, h13⟩, hp1, hTX, hE1, hE2⟩ := p81
                      rw [e83]
                      refine a_st (st' := []) rfl ?_
                      have fr := fr.trans (Fr.sub f82 (by omega) (by omega))
                      refine a_goto S (tgt := 164) d_Mod_readField_149 rfl ?_
                      exact RT _ _ _ _ _ _ d_Mod_readField_164 (by omega) (by omega) ⟨(false, 0, 0, x), _, _, _, _, _, p1, b1, rfl, rfl, fr, ⟨h0, h1, h2, h3, h4, h5, h6, h7, h8, h9, h10, h11, h12, h13⟩, hp1, hVk.txx hTX, SX.trans SX.go hTX.sx, (fun z => z.upd _ _), (FdM.text hk2 hpos hE1 hE2)⟩
                  · have hk1 : kd = 1 := (nI_eq (by omega) (by decide)).mp h119
                    refine a_aload_n S d_Mod_readField_122 rfl rfl ?_
                    refine a_iload_n S d_Mod_readField_123 rfl rfl ?_
                    refine a_iload S d_Mod_readField_124 rfl ?_
                    refine a_callV S (rest := []) lg_Mod_155 h0 (c_Mod_readDecimal X.2.1 D b th fd sl ki fl va fo (upd go (5 * u + f) (vp_nar .boolean 0)) si te kp ro ma sz en ms lw hw ls hz (pt + 1) false l0 (5 * u + f) (tnF fg) w62 n hl hby hA (by omega) (tnF_01 fg) (by omega) hVk.1 hVk.2.1 ⟨h0, h1, h2, h3, h4, h5, h6, h7, h8, h9, h10, h11, h12, h13⟩) (by decide) (by omega) (by omega) rfl (Nat.le_of_ble_eq_true rfl) d_Mod_readField_126 (fun v84 w85 n86 p87 => ?_)
                    obtain ⟨d1, e1, va1, fo1, p1, b1, rfl, e89, f88, ⟨h0, h1, h2, h3, h4, h5, h6, h7, h8, h9, h10, h11, h12, h13⟩, hp1, hDX, hE⟩ := p87
                    rw [e89]
                    refine a_st (st' := []) rfl ?_
                    have fr := fr.trans (Fr.sub f88 (by omega) (by omega))
                    refine a_goto S (tgt := 164) d_Mod_readField_129 rfl ?_
                    exact RT _ _ _ _ _ _ d_Mod_readField_164 (by omega) (by omega) ⟨(false, d1, e1, []), _, _, _, _, _, p1, b1, rfl, rfl, fr, ⟨h0, h1, h2, h3, h4, h5, h6, h7, h8, h9, h10, h11, h12, h13⟩, hp1, hVk.dx hDX, SX.trans SX.go hDX.sx, (fun z => z.upd _ _), (FdM.dec hk1 hpos hE)⟩
                · rw [hfl] at h100
                  have hD := tnF_1 hf8 h100
                  refine a_sipush S (v := 255) d_Mod_readField_103 (by decide) ?_
                  refine a_goto S (tgt := 110) d_Mod_readField_106 rfl ?_
                  refine a_eqi (y := nI (tnF fg)) (by rw [hD]; rfl) ?_
                  refine a_istore S d_Mod_readField_110 (Nat.le_of_ble_eq_true rfl) (lv' := [(0, .ref b), (1, .int (nI u)), (2, .int (nI f)), (3, .int (nI (5 * u + f))), (4, .int (nI (tnF fg)))]) rfl ?_
                  refine a_aload_n S d_Mod_readField_112 rfl rfl ?_
                  refine a_get S kc_Mod 3 (by decide) lf_Mod_7 h0 rfl d_Mod_readField_113 ?_
                  refine a_iload_n S d_Mod_readField_116 rfl rfl ?_
                  refine a_iald S (i := f) h1 rfl (by omega) (by decide) d_Mod_readField_117 ?_
                  refine a_eqi hki ?_
                  refine a_iconst S (v := 1) d_Mod_readField_118 (by decide) ?_
                  refine a_icmp_ne S (tgt := 132) d_Mod_readField_119 rfl (fun h119 => ?_) (fun h119 => ?_)
                  · have hk1 : ¬ kd = 1 := fun z => h119 (by rw [z]; rfl)
                    refine a_aload_n S d_Mod_readField_132 rfl rfl ?_
                    refine a_get S kc_Mod 3 (by decide) lf_Mod_7 h0 rfl d_Mod_readField_133 ?_
                    refine a_iload_n S d_Mod_readField_136 rfl rfl ?_
                    refine a_iald S (i := f) h1 rfl (by omega) (by decide) d_Mod_readField_137 ?_
                    refine a_eqi hki ?_
                    refine a_iconst S (v := 2) d_Mod_readField_138 (by decide) ?_
                    refine a_icmp_ne S (tgt := 152) d_Mod_readField_139 rfl (fun h139 => ?_) (fun h139 => ?_)
                    · have hk2 : ¬ kd = 2 := fun z => h139 (by rw [z]; rfl)
                      refine a_aload_n S d_Mod_readField_152 rfl rfl ?_
                      refine a_get S kc_Mod 5 (by decide) lf_Mod_16 h0 rfl d_Mod_readField_153 ?_
                      refine a_iload_n S d_Mod_readField_156 rfl rfl ?_
                      refine a_aload_n S d_Mod_readField_157 rfl rfl ?_
                      refine a_iload S d_Mod_readField_158 rfl ?_
                      refine a_callV S (rest := [_, _]) lg_Mod_161 h0 (c_Mod_readInt X.2.1 D b th fd sl ki fl va fo (upd go (5 * u + f) (vp_nar .boolean 0)) si te kp ro ma sz en ms lw hw ls hz (pt + 1) false l0 (tnF fg) w62 n hl hby hA (by omega) (tnF_01 fg) ⟨h0, h1, h2, h3, h4, h5, h6, h7, h8, h9, h10, h11, h12, h13⟩) (by decide) (by omega) (by omega) rfl (Nat.le_of_ble_eq_true rfl) d_Mod_readField_160 (fun v90 w91 n92 p93 => ?_)
                      obtain ⟨r, p1, b1, rfl, e95, f94, ⟨h0, h1, h2, h3, h4, h5, h6, h7, h8, h9, h10, h11, h12, h13⟩, hp1, hE⟩ := p93
                      rw [e95]
                      refine a_st (st' := [.long r, .int (nI (5 * u + f)), .ref (b + 3)]) rfl ?_
                      have fr := fr.trans (Fr.sub f94 (by omega) (by omega))
                      refine a_last S (i := 5 * u + f) h3 rfl (by omega) (by decide) d_Mod_readField_163 (fun w96 h3 e97 => ?_)
                      have fr := fr.trans (Fr.sub (Fr.of1 e97) (by omega) (by omega))
                      have h0 := Fr.cell (Fr.of1 e97) h0 (by omega)
                      have h1 := Fr.cell (Fr.of1 e97) h1 (by omega)
                      have h2 := Fr.cell (Fr.of1 e97) h2 (by omega)
                      have h4 := Fr.cell (Fr.of1 e97) h4 (by omega)
                      have h5 := Fr.cell (Fr.of1 e97) h5 (by omega)
                      have h6 := Fr.cell (Fr.of1 e97) h6 (by omega)
                      have h7 := Fr.cell (Fr.of1 e97) h7 (by omega)
                      have h8 := Fr.cell (Fr.of1 e97) h8 (by omega)
                      have h9 := Fr.cell (Fr.of1 e97) h9 (by omega)
                      have h10 := Fr.cell (Fr.of1 e97) h10 (by omega)
                      have h11 := Fr.cell (Fr.of1 e97) h11 (by omega)
                      have h12 := Fr.cell (Fr.of1 e97) h12 (by omega)
                      have h13 := Fr.cell (Fr.of1 e97) h13 (by omega)
                      exact RT _ _ _ _ _ _ d_Mod_readField_164 (by omega) (by omega) ⟨(false, r, 0, []), _, _, _, _, _, p1, b1, rfl, rfl, fr, ⟨h0, h1, h2, h3, h4, h5, h6, h7, h8, h9, h10, h11, h12, h13⟩, hp1, hVk.vx, SX.trans SX.go SX.va, (fun z => z.upd _ _), (FdM.int (by omega) hpos hE)⟩
                    · have hk2 : kd = 2 := (nI_eq (by omega) (by decide)).mp h139
                      refine a_aload_n S d_Mod_readField_142 rfl rfl ?_
                      refine a_iload_n S d_Mod_readField_143 rfl rfl ?_
                      refine a_iload S d_Mod_readField_144 rfl ?_
                      refine a_callV S (rest := []) lg_Mod_158 h0 (c_Mod_readText X.2.1 D b th fd sl ki fl va fo (upd go (5 * u + f) (vp_nar .boolean 0)) si te kp ro ma sz en ms lw hw ls hz (pt + 1) false l0 (5 * u + f) (tnF fg) w62 n hl hby hA (by omega) (tnF_01 fg) (by omega) hVk.2.2.2.1 ⟨h0, h1, h2, h3, h4, h5, h6, h7, h8, h9, h10, h11, h12, h13⟩) (by decide) (by omega) (by omega) rfl (Nat.le_of_ble_eq_true rfl) d_Mod_readField_146 (fun v98 w99 n100 p101 => ?_)
                      obtain ⟨x, si1, te1, p1, b1, rfl, e103, f102, ⟨h0, h1, h2, h3, h4, h5, h6, h7, h8, h9, h10, h11, h12, h13⟩, hp1, hTX, hE1, hE2⟩ := p101
                      rw [e103]
                      refine a_st (st' := []) rfl ?_
                      have fr := fr.trans (Fr.sub f102 (by omega) (by omega))
                      refine a_goto S (tgt := 164) d_Mod_readField_149 rfl ?_
                      exact RT _ _ _ _ _ _ d_Mod_readField_164 (by omega) (by omega) ⟨(false, 0, 0, x), _, _, _, _, _, p1, b1, rfl, rfl, fr, ⟨h0, h1, h2, h3, h4, h5, h6, h7, h8, h9, h10, h11, h12, h13⟩, hp1, hVk.txx hTX, SX.trans SX.go hTX.sx, (fun z => z.upd _ _), (FdM.text hk2 hpos hE1 hE2)⟩
                  · have hk1 : kd = 1 := (nI_eq (by omega) (by decide)).mp h119
                    refine a_aload_n S d_Mod_readField_122 rfl rfl ?_
                    refine a_iload_n S d_Mod_readField_123 rfl rfl ?_
                    refine a_iload S d_Mod_readField_124 rfl ?_
                    refine a_callV S (rest := []) lg_Mod_155 h0 (c_Mod_readDecimal X.2.1 D b th fd sl ki fl va fo (upd go (5 * u + f) (vp_nar .boolean 0)) si te kp ro ma sz en ms lw hw ls hz (pt + 1) false l0 (5 * u + f) (tnF fg) w62 n hl hby hA (by omega) (tnF_01 fg) (by omega) hVk.1 hVk.2.1 ⟨h0, h1, h2, h3, h4, h5, h6, h7, h8, h9, h10, h11, h12, h13⟩) (by decide) (by omega) (by omega) rfl (Nat.le_of_ble_eq_true rfl) d_Mod_readField_126 (fun v104 w105 n106 p107 => ?_)
                    obtain ⟨d1, e1, va1, fo1, p1, b1, rfl, e109, f108, ⟨h0, h1, h2, h3, h4, h5, h6, h7, h8, h9, h10, h11, h12, h13⟩, hp1, hDX, hE⟩ := p107
                    rw [e109]
                    refine a_st (st' := []) rfl ?_
                    have fr := fr.trans (Fr.sub f108 (by omega) (by omega))
                    refine a_goto S (tgt := 164) d_Mod_readField_129 rfl ?_
                    exact RT _ _ _ _ _ _ d_Mod_readField_164 (by omega) (by omega) ⟨(false, d1, e1, []), _, _, _, _, _, p1, b1, rfl, rfl, fr, ⟨h0, h1, h2, h3, h4, h5, h6, h7, h8, h9, h10, h11, h12, h13⟩, hp1, hVk.dx hDX, SX.trans SX.go hDX.sx, (fun z => z.upd _ _), (FdM.dec hk1 hpos hE)⟩
              · exact absurd rfl h91
          · exact absurd (by rw [hy1]; rfl) h49
      · have hy1 : ¬ tnB 0 (l0.getD pt 0) = 1 := fun z => h29 (by rw [z]; rfl)
        refine a_iconst S (v := 1) d_Mod_readField_32 (by decide) ?_
        refine a_goto S (tgt := 37) d_Mod_readField_33 rfl ?_
        refine a_zast S (i := 5 * u + f) h5 rfl (by omega) (by decide) d_Mod_readField_37 (fun w110 h5 e111 => ?_)
        have fr := fr.trans (Fr.sub (Fr.of1 e111) (by omega) (by omega))
        have h0 := Fr.cell (Fr.of1 e111) h0 (by omega)
        have h1 := Fr.cell (Fr.of1 e111) h1 (by omega)
        have h2 := Fr.cell (Fr.of1 e111) h2 (by omega)
        have h3 := Fr.cell (Fr.of1 e111) h3 (by omega)
        have h4 := Fr.cell (Fr.of1 e111) h4 (by omega)
        have h6 := Fr.cell (Fr.of1 e111) h6 (by omega)
        have h7 := Fr.cell (Fr.of1 e111) h7 (by omega)
        have h8 := Fr.cell (Fr.of1 e111) h8 (by omega)
        have h9 := Fr.cell (Fr.of1 e111) h9 (by omega)
        have h10 := Fr.cell (Fr.of1 e111) h10 (by omega)
        have h11 := Fr.cell (Fr.of1 e111) h11 (by omega)
        have h12 := Fr.cell (Fr.of1 e111) h12 (by omega)
        have h13 := Fr.cell (Fr.of1 e111) h13 (by omega)
        refine a_aload_n S d_Mod_readField_38 rfl rfl ?_
        refine a_aload_n S d_Mod_readField_39 rfl rfl ?_
        refine a_get S kc_Mod 22 (by decide) lf_Mod_142 h0 rfl d_Mod_readField_40 ?_
        refine a_if_ne S (tgt := 70) d_Mod_readField_43 rfl (fun h43 => ?_) (fun h43 => ?_)
        · exact absurd rfl h43
        · refine a_iload S d_Mod_readField_46 rfl ?_
          refine a_iconst S (v := 1) d_Mod_readField_48 (by decide) ?_
          refine a_icmp_eq S (tgt := 74) d_Mod_readField_49 rfl (fun h49 => ?_) (fun h49 => ?_)
          · exact absurd ((nI_eq (by omega) (by decide)).mp h49) hy1
          · refine a_iload S d_Mod_readField_52 rfl ?_
            refine a_aload_n S d_Mod_readField_54 rfl rfl ?_
            refine a_iload_n S d_Mod_readField_55 rfl rfl ?_
            refine a_callV S (rest := [_, _]) lg_Mod_113 h0 (c_Mod_isLast X.2.1 D b th fd sl ki fl va fo (upd go (5 * u + f) (vp_nar .boolean 1)) si te kp ro l0.length ma sz en ms lw hw ls hz (pt + 1) false f w110 n hf ⟨h0, h1, h2, h3, h4, h5, h6, h7, h8, h9, h10, h11, h12, h13⟩) (by decide) (by omega) (by omega) rfl (Nat.le_of_ble_eq_true rfl) d_Mod_readField_56 (fun v112 w113 n114 p115 => ?_)
            obtain ⟨rfl, e116, e117⟩ := p115
            rw [e116, e117]
            refine a_st (st' := [.int (if fl f &&& 4 = 0 then 0 else 1), .int (nI (tnB 0 (l0.getD pt 0))), .ref b]) rfl ?_
            refine a_if_eq S (tgt := 66) d_Mod_readField_59 rfl (fun h59 => ?_) (fun h59 => ?_)
            · rw [hfl] at h59
              have hM := mkA_0 hf8 h59
              refine a_iconst S (v := 0) d_Mod_readField_66 (by decide) ?_
              refine a_icmp_eq S (tgt := 74) d_Mod_readField_67 rfl (fun h67 => ?_) (fun h67 => ?_)
              · have hmk : tnB 0 (l0.getD pt 0) = mkA fg := by rw [hM]; exact (nI_eq (by omega) (by decide)).mp h67
                refine a_iconst S (v := 0) d_Mod_readField_74 (by decide) ?_
                refine a_put S kc_Mod kt_Mod 22 (by decide) lf_Mod_142 rfl h0 rfl rfl (Nat.le_of_ble_eq_true rfl) d_Mod_readField_75 (fun w118 h0 e119 => ?_)
                have h0 : w118 b = some (.inr (6, [.int th, .int (nI fd), .int (if sl then 1 else 0), .ref (b + 1), .ref (b + 2), .ref (b + 3), .ref (b + 4), .ref (b + 5), .ref (b + 6), .ref (b + 7), .int (nI kp), .ref (b + 8), .int (nI l0.length), .ref (b + 9), .int (nI sz), .ref (b + 10), .ref (b + 11), .ref (b + 12), .ref (b + 13), .int (nI ls), .int hz, .int (nI (pt + 1)), .int 0])) := h0
                have fr := fr.trans (Fr.sub (Fr.of1 e119) (by omega) (by omega))
                have h1 := Fr.cell (Fr.of1 e119) h1 (by omega)
                have h2 := Fr.cell (Fr.of1 e119) h2 (by omega)
                have h3 := Fr.cell (Fr.of1 e119) h3 (by omega)
                have h4 := Fr.cell (Fr.of1 e119) h4 (by omega)
                have h5 := Fr.cell (Fr.of1 e119) h5 (by omega)
                have h6 := Fr.cell (Fr.of1 e119) h6 (by omega)
                have h7 := Fr.cell (Fr.of1 e119) h7 (by omega)
                have h8 := Fr.cell (Fr.of1 e119) h8 (by omega)
                have h9 := Fr.cell (Fr.of1 e119) h9 (by omega)
                have h10 := Fr.cell (Fr.of1 e119) h10 (by omega)
                have h11 := Fr.cell (Fr.of1 e119) h11 (by omega)
                have h12 := Fr.cell (Fr.of1 e119) h12 (by omega)
                have h13 := Fr.cell (Fr.of1 e119) h13 (by omega)
                refine a_aload_n S d_Mod_readField_78 rfl rfl ?_
                refine a_get S kc_Mod 7 (by decide) lf_Mod_23 h0 rfl d_Mod_readField_79 ?_
                refine a_iload_n S d_Mod_readField_82 rfl rfl ?_
                refine a_zald S (i := 5 * u + f) h5 rfl (by omega) (by decide) d_Mod_readField_83 ?_
                refine a_eqi (pk_us.trans rfl) ?_
                refine a_if_ne S (tgt := 94) d_Mod_readField_84 rfl (fun h84 => ?_) (fun h84 => ?_)
                · exact RT _ _ _ _ _ _ d_Mod_readField_94 (by omega) (by omega) ⟨(true, 0, 0, []), _, _, _, _, _, pt + 1, false, rfl, rfl, fr, ⟨h0, h1, h2, h3, h4, h5, h6, h7, h8, h9, h10, h11, h12, h13⟩, (by omega), hV0.g1, SX.go, (fun z => z.upd _ _), (FdM.miss hO hmk)⟩
                · exact absurd h84 (by decide)
              · have hmk : ¬ tnB 0 (l0.getD pt 0) = mkA fg := fun z => h67 (by rw [z, hM]; rfl)
                refine a_iconst S (v := 1) d_Mod_readField_70 (by decide) ?_
                refine a_goto S (tgt := 75) d_Mod_readField_71 rfl ?_
                refine a_put S kc_Mod kt_Mod 22 (by decide) lf_Mod_142 rfl h0 rfl rfl (Nat.le_of_ble_eq_true rfl) d_Mod_readField_75 (fun w120 h0 e121 => ?_)
                have h0 : w120 b = some (.inr (6, [.int th, .int (nI fd), .int (if sl then 1 else 0), .ref (b + 1), .ref (b + 2), .ref (b + 3), .ref (b + 4), .ref (b + 5), .ref (b + 6), .ref (b + 7), .int (nI kp), .ref (b + 8), .int (nI l0.length), .ref (b + 9), .int (nI sz), .ref (b + 10), .ref (b + 11), .ref (b + 12), .ref (b + 13), .int (nI ls), .int hz, .int (nI (pt + 1)), .int 1])) := h0
                have fr := fr.trans (Fr.sub (Fr.of1 e121) (by omega) (by omega))
                have h1 := Fr.cell (Fr.of1 e121) h1 (by omega)
                have h2 := Fr.cell (Fr.of1 e121) h2 (by omega)
                have h3 := Fr.cell (Fr.of1 e121) h3 (by omega)
                have h4 := Fr.cell (Fr.of1 e121) h4 (by omega)
                have h5 := Fr.cell (Fr.of1 e121) h5 (by omega)
                have h6 := Fr.cell (Fr.of1 e121) h6 (by omega)
                have h7 := Fr.cell (Fr.of1 e121) h7 (by omega)
                have h8 := Fr.cell (Fr.of1 e121) h8 (by omega)
                have h9 := Fr.cell (Fr.of1 e121) h9 (by omega)
                have h10 := Fr.cell (Fr.of1 e121) h10 (by omega)
                have h11 := Fr.cell (Fr.of1 e121) h11 (by omega)
                have h12 := Fr.cell (Fr.of1 e121) h12 (by omega)
                have h13 := Fr.cell (Fr.of1 e121) h13 (by omega)
                refine a_aload_n S d_Mod_readField_78 rfl rfl ?_
                refine a_get S kc_Mod 7 (by decide) lf_Mod_23 h0 rfl d_Mod_readField_79 ?_
                refine a_iload_n S d_Mod_readField_82 rfl rfl ?_
                refine a_zald S (i := 5 * u + f) h5 rfl (by omega) (by decide) d_Mod_readField_83 ?_
                refine a_eqi (pk_us.trans rfl) ?_
                refine a_if_ne S (tgt := 94) d_Mod_readField_84 rfl (fun h84 => ?_) (fun h84 => ?_)
                · exact RT _ _ _ _ _ _ d_Mod_readField_94 (by omega) (by omega) ⟨(true, 0, 0, []), _, _, _, _, _, pt + 1, true, rfl, rfl, fr, ⟨h0, h1, h2, h3, h4, h5, h6, h7, h8, h9, h10, h11, h12, h13⟩, (by omega), hV0.g1, SX.go, (fun z => z.upd _ _), (FdM.bad hO hmk hy1)⟩
                · exact absurd h84 (by decide)
            · rw [hfl] at h59
              have hM := mkA_1 hf8 h59
              refine a_iconst S (v := 2) d_Mod_readField_62 (by decide) ?_
              refine a_goto S (tgt := 67) d_Mod_readField_63 rfl ?_
              refine a_icmp_eq S (tgt := 74) d_Mod_readField_67 rfl (fun h67 => ?_) (fun h67 => ?_)
              · have hmk : tnB 0 (l0.getD pt 0) = mkA fg := by rw [hM]; exact (nI_eq (by omega) (by decide)).mp h67
                refine a_iconst S (v := 0) d_Mod_readField_74 (by decide) ?_
                refine a_put S kc_Mod kt_Mod 22 (by decide) lf_Mod_142 rfl h0 rfl rfl (Nat.le_of_ble_eq_true rfl) d_Mod_readField_75 (fun w122 h0 e123 => ?_)
                have h0 : w122 b = some (.inr (6, [.int th, .int (nI fd), .int (if sl then 1 else 0), .ref (b + 1), .ref (b + 2), .ref (b + 3), .ref (b + 4), .ref (b + 5), .ref (b + 6), .ref (b + 7), .int (nI kp), .ref (b + 8), .int (nI l0.length), .ref (b + 9), .int (nI sz), .ref (b + 10), .ref (b + 11), .ref (b + 12), .ref (b + 13), .int (nI ls), .int hz, .int (nI (pt + 1)), .int 0])) := h0
                have fr := fr.trans (Fr.sub (Fr.of1 e123) (by omega) (by omega))
                have h1 := Fr.cell (Fr.of1 e123) h1 (by omega)
                have h2 := Fr.cell (Fr.of1 e123) h2 (by omega)
                have h3 := Fr.cell (Fr.of1 e123) h3 (by omega)
                have h4 := Fr.cell (Fr.of1 e123) h4 (by omega)
                have h5 := Fr.cell (Fr.of1 e123) h5 (by omega)
                have h6 := Fr.cell (Fr.of1 e123) h6 (by omega)
                have h7 := Fr.cell (Fr.of1 e123) h7 (by omega)
                have h8 := Fr.cell (Fr.of1 e123) h8 (by omega)
                have h9 := Fr.cell (Fr.of1 e123) h9 (by omega)
                have h10 := Fr.cell (Fr.of1 e123) h10 (by omega)
                have h11 := Fr.cell (Fr.of1 e123) h11 (by omega)
                have h12 := Fr.cell (Fr.of1 e123) h12 (by omega)
                have h13 := Fr.cell (Fr.of1 e123) h13 (by omega)
                refine a_aload_n S d_Mod_readField_78 rfl rfl ?_
                refine a_get S kc_Mod 7 (by decide) lf_Mod_23 h0 rfl d_Mod_readField_79 ?_
                refine a_iload_n S d_Mod_readField_82 rfl rfl ?_
                refine a_zald S (i := 5 * u + f) h5 rfl (by omega) (by decide) d_Mod_readField_83 ?_
                refine a_eqi (pk_us.trans rfl) ?_
                refine a_if_ne S (tgt := 94) d_Mod_readField_84 rfl (fun h84 => ?_) (fun h84 => ?_)
                · exact RT _ _ _ _ _ _ d_Mod_readField_94 (by omega) (by omega) ⟨(true, 0, 0, []), _, _, _, _, _, pt + 1, false, rfl, rfl, fr, ⟨h0, h1, h2, h3, h4, h5, h6, h7, h8, h9, h10, h11, h12, h13⟩, (by omega), hV0.g1, SX.go, (fun z => z.upd _ _), (FdM.miss hO hmk)⟩
                · exact absurd h84 (by decide)
              · have hmk : ¬ tnB 0 (l0.getD pt 0) = mkA fg := fun z => h67 (by rw [z, hM]; rfl)
                refine a_iconst S (v := 1) d_Mod_readField_70 (by decide) ?_
                refine a_goto S (tgt := 75) d_Mod_readField_71 rfl ?_
                refine a_put S kc_Mod kt_Mod 22 (by decide) lf_Mod_142 rfl h0 rfl rfl (Nat.le_of_ble_eq_true rfl) d_Mod_readField_75 (fun w124 h0 e125 => ?_)
                have h0 : w124 b = some (.inr (6, [.int th, .int (nI fd), .int (if sl then 1 else 0), .ref (b + 1), .ref (b + 2), .ref (b + 3), .ref (b + 4), .ref (b + 5), .ref (b + 6), .ref (b + 7), .int (nI kp), .ref (b + 8), .int (nI l0.length), .ref (b + 9), .int (nI sz), .ref (b + 10), .ref (b + 11), .ref (b + 12), .ref (b + 13), .int (nI ls), .int hz, .int (nI (pt + 1)), .int 1])) := h0
                have fr := fr.trans (Fr.sub (Fr.of1 e125) (by omega) (by omega))
                have h1 := Fr.cell (Fr.of1 e125) h1 (by omega)
                have h2 := Fr.cell (Fr.of1 e125) h2 (by omega)
                have h3 := Fr.cell (Fr.of1 e125) h3 (by omega)
                have h4 := Fr.cell (Fr.of1 e125) h4 (by omega)
                have h5 := Fr.cell (Fr.of1 e125) h5 (by omega)
                have h6 := Fr.cell (Fr.of1 e125) h6 (by omega)
                have h7 := Fr.cell (Fr.of1 e125) h7 (by omega)
                have h8 := Fr.cell (Fr.of1 e125) h8 (by omega)
                have h9 := Fr.cell (Fr.of1 e125) h9 (by omega)
                have h10 := Fr.cell (Fr.of1 e125) h10 (by omega)
                have h11 := Fr.cell (Fr.of1 e125) h11 (by omega)
                have h12 := Fr.cell (Fr.of1 e125) h12 (by omega)
                have h13 := Fr.cell (Fr.of1 e125) h13 (by omega)
                refine a_aload_n S d_Mod_readField_78 rfl rfl ?_
                refine a_get S kc_Mod 7 (by decide) lf_Mod_23 h0 rfl d_Mod_readField_79 ?_
                refine a_iload_n S d_Mod_readField_82 rfl rfl ?_
                refine a_zald S (i := 5 * u + f) h5 rfl (by omega) (by decide) d_Mod_readField_83 ?_
                refine a_eqi (pk_us.trans rfl) ?_
                refine a_if_ne S (tgt := 94) d_Mod_readField_84 rfl (fun h84 => ?_) (fun h84 => ?_)
                · exact RT _ _ _ _ _ _ d_Mod_readField_94 (by omega) (by omega) ⟨(true, 0, 0, []), _, _, _, _, _, pt + 1, true, rfl, rfl, fr, ⟨h0, h1, h2, h3, h4, h5, h6, h7, h8, h9, h10, h11, h12, h13⟩, (by omega), hV0.g1, SX.go, (fun z => z.upd _ _), (FdM.bad hO hmk hy1)⟩
                · exact absurd h84 (by decide)
    · rw [e58]
      refine a_st (st' := [.int 0]) rfl ?_
      have fr := fr.trans (Fr.sub f57 (by omega) (by omega))
      refine a_istore S d_Mod_readField_19 (Nat.le_of_ble_eq_true rfl) (lv' := [(0, .ref b), (1, .int (nI u)), (2, .int (nI f)), (3, .int (nI (5 * u + f))), (4, .int 0)]) rfl ?_
      refine a_aload_n S d_Mod_readField_21 rfl rfl ?_
      refine a_get S kc_Mod 7 (by decide) lf_Mod_23 h0 rfl d_Mod_readField_22 ?_
      refine a_iload_n S d_Mod_readField_25 rfl rfl ?_
      refine a_iload S d_Mod_readField_26 rfl ?_
      refine a_iconst S (v := 1) d_Mod_readField_28 (by decide) ?_
      refine a_icmp_eq S (tgt := 36) d_Mod_readField_29 rfl (fun h29 => ?_) (fun h29 => ?_)
      · exact absurd h29 (by decide)
      · refine a_iconst S (v := 1) d_Mod_readField_32 (by decide) ?_
        refine a_goto S (tgt := 37) d_Mod_readField_33 rfl ?_
        refine a_zast S (i := 5 * u + f) h5 rfl (by omega) (by decide) d_Mod_readField_37 (fun w126 h5 e127 => ?_)
        have fr := fr.trans (Fr.sub (Fr.of1 e127) (by omega) (by omega))
        have h0 := Fr.cell (Fr.of1 e127) h0 (by omega)
        have h1 := Fr.cell (Fr.of1 e127) h1 (by omega)
        have h2 := Fr.cell (Fr.of1 e127) h2 (by omega)
        have h3 := Fr.cell (Fr.of1 e127) h3 (by omega)
        have h4 := Fr.cell (Fr.of1 e127) h4 (by omega)
        have h6 := Fr.cell (Fr.of1 e127) h6 (by omega)
        have h7 := Fr.cell (Fr.of1 e127) h7 (by omega)
        have h8 := Fr.cell (Fr.of1 e127) h8 (by omega)
        have h9 := Fr.cell (Fr.of1 e127) h9 (by omega)
        have h10 := Fr.cell (Fr.of1 e127) h10 (by omega)
        have h11 := Fr.cell (Fr.of1 e127) h11 (by omega)
        have h12 := Fr.cell (Fr.of1 e127) h12 (by omega)
        have h13 := Fr.cell (Fr.of1 e127) h13 (by omega)
        refine a_aload_n S d_Mod_readField_38 rfl rfl ?_
        refine a_aload_n S d_Mod_readField_39 rfl rfl ?_
        refine a_get S kc_Mod 22 (by decide) lf_Mod_142 h0 rfl d_Mod_readField_40 ?_
        refine a_if_ne S (tgt := 70) d_Mod_readField_43 rfl (fun h43 => ?_) (fun h43 => ?_)
        · refine a_iconst S (v := 1) d_Mod_readField_70 (by decide) ?_
          refine a_goto S (tgt := 75) d_Mod_readField_71 rfl ?_
          refine a_put S kc_Mod kt_Mod 22 (by decide) lf_Mod_142 rfl h0 rfl rfl (Nat.le_of_ble_eq_true rfl) d_Mod_readField_75 (fun w128 h0 e129 => ?_)
          have h0 : w128 b = some (.inr (6, [.int th, .int (nI fd), .int (if sl then 1 else 0), .ref (b + 1), .ref (b + 2), .ref (b + 3), .ref (b + 4), .ref (b + 5), .ref (b + 6), .ref (b + 7), .int (nI kp), .ref (b + 8), .int (nI l0.length), .ref (b + 9), .int (nI sz), .ref (b + 10), .ref (b + 11), .ref (b + 12), .ref (b + 13), .int (nI ls), .int hz, .int (nI pt), .int 1])) := h0
          have fr := fr.trans (Fr.sub (Fr.of1 e129) (by omega) (by omega))
          have h1 := Fr.cell (Fr.of1 e129) h1 (by omega)
          have h2 := Fr.cell (Fr.of1 e129) h2 (by omega)
          have h3 := Fr.cell (Fr.of1 e129) h3 (by omega)
          have h4 := Fr.cell (Fr.of1 e129) h4 (by omega)
          have h5 := Fr.cell (Fr.of1 e129) h5 (by omega)
          have h6 := Fr.cell (Fr.of1 e129) h6 (by omega)
          have h7 := Fr.cell (Fr.of1 e129) h7 (by omega)
          have h8 := Fr.cell (Fr.of1 e129) h8 (by omega)
          have h9 := Fr.cell (Fr.of1 e129) h9 (by omega)
          have h10 := Fr.cell (Fr.of1 e129) h10 (by omega)
          have h11 := Fr.cell (Fr.of1 e129) h11 (by omega)
          have h12 := Fr.cell (Fr.of1 e129) h12 (by omega)
          have h13 := Fr.cell (Fr.of1 e129) h13 (by omega)
          refine a_aload_n S d_Mod_readField_78 rfl rfl ?_
          refine a_get S kc_Mod 7 (by decide) lf_Mod_23 h0 rfl d_Mod_readField_79 ?_
          refine a_iload_n S d_Mod_readField_82 rfl rfl ?_
          refine a_zald S (i := 5 * u + f) h5 rfl (by omega) (by decide) d_Mod_readField_83 ?_
          refine a_eqi (pk_us.trans rfl) ?_
          refine a_if_ne S (tgt := 94) d_Mod_readField_84 rfl (fun h84 => ?_) (fun h84 => ?_)
          · exact RT _ _ _ _ _ _ d_Mod_readField_94 (by omega) (by omega) ⟨(true, 0, 0, []), _, _, _, _, _, pt, true, rfl, rfl, fr, ⟨h0, h1, h2, h3, h4, h5, h6, h7, h8, h9, h10, h11, h12, h13⟩, (by omega), hV0.g1, SX.go, (fun z => z.upd _ _), (FdM.nil hO hq59)⟩
          · exact absurd h84 (by decide)
        · exact absurd h43 (by decide)
set_option maxHeartbeats 400000 in
set_option maxRecDepth 100000 in
theorem c_Mod_readTail (l : Launch) (D : kD) (b : Nat) (th : Int32) (fd : Nat) (sl : Bool) (ki fl : Nat → Int32) (va : Nat → Int64) (fo go si te : Nat → Int32) (kp : Nat) (ro : Nat → Int32) (ma : Nat → Int32) (sz : Nat) (en ms lw hw : Nat → Int32) (ls : Nat) (hz : Int32) (pt : Nat) (bd : Bool) (l0 : List Nat) (u : Nat) (K F : Nat → Nat) (T1 : Nat → kV) (w : ww) (n : Nat) (hl : l0.length ≤ 120) (hby : ∀ b ∈ l0, b < 256) (hA : Arr ro l0) (hpt : pt ≤ l0.length) (hu : u ≤ 13) (hfd : fd ≤ 5) (hki : ∀ i, i < fd → K i < 4 ∧ F i < 8 ∧ ki i = nI (K i) ∧ fl i = nI (F i)) (hT1 : TR va fo go si te u fd T1) (hP1 : ∀ j, j < fd → P2 (K j) (F j) (T1 j)) (hC0 : RM2 l0 K F fd 0 pt T1 bd) (h : Mo D w b th fd sl ki fl va fo go si te kp ro l0.length ma sz en ms lw hw ls hz pt bd) : AM l D M_Mod_readTail 1 0 0 [.ref b, .int (nI u)] w n (fun v w' n' => ∃ (T2 : Nat → kV) (va1 : Nat → Int64) (fo1 : Nat → Int32) (p1 : Nat) (b1 : Bool), v = none ∧ n' = n ∧ Fr w w' b 14 ∧ Mo D w' b th fd sl ki fl va1 fo1 go si te kp ro l0.length ma sz en ms lw hw ls hz p1 b1 ∧ p1 ≤ l0.length ∧ TR va1 fo1 go si te u fd T2 ∧ ((∀ p, (p < 5 * u ∨ 5 * u + 5 ≤ p) → va1 p = va p) ∧ ∀ p, (p < 5 * u ∨ 5 * u + 5 ≤ p) → fo1 p = fo p) ∧ (∀ j, j < fd → P2 (K j) (F j) (T2 j)) ∧ ∀ T : Nat → kV, okT K F T fd → l0 = keyB K F T fd → b1 = false ∧ p1 = l0.length ∧ ∀ j, j < fd → T2 j = T j) := by
  refine AM.ofv (by decide +kernel) rfl (Nat.le_of_ble_eq_true rfl) (fun X A Q hin S RT => ?_)
  have S : FX X (D, A, 6, Q) prog_9_method_34_code "KeyCodecModel" 1 0 0 := S
  have RT : RTv X (D, A, 6, Q) prog_9_method_34_code 0 0 _ := RT
  obtain ⟨h0, h1, h2, h3, h4, h5, h6, h7, h8, h9, h10, h11, h12, h13⟩ := h
  refine a_lve (lv' := [(0, .ref b), (1, .int (nI u))]) rfl ?_
  have fr : Fr w w b 14 := Fr.refl _ _ _
  refine a_iconst S (v := 0) d_Mod_readTail_0 (by decide) ?_
  refine a_istore_n S d_Mod_readTail_1 rfl (Nat.le_of_ble_eq_true rfl) (lv' := [(0, .ref b), (1, .int (nI u)), (2, .int 0)]) rfl ?_
  have loop2 : ∀ (kk2 : Nat) (g p1 : Nat) (b1 : Bool) (va1 : Nat → Int64) (fo1 : Nat → Int32) (T2 : Nat → kV) (w1 : ww), fd - g = kk2 → (g ≤ fd) → (p1 ≤ l0.length) → (Fr w w1 b 14) → (Mo D w1 b th fd sl ki fl va1 fo1 go si te kp ro l0.length ma sz en ms lw hw ls hz p1 b1) → (TR va1 fo1 go si te u fd T2) → ((∀ p, (p < 5 * u ∨ 5 * u + 5 ≤ p) → va1 p = va p) ∧ ∀ p, (p < 5 * u ∨ 5 * u + 5 ≤ p) → fo1 p = fo p) → (∀ j, j < fd → P2 (K j) (F j) (T2 j)) → (RM2 l0 K F fd g p1 T2 b1) → AW X (D, A, 6, Q) 2 [(0, .ref b), (1, .int (nI u)), (2, .int (nI g))] [] w1 n 0 0 := by
    intro kk2
    induction kk2 using Nat.strongRecOn with
    | ind kk2 ih2 =>
      intro g p1 b1 va1 fo1 T2 w1 hk2 hg hp1 fr h hT2 hS hP2 hC
      obtain ⟨h0, h1, h2, h3, h4, h5, h6, h7, h8, h9, h10, h11, h12, h13⟩ := h
      refine a_iload_n S d_Mod_readTail_2 rfl rfl ?_
      refine a_aload_n S d_Mod_readTail_3 rfl rfl ?_
      refine a_get S kc_Mod 1 (by decide) lf_Mod_62 h0 rfl d_Mod_readTail_4 ?_
      refine a_icmp_ge S (tgt := 150) d_Mod_readTail_7 rfl (fun h7_ => ?_) (fun h7_ => ?_)
      · have he : g = fd ∨ b1 = true := Or.inl (Nat.le_antisymm hg ((nI_leI (by omega) (by omega)).mp h7_))
        exact RT _ _ _ _ _ _ d_Mod_readTail_150 (by omega) (by omega) ⟨T2, va1, fo1, p1, b1, rfl, rfl, fr, ⟨h0, h1, h2, h3, h4, h5, h6, h7, h8, h9, h10, h11, h12, h13⟩, hp1, hT2, hS, hP2, hC.e he hp1⟩
      · have hg : g < fd := Nat.not_le.mp fun z => h7_ ((nI_leI (by omega) (by omega)).mpr z)
        refine a_aload_n S d_Mod_readTail_10 rfl rfl ?_
        refine a_get S kc_Mod 22 (by decide) lf_Mod_142 h0 rfl d_Mod_readTail_11 ?_
        refine a_if_ne S (tgt := 150) d_Mod_readTail_14 rfl (fun h14 => ?_) (fun h14 => ?_)
        · have he : g = fd ∨ b1 = true := Or.inr (bo_1 h14)
          exact RT _ _ _ _ _ _ d_Mod_readTail_150 (by omega) (by omega) ⟨T2, va1, fo1, p1, b1, rfl, rfl, fr, ⟨h0, h1, h2, h3, h4, h5, h6, h7, h8, h9, h10, h11, h12, h13⟩, hp1, hT2, hS, hP2, hC.e he hp1⟩
        · obtain rfl : b1 = false := bo_0 h14
          have hk := hki g hg
          refine a_iconst S (v := 5) d_Mod_readTail_17 (by decide) ?_
          refine a_iload_n S d_Mod_readTail_18 rfl rfl ?_
          refine a_imul S d_Mod_readTail_19 ?_
          refine a_eqi (y := nI (5 * u)) (ni_mul rfl rfl) ?_
          refine a_iload_n S d_Mod_readTail_20 rfl rfl ?_
          refine a_iadd S d_Mod_readTail_21 ?_
          refine a_eqi (y := nI (5 * u + g)) (ni_add rfl rfl) ?_
          refine a_istore_n S d_Mod_readTail_22 rfl (Nat.le_of_ble_eq_true rfl) (lv' := [(0, .ref b), (1, .int (nI u)), (2, .int (nI g)), (3, .int (nI (5 * u + g)))]) rfl ?_
          refine a_aload_n S d_Mod_readTail_23 rfl rfl ?_
          refine a_get S kc_Mod 7 (by decide) lf_Mod_23 h0 rfl d_Mod_readTail_24 ?_
          refine a_iload_n S d_Mod_readTail_27 rfl rfl ?_
          refine a_zald S (i := 5 * u + g) h5 rfl (by omega) (by decide) d_Mod_readTail_28 ?_
          refine a_eqi (hT2 g hg).2.2.1 ?_
          refine a_if_eq S (tgt := 35) d_Mod_readTail_29 rfl (fun h29 => ?_) (fun h29 => ?_)
          · have hm : (T2 g).1 = false := bo_0 h29
            refine a_aload_n S d_Mod_readTail_35 rfl rfl ?_
            refine a_get S kc_Mod 3 (by decide) lf_Mod_7 h0 rfl d_Mod_readTail_36 ?_
            refine a_iload_n S d_Mod_readTail_39 rfl rfl ?_
            refine a_iald S (i := g) h1 rfl (by omega) (by decide) d_Mod_readTail_40 ?_
            refine a_eqi hk.2.2.1 ?_
            refine a_iconst S (v := 1) d_Mod_readTail_41 (by decide) ?_
            refine a_icmp_ne S (tgt := 109) d_Mod_readTail_42 rfl (fun h42 => ?_) (fun h42 => ?_)
            · have hk1 : ¬ K g = 1 := fun z => h42 (by rw [z]; rfl)
              refine a_aload_n S d_Mod_readTail_109 rfl rfl ?_
              refine a_get S kc_Mod 3 (by decide) lf_Mod_7 h0 rfl d_Mod_readTail_110 ?_
              refine a_iload_n S d_Mod_readTail_113 rfl rfl ?_
              refine a_iald S (i := g) h1 rfl (by omega) (by decide) d_Mod_readTail_114 ?_
              refine a_eqi hk.2.2.1 ?_
              refine a_iconst S (v := 3) d_Mod_readTail_115 (by decide) ?_
              refine a_icmp_ne S (tgt := 144) d_Mod_readTail_116 rfl (fun h116 => ?_) (fun h116 => ?_)
              · have hk3 : ¬ K g = 3 := fun z => h116 (by rw [z]; rfl)
                refine a_iinc S (v := nI (g + 1)) d_Mod_readTail_144 rfl (ni_add rfl (by decide)) (Nat.le_of_ble_eq_true rfl) (lv' := [(0, .ref b), (1, .int (nI u)), (2, .int (nI (g + 1))), (3, .int (nI (5 * u + g)))]) rfl ?_
                refine a_goto S (tgt := 2) d_Mod_readTail_147 rfl ?_
                refine a_lv [0, 1, 2] (lv' := [(0, .ref b), (1, .int (nI u)), (2, .int (nI (g + 1)))]) rfl ?_
                exact ih2 _ (by omega) (g + 1) p1 false va1 fo1 T2 w1 rfl (by omega) hp1 fr ⟨h0, h1, h2, h3, h4, h5, h6, h7, h8, h9, h10, h11, h12, h13⟩ hT2 hS hP2 (hC.k hg hk.1 hk1 hk3)
              · have hk3 : K g = 3 := (nI_eq (by omega) (by decide)).mp h116
                have hx0 := ((hP2 g hg).2 hm).2 (by omega)
                refine a_aload_n S d_Mod_readTail_119 rfl rfl ?_
                refine a_get S kc_Mod 6 (by decide) lf_Mod_20 h0 rfl d_Mod_readTail_120 ?_
                refine a_iload_n S d_Mod_readTail_123 rfl rfl ?_
                refine a_sipush S (v := 256) d_Mod_readTail_124 (by decide) ?_
                refine a_aload_n S d_Mod_readTail_127 rfl rfl ?_
                refine a_iconst S (v := 0) d_Mod_readTail_128 (by decide) ?_
                refine a_callV S (rest := [_, _, _]) lg_Mod_145 h0 (c_Mod_next X.2.1 D b th fd sl ki fl va1 fo1 go si te kp ro ma sz en ms lw hw ls hz p1 false l0 0 w1 n hl hby hA hp1 (Or.inl rfl) ⟨h0, h1, h2, h3, h4, h5, h6, h7, h8, h9, h10, h11, h12, h13⟩) (by decide) (by omega) (by omega) rfl (Nat.le_of_ble_eq_true rfl) d_Mod_readTail_129 (fun v1 w2 n3 p4 => ?_)
                rcases p4 with ⟨hq7, rfl, e6, f5, h0, h1, h2, h3, h4, h5, h6, h7, h8, h9, h10, h11, h12, h13⟩ | ⟨hq7, rfl, e6, f5, h0, h1, h2, h3, h4, h5, h6, h7, h8, h9, h10, h11, h12, h13⟩
                · rw [e6]
                  refine a_st (st' := [.int (nI (tnB 0 (l0.getD p1 0))), .int 256, .int (nI (5 * u + g)), .ref (b + 4)]) rfl ?_
                  have hbhq7 := tnB_lt (t := 0) (getD_lt hby p1)
                  have fr := fr.trans (Fr.sub f5 (by omega) (by omega))
                  refine a_imul S d_Mod_readTail_132 ?_
                  refine a_eqi (y := nI (256 * (tnB 0 (l0.getD p1 0)))) (ni_mul rfl rfl) ?_
                  refine a_aload_n S d_Mod_readTail_133 rfl rfl ?_
                  refine a_iconst S (v := 0) d_Mod_readTail_134 (by decide) ?_
                  refine a_callV S (rest := [_, _, _]) lg_Mod_145 h0 (c_Mod_next X.2.1 D b th fd sl ki fl va1 fo1 go si te kp ro ma sz en ms lw hw ls hz (p1 + 1) false l0 0 w2 n hl hby hA (by omega) (Or.inl rfl) ⟨h0, h1, h2, h3, h4, h5, h6, h7, h8, h9, h10, h11, h12, h13⟩) (by decide) (by omega) (by omega) rfl (Nat.le_of_ble_eq_true rfl) d_Mod_readTail_135 (fun v8 w9 n10 p11 => ?_)
                  rcases p11 with ⟨hq14, rfl, e13, f12, h0, h1, h2, h3, h4, h5, h6, h7, h8, h9, h10, h11, h12, h13⟩ | ⟨hq14, rfl, e13, f12, h0, h1, h2, h3, h4, h5, h6, h7, h8, h9, h10, h11, h12, h13⟩
                  · rw [e13]
                    refine a_st (st' := [.int (nI (tnB 0 (l0.getD (p1 + 1) 0))), .int (nI (256 * (tnB 0 (l0.getD p1 0)))), .int (nI (5 * u + g)), .ref (b + 4)]) rfl ?_
                    have hbhq14 := tnB_lt (t := 0) (getD_lt hby (p1 + 1))
                    have fr := fr.trans (Fr.sub f12 (by omega) (by omega))
                    refine a_iadd S d_Mod_readTail_138 ?_
                    refine a_eqi (y := nI (256 * (tnB 0 (l0.getD p1 0)) + tnB 0 (l0.getD (p1 + 1) 0))) (ni_add rfl rfl) ?_
                    refine a_sipush S (v := 1000) d_Mod_readTail_139 (by decide) ?_
                    refine a_isub S d_Mod_readTail_142 ?_
                    refine a_iast S (i := 5 * u + g) h4 rfl (by omega) (by decide) d_Mod_readTail_143 (fun w15 h4 e16 => ?_)
                    have fr := fr.trans (Fr.sub (Fr.of1 e16) (by omega) (by omega))
                    have h0 := Fr.cell (Fr.of1 e16) h0 (by omega)
                    have h1 := Fr.cell (Fr.of1 e16) h1 (by omega)
                    have h2 := Fr.cell (Fr.of1 e16) h2 (by omega)
                    have h3 := Fr.cell (Fr.of1 e16) h3 (by omega)
                    have h5 := Fr.cell (Fr.of1 e16) h5 (by omega)
                    have h6 := Fr.cell (Fr.of1 e16) h6 (by omega)
                    have h7 := Fr.cell (Fr.of1 e16) h7 (by omega)
                    have h8 := Fr.cell (Fr.of1 e16) h8 (by omega)
                    have h9 := Fr.cell (Fr.of1 e16) h9 (by omega)
                    have h10 := Fr.cell (Fr.of1 e16) h10 (by omega)
                    have h11 := Fr.cell (Fr.of1 e16) h11 (by omega)
                    have h12 := Fr.cell (Fr.of1 e16) h12 (by omega)
                    have h13 := Fr.cell (Fr.of1 e16) h13 (by omega)
                    refine a_iinc S (v := nI (g + 1)) d_Mod_readTail_144 rfl (ni_add rfl (by decide)) (Nat.le_of_ble_eq_true rfl) (lv' := [(0, .ref b), (1, .int (nI u)), (2, .int (nI (g + 1))), (3, .int (nI (5 * u + g)))]) rfl ?_
                    refine a_goto S (tgt := 2) d_Mod_readTail_147 rfl ?_
                    refine a_lv [0, 1, 2] (lv' := [(0, .ref b), (1, .int (nI u)), (2, .int (nI (g + 1)))]) rfl ?_
                    exact ih2 _ (by omega) (g + 1) (p1 + 1 + 1) false va1 (upd fo1 (5 * u + g) (nI (256 * (tnB 0 (l0.getD p1 0)) + tnB 0 (l0.getD (p1 + 1) 0)) - 1000)) (va_up T2 g ((T2 g).1, (T2 g).2.1, (nI (256 * (tnB 0 (l0.getD p1 0)) + tnB 0 (l0.getD (p1 + 1) 0)) - 1000), (T2 g).2.2.2)) w15 rfl (by omega) (by omega) fr ⟨h0, h1, h2, h3, h4, h5, h6, h7, h8, h9, h10, h11, h12, h13⟩ (hT2.up (hT2 g hg).fx (fun p hp => ⟨rfl, pk_un hp⟩)) ⟨hS.1, fun p hp => (pk_un (by omega)).trans (hS.2 p hp)⟩ (P2.up hP2 hg hm (by omega) _ _) (hC.s3 hg hk3 hm hq14 hx0 (f3 _ _))
                  · rw [e13]
                    refine a_st (st' := [.int 0, .int (nI (256 * (tnB 0 (l0.getD p1 0)))), .int (nI (5 * u + g)), .ref (b + 4)]) rfl ?_
                    have fr := fr.trans (Fr.sub f12 (by omega) (by omega))
                    refine a_iadd S d_Mod_readTail_138 ?_
                    refine a_eqi (y := nI (256 * (tnB 0 (l0.getD p1 0)) + 0)) (ni_add rfl rfl) ?_
                    refine a_sipush S (v := 1000) d_Mod_readTail_139 (by decide) ?_
                    refine a_isub S d_Mod_readTail_142 ?_
                    refine a_iast S (i := 5 * u + g) h4 rfl (by omega) (by decide) d_Mod_readTail_143 (fun w17 h4 e18 => ?_)
                    have fr := fr.trans (Fr.sub (Fr.of1 e18) (by omega) (by omega))
                    have h0 := Fr.cell (Fr.of1 e18) h0 (by omega)
                    have h1 := Fr.cell (Fr.of1 e18) h1 (by omega)
                    have h2 := Fr.cell (Fr.of1 e18) h2 (by omega)
                    have h3 := Fr.cell (Fr.of1 e18) h3 (by omega)
                    have h5 := Fr.cell (Fr.of1 e18) h5 (by omega)
                    have h6 := Fr.cell (Fr.of1 e18) h6 (by omega)
                    have h7 := Fr.cell (Fr.of1 e18) h7 (by omega)
                    have h8 := Fr.cell (Fr.of1 e18) h8 (by omega)
                    have h9 := Fr.cell (Fr.of1 e18) h9 (by omega)
                    have h10 := Fr.cell (Fr.of1 e18) h10 (by omega)
                    have h11 := Fr.cell (Fr.of1 e18) h11 (by omega)
                    have h12 := Fr.cell (Fr.of1 e18) h12 (by omega)
                    have h13 := Fr.cell (Fr.of1 e18) h13 (by omega)
                    refine a_iinc S (v := nI (g + 1)) d_Mod_readTail_144 rfl (ni_add rfl (by decide)) (Nat.le_of_ble_eq_true rfl) (lv' := [(0, .ref b), (1, .int (nI u)), (2, .int (nI (g + 1))), (3, .int (nI (5 * u + g)))]) rfl ?_
                    refine a_goto S (tgt := 2) d_Mod_readTail_147 rfl ?_
                    refine a_lv [0, 1, 2] (lv' := [(0, .ref b), (1, .int (nI u)), (2, .int (nI (g + 1)))]) rfl ?_
                    exact ih2 _ (by omega) (g + 1) (p1 + 1) true va1 (upd fo1 (5 * u + g) (nI (256 * (tnB 0 (l0.getD p1 0)) + 0) - 1000)) (va_up T2 g ((T2 g).1, (T2 g).2.1, (nI (256 * (tnB 0 (l0.getD p1 0)) + 0) - 1000), (T2 g).2.2.2)) w17 rfl (by omega) (by omega) fr ⟨h0, h1, h2, h3, h4, h5, h6, h7, h8, h9, h10, h11, h12, h13⟩ (hT2.up (hT2 g hg).fx (fun p hp => ⟨rfl, pk_un hp⟩)) ⟨hS.1, fun p hp => (pk_un (by omega)).trans (hS.2 p hp)⟩ (P2.up hP2 hg hm (by omega) _ _) (hC.n3 hg hk3 hm (by omega))
                · rw [e6]
                  refine a_st (st' := [.int 0, .int 256, .int (nI (5 * u + g)), .ref (b + 4)]) rfl ?_
                  have fr := fr.trans (Fr.sub f5 (by omega) (by omega))
                  refine a_imul S d_Mod_readTail_132 ?_
                  refine a_eqi (y := 0) (by decide) ?_
                  refine a_aload_n S d_Mod_readTail_133 rfl rfl ?_
                  refine a_iconst S (v := 0) d_Mod_readTail_134 (by decide) ?_
                  refine a_callV S (rest := [_, _, _]) lg_Mod_145 h0 (c_Mod_next X.2.1 D b th fd sl ki fl va1 fo1 go si te kp ro ma sz en ms lw hw ls hz p1 true l0 0 w2 n hl hby hA (by omega) (Or.inl rfl) ⟨h0, h1, h2, h3, h4, h5, h6, h7, h8, h9, h10, h11, h12, h13⟩) (by decide) (by omega) (by omega) rfl (Nat.le_of_ble_eq_true rfl) d_Mod_readTail_135 (fun v19 w20 n21 p22 => ?_)
                  rcases p22 with ⟨hq25, rfl, e24, f23, h0, h1, h2, h3, h4, h5, h6, h7, h8, h9, h10, h11, h12, h13⟩ | ⟨hq25, rfl, e24, f23, h0, h1, h2, h3, h4, h5, h6, h7, h8, h9, h10, h11, h12, h13⟩
                  · rw [e24]
                    refine a_st (st' := [.int (nI (tnB 0 (l0.getD p1 0))), .int 0, .int (nI (5 * u + g)), .ref (b + 4)]) rfl ?_
                    have hbhq25 := tnB_lt (t := 0) (getD_lt hby p1)
                    have fr := fr.trans (Fr.sub f23 (by omega) (by omega))
                    exact absurd hq25 (by omega)
                  · rw [e24]
                    refine a_st (st' := [.int 0, .int 0, .int (nI (5 * u + g)), .ref (b + 4)]) rfl ?_
                    have fr := fr.trans (Fr.sub f23 (by omega) (by omega))
                    refine a_iadd S d_Mod_readTail_138 ?_
                    refine a_eqi (y := 0) (by decide) ?_
                    refine a_sipush S (v := 1000) d_Mod_readTail_139 (by decide) ?_
                    refine a_isub S d_Mod_readTail_142 ?_
                    refine a_eqi (y := (-1000)) (by decide) ?_
                    refine a_iast S (i := 5 * u + g) h4 rfl (by omega) (by decide) d_Mod_readTail_143 (fun w26 h4 e27 => ?_)
                    have fr := fr.trans (Fr.sub (Fr.of1 e27) (by omega) (by omega))
                    have h0 := Fr.cell (Fr.of1 e27) h0 (by omega)
                    have h1 := Fr.cell (Fr.of1 e27) h1 (by omega)
                    have h2 := Fr.cell (Fr.of1 e27) h2 (by omega)
                    have h3 := Fr.cell (Fr.of1 e27) h3 (by omega)
                    have h5 := Fr.cell (Fr.of1 e27) h5 (by omega)
                    have h6 := Fr.cell (Fr.of1 e27) h6 (by omega)
                    have h7 := Fr.cell (Fr.of1 e27) h7 (by omega)
                    have h8 := Fr.cell (Fr.of1 e27) h8 (by omega)
                    have h9 := Fr.cell (Fr.of1 e27) h9 (by omega)
                    have h10 := Fr.cell (Fr.of1 e27) h10 (by omega)
                    have h11 := Fr.cell (Fr.of1 e27) h11 (by omega)
                    have h12 := Fr.cell (Fr.of1 e27) h12 (by omega)
                    have h13 := Fr.cell (Fr.of1 e27) h13 (by omega)
                    refine a_iinc S (v := nI (g + 1)) d_Mod_readTail_144 rfl (ni_add rfl (by decide)) (Nat.le_of_ble_eq_true rfl) (lv' := [(0, .ref b), (1, .int (nI u)), (2, .int (nI (g + 1))), (3, .int (nI (5 * u + g)))]) rfl ?_
                    refine a_goto S (tgt := 2) d_Mod_readTail_147 rfl ?_
                    refine a_lv [0, 1, 2] (lv' := [(0, .ref b), (1, .int (nI u)), (2, .int (nI (g + 1)))]) rfl ?_
                    exact ih2 _ (by omega) (g + 1) p1 true va1 (upd fo1 (5 * u + g) (-1000)) (va_up T2 g ((T2 g).1, (T2 g).2.1, (-1000), (T2 g).2.2.2)) w26 rfl (by omega) (by omega) fr ⟨h0, h1, h2, h3, h4, h5, h6, h7, h8, h9, h10, h11, h12, h13⟩ (hT2.up (hT2 g hg).fx (fun p hp => ⟨rfl, pk_un hp⟩)) ⟨hS.1, fun p hp => (pk_un (by omega)).trans (hS.2 p hp)⟩ (P2.up hP2 hg hm (by omega) _ _) (hC.n3 hg hk3 hm (by omega))
            · have hk1 : K g = 1 := (nI_eq (by omega) (by decide)).mp h42
              have hx0 := ((hP2 g hg).2 hm).2 (by omega)
              refine a_aload_n S d_Mod_readTail_45 rfl rfl ?_
              refine a_iconst S (v := 0) d_Mod_readTail_46 (by decide) ?_
              refine a_callV S (rest := []) lg_Mod_145 h0 (c_Mod_next X.2.1 D b th fd sl ki fl va1 fo1 go si te kp ro ma sz en ms lw hw ls hz p1 false l0 0 w1 n hl hby hA hp1 (Or.inl rfl) ⟨h0, h1, h2, h3, h4, h5, h6, h7, h8, h9, h10, h11, h12, h13⟩) (by decide) (by omega) (by omega) rfl (Nat.le_of_ble_eq_true rfl) d_Mod_readTail_47 (fun v28 w29 n30 p31 => ?_)
              rcases p31 with ⟨hq34, rfl, e33, f32, h0, h1, h2, h3, h4, h5, h6, h7, h8, h9, h10, h11, h12, h13⟩ | ⟨hq34, rfl, e33, f32, h0, h1, h2, h3, h4, h5, h6, h7, h8, h9, h10, h11, h12, h13⟩
              · rw [e33]
                refine a_st (st' := [.int (nI (tnB 0 (l0.getD p1 0)))]) rfl ?_
                have hbhq34 := tnB_lt (t := 0) (getD_lt hby p1)
                have fr := fr.trans (Fr.sub f32 (by omega) (by omega))
                refine a_istore S d_Mod_readTail_50 (Nat.le_of_ble_eq_true rfl) (lv' := [(0, .ref b), (1, .int (nI u)), (2, .int (nI g)), (3, .int (nI (5 * u + g))), (4, .int (nI (tnB 0 (l0.getD p1 0))))]) rfl ?_
                refine a_aload_n S d_Mod_readTail_52 rfl rfl ?_
                refine a_get S kc_Mod 6 (by decide) lf_Mod_20 h0 rfl d_Mod_readTail_53 ?_
                refine a_iload_n S d_Mod_readTail_56 rfl rfl ?_
                refine a_iald S (i := 5 * u + g) h4 rfl (by omega) (by decide) d_Mod_readTail_57 ?_
                refine a_eqi (hT2 g hg).2.1 ?_
                refine a_iload S d_Mod_readTail_58 rfl ?_
                refine a_iadd S d_Mod_readTail_60 ?_
                refine a_istore S d_Mod_readTail_61 (Nat.le_of_ble_eq_true rfl) (lv' := [(0, .ref b), (1, .int (nI u)), (2, .int (nI g)), (3, .int (nI (5 * u + g))), (4, .int (nI (tnB 0 (l0.getD p1 0)))), (5, .int ((T2 g).2.2.1 + nI (tnB 0 (l0.getD p1 0))))]) rfl ?_
                refine a_aload_n S d_Mod_readTail_63 rfl rfl ?_
                refine a_get S kc_Mod 5 (by decide) lf_Mod_16 h0 rfl d_Mod_readTail_64 ?_
                refine a_iload_n S d_Mod_readTail_67 rfl rfl ?_
                refine a_lald S (i := 5 * u + g) h3 rfl (by omega) (by decide) d_Mod_readTail_68 ?_
                refine a_eql (hT2 g hg).1 ?_
                refine a_lconst S (v := 0) d_Mod_readTail_69 (by decide) ?_
                refine a_lcmp S d_Mod_readTail_70 ?_
                refine a_if_eq S (tgt := 84) d_Mod_readTail_71 rfl (fun h71 => ?_) (fun h71 => ?_)
                · refine a_aload_n S d_Mod_readTail_84 rfl rfl ?_
                  refine a_get S kc_Mod 5 (by decide) lf_Mod_16 h0 rfl d_Mod_readTail_85 ?_
                  refine a_iload_n S d_Mod_readTail_88 rfl rfl ?_
                  refine a_aload_n S d_Mod_readTail_89 rfl rfl ?_
                  refine a_get S kc_Mod 5 (by decide) lf_Mod_16 h0 rfl d_Mod_readTail_90 ?_
                  refine a_iload_n S d_Mod_readTail_93 rfl rfl ?_
                  refine a_lald S (i := 5 * u + g) h3 rfl (by omega) (by decide) d_Mod_readTail_94 ?_
                  refine a_eql (hT2 g hg).1 ?_
                  refine a_iload S d_Mod_readTail_95 rfl ?_
                  refine a_callS S (rest := [_, _]) lg_Mod_151 (c_Mod_shifted X.2.1 D ((T2 g).2.1) ((T2 g).2.2.1 + nI (tnB 0 (l0.getD p1 0))) w29 n) (by decide) (by omega) (by omega) rfl (Nat.le_of_ble_eq_true rfl) d_Mod_readTail_97 (fun v35 w36 n37 p38 => ?_)
                  obtain ⟨r, rfl, hr, e39, e40⟩ := p38
                  rw [e39, e40]
                  refine a_st (st' := [.long r, .int (nI (5 * u + g)), .ref (b + 3)]) rfl ?_
                  refine a_last S (i := 5 * u + g) h3 rfl (by omega) (by decide) d_Mod_readTail_100 (fun w41 h3 e42 => ?_)
                  have fr := fr.trans (Fr.sub (Fr.of1 e42) (by omega) (by omega))
                  have h0 := Fr.cell (Fr.of1 e42) h0 (by omega)
                  have h1 := Fr.cell (Fr.of1 e42) h1 (by omega)
                  have h2 := Fr.cell (Fr.of1 e42) h2 (by omega)
                  have h4 := Fr.cell (Fr.of1 e42) h4 (by omega)
                  have h5 := Fr.cell (Fr.of1 e42) h5 (by omega)
                  have h6 := Fr.cell (Fr.of1 e42) h6 (by omega)
                  have h7 := Fr.cell (Fr.of1 e42) h7 (by omega)
                  have h8 := Fr.cell (Fr.of1 e42) h8 (by omega)
                  have h9 := Fr.cell (Fr.of1 e42) h9 (by omega)
                  have h10 := Fr.cell (Fr.of1 e42) h10 (by omega)
                  have h11 := Fr.cell (Fr.of1 e42) h11 (by omega)
                  have h12 := Fr.cell (Fr.of1 e42) h12 (by omega)
                  have h13 := Fr.cell (Fr.of1 e42) h13 (by omega)
                  refine a_aload_n S d_Mod_readTail_101 rfl rfl ?_
                  refine a_get S kc_Mod 6 (by decide) lf_Mod_20 h0 rfl d_Mod_readTail_102 ?_
                  refine a_iload_n S d_Mod_readTail_105 rfl rfl ?_
                  refine a_iload S d_Mod_readTail_106 rfl ?_
                  refine a_iast S (i := 5 * u + g) h4 rfl (by omega) (by decide) d_Mod_readTail_108 (fun w43 h4 e44 => ?_)
                  have fr := fr.trans (Fr.sub (Fr.of1 e44) (by omega) (by omega))
                  have h0 := Fr.cell (Fr.of1 e44) h0 (by omega)
                  have h1 := Fr.cell (Fr.of1 e44) h1 (by omega)
                  have h2 := Fr.cell (Fr.of1 e44) h2 (by omega)
                  have h3 := Fr.cell (Fr.of1 e44) h3 (by omega)
                  have h5 := Fr.cell (Fr.of1 e44) h5 (by omega)
                  have h6 := Fr.cell (Fr.of1 e44) h6 (by omega)
                  have h7 := Fr.cell (Fr.of1 e44) h7 (by omega)
                  have h8 := Fr.cell (Fr.of1 e44) h8 (by omega)
                  have h9 := Fr.cell (Fr.of1 e44) h9 (by omega)
                  have h10 := Fr.cell (Fr.of1 e44) h10 (by omega)
                  have h11 := Fr.cell (Fr.of1 e44) h11 (by omega)
                  have h12 := Fr.cell (Fr.of1 e44) h12 (by omega)
                  have h13 := Fr.cell (Fr.of1 e44) h13 (by omega)
                  refine a_aload_n S d_Mod_readTail_109 rfl rfl ?_
                  refine a_get S kc_Mod 3 (by decide) lf_Mod_7 h0 rfl d_Mod_readTail_110 ?_
                  refine a_iload_n S d_Mod_readTail_113 rfl rfl ?_
                  refine a_iald S (i := g) h1 rfl (by omega) (by decide) d_Mod_readTail_114 ?_
                  refine a_eqi hk.2.2.1 ?_
                  refine a_iconst S (v := 3) d_Mod_readTail_115 (by decide) ?_
                  refine a_icmp_ne S (tgt := 144) d_Mod_readTail_116 rfl (fun h116 => ?_) (fun h116 => ?_)
                  · refine a_iinc S (v := nI (g + 1)) d_Mod_readTail_144 rfl (ni_add rfl (by decide)) (Nat.le_of_ble_eq_true rfl) (lv' := [(0, .ref b), (1, .int (nI u)), (2, .int (nI (g + 1))), (3, .int (nI (5 * u + g))), (4, .int (nI (tnB 0 (l0.getD p1 0)))), (5, .int ((T2 g).2.2.1 + nI (tnB 0 (l0.getD p1 0))))]) rfl ?_
                    refine a_goto S (tgt := 2) d_Mod_readTail_147 rfl ?_
                    refine a_lv [0, 1, 2] (lv' := [(0, .ref b), (1, .int (nI u)), (2, .int (nI (g + 1)))]) rfl ?_
                    exact ih2 _ (by omega) (g + 1) (p1 + 1) false (vp_updL va1 (5 * u + g) r) (upd fo1 (5 * u + g) (nI (tnB 0 (l0.getD p1 0)))) (va_up T2 g ((T2 g).1, r, nI (tnB 0 (l0.getD p1 0)), (T2 g).2.2.2)) w43 rfl (by omega) (by omega) fr ⟨h0, h1, h2, h3, h4, h5, h6, h7, h8, h9, h10, h11, h12, h13⟩ (hT2.up ((hT2 g hg).dx DX.up) (fun p hp => ⟨updL_ne hp, pk_un hp⟩)) ⟨fun p hp => (updL_ne (by omega)).trans (hS.1 p hp), fun p hp => (pk_un (by omega)).trans (hS.2 p hp)⟩ (P2.up hP2 hg hm (by omega) _ _) (hC.s1 hg hk1 hm hq34 hr hx0)
                  · exact absurd (show K g = 3 from (nI_eq (by omega) (by decide)).mp h116) (by omega)
                · refine a_iload S d_Mod_readTail_74 rfl ?_
                  refine a_if_ge S (tgt := 84) d_Mod_readTail_76 rfl (fun h76 => ?_) (fun h76 => ?_)
                  · refine a_aload_n S d_Mod_readTail_84 rfl rfl ?_
                    refine a_get S kc_Mod 5 (by decide) lf_Mod_16 h0 rfl d_Mod_readTail_85 ?_
                    refine a_iload_n S d_Mod_readTail_88 rfl rfl ?_
                    refine a_aload_n S d_Mod_readTail_89 rfl rfl ?_
                    refine a_get S kc_Mod 5 (by decide) lf_Mod_16 h0 rfl d_Mod_readTail_90 ?_
                    refine a_iload_n S d_Mod_readTail_93 rfl rfl ?_
                    refine a_lald S (i := 5 * u + g) h3 rfl (by omega) (by decide) d_Mod_readTail_94 ?_
                    refine a_eql (hT2 g hg).1 ?_
                    refine a_iload S d_Mod_readTail_95 rfl ?_
                    refine a_callS S (rest := [_, _]) lg_Mod_151 (c_Mod_shifted X.2.1 D ((T2 g).2.1) ((T2 g).2.2.1 + nI (tnB 0 (l0.getD p1 0))) w29 n) (by decide) (by omega) (by omega) rfl (Nat.le_of_ble_eq_true rfl) d_Mod_readTail_97 (fun v45 w46 n47 p48 => ?_)
                    obtain ⟨r, rfl, hr, e49, e50⟩ := p48
                    rw [e49, e50]
                    refine a_st (st' := [.long r, .int (nI (5 * u + g)), .ref (b + 3)]) rfl ?_
                    refine a_last S (i := 5 * u + g) h3 rfl (by omega) (by decide) d_Mod_readTail_100 (fun w51 h3 e52 => ?_)
                    have fr := fr.trans (Fr.sub (Fr.of1 e52) (by omega) (by omega))
                    have h0 := Fr.cell (Fr.of1 e52) h0 (by omega)
                    have h1 := Fr.cell (Fr.of1 e52) h1 (by omega)
                    have h2 := Fr.cell (Fr.of1 e52) h2 (by omega)
                    have h4 := Fr.cell (Fr.of1 e52) h4 (by omega)
                    have h5 := Fr.cell (Fr.of1 e52) h5 (by omega)
                    have h6 := Fr.cell (Fr.of1 e52) h6 (by omega)
                    have h7 := Fr.cell (Fr.of1 e52) h7 (by omega)
                    have h8 := Fr.cell (Fr.of1 e52) h8 (by omega)
                    have h9 := Fr.cell (Fr.of1 e52) h9 (by omega)
                    have h10 := Fr.cell (Fr.of1 e52) h10 (by omega)
                    have h11 := Fr.cell (Fr.of1 e52) h11 (by omega)
                    have h12 := Fr.cell (Fr.of1 e52) h12 (by omega)
                    have h13 := Fr.cell (Fr.of1 e52) h13 (by omega)
                    refine a_aload_n S d_Mod_readTail_101 rfl rfl ?_
                    refine a_get S kc_Mod 6 (by decide) lf_Mod_20 h0 rfl d_Mod_readTail_102 ?_
                    refine a_iload_n S d_Mod_readTail_105 rfl rfl ?_
                    refine a_iload S d_Mod_readTail_106 rfl ?_
                    refine a_iast S (i := 5 * u + g) h4 rfl (by omega) (by decide) d_Mod_readTail_108 (fun w53 h4 e54 => ?_)
                    have fr := fr.trans (Fr.sub (Fr.of1 e54) (by omega) (by omega))
                    have h0 := Fr.cell (Fr.of1 e54) h0 (by omega)
                    have h1 := Fr.cell (Fr.of1 e54) h1 (by omega)
                    have h2 := Fr.cell (Fr.of1 e54) h2 (by omega)
                    have h3 := Fr.cell (Fr.of1 e54) h3 (by omega)
                    have h5 := Fr.cell (Fr.of1 e54) h5 (by omega)
                    have h6 := Fr.cell (Fr.of1 e54) h6 (by omega)
                    have h7 := Fr.cell (Fr.of1 e54) h7 (by omega)
                    have h8 := Fr.cell (Fr.of1 e54) h8 (by omega)
                    have h9 := Fr.cell (Fr.of1 e54) h9 (by omega)
                    have h10 := Fr.cell (Fr.of1 e54) h10 (by omega)
                    have h11 := Fr.cell (Fr.of1 e54) h11 (by omega)
                    have h12 := Fr.cell (Fr.of1 e54) h12 (by omega)
                    have h13 := Fr.cell (Fr.of1 e54) h13 (by omega)
                    refine a_aload_n S d_Mod_readTail_109 rfl rfl ?_
                    refine a_get S kc_Mod 3 (by decide) lf_Mod_7 h0 rfl d_Mod_readTail_110 ?_
                    refine a_iload_n S d_Mod_readTail_113 rfl rfl ?_
                    refine a_iald S (i := g) h1 rfl (by omega) (by decide) d_Mod_readTail_114 ?_
                    refine a_eqi hk.2.2.1 ?_
                    refine a_iconst S (v := 3) d_Mod_readTail_115 (by decide) ?_
                    refine a_icmp_ne S (tgt := 144) d_Mod_readTail_116 rfl (fun h116 => ?_) (fun h116 => ?_)
                    · refine a_iinc S (v := nI (g + 1)) d_Mod_readTail_144 rfl (ni_add rfl (by decide)) (Nat.le_of_ble_eq_true rfl) (lv' := [(0, .ref b), (1, .int (nI u)), (2, .int (nI (g + 1))), (3, .int (nI (5 * u + g))), (4, .int (nI (tnB 0 (l0.getD p1 0)))), (5, .int ((T2 g).2.2.1 + nI (tnB 0 (l0.getD p1 0))))]) rfl ?_
                      refine a_goto S (tgt := 2) d_Mod_readTail_147 rfl ?_
                      refine a_lv [0, 1, 2] (lv' := [(0, .ref b), (1, .int (nI u)), (2, .int (nI (g + 1)))]) rfl ?_
                      exact ih2 _ (by omega) (g + 1) (p1 + 1) false (vp_updL va1 (5 * u + g) r) (upd fo1 (5 * u + g) (nI (tnB 0 (l0.getD p1 0)))) (va_up T2 g ((T2 g).1, r, nI (tnB 0 (l0.getD p1 0)), (T2 g).2.2.2)) w53 rfl (by omega) (by omega) fr ⟨h0, h1, h2, h3, h4, h5, h6, h7, h8, h9, h10, h11, h12, h13⟩ (hT2.up ((hT2 g hg).dx DX.up) (fun p hp => ⟨updL_ne hp, pk_un hp⟩)) ⟨fun p hp => (updL_ne (by omega)).trans (hS.1 p hp), fun p hp => (pk_un (by omega)).trans (hS.2 p hp)⟩ (P2.up hP2 hg hm (by omega) _ _) (hC.s1 hg hk1 hm hq34 hr hx0)
                    · exact absurd (show K g = 3 from (nI_eq (by omega) (by decide)).mp h116) (by omega)
                  · have hneg := k2_lt h76
                    refine a_aload_n S d_Mod_readTail_79 rfl rfl ?_
                    refine a_iconst S (v := 1) d_Mod_readTail_80 (by decide) ?_
                    refine a_put S kc_Mod kt_Mod 22 (by decide) lf_Mod_142 rfl h0 rfl rfl (Nat.le_of_ble_eq_true rfl) d_Mod_readTail_81 (fun w55 h0 e56 => ?_)
                    have h0 : w55 b = some (.inr (6, [.int th, .int (nI fd), .int (if sl then 1 else 0), .ref (b + 1), .ref (b + 2), .ref (b + 3), .ref (b + 4), .ref (b + 5), .ref (b + 6), .ref (b + 7), .int (nI kp), .ref (b + 8), .int (nI l0.length), .ref (b + 9), .int (nI sz), .ref (b + 10), .ref (b + 11), .ref (b + 12), .ref (b + 13), .int (nI ls), .int hz, .int (nI (p1 + 1)), .int 1])) := h0
                    have fr := fr.trans (Fr.sub (Fr.of1 e56) (by omega) (by omega))
                    have h1 := Fr.cell (Fr.of1 e56) h1 (by omega)
                    have h2 := Fr.cell (Fr.of1 e56) h2 (by omega)
                    have h3 := Fr.cell (Fr.of1 e56) h3 (by omega)
                    have h4 := Fr.cell (Fr.of1 e56) h4 (by omega)
                    have h5 := Fr.cell (Fr.of1 e56) h5 (by omega)
                    have h6 := Fr.cell (Fr.of1 e56) h6 (by omega)
                    have h7 := Fr.cell (Fr.of1 e56) h7 (by omega)
                    have h8 := Fr.cell (Fr.of1 e56) h8 (by omega)
                    have h9 := Fr.cell (Fr.of1 e56) h9 (by omega)
                    have h10 := Fr.cell (Fr.of1 e56) h10 (by omega)
                    have h11 := Fr.cell (Fr.of1 e56) h11 (by omega)
                    have h12 := Fr.cell (Fr.of1 e56) h12 (by omega)
                    have h13 := Fr.cell (Fr.of1 e56) h13 (by omega)
                    refine a_aload_n S d_Mod_readTail_84 rfl rfl ?_
                    refine a_get S kc_Mod 5 (by decide) lf_Mod_16 h0 rfl d_Mod_readTail_85 ?_
                    refine a_iload_n S d_Mod_readTail_88 rfl rfl ?_
                    refine a_aload_n S d_Mod_readTail_89 rfl rfl ?_
                    refine a_get S kc_Mod 5 (by decide) lf_Mod_16 h0 rfl d_Mod_readTail_90 ?_
                    refine a_iload_n S d_Mod_readTail_93 rfl rfl ?_
                    refine a_lald S (i := 5 * u + g) h3 rfl (by omega) (by decide) d_Mod_readTail_94 ?_
                    refine a_eql (hT2 g hg).1 ?_
                    refine a_iload S d_Mod_readTail_95 rfl ?_
                    refine a_callS S (rest := [_, _]) lg_Mod_151 (c_Mod_shifted X.2.1 D ((T2 g).2.1) ((T2 g).2.2.1 + nI (tnB 0 (l0.getD p1 0))) w55 n) (by decide) (by omega) (by omega) rfl (Nat.le_of_ble_eq_true rfl) d_Mod_readTail_97 (fun v57 w58 n59 p60 => ?_)
                    obtain ⟨r, rfl, hr, e61, e62⟩ := p60
                    rw [e61, e62]
                    refine a_st (st' := [.long r, .int (nI (5 * u + g)), .ref (b + 3)]) rfl ?_
                    refine a_last S (i := 5 * u + g) h3 rfl (by omega) (by decide) d_Mod_readTail_100 (fun w63 h3 e64 => ?_)
                    have fr := fr.trans (Fr.sub (Fr.of1 e64) (by omega) (by omega))
                    have h0 := Fr.cell (Fr.of1 e64) h0 (by omega)
                    have h1 := Fr.cell (Fr.of1 e64) h1 (by omega)
                    have h2 := Fr.cell (Fr.of1 e64) h2 (by omega)
                    have h4 := Fr.cell (Fr.of1 e64) h4 (by omega)
                    have h5 := Fr.cell (Fr.of1 e64) h5 (by omega)
                    have h6 := Fr.cell (Fr.of1 e64) h6 (by omega)
                    have h7 := Fr.cell (Fr.of1 e64) h7 (by omega)
                    have h8 := Fr.cell (Fr.of1 e64) h8 (by omega)
                    have h9 := Fr.cell (Fr.of1 e64) h9 (by omega)
                    have h10 := Fr.cell (Fr.of1 e64) h10 (by omega)
                    have h11 := Fr.cell (Fr.of1 e64) h11 (by omega)
                    have h12 := Fr.cell (Fr.of1 e64) h12 (by omega)
                    have h13 := Fr.cell (Fr.of1 e64) h13 (by omega)
                    refine a_aload_n S d_Mod_readTail_101 rfl rfl ?_
                    refine a_get S kc_Mod 6 (by decide) lf_Mod_20 h0 rfl d_Mod_readTail_102 ?_
                    refine a_iload_n S d_Mod_readTail_105 rfl rfl ?_
                    refine a_iload S d_Mod_readTail_106 rfl ?_
                    refine a_iast S (i := 5 * u + g) h4 rfl (by omega) (by decide) d_Mod_readTail_108 (fun w65 h4 e66 => ?_)
                    have fr := fr.trans (Fr.sub (Fr.of1 e66) (by omega) (by omega))
                    have h0 := Fr.cell (Fr.of1 e66) h0 (by omega)
                    have h1 := Fr.cell (Fr.of1 e66) h1 (by omega)
                    have h2 := Fr.cell (Fr.of1 e66) h2 (by omega)
                    have h3 := Fr.cell (Fr.of1 e66) h3 (by omega)
                    have h5 := Fr.cell (Fr.of1 e66) h5 (by omega)
                    have h6 := Fr.cell (Fr.of1 e66) h6 (by omega)
                    have h7 := Fr.cell (Fr.of1 e66) h7 (by omega)
                    have h8 := Fr.cell (Fr.of1 e66) h8 (by omega)
                    have h9 := Fr.cell (Fr.of1 e66) h9 (by omega)
                    have h10 := Fr.cell (Fr.of1 e66) h10 (by omega)
                    have h11 := Fr.cell (Fr.of1 e66) h11 (by omega)
                    have h12 := Fr.cell (Fr.of1 e66) h12 (by omega)
                    have h13 := Fr.cell (Fr.of1 e66) h13 (by omega)
                    refine a_aload_n S d_Mod_readTail_109 rfl rfl ?_
                    refine a_get S kc_Mod 3 (by decide) lf_Mod_7 h0 rfl d_Mod_readTail_110 ?_
                    refine a_iload_n S d_Mod_readTail_113 rfl rfl ?_
                    refine a_iald S (i := g) h1 rfl (by omega) (by decide) d_Mod_readTail_114 ?_
                    refine a_eqi hk.2.2.1 ?_
                    refine a_iconst S (v := 3) d_Mod_readTail_115 (by decide) ?_
                    refine a_icmp_ne S (tgt := 144) d_Mod_readTail_116 rfl (fun h116 => ?_) (fun h116 => ?_)
                    · refine a_iinc S (v := nI (g + 1)) d_Mod_readTail_144 rfl (ni_add rfl (by decide)) (Nat.le_of_ble_eq_true rfl) (lv' := [(0, .ref b), (1, .int (nI u)), (2, .int (nI (g + 1))), (3, .int (nI (5 * u + g))), (4, .int (nI (tnB 0 (l0.getD p1 0)))), (5, .int ((T2 g).2.2.1 + nI (tnB 0 (l0.getD p1 0))))]) rfl ?_
                      refine a_goto S (tgt := 2) d_Mod_readTail_147 rfl ?_
                      refine a_lv [0, 1, 2] (lv' := [(0, .ref b), (1, .int (nI u)), (2, .int (nI (g + 1)))]) rfl ?_
                      exact ih2 _ (by omega) (g + 1) (p1 + 1) true (vp_updL va1 (5 * u + g) r) (upd fo1 (5 * u + g) (nI (tnB 0 (l0.getD p1 0)))) (va_up T2 g ((T2 g).1, r, nI (tnB 0 (l0.getD p1 0)), (T2 g).2.2.2)) w65 rfl (by omega) (by omega) fr ⟨h0, h1, h2, h3, h4, h5, h6, h7, h8, h9, h10, h11, h12, h13⟩ (hT2.up ((hT2 g hg).dx DX.up) (fun p hp => ⟨updL_ne hp, pk_un hp⟩)) ⟨fun p hp => (updL_ne (by omega)).trans (hS.1 p hp), fun p hp => (pk_un (by omega)).trans (hS.2 p hp)⟩ (P2.up hP2 hg hm (by omega) _ _) (hC.bb1 hg hk1 hm hq34 hneg)
                    · exact absurd (show K g = 3 from (nI_eq (by omega) (by decide)).mp h116) (by omega)
              · rw [e33]
                refine a_st (st' := [.int 0]) rfl ?_
                have fr := fr.trans (Fr.sub f32 (by omega) (by omega))
                refine a_istore S d_Mod_readTail_50 (Nat.le_of_ble_eq_true rfl) (lv' := [(0, .ref b), (1, .int (nI u)), (2, .int (nI g)), (3, .int (nI (5 * u + g))), (4, .int 0)]) rfl ?_
                refine a_aload_n S d_Mod_readTail_52 rfl rfl ?_
                refine a_get S kc_Mod 6 (by decide) lf_Mod_20 h0 rfl d_Mod_readTail_53 ?_
                refine a_iload_n S d_Mod_readTail_56 rfl rfl ?_
                refine a_iald S (i := 5 * u + g) h4 rfl (by omega) (by decide) d_Mod_readTail_57 ?_
                refine a_eqi (hT2 g hg).2.1 ?_
                refine a_iload S d_Mod_readTail_58 rfl ?_
                refine a_iadd S d_Mod_readTail_60 ?_
                refine a_istore S d_Mod_readTail_61 (Nat.le_of_ble_eq_true rfl) (lv' := [(0, .ref b), (1, .int (nI u)), (2, .int (nI g)), (3, .int (nI (5 * u + g))), (4, .int 0), (5, .int ((T2 g).2.2.1 + 0))]) rfl ?_
                refine a_aload_n S d_Mod_readTail_63 rfl rfl ?_
                refine a_get S kc_Mod 5 (by decide) lf_Mod_16 h0 rfl d_Mod_readTail_64 ?_
                refine a_iload_n S d_Mod_readTail_67 rfl rfl ?_
                refine a_lald S (i := 5 * u + g) h3 rfl (by omega) (by decide) d_Mod_readTail_68 ?_
                refine a_eql (hT2 g hg).1 ?_
                refine a_lconst S (v := 0) d_Mod_readTail_69 (by decide) ?_
                refine a_lcmp S d_Mod_readTail_70 ?_
                refine a_if_eq S (tgt := 84) d_Mod_readTail_71 rfl (fun h71 => ?_) (fun h71 => ?_)
                · refine a_aload_n S d_Mod_readTail_84 rfl rfl ?_
                  refine a_get S kc_Mod 5 (by decide) lf_Mod_16 h0 rfl d_Mod_readTail_85 ?_
                  refine a_iload_n S d_Mod_readTail_88 rfl rfl ?_
                  refine a_aload_n S d_Mod_readTail_89 rfl rfl ?_
                  refine a_get S kc_Mod 5 (by decide) lf_Mod_16 h0 rfl d_Mod_readTail_90 ?_
                  refine a_iload_n S d_Mod_readTail_93 rfl rfl ?_
                  refine a_lald S (i := 5 * u + g) h3 rfl (by omega) (by decide) d_Mod_readTail_94 ?_
                  refine a_eql (hT2 g hg).1 ?_
                  refine a_iload S d_Mod_readTail_95 rfl ?_
                  refine a_callS S (rest := [_, _]) lg_Mod_151 (c_Mod_shifted X.2.1 D ((T2 g).2.1) ((T2 g).2.2.1 + 0) w29 n) (by decide) (by omega) (by omega) rfl (Nat.le_of_ble_eq_true rfl) d_Mod_readTail_97 (fun v67 w68 n69 p70 => ?_)
                  obtain ⟨r, rfl, hr, e71, e72⟩ := p70
                  rw [e71, e72]
                  refine a_st (st' := [.long r, .int (nI (5 * u + g)), .ref (b + 3)]) rfl ?_
                  refine a_last S (i := 5 * u + g) h3 rfl (by omega) (by decide) d_Mod_readTail_100 (fun w73 h3 e74 => ?_)
                  have fr := fr.trans (Fr.sub (Fr.of1 e74) (by omega) (by omega))
                  have h0 := Fr.cell (Fr.of1 e74) h0 (by omega)
                  have h1 := Fr.cell (Fr.of1 e74) h1 (by omega)
                  have h2 := Fr.cell (Fr.of1 e74) h2 (by omega)
                  have h4 := Fr.cell (Fr.of1 e74) h4 (by omega)
                  have h5 := Fr.cell (Fr.of1 e74) h5 (by omega)
                  have h6 := Fr.cell (Fr.of1 e74) h6 (by omega)
                  have h7 := Fr.cell (Fr.of1 e74) h7 (by omega)
                  have h8 := Fr.cell (Fr.of1 e74) h8 (by omega)
                  have h9 := Fr.cell (Fr.of1 e74) h9 (by omega)
                  have h10 := Fr.cell (Fr.of1 e74) h10 (by omega)
                  have h11 := Fr.cell (Fr.of1 e74) h11 (by omega)
                  have h12 := Fr.cell (Fr.of1 e74) h12 (by omega)
                  have h13 := Fr.cell (Fr.of1 e74) h13 (by omega)
                  refine a_aload_n S d_Mod_readTail_101 rfl rfl ?_
                  refine a_get S kc_Mod 6 (by decide) lf_Mod_20 h0 rfl d_Mod_readTail_102 ?_
                  refine a_iload_n S d_Mod_readTail_105 rfl rfl ?_
                  refine a_iload S d_Mod_readTail_106 rfl ?_
                  refine a_iast S (i := 5 * u + g) h4 rfl (by omega) (by decide) d_Mod_readTail_108 (fun w75 h4 e76 => ?_)
                  have fr := fr.trans (Fr.sub (Fr.of1 e76) (by omega) (by omega))
                  have h0 := Fr.cell (Fr.of1 e76) h0 (by omega)
                  have h1 := Fr.cell (Fr.of1 e76) h1 (by omega)
                  have h2 := Fr.cell (Fr.of1 e76) h2 (by omega)
                  have h3 := Fr.cell (Fr.of1 e76) h3 (by omega)
                  have h5 := Fr.cell (Fr.of1 e76) h5 (by omega)
                  have h6 := Fr.cell (Fr.of1 e76) h6 (by omega)
                  have h7 := Fr.cell (Fr.of1 e76) h7 (by omega)
                  have h8 := Fr.cell (Fr.of1 e76) h8 (by omega)
                  have h9 := Fr.cell (Fr.of1 e76) h9 (by omega)
                  have h10 := Fr.cell (Fr.of1 e76) h10 (by omega)
                  have h11 := Fr.cell (Fr.of1 e76) h11 (by omega)
                  have h12 := Fr.cell (Fr.of1 e76) h12 (by omega)
                  have h13 := Fr.cell (Fr.of1 e76) h13 (by omega)
                  refine a_aload_n S d_Mod_readTail_109 rfl rfl ?_
                  refine a_get S kc_Mod 3 (by decide) lf_Mod_7 h0 rfl d_Mod_readTail_110 ?_
                  refine a_iload_n S d_Mod_readTail_113 rfl rfl ?_
                  refine a_iald S (i := g) h1 rfl (by omega) (by decide) d_Mod_readTail_114 ?_
                  refine a_eqi hk.2.2.1 ?_
                  refine a_iconst S (v := 3) d_Mod_readTail_115 (by decide) ?_
                  refine a_icmp_ne S (tgt := 144) d_Mod_readTail_116 rfl (fun h116 => ?_) (fun h116 => ?_)
                  · refine a_iinc S (v := nI (g + 1)) d_Mod_readTail_144 rfl (ni_add rfl (by decide)) (Nat.le_of_ble_eq_true rfl) (lv' := [(0, .ref b), (1, .int (nI u)), (2, .int (nI (g + 1))), (3, .int (nI (5 * u + g))), (4, .int 0), (5, .int ((T2 g).2.2.1 + 0))]) rfl ?_
                    refine a_goto S (tgt := 2) d_Mod_readTail_147 rfl ?_
                    refine a_lv [0, 1, 2] (lv' := [(0, .ref b), (1, .int (nI u)), (2, .int (nI (g + 1)))]) rfl ?_
                    exact ih2 _ (by omega) (g + 1) p1 true (vp_updL va1 (5 * u + g) r) (upd fo1 (5 * u + g) 0) (va_up T2 g ((T2 g).1, r, 0, (T2 g).2.2.2)) w75 rfl (by omega) (by omega) fr ⟨h0, h1, h2, h3, h4, h5, h6, h7, h8, h9, h10, h11, h12, h13⟩ (hT2.up ((hT2 g hg).dx DX.up) (fun p hp => ⟨updL_ne hp, pk_un hp⟩)) ⟨fun p hp => (updL_ne (by omega)).trans (hS.1 p hp), fun p hp => (pk_un (by omega)).trans (hS.2 p hp)⟩ (P2.up hP2 hg hm (by omega) _ _) (hC.n1 hg hk1 hm hq34)
                  · exact absurd (show K g = 3 from (nI_eq (by omega) (by decide)).mp h116) (by omega)
                · refine a_iload S d_Mod_readTail_74 rfl ?_
                  refine a_if_ge S (tgt := 84) d_Mod_readTail_76 rfl (fun h76 => ?_) (fun h76 => ?_)
                  · refine a_aload_n S d_Mod_readTail_84 rfl rfl ?_
                    refine a_get S kc_Mod 5 (by decide) lf_Mod_16 h0 rfl d_Mod_readTail_85 ?_
                    refine a_iload_n S d_Mod_readTail_88 rfl rfl ?_
                    refine a_aload_n S d_Mod_readTail_89 rfl rfl ?_
                    refine a_get S kc_Mod 5 (by decide) lf_Mod_16 h0 rfl d_Mod_readTail_90 ?_
                    refine a_iload_n S d_Mod_readTail_93 rfl rfl ?_
                    refine a_lald S (i := 5 * u + g) h3 rfl (by omega) (by decide) d_Mod_readTail_94 ?_
                    refine a_eql (hT2 g hg).1 ?_
                    refine a_iload S d_Mod_readTail_95 rfl ?_
                    refine a_callS S (rest := [_, _]) lg_Mod_151 (c_Mod_shifted X.2.1 D ((T2 g).2.1) ((T2 g).2.2.1 + 0) w29 n) (by decide) (by omega) (by omega) rfl (Nat.le_of_ble_eq_true rfl) d_Mod_readTail_97 (fun v77 w78 n79 p80 => ?_)
                    obtain ⟨r, rfl, hr, e81, e82⟩ := p80
                    rw [e81, e82]
                    refine a_st (st' := [.long r, .int (nI (5 * u + g)), .ref (b + 3)]) rfl ?_
                    refine a_last S (i := 5 * u + g) h3 rfl (by omega) (by decide) d_Mod_readTail_100 (fun w83 h3 e84 => ?_)
                    have fr := fr.trans (Fr.sub (Fr.of1 e84) (by omega) (by omega))
                    have h0 := Fr.cell (Fr.of1 e84) h0 (by omega)
                    have h1 := Fr.cell (Fr.of1 e84) h1 (by omega)
                    have h2 := Fr.cell (Fr.of1 e84) h2 (by omega)
                    have h4 := Fr.cell (Fr.of1 e84) h4 (by omega)
                    have h5 := Fr.cell (Fr.of1 e84) h5 (by omega)
                    have h6 := Fr.cell (Fr.of1 e84) h6 (by omega)
                    have h7 := Fr.cell (Fr.of1 e84) h7 (by omega)
                    have h8 := Fr.cell (Fr.of1 e84) h8 (by omega)
                    have h9 := Fr.cell (Fr.of1 e84) h9 (by omega)
                    have h10 := Fr.cell (Fr.of1 e84) h10 (by omega)
                    have h11 := Fr.cell (Fr.of1 e84) h11 (by omega)
                    have h12 := Fr.cell (Fr.of1 e84) h12 (by omega)
                    have h13 := Fr.cell (Fr.of1 e84) h13 (by omega)
                    refine a_aload_n S d_Mod_readTail_101 rfl rfl ?_
                    refine a_get S kc_Mod 6 (by decide) lf_Mod_20 h0 rfl d_Mod_readTail_102 ?_
                    refine a_iload_n S d_Mod_readTail_105 rfl rfl ?_
                    refine a_iload S d_Mod_readTail_106 rfl ?_
                    refine a_iast S (i := 5 * u + g) h4 rfl (by omega) (by decide) d_Mod_readTail_108 (fun w85 h4 e86 => ?_)
                    have fr := fr.trans (Fr.sub (Fr.of1 e86) (by omega) (by omega))
                    have h0 := Fr.cell (Fr.of1 e86) h0 (by omega)
                    have h1 := Fr.cell (Fr.of1 e86) h1 (by omega)
                    have h2 := Fr.cell (Fr.of1 e86) h2 (by omega)
                    have h3 := Fr.cell (Fr.of1 e86) h3 (by omega)
                    have h5 := Fr.cell (Fr.of1 e86) h5 (by omega)
                    have h6 := Fr.cell (Fr.of1 e86) h6 (by omega)
                    have h7 := Fr.cell (Fr.of1 e86) h7 (by omega)
                    have h8 := Fr.cell (Fr.of1 e86) h8 (by omega)
                    have h9 := Fr.cell (Fr.of1 e86) h9 (by omega)
                    have h10 := Fr.cell (Fr.of1 e86) h10 (by omega)
                    have h11 := Fr.cell (Fr.of1 e86) h11 (by omega)
                    have h12 := Fr.cell (Fr.of1 e86) h12 (by omega)
                    have h13 := Fr.cell (Fr.of1 e86) h13 (by omega)
                    refine a_aload_n S d_Mod_readTail_109 rfl rfl ?_
                    refine a_get S kc_Mod 3 (by decide) lf_Mod_7 h0 rfl d_Mod_readTail_110 ?_
                    refine a_iload_n S d_Mod_readTail_113 rfl rfl ?_
                    refine a_iald S (i := g) h1 rfl (by omega) (by decide) d_Mod_readTail_114 ?_
                    refine a_eqi hk.2.2.1 ?_
                    refine a_iconst S (v := 3) d_Mod_readTail_115 (by decide) ?_
                    refine a_icmp_ne S (tgt := 144) d_Mod_readTail_116 rfl (fun h116 => ?_) (fun h116 => ?_)
                    · refine a_iinc S (v := nI (g + 1)) d_Mod_readTail_144 rfl (ni_add rfl (by decide)) (Nat.le_of_ble_eq_true rfl) (lv' := [(0, .ref b), (1, .int (nI u)), (2, .int (nI (g + 1))), (3, .int (nI (5 * u + g))), (4, .int 0), (5, .int ((T2 g).2.2.1 + 0))]) rfl ?_
                      refine a_goto S (tgt := 2) d_Mod_readTail_147 rfl ?_
                      refine a_lv [0, 1, 2] (lv' := [(0, .ref b), (1, .int (nI u)), (2, .int (nI (g + 1)))]) rfl ?_
                      exact ih2 _ (by omega) (g + 1) p1 true (vp_updL va1 (5 * u + g) r) (upd fo1 (5 * u + g) 0) (va_up T2 g ((T2 g).1, r, 0, (T2 g).2.2.2)) w85 rfl (by omega) (by omega) fr ⟨h0, h1, h2, h3, h4, h5, h6, h7, h8, h9, h10, h11, h12, h13⟩ (hT2.up ((hT2 g hg).dx DX.up) (fun p hp => ⟨updL_ne hp, pk_un hp⟩)) ⟨fun p hp => (updL_ne (by omega)).trans (hS.1 p hp), fun p hp => (pk_un (by omega)).trans (hS.2 p hp)⟩ (P2.up hP2 hg hm (by omega) _ _) (hC.n1 hg hk1 hm hq34)
                    · exact absurd (show K g = 3 from (nI_eq (by omega) (by decide)).mp h116) (by omega)
                  · have hneg := k2_lt h76
                    refine a_aload_n S d_Mod_readTail_79 rfl rfl ?_
                    refine a_iconst S (v := 1) d_Mod_readTail_80 (by decide) ?_
                    refine a_put S kc_Mod kt_Mod 22 (by decide) lf_Mod_142 rfl h0 rfl rfl (Nat.le_of_ble_eq_true rfl) d_Mod_readTail_81 (fun w87 h0 e88 => ?_)
                    have h0 : w87 b = some (.inr (6, [.int th, .int (nI fd), .int (if sl then 1 else 0), .ref (b + 1), .ref (b + 2), .ref (b + 3), .ref (b + 4), .ref (b + 5), .ref (b + 6), .ref (b + 7), .int (nI kp), .ref (b + 8), .int (nI l0.length), .ref (b + 9), .int (nI sz), .ref (b + 10), .ref (b + 11), .ref (b + 12), .ref (b + 13), .int (nI ls), .int hz, .int (nI p1), .int 1])) := h0
                    have fr := fr.trans (Fr.sub (Fr.of1 e88) (by omega) (by omega))
                    have h1 := Fr.cell (Fr.of1 e88) h1 (by omega)
                    have h2 := Fr.cell (Fr.of1 e88) h2 (by omega)
                    have h3 := Fr.cell (Fr.of1 e88) h3 (by omega)
                    have h4 := Fr.cell (Fr.of1 e88) h4 (by omega)
                    have h5 := Fr.cell (Fr.of1 e88) h5 (by omega)
                    have h6 := Fr.cell (Fr.of1 e88) h6 (by omega)
                    have h7 := Fr.cell (Fr.of1 e88) h7 (by omega)
                    have h8 := Fr.cell (Fr.of1 e88) h8 (by omega)
                    have h9 := Fr.cell (Fr.of1 e88) h9 (by omega)
                    have h10 := Fr.cell (Fr.of1 e88) h10 (by omega)
                    have h11 := Fr.cell (Fr.of1 e88) h11 (by omega)
                    have h12 := Fr.cell (Fr.of1 e88) h12 (by omega)
                    have h13 := Fr.cell (Fr.of1 e88) h13 (by omega)
                    refine a_aload_n S d_Mod_readTail_84 rfl rfl ?_
                    refine a_get S kc_Mod 5 (by decide) lf_Mod_16 h0 rfl d_Mod_readTail_85 ?_
                    refine a_iload_n S d_Mod_readTail_88 rfl rfl ?_
                    refine a_aload_n S d_Mod_readTail_89 rfl rfl ?_
                    refine a_get S kc_Mod 5 (by decide) lf_Mod_16 h0 rfl d_Mod_readTail_90 ?_
                    refine a_iload_n S d_Mod_readTail_93 rfl rfl ?_
                    refine a_lald S (i := 5 * u + g) h3 rfl (by omega) (by decide) d_Mod_readTail_94 ?_
                    refine a_eql (hT2 g hg).1 ?_
                    refine a_iload S d_Mod_readTail_95 rfl ?_
                    refine a_callS S (rest := [_, _]) lg_Mod_151 (c_Mod_shifted X.2.1 D ((T2 g).2.1) ((T2 g).2.2.1 + 0) w87 n) (by decide) (by omega) (by omega) rfl (Nat.le_of_ble_eq_true rfl) d_Mod_readTail_97 (fun v89 w90 n91 p92 => ?_)
                    obtain ⟨r, rfl, hr, e93, e94⟩ := p92
                    rw [e93, e94]
                    refine a_st (st' := [.long r, .int (nI (5 * u + g)), .ref (b + 3)]) rfl ?_
                    refine a_last S (i := 5 * u + g) h3 rfl (by omega) (by decide) d_Mod_readTail_100 (fun w95 h3 e96 => ?_)
                    have fr := fr.trans (Fr.sub (Fr.of1 e96) (by omega) (by omega))
                    have h0 := Fr.cell (Fr.of1 e96) h0 (by omega)
                    have h1 := Fr.cell (Fr.of1 e96) h1 (by omega)
                    have h2 := Fr.cell (Fr.of1 e96) h2 (by omega)
                    have h4 := Fr.cell (Fr.of1 e96) h4 (by omega)
                    have h5 := Fr.cell (Fr.of1 e96) h5 (by omega)
                    have h6 := Fr.cell (Fr.of1 e96) h6 (by omega)
                    have h7 := Fr.cell (Fr.of1 e96) h7 (by omega)
                    have h8 := Fr.cell (Fr.of1 e96) h8 (by omega)
                    have h9 := Fr.cell (Fr.of1 e96) h9 (by omega)
                    have h10 := Fr.cell (Fr.of1 e96) h10 (by omega)
                    have h11 := Fr.cell (Fr.of1 e96) h11 (by omega)
                    have h12 := Fr.cell (Fr.of1 e96) h12 (by omega)
                    have h13 := Fr.cell (Fr.of1 e96) h13 (by omega)
                    refine a_aload_n S d_Mod_readTail_101 rfl rfl ?_
                    refine a_get S kc_Mod 6 (by decide) lf_Mod_20 h0 rfl d_Mod_readTail_102 ?_
                    refine a_iload_n S d_Mod_readTail_105 rfl rfl ?_
                    refine a_iload S d_Mod_readTail_106 rfl ?_
                    refine a_iast S (i := 5 * u + g) h4 rfl (by omega) (by decide) d_Mod_readTail_108 (fun w97 h4 e98 => ?_)
                    have fr := fr.trans (Fr.sub (Fr.of1 e98) (by omega) (by omega))
                    have h0 := Fr.cell (Fr.of1 e98) h0 (by omega)
                    have h1 := Fr.cell (Fr.of1 e98) h1 (by omega)
                    have h2 := Fr.cell (Fr.of1 e98) h2 (by omega)
                    have h3 := Fr.cell (Fr.of1 e98) h3 (by omega)
                    have h5 := Fr.cell (Fr.of1 e98) h5 (by omega)
                    have h6 := Fr.cell (Fr.of1 e98) h6 (by omega)
                    have h7 := Fr.cell (Fr.of1 e98) h7 (by omega)
                    have h8 := Fr.cell (Fr.of1 e98) h8 (by omega)
                    have h9 := Fr.cell (Fr.of1 e98) h9 (by omega)
                    have h10 := Fr.cell (Fr.of1 e98) h10 (by omega)
                    have h11 := Fr.cell (Fr.of1 e98) h11 (by omega)
                    have h12 := Fr.cell (Fr.of1 e98) h12 (by omega)
                    have h13 := Fr.cell (Fr.of1 e98) h13 (by omega)
                    refine a_aload_n S d_Mod_readTail_109 rfl rfl ?_
                    refine a_get S kc_Mod 3 (by decide) lf_Mod_7 h0 rfl d_Mod_readTail_110 ?_
                    refine a_iload_n S d_Mod_readTail_113 rfl rfl ?_
                    refine a_iald S (i := g) h1 rfl (by omega) (by decide) d_Mod_readTail_114 ?_
                    refine a_eqi hk.2.2.1 ?_
                    refine a_iconst S (v := 3) d_Mod_readTail_115 (by decide) ?_
                    refine a_icmp_ne S (tgt := 144) d_Mod_readTail_116 rfl (fun h116 => ?_) (fun h116 => ?_)
                    · refine a_iinc S (v := nI (g + 1)) d_Mod_readTail_144 rfl (ni_add rfl (by decide)) (Nat.le_of_ble_eq_true rfl) (lv' := [(0, .ref b), (1, .int (nI u)), (2, .int (nI (g + 1))), (3, .int (nI (5 * u + g))), (4, .int 0), (5, .int ((T2 g).2.2.1 + 0))]) rfl ?_
                      refine a_goto S (tgt := 2) d_Mod_readTail_147 rfl ?_
                      refine a_lv [0, 1, 2] (lv' := [(0, .ref b), (1, .int (nI u)), (2, .int (nI (g + 1)))]) rfl ?_
                      exact ih2 _ (by omega) (g + 1) p1 true (vp_updL va1 (5 * u + g) r) (upd fo1 (5 * u + g) 0) (va_up T2 g ((T2 g).1, r, 0, (T2 g).2.2.2)) w97 rfl (by omega) (by omega) fr ⟨h0, h1, h2, h3, h4, h5, h6, h7, h8, h9, h10, h11, h12, h13⟩ (hT2.up ((hT2 g hg).dx DX.up) (fun p hp => ⟨updL_ne hp, pk_un hp⟩)) ⟨fun p hp => (updL_ne (by omega)).trans (hS.1 p hp), fun p hp => (pk_un (by omega)).trans (hS.2 p hp)⟩ (P2.up hP2 hg hm (by omega) _ _) (hC.n1 hg hk1 hm hq34)
                    · exact absurd (show K g = 3 from (nI_eq (by omega) (by decide)).mp h116) (by omega)
          · have hm : (T2 g).1 = true := bo_1 h29
            refine a_goto S (tgt := 144) d_Mod_readTail_32 rfl ?_
            refine a_iinc S (v := nI (g + 1)) d_Mod_readTail_144 rfl (ni_add rfl (by decide)) (Nat.le_of_ble_eq_true rfl) (lv' := [(0, .ref b), (1, .int (nI u)), (2, .int (nI (g + 1))), (3, .int (nI (5 * u + g)))]) rfl ?_
            refine a_goto S (tgt := 2) d_Mod_readTail_147 rfl ?_
            refine a_lv [0, 1, 2] (lv' := [(0, .ref b), (1, .int (nI u)), (2, .int (nI (g + 1)))]) rfl ?_
            exact ih2 _ (by omega) (g + 1) p1 false va1 fo1 T2 w1 rfl (by omega) hp1 fr ⟨h0, h1, h2, h3, h4, h5, h6, h7, h8, h9, h10, h11, h12, h13⟩ hT2 hS hP2 (hC.m hg hm)
  exact loop2 _ 0 pt bd va fo T1 w rfl (Nat.zero_le _) hpt fr ⟨h0, h1, h2, h3, h4, h5, h6, h7, h8, h9, h10, h11, h12, h13⟩ hT1 ⟨fun _ _ => rfl, fun _ _ => rfl⟩ hP1 hC0
