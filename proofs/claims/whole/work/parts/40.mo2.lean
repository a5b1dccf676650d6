set_option maxHeartbeats 400000 in
set_option maxRecDepth 100000 in
theorem c_Mod_sayField (l : Launch) (D : kD) (b : Nat) (th : Int32) (fd : Nat) (sl : Bool) (ki fl : Nat → Int32) (va : Nat → Int64) (fo go si te : Nat → Int32) (kp : Nat) (ro : Nat → Int32) (rs : Nat) (ma : Nat → Int32) (en ms lw hw : Nat → Int32) (ls : Nat) (hz : Int32) (pt : Nat) (bd : Bool) (o : Nat) (l0 : List Nat) (u f kd fg : Nat) (x : kV) (w : ww) (n : Nat) (ho : o < 2) (hu : u ≤ 13) (hf : f < 5) (hki : ki f = nI kd) (hfl : fl f = nI fg) (hk4 : kd < 4) (hf8 : fg < 8) (hv : VR va fo go si te (5 * u + f) x) (hok : okV kd fg x) (hl : (l0 ++ encF kd fg x).length ≤ 199) (h : Mo D w b th fd sl ki fl va fo go si te kp ro rs (wrL ma (200 * o) l0) l0.length en ms lw hw ls hz pt bd) : AM l D M_Mod_sayField 2 0 0 [.ref b, .int (nI o), .int (nI u), .int (nI f)] w n (fun v' w' n' => v' = none ∧ n' = n ∧ Fr w w' b 14 ∧ Mo D w' b th fd sl ki fl va fo go si te kp ro rs (wrL ma (200 * o) (l0 ++ (encF kd fg x))) ((l0 ++ (encF kd fg x)).length) en ms lw hw ls hz pt bd) := by
  refine AM.ofv (by decide +kernel) rfl (Nat.le_of_ble_eq_true rfl) (fun X A Q hin S RT => ?_)
  have S : FX X (D, A, 6, Q) prog_9_method_22_code "KeyCodecModel" 2 0 0 := S
  have RT : RTv X (D, A, 6, Q) prog_9_method_22_code 0 0 _ := RT
  obtain ⟨h0, h1, h2, h3, h4, h5, h6, h7, h8, h9, h10, h11, h12, h13⟩ := h
  have hl199 := hl
  refine a_lve (lv' := [(0, .ref b), (1, .int (nI o)), (2, .int (nI u)), (3, .int (nI f))]) rfl ?_
  have fr : Fr w w b 14 := Fr.refl _ _ _
  refine a_iconst S (v := 5) d_Mod_sayField_0 (by decide) ?_
  refine a_iload_n S d_Mod_sayField_1 rfl rfl ?_
  refine a_imul S d_Mod_sayField_2 ?_
  refine a_eqi (y := nI (5 * u)) (ni_mul rfl rfl) ?_
  refine a_iload_n S d_Mod_sayField_3 rfl rfl ?_
  refine a_iadd S d_Mod_sayField_4 ?_
  refine a_eqi (y := nI (5 * u + f)) (ni_add rfl rfl) ?_
  refine a_istore S d_Mod_sayField_5 (Nat.le_of_ble_eq_true rfl) (lv' := [(0, .ref b), (1, .int (nI o)), (2, .int (nI u)), (3, .int (nI f)), (4, .int (nI (5 * u + f)))]) rfl ?_
  refine a_aload_n S d_Mod_sayField_7 rfl rfl ?_
  refine a_iload_n S d_Mod_sayField_8 rfl rfl ?_
  refine a_callV S (rest := []) lg_Mod_95 h0 (c_Mod_isOptional X.2.1 D b th fd sl ki fl va fo go si te kp ro rs (wrL ma (200 * o) l0) l0.length en ms lw hw ls hz pt bd f w n hf ⟨h0, h1, h2, h3, h4, h5, h6, h7, h8, h9, h10, h11, h12, h13⟩) (by decide) (by omega) (by omega) rfl (Nat.le_of_ble_eq_true rfl) d_Mod_sayField_9 (fun v1 w2 n3 p4 => ?_)
  obtain ⟨rfl, e5, e6⟩ := p4
  rw [e5, e6]
  refine a_st (st' := [.int (if fl f &&& 2 = 0 then 0 else 1)]) rfl ?_
  refine a_if_eq S (tgt := 47) d_Mod_sayField_12 rfl (fun h12_ => ?_) (fun h12_ => ?_)
  · rw [hfl] at h12_
    have hop := fOp_0 hf8 h12_
    refine a_aload_n S d_Mod_sayField_47 rfl rfl ?_
    refine a_get S kc_Mod 7 (by decide) lf_Mod_23 h0 rfl d_Mod_sayField_48 ?_
    refine a_iload S d_Mod_sayField_51 rfl ?_
    refine a_zald S (i := 5 * u + f) h5 rfl (by omega) (by decide) d_Mod_sayField_53 ?_
    refine a_eqi hv.2.2.1 ?_
    refine a_if_eq S (tgt := 58) d_Mod_sayField_54 rfl (fun h54 => ?_) (fun h54 => ?_)
    · have hm2 : x.1 = false := bo_0 h54
      have hm := hm2
      refine a_aload_n S d_Mod_sayField_58 rfl rfl ?_
      refine a_iload_n S d_Mod_sayField_59 rfl rfl ?_
      refine a_callV S (rest := []) lg_Mod_116 h0 (c_Mod_isDown X.2.1 D b th fd sl ki fl va fo go si te kp ro rs (wrL ma (200 * o) l0) l0.length en ms lw hw ls hz pt bd f w n hf ⟨h0, h1, h2, h3, h4, h5, h6, h7, h8, h9, h10, h11, h12, h13⟩) (by decide) (by omega) (by omega) rfl (Nat.le_of_ble_eq_true rfl) d_Mod_sayField_60 (fun v7 w8 n9 p10 => ?_)
      obtain ⟨rfl, e11, e12⟩ := p10
      rw [e11, e12]
      refine a_st (st' := [.int (if fl f &&& 1 = 0 then 0 else 1)]) rfl ?_
      refine a_if_eq S (tgt := 72) d_Mod_sayField_63 rfl (fun h63 => ?_) (fun h63 => ?_)
      · rw [hfl] at h63
        have hg := tnF_0 hf8 h63
        refine a_iconst S (v := 0) d_Mod_sayField_72 (by decide) ?_
        have hE : l0 ++ encF kd fg x = l0 ++ (encV kd x).map (tnB 0) := ef_n hop hm hg l0
        refine a_istore S d_Mod_sayField_73 (Nat.le_of_ble_eq_true rfl) (lv' := [(0, .ref b), (1, .int (nI o)), (2, .int (nI u)), (3, .int (nI f)), (4, .int (nI (5 * u + f))), (5, .int 0)]) rfl ?_
        refine a_aload_n S d_Mod_sayField_75 rfl rfl ?_
        refine a_get S kc_Mod 3 (by decide) lf_Mod_7 h0 rfl d_Mod_sayField_76 ?_
        refine a_iload_n S d_Mod_sayField_79 rfl rfl ?_
        refine a_iald S (i := f) h1 rfl (by omega) (by decide) d_Mod_sayField_80 ?_
        refine a_eqi hki ?_
        refine a_iconst S (v := 1) d_Mod_sayField_81 (by decide) ?_
        refine a_icmp_ne S (tgt := 109) d_Mod_sayField_82 rfl (fun h82 => ?_) (fun h82 => ?_)
        · have hk1 : ¬ kd = 1 := fun z => h82 (by rw [z]; rfl)
          refine a_aload_n S d_Mod_sayField_109 rfl rfl ?_
          refine a_get S kc_Mod 3 (by decide) lf_Mod_7 h0 rfl d_Mod_sayField_110 ?_
          refine a_iload_n S d_Mod_sayField_113 rfl rfl ?_
          refine a_iald S (i := f) h1 rfl (by omega) (by decide) d_Mod_sayField_114 ?_
          refine a_eqi hki ?_
          refine a_iconst S (v := 2) d_Mod_sayField_115 (by decide) ?_
          refine a_icmp_ne S (tgt := 131) d_Mod_sayField_116 rfl (fun h116 => ?_) (fun h116 => ?_)
          · have hk2 : ¬ kd = 2 := fun z => h116 (by rw [z]; rfl)
            have hE : l0 ++ encF kd fg x = l0 ++ (encU (uL x.2.1)).map (tnB 0) := by rw [hE]; rcases (show kd = 0 ∨ kd = 3 by omega) with e | e <;> rw [e] <;> rfl
            refine a_aload_n S d_Mod_sayField_131 rfl rfl ?_
            refine a_iload_n S d_Mod_sayField_132 rfl rfl ?_
            refine a_aload_n S d_Mod_sayField_133 rfl rfl ?_
            refine a_get S kc_Mod 5 (by decide) lf_Mod_16 h0 rfl d_Mod_sayField_134 ?_
            refine a_iload S d_Mod_sayField_137 rfl ?_
            refine a_lald S (i := 5 * u + f) h3 rfl (by omega) (by decide) d_Mod_sayField_139 ?_
            refine a_eql hv.1 ?_
            refine a_iload S d_Mod_sayField_140 rfl ?_
            refine a_callV S (rest := []) lg_Mod_127 h0 (c_Mod_sayInt X.2.1 D b th fd sl ki fl va fo go si te kp ro rs ma en ms lw hw ls hz pt bd o l0 x.2.1 0 w n ho (by decide) (Nat.le_trans (by rw [← hE]; exact hl) (by decide)) ⟨h0, h1, h2, h3, h4, h5, h6, h7, h8, h9, h10, h11, h12, h13⟩) (by decide) (by omega) (by omega) rfl (Nat.le_of_ble_eq_true rfl) d_Mod_sayField_142 (fun v13 w14 n15 p16 => ?_)
            obtain ⟨rfl, e18, f17, h0, h1, h2, h3, h4, h5, h6, h7, h8, h9, h10, h11, h12, h13⟩ := p16
            rw [e18]
            refine a_st (st' := []) rfl ?_
            have fr := fr.trans (Fr.sub f17 (by omega) (by omega))
            exact RT _ _ _ _ _ _ d_Mod_sayField_145 (by omega) (by omega) (by rw [← hE] at h0 h9; exact ⟨rfl, rfl, fr, h0, h1, h2, h3, h4, h5, h6, h7, h8, h9, h10, h11, h12, h13⟩)
          · have hk : kd = 2 := (nI_eq (by omega) (by decide)).mp h116
            have hE : l0 ++ encF kd fg x = l0 ++ (encT x.2.2.2).map (tnB 0) := by rw [hE, hk]; rfl
            refine a_aload_n S d_Mod_sayField_119 rfl rfl ?_
            refine a_iload_n S d_Mod_sayField_120 rfl rfl ?_
            refine a_iload S d_Mod_sayField_121 rfl ?_
            refine a_iload S d_Mod_sayField_123 rfl ?_
            refine a_callV S (rest := []) lg_Mod_123 h0 (c_Mod_sayText X.2.1 D b th fd sl ki fl va fo go si te kp ro rs ma en ms lw hw ls hz pt bd o l0 (5 * u + f) x.2.2.2 0 w n ho (by omega) (by decide) hv.2.2.2.1 hv.2.2.2.2.1 hv.2.2.2.2.2.1 hv.2.2.2.2.2.2 (Nat.le_trans (by rw [← hE]; exact hl) (by decide)) ⟨h0, h1, h2, h3, h4, h5, h6, h7, h8, h9, h10, h11, h12, h13⟩) (by decide) (by omega) (by omega) rfl (Nat.le_of_ble_eq_true rfl) d_Mod_sayField_125 (fun v19 w20 n21 p22 => ?_)
            obtain ⟨rfl, e24, f23, h0, h1, h2, h3, h4, h5, h6, h7, h8, h9, h10, h11, h12, h13⟩ := p22
            rw [e24]
            refine a_st (st' := []) rfl ?_
            have fr := fr.trans (Fr.sub f23 (by omega) (by omega))
            refine a_goto S (tgt := 145) d_Mod_sayField_128 rfl ?_
            exact RT _ _ _ _ _ _ d_Mod_sayField_145 (by omega) (by omega) (by rw [← hE] at h0 h9; exact ⟨rfl, rfl, fr, h0, h1, h2, h3, h4, h5, h6, h7, h8, h9, h10, h11, h12, h13⟩)
        · have hk : kd = 1 := (nI_eq (by omega) (by decide)).mp h82
          have hn4 := hok.2.2.2.1
          rw [hk] at hn4
          have hE : l0 ++ encF kd fg x = l0 ++ (encD x.2.1.toInt x.2.2.1.toInt.toNat).map (tnB 0) := by rw [hE, hk]; rfl
          refine a_aload_n S d_Mod_sayField_85 rfl rfl ?_
          refine a_iload_n S d_Mod_sayField_86 rfl rfl ?_
          refine a_aload_n S d_Mod_sayField_87 rfl rfl ?_
          refine a_get S kc_Mod 5 (by decide) lf_Mod_16 h0 rfl d_Mod_sayField_88 ?_
          refine a_iload S d_Mod_sayField_91 rfl ?_
          refine a_lald S (i := 5 * u + f) h3 rfl (by omega) (by decide) d_Mod_sayField_93 ?_
          refine a_eql hv.1 ?_
          refine a_aload_n S d_Mod_sayField_94 rfl rfl ?_
          refine a_get S kc_Mod 6 (by decide) lf_Mod_20 h0 rfl d_Mod_sayField_95 ?_
          refine a_iload S d_Mod_sayField_98 rfl ?_
          refine a_iald S (i := 5 * u + f) h4 rfl (by omega) (by decide) d_Mod_sayField_100 ?_
          refine a_eqi (hv.2.1.trans (nn_nI hn4.2.2.1)) ?_
          refine a_iload S d_Mod_sayField_101 rfl ?_
          refine a_callV S (rest := []) lg_Mod_119 h0 (c_Mod_sayDecimal X.2.1 D b th fd sl ki fl va fo go si te kp ro rs ma en ms lw hw ls hz pt bd o l0 x.2.1 x.2.2.1.toInt.toNat 0 w n ho ⟨hn4.1, hn4.2.1, by have := hn4.2.2.2; omega⟩ (by decide) (Nat.le_trans (by rw [← hE]; exact hl) (by decide)) ⟨h0, h1, h2, h3, h4, h5, h6, h7, h8, h9, h10, h11, h12, h13⟩) (by decide) (by omega) (by omega) rfl (Nat.le_of_ble_eq_true rfl) d_Mod_sayField_103 (fun v25 w26 n27 p28 => ?_)
          obtain ⟨rfl, e30, f29, h0, h1, h2, h3, h4, h5, h6, h7, h8, h9, h10, h11, h12, h13⟩ := p28
          rw [e30]
          refine a_st (st' := []) rfl ?_
          have fr := fr.trans (Fr.sub f29 (by omega) (by omega))
          refine a_goto S (tgt := 145) d_Mod_sayField_106 rfl ?_
          exact RT _ _ _ _ _ _ d_Mod_sayField_145 (by omega) (by omega) (by rw [← hE] at h0 h9; exact ⟨rfl, rfl, fr, h0, h1, h2, h3, h4, h5, h6, h7, h8, h9, h10, h11, h12, h13⟩)
      · rw [hfl] at h63
        have hg := tnF_1 hf8 h63
        refine a_sipush S (v := 255) d_Mod_sayField_66 (by decide) ?_
        refine a_goto S (tgt := 73) d_Mod_sayField_69 rfl ?_
        have hE : l0 ++ encF kd fg x = l0 ++ (encV kd x).map (tnB 255) := ef_n hop hm hg l0
        refine a_istore S d_Mod_sayField_73 (Nat.le_of_ble_eq_true rfl) (lv' := [(0, .ref b), (1, .int (nI o)), (2, .int (nI u)), (3, .int (nI f)), (4, .int (nI (5 * u + f))), (5, .int 255)]) rfl ?_
        refine a_aload_n S d_Mod_sayField_75 rfl rfl ?_
        refine a_get S kc_Mod 3 (by decide) lf_Mod_7 h0 rfl d_Mod_sayField_76 ?_
        refine a_iload_n S d_Mod_sayField_79 rfl rfl ?_
        refine a_iald S (i := f) h1 rfl (by omega) (by decide) d_Mod_sayField_80 ?_
        refine a_eqi hki ?_
        refine a_iconst S (v := 1) d_Mod_sayField_81 (by decide) ?_
        refine a_icmp_ne S (tgt := 109) d_Mod_sayField_82 rfl (fun h82 => ?_) (fun h82 => ?_)
        · have hk1 : ¬ kd = 1 := fun z => h82 (by rw [z]; rfl)
          refine a_aload_n S d_Mod_sayField_109 rfl rfl ?_
          refine a_get S kc_Mod 3 (by decide) lf_Mod_7 h0 rfl d_Mod_sayField_110 ?_
          refine a_iload_n S d_Mod_sayField_113 rfl rfl ?_
          refine a_iald S (i := f) h1 rfl (by omega) (by decide) d_Mod_sayField_114 ?_
          refine a_eqi hki ?_
          refine a_iconst S (v := 2) d_Mod_sayField_115 (by decide) ?_
          refine a_icmp_ne S (tgt := 131) d_Mod_sayField_116 rfl (fun h116 => ?_) (fun h116 => ?_)
          · have hk2 : ¬ kd = 2 := fun z => h116 (by rw [z]; rfl)
            have hE : l0 ++ encF kd fg x = l0 ++ (encU (uL x.2.1)).map (tnB 255) := by rw [hE]; rcases (show kd = 0 ∨ kd = 3 by omega) with e | e <;> rw [e] <;> rfl
            refine a_aload_n S d_Mod_sayField_131 rfl rfl ?_
            refine a_iload_n S d_Mod_sayField_132 rfl rfl ?_
            refine a_aload_n S d_Mod_sayField_133 rfl rfl ?_
            refine a_get S kc_Mod 5 (by decide) lf_Mod_16 h0 rfl d_Mod_sayField_134 ?_
            refine a_iload S d_Mod_sayField_137 rfl ?_
            refine a_lald S (i := 5 * u + f) h3 rfl (by omega) (by decide) d_Mod_sayField_139 ?_
            refine a_eql hv.1 ?_
            refine a_iload S d_Mod_sayField_140 rfl ?_
            refine a_callV S (rest := []) lg_Mod_127 h0 (c_Mod_sayInt X.2.1 D b th fd sl ki fl va fo go si te kp ro rs ma en ms lw hw ls hz pt bd o l0 x.2.1 255 w n ho (by decide) (Nat.le_trans (by rw [← hE]; exact hl) (by decide)) ⟨h0, h1, h2, h3, h4, h5, h6, h7, h8, h9, h10, h11, h12, h13⟩) (by decide) (by omega) (by omega) rfl (Nat.le_of_ble_eq_true rfl) d_Mod_sayField_142 (fun v31 w32 n33 p34 => ?_)
            obtain ⟨rfl, e36, f35, h0, h1, h2, h3, h4, h5, h6, h7, h8, h9, h10, h11, h12, h13⟩ := p34
            rw [e36]
            refine a_st (st' := []) rfl ?_
            have fr := fr.trans (Fr.sub f35 (by omega) (by omega))
            exact RT _ _ _ _ _ _ d_Mod_sayField_145 (by omega) (by omega) (by rw [← hE] at h0 h9; exact ⟨rfl, rfl, fr, h0, h1, h2, h3, h4, h5, h6, h7, h8, h9, h10, h11, h12, h13⟩)
          · have hk : kd = 2 := (nI_eq (by omega) (by decide)).mp h116
            have hE : l0 ++ encF kd fg x = l0 ++ (encT x.2.2.2).map (tnB 255) := by rw [hE, hk]; rfl
            refine a_aload_n S d_Mod_sayField_119 rfl rfl ?_
            refine a_iload_n S d_Mod_sayField_120 rfl rfl ?_
            refine a_iload S d_Mod_sayField_121 rfl ?_
            refine a_iload S d_Mod_sayField_123 rfl ?_
            refine a_callV S (rest := []) lg_Mod_123 h0 (c_Mod_sayText X.2.1 D b th fd sl ki fl va fo go si te kp ro rs ma en ms lw hw ls hz pt bd o l0 (5 * u + f) x.2.2.2 255 w n ho (by omega) (by decide) hv.2.2.2.1 hv.2.2.2.2.1 hv.2.2.2.2.2.1 hv.2.2.2.2.2.2 (Nat.le_trans (by rw [← hE]; exact hl) (by decide)) ⟨h0, h1, h2, h3, h4, h5, h6, h7, h8, h9, h10, h11, h12, h13⟩) (by decide) (by omega) (by omega) rfl (Nat.le_of_ble_eq_true rfl) d_Mod_sayField_125 (fun v37 w38 n39 p40 => ?_)
            obtain ⟨rfl, e42, f41, h0, h1, h2, h3, h4, h5, h6, h7, h8, h9, h10, h11, h12, h13⟩ := p40
            rw [e42]
            refine a_st (st' := []) rfl ?_
            have fr := fr.trans (Fr.sub f41 (by omega) (by omega))
            refine a_goto S (tgt := 145) d_Mod_sayField_128 rfl ?_
            exact RT _ _ _ _ _ _ d_Mod_sayField_145 (by omega) (by omega) (by rw [← hE] at h0 h9; exact ⟨rfl, rfl, fr, h0, h1, h2, h3, h4, h5, h6, h7, h8, h9, h10, h11, h12, h13⟩)
        · have hk : kd = 1 := (nI_eq (by omega) (by decide)).mp h82
          have hn4 := hok.2.2.2.1
          rw [hk] at hn4
          have hE : l0 ++ encF kd fg x = l0 ++ (encD x.2.1.toInt x.2.2.1.toInt.toNat).map (tnB 255) := by rw [hE, hk]; rfl
          refine a_aload_n S d_Mod_sayField_85 rfl rfl ?_
          refine a_iload_n S d_Mod_sayField_86 rfl rfl ?_
          refine a_aload_n S d_Mod_sayField_87 rfl rfl ?_
          refine a_get S kc_Mod 5 (by decide) lf_Mod_16 h0 rfl d_Mod_sayField_88 ?_
          refine a_iload S d_Mod_sayField_91 rfl ?_
          refine a_lald S (i := 5 * u + f) h3 rfl (by omega) (by decide) d_Mod_sayField_93 ?_
          refine a_eql hv.1 ?_
          refine a_aload_n S d_Mod_sayField_94 rfl rfl ?_
          refine a_get S kc_Mod 6 (by decide) lf_Mod_20 h0 rfl d_Mod_sayField_95 ?_
          refine a_iload S d_Mod_sayField_98 rfl ?_
          refine a_iald S (i := 5 * u + f) h4 rfl (by omega) (by decide) d_Mod_sayField_100 ?_
          refine a_eqi (hv.2.1.trans (nn_nI hn4.2.2.1)) ?_
          refine a_iload S d_Mod_sayField_101 rfl ?_
          refine a_callV S (rest := []) lg_Mod_119 h0 (c_Mod_sayDecimal X.2.1 D b th fd sl ki fl va fo go si te kp ro rs ma en ms lw hw ls hz pt bd o l0 x.2.1 x.2.2.1.toInt.toNat 255 w n ho ⟨hn4.1, hn4.2.1, by have := hn4.2.2.2; omega⟩ (by decide) (Nat.le_trans (by rw [← hE]; exact hl) (by decide)) ⟨h0, h1, h2, h3, h4, h5, h6, h7, h8, h9, h10, h11, h12, h13⟩) (by decide) (by omega) (by omega) rfl (Nat.le_of_ble_eq_true rfl) d_Mod_sayField_103 (fun v43 w44 n45 p46 => ?_)
          obtain ⟨rfl, e48, f47, h0, h1, h2, h3, h4, h5, h6, h7, h8, h9, h10, h11, h12, h13⟩ := p46
          rw [e48]
          refine a_st (st' := []) rfl ?_
          have fr := fr.trans (Fr.sub f47 (by omega) (by omega))
          refine a_goto S (tgt := 145) d_Mod_sayField_106 rfl ?_
          exact RT _ _ _ _ _ _ d_Mod_sayField_145 (by omega) (by omega) (by rw [← hE] at h0 h9; exact ⟨rfl, rfl, fr, h0, h1, h2, h3, h4, h5, h6, h7, h8, h9, h10, h11, h12, h13⟩)
    · have hm2 : x.1 = true := bo_1 h54
      rw [(hok.2.2.1 hm2).1] at hop; cases hop
  · rw [hfl] at h12_
    have hop := fOp_1 hf8 h12_
    refine a_aload_n S d_Mod_sayField_15 rfl rfl ?_
    refine a_iload_n S d_Mod_sayField_16 rfl rfl ?_
    refine a_aload_n S d_Mod_sayField_17 rfl rfl ?_
    refine a_get S kc_Mod 7 (by decide) lf_Mod_23 h0 rfl d_Mod_sayField_18 ?_
    refine a_iload S d_Mod_sayField_21 rfl ?_
    refine a_zald S (i := 5 * u + f) h5 rfl (by omega) (by decide) d_Mod_sayField_23 ?_
    refine a_eqi hv.2.2.1 ?_
    refine a_if_ne S (tgt := 31) d_Mod_sayField_24 rfl (fun h24 => ?_) (fun h24 => ?_)
    · have hm : x.1 = true := bo_1 h24
      refine a_aload_n S d_Mod_sayField_31 rfl rfl ?_
      refine a_iload_n S d_Mod_sayField_32 rfl rfl ?_
      refine a_callV S (rest := [_, _]) lg_Mod_113 h0 (c_Mod_isLast X.2.1 D b th fd sl ki fl va fo go si te kp ro rs (wrL ma (200 * o) l0) l0.length en ms lw hw ls hz pt bd f w n hf ⟨h0, h1, h2, h3, h4, h5, h6, h7, h8, h9, h10, h11, h12, h13⟩) (by decide) (by omega) (by omega) rfl (Nat.le_of_ble_eq_true rfl) d_Mod_sayField_33 (fun v49 w50 n51 p52 => ?_)
      obtain ⟨rfl, e53, e54⟩ := p52
      rw [e53, e54]
      refine a_st (st' := [.int (if fl f &&& 4 = 0 then 0 else 1), .int (nI o), .ref b]) rfl ?_
      refine a_if_eq S (tgt := 43) d_Mod_sayField_36 rfl (fun h36 => ?_) (fun h36 => ?_)
      · rw [hfl] at h36
        have hmk := mkA_0 hf8 h36
        refine a_iconst S (v := 0) d_Mod_sayField_43 (by decide) ?_
        refine a_callV S (rest := []) lg_Mod_105 h0 (c_Mod_say X.2.1 D b th fd sl ki fl va fo go si te kp ro rs ma en ms lw hw ls hz pt bd o l0 0 w n ho (by have h := hl; rw [List.length_append] at h; omega) ⟨h0, h1, h2, h3, h4, h5, h6, h7, h8, h9, h10, h11, h12, h13⟩) (by decide) (by omega) (by omega) rfl (Nat.le_of_ble_eq_true rfl) d_Mod_sayField_44 (fun v55 w56 n57 p58 => ?_)
        obtain ⟨rfl, e60, f59, h0, h1, h2, h3, h4, h5, h6, h7, h8, h9, h10, h11, h12, h13⟩ := p58
        rw [e60]
        refine a_st (st' := []) rfl ?_
        have fr := fr.trans (Fr.sub f59 (by omega) (by omega))
        refine a_aload_n S d_Mod_sayField_47 rfl rfl ?_
        refine a_get S kc_Mod 7 (by decide) lf_Mod_23 h0 rfl d_Mod_sayField_48 ?_
        refine a_iload S d_Mod_sayField_51 rfl ?_
        refine a_zald S (i := 5 * u + f) h5 rfl (by omega) (by decide) d_Mod_sayField_53 ?_
        refine a_eqi hv.2.2.1 ?_
        refine a_if_eq S (tgt := 58) d_Mod_sayField_54 rfl (fun h54 => ?_) (fun h54 => ?_)
        · have hm2 : x.1 = false := bo_0 h54
          rw [hm] at hm2; cases hm2
        · have hm2 : x.1 = true := bo_1 h54
          exact RT _ _ _ _ _ _ d_Mod_sayField_57 (by omega) (by omega) (by rw [ef_m hop hm, hmk]; exact ⟨rfl, rfl, fr, h0, h1, h2, h3, h4, h5, h6, h7, h8, h9, h10, h11, h12, h13⟩)
      · rw [hfl] at h36
        have hmk := mkA_1 hf8 h36
        refine a_iconst S (v := 2) d_Mod_sayField_39 (by decide) ?_
        refine a_goto S (tgt := 44) d_Mod_sayField_40 rfl ?_
        refine a_callV S (rest := []) lg_Mod_105 h0 (c_Mod_say X.2.1 D b th fd sl ki fl va fo go si te kp ro rs ma en ms lw hw ls hz pt bd o l0 2 w n ho (by have h := hl; rw [List.length_append] at h; omega) ⟨h0, h1, h2, h3, h4, h5, h6, h7, h8, h9, h10, h11, h12, h13⟩) (by decide) (by omega) (by omega) rfl (Nat.le_of_ble_eq_true rfl) d_Mod_sayField_44 (fun v61 w62 n63 p64 => ?_)
        obtain ⟨rfl, e66, f65, h0, h1, h2, h3, h4, h5, h6, h7, h8, h9, h10, h11, h12, h13⟩ := p64
        rw [e66]
        refine a_st (st' := []) rfl ?_
        have fr := fr.trans (Fr.sub f65 (by omega) (by omega))
        refine a_aload_n S d_Mod_sayField_47 rfl rfl ?_
        refine a_get S kc_Mod 7 (by decide) lf_Mod_23 h0 rfl d_Mod_sayField_48 ?_
        refine a_iload S d_Mod_sayField_51 rfl ?_
        refine a_zald S (i := 5 * u + f) h5 rfl (by omega) (by decide) d_Mod_sayField_53 ?_
        refine a_eqi hv.2.2.1 ?_
        refine a_if_eq S (tgt := 58) d_Mod_sayField_54 rfl (fun h54 => ?_) (fun h54 => ?_)
        · have hm2 : x.1 = false := bo_0 h54
          rw [hm] at hm2; cases hm2
        · have hm2 : x.1 = true := bo_1 h54
          exact RT _ _ _ _ _ _ d_Mod_sayField_57 (by omega) (by omega) (by rw [ef_m hop hm, hmk]; exact ⟨rfl, rfl, fr, h0, h1, h2, h3, h4, h5, h6, h7, h8, h9, h10, h11, h12, h13⟩)
    · have hm : x.1 = false := bo_0 h24
      refine a_iconst S (v := 1) d_Mod_sayField_27 (by decide) ?_
      refine a_goto S (tgt := 44) d_Mod_sayField_28 rfl ?_
      refine a_callV S (rest := []) lg_Mod_105 h0 (c_Mod_say X.2.1 D b th fd sl ki fl va fo go si te kp ro rs ma en ms lw hw ls hz pt bd o l0 1 w n ho (by have h := hl; rw [List.length_append] at h; omega) ⟨h0, h1, h2, h3, h4, h5, h6, h7, h8, h9, h10, h11, h12, h13⟩) (by decide) (by omega) (by omega) rfl (Nat.le_of_ble_eq_true rfl) d_Mod_sayField_44 (fun v67 w68 n69 p70 => ?_)
      obtain ⟨rfl, e72, f71, h0, h1, h2, h3, h4, h5, h6, h7, h8, h9, h10, h11, h12, h13⟩ := p70
      rw [e72]
      refine a_st (st' := []) rfl ?_
      have fr := fr.trans (Fr.sub f71 (by omega) (by omega))
      refine a_aload_n S d_Mod_sayField_47 rfl rfl ?_
      refine a_get S kc_Mod 7 (by decide) lf_Mod_23 h0 rfl d_Mod_sayField_48 ?_
      refine a_iload S d_Mod_sayField_51 rfl ?_
      refine a_zald S (i := 5 * u + f) h5 rfl (by omega) (by decide) d_Mod_sayField_53 ?_
      refine a_eqi hv.2.2.1 ?_
      refine a_if_eq S (tgt := 58) d_Mod_sayField_54 rfl (fun h54 => ?_) (fun h54 => ?_)
      · have hm2 : x.1 = false := bo_0 h54
        refine a_aload_n S d_Mod_sayField_58 rfl rfl ?_
        refine a_iload_n S d_Mod_sayField_59 rfl rfl ?_
        refine a_callV S (rest := []) lg_Mod_116 h0 (c_Mod_isDown X.2.1 D b th fd sl ki fl va fo go si te kp ro rs (wrL ma (200 * o) (l0 ++ [1])) ((l0 ++ [1]).length) en ms lw hw ls hz pt bd f w68 n hf ⟨h0, h1, h2, h3, h4, h5, h6, h7, h8, h9, h10, h11, h12, h13⟩) (by decide) (by omega) (by omega) rfl (Nat.le_of_ble_eq_true rfl) d_Mod_sayField_60 (fun v73 w74 n75 p76 => ?_)
        obtain ⟨rfl, e77, e78⟩ := p76
        rw [e77, e78]
        refine a_st (st' := [.int (if fl f &&& 1 = 0 then 0 else 1)]) rfl ?_
        refine a_if_eq S (tgt := 72) d_Mod_sayField_63 rfl (fun h63 => ?_) (fun h63 => ?_)
        · rw [hfl] at h63
          have hg := tnF_0 hf8 h63
          refine a_iconst S (v := 0) d_Mod_sayField_72 (by decide) ?_
          have hE : l0 ++ encF kd fg x = (l0 ++ [1]) ++ (encV kd x).map (tnB 0) := ef_o hop hm hg l0
          refine a_istore S d_Mod_sayField_73 (Nat.le_of_ble_eq_true rfl) (lv' := [(0, .ref b), (1, .int (nI o)), (2, .int (nI u)), (3, .int (nI f)), (4, .int (nI (5 * u + f))), (5, .int 0)]) rfl ?_
          refine a_aload_n S d_Mod_sayField_75 rfl rfl ?_
          refine a_get S kc_Mod 3 (by decide) lf_Mod_7 h0 rfl d_Mod_sayField_76 ?_
          refine a_iload_n S d_Mod_sayField_79 rfl rfl ?_
          refine a_iald S (i := f) h1 rfl (by omega) (by decide) d_Mod_sayField_80 ?_
          refine a_eqi hki ?_
          refine a_iconst S (v := 1) d_Mod_sayField_81 (by decide) ?_
          refine a_icmp_ne S (tgt := 109) d_Mod_sayField_82 rfl (fun h82 => ?_) (fun h82 => ?_)
          · have hk1 : ¬ kd = 1 := fun z => h82 (by rw [z]; rfl)
            refine a_aload_n S d_Mod_sayField_109 rfl rfl ?_
            refine a_get S kc_Mod 3 (by decide) lf_Mod_7 h0 rfl d_Mod_sayField_110 ?_
            refine a_iload_n S d_Mod_sayField_113 rfl rfl ?_
            refine a_iald S (i := f) h1 rfl (by omega) (by decide) d_Mod_sayField_114 ?_
            refine a_eqi hki ?_
            refine a_iconst S (v := 2) d_Mod_sayField_115 (by decide) ?_
            refine a_icmp_ne S (tgt := 131) d_Mod_sayField_116 rfl (fun h116 => ?_) (fun h116 => ?_)
            · have hk2 : ¬ kd = 2 := fun z => h116 (by rw [z]; rfl)
              have hE : l0 ++ encF kd fg x = (l0 ++ [1]) ++ (encU (uL x.2.1)).map (tnB 0) := by rw [hE]; rcases (show kd = 0 ∨ kd = 3 by omega) with e | e <;> rw [e] <;> rfl
              refine a_aload_n S d_Mod_sayField_131 rfl rfl ?_
              refine a_iload_n S d_Mod_sayField_132 rfl rfl ?_
              refine a_aload_n S d_Mod_sayField_133 rfl rfl ?_
              refine a_get S kc_Mod 5 (by decide) lf_Mod_16 h0 rfl d_Mod_sayField_134 ?_
              refine a_iload S d_Mod_sayField_137 rfl ?_
              refine a_lald S (i := 5 * u + f) h3 rfl (by omega) (by decide) d_Mod_sayField_139 ?_
              refine a_eql hv.1 ?_
              refine a_iload S d_Mod_sayField_140 rfl ?_
              refine a_callV S (rest := []) lg_Mod_127 h0 (c_Mod_sayInt X.2.1 D b th fd sl ki fl va fo go si te kp ro rs ma en ms lw hw ls hz pt bd o (l0 ++ [1]) x.2.1 0 w68 n ho (by decide) (Nat.le_trans (by rw [← hE]; exact hl) (by decide)) ⟨h0, h1, h2, h3, h4, h5, h6, h7, h8, h9, h10, h11, h12, h13⟩) (by decide) (by omega) (by omega) rfl (Nat.le_of_ble_eq_true rfl) d_Mod_sayField_142 (fun v79 w80 n81 p82 => ?_)
              obtain ⟨rfl, e84, f83, h0, h1, h2, h3, h4, h5, h6, h7, h8, h9, h10, h11, h12, h13⟩ := p82
              rw [e84]
              refine a_st (st' := []) rfl ?_
              have fr := fr.trans (Fr.sub f83 (by omega) (by omega))
              exact RT _ _ _ _ _ _ d_Mod_sayField_145 (by omega) (by omega) (by rw [← hE] at h0 h9; exact ⟨rfl, rfl, fr, h0, h1, h2, h3, h4, h5, h6, h7, h8, h9, h10, h11, h12, h13⟩)
            · have hk : kd = 2 := (nI_eq (by omega) (by decide)).mp h116
              have hE : l0 ++ encF kd fg x = (l0 ++ [1]) ++ (encT x.2.2.2).map (tnB 0) := by rw [hE, hk]; rfl
              refine a_aload_n S d_Mod_sayField_119 rfl rfl ?_
              refine a_iload_n S d_Mod_sayField_120 rfl rfl ?_
              refine a_iload S d_Mod_sayField_121 rfl ?_
              refine a_iload S d_Mod_sayField_123 rfl ?_
              refine a_callV S (rest := []) lg_Mod_123 h0 (c_Mod_sayText X.2.1 D b th fd sl ki fl va fo go si te kp ro rs ma en ms lw hw ls hz pt bd o (l0 ++ [1]) (5 * u + f) x.2.2.2 0 w68 n ho (by omega) (by decide) hv.2.2.2.1 hv.2.2.2.2.1 hv.2.2.2.2.2.1 hv.2.2.2.2.2.2 (Nat.le_trans (by rw [← hE]; exact hl) (by decide)) ⟨h0, h1, h2, h3, h4, h5, h6, h7, h8, h9, h10, h11, h12, h13⟩) (by decide) (by omega) (by omega) rfl (Nat.le_of_ble_eq_true rfl) d_Mod_sayField_125 (fun v85 w86 n87 p88 => ?_)
              obtain ⟨rfl, e90, f89, h0, h1, h2, h3, h4, h5, h6, h7, h8, h9, h10, h11, h12, h13⟩ := p88
              rw [e90]
              refine a_st (st' := []) rfl ?_
              have fr := fr.trans (Fr.sub f89 (by omega) (by omega))
              refine a_goto S (tgt := 145) d_Mod_sayField_128 rfl ?_
              exact RT _ _ _ _ _ _ d_Mod_sayField_145 (by omega) (by omega) (by rw [← hE] at h0 h9; exact ⟨rfl, rfl, fr, h0, h1, h2, h3, h4, h5, h6, h7, h8, h9, h10, h11, h12, h13⟩)
          · have hk : kd = 1 := (nI_eq (by omega) (by decide)).mp h82
            have hn4 := hok.2.2.2.1
            rw [hk] at hn4
            have hE : l0 ++ encF kd fg x = (l0 ++ [1]) ++ (encD x.2.1.toInt x.2.2.1.toInt.toNat).map (tnB 0) := by rw [hE, hk]; rfl
            refine a_aload_n S d_Mod_sayField_85 rfl rfl ?_
            refine a_iload_n S d_Mod_sayField_86 rfl rfl ?_
            refine a_aload_n S d_Mod_sayField_87 rfl rfl ?_
            refine a_get S kc_Mod 5 (by decide) lf_Mod_16 h0 rfl d_Mod_sayField_88 ?_
            refine a_iload S d_Mod_sayField_91 rfl ?_
            refine a_lald S (i := 5 * u + f) h3 rfl (by omega) (by decide) d_Mod_sayField_93 ?_
            refine a_eql hv.1 ?_
            refine a_aload_n S d_Mod_sayField_94 rfl rfl ?_
            refine a_get S kc_Mod 6 (by decide) lf_Mod_20 h0 rfl d_Mod_sayField_95 ?_
            refine a_iload S d_Mod_sayField_98 rfl ?_
            refine a_iald S (i := 5 * u + f) h4 rfl (by omega) (by decide) d_Mod_sayField_100 ?_
            refine a_eqi (hv.2.1.trans (nn_nI hn4.2.2.1)) ?_
            refine a_iload S d_Mod_sayField_101 rfl ?_
            refine a_callV S (rest := []) lg_Mod_119 h0 (c_Mod_sayDecimal X.2.1 D b th fd sl ki fl va fo go si te kp ro rs ma en ms lw hw ls hz pt bd o (l0 ++ [1]) x.2.1 x.2.2.1.toInt.toNat 0 w68 n ho ⟨hn4.1, hn4.2.1, by have := hn4.2.2.2; omega⟩ (by decide) (Nat.le_trans (by rw [← hE]; exact hl) (by decide)) ⟨h0, h1, h2, h3, h4, h5, h6, h7, h8, h9, h10, h11, h12, h13⟩) (by decide) (by omega) (by omega) rfl (Nat.le_of_ble_eq_true rfl) d_Mod_sayField_103 (fun v91 w92 n93 p94 => ?_)
            obtain ⟨rfl, e96, f95, h0, h1, h2, h3, h4, h5, h6, h7, h8, h9, h10, h11, h12, h13⟩ := p94
            rw [e96]
            refine a_st (st' := []) rfl ?_
            have fr := fr.trans (Fr.sub f95 (by omega) (by omega))
            refine a_goto S (tgt := 145) d_Mod_sayField_106 rfl ?_
            exact RT _ _ _ _ _ _ d_Mod_sayField_145 (by omega) (by omega) (by rw [← hE] at h0 h9; exact ⟨rfl, rfl, fr, h0, h1, h2, h3, h4, h5, h6, h7, h8, h9, h10, h11, h12, h13⟩)
        · rw [hfl] at h63
          have hg := tnF_1 hf8 h63
          refine a_sipush S (v := 255) d_Mod_sayField_66 (by decide) ?_
          refine a_goto S (tgt := 73) d_Mod_sayField_69 rfl ?_
          have hE : l0 ++ encF kd fg x = (l0 ++ [1]) ++ (encV kd x).map (tnB 255) := ef_o hop hm hg l0
          refine a_istore S d_Mod_sayField_73 (Nat.le_of_ble_eq_true rfl) (lv' := [(0, .ref b), (1, .int (nI o)), (2, .int (nI u)), (3, .int (nI f)), (4, .int (nI (5 * u + f))), (5, .int 255)]) rfl ?_
          refine a_aload_n S d_Mod_sayField_75 rfl rfl ?_
          refine a_get S kc_Mod 3 (by decide) lf_Mod_7 h0 rfl d_Mod_sayField_76 ?_
          refine a_iload_n S d_Mod_sayField_79 rfl rfl ?_
          refine a_iald S (i := f) h1 rfl (by omega) (by decide) d_Mod_sayField_80 ?_
          refine a_eqi hki ?_
          refine a_iconst S (v := 1) d_Mod_sayField_81 (by decide) ?_
          refine a_icmp_ne S (tgt := 109) d_Mod_sayField_82 rfl (fun h82 => ?_) (fun h82 => ?_)
          · have hk1 : ¬ kd = 1 := fun z => h82 (by rw [z]; rfl)
            refine a_aload_n S d_Mod_sayField_109 rfl rfl ?_
            refine a_get S kc_Mod 3 (by decide) lf_Mod_7 h0 rfl d_Mod_sayField_110 ?_
            refine a_iload_n S d_Mod_sayField_113 rfl rfl ?_
            refine a_iald S (i := f) h1 rfl (by omega) (by decide) d_Mod_sayField_114 ?_
            refine a_eqi hki ?_
            refine a_iconst S (v := 2) d_Mod_sayField_115 (by decide) ?_
            refine a_icmp_ne S (tgt := 131) d_Mod_sayField_116 rfl (fun h116 => ?_) (fun h116 => ?_)
            · have hk2 : ¬ kd = 2 := fun z => h116 (by rw [z]; rfl)
              have hE : l0 ++ encF kd fg x = (l0 ++ [1]) ++ (encU (uL x.2.1)).map (tnB 255) := by rw [hE]; rcases (show kd = 0 ∨ kd = 3 by omega) with e | e <;> rw [e] <;> rfl
              refine a_aload_n S d_Mod_sayField_131 rfl rfl ?_
              refine a_iload_n S d_Mod_sayField_132 rfl rfl ?_
              refine a_aload_n S d_Mod_sayField_133 rfl rfl ?_
              refine a_get S kc_Mod 5 (by decide) lf_Mod_16 h0 rfl d_Mod_sayField_134 ?_
              refine a_iload S d_Mod_sayField_137 rfl ?_
              refine a_lald S (i := 5 * u + f) h3 rfl (by omega) (by decide) d_Mod_sayField_139 ?_
              refine a_eql hv.1 ?_
              refine a_iload S d_Mod_sayField_140 rfl ?_
              refine a_callV S (rest := []) lg_Mod_127 h0 (c_Mod_sayInt X.2.1 D b th fd sl ki fl va fo go si te kp ro rs ma en ms lw hw ls hz pt bd o (l0 ++ [1]) x.2.1 255 w68 n ho (by decide) (Nat.le_trans (by rw [← hE]; exact hl) (by decide)) ⟨h0, h1, h2, h3, h4, h5, h6, h7, h8, h9, h10, h11, h12, h13⟩) (by decide) (by omega) (by omega) rfl (Nat.le_of_ble_eq_true rfl) d_Mod_sayField_142 (fun v97 w98 n99 p100 => ?_)
              obtain ⟨rfl, e102, f101, h0, h1, h2, h3, h4, h5, h6, h7, h8, h9, h10, h11, h12, h13⟩ := p100
              rw [e102]
              refine a_st (st' := []) rfl ?_
              have fr := fr.trans (Fr.sub f101 (by omega) (by omega))
              exact RT _ _ _ _ _ _ d_Mod_sayField_145 (by omega) (by omega) (by rw [← hE] at h0 h9; exact ⟨rfl, rfl, fr, h0, h1, h2, h3, h4, h5, h6, h7, h8, h9, h10, h11, h12, h13⟩)
            · have hk : kd = 2 := (nI_eq (by omega) (by decide)).mp h116
              have hE : l0 ++ encF kd fg x = (l0 ++ [1]) ++ (encT x.2.2.2).map (tnB 255) := by rw [hE, hk]; rfl
              refine a_aload_n S d_Mod_sayField_119 rfl rfl ?_
              refine a_iload_n S d_Mod_sayField_120 rfl rfl ?_
              refine a_iload S d_Mod_sayField_121 rfl ?_
              refine a_iload S d_Mod_sayField_123 rfl ?_
              refine a_callV S (rest := []) lg_Mod_123 h0 (c_Mod_sayText X.2.1 D b th fd sl ki fl va fo go si te kp ro rs ma en ms lw hw ls hz pt bd o (l0 ++ [1]) (5 * u + f) x.2.2.2 255 w68 n ho (by omega) (by decide) hv.2.2.2.1 hv.2.2.2.2.1 hv.2.2.2.2.2.1 hv.2.2.2.2.2.2 (Nat.le_trans (by rw [← hE]; exact hl) (by decide)) ⟨h0, h1, h2, h3, h4, h5, h6, h7, h8, h9, h10, h11, h12, h13⟩) (by decide) (by omega) (by omega) rfl (Nat.le_of_ble_eq_true rfl) d_Mod_sayField_125 (fun v103 w104 n105 p106 => ?_)
              obtain ⟨rfl, e108, f107, h0, h1, h2, h3, h4, h5, h6, h7, h8, h9, h10, h11, h12, h13⟩ := p106
              rw [e108]
              refine a_st (st' := []) rfl ?_
              have fr := fr.trans (Fr.sub f107 (by omega) (by omega))
              refine a_goto S (tgt := 145) d_Mod_sayField_128 rfl ?_
              exact RT _ _ _ _ _ _ d_Mod_sayField_145 (by omega) (by omega) (by rw [← hE] at h0 h9; exact ⟨rfl, rfl, fr, h0, h1, h2, h3, h4, h5, h6, h7, h8, h9, h10, h11, h12, h13⟩)
          · have hk : kd = 1 := (nI_eq (by omega) (by decide)).mp h82
            have hn4 := hok.2.2.2.1
            rw [hk] at hn4
            have hE : l0 ++ encF kd fg x = (l0 ++ [1]) ++ (encD x.2.1.toInt x.2.2.1.toInt.toNat).map (tnB 255) := by rw [hE, hk]; rfl
            refine a_aload_n S d_Mod_sayField_85 rfl rfl ?_
            refine a_iload_n S d_Mod_sayField_86 rfl rfl ?_
            refine a_aload_n S d_Mod_sayField_87 rfl rfl ?_
            refine a_get S kc_Mod 5 (by decide) lf_Mod_16 h0 rfl d_Mod_sayField_88 ?_
            refine a_iload S d_Mod_sayField_91 rfl ?_
            refine a_lald S (i := 5 * u + f) h3 rfl (by omega) (by decide) d_Mod_sayField_93 ?_
            refine a_eql hv.1 ?_
            refine a_aload_n S d_Mod_sayField_94 rfl rfl ?_
            refine a_get S kc_Mod 6 (by decide) lf_Mod_20 h0 rfl d_Mod_sayField_95 ?_
            refine a_iload S d_Mod_sayField_98 rfl ?_
            refine a_iald S (i := 5 * u + f) h4 rfl (by omega) (by decide) d_Mod_sayField_100 ?_
            refine a_eqi (hv.2.1.trans (nn_nI hn4.2.2.1)) ?_
            refine a_iload S d_Mod_sayField_101 rfl ?_
            refine a_callV S (rest := []) lg_Mod_119 h0 (c_Mod_sayDecimal X.2.1 D b th fd sl ki fl va fo go si te kp ro rs ma en ms lw hw ls hz pt bd o (l0 ++ [1]) x.2.1 x.2.2.1.toInt.toNat 255 w68 n ho ⟨hn4.1, hn4.2.1, by have := hn4.2.2.2; omega⟩ (by decide) (Nat.le_trans (by rw [← hE]; exact hl) (by decide)) ⟨h0, h1, h2, h3, h4, h5, h6, h7, h8, h9, h10, h11, h12, h13⟩) (by decide) (by omega) (by omega) rfl (Nat.le_of_ble_eq_true rfl) d_Mod_sayField_103 (fun v109 w110 n111 p112 => ?_)
            obtain ⟨rfl, e114, f113, h0, h1, h2, h3, h4, h5, h6, h7, h8, h9, h10, h11, h12, h13⟩ := p112
            rw [e114]
            refine a_st (st' := []) rfl ?_
            have fr := fr.trans (Fr.sub f113 (by omega) (by omega))
            refine a_goto S (tgt := 145) d_Mod_sayField_106 rfl ?_
            exact RT _ _ _ _ _ _ d_Mod_sayField_145 (by omega) (by omega) (by rw [← hE] at h0 h9; exact ⟨rfl, rfl, fr, h0, h1, h2, h3, h4, h5, h6, h7, h8, h9, h10, h11, h12, h13⟩)
      · have hm2 : x.1 = true := bo_1 h54
        rw [hm] at hm2; cases hm2
set_option maxHeartbeats 400000 in
set_option maxRecDepth 100000 in
theorem c_Mod_sayTail (l : Launch) (D : kD) (b : Nat) (th : Int32) (fd : Nat) (sl : Bool) (ki fl : Nat → Int32) (va : Nat → Int64) (fo go si te : Nat → Int32) (kp : Nat) (ro : Nat → Int32) (rs : Nat) (ma : Nat → Int32) (en ms lw hw : Nat → Int32) (ls : Nat) (hz : Int32) (pt : Nat) (bd : Bool) (o : Nat) (l0 : List Nat) (u : Nat) (K F : Nat → Nat) (T : Nat → kV) (w : ww) (n : Nat) (ho : o < 2) (hu : u ≤ 13) (hfd : fd ≤ 5) (hki : ∀ i, i < fd → ki i = nI (K i) ∧ K i < 4) (hT : TR va fo go si te u fd T) (hok : okT K F T fd) (hl : l0.length ≤ 150) (h : Mo D w b th fd sl ki fl va fo go si te kp ro rs (wrL ma (200 * o) l0) l0.length en ms lw hw ls hz pt bd) : AM l D M_Mod_sayTail 1 0 0 [.ref b, .int (nI o), .int (nI u)] w n (fun v' w' n' => v' = none ∧ n' = n ∧ Fr w w' b 14 ∧ Mo D w' b th fd sl ki fl va fo go si te kp ro rs (wrL ma (200 * o) (l0 ++ (tlB K T fd))) ((l0 ++ (tlB K T fd)).length) en ms lw hw ls hz pt bd) := by
  refine AM.ofv (by decide +kernel) rfl (Nat.le_of_ble_eq_true rfl) (fun X A Q hin S RT => ?_)
  have S : FX X (D, A, 5, Q) prog_9_method_23_code "KeyCodecModel" 1 0 0 := S
  have RT : RTv X (D, A, 5, Q) prog_9_method_23_code 0 0 _ := RT
  obtain ⟨h0, h1, h2, h3, h4, h5, h6, h7, h8, h9, h10, h11, h12, h13⟩ := h
  refine a_lve (lv' := [(0, .ref b), (1, .int (nI o)), (2, .int (nI u))]) rfl ?_
  have fr : Fr w w b 14 := Fr.refl _ _ _
  refine a_iconst S (v := 0) d_Mod_sayTail_0 (by decide) ?_
  refine a_istore_n S d_Mod_sayTail_1 rfl (Nat.le_of_ble_eq_true rfl) (lv' := [(0, .ref b), (1, .int (nI o)), (2, .int (nI u)), (3, .int 0)]) rfl ?_
  have loop2 : ∀ (kk2 : Nat) (i : Nat) (w1 : ww), fd - i = kk2 → (i ≤ fd) → (Fr w w1 b 14) → (Mo D w1 b th fd sl ki fl va fo go si te kp ro rs (wrL ma (200 * o) (l0 ++ tlB K T i)) ((l0 ++ tlB K T i).length) en ms lw hw ls hz pt bd) → AW X (D, A, 5, Q) 2 [(0, .ref b), (1, .int (nI o)), (2, .int (nI u)), (3, .int (nI i))] [] w1 n 0 0 := by
    intro kk2
    induction kk2 using Nat.strongRecOn with
    | ind kk2 ih2 =>
      intro i w1 hk2 hi fr h
      obtain ⟨h0, h1, h2, h3, h4, h5, h6, h7, h8, h9, h10, h11, h12, h13⟩ := h
      refine a_iload_n S d_Mod_sayTail_2 rfl rfl ?_
      refine a_aload_n S d_Mod_sayTail_3 rfl rfl ?_
      refine a_get S kc_Mod 1 (by decide) lf_Mod_62 h0 rfl d_Mod_sayTail_4 ?_
      refine a_icmp_ge S (tgt := 108) d_Mod_sayTail_7 rfl (fun h7_ => ?_) (fun h7_ => ?_)
      · have hi : i = fd := Nat.le_antisymm hi ((nI_leI (by omega) (by omega)).mp h7_)
        exact RT _ _ _ _ _ _ d_Mod_sayTail_108 (by omega) (by omega) (by rw [hi] at h0 h9; exact ⟨rfl, rfl, fr, h0, h1, h2, h3, h4, h5, h6, h7, h8, h9, h10, h11, h12, h13⟩)
      · have hi : i < fd := Nat.not_le.mp fun z => h7_ ((nI_leI (by omega) (by omega)).mpr z)
        have hv := hT i hi
        have hk := hki i hi
        have hn4 := (hok i hi).2.2.2.1
        have hn := tlB_len2 K T i
        refine a_iconst S (v := 5) d_Mod_sayTail_10 (by decide) ?_
        refine a_iload_n S d_Mod_sayTail_11 rfl rfl ?_
        refine a_imul S d_Mod_sayTail_12 ?_
        refine a_eqi (y := nI (5 * u)) (ni_mul rfl rfl) ?_
        refine a_iload_n S d_Mod_sayTail_13 rfl rfl ?_
        refine a_iadd S d_Mod_sayTail_14 ?_
        refine a_eqi (y := nI (5 * u + i)) (ni_add rfl rfl) ?_
        refine a_istore S d_Mod_sayTail_15 (Nat.le_of_ble_eq_true rfl) (lv' := [(0, .ref b), (1, .int (nI o)), (2, .int (nI u)), (3, .int (nI i)), (4, .int (nI (5 * u + i)))]) rfl ?_
        refine a_aload_n S d_Mod_sayTail_17 rfl rfl ?_
        refine a_get S kc_Mod 7 (by decide) lf_Mod_23 h0 rfl d_Mod_sayTail_18 ?_
        refine a_iload S d_Mod_sayTail_21 rfl ?_
        refine a_zald S (i := 5 * u + i) h5 rfl (by omega) (by decide) d_Mod_sayTail_23 ?_
        refine a_eqi hv.2.2.1 ?_
        refine a_if_eq S (tgt := 30) d_Mod_sayTail_24 rfl (fun h24 => ?_) (fun h24 => ?_)
        · have hm : (T i).1 = false := bo_0 h24
          refine a_aload_n S d_Mod_sayTail_30 rfl rfl ?_
          refine a_get S kc_Mod 3 (by decide) lf_Mod_7 h0 rfl d_Mod_sayTail_31 ?_
          refine a_iload_n S d_Mod_sayTail_34 rfl rfl ?_
          refine a_iald S (i := i) h1 rfl (by omega) (by decide) d_Mod_sayTail_35 ?_
          refine a_eqi hk.1 ?_
          refine a_iconst S (v := 1) d_Mod_sayTail_36 (by decide) ?_
          refine a_icmp_ne S (tgt := 52) d_Mod_sayTail_37 rfl (fun h37 => ?_) (fun h37 => ?_)
          · have hk1 : ¬ K i = 1 := fun z => h37 (by rw [z]; rfl)
            refine a_aload_n S d_Mod_sayTail_52 rfl rfl ?_
            refine a_get S kc_Mod 3 (by decide) lf_Mod_7 h0 rfl d_Mod_sayTail_53 ?_
            refine a_iload_n S d_Mod_sayTail_56 rfl rfl ?_
            refine a_iald S (i := i) h1 rfl (by omega) (by decide) d_Mod_sayTail_57 ?_
            refine a_eqi hk.1 ?_
            refine a_iconst S (v := 3) d_Mod_sayTail_58 (by decide) ?_
            refine a_icmp_ne S (tgt := 102) d_Mod_sayTail_59 rfl (fun h59 => ?_) (fun h59 => ?_)
            · have hk3 : ¬ K i = 3 := fun z => h59 (by rw [z]; rfl)
              refine a_iinc S (v := nI (i + 1)) d_Mod_sayTail_102 rfl (ni_add rfl (by decide)) (Nat.le_of_ble_eq_true rfl) (lv' := [(0, .ref b), (1, .int (nI o)), (2, .int (nI u)), (3, .int (nI (i + 1))), (4, .int (nI (5 * u + i)))]) rfl ?_
              refine a_goto S (tgt := 2) d_Mod_sayTail_105 rfl ?_
              refine a_lv [0, 1, 2, 3] (lv' := [(0, .ref b), (1, .int (nI o)), (2, .int (nI u)), (3, .int (nI (i + 1)))]) rfl ?_
              exact ih2 _ (by omega) (i + 1) w1 rfl (by omega) fr (by rw [tlB]; rcases (show K i = 0 ∨ K i = 2 by omega) with e | e; rw [e, tl_0, List.append_nil]; exact ⟨h0, h1, h2, h3, h4, h5, h6, h7, h8, h9, h10, h11, h12, h13⟩; rw [e, tl_2, List.append_nil]; exact ⟨h0, h1, h2, h3, h4, h5, h6, h7, h8, h9, h10, h11, h12, h13⟩)
            · have hk3 : K i = 3 := (nI_eq (by omega) (by decide)).mp h59
              rw [hk3] at hn4
              refine a_aload_n S d_Mod_sayTail_62 rfl rfl ?_
              refine a_iload_n S d_Mod_sayTail_63 rfl rfl ?_
              refine a_sipush S (v := 1000) d_Mod_sayTail_64 (by decide) ?_
              refine a_aload_n S d_Mod_sayTail_67 rfl rfl ?_
              refine a_get S kc_Mod 6 (by decide) lf_Mod_20 h0 rfl d_Mod_sayTail_68 ?_
              refine a_iload S d_Mod_sayTail_71 rfl ?_
              refine a_iald S (i := 5 * u + i) h4 rfl (by omega) (by decide) d_Mod_sayTail_73 ?_
              refine a_eqi hv.2.1 ?_
              refine a_iadd S d_Mod_sayTail_74 ?_
              refine a_sipush S (v := 256) d_Mod_sayTail_75 (by decide) ?_
              refine a_idiv S d_Mod_sayTail_78 (by decide) ?_
              refine a_eqi (y := nI (((T i).2.2.1.toInt + 1000).toNat / 256)) (of_d hn4.2.2.1 hn4.2.2.2) ?_
              refine a_callV S (rest := []) lg_Mod_105 h0 (c_Mod_say X.2.1 D b th fd sl ki fl va fo go si te kp ro rs ma en ms lw hw ls hz pt bd o (l0 ++ tlB K T i) (((T i).2.2.1.toInt + 1000).toNat / 256) w1 n ho (by rw [List.length_append]; omega) ⟨h0, h1, h2, h3, h4, h5, h6, h7, h8, h9, h10, h11, h12, h13⟩) (by decide) (by omega) (by omega) rfl (Nat.le_of_ble_eq_true rfl) d_Mod_sayTail_79 (fun v1 w2 n3 p4 => ?_)
              obtain ⟨rfl, e6, f5, h0, h1, h2, h3, h4, h5, h6, h7, h8, h9, h10, h11, h12, h13⟩ := p4
              rw [e6]
              refine a_st (st' := []) rfl ?_
              have fr := fr.trans (Fr.sub f5 (by omega) (by omega))
              refine a_aload_n S d_Mod_sayTail_82 rfl rfl ?_
              refine a_iload_n S d_Mod_sayTail_83 rfl rfl ?_
              refine a_sipush S (v := 1000) d_Mod_sayTail_84 (by decide) ?_
              refine a_aload_n S d_Mod_sayTail_87 rfl rfl ?_
              refine a_get S kc_Mod 6 (by decide) lf_Mod_20 h0 rfl d_Mod_sayTail_88 ?_
              refine a_iload S d_Mod_sayTail_91 rfl ?_
              refine a_iald S (i := 5 * u + i) h4 rfl (by omega) (by decide) d_Mod_sayTail_93 ?_
              refine a_eqi hv.2.1 ?_
              refine a_iadd S d_Mod_sayTail_94 ?_
              refine a_sipush S (v := 256) d_Mod_sayTail_95 (by decide) ?_
              refine a_irem S d_Mod_sayTail_98 (by decide) ?_
              refine a_eqi (y := nI (((T i).2.2.1.toInt + 1000).toNat % 256)) (of_r hn4.2.2.1 hn4.2.2.2) ?_
              refine a_callV S (rest := []) lg_Mod_105 h0 (c_Mod_say X.2.1 D b th fd sl ki fl va fo go si te kp ro rs ma en ms lw hw ls hz pt bd o ((l0 ++ tlB K T i) ++ [((T i).2.2.1.toInt + 1000).toNat / 256]) (((T i).2.2.1.toInt + 1000).toNat % 256) w2 n ho (by simp only [List.length_append, List.length_singleton]; omega) ⟨h0, h1, h2, h3, h4, h5, h6, h7, h8, h9, h10, h11, h12, h13⟩) (by decide) (by omega) (by omega) rfl (Nat.le_of_ble_eq_true rfl) d_Mod_sayTail_99 (fun v7 w8 n9 p10 => ?_)
              obtain ⟨rfl, e12, f11, h0, h1, h2, h3, h4, h5, h6, h7, h8, h9, h10, h11, h12, h13⟩ := p10
              rw [e12]
              refine a_st (st' := []) rfl ?_
              have fr := fr.trans (Fr.sub f11 (by omega) (by omega))
              refine a_iinc S (v := nI (i + 1)) d_Mod_sayTail_102 rfl (ni_add rfl (by decide)) (Nat.le_of_ble_eq_true rfl) (lv' := [(0, .ref b), (1, .int (nI o)), (2, .int (nI u)), (3, .int (nI (i + 1))), (4, .int (nI (5 * u + i)))]) rfl ?_
              refine a_goto S (tgt := 2) d_Mod_sayTail_105 rfl ?_
              refine a_lv [0, 1, 2, 3] (lv' := [(0, .ref b), (1, .int (nI o)), (2, .int (nI u)), (3, .int (nI (i + 1)))]) rfl ?_
              exact ih2 _ (by omega) (i + 1) w8 rfl (by omega) fr (by rw [tlB, hk3, tf_3 hm hn4.2.2.1 hn4.2.2.2, ← List.append_assoc, ← List.append_assoc]; exact ⟨h0, h1, h2, h3, h4, h5, h6, h7, h8, h9, h10, h11, h12, h13⟩)
          · have hk1 : K i = 1 := (nI_eq (by omega) (by decide)).mp h37
            rw [hk1] at hn4
            refine a_aload_n S d_Mod_sayTail_40 rfl rfl ?_
            refine a_iload_n S d_Mod_sayTail_41 rfl rfl ?_
            refine a_aload_n S d_Mod_sayTail_42 rfl rfl ?_
            refine a_get S kc_Mod 6 (by decide) lf_Mod_20 h0 rfl d_Mod_sayTail_43 ?_
            refine a_iload S d_Mod_sayTail_46 rfl ?_
            refine a_iald S (i := 5 * u + i) h4 rfl (by omega) (by decide) d_Mod_sayTail_48 ?_
            refine a_eqi (hv.2.1.trans (nn_nI hn4.2.2.1)) ?_
            refine a_callV S (rest := []) lg_Mod_105 h0 (c_Mod_say X.2.1 D b th fd sl ki fl va fo go si te kp ro rs ma en ms lw hw ls hz pt bd o (l0 ++ tlB K T i) ((T i).2.2.1.toInt.toNat) w1 n ho (by rw [List.length_append]; omega) ⟨h0, h1, h2, h3, h4, h5, h6, h7, h8, h9, h10, h11, h12, h13⟩) (by decide) (by omega) (by omega) rfl (Nat.le_of_ble_eq_true rfl) d_Mod_sayTail_49 (fun v13 w14 n15 p16 => ?_)
            obtain ⟨rfl, e18, f17, h0, h1, h2, h3, h4, h5, h6, h7, h8, h9, h10, h11, h12, h13⟩ := p16
            rw [e18]
            refine a_st (st' := []) rfl ?_
            have fr := fr.trans (Fr.sub f17 (by omega) (by omega))
            refine a_aload_n S d_Mod_sayTail_52 rfl rfl ?_
            refine a_get S kc_Mod 3 (by decide) lf_Mod_7 h0 rfl d_Mod_sayTail_53 ?_
            refine a_iload_n S d_Mod_sayTail_56 rfl rfl ?_
            refine a_iald S (i := i) h1 rfl (by omega) (by decide) d_Mod_sayTail_57 ?_
            refine a_eqi hk.1 ?_
            refine a_iconst S (v := 3) d_Mod_sayTail_58 (by decide) ?_
            refine a_icmp_ne S (tgt := 102) d_Mod_sayTail_59 rfl (fun h59 => ?_) (fun h59 => ?_)
            · refine a_iinc S (v := nI (i + 1)) d_Mod_sayTail_102 rfl (ni_add rfl (by decide)) (Nat.le_of_ble_eq_true rfl) (lv' := [(0, .ref b), (1, .int (nI o)), (2, .int (nI u)), (3, .int (nI (i + 1))), (4, .int (nI (5 * u + i)))]) rfl ?_
              refine a_goto S (tgt := 2) d_Mod_sayTail_105 rfl ?_
              refine a_lv [0, 1, 2, 3] (lv' := [(0, .ref b), (1, .int (nI o)), (2, .int (nI u)), (3, .int (nI (i + 1)))]) rfl ?_
              exact ih2 _ (by omega) (i + 1) w14 rfl (by omega) fr (by rw [tlB, hk1, tf_1 hm, ← List.append_assoc]; exact ⟨h0, h1, h2, h3, h4, h5, h6, h7, h8, h9, h10, h11, h12, h13⟩)
            · have hk3 : K i = 3 := (nI_eq (by omega) (by decide)).mp h59
              omega
        · have hm : (T i).1 = true := bo_1 h24
          refine a_goto S (tgt := 102) d_Mod_sayTail_27 rfl ?_
          refine a_iinc S (v := nI (i + 1)) d_Mod_sayTail_102 rfl (ni_add rfl (by decide)) (Nat.le_of_ble_eq_true rfl) (lv' := [(0, .ref b), (1, .int (nI o)), (2, .int (nI u)), (3, .int (nI (i + 1))), (4, .int (nI (5 * u + i)))]) rfl ?_
          refine a_goto S (tgt := 2) d_Mod_sayTail_105 rfl ?_
          refine a_lv [0, 1, 2, 3] (lv' := [(0, .ref b), (1, .int (nI o)), (2, .int (nI u)), (3, .int (nI (i + 1)))]) rfl ?_
          exact ih2 _ (by omega) (i + 1) w1 rfl (by omega) fr (by rw [tlB, tl_m hm, List.append_nil]; exact ⟨h0, h1, h2, h3, h4, h5, h6, h7, h8, h9, h10, h11, h12, h13⟩)
  exact loop2 _ 0 w rfl (Nat.zero_le _) fr (by rw [tlB, List.append_nil]; exact ⟨h0, h1, h2, h3, h4, h5, h6, h7, h8, h9, h10, h11, h12, h13⟩)
set_option maxHeartbeats 400000 in
set_option maxRecDepth 100000 in
theorem c_Mod_make (l : Launch) (D : kD) (b : Nat) (th : Int32) (fd : Nat) (sl : Bool) (ki fl : Nat → Int32) (va : Nat → Int64) (fo go si te : Nat → Int32) (kp : Nat) (ro : Nat → Int32) (rs : Nat) (ma : Nat → Int32) (sz : Nat) (en ms lw hw : Nat → Int32) (ls : Nat) (hz : Int32) (pt : Nat) (bd : Bool) (o u : Nat) (K F : Nat → Nat) (T : Nat → kV) (w : ww) (n : Nat) (ho : o < 2) (hu : u ≤ 13) (hfd : fd ≤ 5) (hki : ∀ i, i < fd → K i < 4 ∧ F i < 8 ∧ ki i = nI (K i) ∧ fl i = nI (F i)) (hT : TR va fo go si te u fd T) (hok : okT K F T fd) (h : Mo D w b th fd sl ki fl va fo go si te kp ro rs ma sz en ms lw hw ls hz pt bd) : AM l D M_Mod_make 3 0 0 [.ref b, .int (nI o), .int (nI u)] w n (fun v w' n' => ∃ en' : Nat → Int32, v = none ∧ n' = n ∧ Fr w w' b 14 ∧ Mo D w' b th fd sl ki fl va fo go si te kp ro rs (wrL ma (200 * o) (keyB K F T fd)) ((keyB K F T fd).length) en' (upd ms o (nI (keyB K F T fd).length)) lw hw ls hz pt bd ∧ EnR K F T o fd en en') := by
  refine AM.ofv (by decide +kernel) rfl (Nat.le_of_ble_eq_true rfl) (fun X A Q hin S RT => ?_)
  have S : FX X (D, A, 4, Q) prog_9_method_24_code "KeyCodecModel" 3 0 0 := S
  have RT : RTv X (D, A, 4, Q) prog_9_method_24_code 0 0 _ := RT
  obtain ⟨h0, h1, h2, h3, h4, h5, h6, h7, h8, h9, h10, h11, h12, h13⟩ := h
  refine a_lve (lv' := [(0, .ref b), (1, .int (nI o)), (2, .int (nI u))]) rfl ?_
  have fr : Fr w w b 14 := Fr.refl _ _ _
  refine a_aload_n S d_Mod_make_0 rfl rfl ?_
  refine a_iconst S (v := 0) d_Mod_make_1 (by decide) ?_
  refine a_put S kc_Mod kt_Mod 14 (by decide) lf_Mod_100 rfl h0 rfl rfl (Nat.le_of_ble_eq_true rfl) d_Mod_make_2 (fun w1 h0 e2 => ?_)
  have h0 : w1 b = some (.inr (6, [.int th, .int (nI fd), .int (if sl then 1 else 0), .ref (b + 1), .ref (b + 2), .ref (b + 3), .ref (b + 4), .ref (b + 5), .ref (b + 6), .ref (b + 7), .int (nI kp), .ref (b + 8), .int (nI rs), .ref (b + 9), .int 0, .ref (b + 10), .ref (b + 11), .ref (b + 12), .ref (b + 13), .int (nI ls), .int hz, .int (nI pt), .int (if bd then 1 else 0)])) := h0
  have fr := fr.trans (Fr.sub (Fr.of1 e2) (by omega) (by omega))
  have h1 := Fr.cell (Fr.of1 e2) h1 (by omega)
  have h2 := Fr.cell (Fr.of1 e2) h2 (by omega)
  have h3 := Fr.cell (Fr.of1 e2) h3 (by omega)
  have h4 := Fr.cell (Fr.of1 e2) h4 (by omega)
  have h5 := Fr.cell (Fr.of1 e2) h5 (by omega)
  have h6 := Fr.cell (Fr.of1 e2) h6 (by omega)
  have h7 := Fr.cell (Fr.of1 e2) h7 (by omega)
  have h8 := Fr.cell (Fr.of1 e2) h8 (by omega)
  have h9 := Fr.cell (Fr.of1 e2) h9 (by omega)
  have h10 := Fr.cell (Fr.of1 e2) h10 (by omega)
  have h11 := Fr.cell (Fr.of1 e2) h11 (by omega)
  have h12 := Fr.cell (Fr.of1 e2) h12 (by omega)
  have h13 := Fr.cell (Fr.of1 e2) h13 (by omega)
  refine a_aload_n S d_Mod_make_5 rfl rfl ?_
  refine a_get S kc_Mod 15 (by decide) lf_Mod_39 h0 rfl d_Mod_make_6 ?_
  refine a_bipush S (v := 6) d_Mod_make_9 (by decide) ?_
  refine a_iload_n S d_Mod_make_11 rfl rfl ?_
  refine a_imul S d_Mod_make_12 ?_
  refine a_eqi (y := nI (6 * o)) (ni_mul rfl rfl) ?_
  refine a_iconst S (v := 0) d_Mod_make_13 (by decide) ?_
  refine a_iast S (i := 6 * o) h10 rfl (by omega) (by decide) d_Mod_make_14 (fun w3 h10 e4 => ?_)
  have fr := fr.trans (Fr.sub (Fr.of1 e4) (by omega) (by omega))
  have h0 := Fr.cell (Fr.of1 e4) h0 (by omega)
  have h1 := Fr.cell (Fr.of1 e4) h1 (by omega)
  have h2 := Fr.cell (Fr.of1 e4) h2 (by omega)
  have h3 := Fr.cell (Fr.of1 e4) h3 (by omega)
  have h4 := Fr.cell (Fr.of1 e4) h4 (by omega)
  have h5 := Fr.cell (Fr.of1 e4) h5 (by omega)
  have h6 := Fr.cell (Fr.of1 e4) h6 (by omega)
  have h7 := Fr.cell (Fr.of1 e4) h7 (by omega)
  have h8 := Fr.cell (Fr.of1 e4) h8 (by omega)
  have h9 := Fr.cell (Fr.of1 e4) h9 (by omega)
  have h11 := Fr.cell (Fr.of1 e4) h11 (by omega)
  have h12 := Fr.cell (Fr.of1 e4) h12 (by omega)
  have h13 := Fr.cell (Fr.of1 e4) h13 (by omega)
  refine a_iconst S (v := 0) d_Mod_make_15 (by decide) ?_
  refine a_istore_n S d_Mod_make_16 rfl (Nat.le_of_ble_eq_true rfl) (lv' := [(0, .ref b), (1, .int (nI o)), (2, .int (nI u)), (3, .int 0)]) rfl ?_
  have loop17 : ∀ (kk17 : Nat) (i : Nat) (w1 : ww) (en1 : Nat → Int32), fd - i = kk17 → (i ≤ fd) → (Fr w w1 b 14) → (Mo D w1 b th fd sl ki fl va fo go si te kp ro rs (wrL ma (200 * o) (fldB K F T i)) ((fldB K F T i).length) en1 ms lw hw ls hz pt bd) → (EnR K F T o i en en1) → AW X (D, A, 4, Q) 17 [(0, .ref b), (1, .int (nI o)), (2, .int (nI u)), (3, .int (nI i))] [] w1 n 0 0 := by
    intro kk17
    induction kk17 using Nat.strongRecOn with
    | ind kk17 ih17 =>
      intro i w1 en1 hk17 hi fr h hE
      obtain ⟨h0, h1, h2, h3, h4, h5, h6, h7, h8, h9, h10, h11, h12, h13⟩ := h
      have hln := fldB_len hok hi
      refine a_iload_n S d_Mod_make_17 rfl rfl ?_
      refine a_aload_n S d_Mod_make_18 rfl rfl ?_
      refine a_get S kc_Mod 1 (by decide) lf_Mod_62 h0 rfl d_Mod_make_19 ?_
      refine a_icmp_ge S (tgt := 55) d_Mod_make_22 rfl (fun h22 => ?_) (fun h22 => ?_)
      · have hi : i = fd := Nat.le_antisymm hi ((nI_leI (by omega) (by omega)).mp h22)
        refine a_aload_n S d_Mod_make_55 rfl rfl ?_
        refine a_iload_n S d_Mod_make_56 rfl rfl ?_
        refine a_iload_n S d_Mod_make_57 rfl rfl ?_
        refine a_callV S (rest := []) lg_Mod_133 h0 (c_Mod_sayTail X.2.1 D b th fd sl ki fl va fo go si te kp ro rs ma en1 ms lw hw ls hz pt bd o (fldB K F T i) u K F T w1 n ho hu hfd (fun i hi => ⟨(hki i hi).2.2.1, (hki i hi).1⟩) hT hok (by omega) ⟨h0, h1, h2, h3, h4, h5, h6, h7, h8, h9, h10, h11, h12, h13⟩) (by decide) (by omega) (by omega) rfl (Nat.le_of_ble_eq_true rfl) d_Mod_make_58 (fun v5 w6 n7 p8 => ?_)
        obtain ⟨rfl, e10, f9, h0, h1, h2, h3, h4, h5, h6, h7, h8, h9, h10, h11, h12, h13⟩ := p8
        rw [e10]
        refine a_st (st' := []) rfl ?_
        have fr := fr.trans (Fr.sub f9 (by omega) (by omega))
        refine a_aload_n S d_Mod_make_61 rfl rfl ?_
        refine a_get S kc_Mod 16 (by decide) lf_Mod_42 h0 rfl d_Mod_make_62 ?_
        refine a_iload_n S d_Mod_make_65 rfl rfl ?_
        refine a_aload_n S d_Mod_make_66 rfl rfl ?_
        refine a_get S kc_Mod 14 (by decide) lf_Mod_100 h0 rfl d_Mod_make_67 ?_
        refine a_iast S (i := o) h11 rfl (by omega) (by decide) d_Mod_make_70 (fun w11 h11 e12 => ?_)
        have fr := fr.trans (Fr.sub (Fr.of1 e12) (by omega) (by omega))
        have h0 := Fr.cell (Fr.of1 e12) h0 (by omega)
        have h1 := Fr.cell (Fr.of1 e12) h1 (by omega)
        have h2 := Fr.cell (Fr.of1 e12) h2 (by omega)
        have h3 := Fr.cell (Fr.of1 e12) h3 (by omega)
        have h4 := Fr.cell (Fr.of1 e12) h4 (by omega)
        have h5 := Fr.cell (Fr.of1 e12) h5 (by omega)
        have h6 := Fr.cell (Fr.of1 e12) h6 (by omega)
        have h7 := Fr.cell (Fr.of1 e12) h7 (by omega)
        have h8 := Fr.cell (Fr.of1 e12) h8 (by omega)
        have h9 := Fr.cell (Fr.of1 e12) h9 (by omega)
        have h10 := Fr.cell (Fr.of1 e12) h10 (by omega)
        have h12 := Fr.cell (Fr.of1 e12) h12 (by omega)
        have h13 := Fr.cell (Fr.of1 e12) h13 (by omega)
        exact RT _ _ _ _ _ _ d_Mod_make_71 (by omega) (by omega) (by rw [hi] at h0 h9 h11 hE; exact ⟨en1, rfl, rfl, fr, ⟨h0, h1, h2, h3, h4, h5, h6, h7, h8, h9, h10, h11, h12, h13⟩, hE⟩)
      · have hi : i < fd := Nat.not_le.mp fun z => h22 ((nI_leI (by omega) (by omega)).mpr z)
        have hk := hki i hi
        have hln2 := fldB_len hok (show i + 1 ≤ fd from hi)
        rw [fldB] at hln2
        refine a_aload_n S d_Mod_make_25 rfl rfl ?_
        refine a_iload_n S d_Mod_make_26 rfl rfl ?_
        refine a_iload_n S d_Mod_make_27 rfl rfl ?_
        refine a_iload_n S d_Mod_make_28 rfl rfl ?_
        refine a_callV S (rest := []) lg_Mod_130 h0 (c_Mod_sayField X.2.1 D b th fd sl ki fl va fo go si te kp ro rs ma en1 ms lw hw ls hz pt bd o (fldB K F T i) u i (K i) (F i) (T i) w1 n ho hu (by omega) hk.2.2.1 hk.2.2.2 hk.1 hk.2.1 (hT i hi) (hok i hi) (by omega) ⟨h0, h1, h2, h3, h4, h5, h6, h7, h8, h9, h10, h11, h12, h13⟩) (by decide) (by omega) (by omega) rfl (Nat.le_of_ble_eq_true rfl) d_Mod_make_29 (fun v13 w14 n15 p16 => ?_)
        obtain ⟨rfl, e18, f17, h0, h1, h2, h3, h4, h5, h6, h7, h8, h9, h10, h11, h12, h13⟩ := p16
        rw [e18]
        refine a_st (st' := []) rfl ?_
        have fr := fr.trans (Fr.sub f17 (by omega) (by omega))
        refine a_aload_n S d_Mod_make_32 rfl rfl ?_
        refine a_get S kc_Mod 15 (by decide) lf_Mod_39 h0 rfl d_Mod_make_33 ?_
        refine a_bipush S (v := 6) d_Mod_make_36 (by decide) ?_
        refine a_iload_n S d_Mod_make_38 rfl rfl ?_
        refine a_imul S d_Mod_make_39 ?_
        refine a_eqi (y := nI (6 * o)) (ni_mul rfl rfl) ?_
        refine a_iload_n S d_Mod_make_40 rfl rfl ?_
        refine a_iadd S d_Mod_make_41 ?_
        refine a_eqi (y := nI (6 * o + i)) (ni_add rfl rfl) ?_
        refine a_iconst S (v := 1) d_Mod_make_42 (by decide) ?_
        refine a_iadd S d_Mod_make_43 ?_
        refine a_eqi (y := nI (6 * o + i + 1)) (ni_add rfl rfl) ?_
        refine a_aload_n S d_Mod_make_44 rfl rfl ?_
        refine a_get S kc_Mod 14 (by decide) lf_Mod_100 h0 rfl d_Mod_make_45 ?_
        refine a_iast S (i := 6 * o + i + 1) h10 rfl (by omega) (by decide) d_Mod_make_48 (fun w19 h10 e20 => ?_)
        have fr := fr.trans (Fr.sub (Fr.of1 e20) (by omega) (by omega))
        have h0 := Fr.cell (Fr.of1 e20) h0 (by omega)
        have h1 := Fr.cell (Fr.of1 e20) h1 (by omega)
        have h2 := Fr.cell (Fr.of1 e20) h2 (by omega)
        have h3 := Fr.cell (Fr.of1 e20) h3 (by omega)
        have h4 := Fr.cell (Fr.of1 e20) h4 (by omega)
        have h5 := Fr.cell (Fr.of1 e20) h5 (by omega)
        have h6 := Fr.cell (Fr.of1 e20) h6 (by omega)
        have h7 := Fr.cell (Fr.of1 e20) h7 (by omega)
        have h8 := Fr.cell (Fr.of1 e20) h8 (by omega)
        have h9 := Fr.cell (Fr.of1 e20) h9 (by omega)
        have h11 := Fr.cell (Fr.of1 e20) h11 (by omega)
        have h12 := Fr.cell (Fr.of1 e20) h12 (by omega)
        have h13 := Fr.cell (Fr.of1 e20) h13 (by omega)
        refine a_iinc S (v := nI (i + 1)) d_Mod_make_49 rfl (ni_add rfl (by decide)) (Nat.le_of_ble_eq_true rfl) (lv' := [(0, .ref b), (1, .int (nI o)), (2, .int (nI u)), (3, .int (nI (i + 1)))]) rfl ?_
        refine a_goto S (tgt := 17) d_Mod_make_52 rfl ?_
        exact ih17 _ (by omega) (i + 1) w19 _ rfl (by omega) fr ⟨h0, h1, h2, h3, h4, h5, h6, h7, h8, h9, h10, h11, h12, h13⟩ (hE.s (by omega))
  exact loop17 _ 0 w3 _ rfl (Nat.zero_le _) fr (by rw [fldB, wrL_nil]; exact ⟨h0, h1, h2, h3, h4, h5, h6, h7, h8, h9, h10, h11, h12, h13⟩) EnR.z
