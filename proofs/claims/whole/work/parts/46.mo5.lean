set_option maxHeartbeats 400000 in
set_option maxRecDepth 100000 in
theorem c_Mod_text (l : Launch) (D : kD) (b : Nat) (th : Int32) (c : Nat) (s : Bool) (K F : Nat → Nat) (L : Nat → kV) (kr : List Nat) (m : Nat) (KT : Nat → Nat → kV) (lo hi : List Nat) (he : Bool) (i x : Int32) (w : ww) (n : Nat) (hV : VI c s K F L m KT) (h : Mdl D w b th c s K F L kr m KT lo hi he) : AM l D M_Mod_text 1 0 0 [.ref b, .int i, .int x] w n (fun v w' n' => (∃ j, j < c ∧ s = true ∧ i = nI j ∧ K j = 2 ∧ (L j).2.2.2.length < 10 ∧ v = some (.int 1) ∧ n' = n ∧ Fr w w' b 14 ∧ Mdl D w' b 0 c s K F (va_up L j (false, (L j).2.1, (L j).2.2.1, (L j).2.2.2 ++ [by8 x])) kr m KT lo hi he) ∨ ((∀ j, j < c → s = true → i = nI j → K j = 2 → (L j).2.2.2.length < 10 → False) ∧ v = some (.int 0) ∧ n' = n ∧ Fr w w' b 14 ∧ Mdl D w' b 0 c s K F L kr m KT lo hi he)) := by
  refine AM.ofz (by decide +kernel) rfl (Nat.le_of_ble_eq_true rfl) (fun X A Q hin S RT => ?_)
  have S : FX X (D, A, 3, Q) prog_9_method_14_code "KeyCodecModel" 1 0 0 := S
  have RT : RTz X (D, A, 3, Q) prog_9_method_14_code 0 0 _ := RT
  obtain ⟨ki, fl, va, fo, go, si, te, ro, ma, sz, en, ms, lw, hw, pt, bd, h, hI, hG⟩ := h
  obtain ⟨h0, h1, h2, h3, h4, h5, h6, h7, h8, h9, h10, h11, h12, h13⟩ := h
  have hc5 := hI.1
  have hm12 := hI.2.1
  have hkr := hI.2.2.1
  have hlo := hI.2.2.2.1
  have hhi := hI.2.2.2.2.1
  have hkf := hI.2.2.2.2.2.1
  refine a_lve (lv' := [(0, .ref b), (1, .int i), (2, .int x)]) rfl ?_
  have fr : Fr w w b 14 := Fr.refl _ _ _
  refine a_aload_n S d_Mod_text_0 rfl rfl ?_
  refine a_iconst S (v := 0) d_Mod_text_1 (by decide) ?_
  refine a_put S kc_Mod kt_Mod 0 (by decide) lf_Mod_55 rfl h0 rfl rfl (Nat.le_of_ble_eq_true rfl) d_Mod_text_2 (fun w1 h0 e2 => ?_)
  have h0 : w1 b = some (.inr (6, [.int 0, .int (nI c), .int (if s then 1 else 0), .ref (b + 1), .ref (b + 2), .ref (b + 3), .ref (b + 4), .ref (b + 5), .ref (b + 6), .ref (b + 7), .int (nI m), .ref (b + 8), .int (nI kr.length), .ref (b + 9), .int (nI sz), .ref (b + 10), .ref (b + 11), .ref (b + 12), .ref (b + 13), .int (nI lo.length), .int (if he then nI hi.length else -1), .int (nI pt), .int (if bd then 1 else 0)])) := h0
  have fr := fr.trans (Fr.sub (Fr.of1 e2) (by omega) (by omega))
  have h1 := Fr.cell (Fr.of1 e2) h1 (by omega)
  have h2 := Fr.cell (Fr.of1 e2) h2 (by omega)
  have h3 := Fr.cell (Fr.of1 e2) h3 (by omega)
  have h4 := Fr.cell (Fr.of1 e2) h4 (by omega)
  have h5 := Fr.cell (Fr.of1 e2) h5 (by omega)
  have h6 := Fr.cell (Fr.of1 e2) h6 (by omega)
  have h7 := Fr.cell (Fr.of1 e2) h7 (by omega)
  have h8 := Fr.cell (Fr.of1 e2) h8 (by omega)
  have h9 := Fr.cell (Fr.of1 e2) h9 (by omega)
  have h10 := Fr.cell (Fr.of1 e2) h10 (by omega)
  have h11 := Fr.cell (Fr.of1 e2) h11 (by omega)
  have h12 := Fr.cell (Fr.of1 e2) h12 (by omega)
  have h13 := Fr.cell (Fr.of1 e2) h13 (by omega)
  refine a_aload_n S d_Mod_text_5 rfl rfl ?_
  refine a_iload_n S d_Mod_text_6 rfl rfl ?_
  refine a_callV S (rest := []) lg_Mod_83 h0 (c_Mod_isField X.2.1 D b 0 c s ki fl va fo go si te m ro kr.length ma sz en ms lw hw lo.length (if he then nI hi.length else -1) pt bd i w1 n  ⟨h0, h1, h2, h3, h4, h5, h6, h7, h8, h9, h10, h11, h12, h13⟩) (by decide) (by omega) (by omega) rfl (Nat.le_of_ble_eq_true rfl) d_Mod_text_7 (fun v3 w4 n5 p6 => ?_)
  obtain ⟨rfl, e7, e8⟩ := p6
  rw [e7, e8]
  refine a_st (st' := [.int (if usB s c i then 1 else 0)]) rfl ?_
  refine a_if_eq S (tgt := 43) d_Mod_text_10 rfl (fun hu_ => ?_) (fun hu_ => ?_)
  · have hx : ∀ j, j < c → s = true → i = nI j → K j = 2 → (L j).2.2.2.length < 10 → False := fun j hj hs_ e _ _ => usB_no (by omega) (bo_0 hu_) hj hs_ e
    refine a_iconst S (v := 0) d_Mod_text_43 (by decide) ?_
    exact RT _ _ _ _ _ _ _ d_Mod_text_44 rfl (by omega) (by omega) (Or.inr ⟨hx, rfl, rfl, fr, ⟨_, _, _, _, _, _, _, _, _, _, _, _, _, _, _, _, ⟨h0, h1, h2, h3, h4, h5, h6, h7, h8, h9, h10, h11, h12, h13⟩, hI, hG⟩⟩)
  · obtain ⟨hs_j, j, hj, rfl⟩ := usB_ix (by omega) (bo_1 hu_)
    have hv0 := hI.v0 hs_j hj
    have hok := hV.1 hs_j j hj
    refine a_aload_n S d_Mod_text_13 rfl rfl ?_
    refine a_get S kc_Mod 3 (by decide) lf_Mod_7 h0 rfl d_Mod_text_14 ?_
    refine a_iload_n S d_Mod_text_17 rfl rfl ?_
    refine a_iald S (i := j) h1 rfl (by omega) (by decide) d_Mod_text_18 ?_
    refine a_eqi (hkf j hj).2.2.1 ?_
    refine a_iconst S (v := 2) d_Mod_text_19 (by decide) ?_
    refine a_icmp_ne S (tgt := 43) d_Mod_text_20 rfl (fun h20 => ?_) (fun h20 => ?_)
    · have hx : ∀ j2, j2 < c → s = true → nI j = nI j2 → K j2 = 2 → (L j2).2.2.2.length < 10 → False := fun j2 hj2 _ e q1 q2 => by
        have e2 := (nI_eq (by omega) (by omega)).mp e
        subst e2
        exact h20 (by rw [q1]; rfl)
      refine a_iconst S (v := 0) d_Mod_text_43 (by decide) ?_
      exact RT _ _ _ _ _ _ _ d_Mod_text_44 rfl (by omega) (by omega) (Or.inr ⟨hx, rfl, rfl, fr, ⟨_, _, _, _, _, _, _, _, _, _, _, _, _, _, _, _, ⟨h0, h1, h2, h3, h4, h5, h6, h7, h8, h9, h10, h11, h12, h13⟩, hI, hG⟩⟩)
    · have hk2 : K j = 2 := (nI_eq (by have := (hkf j hj).1; omega) (by decide)).mp h20
      refine a_aload_n S d_Mod_text_23 rfl rfl ?_
      refine a_get S kc_Mod 7 (by decide) lf_Mod_23 h0 rfl d_Mod_text_24 ?_
      refine a_iload_n S d_Mod_text_27 rfl rfl ?_
      refine a_zald S (i := j) h5 rfl (by omega) (by decide) d_Mod_text_28 ?_
      refine a_eqi hv0.2.2.1 ?_
      refine a_if_ne S (tgt := 45) d_Mod_text_29 rfl (fun hg_ => ?_) (fun hg_ => ?_)
      · have hz := hok.2.2.1 (bo_1 hg_)
        refine a_aload_n S d_Mod_text_45 rfl rfl ?_
        refine a_get S kc_Mod 7 (by decide) lf_Mod_23 h0 rfl d_Mod_text_46 ?_
        refine a_iload_n S d_Mod_text_49 rfl rfl ?_
        refine a_zald S (i := j) h5 rfl (by omega) (by decide) d_Mod_text_50 ?_
        refine a_eqi hv0.2.2.1 ?_
        refine a_if_eq S (tgt := 61) d_Mod_text_51 rfl (fun h51 => ?_) (fun h51 => ?_)
        · exact absurd h51 hg_
        · refine a_aload_n S d_Mod_text_54 rfl rfl ?_
          refine a_iload_n S d_Mod_text_55 rfl rfl ?_
          refine a_lconst S (v := 0) d_Mod_text_56 (by decide) ?_
          refine a_iconst S (v := 0) d_Mod_text_57 (by decide) ?_
          refine a_callV S (rest := []) lg_Mod_91 h0 (c_Mod_set X.2.1 D b 0 c s ki fl va fo go si te m ro kr.length ma sz en ms lw hw lo.length (if he then nI hi.length else -1) pt bd j 0 0 w1 n (by omega) ⟨h0, h1, h2, h3, h4, h5, h6, h7, h8, h9, h10, h11, h12, h13⟩) (by decide) (by omega) (by omega) rfl (Nat.le_of_ble_eq_true rfl) d_Mod_text_58 (fun v9 w10 n11 p12 => ?_)
          obtain ⟨rfl, e14, f13, h0, h1, h2, h3, h4, h5, h6, h7, h8, h9, h10, h11, h12, h13⟩ := p12
          rw [e14]
          refine a_st (st' := []) rfl ?_
          have fr := fr.trans (Fr.sub f13 (by omega) (by omega))
          refine a_aload_n S d_Mod_text_61 rfl rfl ?_
          refine a_get S kc_Mod 9 (by decide) lf_Mod_30 h0 rfl d_Mod_text_62 ?_
          refine a_bipush S (v := 10) d_Mod_text_65 (by decide) ?_
          refine a_iload_n S d_Mod_text_67 rfl rfl ?_
          refine a_imul S d_Mod_text_68 ?_
          refine a_eqi (y := nI (10 * j)) (ni_mul rfl rfl) ?_
          refine a_aload_n S d_Mod_text_69 rfl rfl ?_
          refine a_get S kc_Mod 8 (by decide) lf_Mod_27 h0 rfl d_Mod_text_70 ?_
          refine a_iload_n S d_Mod_text_73 rfl rfl ?_
          refine a_iald S (i := j) h6 rfl (by omega) (by decide) d_Mod_text_74 ?_
          refine a_eqi (y := 0) pk_us ?_
          refine a_iadd S d_Mod_text_75 ?_
          refine a_eqi (y := nI (10 * j + 0)) (ni_add rfl rfl) ?_
          refine a_iload_n S d_Mod_text_76 rfl rfl ?_
          refine a_sipush S (v := 255) d_Mod_text_77 (by decide) ?_
          refine a_iand S d_Mod_text_80 ?_
          refine a_eqi (y := nI (by8 x)) (by8_and x) ?_
          refine a_iast S (i := 10 * j + 0) h7 rfl (by omega) (by decide) d_Mod_text_81 (fun w15 h7 e16 => ?_)
          have fr := fr.trans (Fr.sub (Fr.of1 e16) (by omega) (by omega))
          have h0 := Fr.cell (Fr.of1 e16) h0 (by omega)
          have h1 := Fr.cell (Fr.of1 e16) h1 (by omega)
          have h2 := Fr.cell (Fr.of1 e16) h2 (by omega)
          have h3 := Fr.cell (Fr.of1 e16) h3 (by omega)
          have h4 := Fr.cell (Fr.of1 e16) h4 (by omega)
          have h5 := Fr.cell (Fr.of1 e16) h5 (by omega)
          have h6 := Fr.cell (Fr.of1 e16) h6 (by omega)
          have h8 := Fr.cell (Fr.of1 e16) h8 (by omega)
          have h9 := Fr.cell (Fr.of1 e16) h9 (by omega)
          have h10 := Fr.cell (Fr.of1 e16) h10 (by omega)
          have h11 := Fr.cell (Fr.of1 e16) h11 (by omega)
          have h12 := Fr.cell (Fr.of1 e16) h12 (by omega)
          have h13 := Fr.cell (Fr.of1 e16) h13 (by omega)
          refine a_aload_n S d_Mod_text_82 rfl rfl ?_
          refine a_get S kc_Mod 8 (by decide) lf_Mod_27 h0 rfl d_Mod_text_83 ?_
          refine a_iload_n S d_Mod_text_86 rfl rfl ?_
          refine a_dup2 S d_Mod_text_87 rfl rfl ?_
          refine a_iald S (i := j) h6 rfl (by omega) (by decide) d_Mod_text_88 ?_
          refine a_eqi (y := 0) pk_us ?_
          refine a_iconst S (v := 1) d_Mod_text_89 (by decide) ?_
          refine a_iadd S d_Mod_text_90 ?_
          refine a_eqi (y := 1) (by decide) ?_
          refine a_iast S (i := j) h6 rfl (by omega) (by decide) d_Mod_text_91 (fun w17 h6 e18 => ?_)
          have fr := fr.trans (Fr.sub (Fr.of1 e18) (by omega) (by omega))
          have h0 := Fr.cell (Fr.of1 e18) h0 (by omega)
          have h1 := Fr.cell (Fr.of1 e18) h1 (by omega)
          have h2 := Fr.cell (Fr.of1 e18) h2 (by omega)
          have h3 := Fr.cell (Fr.of1 e18) h3 (by omega)
          have h4 := Fr.cell (Fr.of1 e18) h4 (by omega)
          have h5 := Fr.cell (Fr.of1 e18) h5 (by omega)
          have h7 := Fr.cell (Fr.of1 e18) h7 (by omega)
          have h8 := Fr.cell (Fr.of1 e18) h8 (by omega)
          have h9 := Fr.cell (Fr.of1 e18) h9 (by omega)
          have h10 := Fr.cell (Fr.of1 e18) h10 (by omega)
          have h11 := Fr.cell (Fr.of1 e18) h11 (by omega)
          have h12 := Fr.cell (Fr.of1 e18) h12 (by omega)
          have h13 := Fr.cell (Fr.of1 e18) h13 (by omega)
          refine a_iconst S (v := 1) d_Mod_text_92 (by decide) ?_
          exact RT _ _ _ _ _ _ _ d_Mod_text_93 rfl (by omega) (by omega) (Or.inl ⟨j, hj, hs_j, rfl, hk2, (by rw [hz.2.2.2]; decide), rfl, rfl, fr, (by rw [hz.2.1, hz.2.2.1, hz.2.2.2]; exact ⟨_, _, _, _, _, _, _, _, _, _, _, _, _, _, _, _, ⟨h0, h1, h2, h3, h4, h5, h6, h7, h8, h9, h10, h11, h12, h13⟩, (hI.upL hj (VR.tx (v := (false, 0, 0, [])) VR.set rfl (by decide)) (fun p y e h => VR.tne (by decide) e (VR.ne e h))), (NG.upd hG _ _)⟩)⟩)
      · have hm : (L j).1 = false := bo_0 hg_
        refine a_aload_n S d_Mod_text_32 rfl rfl ?_
        refine a_get S kc_Mod 8 (by decide) lf_Mod_27 h0 rfl d_Mod_text_33 ?_
        refine a_iload_n S d_Mod_text_36 rfl rfl ?_
        refine a_iald S (i := j) h6 rfl (by omega) (by decide) d_Mod_text_37 ?_
        refine a_eqi hv0.2.2.2.1 ?_
        refine a_bipush S (v := 10) d_Mod_text_38 (by decide) ?_
        refine a_icmp_ne S (tgt := 45) d_Mod_text_40 rfl (fun h40 => ?_) (fun h40 => ?_)
        · have hl : (L j).2.2.2.length < 10 := Nat.lt_of_le_of_ne hok.1 fun z => h40 (by rw [z]; rfl)
          refine a_aload_n S d_Mod_text_45 rfl rfl ?_
          refine a_get S kc_Mod 7 (by decide) lf_Mod_23 h0 rfl d_Mod_text_46 ?_
          refine a_iload_n S d_Mod_text_49 rfl rfl ?_
          refine a_zald S (i := j) h5 rfl (by omega) (by decide) d_Mod_text_50 ?_
          refine a_eqi hv0.2.2.1 ?_
          refine a_if_eq S (tgt := 61) d_Mod_text_51 rfl (fun h51 => ?_) (fun h51 => ?_)
          · refine a_aload_n S d_Mod_text_61 rfl rfl ?_
            refine a_get S kc_Mod 9 (by decide) lf_Mod_30 h0 rfl d_Mod_text_62 ?_
            refine a_bipush S (v := 10) d_Mod_text_65 (by decide) ?_
            refine a_iload_n S d_Mod_text_67 rfl rfl ?_
            refine a_imul S d_Mod_text_68 ?_
            refine a_eqi (y := nI (10 * j)) (ni_mul rfl rfl) ?_
            refine a_aload_n S d_Mod_text_69 rfl rfl ?_
            refine a_get S kc_Mod 8 (by decide) lf_Mod_27 h0 rfl d_Mod_text_70 ?_
            refine a_iload_n S d_Mod_text_73 rfl rfl ?_
            refine a_iald S (i := j) h6 rfl (by omega) (by decide) d_Mod_text_74 ?_
            refine a_eqi (y := nI ((L j).2.2.2.length)) hv0.2.2.2.1 ?_
            refine a_iadd S d_Mod_text_75 ?_
            refine a_eqi (y := nI (10 * j + (L j).2.2.2.length)) (ni_add rfl rfl) ?_
            refine a_iload_n S d_Mod_text_76 rfl rfl ?_
            refine a_sipush S (v := 255) d_Mod_text_77 (by decide) ?_
            refine a_iand S d_Mod_text_80 ?_
            refine a_eqi (y := nI (by8 x)) (by8_and x) ?_
            refine a_iast S (i := 10 * j + (L j).2.2.2.length) h7 rfl (by omega) (by decide) d_Mod_text_81 (fun w19 h7 e20 => ?_)
            have fr := fr.trans (Fr.sub (Fr.of1 e20) (by omega) (by omega))
            have h0 := Fr.cell (Fr.of1 e20) h0 (by omega)
            have h1 := Fr.cell (Fr.of1 e20) h1 (by omega)
            have h2 := Fr.cell (Fr.of1 e20) h2 (by omega)
            have h3 := Fr.cell (Fr.of1 e20) h3 (by omega)
            have h4 := Fr.cell (Fr.of1 e20) h4 (by omega)
            have h5 := Fr.cell (Fr.of1 e20) h5 (by omega)
            have h6 := Fr.cell (Fr.of1 e20) h6 (by omega)
            have h8 := Fr.cell (Fr.of1 e20) h8 (by omega)
            have h9 := Fr.cell (Fr.of1 e20) h9 (by omega)
            have h10 := Fr.cell (Fr.of1 e20) h10 (by omega)
            have h11 := Fr.cell (Fr.of1 e20) h11 (by omega)
            have h12 := Fr.cell (Fr.of1 e20) h12 (by omega)
            have h13 := Fr.cell (Fr.of1 e20) h13 (by omega)
            refine a_aload_n S d_Mod_text_82 rfl rfl ?_
            refine a_get S kc_Mod 8 (by decide) lf_Mod_27 h0 rfl d_Mod_text_83 ?_
            refine a_iload_n S d_Mod_text_86 rfl rfl ?_
            refine a_dup2 S d_Mod_text_87 rfl rfl ?_
            refine a_iald S (i := j) h6 rfl (by omega) (by decide) d_Mod_text_88 ?_
            refine a_eqi (y := nI ((L j).2.2.2.length)) hv0.2.2.2.1 ?_
            refine a_iconst S (v := 1) d_Mod_text_89 (by decide) ?_
            refine a_iadd S d_Mod_text_90 ?_
            refine a_eqi (y := nI ((L j).2.2.2.length + 1)) (ni_add rfl rfl) ?_
            refine a_iast S (i := j) h6 rfl (by omega) (by decide) d_Mod_text_91 (fun w21 h6 e22 => ?_)
            have fr := fr.trans (Fr.sub (Fr.of1 e22) (by omega) (by omega))
            have h0 := Fr.cell (Fr.of1 e22) h0 (by omega)
            have h1 := Fr.cell (Fr.of1 e22) h1 (by omega)
            have h2 := Fr.cell (Fr.of1 e22) h2 (by omega)
            have h3 := Fr.cell (Fr.of1 e22) h3 (by omega)
            have h4 := Fr.cell (Fr.of1 e22) h4 (by omega)
            have h5 := Fr.cell (Fr.of1 e22) h5 (by omega)
            have h7 := Fr.cell (Fr.of1 e22) h7 (by omega)
            have h8 := Fr.cell (Fr.of1 e22) h8 (by omega)
            have h9 := Fr.cell (Fr.of1 e22) h9 (by omega)
            have h10 := Fr.cell (Fr.of1 e22) h10 (by omega)
            have h11 := Fr.cell (Fr.of1 e22) h11 (by omega)
            have h12 := Fr.cell (Fr.of1 e22) h12 (by omega)
            have h13 := Fr.cell (Fr.of1 e22) h13 (by omega)
            refine a_iconst S (v := 1) d_Mod_text_92 (by decide) ?_
            exact RT _ _ _ _ _ _ _ d_Mod_text_93 rfl (by omega) (by omega) (Or.inl ⟨j, hj, hs_j, rfl, hk2, hl, rfl, rfl, fr, ⟨_, _, _, _, _, _, _, _, _, _, _, _, _, _, _, _, ⟨h0, h1, h2, h3, h4, h5, h6, h7, h8, h9, h10, h11, h12, h13⟩, (hI.upL hj (VR.tx hv0 hm hl) (fun p y e h => VR.tne hl e h)), hG⟩⟩)
          · exact absurd hg_ h51
        · have hx : ∀ j2, j2 < c → s = true → nI j = nI j2 → K j2 = 2 → (L j2).2.2.2.length < 10 → False := fun j2 hj2 _ e q1 q2 => by
            have e2 := (nI_eq (by omega) (by omega)).mp e
            subst e2
            exact absurd ((nI_eq (by have := hok.1; omega) (by decide)).mp h40) (by show ¬ _ = 10; omega)
          refine a_iconst S (v := 0) d_Mod_text_43 (by decide) ?_
          exact RT _ _ _ _ _ _ _ d_Mod_text_44 rfl (by omega) (by omega) (Or.inr ⟨hx, rfl, rfl, fr, ⟨_, _, _, _, _, _, _, _, _, _, _, _, _, _, _, _, ⟨h0, h1, h2, h3, h4, h5, h6, h7, h8, h9, h10, h11, h12, h13⟩, hI, hG⟩⟩)
set_option maxHeartbeats 400000 in
set_option maxRecDepth 100000 in
theorem c_Mod_get (l : Launch) (D : kD) (b : Nat) (th : Int32) (c : Nat) (s : Bool) (K F : Nat → Nat) (L : Nat → kV) (kr : List Nat) (m : Nat) (KT : Nat → Nat → kV) (lo hi : List Nat) (he : Bool) (i x : Int32) (w : ww) (n : Nat) (hV : VI c s K F L m KT) (h : Mdl D w b th c s K F L kr m KT lo hi he) : AM l D M_Mod_get 1 0 0 [.ref b, .int i, .int x] w n (fun v w' n' => ((∃ j, j < c ∧ s = true ∧ i = nI j ∧ ¬ x < 0 ∧ v = some (.long (gtV (K j) (L j) x))) ∨ ((∀ j, j < c → s = true → i = nI j → ¬ x < 0 → False) ∧ v = some (.long (-1)))) ∧ n' = n ∧ Fr w w' b 14 ∧ Mdl D w' b 0 c s K F L kr m KT lo hi he) := by
  refine AM.ofl (by decide +kernel) rfl (Nat.le_of_ble_eq_true rfl) (fun X A Q hin S RT => ?_)
  have S : FX X (D, A, 3, Q) prog_9_method_16_code "KeyCodecModel" 1 0 0 := S
  have RT : RTl X (D, A, 3, Q) prog_9_method_16_code 0 0 _ := RT
  obtain ⟨ki, fl, va, fo, go, si, te, ro, ma, sz, en, ms, lw, hw, pt, bd, h, hI, hG⟩ := h
  obtain ⟨h0, h1, h2, h3, h4, h5, h6, h7, h8, h9, h10, h11, h12, h13⟩ := h
  have hc5 := hI.1
  have hm12 := hI.2.1
  have hkr := hI.2.2.1
  have hlo := hI.2.2.2.1
  have hhi := hI.2.2.2.2.1
  have hkf := hI.2.2.2.2.2.1
  refine a_lve (lv' := [(0, .ref b), (1, .int i), (2, .int x)]) rfl ?_
  have fr : Fr w w b 14 := Fr.refl _ _ _
  refine a_aload_n S d_Mod_get_0 rfl rfl ?_
  refine a_iconst S (v := 0) d_Mod_get_1 (by decide) ?_
  refine a_put S kc_Mod kt_Mod 0 (by decide) lf_Mod_55 rfl h0 rfl rfl (Nat.le_of_ble_eq_true rfl) d_Mod_get_2 (fun w1 h0 e2 => ?_)
  have h0 : w1 b = some (.inr (6, [.int 0, .int (nI c), .int (if s then 1 else 0), .ref (b + 1), .ref (b + 2), .ref (b + 3), .ref (b + 4), .ref (b + 5), .ref (b + 6), .ref (b + 7), .int (nI m), .ref (b + 8), .int (nI kr.length), .ref (b + 9), .int (nI sz), .ref (b + 10), .ref (b + 11), .ref (b + 12), .ref (b + 13), .int (nI lo.length), .int (if he then nI hi.length else -1), .int (nI pt), .int (if bd then 1 else 0)])) := h0
  have fr := fr.trans (Fr.sub (Fr.of1 e2) (by omega) (by omega))
  have h1 := Fr.cell (Fr.of1 e2) h1 (by omega)
  have h2 := Fr.cell (Fr.of1 e2) h2 (by omega)
  have h3 := Fr.cell (Fr.of1 e2) h3 (by omega)
  have h4 := Fr.cell (Fr.of1 e2) h4 (by omega)
  have h5 := Fr.cell (Fr.of1 e2) h5 (by omega)
  have h6 := Fr.cell (Fr.of1 e2) h6 (by omega)
  have h7 := Fr.cell (Fr.of1 e2) h7 (by omega)
  have h8 := Fr.cell (Fr.of1 e2) h8 (by omega)
  have h9 := Fr.cell (Fr.of1 e2) h9 (by omega)
  have h10 := Fr.cell (Fr.of1 e2) h10 (by omega)
  have h11 := Fr.cell (Fr.of1 e2) h11 (by omega)
  have h12 := Fr.cell (Fr.of1 e2) h12 (by omega)
  have h13 := Fr.cell (Fr.of1 e2) h13 (by omega)
  refine a_aload_n S d_Mod_get_5 rfl rfl ?_
  refine a_iload_n S d_Mod_get_6 rfl rfl ?_
  refine a_callV S (rest := []) lg_Mod_83 h0 (c_Mod_isField X.2.1 D b 0 c s ki fl va fo go si te m ro kr.length ma sz en ms lw hw lo.length (if he then nI hi.length else -1) pt bd i w1 n  ⟨h0, h1, h2, h3, h4, h5, h6, h7, h8, h9, h10, h11, h12, h13⟩) (by decide) (by omega) (by omega) rfl (Nat.le_of_ble_eq_true rfl) d_Mod_get_7 (fun v3 w4 n5 p6 => ?_)
  obtain ⟨rfl, e7, e8⟩ := p6
  rw [e7, e8]
  refine a_st (st' := [.int (if usB s c i then 1 else 0)]) rfl ?_
  refine a_if_eq S (tgt := 17) d_Mod_get_10 rfl (fun hu_ => ?_) (fun hu_ => ?_)
  · have hx : ∀ j, j < c → s = true → i = nI j → ¬ x < 0 → False := fun j hj hs_ e _ => usB_no (by omega) (bo_0 hu_) hj hs_ e
    refine a_ldc2 S (v := (-1)) lK_Mod_98 d_Mod_get_17 ?_
    exact RT _ _ _ _ _ _ _ d_Mod_get_20 (by omega) (by omega) ⟨Or.inr ⟨hx, rfl⟩, rfl, fr, ⟨_, _, _, _, _, _, _, _, _, _, _, _, _, _, _, _, ⟨h0, h1, h2, h3, h4, h5, h6, h7, h8, h9, h10, h11, h12, h13⟩, hI, hG⟩⟩
  · obtain ⟨hs_j, j, hj, rfl⟩ := usB_ix (by omega) (bo_1 hu_)
    have hv0 := hI.v0 hs_j hj
    have hok := hV.1 hs_j j hj
    refine a_iload_n S d_Mod_get_13 rfl rfl ?_
    refine a_if_ge S (tgt := 21) d_Mod_get_14 rfl (fun h14 => ?_) (fun h14 => ?_)
    · have hx0 : ¬ x < 0 := k2_nlt h14
      refine a_iload_n S d_Mod_get_21 rfl rfl ?_
      refine a_if_ne S (tgt := 40) d_Mod_get_22 rfl (fun h22 => ?_) (fun h22 => ?_)
      · refine a_iload_n S d_Mod_get_40 rfl rfl ?_
        refine a_iconst S (v := 2) d_Mod_get_41 (by decide) ?_
        refine a_icmp_le S (tgt := 88) d_Mod_get_42 rfl (fun h42 => ?_) (fun h42 => ?_)
        · refine a_iload_n S d_Mod_get_88 rfl rfl ?_
          refine a_iconst S (v := 1) d_Mod_get_89 (by decide) ?_
          refine a_icmp_ne S (tgt := 122) d_Mod_get_90 rfl (fun h90 => ?_) (fun h90 => ?_)
          · have hx2 : x = 2 := (x12 hx0 h22 h42).resolve_left h90
            subst hx2
            refine a_aload_n S d_Mod_get_122 rfl rfl ?_
            refine a_get S kc_Mod 6 (by decide) lf_Mod_20 h0 rfl d_Mod_get_123 ?_
            refine a_iload_n S d_Mod_get_126 rfl rfl ?_
            refine a_iald S (i := j) h4 rfl (by omega) (by decide) d_Mod_get_127 ?_
            refine a_eqi hv0.2.1 ?_
            refine a_i2l S d_Mod_get_128 ?_
            exact RT _ _ _ _ _ _ _ d_Mod_get_129 (by omega) (by omega) ⟨Or.inl ⟨j, hj, hs_j, rfl, hx0, (by rw [gt_2])⟩, rfl, fr, ⟨_, _, _, _, _, _, _, _, _, _, _, _, _, _, _, _, ⟨h0, h1, h2, h3, h4, h5, h6, h7, h8, h9, h10, h11, h12, h13⟩, hI, hG⟩⟩
          · subst h90
            refine a_aload_n S d_Mod_get_93 rfl rfl ?_
            refine a_get S kc_Mod 3 (by decide) lf_Mod_7 h0 rfl d_Mod_get_94 ?_
            refine a_iload_n S d_Mod_get_97 rfl rfl ?_
            refine a_iald S (i := j) h1 rfl (by omega) (by decide) d_Mod_get_98 ?_
            refine a_eqi (hkf j hj).2.2.1 ?_
            refine a_iconst S (v := 2) d_Mod_get_99 (by decide) ?_
            refine a_icmp_ne S (tgt := 113) d_Mod_get_100 rfl (fun h100 => ?_) (fun h100 => ?_)
            · have hk2 : ¬ K j = 2 := fun z => h100 (by rw [z]; rfl)
              refine a_aload_n S d_Mod_get_113 rfl rfl ?_
              refine a_get S kc_Mod 5 (by decide) lf_Mod_16 h0 rfl d_Mod_get_114 ?_
              refine a_iload_n S d_Mod_get_117 rfl rfl ?_
              refine a_lald S (i := j) h3 rfl (by omega) (by decide) d_Mod_get_118 ?_
              refine a_eql hv0.1 ?_
              refine a_goto S (tgt := 129) d_Mod_get_119 rfl ?_
              exact RT _ _ _ _ _ _ _ d_Mod_get_129 (by omega) (by omega) ⟨Or.inl ⟨j, hj, hs_j, rfl, hx0, (by rw [gt_1, if_neg hk2])⟩, rfl, fr, ⟨_, _, _, _, _, _, _, _, _, _, _, _, _, _, _, _, ⟨h0, h1, h2, h3, h4, h5, h6, h7, h8, h9, h10, h11, h12, h13⟩, hI, hG⟩⟩
            · have hk2 : K j = 2 := (nI_eq (by have := (hkf j hj).1; omega) (by decide)).mp h100
              refine a_aload_n S d_Mod_get_103 rfl rfl ?_
              refine a_get S kc_Mod 8 (by decide) lf_Mod_27 h0 rfl d_Mod_get_104 ?_
              refine a_iload_n S d_Mod_get_107 rfl rfl ?_
              refine a_iald S (i := j) h6 rfl (by omega) (by decide) d_Mod_get_108 ?_
              refine a_eqi hv0.2.2.2.1 ?_
              refine a_i2l S d_Mod_get_109 ?_
              refine a_goto S (tgt := 129) d_Mod_get_110 rfl ?_
              exact RT _ _ _ _ _ _ _ d_Mod_get_129 (by omega) (by omega) ⟨Or.inl ⟨j, hj, hs_j, rfl, hx0, (by rw [gt_1, if_pos hk2])⟩, rfl, fr, ⟨_, _, _, _, _, _, _, _, _, _, _, _, _, _, _, _, ⟨h0, h1, h2, h3, h4, h5, h6, h7, h8, h9, h10, h11, h12, h13⟩, hI, hG⟩⟩
        · refine a_aload_n S d_Mod_get_45 rfl rfl ?_
          refine a_get S kc_Mod 3 (by decide) lf_Mod_7 h0 rfl d_Mod_get_46 ?_
          refine a_iload_n S d_Mod_get_49 rfl rfl ?_
          refine a_iald S (i := j) h1 rfl (by omega) (by decide) d_Mod_get_50 ?_
          refine a_eqi (hkf j hj).2.2.1 ?_
          refine a_iconst S (v := 2) d_Mod_get_51 (by decide) ?_
          refine a_icmp_ne S (tgt := 84) d_Mod_get_52 rfl (fun h52 => ?_) (fun h52 => ?_)
          · have hk2 : ¬ K j = 2 := fun z => h52 (by rw [z]; rfl)
            refine a_ldc2 S (v := (-1)) lK_Mod_98 d_Mod_get_84 ?_
            exact RT _ _ _ _ _ _ _ d_Mod_get_87 (by omega) (by omega) ⟨Or.inl ⟨j, hj, hs_j, rfl, hx0, (by rw [gtV_3 (Int32.not_le.mp h42), hok.2.2.2.2 hk2, atB_nil]; rfl)⟩, rfl, fr, ⟨_, _, _, _, _, _, _, _, _, _, _, _, _, _, _, _, ⟨h0, h1, h2, h3, h4, h5, h6, h7, h8, h9, h10, h11, h12, h13⟩, hI, hG⟩⟩
          · have hk2 : K j = 2 := (nI_eq (by have := (hkf j hj).1; omega) (by decide)).mp h52
            refine a_iload_n S d_Mod_get_55 rfl rfl ?_
            refine a_iconst S (v := 3) d_Mod_get_56 (by decide) ?_
            refine a_isub S d_Mod_get_57 ?_
            refine a_aload_n S d_Mod_get_58 rfl rfl ?_
            refine a_get S kc_Mod 8 (by decide) lf_Mod_27 h0 rfl d_Mod_get_59 ?_
            refine a_iload_n S d_Mod_get_62 rfl rfl ?_
            refine a_iald S (i := j) h6 rfl (by omega) (by decide) d_Mod_get_63 ?_
            refine a_eqi hv0.2.2.2.1 ?_
            refine a_icmp_ge S (tgt := 84) d_Mod_get_64 rfl (fun h64 => ?_) (fun h64 => ?_)
            · refine a_ldc2 S (v := (-1)) lK_Mod_98 d_Mod_get_84 ?_
              exact RT _ _ _ _ _ _ _ d_Mod_get_87 (by omega) (by omega) ⟨Or.inl ⟨j, hj, hs_j, rfl, hx0, (by rw [gtV_3 (Int32.not_le.mp h42), atB_big h64]; rfl)⟩, rfl, fr, ⟨_, _, _, _, _, _, _, _, _, _, _, _, _, _, _, _, ⟨h0, h1, h2, h3, h4, h5, h6, h7, h8, h9, h10, h11, h12, h13⟩, hI, hG⟩⟩
            · obtain ⟨q, hq, rfl⟩ := x3 (Int32.not_le.mp h42) hok.1 h64
              refine a_aload_n S d_Mod_get_67 rfl rfl ?_
              refine a_get S kc_Mod 9 (by decide) lf_Mod_30 h0 rfl d_Mod_get_68 ?_
              refine a_bipush S (v := 10) d_Mod_get_71 (by decide) ?_
              refine a_iload_n S d_Mod_get_73 rfl rfl ?_
              refine a_imul S d_Mod_get_74 ?_
              refine a_eqi (y := nI (10 * j)) (ni_mul rfl rfl) ?_
              refine a_iload_n S d_Mod_get_75 rfl rfl ?_
              refine a_iadd S d_Mod_get_76 ?_
              refine a_eqi (y := nI (10 * j + (q + 3))) (ni_add rfl rfl) ?_
              refine a_iconst S (v := 3) d_Mod_get_77 (by decide) ?_
              refine a_isub S d_Mod_get_78 ?_
              refine a_eqi (y := nI (10 * j + (q + 3) - 3)) (ni_sub rfl rfl (by omega)) ?_
              refine a_iald S (i := 10 * j + q) h7 (congrArg nI (by omega)) (by have := hok.1; omega) (by decide) d_Mod_get_79 ?_
              refine a_eqi (hv0.2.2.2.2.2.2 q hq) ?_
              refine a_i2l S d_Mod_get_80 ?_
              refine a_goto S (tgt := 87) d_Mod_get_81 rfl ?_
              exact RT _ _ _ _ _ _ _ d_Mod_get_87 (by omega) (by omega) ⟨Or.inl ⟨j, hj, hs_j, rfl, hx0, (by rw [gtV_3 (Int32.not_le.mp h42), x3b rfl hq hok.1])⟩, rfl, fr, ⟨_, _, _, _, _, _, _, _, _, _, _, _, _, _, _, _, ⟨h0, h1, h2, h3, h4, h5, h6, h7, h8, h9, h10, h11, h12, h13⟩, hI, hG⟩⟩
      · subst h22
        refine a_aload_n S d_Mod_get_25 rfl rfl ?_
        refine a_get S kc_Mod 7 (by decide) lf_Mod_23 h0 rfl d_Mod_get_26 ?_
        refine a_iload_n S d_Mod_get_29 rfl rfl ?_
        refine a_zald S (i := j) h5 rfl (by omega) (by decide) d_Mod_get_30 ?_
        refine a_eqi hv0.2.2.1 ?_
        refine a_if_eq S (tgt := 38) d_Mod_get_31 rfl (fun h31 => ?_) (fun h31 => ?_)
        · have hb : (L j).1 = false := bo_0 h31
          refine a_lconst S (v := 0) d_Mod_get_38 (by decide) ?_
          exact RT _ _ _ _ _ _ _ d_Mod_get_39 (by omega) (by omega) ⟨Or.inl ⟨j, hj, hs_j, rfl, hx0, (by rw [gt_0, hb]; rfl)⟩, rfl, fr, ⟨_, _, _, _, _, _, _, _, _, _, _, _, _, _, _, _, ⟨h0, h1, h2, h3, h4, h5, h6, h7, h8, h9, h10, h11, h12, h13⟩, hI, hG⟩⟩
        · have hb : (L j).1 = true := bo_1 h31
          refine a_lconst S (v := 1) d_Mod_get_34 (by decide) ?_
          refine a_goto S (tgt := 39) d_Mod_get_35 rfl ?_
          exact RT _ _ _ _ _ _ _ d_Mod_get_39 (by omega) (by omega) ⟨Or.inl ⟨j, hj, hs_j, rfl, hx0, (by rw [gt_0, hb]; rfl)⟩, rfl, fr, ⟨_, _, _, _, _, _, _, _, _, _, _, _, _, _, _, _, ⟨h0, h1, h2, h3, h4, h5, h6, h7, h8, h9, h10, h11, h12, h13⟩, hI, hG⟩⟩
    · have hx : ∀ j2, j2 < c → s = true → nI j = nI j2 → ¬ x < 0 → False := fun j2 hj2 _ e q => q (k2_lt h14)
      refine a_ldc2 S (v := (-1)) lK_Mod_98 d_Mod_get_17 ?_
      exact RT _ _ _ _ _ _ _ d_Mod_get_20 (by omega) (by omega) ⟨Or.inr ⟨hx, rfl⟩, rfl, fr, ⟨_, _, _, _, _, _, _, _, _, _, _, _, _, _, _, _, ⟨h0, h1, h2, h3, h4, h5, h6, h7, h8, h9, h10, h11, h12, h13⟩, hI, hG⟩⟩
set_option maxHeartbeats 400000 in
set_option maxRecDepth 100000 in
theorem c_Mod_encode (l : Launch) (D : kD) (b : Nat) (th : Int32) (c : Nat) (s : Bool) (K F : Nat → Nat) (L : Nat → kV) (kr : List Nat) (m : Nat) (KT : Nat → Nat → kV) (lo hi : List Nat) (he : Bool)  (w : ww) (n : Nat) (hV : VI c s K F L m KT) (h : Mdl D w b th c s K F L kr m KT lo hi he) : AM l D M_Mod_encode 4 0 0 [.ref b] w n (fun v w' n' => (s = true ∧ v = some (.int (nI (keyB K F L c).length)) ∧ n' = n ∧ Fr w w' b 14 ∧ Mdl D w' b 0 c s K F L (keyB K F L c) m KT lo hi he) ∨ (s = false ∧ v = some (.int 0) ∧ n' = n ∧ Fr w w' b 14 ∧ Mdl D w' b 1 c s K F L kr m KT lo hi he)) := by
  refine AM.ofi (by decide +kernel) rfl (Nat.le_of_ble_eq_true rfl) (fun X A Q hin S RT => ?_)
  have S : FX X (D, A, 2, Q) prog_9_method_25_code "KeyCodecModel" 4 0 0 := S
  have RT : RTi X (D, A, 2, Q) prog_9_method_25_code 0 0 _ := RT
  obtain ⟨ki, fl, va, fo, go, si, te, ro, ma, sz, en, ms, lw, hw, pt, bd, h, hI, hG⟩ := h
  obtain ⟨h0, h1, h2, h3, h4, h5, h6, h7, h8, h9, h10, h11, h12, h13⟩ := h
  have hc5 := hI.1
  have hm12 := hI.2.1
  have hkr := hI.2.2.1
  have hlo := hI.2.2.2.1
  have hhi := hI.2.2.2.2.1
  have hkf := hI.2.2.2.2.2.1
  refine a_lve (lv' := [(0, .ref b)]) rfl ?_
  have fr : Fr w w b 14 := Fr.refl _ _ _
  refine a_aload_n S d_Mod_encode_0 rfl rfl ?_
  refine a_aload_n S d_Mod_encode_1 rfl rfl ?_
  refine a_get S kc_Mod 2 (by decide) lf_Mod_58 h0 rfl d_Mod_encode_2 ?_
  refine a_if_eq S (tgt := 12) d_Mod_encode_5 rfl (fun hs_ => ?_) (fun hs_ => ?_)
  · have hs0 : s = false := bo_0 hs_
    refine a_iconst S (v := 1) d_Mod_encode_12 (by decide) ?_
    refine a_put S kc_Mod kt_Mod 0 (by decide) lf_Mod_55 rfl h0 rfl rfl (Nat.le_of_ble_eq_true rfl) d_Mod_encode_13 (fun w1 h0 e2 => ?_)
    have h0 : w1 b = some (.inr (6, [.int 1, .int (nI c), .int (if s then 1 else 0), .ref (b + 1), .ref (b + 2), .ref (b + 3), .ref (b + 4), .ref (b + 5), .ref (b + 6), .ref (b + 7), .int (nI m), .ref (b + 8), .int (nI kr.length), .ref (b + 9), .int (nI sz), .ref (b + 10), .ref (b + 11), .ref (b + 12), .ref (b + 13), .int (nI lo.length), .int (if he then nI hi.length else -1), .int (nI pt), .int (if bd then 1 else 0)])) := h0
    have fr := fr.trans (Fr.sub (Fr.of1 e2) (by omega) (by omega))
    have h1 := Fr.cell (Fr.of1 e2) h1 (by omega)
    have h2 := Fr.cell (Fr.of1 e2) h2 (by omega)
    have h3 := Fr.cell (Fr.of1 e2) h3 (by omega)
    have h4 := Fr.cell (Fr.of1 e2) h4 (by omega)
    have h5 := Fr.cell (Fr.of1 e2) h5 (by omega)
    have h6 := Fr.cell (Fr.of1 e2) h6 (by omega)
    have h7 := Fr.cell (Fr.of1 e2) h7 (by omega)
    have h8 := Fr.cell (Fr.of1 e2) h8 (by omega)
    have h9 := Fr.cell (Fr.of1 e2) h9 (by omega)
    have h10 := Fr.cell (Fr.of1 e2) h10 (by omega)
    have h11 := Fr.cell (Fr.of1 e2) h11 (by omega)
    have h12 := Fr.cell (Fr.of1 e2) h12 (by omega)
    have h13 := Fr.cell (Fr.of1 e2) h13 (by omega)
    refine a_aload_n S d_Mod_encode_16 rfl rfl ?_
    refine a_get S kc_Mod 0 (by decide) lf_Mod_55 h0 rfl d_Mod_encode_17 ?_
    refine a_if_eq S (tgt := 25) d_Mod_encode_20 rfl (fun h20 => ?_) (fun h20 => ?_)
    · exact absurd h20 (by decide)
    · refine a_iconst S (v := 0) d_Mod_encode_23 (by decide) ?_
      exact RT _ _ _ _ _ _ _ d_Mod_encode_24 (by omega) (by omega) (Or.inr ⟨hs0, rfl, rfl, fr, ⟨_, _, _, _, _, _, _, _, _, _, _, _, _, _, _, _, ⟨h0, h1, h2, h3, h4, h5, h6, h7, h8, h9, h10, h11, h12, h13⟩, hI, hG⟩⟩)
  · have hs0 : s = true := bo_1 hs_
    have hok := hV.1 hs0
    have hkl := keyB_l hok hc5
    refine a_iconst S (v := 0) d_Mod_encode_8 (by decide) ?_
    refine a_goto S (tgt := 13) d_Mod_encode_9 rfl ?_
    refine a_put S kc_Mod kt_Mod 0 (by decide) lf_Mod_55 rfl h0 rfl rfl (Nat.le_of_ble_eq_true rfl) d_Mod_encode_13 (fun w3 h0 e4 => ?_)
    have h0 : w3 b = some (.inr (6, [.int 0, .int (nI c), .int (if s then 1 else 0), .ref (b + 1), .ref (b + 2), .ref (b + 3), .ref (b + 4), .ref (b + 5), .ref (b + 6), .ref (b + 7), .int (nI m), .ref (b + 8), .int (nI kr.length), .ref (b + 9), .int (nI sz), .ref (b + 10), .ref (b + 11), .ref (b + 12), .ref (b + 13), .int (nI lo.length), .int (if he then nI hi.length else -1), .int (nI pt), .int (if bd then 1 else 0)])) := h0
    have fr := fr.trans (Fr.sub (Fr.of1 e4) (by omega) (by omega))
    have h1 := Fr.cell (Fr.of1 e4) h1 (by omega)
    have h2 := Fr.cell (Fr.of1 e4) h2 (by omega)
    have h3 := Fr.cell (Fr.of1 e4) h3 (by omega)
    have h4 := Fr.cell (Fr.of1 e4) h4 (by omega)
    have h5 := Fr.cell (Fr.of1 e4) h5 (by omega)
    have h6 := Fr.cell (Fr.of1 e4) h6 (by omega)
    have h7 := Fr.cell (Fr.of1 e4) h7 (by omega)
    have h8 := Fr.cell (Fr.of1 e4) h8 (by omega)
    have h9 := Fr.cell (Fr.of1 e4) h9 (by omega)
    have h10 := Fr.cell (Fr.of1 e4) h10 (by omega)
    have h11 := Fr.cell (Fr.of1 e4) h11 (by omega)
    have h12 := Fr.cell (Fr.of1 e4) h12 (by omega)
    have h13 := Fr.cell (Fr.of1 e4) h13 (by omega)
    refine a_aload_n S d_Mod_encode_16 rfl rfl ?_
    refine a_get S kc_Mod 0 (by decide) lf_Mod_55 h0 rfl d_Mod_encode_17 ?_
    refine a_if_eq S (tgt := 25) d_Mod_encode_20 rfl (fun h20 => ?_) (fun h20 => ?_)
    · refine a_aload_n S d_Mod_encode_25 rfl rfl ?_
      refine a_iconst S (v := 0) d_Mod_encode_26 (by decide) ?_
      refine a_iconst S (v := 0) d_Mod_encode_27 (by decide) ?_
      refine a_callV S (rest := []) lg_Mod_136 h0 (c_Mod_make X.2.1 D b 0 c s ki fl va fo go si te m ro kr.length ma sz en ms lw hw lo.length (if he then nI hi.length else -1) pt bd 0 0 K F L w3 n (by decide) (by omega) hc5 hkf (hI.v00 hs0) hok ⟨h0, h1, h2, h3, h4, h5, h6, h7, h8, h9, h10, h11, h12, h13⟩) (by decide) (by omega) (by omega) rfl (Nat.le_of_ble_eq_true rfl) d_Mod_encode_28 (fun v5 w6 n7 p8 => ?_)
      obtain ⟨en_11, rfl, e10, f9, ⟨h0, h1, h2, h3, h4, h5, h6, h7, h8, h9, h10, h11, h12, h13⟩, hE12⟩ := p8
      rw [e10]
      refine a_st (st' := []) rfl ?_
      have fr := fr.trans (Fr.sub f9 (by omega) (by omega))
      refine a_aload_n S d_Mod_encode_31 rfl rfl ?_
      refine a_aload_n S d_Mod_encode_32 rfl rfl ?_
      refine a_get S kc_Mod 16 (by decide) lf_Mod_42 h0 rfl d_Mod_encode_33 ?_
      refine a_iconst S (v := 0) d_Mod_encode_36 (by decide) ?_
      refine a_iald S (i := 0) h11 rfl (by omega) (by decide) d_Mod_encode_37 ?_
      refine a_eqi pk_us ?_
      refine a_put S kc_Mod kt_Mod 12 (by decide) lf_Mod_72 rfl h0 rfl rfl (Nat.le_of_ble_eq_true rfl) d_Mod_encode_38 (fun w13 h0 e14 => ?_)
      have h0 : w13 b = some (.inr (6, [.int 0, .int (nI c), .int (if s then 1 else 0), .ref (b + 1), .ref (b + 2), .ref (b + 3), .ref (b + 4), .ref (b + 5), .ref (b + 6), .ref (b + 7), .int (nI m), .ref (b + 8), .int (nI ((keyB K F L c).length)), .ref (b + 9), .int (nI ((keyB K F L c).length)), .ref (b + 10), .ref (b + 11), .ref (b + 12), .ref (b + 13), .int (nI lo.length), .int (if he then nI hi.length else -1), .int (nI pt), .int (if bd then 1 else 0)])) := h0
      have fr := fr.trans (Fr.sub (Fr.of1 e14) (by omega) (by omega))
      have h1 := Fr.cell (Fr.of1 e14) h1 (by omega)
      have h2 := Fr.cell (Fr.of1 e14) h2 (by omega)
      have h3 := Fr.cell (Fr.of1 e14) h3 (by omega)
      have h4 := Fr.cell (Fr.of1 e14) h4 (by omega)
      have h5 := Fr.cell (Fr.of1 e14) h5 (by omega)
      have h6 := Fr.cell (Fr.of1 e14) h6 (by omega)
      have h7 := Fr.cell (Fr.of1 e14) h7 (by omega)
      have h8 := Fr.cell (Fr.of1 e14) h8 (by omega)
      have h9 := Fr.cell (Fr.of1 e14) h9 (by omega)
      have h10 := Fr.cell (Fr.of1 e14) h10 (by omega)
      have h11 := Fr.cell (Fr.of1 e14) h11 (by omega)
      have h12 := Fr.cell (Fr.of1 e14) h12 (by omega)
      have h13 := Fr.cell (Fr.of1 e14) h13 (by omega)
      refine a_iconst S (v := 0) d_Mod_encode_41 (by decide) ?_
      refine a_istore_n S d_Mod_encode_42 rfl (Nat.le_of_ble_eq_true rfl) (lv' := [(0, .ref b), (1, .int 0)]) rfl ?_
      have loop43 : ∀ (kk43 : Nat) (i : Nat) (w1 : ww) (ro1 : Nat → Int32), (keyB K F L c).length - i = kk43 → (i ≤ (keyB K F L c).length) → (Fr w w1 b 14) → (Mo D w1 b 0 c s ki fl va fo go si te m ro1 ((keyB K F L c).length) (wrL ma (200 * 0) (keyB K F L c)) ((keyB K F L c).length) en_11 (upd ms 0 (nI (keyB K F L c).length)) lw hw lo.length (if he then nI hi.length else -1) pt bd) → (∀ j, j < i → ro1 j = nI ((keyB K F L c).getD j 0)) → AW X (D, A, 2, Q) 43 [(0, .ref b), (1, .int (nI i))] [] w1 n (0 + 0) (0 + 0) := by
        intro kk43
        induction kk43 using Nat.strongRecOn with
        | ind kk43 ih43 =>
          intro i w1 ro1 hk43 hi fr h hA
          obtain ⟨h0, h1, h2, h3, h4, h5, h6, h7, h8, h9, h10, h11, h12, h13⟩ := h
          refine a_iload_n S d_Mod_encode_43 rfl rfl ?_
          refine a_aload_n S d_Mod_encode_44 rfl rfl ?_
          refine a_get S kc_Mod 12 (by decide) lf_Mod_72 h0 rfl d_Mod_encode_45 ?_
          refine a_icmp_ge S (tgt := 69) d_Mod_encode_48 rfl (fun h48 => ?_) (fun h48 => ?_)
          · have hi : i = (keyB K F L c).length := Nat.le_antisymm hi ((nI_leI (by omega) (by omega)).mp h48)
            refine a_aload_n S d_Mod_encode_69 rfl rfl ?_
            refine a_get S kc_Mod 12 (by decide) lf_Mod_72 h0 rfl d_Mod_encode_70 ?_
            exact RT _ _ _ _ _ _ _ d_Mod_encode_73 (by omega) (by omega) (Or.inl ⟨hs0, rfl, rfl, fr, ⟨_, _, _, _, _, _, _, _, _, _, _, _, _, _, _, _, ⟨h0, h1, h2, h3, h4, h5, h6, h7, h8, h9, h10, h11, h12, h13⟩, (hI.rw_ (by omega) (keyB_lt hok) (fun j hj => hA j (by omega))), hG⟩⟩)
          · have hi : i < (keyB K F L c).length := Nat.not_le.mp fun z => h48 ((nI_leI (by omega) (by omega)).mpr z)
            refine a_aload_n S d_Mod_encode_51 rfl rfl ?_
            refine a_get S kc_Mod 11 (by decide) lf_Mod_33 h0 rfl d_Mod_encode_52 ?_
            refine a_iload_n S d_Mod_encode_55 rfl rfl ?_
            refine a_aload_n S d_Mod_encode_56 rfl rfl ?_
            refine a_get S kc_Mod 13 (by decide) lf_Mod_36 h0 rfl d_Mod_encode_57 ?_
            refine a_iload_n S d_Mod_encode_60 rfl rfl ?_
            refine a_iald S (i := i) h9 rfl (by omega) (by decide) d_Mod_encode_61 ?_
            refine a_eqi (wr0 hi) ?_
            refine a_iast S (i := i) h8 rfl (by omega) (by decide) d_Mod_encode_62 (fun w15 h8 e16 => ?_)
            have fr := fr.trans (Fr.sub (Fr.of1 e16) (by omega) (by omega))
            have h0 := Fr.cell (Fr.of1 e16) h0 (by omega)
            have h1 := Fr.cell (Fr.of1 e16) h1 (by omega)
            have h2 := Fr.cell (Fr.of1 e16) h2 (by omega)
            have h3 := Fr.cell (Fr.of1 e16) h3 (by omega)
            have h4 := Fr.cell (Fr.of1 e16) h4 (by omega)
            have h5 := Fr.cell (Fr.of1 e16) h5 (by omega)
            have h6 := Fr.cell (Fr.of1 e16) h6 (by omega)
            have h7 := Fr.cell (Fr.of1 e16) h7 (by omega)
            have h9 := Fr.cell (Fr.of1 e16) h9 (by omega)
            have h10 := Fr.cell (Fr.of1 e16) h10 (by omega)
            have h11 := Fr.cell (Fr.of1 e16) h11 (by omega)
            have h12 := Fr.cell (Fr.of1 e16) h12 (by omega)
            have h13 := Fr.cell (Fr.of1 e16) h13 (by omega)
            refine a_iinc S (v := nI (i + 1)) d_Mod_encode_63 rfl (ni_add rfl (by decide)) (Nat.le_of_ble_eq_true rfl) (lv' := [(0, .ref b), (1, .int (nI (i + 1)))]) rfl ?_
            refine a_goto S (tgt := 43) d_Mod_encode_66 rfl ?_
            exact ih43 _ (by omega) (i + 1) w15 _ rfl (by omega) fr ⟨h0, h1, h2, h3, h4, h5, h6, h7, h8, h9, h10, h11, h12, h13⟩ (fun j hj => by
          by_cases e : j = i
          · subst e; rw [pk_us]
          · rw [pk_un e]; exact hA j (by omega))
      exact loop43 _ 0 w13 ro rfl (Nat.zero_le _) fr ⟨h0, h1, h2, h3, h4, h5, h6, h7, h8, h9, h10, h11, h12, h13⟩ (fun j hj => absurd hj (Nat.not_lt_zero j))
    · exact absurd (by decide) h20
