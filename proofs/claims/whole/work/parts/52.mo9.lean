set_option maxHeartbeats 400000 in
set_option maxRecDepth 100000 in
theorem c_Mod_bounds (l : Launch) (D : kD) (b : Nat) (th : Int32) (c : Nat) (s : Bool) (K F : Nat → Nat) (L : Nat → kV) (kr : List Nat) (m : Nat) (KT : Nat → Nat → kV) (lo hi : List Nat) (he : Bool) (i x : Int32) (w : ww) (n : Nat) (hV : VI c s K F L m KT) (h : Mdl D w b th c s K F L kr m KT lo hi he) : AM l D M_Mod_bounds 4 0 0 [.ref b, .int i, .int x] w n (fun v w' n' => (∃ t q, t < m ∧ q ≤ c ∧ i = nI t ∧ x = nI q ∧ v = some (.int 1) ∧ n' = n ∧ Fr w w' b 14 ∧ Mdl D w' b 0 c s K F L kr m KT (fldB K F (KT t) q) ((endI (fldB K F (KT t) q) (fldB K F (KT t) q).length).getD []) (endI (fldB K F (KT t) q) (fldB K F (KT t) q).length).isSome) ∨ ((∀ t q, t < m → q ≤ c → i = nI t → x = nI q → False) ∧ v = some (.int 0) ∧ n' = n ∧ Fr w w' b 14 ∧ Mdl D w' b 0 c s K F L kr m KT lo hi he)) := by
  refine AM.ofz (by decide +kernel) rfl (Nat.le_of_ble_eq_true rfl) (fun X A Q hin S RT => ?_)
  have S : FX X (D, A, 4, Q) prog_9_method_54_code "KeyCodecModel" 4 0 0 := S
  have RT : RTz X (D, A, 4, Q) prog_9_method_54_code 0 0 _ := RT
  obtain ⟨ki, fl, va, fo, go, si, te, ro, ma, sz, en, ms, lw, hw, pt, bd, h, hI, hG⟩ := h
  obtain ⟨h0, h1, h2, h3, h4, h5, h6, h7, h8, h9, h10, h11, h12, h13⟩ := h
  have hc5 := hI.1
  have hm12 := hI.2.1
  have hkr := hI.2.2.1
  have hlo := hI.2.2.2.1
  have hhi := hI.2.2.2.2.1
  have hkf := hI.2.2.2.2.2.1
  refine a_lve (lv' := [(0, .ref b), (1, .int i), (2, .int x)]) rfl ?_
  have fr : Fr w w b 14 := Fr.refl _ _ _
  refine a_aload_n S d_Mod_bounds_0 rfl rfl ?_
  refine a_iconst S (v := 0) d_Mod_bounds_1 (by decide) ?_
  refine a_put S kc_Mod kt_Mod 0 (by decide) lf_Mod_55 rfl h0 rfl rfl (Nat.le_of_ble_eq_true rfl) d_Mod_bounds_2 (fun w1 h0 e2 => ?_)
  have h0 : w1 b = some (.inr (6, [.int 0, .int (nI c), .int (if s then 1 else 0), .ref (b + 1), .ref (b + 2), .ref (b + 3), .ref (b + 4), .ref (b + 5), .ref (b + 6), .ref (b + 7), .int (nI m), .ref (b + 8), .int (nI kr.length), .ref (b + 9), .int (nI sz), .ref (b + 10), .ref (b + 11), .ref (b + 12), .ref (b + 13), .int (nI lo.length), .int (if he then nI hi.length else -1), .int (nI pt), .int (if bd then 1 else 0)])) := h0
  have fr := fr.trans (Fr.sub (Fr.of1 e2) (by omega) (by omega))
  have h1 := Fr.cell (Fr.of1 e2) h1 (by omega)
  have h2 := Fr.cell (Fr.of1 e2) h2 (by omega)
  have h3 := Fr.cell (Fr.of1 e2) h3 (by omega)
  have h4 := Fr.cell (Fr.of1 e2) h4 (by omega)
  have h5 := Fr.cell (Fr.of1 e2) h5 (by omega)
  have h6 := Fr.cell (Fr.of1 e2) h6 (by omega)
  have h7 := Fr.cell (Fr.of1 e2) h7 (by omega)
  have h8 := Fr.cell (Fr.of1 e2) h8 (by omega)
  have h9 := Fr.cell (Fr.of1 e2) h9 (by omega)
  have h10 := Fr.cell (Fr.of1 e2) h10 (by omega)
  have h11 := Fr.cell (Fr.of1 e2) h11 (by omega)
  have h12 := Fr.cell (Fr.of1 e2) h12 (by omega)
  have h13 := Fr.cell (Fr.of1 e2) h13 (by omega)
  refine a_aload_n S d_Mod_bounds_5 rfl rfl ?_
  refine a_iload_n S d_Mod_bounds_6 rfl rfl ?_
  refine a_callV S (rest := []) lg_Mod_177 h0 (c_Mod_isKept X.2.1 D b 0 c s ki fl va fo go si te m ro kr.length ma sz en ms lw hw lo.length (if he then nI hi.length else -1) pt bd i w1 n  ⟨h0, h1, h2, h3, h4, h5, h6, h7, h8, h9, h10, h11, h12, h13⟩) (by decide) (by omega) (by omega) rfl (Nat.le_of_ble_eq_true rfl) d_Mod_bounds_7 (fun v3 w4 n5 p6 => ?_)
  obtain ⟨rfl, e7, e8⟩ := p6
  rw [e7, e8]
  refine a_st (st' := [.int (if usB true m i then 1 else 0)]) rfl ?_
  refine a_if_eq S (tgt := 25) d_Mod_bounds_10 rfl (fun hA_ => ?_) (fun hA_ => ?_)
  · have hx : ∀ t q, t < m → q ≤ c → i = nI t → x = nI q → False := fun t q ht _ e _ => usB_no (by omega) (bo_0 hA_) ht rfl e
    refine a_iconst S (v := 0) d_Mod_bounds_25 (by decide) ?_
    exact RT _ _ _ _ _ _ _ d_Mod_bounds_26 rfl (by omega) (by omega) (Or.inr ⟨hx, rfl, rfl, fr, ⟨_, _, _, _, _, _, _, _, _, _, _, _, _, _, _, _, ⟨h0, h1, h2, h3, h4, h5, h6, h7, h8, h9, h10, h11, h12, h13⟩, hI, hG⟩⟩)
  · obtain ⟨hs_t, t, ht, rfl⟩ := usB_ix (by omega) (bo_1 hA_)
    have ok_t := (hV.2 t ht).2
    have kl_t := keyB_l ok_t hc5
    refine a_iload_n S d_Mod_bounds_13 rfl rfl ?_
    refine a_if_lt S (tgt := 25) d_Mod_bounds_14 rfl (fun h14 => ?_) (fun h14 => ?_)
    · have hx : ∀ t2 q, t2 < m → q ≤ c → nI t = nI t2 → x = nI q → False := fun t2 q _ hq _ e => by subst e; exact nI_pos (by omega) h14
      refine a_iconst S (v := 0) d_Mod_bounds_25 (by decide) ?_
      exact RT _ _ _ _ _ _ _ d_Mod_bounds_26 rfl (by omega) (by omega) (Or.inr ⟨hx, rfl, rfl, fr, ⟨_, _, _, _, _, _, _, _, _, _, _, _, _, _, _, _, ⟨h0, h1, h2, h3, h4, h5, h6, h7, h8, h9, h10, h11, h12, h13⟩, hI, hG⟩⟩)
    · refine a_iload_n S d_Mod_bounds_17 rfl rfl ?_
      refine a_aload_n S d_Mod_bounds_18 rfl rfl ?_
      refine a_get S kc_Mod 1 (by decide) lf_Mod_62 h0 rfl d_Mod_bounds_19 ?_
      refine a_icmp_le S (tgt := 27) d_Mod_bounds_22 rfl (fun h22 => ?_) (fun h22 => ?_)
      · obtain ⟨q, hq, rfl⟩ := row_ix (n := c + 1) h14 (nle_s h22 (by omega)) (by omega)
        have hq : q ≤ c := by omega
        have fl_t := fldB_len ok_t hq
        have hby := fldB_lt (okT_le ok_t hq)
        refine a_aload_n S d_Mod_bounds_27 rfl rfl ?_
        refine a_iconst S (v := 0) d_Mod_bounds_28 (by decide) ?_
        refine a_iload_n S d_Mod_bounds_29 rfl rfl ?_
        refine a_iconst S (v := 1) d_Mod_bounds_30 (by decide) ?_
        refine a_iadd S d_Mod_bounds_31 ?_
        refine a_eqi (y := nI (t + 1)) (ni_add rfl rfl) ?_
        refine a_callV S (rest := []) lg_Mod_136 h0 (c_Mod_make X.2.1 D b 0 c s ki fl va fo go si te m ro kr.length ma sz en ms lw hw lo.length (if he then nI hi.length else -1) pt bd 0 (t + 1) K F (KT t) w1 n (by decide) (by omega) hc5 hkf (hI.v1 ht) ok_t ⟨h0, h1, h2, h3, h4, h5, h6, h7, h8, h9, h10, h11, h12, h13⟩) (by decide) (by omega) (by omega) rfl (Nat.le_of_ble_eq_true rfl) d_Mod_bounds_32 (fun v9 w10 n11 p12 => ?_)
        obtain ⟨en_15, rfl, e14, f13, ⟨h0, h1, h2, h3, h4, h5, h6, h7, h8, h9, h10, h11, h12, h13⟩, hE1⟩ := p12
        rw [e14]
        refine a_st (st' := []) rfl ?_
        have fr := fr.trans (Fr.sub f13 (by omega) (by omega))
        refine a_aload_n S d_Mod_bounds_35 rfl rfl ?_
        refine a_aload_n S d_Mod_bounds_36 rfl rfl ?_
        refine a_get S kc_Mod 15 (by decide) lf_Mod_39 h0 rfl d_Mod_bounds_37 ?_
        refine a_iload_n S d_Mod_bounds_40 rfl rfl ?_
        refine a_iald S (i := q) h10 rfl (by omega) (by decide) d_Mod_bounds_41 ?_
        refine a_eqi (en0 hE1 hq) ?_
        refine a_put S kc_Mod kt_Mod 19 (by decide) lf_Mod_211 rfl h0 rfl rfl (Nat.le_of_ble_eq_true rfl) d_Mod_bounds_42 (fun w16 h0 e17 => ?_)
        have h0 : w16 b = some (.inr (6, [.int 0, .int (nI c), .int (if s then 1 else 0), .ref (b + 1), .ref (b + 2), .ref (b + 3), .ref (b + 4), .ref (b + 5), .ref (b + 6), .ref (b + 7), .int (nI m), .ref (b + 8), .int (nI kr.length), .ref (b + 9), .int (nI ((keyB K F (KT t) c).length)), .ref (b + 10), .ref (b + 11), .ref (b + 12), .ref (b + 13), .int (nI ((fldB K F (KT t) q).length)), .int (if he then nI hi.length else -1), .int (nI pt), .int (if bd then 1 else 0)])) := h0
        have fr := fr.trans (Fr.sub (Fr.of1 e17) (by omega) (by omega))
        have h1 := Fr.cell (Fr.of1 e17) h1 (by omega)
        have h2 := Fr.cell (Fr.of1 e17) h2 (by omega)
        have h3 := Fr.cell (Fr.of1 e17) h3 (by omega)
        have h4 := Fr.cell (Fr.of1 e17) h4 (by omega)
        have h5 := Fr.cell (Fr.of1 e17) h5 (by omega)
        have h6 := Fr.cell (Fr.of1 e17) h6 (by omega)
        have h7 := Fr.cell (Fr.of1 e17) h7 (by omega)
        have h8 := Fr.cell (Fr.of1 e17) h8 (by omega)
        have h9 := Fr.cell (Fr.of1 e17) h9 (by omega)
        have h10 := Fr.cell (Fr.of1 e17) h10 (by omega)
        have h11 := Fr.cell (Fr.of1 e17) h11 (by omega)
        have h12 := Fr.cell (Fr.of1 e17) h12 (by omega)
        have h13 := Fr.cell (Fr.of1 e17) h13 (by omega)
        refine a_iconst S (v := 0) d_Mod_bounds_45 (by decide) ?_
        refine a_istore_n S d_Mod_bounds_46 rfl (Nat.le_of_ble_eq_true rfl) (lv' := [(0, .ref b), (1, .int (nI t)), (2, .int (nI q)), (3, .int 0)]) rfl ?_
        have loop47 : ∀ (kk47 : Nat) (g : Nat) (w1 : ww) (lw1 : Nat → Int32), (fldB K F (KT t) q).length - g = kk47 → (g ≤ (fldB K F (KT t) q).length) → (Fr w w1 b 14) → (Mo D w1 b 0 c s ki fl va fo go si te m ro kr.length (wrL ma (200 * 0) (keyB K F (KT t) c)) ((keyB K F (KT t) c).length) en_15 (upd ms 0 (nI (keyB K F (KT t) c).length)) lw1 hw ((fldB K F (KT t) q).length) (if he then nI hi.length else -1) pt bd) → (∀ j, j < g → lw1 j = nI ((fldB K F (KT t) q).getD j 0)) → AW X (D, A, 4, Q) 47 [(0, .ref b), (1, .int (nI t)), (2, .int (nI q)), (3, .int (nI g))] [] w1 n ((0 + 0) + 0) ((0 + 0) + 0) := by
          intro kk47
          induction kk47 using Nat.strongRecOn with
          | ind kk47 ih47 =>
            intro g w1 lw1 hk47 hg fr h hA
            obtain ⟨h0, h1, h2, h3, h4, h5, h6, h7, h8, h9, h10, h11, h12, h13⟩ := h
            refine a_iload_n S d_Mod_bounds_47 rfl rfl ?_
            refine a_aload_n S d_Mod_bounds_48 rfl rfl ?_
            refine a_get S kc_Mod 19 (by decide) lf_Mod_211 h0 rfl d_Mod_bounds_49 ?_
            refine a_icmp_ge S (tgt := 73) d_Mod_bounds_52 rfl (fun h52 => ?_) (fun h52 => ?_)
            · have hg : g = (fldB K F (KT t) q).length := Nat.le_antisymm hg ((nI_leI (by omega) (by omega)).mp h52)
              refine a_aload_n S d_Mod_bounds_73 rfl rfl ?_
              refine a_aload_n S d_Mod_bounds_74 rfl rfl ?_
              refine a_get S kc_Mod 19 (by decide) lf_Mod_211 h0 rfl d_Mod_bounds_75 ?_
              refine a_put S kc_Mod kt_Mod 20 (by decide) lf_Mod_51 rfl h0 rfl rfl (Nat.le_of_ble_eq_true rfl) d_Mod_bounds_78 (fun w18 h0 e19 => ?_)
              have h0 : w18 b = some (.inr (6, [.int 0, .int (nI c), .int (if s then 1 else 0), .ref (b + 1), .ref (b + 2), .ref (b + 3), .ref (b + 4), .ref (b + 5), .ref (b + 6), .ref (b + 7), .int (nI m), .ref (b + 8), .int (nI kr.length), .ref (b + 9), .int (nI ((keyB K F (KT t) c).length)), .ref (b + 10), .ref (b + 11), .ref (b + 12), .ref (b + 13), .int (nI ((fldB K F (KT t) q).length)), .int (nI ((fldB K F (KT t) q).length)), .int (nI pt), .int (if bd then 1 else 0)])) := h0
              have fr := fr.trans (Fr.sub (Fr.of1 e19) (by omega) (by omega))
              have h1 := Fr.cell (Fr.of1 e19) h1 (by omega)
              have h2 := Fr.cell (Fr.of1 e19) h2 (by omega)
              have h3 := Fr.cell (Fr.of1 e19) h3 (by omega)
              have h4 := Fr.cell (Fr.of1 e19) h4 (by omega)
              have h5 := Fr.cell (Fr.of1 e19) h5 (by omega)
              have h6 := Fr.cell (Fr.of1 e19) h6 (by omega)
              have h7 := Fr.cell (Fr.of1 e19) h7 (by omega)
              have h8 := Fr.cell (Fr.of1 e19) h8 (by omega)
              have h9 := Fr.cell (Fr.of1 e19) h9 (by omega)
              have h10 := Fr.cell (Fr.of1 e19) h10 (by omega)
              have h11 := Fr.cell (Fr.of1 e19) h11 (by omega)
              have h12 := Fr.cell (Fr.of1 e19) h12 (by omega)
              have h13 := Fr.cell (Fr.of1 e19) h13 (by omega)
              have loop81 : ∀ (kk81 : Nat) (e : Nat) (w2_ : ww), e = kk81 → (e ≤ (fldB K F (KT t) q).length) → (Fr w w2_ b 14) → (Mo D w2_ b 0 c s ki fl va fo go si te m ro kr.length (wrL ma (200 * 0) (keyB K F (KT t) c)) ((keyB K F (KT t) c).length) en_15 (upd ms 0 (nI (keyB K F (KT t) c).length)) lw1 hw ((fldB K F (KT t) q).length) (nI e) pt bd) → (endI (fldB K F (KT t) q) (fldB K F (KT t) q).length = endI (fldB K F (KT t) q) e) → AW X (D, A, 4, Q) 81 [(0, .ref b), (1, .int (nI t)), (2, .int (nI q)), (3, .int (nI g))] [] w2_ n ((0 + 0) + 0) ((0 + 0) + 0) := by
                intro kk81
                induction kk81 using Nat.strongRecOn with
                | ind kk81 ih81 =>
                  intro e w2_ hk81 he_ fr h hE
                  obtain ⟨h0, h1, h2, h3, h4, h5, h6, h7, h8, h9, h10, h11, h12, h13⟩ := h
                  refine a_aload_n S d_Mod_bounds_81 rfl rfl ?_
                  refine a_get S kc_Mod 20 (by decide) lf_Mod_51 h0 rfl d_Mod_bounds_82 ?_
                  refine a_if_le S (tgt := 118) d_Mod_bounds_85 rfl (fun h85 => ?_) (fun h85 => ?_)
                  · have he0 : e = 0 := Nat.eq_zero_of_not_pos fun z => absurd ((nI_leI (b := 0) (by omega) (by decide)).mp h85) (by omega)
                    subst he0
                    rw [endI_0] at hE
                    have h0 : w2_ b = some (.inr (6, [.int 0, .int (nI c), .int (if s then 1 else 0), .ref (b + 1), .ref (b + 2), .ref (b + 3), .ref (b + 4), .ref (b + 5), .ref (b + 6), .ref (b + 7), .int (nI m), .ref (b + 8), .int (nI kr.length), .ref (b + 9), .int (nI ((keyB K F (KT t) c).length)), .ref (b + 10), .ref (b + 11), .ref (b + 12), .ref (b + 13), .int (nI ((fldB K F (KT t) q).length)), .int 0, .int (nI pt), .int (if bd then 1 else 0)])) := h0
                    refine a_iconst S (v := 0) d_Mod_bounds_118 (by decide) ?_
                    refine a_istore_n S d_Mod_bounds_119 rfl (Nat.le_of_ble_eq_true rfl) (lv' := [(0, .ref b), (1, .int (nI t)), (2, .int (nI q)), (3, .int 0)]) rfl ?_
                    refine a_iload_n S d_Mod_bounds_120 rfl rfl ?_
                    refine a_aload_n S d_Mod_bounds_121 rfl rfl ?_
                    refine a_get S kc_Mod 20 (by decide) lf_Mod_51 h0 rfl d_Mod_bounds_122 ?_
                    refine a_icmp_ge S (tgt := 162) d_Mod_bounds_125 rfl (fun h125 => ?_) (fun h125 => ?_)
                    · refine a_aload_n S d_Mod_bounds_162 rfl rfl ?_
                      refine a_get S kc_Mod 20 (by decide) lf_Mod_51 h0 rfl d_Mod_bounds_163 ?_
                      refine a_if_ne S (tgt := 174) d_Mod_bounds_166 rfl (fun h166 => ?_) (fun h166 => ?_)
                      · exact absurd (by decide) h166
                      · refine a_aload_n S d_Mod_bounds_169 rfl rfl ?_
                        refine a_iconst S (v := (-1)) d_Mod_bounds_170 (by decide) ?_
                        refine a_put S kc_Mod kt_Mod 20 (by decide) lf_Mod_51 rfl h0 rfl rfl (Nat.le_of_ble_eq_true rfl) d_Mod_bounds_171 (fun w20 h0 e21 => ?_)
                        have h0 : w20 b = some (.inr (6, [.int 0, .int (nI c), .int (if s then 1 else 0), .ref (b + 1), .ref (b + 2), .ref (b + 3), .ref (b + 4), .ref (b + 5), .ref (b + 6), .ref (b + 7), .int (nI m), .ref (b + 8), .int (nI kr.length), .ref (b + 9), .int (nI ((keyB K F (KT t) c).length)), .ref (b + 10), .ref (b + 11), .ref (b + 12), .ref (b + 13), .int (nI ((fldB K F (KT t) q).length)), .int (-1), .int (nI pt), .int (if bd then 1 else 0)])) := h0
                        have fr := fr.trans (Fr.sub (Fr.of1 e21) (by omega) (by omega))
                        have h1 := Fr.cell (Fr.of1 e21) h1 (by omega)
                        have h2 := Fr.cell (Fr.of1 e21) h2 (by omega)
                        have h3 := Fr.cell (Fr.of1 e21) h3 (by omega)
                        have h4 := Fr.cell (Fr.of1 e21) h4 (by omega)
                        have h5 := Fr.cell (Fr.of1 e21) h5 (by omega)
                        have h6 := Fr.cell (Fr.of1 e21) h6 (by omega)
                        have h7 := Fr.cell (Fr.of1 e21) h7 (by omega)
                        have h8 := Fr.cell (Fr.of1 e21) h8 (by omega)
                        have h9 := Fr.cell (Fr.of1 e21) h9 (by omega)
                        have h10 := Fr.cell (Fr.of1 e21) h10 (by omega)
                        have h11 := Fr.cell (Fr.of1 e21) h11 (by omega)
                        have h12 := Fr.cell (Fr.of1 e21) h12 (by omega)
                        have h13 := Fr.cell (Fr.of1 e21) h13 (by omega)
                        refine a_iconst S (v := 1) d_Mod_bounds_174 (by decide) ?_
                        exact RT _ _ _ _ _ _ _ d_Mod_bounds_175 rfl (by omega) (by omega) (Or.inl ⟨t, q, ht, hq, rfl, rfl, rfl, rfl, fr, (by rw [hE]; exact Mdl.of ⟨h0, h1, h2, h3, h4, h5, h6, h7, h8, h9, h10, h11, h12, h13⟩ (hI.bd (by omega) (Nat.zero_le _) hby (fun j hj => hA j (by omega)) (fun z => by cases z)) hG rfl rfl)⟩)
                    · exact absurd (by decide) h125
                  · obtain ⟨a, rfl⟩ : ∃ a, e = a + 1 := ⟨e - 1, by have : e ≠ 0 := (fun z => h85 (by subst z; decide)); omega⟩
                    have hba := getD_lt hby a
                    have h0 : w2_ b = some (.inr (6, [.int 0, .int (nI c), .int (if s then 1 else 0), .ref (b + 1), .ref (b + 2), .ref (b + 3), .ref (b + 4), .ref (b + 5), .ref (b + 6), .ref (b + 7), .int (nI m), .ref (b + 8), .int (nI kr.length), .ref (b + 9), .int (nI ((keyB K F (KT t) c).length)), .ref (b + 10), .ref (b + 11), .ref (b + 12), .ref (b + 13), .int (nI ((fldB K F (KT t) q).length)), .int (nI (a + 1)), .int (nI pt), .int (if bd then 1 else 0)])) := h0
                    refine a_aload_n S d_Mod_bounds_88 rfl rfl ?_
                    refine a_get S kc_Mod 17 (by decide) lf_Mod_45 h0 rfl d_Mod_bounds_89 ?_
                    refine a_aload_n S d_Mod_bounds_92 rfl rfl ?_
                    refine a_get S kc_Mod 20 (by decide) lf_Mod_51 h0 rfl d_Mod_bounds_93 ?_
                    refine a_iconst S (v := 1) d_Mod_bounds_96 (by decide) ?_
                    refine a_isub S d_Mod_bounds_97 ?_
                    refine a_eqi (y := nI a) (by rw [nI_pred]) ?_
                    refine a_iald S (i := a) h12 rfl (by omega) (by decide) d_Mod_bounds_98 ?_
                    refine a_eqi (hA a (by omega)) ?_
                    refine a_sipush S (v := 255) d_Mod_bounds_99 (by decide) ?_
                    refine a_icmp_ne S (tgt := 118) d_Mod_bounds_102 rfl (fun h102 => ?_) (fun h102 => ?_)
                    · have hlt : (fldB K F (KT t) q).getD a 0 < 255 := by
                        have : ¬ (fldB K F (KT t) q).getD a 0 = 255 := fun z => h102 (by rw [z]; rfl)
                        omega
                      have hE2 : endI (fldB K F (KT t) q) (fldB K F (KT t) q).length = some (upL (fldB K F (KT t) q) a) := by rw [hE, endI_y hlt]
                      refine a_iconst S (v := 0) d_Mod_bounds_118 (by decide) ?_
                      refine a_istore_n S d_Mod_bounds_119 rfl (Nat.le_of_ble_eq_true rfl) (lv' := [(0, .ref b), (1, .int (nI t)), (2, .int (nI q)), (3, .int 0)]) rfl ?_
                      have loop120 : ∀ (kk120 : Nat) (r : Nat) (w3_ : ww) (hw1 : Nat → Int32), a + 1 - r = kk120 → (r ≤ a + 1) → (Fr w w3_ b 14) → (Mo D w3_ b 0 c s ki fl va fo go si te m ro kr.length (wrL ma (200 * 0) (keyB K F (KT t) c)) ((keyB K F (KT t) c).length) en_15 (upd ms 0 (nI (keyB K F (KT t) c).length)) lw1 hw1 ((fldB K F (KT t) q).length) (nI (a + 1)) pt bd) → (∀ j, j < r → hw1 j = nI ((upL (fldB K F (KT t) q) a).getD j 0)) → AW X (D, A, 4, Q) 120 [(0, .ref b), (1, .int (nI t)), (2, .int (nI q)), (3, .int (nI r))] [] w3_ n ((0 + 0) + 0) ((0 + 0) + 0) := by
                        intro kk120
                        induction kk120 using Nat.strongRecOn with
                        | ind kk120 ih120 =>
                          intro r w3_ hw1 hk120 hr fr h hB
                          obtain ⟨h0, h1, h2, h3, h4, h5, h6, h7, h8, h9, h10, h11, h12, h13⟩ := h
                          refine a_iload_n S d_Mod_bounds_120 rfl rfl ?_
                          refine a_aload_n S d_Mod_bounds_121 rfl rfl ?_
                          refine a_get S kc_Mod 20 (by decide) lf_Mod_51 h0 rfl d_Mod_bounds_122 ?_
                          refine a_icmp_ge S (tgt := 162) d_Mod_bounds_125 rfl (fun h125 => ?_) (fun h125 => ?_)
                          · have hr : r = a + 1 := Nat.le_antisymm hr ((nI_leI (by omega) (by omega)).mp h125)
                            refine a_aload_n S d_Mod_bounds_162 rfl rfl ?_
                            refine a_get S kc_Mod 20 (by decide) lf_Mod_51 h0 rfl d_Mod_bounds_163 ?_
                            refine a_if_ne S (tgt := 174) d_Mod_bounds_166 rfl (fun h166 => ?_) (fun h166 => ?_)
                            · refine a_iconst S (v := 1) d_Mod_bounds_174 (by decide) ?_
                              exact RT _ _ _ _ _ _ _ d_Mod_bounds_175 rfl (by omega) (by omega) (Or.inl ⟨t, q, ht, hq, rfl, rfl, rfl, rfl, fr, (by rw [hE2]; exact Mdl.of ⟨h0, h1, h2, h3, h4, h5, h6, h7, h8, h9, h10, h11, h12, h13⟩ (hI.bd (by omega) (by show (upL (fldB K F (KT t) q) a).length ≤ 120; rw [upL_len (by omega)]; omega) hby (fun j hj => hA j (by omega)) (fun _ => ⟨upL_by hby hlt, (fun j hj => hB j (by have hj : j < (upL (fldB K F (KT t) q) a).length := hj; rw [upL_len (by omega)] at hj; omega))⟩)) hG rfl (by show _ = nI (upL (fldB K F (KT t) q) a).length; rw [upL_len (by omega)]))⟩)
                            · exact absurd ((nI_eq (b := 0) (by omega) (by decide)).mp h166) (by omega)
                          · have hr : r < a + 1 := Nat.not_le.mp fun z => h125 ((nI_leI (by omega) (by omega)).mpr z)
                            refine a_aload_n S d_Mod_bounds_128 rfl rfl ?_
                            refine a_get S kc_Mod 18 (by decide) lf_Mod_48 h0 rfl d_Mod_bounds_129 ?_
                            refine a_iload_n S d_Mod_bounds_132 rfl rfl ?_
                            refine a_aload_n S d_Mod_bounds_133 rfl rfl ?_
                            refine a_get S kc_Mod 17 (by decide) lf_Mod_45 h0 rfl d_Mod_bounds_134 ?_
                            refine a_iload_n S d_Mod_bounds_137 rfl rfl ?_
                            refine a_iald S (i := r) h12 rfl (by omega) (by decide) d_Mod_bounds_138 ?_
                            refine a_eqi (hA r (by omega)) ?_
                            refine a_iload_n S d_Mod_bounds_139 rfl rfl ?_
                            refine a_aload_n S d_Mod_bounds_140 rfl rfl ?_
                            refine a_get S kc_Mod 20 (by decide) lf_Mod_51 h0 rfl d_Mod_bounds_141 ?_
                            refine a_iconst S (v := 1) d_Mod_bounds_144 (by decide) ?_
                            refine a_isub S d_Mod_bounds_145 ?_
                            refine a_eqi (y := nI a) (by rw [nI_pred]) ?_
                            refine a_icmp_ne S (tgt := 153) d_Mod_bounds_146 rfl (fun h146 => ?_) (fun h146 => ?_)
                            · have hra : r < a := by have : ¬ r = a := fun z => h146 (by rw [z]); omega
                              refine a_iconst S (v := 0) d_Mod_bounds_153 (by decide) ?_
                              refine a_iadd S d_Mod_bounds_154 ?_
                              refine a_eqi (y := nI ((fldB K F (KT t) q).getD r 0 + 0)) (ni_add rfl rfl) ?_
                              refine a_iast S (i := r) h13 rfl (by omega) (by decide) d_Mod_bounds_155 (fun w22 h13 e23 => ?_)
                              have fr := fr.trans (Fr.sub (Fr.of1 e23) (by omega) (by omega))
                              have h0 := Fr.cell (Fr.of1 e23) h0 (by omega)
                              have h1 := Fr.cell (Fr.of1 e23) h1 (by omega)
                              have h2 := Fr.cell (Fr.of1 e23) h2 (by omega)
                              have h3 := Fr.cell (Fr.of1 e23) h3 (by omega)
                              have h4 := Fr.cell (Fr.of1 e23) h4 (by omega)
                              have h5 := Fr.cell (Fr.of1 e23) h5 (by omega)
                              have h6 := Fr.cell (Fr.of1 e23) h6 (by omega)
                              have h7 := Fr.cell (Fr.of1 e23) h7 (by omega)
                              have h8 := Fr.cell (Fr.of1 e23) h8 (by omega)
                              have h9 := Fr.cell (Fr.of1 e23) h9 (by omega)
                              have h10 := Fr.cell (Fr.of1 e23) h10 (by omega)
                              have h11 := Fr.cell (Fr.of1 e23) h11 (by omega)
                              have h12 := Fr.cell (Fr.of1 e23) h12 (by omega)
                              refine a_iinc S (v := nI (r + 1)) d_Mod_bounds_156 rfl (ni_add rfl (by decide)) (Nat.le_of_ble_eq_true rfl) (lv' := [(0, .ref b), (1, .int (nI t)), (2, .int (nI q)), (3, .int (nI (r + 1)))]) rfl ?_
                              refine a_goto S (tgt := 120) d_Mod_bounds_159 rfl ?_
                              exact ih120 _ (by omega) (r + 1) w22 _ rfl (by omega) fr ⟨h0, h1, h2, h3, h4, h5, h6, h7, h8, h9, h10, h11, h12, h13⟩ (fun j hj => by
          by_cases e : j = r
          · rw [e, pk_us, upL_lt (by omega) hra]; try rfl
          · rw [pk_un e]; exact hB j (by omega))
                            · have hra : r = a := (nI_eq (by omega) (by omega)).mp h146
                              subst hra
                              refine a_iconst S (v := 1) d_Mod_bounds_149 (by decide) ?_
                              refine a_goto S (tgt := 154) d_Mod_bounds_150 rfl ?_
                              refine a_iadd S d_Mod_bounds_154 ?_
                              refine a_eqi (y := nI ((fldB K F (KT t) q).getD r 0 + 1)) (ni_add rfl rfl) ?_
                              refine a_iast S (i := r) h13 rfl (by omega) (by decide) d_Mod_bounds_155 (fun w24 h13 e25 => ?_)
                              have fr := fr.trans (Fr.sub (Fr.of1 e25) (by omega) (by omega))
                              have h0 := Fr.cell (Fr.of1 e25) h0 (by omega)
                              have h1 := Fr.cell (Fr.of1 e25) h1 (by omega)
                              have h2 := Fr.cell (Fr.of1 e25) h2 (by omega)
                              have h3 := Fr.cell (Fr.of1 e25) h3 (by omega)
                              have h4 := Fr.cell (Fr.of1 e25) h4 (by omega)
                              have h5 := Fr.cell (Fr.of1 e25) h5 (by omega)
                              have h6 := Fr.cell (Fr.of1 e25) h6 (by omega)
                              have h7 := Fr.cell (Fr.of1 e25) h7 (by omega)
                              have h8 := Fr.cell (Fr.of1 e25) h8 (by omega)
                              have h9 := Fr.cell (Fr.of1 e25) h9 (by omega)
                              have h10 := Fr.cell (Fr.of1 e25) h10 (by omega)
                              have h11 := Fr.cell (Fr.of1 e25) h11 (by omega)
                              have h12 := Fr.cell (Fr.of1 e25) h12 (by omega)
                              refine a_iinc S (v := nI (r + 1)) d_Mod_bounds_156 rfl (ni_add rfl (by decide)) (Nat.le_of_ble_eq_true rfl) (lv' := [(0, .ref b), (1, .int (nI t)), (2, .int (nI q)), (3, .int (nI (r + 1)))]) rfl ?_
                              refine a_goto S (tgt := 120) d_Mod_bounds_159 rfl ?_
                              exact ih120 _ (by omega) (r + 1) w24 _ rfl (by omega) fr ⟨h0, h1, h2, h3, h4, h5, h6, h7, h8, h9, h10, h11, h12, h13⟩ (fun j hj => by
          by_cases e : j = r
          · rw [e, pk_us, upL_eq (by omega)]; try rfl
          · rw [pk_un e]; exact hB j (by omega))
                      exact loop120 _ 0 w2_ hw rfl (Nat.zero_le _) fr ⟨h0, h1, h2, h3, h4, h5, h6, h7, h8, h9, h10, h11, h12, h13⟩ (fun j hj => absurd hj (Nat.not_lt_zero j))
                    · have hge : (fldB K F (KT t) q).getD a 0 = 255 := (nI_eq (by omega) (by decide)).mp h102
                      refine a_aload_n S d_Mod_bounds_105 rfl rfl ?_
                      refine a_dup S d_Mod_bounds_106 rfl ?_
                      refine a_get S kc_Mod 20 (by decide) lf_Mod_51 h0 rfl d_Mod_bounds_107 ?_
                      refine a_iconst S (v := 1) d_Mod_bounds_110 (by decide) ?_
                      refine a_isub S d_Mod_bounds_111 ?_
                      refine a_eqi (y := nI a) (by rw [nI_pred]) ?_
                      refine a_put S kc_Mod kt_Mod 20 (by decide) lf_Mod_51 rfl h0 rfl rfl (Nat.le_of_ble_eq_true rfl) d_Mod_bounds_112 (fun w26 h0 e27 => ?_)
                      have h0 : w26 b = some (.inr (6, [.int 0, .int (nI c), .int (if s then 1 else 0), .ref (b + 1), .ref (b + 2), .ref (b + 3), .ref (b + 4), .ref (b + 5), .ref (b + 6), .ref (b + 7), .int (nI m), .ref (b + 8), .int (nI kr.length), .ref (b + 9), .int (nI ((keyB K F (KT t) c).length)), .ref (b + 10), .ref (b + 11), .ref (b + 12), .ref (b + 13), .int (nI ((fldB K F (KT t) q).length)), .int (nI a), .int (nI pt), .int (if bd then 1 else 0)])) := h0
                      have fr := fr.trans (Fr.sub (Fr.of1 e27) (by omega) (by omega))
                      have h1 := Fr.cell (Fr.of1 e27) h1 (by omega)
                      have h2 := Fr.cell (Fr.of1 e27) h2 (by omega)
                      have h3 := Fr.cell (Fr.of1 e27) h3 (by omega)
                      have h4 := Fr.cell (Fr.of1 e27) h4 (by omega)
                      have h5 := Fr.cell (Fr.of1 e27) h5 (by omega)
                      have h6 := Fr.cell (Fr.of1 e27) h6 (by omega)
                      have h7 := Fr.cell (Fr.of1 e27) h7 (by omega)
                      have h8 := Fr.cell (Fr.of1 e27) h8 (by omega)
                      have h9 := Fr.cell (Fr.of1 e27) h9 (by omega)
                      have h10 := Fr.cell (Fr.of1 e27) h10 (by omega)
                      have h11 := Fr.cell (Fr.of1 e27) h11 (by omega)
                      have h12 := Fr.cell (Fr.of1 e27) h12 (by omega)
                      have h13 := Fr.cell (Fr.of1 e27) h13 (by omega)
                      refine a_goto S (tgt := 81) d_Mod_bounds_115 rfl ?_
                      exact ih81 _ (by omega) a w26 rfl (by omega) fr ⟨h0, h1, h2, h3, h4, h5, h6, h7, h8, h9, h10, h11, h12, h13⟩ (by rw [hE, endI_s (by omega)])
              exact loop81 _ ((fldB K F (KT t) q).length) w18 rfl (Nat.le_refl _) fr ⟨h0, h1, h2, h3, h4, h5, h6, h7, h8, h9, h10, h11, h12, h13⟩ rfl
            · have hg : g < (fldB K F (KT t) q).length := Nat.not_le.mp fun z => h52 ((nI_leI (by omega) (by omega)).mpr z)
              refine a_aload_n S d_Mod_bounds_55 rfl rfl ?_
              refine a_get S kc_Mod 17 (by decide) lf_Mod_45 h0 rfl d_Mod_bounds_56 ?_
              refine a_iload_n S d_Mod_bounds_59 rfl rfl ?_
              refine a_aload_n S d_Mod_bounds_60 rfl rfl ?_
              refine a_get S kc_Mod 13 (by decide) lf_Mod_36 h0 rfl d_Mod_bounds_61 ?_
              refine a_iload_n S d_Mod_bounds_64 rfl rfl ?_
              refine a_iald S (i := g) h9 rfl (by omega) (by decide) d_Mod_bounds_65 ?_
              refine a_eqi (kb_lo hq hg) ?_
              refine a_iast S (i := g) h12 rfl (by omega) (by decide) d_Mod_bounds_66 (fun w28 h12 e29 => ?_)
              have fr := fr.trans (Fr.sub (Fr.of1 e29) (by omega) (by omega))
              have h0 := Fr.cell (Fr.of1 e29) h0 (by omega)
              have h1 := Fr.cell (Fr.of1 e29) h1 (by omega)
              have h2 := Fr.cell (Fr.of1 e29) h2 (by omega)
              have h3 := Fr.cell (Fr.of1 e29) h3 (by omega)
              have h4 := Fr.cell (Fr.of1 e29) h4 (by omega)
              have h5 := Fr.cell (Fr.of1 e29) h5 (by omega)
              have h6 := Fr.cell (Fr.of1 e29) h6 (by omega)
              have h7 := Fr.cell (Fr.of1 e29) h7 (by omega)
              have h8 := Fr.cell (Fr.of1 e29) h8 (by omega)
              have h9 := Fr.cell (Fr.of1 e29) h9 (by omega)
              have h10 := Fr.cell (Fr.of1 e29) h10 (by omega)
              have h11 := Fr.cell (Fr.of1 e29) h11 (by omega)
              have h13 := Fr.cell (Fr.of1 e29) h13 (by omega)
              refine a_iinc S (v := nI (g + 1)) d_Mod_bounds_67 rfl (ni_add rfl (by decide)) (Nat.le_of_ble_eq_true rfl) (lv' := [(0, .ref b), (1, .int (nI t)), (2, .int (nI q)), (3, .int (nI (g + 1)))]) rfl ?_
              refine a_goto S (tgt := 47) d_Mod_bounds_70 rfl ?_
              exact ih47 _ (by omega) (g + 1) w28 _ rfl (by omega) fr ⟨h0, h1, h2, h3, h4, h5, h6, h7, h8, h9, h10, h11, h12, h13⟩ (fun j hj => by
          by_cases e : j = g
          · subst e; rw [pk_us]
          · rw [pk_un e]; exact hA j (by omega))
        exact loop47 _ 0 w16 lw rfl (Nat.zero_le _) fr ⟨h0, h1, h2, h3, h4, h5, h6, h7, h8, h9, h10, h11, h12, h13⟩ (fun j hj => absurd hj (Nat.not_lt_zero j))
      · have hx : ∀ t2 q, t2 < m → q ≤ c → nI t = nI t2 → x = nI q → False := fun t2 q _ hq _ e => by subst e; exact h22 ((nI_leI (by omega) (by omega)).mpr hq)
        refine a_iconst S (v := 0) d_Mod_bounds_25 (by decide) ?_
        exact RT _ _ _ _ _ _ _ d_Mod_bounds_26 rfl (by omega) (by omega) (Or.inr ⟨hx, rfl, rfl, fr, ⟨_, _, _, _, _, _, _, _, _, _, _, _, _, _, _, _, ⟨h0, h1, h2, h3, h4, h5, h6, h7, h8, h9, h10, h11, h12, h13⟩, hI, hG⟩⟩)
