set_option maxHeartbeats 400000 in
set_option maxRecDepth 100000 in
theorem c_Mod_field (l : Launch) (D : kD) (b : Nat) (th : Int32) (c : Nat) (s : Bool) (K F : Nat → Nat) (L : Nat → kV) (kr : List Nat) (m : Nat) (KT : Nat → Nat → kV) (lo hi : List Nat) (he : Bool) (x y : Int32) (w : ww) (n : Nat) (hV : VI c s K F L m KT) (h : Mdl D w b th c s K F L kr m KT lo hi he) : AM l D M_Mod_field 0 0 0 [.ref b, .int x, .int y] w n (fun v w' n' => (∃ kd fg, kd < 4 ∧ fg < 8 ∧ x = nI kd ∧ y = nI fg ∧ ((s = false ∧ c < 5 ∧ v = some (.int (nI c)) ∧ n' = n ∧ Fr w w' b 14 ∧ Mdl D w' b 0 (c + 1) s (va_up K c kd) (va_up F c fg) L kr m KT lo hi he) ∨ (¬ (s = false ∧ c < 5) ∧ v = some (.int 0) ∧ n' = n ∧ Fr w w' b 14 ∧ Mdl D w' b 2 c s K F L kr m KT lo hi he))) ∨ ((∀ kd fg, kd < 4 → fg < 8 → x = nI kd → y = nI fg → False) ∧ v = some (.int 0) ∧ n' = n ∧ Fr w w' b 14 ∧ Mdl D w' b 1 c s K F L kr m KT lo hi he)) := by
  refine AM.ofi (by decide +kernel) rfl (Nat.le_of_ble_eq_true rfl) (fun X A Q hin S RT => ?_)
  have S : FX X (D, A, 3, Q) prog_9_method_6_code "KeyCodecModel" 0 0 0 := S
  have RT : RTi X (D, A, 3, Q) prog_9_method_6_code 0 0 _ := RT
  obtain ⟨ki, fl, va, fo, go, si, te, ro, ma, sz, en, ms, lw, hw, pt, bd, h, hI, hG⟩ := h
  obtain ⟨h0, h1, h2, h3, h4, h5, h6, h7, h8, h9, h10, h11, h12, h13⟩ := h
  have hc5 := hI.1
  have hm12 := hI.2.1
  have hkr := hI.2.2.1
  have hlo := hI.2.2.2.1
  have hhi := hI.2.2.2.2.1
  have hkf := hI.2.2.2.2.2.1
  refine a_lve (lv' := [(0, .ref b), (1, .int x), (2, .int y)]) rfl ?_
  have fr : Fr w w b 14 := Fr.refl _ _ _
  refine a_aload_n S d_Mod_field_0 rfl rfl ?_
  refine a_iload_n S d_Mod_field_1 rfl rfl ?_
  refine a_if_lt S (tgt := 20) d_Mod_field_2 rfl (fun ha_ => ?_) (fun ha_ => ?_)
  · have hx : ∀ kd fg, kd < 4 → fg < 8 → x = nI kd → y = nI fg → False := fun kd fg q1 q2 e1_ e2_ => by subst e1_ e2_; exact nI_pos (by omega) ha_
    refine a_iconst S (v := 1) d_Mod_field_20 (by decide) ?_
    refine a_goto S (tgt := 44) d_Mod_field_21 rfl ?_
    refine a_put S kc_Mod kt_Mod 0 (by decide) lf_Mod_55 rfl h0 rfl rfl (Nat.le_of_ble_eq_true rfl) d_Mod_field_44 (fun w1 h0 e2 => ?_)
    have h0 : w1 b = some (.inr (6, [.int 1, .int (nI c), .int (if s then 1 else 0), .ref (b + 1), .ref (b + 2), .ref (b + 3), .ref (b + 4), .ref (b + 5), .ref (b + 6), .ref (b + 7), .int (nI m), .ref (b + 8), .int (nI kr.length), .ref (b + 9), .int (nI sz), .ref (b + 10), .ref (b + 11), .ref (b + 12), .ref (b + 13), .int (nI lo.length), .int (if he then nI hi.length else -1), .int (nI pt), .int (if bd then 1 else 0)])) := h0
    have fr := fr.trans (Fr.sub (Fr.of1 e2) (by omega) (by omega))
    have h1 := Fr.cell (Fr.of1 e2) h1 (by omega)
    have h2 := Fr.cell (Fr.of1 e2) h2 (by omega)
    have h3 := Fr.cell (Fr.of1 e2) h3 (by omega)
    have h4 := Fr.cell (Fr.of1 e2) h4 (by omega)
    have h5 := Fr.cell (Fr.of1 e2) h5 (by omega)
    have h6 := Fr.cell (Fr.of1 e2) h6 (by omega)
    have h7 := Fr.cell (Fr.of1 e2) h7 (by omega)
    have h8 := Fr.cell (Fr.of1 e2) h8 (by omega)
    have h9 := Fr.cell (Fr.of1 e2) h9 (by omega)
    have h10 := Fr.cell (Fr.of1 e2) h10 (by omega)
    have h11 := Fr.cell (Fr.of1 e2) h11 (by omega)
    have h12 := Fr.cell (Fr.of1 e2) h12 (by omega)
    have h13 := Fr.cell (Fr.of1 e2) h13 (by omega)
    refine a_aload_n S d_Mod_field_47 rfl rfl ?_
    refine a_get S kc_Mod 0 (by decide) lf_Mod_55 h0 rfl d_Mod_field_48 ?_
    refine a_if_eq S (tgt := 56) d_Mod_field_51 rfl (fun h51 => ?_) (fun h51 => ?_)
    · exact absurd h51 (by decide)
    · refine a_iconst S (v := 0) d_Mod_field_54 (by decide) ?_
      exact RT _ _ _ _ _ _ _ d_Mod_field_55 (by omega) (by omega) (Or.inr ⟨hx, rfl, rfl, fr, ⟨_, _, _, _, _, _, _, _, _, _, _, _, _, _, _, _, ⟨h0, h1, h2, h3, h4, h5, h6, h7, h8, h9, h10, h11, h12, h13⟩, hI, hG⟩⟩)
  · refine a_iload_n S d_Mod_field_5 rfl rfl ?_
    refine a_iconst S (v := 3) d_Mod_field_6 (by decide) ?_
    refine a_icmp_gt S (tgt := 20) d_Mod_field_7 rfl (fun hb_ => ?_) (fun hb_ => ?_)
    · have hx : ∀ kd fg, kd < 4 → fg < 8 → x = nI kd → y = nI fg → False := fun kd fg q1 q2 e1_ e2_ => by subst e1_ e2_; exact absurd ((nI_ltI (a := 3) (by decide) (by omega)).mp hb_) (by omega)
      refine a_iconst S (v := 1) d_Mod_field_20 (by decide) ?_
      refine a_goto S (tgt := 44) d_Mod_field_21 rfl ?_
      refine a_put S kc_Mod kt_Mod 0 (by decide) lf_Mod_55 rfl h0 rfl rfl (Nat.le_of_ble_eq_true rfl) d_Mod_field_44 (fun w3 h0 e4 => ?_)
      have h0 : w3 b = some (.inr (6, [.int 1, .int (nI c), .int (if s then 1 else 0), .ref (b + 1), .ref (b + 2), .ref (b + 3), .ref (b + 4), .ref (b + 5), .ref (b + 6), .ref (b + 7), .int (nI m), .ref (b + 8), .int (nI kr.length), .ref (b + 9), .int (nI sz), .ref (b + 10), .ref (b + 11), .ref (b + 12), .ref (b + 13), .int (nI lo.length), .int (if he then nI hi.length else -1), .int (nI pt), .int (if bd then 1 else 0)])) := h0
      have fr := fr.trans (Fr.sub (Fr.of1 e4) (by omega) (by omega))
      have h1 := Fr.cell (Fr.of1 e4) h1 (by omega)
      have h2 := Fr.cell (Fr.of1 e4) h2 (by omega)
      have h3 := Fr.cell (Fr.of1 e4) h3 (by omega)
      have h4 := Fr.cell (Fr.of1 e4) h4 (by omega)
      have h5 := Fr.cell (Fr.of1 e4) h5 (by omega)
      have h6 := Fr.cell (Fr.of1 e4) h6 (by omega)
      have h7 := Fr.cell (Fr.of1 e4) h7 (by omega)
      have h8 := Fr.cell (Fr.of1 e4) h8 (by omega)
      have h9 := Fr.cell (Fr.of1 e4) h9 (by omega)
      have h10 := Fr.cell (Fr.of1 e4) h10 (by omega)
      have h11 := Fr.cell (Fr.of1 e4) h11 (by omega)
      have h12 := Fr.cell (Fr.of1 e4) h12 (by omega)
      have h13 := Fr.cell (Fr.of1 e4) h13 (by omega)
      refine a_aload_n S d_Mod_field_47 rfl rfl ?_
      refine a_get S kc_Mod 0 (by decide) lf_Mod_55 h0 rfl d_Mod_field_48 ?_
      refine a_if_eq S (tgt := 56) d_Mod_field_51 rfl (fun h51 => ?_) (fun h51 => ?_)
      · exact absurd h51 (by decide)
      · refine a_iconst S (v := 0) d_Mod_field_54 (by decide) ?_
        exact RT _ _ _ _ _ _ _ d_Mod_field_55 (by omega) (by omega) (Or.inr ⟨hx, rfl, rfl, fr, ⟨_, _, _, _, _, _, _, _, _, _, _, _, _, _, _, _, ⟨h0, h1, h2, h3, h4, h5, h6, h7, h8, h9, h10, h11, h12, h13⟩, hI, hG⟩⟩)
    · refine a_iload_n S d_Mod_field_10 rfl rfl ?_
      refine a_if_lt S (tgt := 20) d_Mod_field_11 rfl (fun hc_ => ?_) (fun hc_ => ?_)
      · have hx : ∀ kd fg, kd < 4 → fg < 8 → x = nI kd → y = nI fg → False := fun kd fg q1 q2 e1_ e2_ => by subst e1_ e2_; exact nI_pos (by omega) hc_
        refine a_iconst S (v := 1) d_Mod_field_20 (by decide) ?_
        refine a_goto S (tgt := 44) d_Mod_field_21 rfl ?_
        refine a_put S kc_Mod kt_Mod 0 (by decide) lf_Mod_55 rfl h0 rfl rfl (Nat.le_of_ble_eq_true rfl) d_Mod_field_44 (fun w5 h0 e6 => ?_)
        have h0 : w5 b = some (.inr (6, [.int 1, .int (nI c), .int (if s then 1 else 0), .ref (b + 1), .ref (b + 2), .ref (b + 3), .ref (b + 4), .ref (b + 5), .ref (b + 6), .ref (b + 7), .int (nI m), .ref (b + 8), .int (nI kr.length), .ref (b + 9), .int (nI sz), .ref (b + 10), .ref (b + 11), .ref (b + 12), .ref (b + 13), .int (nI lo.length), .int (if he then nI hi.length else -1), .int (nI pt), .int (if bd then 1 else 0)])) := h0
        have fr := fr.trans (Fr.sub (Fr.of1 e6) (by omega) (by omega))
        have h1 := Fr.cell (Fr.of1 e6) h1 (by omega)
        have h2 := Fr.cell (Fr.of1 e6) h2 (by omega)
        have h3 := Fr.cell (Fr.of1 e6) h3 (by omega)
        have h4 := Fr.cell (Fr.of1 e6) h4 (by omega)
        have h5 := Fr.cell (Fr.of1 e6) h5 (by omega)
        have h6 := Fr.cell (Fr.of1 e6) h6 (by omega)
        have h7 := Fr.cell (Fr.of1 e6) h7 (by omega)
        have h8 := Fr.cell (Fr.of1 e6) h8 (by omega)
        have h9 := Fr.cell (Fr.of1 e6) h9 (by omega)
        have h10 := Fr.cell (Fr.of1 e6) h10 (by omega)
        have h11 := Fr.cell (Fr.of1 e6) h11 (by omega)
        have h12 := Fr.cell (Fr.of1 e6) h12 (by omega)
        have h13 := Fr.cell (Fr.of1 e6) h13 (by omega)
        refine a_aload_n S d_Mod_field_47 rfl rfl ?_
        refine a_get S kc_Mod 0 (by decide) lf_Mod_55 h0 rfl d_Mod_field_48 ?_
        refine a_if_eq S (tgt := 56) d_Mod_field_51 rfl (fun h51 => ?_) (fun h51 => ?_)
        · exact absurd h51 (by decide)
        · refine a_iconst S (v := 0) d_Mod_field_54 (by decide) ?_
          exact RT _ _ _ _ _ _ _ d_Mod_field_55 (by omega) (by omega) (Or.inr ⟨hx, rfl, rfl, fr, ⟨_, _, _, _, _, _, _, _, _, _, _, _, _, _, _, _, ⟨h0, h1, h2, h3, h4, h5, h6, h7, h8, h9, h10, h11, h12, h13⟩, hI, hG⟩⟩)
      · refine a_iload_n S d_Mod_field_14 rfl rfl ?_
        refine a_bipush S (v := 7) d_Mod_field_15 (by decide) ?_
        refine a_icmp_le S (tgt := 24) d_Mod_field_17 rfl (fun hd_ => ?_) (fun hd_ => ?_)
        · obtain ⟨kd, hkd, rfl⟩ := k4_ix ha_ hb_
          obtain ⟨fg, hfg, rfl⟩ := k8_ix hc_ hd_
          refine a_aload_n S d_Mod_field_24 rfl rfl ?_
          refine a_get S kc_Mod 2 (by decide) lf_Mod_58 h0 rfl d_Mod_field_25 ?_
          refine a_if_ne S (tgt := 39) d_Mod_field_28 rfl (fun hs_ => ?_) (fun hs_ => ?_)
          · have hn : ¬ (s = false ∧ c < 5) := fun z => by rw [z.1] at hs_; exact hs_ rfl
            refine a_iconst S (v := 2) d_Mod_field_39 (by decide) ?_
            refine a_goto S (tgt := 44) d_Mod_field_40 rfl ?_
            refine a_put S kc_Mod kt_Mod 0 (by decide) lf_Mod_55 rfl h0 rfl rfl (Nat.le_of_ble_eq_true rfl) d_Mod_field_44 (fun w7 h0 e8 => ?_)
            have h0 : w7 b = some (.inr (6, [.int 2, .int (nI c), .int (if s then 1 else 0), .ref (b + 1), .ref (b + 2), .ref (b + 3), .ref (b + 4), .ref (b + 5), .ref (b + 6), .ref (b + 7), .int (nI m), .ref (b + 8), .int (nI kr.length), .ref (b + 9), .int (nI sz), .ref (b + 10), .ref (b + 11), .ref (b + 12), .ref (b + 13), .int (nI lo.length), .int (if he then nI hi.length else -1), .int (nI pt), .int (if bd then 1 else 0)])) := h0
            have fr := fr.trans (Fr.sub (Fr.of1 e8) (by omega) (by omega))
            have h1 := Fr.cell (Fr.of1 e8) h1 (by omega)
            have h2 := Fr.cell (Fr.of1 e8) h2 (by omega)
            have h3 := Fr.cell (Fr.of1 e8) h3 (by omega)
            have h4 := Fr.cell (Fr.of1 e8) h4 (by omega)
            have h5 := Fr.cell (Fr.of1 e8) h5 (by omega)
            have h6 := Fr.cell (Fr.of1 e8) h6 (by omega)
            have h7 := Fr.cell (Fr.of1 e8) h7 (by omega)
            have h8 := Fr.cell (Fr.of1 e8) h8 (by omega)
            have h9 := Fr.cell (Fr.of1 e8) h9 (by omega)
            have h10 := Fr.cell (Fr.of1 e8) h10 (by omega)
            have h11 := Fr.cell (Fr.of1 e8) h11 (by omega)
            have h12 := Fr.cell (Fr.of1 e8) h12 (by omega)
            have h13 := Fr.cell (Fr.of1 e8) h13 (by omega)
            refine a_aload_n S d_Mod_field_47 rfl rfl ?_
            refine a_get S kc_Mod 0 (by decide) lf_Mod_55 h0 rfl d_Mod_field_48 ?_
            refine a_if_eq S (tgt := 56) d_Mod_field_51 rfl (fun h51 => ?_) (fun h51 => ?_)
            · exact absurd h51 (by decide)
            · refine a_iconst S (v := 0) d_Mod_field_54 (by decide) ?_
              exact RT _ _ _ _ _ _ _ d_Mod_field_55 (by omega) (by omega) (Or.inl ⟨kd, fg, hkd, hfg, rfl, rfl, Or.inr ⟨hn, rfl, rfl, fr, ⟨_, _, _, _, _, _, _, _, _, _, _, _, _, _, _, _, ⟨h0, h1, h2, h3, h4, h5, h6, h7, h8, h9, h10, h11, h12, h13⟩, hI, hG⟩⟩⟩)
          · have hs0 : s = false := bo_0 hs_
            refine a_aload_n S d_Mod_field_31 rfl rfl ?_
            refine a_get S kc_Mod 1 (by decide) lf_Mod_62 h0 rfl d_Mod_field_32 ?_
            refine a_iconst S (v := 5) d_Mod_field_35 (by decide) ?_
            refine a_icmp_ne S (tgt := 43) d_Mod_field_36 rfl (fun h36 => ?_) (fun h36 => ?_)
            · have hc0 : c < 5 := Nat.lt_of_le_of_ne hc5 fun z => h36 (by rw [z]; rfl)
              refine a_iconst S (v := 0) d_Mod_field_43 (by decide) ?_
              refine a_put S kc_Mod kt_Mod 0 (by decide) lf_Mod_55 rfl h0 rfl rfl (Nat.le_of_ble_eq_true rfl) d_Mod_field_44 (fun w9 h0 e10 => ?_)
              have h0 : w9 b = some (.inr (6, [.int 0, .int (nI c), .int (if s then 1 else 0), .ref (b + 1), .ref (b + 2), .ref (b + 3), .ref (b + 4), .ref (b + 5), .ref (b + 6), .ref (b + 7), .int (nI m), .ref (b + 8), .int (nI kr.length), .ref (b + 9), .int (nI sz), .ref (b + 10), .ref (b + 11), .ref (b + 12), .ref (b + 13), .int (nI lo.length), .int (if he then nI hi.length else -1), .int (nI pt), .int (if bd then 1 else 0)])) := h0
              have fr := fr.trans (Fr.sub (Fr.of1 e10) (by omega) (by omega))
              have h1 := Fr.cell (Fr.of1 e10) h1 (by omega)
              have h2 := Fr.cell (Fr.of1 e10) h2 (by omega)
              have h3 := Fr.cell (Fr.of1 e10) h3 (by omega)
              have h4 := Fr.cell (Fr.of1 e10) h4 (by omega)
              have h5 := Fr.cell (Fr.of1 e10) h5 (by omega)
              have h6 := Fr.cell (Fr.of1 e10) h6 (by omega)
              have h7 := Fr.cell (Fr.of1 e10) h7 (by omega)
              have h8 := Fr.cell (Fr.of1 e10) h8 (by omega)
              have h9 := Fr.cell (Fr.of1 e10) h9 (by omega)
              have h10 := Fr.cell (Fr.of1 e10) h10 (by omega)
              have h11 := Fr.cell (Fr.of1 e10) h11 (by omega)
              have h12 := Fr.cell (Fr.of1 e10) h12 (by omega)
              have h13 := Fr.cell (Fr.of1 e10) h13 (by omega)
              refine a_aload_n S d_Mod_field_47 rfl rfl ?_
              refine a_get S kc_Mod 0 (by decide) lf_Mod_55 h0 rfl d_Mod_field_48 ?_
              refine a_if_eq S (tgt := 56) d_Mod_field_51 rfl (fun h51 => ?_) (fun h51 => ?_)
              · refine a_aload_n S d_Mod_field_56 rfl rfl ?_
                refine a_get S kc_Mod 3 (by decide) lf_Mod_7 h0 rfl d_Mod_field_57 ?_
                refine a_aload_n S d_Mod_field_60 rfl rfl ?_
                refine a_get S kc_Mod 1 (by decide) lf_Mod_62 h0 rfl d_Mod_field_61 ?_
                refine a_iload_n S d_Mod_field_64 rfl rfl ?_
                refine a_iast S (i := c) h1 rfl (by omega) (by decide) d_Mod_field_65 (fun w11 h1 e12 => ?_)
                have fr := fr.trans (Fr.sub (Fr.of1 e12) (by omega) (by omega))
                have h0 := Fr.cell (Fr.of1 e12) h0 (by omega)
                have h2 := Fr.cell (Fr.of1 e12) h2 (by omega)
                have h3 := Fr.cell (Fr.of1 e12) h3 (by omega)
                have h4 := Fr.cell (Fr.of1 e12) h4 (by omega)
                have h5 := Fr.cell (Fr.of1 e12) h5 (by omega)
                have h6 := Fr.cell (Fr.of1 e12) h6 (by omega)
                have h7 := Fr.cell (Fr.of1 e12) h7 (by omega)
                have h8 := Fr.cell (Fr.of1 e12) h8 (by omega)
                have h9 := Fr.cell (Fr.of1 e12) h9 (by omega)
                have h10 := Fr.cell (Fr.of1 e12) h10 (by omega)
                have h11 := Fr.cell (Fr.of1 e12) h11 (by omega)
                have h12 := Fr.cell (Fr.of1 e12) h12 (by omega)
                have h13 := Fr.cell (Fr.of1 e12) h13 (by omega)
                refine a_aload_n S d_Mod_field_66 rfl rfl ?_
                refine a_get S kc_Mod 4 (by decide) lf_Mod_13 h0 rfl d_Mod_field_67 ?_
                refine a_aload_n S d_Mod_field_70 rfl rfl ?_
                refine a_get S kc_Mod 1 (by decide) lf_Mod_62 h0 rfl d_Mod_field_71 ?_
                refine a_iload_n S d_Mod_field_74 rfl rfl ?_
                refine a_iast S (i := c) h2 rfl (by omega) (by decide) d_Mod_field_75 (fun w13 h2 e14 => ?_)
                have fr := fr.trans (Fr.sub (Fr.of1 e14) (by omega) (by omega))
                have h0 := Fr.cell (Fr.of1 e14) h0 (by omega)
                have h1 := Fr.cell (Fr.of1 e14) h1 (by omega)
                have h3 := Fr.cell (Fr.of1 e14) h3 (by omega)
                have h4 := Fr.cell (Fr.of1 e14) h4 (by omega)
                have h5 := Fr.cell (Fr.of1 e14) h5 (by omega)
                have h6 := Fr.cell (Fr.of1 e14) h6 (by omega)
                have h7 := Fr.cell (Fr.of1 e14) h7 (by omega)
                have h8 := Fr.cell (Fr.of1 e14) h8 (by omega)
                have h9 := Fr.cell (Fr.of1 e14) h9 (by omega)
                have h10 := Fr.cell (Fr.of1 e14) h10 (by omega)
                have h11 := Fr.cell (Fr.of1 e14) h11 (by omega)
                have h12 := Fr.cell (Fr.of1 e14) h12 (by omega)
                have h13 := Fr.cell (Fr.of1 e14) h13 (by omega)
                refine a_aload_n S d_Mod_field_76 rfl rfl ?_
                refine a_dup S d_Mod_field_77 rfl ?_
                refine a_get S kc_Mod 1 (by decide) lf_Mod_62 h0 rfl d_Mod_field_78 ?_
                refine a_iconst S (v := 1) d_Mod_field_81 (by decide) ?_
                refine a_iadd S d_Mod_field_82 ?_
                refine a_eqi (y := nI (c + 1)) (ni_add rfl rfl) ?_
                refine a_put S kc_Mod kt_Mod 1 (by decide) lf_Mod_62 rfl h0 rfl rfl (Nat.le_of_ble_eq_true rfl) d_Mod_field_83 (fun w15 h0 e16 => ?_)
                have h0 : w15 b = some (.inr (6, [.int 0, .int (nI (c + 1)), .int (if s then 1 else 0), .ref (b + 1), .ref (b + 2), .ref (b + 3), .ref (b + 4), .ref (b + 5), .ref (b + 6), .ref (b + 7), .int (nI m), .ref (b + 8), .int (nI kr.length), .ref (b + 9), .int (nI sz), .ref (b + 10), .ref (b + 11), .ref (b + 12), .ref (b + 13), .int (nI lo.length), .int (if he then nI hi.length else -1), .int (nI pt), .int (if bd then 1 else 0)])) := h0
                have fr := fr.trans (Fr.sub (Fr.of1 e16) (by omega) (by omega))
                have h1 := Fr.cell (Fr.of1 e16) h1 (by omega)
                have h2 := Fr.cell (Fr.of1 e16) h2 (by omega)
                have h3 := Fr.cell (Fr.of1 e16) h3 (by omega)
                have h4 := Fr.cell (Fr.of1 e16) h4 (by omega)
                have h5 := Fr.cell (Fr.of1 e16) h5 (by omega)
                have h6 := Fr.cell (Fr.of1 e16) h6 (by omega)
                have h7 := Fr.cell (Fr.of1 e16) h7 (by omega)
                have h8 := Fr.cell (Fr.of1 e16) h8 (by omega)
                have h9 := Fr.cell (Fr.of1 e16) h9 (by omega)
                have h10 := Fr.cell (Fr.of1 e16) h10 (by omega)
                have h11 := Fr.cell (Fr.of1 e16) h11 (by omega)
                have h12 := Fr.cell (Fr.of1 e16) h12 (by omega)
                have h13 := Fr.cell (Fr.of1 e16) h13 (by omega)
                refine a_aload_n S d_Mod_field_86 rfl rfl ?_
                refine a_get S kc_Mod 1 (by decide) lf_Mod_62 h0 rfl d_Mod_field_87 ?_
                refine a_iconst S (v := 1) d_Mod_field_90 (by decide) ?_
                refine a_isub S d_Mod_field_91 ?_
                refine a_eqi (y := nI (c + 1 - 1)) (ni_sub rfl rfl (by omega)) ?_
                exact RT _ _ _ _ _ _ _ d_Mod_field_92 (by omega) (by omega) (Or.inl ⟨kd, fg, hkd, hfg, rfl, rfl, Or.inl ⟨hs0, hc0, rfl, rfl, fr, ⟨_, _, _, _, _, _, _, _, _, _, _, _, _, _, _, _, ⟨h0, h1, h2, h3, h4, h5, h6, h7, h8, h9, h10, h11, h12, h13⟩, (hI.fd hV hs0 hc0 hkd hfg), hG⟩⟩⟩)
              · exact absurd (by decide) h51
            · have hn : ¬ (s = false ∧ c < 5) := fun z => absurd (show c = 5 from (nI_eq (by omega) (by decide)).mp h36) (by omega)
              refine a_iconst S (v := 2) d_Mod_field_39 (by decide) ?_
              refine a_goto S (tgt := 44) d_Mod_field_40 rfl ?_
              refine a_put S kc_Mod kt_Mod 0 (by decide) lf_Mod_55 rfl h0 rfl rfl (Nat.le_of_ble_eq_true rfl) d_Mod_field_44 (fun w17 h0 e18 => ?_)
              have h0 : w17 b = some (.inr (6, [.int 2, .int (nI c), .int (if s then 1 else 0), .ref (b + 1), .ref (b + 2), .ref (b + 3), .ref (b + 4), .ref (b + 5), .ref (b + 6), .ref (b + 7), .int (nI m), .ref (b + 8), .int (nI kr.length), .ref (b + 9), .int (nI sz), .ref (b + 10), .ref (b + 11), .ref (b + 12), .ref (b + 13), .int (nI lo.length), .int (if he then nI hi.length else -1), .int (nI pt), .int (if bd then 1 else 0)])) := h0
              have fr := fr.trans (Fr.sub (Fr.of1 e18) (by omega) (by omega))
              have h1 := Fr.cell (Fr.of1 e18) h1 (by omega)
              have h2 := Fr.cell (Fr.of1 e18) h2 (by omega)
              have h3 := Fr.cell (Fr.of1 e18) h3 (by omega)
              have h4 := Fr.cell (Fr.of1 e18) h4 (by omega)
              have h5 := Fr.cell (Fr.of1 e18) h5 (by omega)
              have h6 := Fr.cell (Fr.of1 e18) h6 (by omega)
              have h7 := Fr.cell (Fr.of1 e18) h7 (by omega)
              have h8 := Fr.cell (Fr.of1 e18) h8 (by omega)
              have h9 := Fr.cell (Fr.of1 e18) h9 (by omega)
              have h10 := Fr.cell (Fr.of1 e18) h10 (by omega)
              have h11 := Fr.cell (Fr.of1 e18) h11 (by omega)
              have h12 := Fr.cell (Fr.of1 e18) h12 (by omega)
              have h13 := Fr.cell (Fr.of1 e18) h13 (by omega)
              refine a_aload_n S d_Mod_field_47 rfl rfl ?_
              refine a_get S kc_Mod 0 (by decide) lf_Mod_55 h0 rfl d_Mod_field_48 ?_
              refine a_if_eq S (tgt := 56) d_Mod_field_51 rfl (fun h51 => ?_) (fun h51 => ?_)
              · exact absurd h51 (by decide)
              · refine a_iconst S (v := 0) d_Mod_field_54 (by decide) ?_
                exact RT _ _ _ _ _ _ _ d_Mod_field_55 (by omega) (by omega) (Or.inl ⟨kd, fg, hkd, hfg, rfl, rfl, Or.inr ⟨hn, rfl, rfl, fr, ⟨_, _, _, _, _, _, _, _, _, _, _, _, _, _, _, _, ⟨h0, h1, h2, h3, h4, h5, h6, h7, h8, h9, h10, h11, h12, h13⟩, hI, hG⟩⟩⟩)
        · have hx : ∀ kd fg, kd < 4 → fg < 8 → x = nI kd → y = nI fg → False := fun kd fg q1 q2 e1_ e2_ => by subst e1_ e2_; exact absurd ((nI_leI (b := 7) (by omega) (by decide)).mpr (by omega)) hd_
          refine a_iconst S (v := 1) d_Mod_field_20 (by decide) ?_
          refine a_goto S (tgt := 44) d_Mod_field_21 rfl ?_
          refine a_put S kc_Mod kt_Mod 0 (by decide) lf_Mod_55 rfl h0 rfl rfl (Nat.le_of_ble_eq_true rfl) d_Mod_field_44 (fun w19 h0 e20 => ?_)
          have h0 : w19 b = some (.inr (6, [.int 1, .int (nI c), .int (if s then 1 else 0), .ref (b + 1), .ref (b + 2), .ref (b + 3), .ref (b + 4), .ref (b + 5), .ref (b + 6), .ref (b + 7), .int (nI m), .ref (b + 8), .int (nI kr.length), .ref (b + 9), .int (nI sz), .ref (b + 10), .ref (b + 11), .ref (b + 12), .ref (b + 13), .int (nI lo.length), .int (if he then nI hi.length else -1), .int (nI pt), .int (if bd then 1 else 0)])) := h0
          have fr := fr.trans (Fr.sub (Fr.of1 e20) (by omega) (by omega))
          have h1 := Fr.cell (Fr.of1 e20) h1 (by omega)
          have h2 := Fr.cell (Fr.of1 e20) h2 (by omega)
          have h3 := Fr.cell (Fr.of1 e20) h3 (by omega)
          have h4 := Fr.cell (Fr.of1 e20) h4 (by omega)
          have h5 := Fr.cell (Fr.of1 e20) h5 (by omega)
          have h6 := Fr.cell (Fr.of1 e20) h6 (by omega)
          have h7 := Fr.cell (Fr.of1 e20) h7 (by omega)
          have h8 := Fr.cell (Fr.of1 e20) h8 (by omega)
          have h9 := Fr.cell (Fr.of1 e20) h9 (by omega)
          have h10 := Fr.cell (Fr.of1 e20) h10 (by omega)
          have h11 := Fr.cell (Fr.of1 e20) h11 (by omega)
          have h12 := Fr.cell (Fr.of1 e20) h12 (by omega)
          have h13 := Fr.cell (Fr.of1 e20) h13 (by omega)
          refine a_aload_n S d_Mod_field_47 rfl rfl ?_
          refine a_get S kc_Mod 0 (by decide) lf_Mod_55 h0 rfl d_Mod_field_48 ?_
          refine a_if_eq S (tgt := 56) d_Mod_field_51 rfl (fun h51 => ?_) (fun h51 => ?_)
          · exact absurd h51 (by decide)
          · refine a_iconst S (v := 0) d_Mod_field_54 (by decide) ?_
            exact RT _ _ _ _ _ _ _ d_Mod_field_55 (by omega) (by omega) (Or.inr ⟨hx, rfl, rfl, fr, ⟨_, _, _, _, _, _, _, _, _, _, _, _, _, _, _, _, ⟨h0, h1, h2, h3, h4, h5, h6, h7, h8, h9, h10, h11, h12, h13⟩, hI, hG⟩⟩)
set_option maxHeartbeats 400000 in
set_option maxRecDepth 100000 in
theorem c_Mod_init (l : Launch) (D : kD) (b : Nat) (w : ww) (h0 : w b = some (.inr (6, [.int 0, .int 0, .int 0, .null, .null, .null, .null, .null, .null, .null, .int 0, .null, .int 0, .null, .int 0, .null, .null, .null, .null, .int 0, .int 0, .int 0, .int 0]))) : AM l D M_Mod_init 1 13 1924 [.ref b] w (b + 1) (fun v w' n' => v = none ∧ n' = b + 14 ∧ Fr w w' b 14 ∧ Mdl D w' b 0 0 false (fun _ => 0) (fun _ => 0) (fun _ => (false, 0, 0, [])) [] 0 (fun _ _ => (false, 0, 0, [])) [] [] false) := by
  refine AM.ofv (by decide +kernel) rfl (Nat.le_of_ble_eq_true rfl) (fun X A Q hin S RT => ?_)
  have S : FX X (D, A, 1, Q) prog_9_method_1_code "KeyCodecModel" 1 13 1924 := S
  have RT : RTv X (D, A, 1, Q) prog_9_method_1_code 13 1924 _ := RT
  refine a_lve (lv' := [(0, .ref b)]) rfl ?_
  have fr : Fr w w b 14 := Fr.refl _ _ _
  refine a_aload_n S d_Mod_init_0 rfl rfl ?_
  refine a_objInit S lo_Mod_1 ts_oi1 ts_oi2 (by decide) (Nat.le_of_ble_eq_true rfl) d_Mod_init_1 ?_
  refine a_aload_n S d_Mod_init_4 rfl rfl ?_
  refine a_iconst S (v := 5) d_Mod_init_5 (by decide) ?_
  refine a_newa S (at0 := .int) (ty := .int) (t0 := 0) (N := 5) (a0 := (5, .inl (fun _ => 0))) rfl rfl (fun _ _ h => h) ar_int (fun _ => rfl) rfl (by decide) (by decide) (by omega) (by omega) d_Mod_init_6 (fun w1 hn3 e2 => ?_)
  have fr := fr.trans (Fr.sub (Fr.of1 e2) (by omega) (by omega))
  have h0 := Fr.cell (Fr.of1 e2) h0 (by omega)
  refine a_putF S hin kc_Mod kt_Mod 3 (by decide) lf_Mod_7 rfl rfl h0 rfl rfl (Nat.le_of_ble_eq_true rfl) d_Mod_init_8 (fun w4 h0 e5 => ?_)
  have h0 : w4 b = some (.inr (6, [.int 0, .int 0, .int 0, .ref (b + 1), .null, .null, .null, .null, .null, .null, .int 0, .null, .int 0, .null, .int 0, .null, .null, .null, .null, .int 0, .int 0, .int 0, .int 0])) := h0
  have fr := fr.trans (Fr.sub (Fr.of1 e5) (by omega) (by omega))
  have hn3 := Fr.cell (Fr.of1 e5) hn3 (by omega)
  refine a_aload_n S d_Mod_init_11 rfl rfl ?_
  refine a_iconst S (v := 5) d_Mod_init_12 (by decide) ?_
  refine a_newa S (at0 := .int) (ty := .int) (t0 := 0) (N := 5) (a0 := (5, .inl (fun _ => 0))) rfl rfl (fun _ _ h => h) ar_int (fun _ => rfl) rfl (by decide) (by decide) (by omega) (by omega) d_Mod_init_13 (fun w6 hn8 e7 => ?_)
  have fr := fr.trans (Fr.sub (Fr.of1 e7) (by omega) (by omega))
  have h0 := Fr.cell (Fr.of1 e7) h0 (by omega)
  have hn3 := Fr.cell (Fr.of1 e7) hn3 (by omega)
  refine a_putF S hin kc_Mod kt_Mod 4 (by decide) lf_Mod_13 rfl rfl h0 rfl rfl (Nat.le_of_ble_eq_true rfl) d_Mod_init_15 (fun w9 h0 e10 => ?_)
  have h0 : w9 b = some (.inr (6, [.int 0, .int 0, .int 0, .ref (b + 1), .ref (b + 2), .null, .null, .null, .null, .null, .int 0, .null, .int 0, .null, .int 0, .null, .null, .null, .null, .int 0, .int 0, .int 0, .int 0])) := h0
  have fr := fr.trans (Fr.sub (Fr.of1 e10) (by omega) (by omega))
  have hn3 := Fr.cell (Fr.of1 e10) hn3 (by omega)
  have hn8 := Fr.cell (Fr.of1 e10) hn8 (by omega)
  refine a_aload_n S d_Mod_init_18 rfl rfl ?_
  refine a_bipush S (v := 70) d_Mod_init_19 (by decide) ?_
  refine a_newa S (at0 := .long) (ty := .long) (t0 := 1) (N := 70) (a0 := (70, .inr (.inl (fun _ => 0)))) rfl rfl (fun _ _ h => h) ar_long (fun _ => rfl) rfl (by decide) (by decide) (by omega) (by omega) d_Mod_init_21 (fun w11 hn13 e12 => ?_)
  have fr := fr.trans (Fr.sub (Fr.of1 e12) (by omega) (by omega))
  have h0 := Fr.cell (Fr.of1 e12) h0 (by omega)
  have hn3 := Fr.cell (Fr.of1 e12) hn3 (by omega)
  have hn8 := Fr.cell (Fr.of1 e12) hn8 (by omega)
  refine a_putF S hin kc_Mod kt_Mod 5 (by decide) lf_Mod_16 rfl rfl h0 rfl rfl (Nat.le_of_ble_eq_true rfl) d_Mod_init_23 (fun w14 h0 e15 => ?_)
  have h0 : w14 b = some (.inr (6, [.int 0, .int 0, .int 0, .ref (b + 1), .ref (b + 2), .ref (b + 3), .null, .null, .null, .null, .int 0, .null, .int 0, .null, .int 0, .null, .null, .null, .null, .int 0, .int 0, .int 0, .int 0])) := h0
  have fr := fr.trans (Fr.sub (Fr.of1 e15) (by omega) (by omega))
  have hn3 := Fr.cell (Fr.of1 e15) hn3 (by omega)
  have hn8 := Fr.cell (Fr.of1 e15) hn8 (by omega)
  have hn13 := Fr.cell (Fr.of1 e15) hn13 (by omega)
  refine a_aload_n S d_Mod_init_26 rfl rfl ?_
  refine a_bipush S (v := 70) d_Mod_init_27 (by decide) ?_
  refine a_newa S (at0 := .int) (ty := .int) (t0 := 0) (N := 70) (a0 := (70, .inl (fun _ => 0))) rfl rfl (fun _ _ h => h) ar_int (fun _ => rfl) rfl (by decide) (by decide) (by omega) (by omega) d_Mod_init_29 (fun w16 hn18 e17 => ?_)
  have fr := fr.trans (Fr.sub (Fr.of1 e17) (by omega) (by omega))
  have h0 := Fr.cell (Fr.of1 e17) h0 (by omega)
  have hn3 := Fr.cell (Fr.of1 e17) hn3 (by omega)
  have hn8 := Fr.cell (Fr.of1 e17) hn8 (by omega)
  have hn13 := Fr.cell (Fr.of1 e17) hn13 (by omega)
  refine a_putF S hin kc_Mod kt_Mod 6 (by decide) lf_Mod_20 rfl rfl h0 rfl rfl (Nat.le_of_ble_eq_true rfl) d_Mod_init_31 (fun w19 h0 e20 => ?_)
  have h0 : w19 b = some (.inr (6, [.int 0, .int 0, .int 0, .ref (b + 1), .ref (b + 2), .ref (b + 3), .ref (b + 4), .null, .null, .null, .int 0, .null, .int 0, .null, .int 0, .null, .null, .null, .null, .int 0, .int 0, .int 0, .int 0])) := h0
  have fr := fr.trans (Fr.sub (Fr.of1 e20) (by omega) (by omega))
  have hn3 := Fr.cell (Fr.of1 e20) hn3 (by omega)
  have hn8 := Fr.cell (Fr.of1 e20) hn8 (by omega)
  have hn13 := Fr.cell (Fr.of1 e20) hn13 (by omega)
  have hn18 := Fr.cell (Fr.of1 e20) hn18 (by omega)
  refine a_aload_n S d_Mod_init_34 rfl rfl ?_
  refine a_bipush S (v := 70) d_Mod_init_35 (by decide) ?_
  refine a_newa S (at0 := .boolean) (ty := .boolean) (t0 := 2) (N := 70) (a0 := (70, .inl (fun _ => 0))) rfl rfl (fun _ _ h => h) ar_boolean (fun _ => rfl) rfl (by decide) (by decide) (by omega) (by omega) d_Mod_init_37 (fun w21 hn23 e22 => ?_)
  have fr := fr.trans (Fr.sub (Fr.of1 e22) (by omega) (by omega))
  have h0 := Fr.cell (Fr.of1 e22) h0 (by omega)
  have hn3 := Fr.cell (Fr.of1 e22) hn3 (by omega)
  have hn8 := Fr.cell (Fr.of1 e22) hn8 (by omega)
  have hn13 := Fr.cell (Fr.of1 e22) hn13 (by omega)
  have hn18 := Fr.cell (Fr.of1 e22) hn18 (by omega)
  refine a_putF S hin kc_Mod kt_Mod 7 (by decide) lf_Mod_23 rfl rfl h0 rfl rfl (Nat.le_of_ble_eq_true rfl) d_Mod_init_39 (fun w24 h0 e25 => ?_)
  have h0 : w24 b = some (.inr (6, [.int 0, .int 0, .int 0, .ref (b + 1), .ref (b + 2), .ref (b + 3), .ref (b + 4), .ref (b + 5), .null, .null, .int 0, .null, .int 0, .null, .int 0, .null, .null, .null, .null, .int 0, .int 0, .int 0, .int 0])) := h0
  have fr := fr.trans (Fr.sub (Fr.of1 e25) (by omega) (by omega))
  have hn3 := Fr.cell (Fr.of1 e25) hn3 (by omega)
  have hn8 := Fr.cell (Fr.of1 e25) hn8 (by omega)
  have hn13 := Fr.cell (Fr.of1 e25) hn13 (by omega)
  have hn18 := Fr.cell (Fr.of1 e25) hn18 (by omega)
  have hn23 := Fr.cell (Fr.of1 e25) hn23 (by omega)
  refine a_aload_n S d_Mod_init_42 rfl rfl ?_
  refine a_bipush S (v := 70) d_Mod_init_43 (by decide) ?_
  refine a_newa S (at0 := .int) (ty := .int) (t0 := 0) (N := 70) (a0 := (70, .inl (fun _ => 0))) rfl rfl (fun _ _ h => h) ar_int (fun _ => rfl) rfl (by decide) (by decide) (by omega) (by omega) d_Mod_init_45 (fun w26 hn28 e27 => ?_)
  have fr := fr.trans (Fr.sub (Fr.of1 e27) (by omega) (by omega))
  have h0 := Fr.cell (Fr.of1 e27) h0 (by omega)
  have hn3 := Fr.cell (Fr.of1 e27) hn3 (by omega)
  have hn8 := Fr.cell (Fr.of1 e27) hn8 (by omega)
  have hn13 := Fr.cell (Fr.of1 e27) hn13 (by omega)
  have hn18 := Fr.cell (Fr.of1 e27) hn18 (by omega)
  have hn23 := Fr.cell (Fr.of1 e27) hn23 (by omega)
  refine a_putF S hin kc_Mod kt_Mod 8 (by decide) lf_Mod_27 rfl rfl h0 rfl rfl (Nat.le_of_ble_eq_true rfl) d_Mod_init_47 (fun w29 h0 e30 => ?_)
  have h0 : w29 b = some (.inr (6, [.int 0, .int 0, .int 0, .ref (b + 1), .ref (b + 2), .ref (b + 3), .ref (b + 4), .ref (b + 5), .ref (b + 6), .null, .int 0, .null, .int 0, .null, .int 0, .null, .null, .null, .null, .int 0, .int 0, .int 0, .int 0])) := h0
  have fr := fr.trans (Fr.sub (Fr.of1 e30) (by omega) (by omega))
  have hn3 := Fr.cell (Fr.of1 e30) hn3 (by omega)
  have hn8 := Fr.cell (Fr.of1 e30) hn8 (by omega)
  have hn13 := Fr.cell (Fr.of1 e30) hn13 (by omega)
  have hn18 := Fr.cell (Fr.of1 e30) hn18 (by omega)
  have hn23 := Fr.cell (Fr.of1 e30) hn23 (by omega)
  have hn28 := Fr.cell (Fr.of1 e30) hn28 (by omega)
  refine a_aload_n S d_Mod_init_50 rfl rfl ?_
  refine a_sipush S (v := 700) d_Mod_init_51 (by decide) ?_
  refine a_newa S (at0 := .int) (ty := .int) (t0 := 0) (N := 700) (a0 := (700, .inl (fun _ => 0))) rfl rfl (fun _ _ h => h) ar_int (fun _ => rfl) rfl (by decide) (by decide) (by omega) (by omega) d_Mod_init_54 (fun w31 hn33 e32 => ?_)
  have fr := fr.trans (Fr.sub (Fr.of1 e32) (by omega) (by omega))
  have h0 := Fr.cell (Fr.of1 e32) h0 (by omega)
  have hn3 := Fr.cell (Fr.of1 e32) hn3 (by omega)
  have hn8 := Fr.cell (Fr.of1 e32) hn8 (by omega)
  have hn13 := Fr.cell (Fr.of1 e32) hn13 (by omega)
  have hn18 := Fr.cell (Fr.of1 e32) hn18 (by omega)
  have hn23 := Fr.cell (Fr.of1 e32) hn23 (by omega)
  have hn28 := Fr.cell (Fr.of1 e32) hn28 (by omega)
  refine a_putF S hin kc_Mod kt_Mod 9 (by decide) lf_Mod_30 rfl rfl h0 rfl rfl (Nat.le_of_ble_eq_true rfl) d_Mod_init_56 (fun w34 h0 e35 => ?_)
  have h0 : w34 b = some (.inr (6, [.int 0, .int 0, .int 0, .ref (b + 1), .ref (b + 2), .ref (b + 3), .ref (b + 4), .ref (b + 5), .ref (b + 6), .ref (b + 7), .int 0, .null, .int 0, .null, .int 0, .null, .null, .null, .null, .int 0, .int 0, .int 0, .int 0])) := h0
  have fr := fr.trans (Fr.sub (Fr.of1 e35) (by omega) (by omega))
  have hn3 := Fr.cell (Fr.of1 e35) hn3 (by omega)
  have hn8 := Fr.cell (Fr.of1 e35) hn8 (by omega)
  have hn13 := Fr.cell (Fr.of1 e35) hn13 (by omega)
  have hn18 := Fr.cell (Fr.of1 e35) hn18 (by omega)
  have hn23 := Fr.cell (Fr.of1 e35) hn23 (by omega)
  have hn28 := Fr.cell (Fr.of1 e35) hn28 (by omega)
  have hn33 := Fr.cell (Fr.of1 e35) hn33 (by omega)
  refine a_aload_n S d_Mod_init_59 rfl rfl ?_
  refine a_bipush S (v := 120) d_Mod_init_60 (by decide) ?_
  refine a_newa S (at0 := .int) (ty := .int) (t0 := 0) (N := 120) (a0 := (120, .inl (fun _ => 0))) rfl rfl (fun _ _ h => h) ar_int (fun _ => rfl) rfl (by decide) (by decide) (by omega) (by omega) d_Mod_init_62 (fun w36 hn38 e37 => ?_)
  have fr := fr.trans (Fr.sub (Fr.of1 e37) (by omega) (by omega))
  have h0 := Fr.cell (Fr.of1 e37) h0 (by omega)
  have hn3 := Fr.cell (Fr.of1 e37) hn3 (by omega)
  have hn8 := Fr.cell (Fr.of1 e37) hn8 (by omega)
  have hn13 := Fr.cell (Fr.of1 e37) hn13 (by omega)
  have hn18 := Fr.cell (Fr.of1 e37) hn18 (by omega)
  have hn23 := Fr.cell (Fr.of1 e37) hn23 (by omega)
  have hn28 := Fr.cell (Fr.of1 e37) hn28 (by omega)
  have hn33 := Fr.cell (Fr.of1 e37) hn33 (by omega)
  refine a_putF S hin kc_Mod kt_Mod 11 (by decide) lf_Mod_33 rfl rfl h0 rfl rfl (Nat.le_of_ble_eq_true rfl) d_Mod_init_64 (fun w39 h0 e40 => ?_)
  have h0 : w39 b = some (.inr (6, [.int 0, .int 0, .int 0, .ref (b + 1), .ref (b + 2), .ref (b + 3), .ref (b + 4), .ref (b + 5), .ref (b + 6), .ref (b + 7), .int 0, .ref (b + 8), .int 0, .null, .int 0, .null, .null, .null, .null, .int 0, .int 0, .int 0, .int 0])) := h0
  have fr := fr.trans (Fr.sub (Fr.of1 e40) (by omega) (by omega))
  have hn3 := Fr.cell (Fr.of1 e40) hn3 (by omega)
  have hn8 := Fr.cell (Fr.of1 e40) hn8 (by omega)
  have hn13 := Fr.cell (Fr.of1 e40) hn13 (by omega)
  have hn18 := Fr.cell (Fr.of1 e40) hn18 (by omega)
  have hn23 := Fr.cell (Fr.of1 e40) hn23 (by omega)
  have hn28 := Fr.cell (Fr.of1 e40) hn28 (by omega)
  have hn33 := Fr.cell (Fr.of1 e40) hn33 (by omega)
  have hn38 := Fr.cell (Fr.of1 e40) hn38 (by omega)
  refine a_aload_n S d_Mod_init_67 rfl rfl ?_
  refine a_sipush S (v := 400) d_Mod_init_68 (by decide) ?_
  refine a_newa S (at0 := .int) (ty := .int) (t0 := 0) (N := 400) (a0 := (400, .inl (fun _ => 0))) rfl rfl (fun _ _ h => h) ar_int (fun _ => rfl) rfl (by decide) (by decide) (by omega) (by omega) d_Mod_init_71 (fun w41 hn43 e42 => ?_)
  have fr := fr.trans (Fr.sub (Fr.of1 e42) (by omega) (by omega))
  have h0 := Fr.cell (Fr.of1 e42) h0 (by omega)
  have hn3 := Fr.cell (Fr.of1 e42) hn3 (by omega)
  have hn8 := Fr.cell (Fr.of1 e42) hn8 (by omega)
  have hn13 := Fr.cell (Fr.of1 e42) hn13 (by omega)
  have hn18 := Fr.cell (Fr.of1 e42) hn18 (by omega)
  have hn23 := Fr.cell (Fr.of1 e42) hn23 (by omega)
  have hn28 := Fr.cell (Fr.of1 e42) hn28 (by omega)
  have hn33 := Fr.cell (Fr.of1 e42) hn33 (by omega)
  have hn38 := Fr.cell (Fr.of1 e42) hn38 (by omega)
  refine a_putF S hin kc_Mod kt_Mod 13 (by decide) lf_Mod_36 rfl rfl h0 rfl rfl (Nat.le_of_ble_eq_true rfl) d_Mod_init_73 (fun w44 h0 e45 => ?_)
  have h0 : w44 b = some (.inr (6, [.int 0, .int 0, .int 0, .ref (b + 1), .ref (b + 2), .ref (b + 3), .ref (b + 4), .ref (b + 5), .ref (b + 6), .ref (b + 7), .int 0, .ref (b + 8), .int 0, .ref (b + 9), .int 0, .null, .null, .null, .null, .int 0, .int 0, .int 0, .int 0])) := h0
  have fr := fr.trans (Fr.sub (Fr.of1 e45) (by omega) (by omega))
  have hn3 := Fr.cell (Fr.of1 e45) hn3 (by omega)
  have hn8 := Fr.cell (Fr.of1 e45) hn8 (by omega)
  have hn13 := Fr.cell (Fr.of1 e45) hn13 (by omega)
  have hn18 := Fr.cell (Fr.of1 e45) hn18 (by omega)
  have hn23 := Fr.cell (Fr.of1 e45) hn23 (by omega)
  have hn28 := Fr.cell (Fr.of1 e45) hn28 (by omega)
  have hn33 := Fr.cell (Fr.of1 e45) hn33 (by omega)
  have hn38 := Fr.cell (Fr.of1 e45) hn38 (by omega)
  have hn43 := Fr.cell (Fr.of1 e45) hn43 (by omega)
  refine a_aload_n S d_Mod_init_76 rfl rfl ?_
  refine a_bipush S (v := 12) d_Mod_init_77 (by decide) ?_
  refine a_newa S (at0 := .int) (ty := .int) (t0 := 0) (N := 12) (a0 := (12, .inl (fun _ => 0))) rfl rfl (fun _ _ h => h) ar_int (fun _ => rfl) rfl (by decide) (by decide) (by omega) (by omega) d_Mod_init_79 (fun w46 hn48 e47 => ?_)
  have fr := fr.trans (Fr.sub (Fr.of1 e47) (by omega) (by omega))
  have h0 := Fr.cell (Fr.of1 e47) h0 (by omega)
  have hn3 := Fr.cell (Fr.of1 e47) hn3 (by omega)
  have hn8 := Fr.cell (Fr.of1 e47) hn8 (by omega)
  have hn13 := Fr.cell (Fr.of1 e47) hn13 (by omega)
  have hn18 := Fr.cell (Fr.of1 e47) hn18 (by omega)
  have hn23 := Fr.cell (Fr.of1 e47) hn23 (by omega)
  have hn28 := Fr.cell (Fr.of1 e47) hn28 (by omega)
  have hn33 := Fr.cell (Fr.of1 e47) hn33 (by omega)
  have hn38 := Fr.cell (Fr.of1 e47) hn38 (by omega)
  have hn43 := Fr.cell (Fr.of1 e47) hn43 (by omega)
  refine a_putF S hin kc_Mod kt_Mod 15 (by decide) lf_Mod_39 rfl rfl h0 rfl rfl (Nat.le_of_ble_eq_true rfl) d_Mod_init_81 (fun w49 h0 e50 => ?_)
  have h0 : w49 b = some (.inr (6, [.int 0, .int 0, .int 0, .ref (b + 1), .ref (b + 2), .ref (b + 3), .ref (b + 4), .ref (b + 5), .ref (b + 6), .ref (b + 7), .int 0, .ref (b + 8), .int 0, .ref (b + 9), .int 0, .ref (b + 10), .null, .null, .null, .int 0, .int 0, .int 0, .int 0])) := h0
  have fr := fr.trans (Fr.sub (Fr.of1 e50) (by omega) (by omega))
  have hn3 := Fr.cell (Fr.of1 e50) hn3 (by omega)
  have hn8 := Fr.cell (Fr.of1 e50) hn8 (by omega)
  have hn13 := Fr.cell (Fr.of1 e50) hn13 (by omega)
  have hn18 := Fr.cell (Fr.of1 e50) hn18 (by omega)
  have hn23 := Fr.cell (Fr.of1 e50) hn23 (by omega)
  have hn28 := Fr.cell (Fr.of1 e50) hn28 (by omega)
  have hn33 := Fr.cell (Fr.of1 e50) hn33 (by omega)
  have hn38 := Fr.cell (Fr.of1 e50) hn38 (by omega)
  have hn43 := Fr.cell (Fr.of1 e50) hn43 (by omega)
  have hn48 := Fr.cell (Fr.of1 e50) hn48 (by omega)
  refine a_aload_n S d_Mod_init_84 rfl rfl ?_
  refine a_iconst S (v := 2) d_Mod_init_85 (by decide) ?_
  refine a_newa S (at0 := .int) (ty := .int) (t0 := 0) (N := 2) (a0 := (2, .inl (fun _ => 0))) rfl rfl (fun _ _ h => h) ar_int (fun _ => rfl) rfl (by decide) (by decide) (by omega) (by omega) d_Mod_init_86 (fun w51 hn53 e52 => ?_)
  have fr := fr.trans (Fr.sub (Fr.of1 e52) (by omega) (by omega))
  have h0 := Fr.cell (Fr.of1 e52) h0 (by omega)
  have hn3 := Fr.cell (Fr.of1 e52) hn3 (by omega)
  have hn8 := Fr.cell (Fr.of1 e52) hn8 (by omega)
  have hn13 := Fr.cell (Fr.of1 e52) hn13 (by omega)
  have hn18 := Fr.cell (Fr.of1 e52) hn18 (by omega)
  have hn23 := Fr.cell (Fr.of1 e52) hn23 (by omega)
  have hn28 := Fr.cell (Fr.of1 e52) hn28 (by omega)
  have hn33 := Fr.cell (Fr.of1 e52) hn33 (by omega)
  have hn38 := Fr.cell (Fr.of1 e52) hn38 (by omega)
  have hn43 := Fr.cell (Fr.of1 e52) hn43 (by omega)
  have hn48 := Fr.cell (Fr.of1 e52) hn48 (by omega)
  refine a_putF S hin kc_Mod kt_Mod 16 (by decide) lf_Mod_42 rfl rfl h0 rfl rfl (Nat.le_of_ble_eq_true rfl) d_Mod_init_88 (fun w54 h0 e55 => ?_)
  have h0 : w54 b = some (.inr (6, [.int 0, .int 0, .int 0, .ref (b + 1), .ref (b + 2), .ref (b + 3), .ref (b + 4), .ref (b + 5), .ref (b + 6), .ref (b + 7), .int 0, .ref (b + 8), .int 0, .ref (b + 9), .int 0, .ref (b + 10), .ref (b + 11), .null, .null, .int 0, .int 0, .int 0, .int 0])) := h0
  have fr := fr.trans (Fr.sub (Fr.of1 e55) (by omega) (by omega))
  have hn3 := Fr.cell (Fr.of1 e55) hn3 (by omega)
  have hn8 := Fr.cell (Fr.of1 e55) hn8 (by omega)
  have hn13 := Fr.cell (Fr.of1 e55) hn13 (by omega)
  have hn18 := Fr.cell (Fr.of1 e55) hn18 (by omega)
  have hn23 := Fr.cell (Fr.of1 e55) hn23 (by omega)
  have hn28 := Fr.cell (Fr.of1 e55) hn28 (by omega)
  have hn33 := Fr.cell (Fr.of1 e55) hn33 (by omega)
  have hn38 := Fr.cell (Fr.of1 e55) hn38 (by omega)
  have hn43 := Fr.cell (Fr.of1 e55) hn43 (by omega)
  have hn48 := Fr.cell (Fr.of1 e55) hn48 (by omega)
  have hn53 := Fr.cell (Fr.of1 e55) hn53 (by omega)
  refine a_aload_n S d_Mod_init_91 rfl rfl ?_
  refine a_sipush S (v := 200) d_Mod_init_92 (by decide) ?_
  refine a_newa S (at0 := .int) (ty := .int) (t0 := 0) (N := 200) (a0 := (200, .inl (fun _ => 0))) rfl rfl (fun _ _ h => h) ar_int (fun _ => rfl) rfl (by decide) (by decide) (by omega) (by omega) d_Mod_init_95 (fun w56 hn58 e57 => ?_)
  have fr := fr.trans (Fr.sub (Fr.of1 e57) (by omega) (by omega))
  have h0 := Fr.cell (Fr.of1 e57) h0 (by omega)
  have hn3 := Fr.cell (Fr.of1 e57) hn3 (by omega)
  have hn8 := Fr.cell (Fr.of1 e57) hn8 (by omega)
  have hn13 := Fr.cell (Fr.of1 e57) hn13 (by omega)
  have hn18 := Fr.cell (Fr.of1 e57) hn18 (by omega)
  have hn23 := Fr.cell (Fr.of1 e57) hn23 (by omega)
  have hn28 := Fr.cell (Fr.of1 e57) hn28 (by omega)
  have hn33 := Fr.cell (Fr.of1 e57) hn33 (by omega)
  have hn38 := Fr.cell (Fr.of1 e57) hn38 (by omega)
  have hn43 := Fr.cell (Fr.of1 e57) hn43 (by omega)
  have hn48 := Fr.cell (Fr.of1 e57) hn48 (by omega)
  have hn53 := Fr.cell (Fr.of1 e57) hn53 (by omega)
  refine a_putF S hin kc_Mod kt_Mod 17 (by decide) lf_Mod_45 rfl rfl h0 rfl rfl (Nat.le_of_ble_eq_true rfl) d_Mod_init_97 (fun w59 h0 e60 => ?_)
  have h0 : w59 b = some (.inr (6, [.int 0, .int 0, .int 0, .ref (b + 1), .ref (b + 2), .ref (b + 3), .ref (b + 4), .ref (b + 5), .ref (b + 6), .ref (b + 7), .int 0, .ref (b + 8), .int 0, .ref (b + 9), .int 0, .ref (b + 10), .ref (b + 11), .ref (b + 12), .null, .int 0, .int 0, .int 0, .int 0])) := h0
  have fr := fr.trans (Fr.sub (Fr.of1 e60) (by omega) (by omega))
  have hn3 := Fr.cell (Fr.of1 e60) hn3 (by omega)
  have hn8 := Fr.cell (Fr.of1 e60) hn8 (by omega)
  have hn13 := Fr.cell (Fr.of1 e60) hn13 (by omega)
  have hn18 := Fr.cell (Fr.of1 e60) hn18 (by omega)
  have hn23 := Fr.cell (Fr.of1 e60) hn23 (by omega)
  have hn28 := Fr.cell (Fr.of1 e60) hn28 (by omega)
  have hn33 := Fr.cell (Fr.of1 e60) hn33 (by omega)
  have hn38 := Fr.cell (Fr.of1 e60) hn38 (by omega)
  have hn43 := Fr.cell (Fr.of1 e60) hn43 (by omega)
  have hn48 := Fr.cell (Fr.of1 e60) hn48 (by omega)
  have hn53 := Fr.cell (Fr.of1 e60) hn53 (by omega)
  have hn58 := Fr.cell (Fr.of1 e60) hn58 (by omega)
  refine a_aload_n S d_Mod_init_100 rfl rfl ?_
  refine a_sipush S (v := 200) d_Mod_init_101 (by decide) ?_
  refine a_newa S (at0 := .int) (ty := .int) (t0 := 0) (N := 200) (a0 := (200, .inl (fun _ => 0))) rfl rfl (fun _ _ h => h) ar_int (fun _ => rfl) rfl (by decide) (by decide) (by omega) (by omega) d_Mod_init_104 (fun w61 hn63 e62 => ?_)
  have fr := fr.trans (Fr.sub (Fr.of1 e62) (by omega) (by omega))
  have h0 := Fr.cell (Fr.of1 e62) h0 (by omega)
  have hn3 := Fr.cell (Fr.of1 e62) hn3 (by omega)
  have hn8 := Fr.cell (Fr.of1 e62) hn8 (by omega)
  have hn13 := Fr.cell (Fr.of1 e62) hn13 (by omega)
  have hn18 := Fr.cell (Fr.of1 e62) hn18 (by omega)
  have hn23 := Fr.cell (Fr.of1 e62) hn23 (by omega)
  have hn28 := Fr.cell (Fr.of1 e62) hn28 (by omega)
  have hn33 := Fr.cell (Fr.of1 e62) hn33 (by omega)
  have hn38 := Fr.cell (Fr.of1 e62) hn38 (by omega)
  have hn43 := Fr.cell (Fr.of1 e62) hn43 (by omega)
  have hn48 := Fr.cell (Fr.of1 e62) hn48 (by omega)
  have hn53 := Fr.cell (Fr.of1 e62) hn53 (by omega)
  have hn58 := Fr.cell (Fr.of1 e62) hn58 (by omega)
  refine a_putF S hin kc_Mod kt_Mod 18 (by decide) lf_Mod_48 rfl rfl h0 rfl rfl (Nat.le_of_ble_eq_true rfl) d_Mod_init_106 (fun w64 h0 e65 => ?_)
  have h0 : w64 b = some (.inr (6, [.int 0, .int 0, .int 0, .ref (b + 1), .ref (b + 2), .ref (b + 3), .ref (b + 4), .ref (b + 5), .ref (b + 6), .ref (b + 7), .int 0, .ref (b + 8), .int 0, .ref (b + 9), .int 0, .ref (b + 10), .ref (b + 11), .ref (b + 12), .ref (b + 13), .int 0, .int 0, .int 0, .int 0])) := h0
  have fr := fr.trans (Fr.sub (Fr.of1 e65) (by omega) (by omega))
  have hn3 := Fr.cell (Fr.of1 e65) hn3 (by omega)
  have hn8 := Fr.cell (Fr.of1 e65) hn8 (by omega)
  have hn13 := Fr.cell (Fr.of1 e65) hn13 (by omega)
  have hn18 := Fr.cell (Fr.of1 e65) hn18 (by omega)
  have hn23 := Fr.cell (Fr.of1 e65) hn23 (by omega)
  have hn28 := Fr.cell (Fr.of1 e65) hn28 (by omega)
  have hn33 := Fr.cell (Fr.of1 e65) hn33 (by omega)
  have hn38 := Fr.cell (Fr.of1 e65) hn38 (by omega)
  have hn43 := Fr.cell (Fr.of1 e65) hn43 (by omega)
  have hn48 := Fr.cell (Fr.of1 e65) hn48 (by omega)
  have hn53 := Fr.cell (Fr.of1 e65) hn53 (by omega)
  have hn58 := Fr.cell (Fr.of1 e65) hn58 (by omega)
  have hn63 := Fr.cell (Fr.of1 e65) hn63 (by omega)
  refine a_aload_n S d_Mod_init_109 rfl rfl ?_
  refine a_iconst S (v := (-1)) d_Mod_init_110 (by decide) ?_
  refine a_put S kc_Mod kt_Mod 20 (by decide) lf_Mod_51 rfl h0 rfl rfl (Nat.le_of_ble_eq_true rfl) d_Mod_init_111 (fun w66 h0 e67 => ?_)
  have h0 : w66 b = some (.inr (6, [.int 0, .int 0, .int 0, .ref (b + 1), .ref (b + 2), .ref (b + 3), .ref (b + 4), .ref (b + 5), .ref (b + 6), .ref (b + 7), .int 0, .ref (b + 8), .int 0, .ref (b + 9), .int 0, .ref (b + 10), .ref (b + 11), .ref (b + 12), .ref (b + 13), .int 0, .int (-1), .int 0, .int 0])) := h0
  have fr := fr.trans (Fr.sub (Fr.of1 e67) (by omega) (by omega))
  have hn3 := Fr.cell (Fr.of1 e67) hn3 (by omega)
  have hn8 := Fr.cell (Fr.of1 e67) hn8 (by omega)
  have hn13 := Fr.cell (Fr.of1 e67) hn13 (by omega)
  have hn18 := Fr.cell (Fr.of1 e67) hn18 (by omega)
  have hn23 := Fr.cell (Fr.of1 e67) hn23 (by omega)
  have hn28 := Fr.cell (Fr.of1 e67) hn28 (by omega)
  have hn33 := Fr.cell (Fr.of1 e67) hn33 (by omega)
  have hn38 := Fr.cell (Fr.of1 e67) hn38 (by omega)
  have hn43 := Fr.cell (Fr.of1 e67) hn43 (by omega)
  have hn48 := Fr.cell (Fr.of1 e67) hn48 (by omega)
  have hn53 := Fr.cell (Fr.of1 e67) hn53 (by omega)
  have hn58 := Fr.cell (Fr.of1 e67) hn58 (by omega)
  have hn63 := Fr.cell (Fr.of1 e67) hn63 (by omega)
  exact RT _ _ _ _ _ _ d_Mod_init_114 (by omega) (by omega) ⟨rfl, rfl, fr, _, _, _, _, _, _, _, _, _, 0, _, _, _, _, 0, false, ⟨h0, hn3, hn8, hn13, hn18, hn23, hn28, hn33, hn38, hn43, hn48, hn53, hn58, hn63⟩, ⟨Nat.zero_le _, Nat.zero_le _, Nat.zero_le _, Nat.zero_le _, Nat.zero_le _, (fun i h => absurd h (Nat.not_lt_zero i)), (fun h => by cases h), (fun i h => absurd h (Nat.not_lt_zero i)), (fun b h => by cases h), Arr.nil _, (fun b h => by cases h), Arr.nil _, (fun h => by cases h)⟩, (fun k => rfl)⟩
set_option maxHeartbeats 400000 in
set_option maxRecDepth 100000 in
theorem c_Mod_bound (l : Launch) (D : kD) (b : Nat) (th : Int32) (c : Nat) (s : Bool) (K F : Nat → Nat) (L : Nat → kV) (kr : List Nat) (m : Nat) (KT : Nat → Nat → kV) (lo hi : List Nat) (he : Bool) (x j : Int32) (w : ww) (n : Nat)  (h : Mdl D w b th c s K F L kr m KT lo hi he) : AM l D M_Mod_bound 0 0 0 [.ref b, .int x, .int j] w n (fun v w' n' => v = some (.int (bdV lo hi he x j)) ∧ n' = n ∧ Fr w w' b 14 ∧ Mdl D w' b 0 c s K F L kr m KT lo hi he) := by
  refine AM.ofi (by decide +kernel) rfl (Nat.le_of_ble_eq_true rfl) (fun X A Q hin S RT => ?_)
  have S : FX X (D, A, 4, Q) prog_9_method_57_code "KeyCodecModel" 0 0 0 := S
  have RT : RTi X (D, A, 4, Q) prog_9_method_57_code 0 0 _ := RT
  obtain ⟨ki, fl, va, fo, go, si, te, ro, ma, sz, en, ms, lw, hw, pt, bd, h, hI, hG⟩ := h
  obtain ⟨h0, h1, h2, h3, h4, h5, h6, h7, h8, h9, h10, h11, h12, h13⟩ := h
  have hc5 := hI.1
  have hm12 := hI.2.1
  have hkr := hI.2.2.1
  have hlo := hI.2.2.2.1
  have hhi := hI.2.2.2.2.1
  have hkf := hI.2.2.2.2.2.1
  refine a_lve (lv' := [(0, .ref b), (1, .int x), (2, .int j)]) rfl ?_
  have fr : Fr w w b 14 := Fr.refl _ _ _
  refine a_aload_n S d_Mod_bound_0 rfl rfl ?_
  refine a_iconst S (v := 0) d_Mod_bound_1 (by decide) ?_
  refine a_put S kc_Mod kt_Mod 0 (by decide) lf_Mod_55 rfl h0 rfl rfl (Nat.le_of_ble_eq_true rfl) d_Mod_bound_2 (fun w1 h0 e2 => ?_)
  have h0 : w1 b = some (.inr (6, [.int 0, .int (nI c), .int (if s then 1 else 0), .ref (b + 1), .ref (b + 2), .ref (b + 3), .ref (b + 4), .ref (b + 5), .ref (b + 6), .ref (b + 7), .int (nI m), .ref (b + 8), .int (nI kr.length), .ref (b + 9), .int (nI sz), .ref (b + 10), .ref (b + 11), .ref (b + 12), .ref (b + 13), .int (nI lo.length), .int (if he then nI hi.length else -1), .int (nI pt), .int (if bd then 1 else 0)])) := h0
  have fr := fr.trans (Fr.sub (Fr.of1 e2) (by omega) (by omega))
  have h1 := Fr.cell (Fr.of1 e2) h1 (by omega)
  have h2 := Fr.cell (Fr.of1 e2) h2 (by omega)
  have h3 := Fr.cell (Fr.of1 e2) h3 (by omega)
  have h4 := Fr.cell (Fr.of1 e2) h4 (by omega)
  have h5 := Fr.cell (Fr.of1 e2) h5 (by omega)
  have h6 := Fr.cell (Fr.of1 e2) h6 (by omega)
  have h7 := Fr.cell (Fr.of1 e2) h7 (by omega)
  have h8 := Fr.cell (Fr.of1 e2) h8 (by omega)
  have h9 := Fr.cell (Fr.of1 e2) h9 (by omega)
  have h10 := Fr.cell (Fr.of1 e2) h10 (by omega)
  have h11 := Fr.cell (Fr.of1 e2) h11 (by omega)
  have h12 := Fr.cell (Fr.of1 e2) h12 (by omega)
  have h13 := Fr.cell (Fr.of1 e2) h13 (by omega)
  refine a_iload_n S d_Mod_bound_5 rfl rfl ?_
  refine a_if_lt S (tgt := 27) d_Mod_bound_6 rfl (fun ha_ => ?_) (fun ha_ => ?_)
  · have hv : bdV lo hi he x j = -1 := bd_1 (fun z => by rw [z] at ha_; exact absurd ha_ (by decide)) (fun z => by rw [z.1] at ha_; exact absurd ha_ (by decide)) j
    refine a_iconst S (v := (-1)) d_Mod_bound_27 (by decide) ?_
    exact RT _ _ _ _ _ _ _ d_Mod_bound_28 (by omega) (by omega) ⟨by rw [hv], rfl, fr, ⟨_, _, _, _, _, _, _, _, _, _, _, _, _, _, _, _, ⟨h0, h1, h2, h3, h4, h5, h6, h7, h8, h9, h10, h11, h12, h13⟩, hI, hG⟩⟩
  · refine a_iload_n S d_Mod_bound_9 rfl rfl ?_
    refine a_iconst S (v := 1) d_Mod_bound_10 (by decide) ?_
    refine a_icmp_gt S (tgt := 27) d_Mod_bound_11 rfl (fun hb_ => ?_) (fun hb_ => ?_)
    · have hv : bdV lo hi he x j = -1 := bd_1 (fun z => by rw [z] at hb_; exact absurd hb_ (by decide)) (fun z => by rw [z.1] at hb_; exact absurd hb_ (by decide)) j
      refine a_iconst S (v := (-1)) d_Mod_bound_27 (by decide) ?_
      exact RT _ _ _ _ _ _ _ d_Mod_bound_28 (by omega) (by omega) ⟨by rw [hv], rfl, fr, ⟨_, _, _, _, _, _, _, _, _, _, _, _, _, _, _, _, ⟨h0, h1, h2, h3, h4, h5, h6, h7, h8, h9, h10, h11, h12, h13⟩, hI, hG⟩⟩
    · refine a_iload_n S d_Mod_bound_14 rfl rfl ?_
      refine a_iconst S (v := 1) d_Mod_bound_15 (by decide) ?_
      refine a_icmp_ne S (tgt := 29) d_Mod_bound_16 rfl (fun h16 => ?_) (fun h16 => ?_)
      · refine a_iload_n S d_Mod_bound_29 rfl rfl ?_
        refine a_if_ne S (tgt := 40) d_Mod_bound_30 rfl (fun h30 => ?_) (fun h30 => ?_)
        · have hx1 : x = 1 := by rcases gt_cases ha_ with q | q | q | q; exact absurd q h30; exact q; rw [q] at hb_; exact absurd hb_ (by decide); exact absurd (Int32.lt_trans (by decide) q) hb_
          subst hx1
          exact absurd rfl h16
        · subst h30
          refine a_aload_n S d_Mod_bound_33 rfl rfl ?_
          refine a_get S kc_Mod 19 (by decide) lf_Mod_211 h0 rfl d_Mod_bound_34 ?_
          refine a_goto S (tgt := 44) d_Mod_bound_37 rfl ?_
          refine a_istore_n S d_Mod_bound_44 rfl (Nat.le_of_ble_eq_true rfl) (lv' := [(0, .ref b), (1, .int 0), (2, .int j), (3, .int (nI lo.length))]) rfl ?_
          refine a_iload_n S d_Mod_bound_45 rfl rfl ?_
          refine a_iconst S (v := (-1)) d_Mod_bound_46 (by decide) ?_
          refine a_icmp_ne S (tgt := 52) d_Mod_bound_47 rfl (fun h47 => ?_) (fun h47 => ?_)
          · refine a_iload_n S d_Mod_bound_52 rfl rfl ?_
            refine a_if_lt S (tgt := 61) d_Mod_bound_53 rfl (fun h53 => ?_) (fun h53 => ?_)
            · have hv := fun l => atB_neg (l := l) h53
              refine a_iconst S (v := (-1)) d_Mod_bound_61 (by decide) ?_
              exact RT _ _ _ _ _ _ _ d_Mod_bound_62 (by omega) (by omega) ⟨by rw [bd_0, if_neg h47, hv lo], rfl, fr, ⟨_, _, _, _, _, _, _, _, _, _, _, _, _, _, _, _, ⟨h0, h1, h2, h3, h4, h5, h6, h7, h8, h9, h10, h11, h12, h13⟩, hI, hG⟩⟩
            · refine a_iload_n S d_Mod_bound_56 rfl rfl ?_
              refine a_iload_n S d_Mod_bound_57 rfl rfl ?_
              refine a_icmp_lt S (tgt := 63) d_Mod_bound_58 rfl (fun h58 => ?_) (fun h58 => ?_)
              · obtain ⟨q, hq, rfl⟩ := row_ix h53 (k2_nle h58) (by omega)
                refine a_iload_n S d_Mod_bound_63 rfl rfl ?_
                refine a_if_ne S (tgt := 76) d_Mod_bound_64 rfl (fun h64 => ?_) (fun h64 => ?_)
                · exact absurd (by decide) h64
                · refine a_aload_n S d_Mod_bound_67 rfl rfl ?_
                  refine a_get S kc_Mod 17 (by decide) lf_Mod_45 h0 rfl d_Mod_bound_68 ?_
                  refine a_iload_n S d_Mod_bound_71 rfl rfl ?_
                  refine a_iald S (i := q) h12 rfl (by omega) (by decide) d_Mod_bound_72 ?_
                  refine a_eqi (atM hI.2.2.2.2.2.2.2.2.2.2.2.1 hq (by omega)) ?_
                  refine a_goto S (tgt := 82) d_Mod_bound_73 rfl ?_
                  exact RT _ _ _ _ _ _ _ d_Mod_bound_82 (by omega) (by omega) ⟨by rw [bd_0, if_neg h47], rfl, fr, ⟨_, _, _, _, _, _, _, _, _, _, _, _, _, _, _, _, ⟨h0, h1, h2, h3, h4, h5, h6, h7, h8, h9, h10, h11, h12, h13⟩, hI, hG⟩⟩
              · have hv := fun (_ : List Nat) => atB_big (l := lo) (k2_le h58)
                refine a_iconst S (v := (-1)) d_Mod_bound_61 (by decide) ?_
                exact RT _ _ _ _ _ _ _ d_Mod_bound_62 (by omega) (by omega) ⟨by rw [bd_0, if_neg h47, hv lo], rfl, fr, ⟨_, _, _, _, _, _, _, _, _, _, _, _, _, _, _, _, ⟨h0, h1, h2, h3, h4, h5, h6, h7, h8, h9, h10, h11, h12, h13⟩, hI, hG⟩⟩
          · refine a_iload_n S d_Mod_bound_50 rfl rfl ?_
            exact RT _ _ _ _ _ _ _ d_Mod_bound_51 (by omega) (by omega) ⟨by rw [bd_0, if_pos h47], rfl, fr, ⟨_, _, _, _, _, _, _, _, _, _, _, _, _, _, _, _, ⟨h0, h1, h2, h3, h4, h5, h6, h7, h8, h9, h10, h11, h12, h13⟩, hI, hG⟩⟩
      · refine a_aload_n S d_Mod_bound_19 rfl rfl ?_
        refine a_get S kc_Mod 20 (by decide) lf_Mod_51 h0 rfl d_Mod_bound_20 ?_
        refine a_iconst S (v := (-1)) d_Mod_bound_23 (by decide) ?_
        refine a_icmp_ne S (tgt := 29) d_Mod_bound_24 rfl (fun h24 => ?_) (fun h24 => ?_)
        · refine a_iload_n S d_Mod_bound_29 rfl rfl ?_
          refine a_if_ne S (tgt := 40) d_Mod_bound_30 rfl (fun h30 => ?_) (fun h30 => ?_)
          · have hx1 : x = 1 := by rcases gt_cases ha_ with q | q | q | q; exact absurd q h30; exact q; rw [q] at hb_; exact absurd hb_ (by decide); exact absurd (Int32.lt_trans (by decide) q) hb_
            subst hx1
            have hT : he = true := hz_yes h24
            subst hT
            have h0 : w1 b = some (.inr (6, [.int 0, .int (nI c), .int (if s then 1 else 0), .ref (b + 1), .ref (b + 2), .ref (b + 3), .ref (b + 4), .ref (b + 5), .ref (b + 6), .ref (b + 7), .int (nI m), .ref (b + 8), .int (nI kr.length), .ref (b + 9), .int (nI sz), .ref (b + 10), .ref (b + 11), .ref (b + 12), .ref (b + 13), .int (nI lo.length), .int (nI hi.length), .int (nI pt), .int (if bd then 1 else 0)])) := h0
            refine a_aload_n S d_Mod_bound_40 rfl rfl ?_
            refine a_get S kc_Mod 20 (by decide) lf_Mod_51 h0 rfl d_Mod_bound_41 ?_
            refine a_istore_n S d_Mod_bound_44 rfl (Nat.le_of_ble_eq_true rfl) (lv' := [(0, .ref b), (1, .int 1), (2, .int j), (3, .int (nI hi.length))]) rfl ?_
            refine a_iload_n S d_Mod_bound_45 rfl rfl ?_
            refine a_iconst S (v := (-1)) d_Mod_bound_46 (by decide) ?_
            refine a_icmp_ne S (tgt := 52) d_Mod_bound_47 rfl (fun h47 => ?_) (fun h47 => ?_)
            · refine a_iload_n S d_Mod_bound_52 rfl rfl ?_
              refine a_if_lt S (tgt := 61) d_Mod_bound_53 rfl (fun h53 => ?_) (fun h53 => ?_)
              · have hv := fun l => atB_neg (l := l) h53
                refine a_iconst S (v := (-1)) d_Mod_bound_61 (by decide) ?_
                exact RT _ _ _ _ _ _ _ d_Mod_bound_62 (by omega) (by omega) ⟨by rw [bd_h, if_neg h47, hv hi], rfl, fr, ⟨_, _, _, _, _, _, _, _, _, _, _, _, _, _, _, _, ⟨h0, h1, h2, h3, h4, h5, h6, h7, h8, h9, h10, h11, h12, h13⟩, hI, hG⟩⟩
              · refine a_iload_n S d_Mod_bound_56 rfl rfl ?_
                refine a_iload_n S d_Mod_bound_57 rfl rfl ?_
                refine a_icmp_lt S (tgt := 63) d_Mod_bound_58 rfl (fun h58 => ?_) (fun h58 => ?_)
                · obtain ⟨q, hq, rfl⟩ := row_ix h53 (k2_nle h58) (by omega)
                  refine a_iload_n S d_Mod_bound_63 rfl rfl ?_
                  refine a_if_ne S (tgt := 76) d_Mod_bound_64 rfl (fun h64 => ?_) (fun h64 => ?_)
                  · refine a_aload_n S d_Mod_bound_76 rfl rfl ?_
                    refine a_get S kc_Mod 18 (by decide) lf_Mod_48 h0 rfl d_Mod_bound_77 ?_
                    refine a_iload_n S d_Mod_bound_80 rfl rfl ?_
                    refine a_iald S (i := q) h13 rfl (by omega) (by decide) d_Mod_bound_81 ?_
                    refine a_eqi (atM (hI.2.2.2.2.2.2.2.2.2.2.2.2 rfl).2 hq (by omega)) ?_
                    exact RT _ _ _ _ _ _ _ d_Mod_bound_82 (by omega) (by omega) ⟨by rw [bd_h, if_neg h47], rfl, fr, ⟨_, _, _, _, _, _, _, _, _, _, _, _, _, _, _, _, ⟨h0, h1, h2, h3, h4, h5, h6, h7, h8, h9, h10, h11, h12, h13⟩, hI, hG⟩⟩
                  · exact absurd h64 (by decide)
                · have hv := fun (_ : List Nat) => atB_big (l := hi) (k2_le h58)
                  refine a_iconst S (v := (-1)) d_Mod_bound_61 (by decide) ?_
                  exact RT _ _ _ _ _ _ _ d_Mod_bound_62 (by omega) (by omega) ⟨by rw [bd_h, if_neg h47, hv hi], rfl, fr, ⟨_, _, _, _, _, _, _, _, _, _, _, _, _, _, _, _, ⟨h0, h1, h2, h3, h4, h5, h6, h7, h8, h9, h10, h11, h12, h13⟩, hI, hG⟩⟩
            · refine a_iload_n S d_Mod_bound_50 rfl rfl ?_
              exact RT _ _ _ _ _ _ _ d_Mod_bound_51 (by omega) (by omega) ⟨by rw [bd_h, if_pos h47], rfl, fr, ⟨_, _, _, _, _, _, _, _, _, _, _, _, _, _, _, _, ⟨h0, h1, h2, h3, h4, h5, h6, h7, h8, h9, h10, h11, h12, h13⟩, hI, hG⟩⟩
          · subst h30
            refine a_aload_n S d_Mod_bound_33 rfl rfl ?_
            refine a_get S kc_Mod 19 (by decide) lf_Mod_211 h0 rfl d_Mod_bound_34 ?_
            refine a_goto S (tgt := 44) d_Mod_bound_37 rfl ?_
            refine a_istore_n S d_Mod_bound_44 rfl (Nat.le_of_ble_eq_true rfl) (lv' := [(0, .ref b), (1, .int 0), (2, .int j), (3, .int (nI lo.length))]) rfl ?_
            refine a_iload_n S d_Mod_bound_45 rfl rfl ?_
            refine a_iconst S (v := (-1)) d_Mod_bound_46 (by decide) ?_
            refine a_icmp_ne S (tgt := 52) d_Mod_bound_47 rfl (fun h47 => ?_) (fun h47 => ?_)
            · refine a_iload_n S d_Mod_bound_52 rfl rfl ?_
              refine a_if_lt S (tgt := 61) d_Mod_bound_53 rfl (fun h53 => ?_) (fun h53 => ?_)
              · have hv := fun l => atB_neg (l := l) h53
                refine a_iconst S (v := (-1)) d_Mod_bound_61 (by decide) ?_
                exact RT _ _ _ _ _ _ _ d_Mod_bound_62 (by omega) (by omega) ⟨by rw [bd_0, if_neg h47, hv lo], rfl, fr, ⟨_, _, _, _, _, _, _, _, _, _, _, _, _, _, _, _, ⟨h0, h1, h2, h3, h4, h5, h6, h7, h8, h9, h10, h11, h12, h13⟩, hI, hG⟩⟩
              · refine a_iload_n S d_Mod_bound_56 rfl rfl ?_
                refine a_iload_n S d_Mod_bound_57 rfl rfl ?_
                refine a_icmp_lt S (tgt := 63) d_Mod_bound_58 rfl (fun h58 => ?_) (fun h58 => ?_)
                · obtain ⟨q, hq, rfl⟩ := row_ix h53 (k2_nle h58) (by omega)
                  refine a_iload_n S d_Mod_bound_63 rfl rfl ?_
                  refine a_if_ne S (tgt := 76) d_Mod_bound_64 rfl (fun h64 => ?_) (fun h64 => ?_)
                  · exact absurd (by decide) h64
                  · refine a_aload_n S d_Mod_bound_67 rfl rfl ?_
                    refine a_get S kc_Mod 17 (by decide) lf_Mod_45 h0 rfl d_Mod_bound_68 ?_
                    refine a_iload_n S d_Mod_bound_71 rfl rfl ?_
                    refine a_iald S (i := q) h12 rfl (by omega) (by decide) d_Mod_bound_72 ?_
                    refine a_eqi (atM hI.2.2.2.2.2.2.2.2.2.2.2.1 hq (by omega)) ?_
                    refine a_goto S (tgt := 82) d_Mod_bound_73 rfl ?_
                    exact RT _ _ _ _ _ _ _ d_Mod_bound_82 (by omega) (by omega) ⟨by rw [bd_0, if_neg h47], rfl, fr, ⟨_, _, _, _, _, _, _, _, _, _, _, _, _, _, _, _, ⟨h0, h1, h2, h3, h4, h5, h6, h7, h8, h9, h10, h11, h12, h13⟩, hI, hG⟩⟩
                · have hv := fun (_ : List Nat) => atB_big (l := lo) (k2_le h58)
                  refine a_iconst S (v := (-1)) d_Mod_bound_61 (by decide) ?_
                  exact RT _ _ _ _ _ _ _ d_Mod_bound_62 (by omega) (by omega) ⟨by rw [bd_0, if_neg h47, hv lo], rfl, fr, ⟨_, _, _, _, _, _, _, _, _, _, _, _, _, _, _, _, ⟨h0, h1, h2, h3, h4, h5, h6, h7, h8, h9, h10, h11, h12, h13⟩, hI, hG⟩⟩
            · refine a_iload_n S d_Mod_bound_50 rfl rfl ?_
              exact RT _ _ _ _ _ _ _ d_Mod_bound_51 (by omega) (by omega) ⟨by rw [bd_0, if_pos h47], rfl, fr, ⟨_, _, _, _, _, _, _, _, _, _, _, _, _, _, _, _, ⟨h0, h1, h2, h3, h4, h5, h6, h7, h8, h9, h10, h11, h12, h13⟩, hI, hG⟩⟩
        · have hv : bdV lo hi he x j = -1 := bd_1 (fun z => by rw [z] at h16; exact absurd h16 (by decide)) (fun z => by rw [hz_no (by omega) h24] at z; cases z.2) j
          refine a_iconst S (v := (-1)) d_Mod_bound_27 (by decide) ?_
          exact RT _ _ _ _ _ _ _ d_Mod_bound_28 (by omega) (by omega) ⟨by rw [hv], rfl, fr, ⟨_, _, _, _, _, _, _, _, _, _, _, _, _, _, _, _, ⟨h0, h1, h2, h3, h4, h5, h6, h7, h8, h9, h10, h11, h12, h13⟩, hI, hG⟩⟩
