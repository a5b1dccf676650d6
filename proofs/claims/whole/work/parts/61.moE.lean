set_option maxHeartbeats 400000 in
set_option maxRecDepth 100000 in
theorem c_Mod_decode (l : Launch) (D : kD) (b : Nat) (th : Int32) (c : Nat) (s : Bool) (K F : Nat → Nat) (L : Nat → kV) (kr : List Nat) (m : Nat) (KT : Nat → Nat → kV) (lo hi : List Nat) (he : Bool)  (w : ww) (n : Nat)  (h : Mdl D w b th c s K F L kr m KT lo hi he) : AM l D M_Mod_decode 4 0 0 [.ref b] w n (fun v w' n' => (s = false ∧ v = some (.int 0) ∧ n' = n ∧ Fr w w' b 14 ∧ Mdl D w' b 1 c s K F L kr m KT lo hi he) ∨ (∃ T : Nat → kV, s = true ∧ okT K F T c ∧ kr = keyB K F T c ∧ v = some (.int 1) ∧ (∀ T' : Nat → kV, okT K F T' c → kr = keyB K F T' c → ∀ j, j < c → T j = T' j) ∧ n' = n ∧ Fr w w' b 14 ∧ Mdl D w' b 0 c s K F T kr m KT lo hi he) ∨ (s = true ∧ (∀ T : Nat → kV, okT K F T c → ¬ kr = keyB K F T c) ∧ v = some (.int 0) ∧ n' = n ∧ Fr w w' b 14 ∧ Mdl D w' b 2 c s K F L kr m KT lo hi he)) := by
  refine AM.ofz (by decide +kernel) rfl (Nat.le_of_ble_eq_true rfl) (fun X A Q hin S RT => ?_)
  have S : FX X (D, A, 3, Q) prog_9_method_37_code "KeyCodecModel" 4 0 0 := S
  have RT : RTz X (D, A, 3, Q) prog_9_method_37_code 0 0 _ := RT
  obtain ⟨ki, fl, va, fo, go, si, te, ro, ma, sz, en, ms, lw, hw, pt, bd, h, hI, hG⟩ := h
  obtain ⟨h0, h1, h2, h3, h4, h5, h6, h7, h8, h9, h10, h11, h12, h13⟩ := h
  have hc5 := hI.1
  have hm12 := hI.2.1
  have hkr := hI.2.2.1
  have hlo := hI.2.2.2.1
  have hhi := hI.2.2.2.2.1
  have hkf := hI.2.2.2.2.2.1
  refine a_lve (lv' := [(0, .ref b)]) rfl ?_
  have fr : Fr w w b 14 := Fr.refl _ _ _
  refine a_aload_n S d_Mod_decode_0 rfl rfl ?_
  refine a_aload_n S d_Mod_decode_1 rfl rfl ?_
  refine a_get S kc_Mod 2 (by decide) lf_Mod_58 h0 rfl d_Mod_decode_2 ?_
  refine a_if_eq S (tgt := 12) d_Mod_decode_5 rfl (fun hs_ => ?_) (fun hs_ => ?_)
  · have hs0 : s = false := bo_0 hs_
    refine a_iconst S (v := 1) d_Mod_decode_12 (by decide) ?_
    refine a_put S kc_Mod kt_Mod 0 (by decide) lf_Mod_55 rfl h0 rfl rfl (Nat.le_of_ble_eq_true rfl) d_Mod_decode_13 (fun w1 h0 e2 => ?_)
    have h0 : w1 b = some (.inr (6, [.int 1, .int (nI c), .int (if s then 1 else 0), .ref (b + 1), .ref (b + 2), .ref (b + 3), .ref (b + 4), .ref (b + 5), .ref (b + 6), .ref (b + 7), .int (nI m), .ref (b + 8), .int (nI kr.length), .ref (b + 9), .int (nI sz), .ref (b + 10), .ref (b + 11), .ref (b + 12), .ref (b + 13), .int (nI lo.length), .int (if he then nI hi.length else -1), .int (nI pt), .int (if bd then 1 else 0)])) := h0
    have fr := fr.trans (Fr.sub (Fr.of1 e2) (by omega) (by omega))
    have h1 := Fr.cell (Fr.of1 e2) h1 (by omega)
    have h2 := Fr.cell (Fr.of1 e2) h2 (by omega)
    have h3 := Fr.cell (Fr.of1 e2) h3 (by omega)
    have h4 := Fr.cell (Fr.of1 e2) h4 (by omega)
    have h5 := Fr.cell (Fr.of1 e2) h5 (by omega)
    have h6 := Fr.cell (Fr.of1 e2) h6 (by omega)
    have h7 := Fr.cell (Fr.of1 e2) h7 (by omega)
    have h8 := Fr.cell (Fr.of1 e2) h8 (by omega)
    have h9 := Fr.cell (Fr.of1 e2) h9 (by omega)
    have h10 := Fr.cell (Fr.of1 e2) h10 (by omega)
    have h11 := Fr.cell (Fr.of1 e2) h11 (by omega)
    have h12 := Fr.cell (Fr.of1 e2) h12 (by omega)
    have h13 := Fr.cell (Fr.of1 e2) h13 (by omega)
    refine a_aload_n S d_Mod_decode_16 rfl rfl ?_
    refine a_get S kc_Mod 0 (by decide) lf_Mod_55 h0 rfl d_Mod_decode_17 ?_
    refine a_if_eq S (tgt := 25) d_Mod_decode_20 rfl (fun h20 => ?_) (fun h20 => ?_)
    · exact absurd h20 (by decide)
    · refine a_iconst S (v := 0) d_Mod_decode_23 (by decide) ?_
      exact RT _ _ _ _ _ _ _ d_Mod_decode_24 rfl (by omega) (by omega) (Or.inl ⟨hs0, rfl, rfl, fr, ⟨_, _, _, _, _, _, _, _, _, _, _, _, _, _, _, _, ⟨h0, h1, h2, h3, h4, h5, h6, h7, h8, h9, h10, h11, h12, h13⟩, hI, hG⟩⟩)
  · have hs0 : s = true := bo_1 hs_
    refine a_iconst S (v := 0) d_Mod_decode_8 (by decide) ?_
    refine a_goto S (tgt := 13) d_Mod_decode_9 rfl ?_
    refine a_put S kc_Mod kt_Mod 0 (by decide) lf_Mod_55 rfl h0 rfl rfl (Nat.le_of_ble_eq_true rfl) d_Mod_decode_13 (fun w3 h0 e4 => ?_)
    have h0 : w3 b = some (.inr (6, [.int 0, .int (nI c), .int (if s then 1 else 0), .ref (b + 1), .ref (b + 2), .ref (b + 3), .ref (b + 4), .ref (b + 5), .ref (b + 6), .ref (b + 7), .int (nI m), .ref (b + 8), .int (nI kr.length), .ref (b + 9), .int (nI sz), .ref (b + 10), .ref (b + 11), .ref (b + 12), .ref (b + 13), .int (nI lo.length), .int (if he then nI hi.length else -1), .int (nI pt), .int (if bd then 1 else 0)])) := h0
    have fr := fr.trans (Fr.sub (Fr.of1 e4) (by omega) (by omega))
    have h1 := Fr.cell (Fr.of1 e4) h1 (by omega)
    have h2 := Fr.cell (Fr.of1 e4) h2 (by omega)
    have h3 := Fr.cell (Fr.of1 e4) h3 (by omega)
    have h4 := Fr.cell (Fr.of1 e4) h4 (by omega)
    have h5 := Fr.cell (Fr.of1 e4) h5 (by omega)
    have h6 := Fr.cell (Fr.of1 e4) h6 (by omega)
    have h7 := Fr.cell (Fr.of1 e4) h7 (by omega)
    have h8 := Fr.cell (Fr.of1 e4) h8 (by omega)
    have h9 := Fr.cell (Fr.of1 e4) h9 (by omega)
    have h10 := Fr.cell (Fr.of1 e4) h10 (by omega)
    have h11 := Fr.cell (Fr.of1 e4) h11 (by omega)
    have h12 := Fr.cell (Fr.of1 e4) h12 (by omega)
    have h13 := Fr.cell (Fr.of1 e4) h13 (by omega)
    refine a_aload_n S d_Mod_decode_16 rfl rfl ?_
    refine a_get S kc_Mod 0 (by decide) lf_Mod_55 h0 rfl d_Mod_decode_17 ?_
    refine a_if_eq S (tgt := 25) d_Mod_decode_20 rfl (fun h20 => ?_) (fun h20 => ?_)
    · refine a_aload_n S d_Mod_decode_25 rfl rfl ?_
      refine a_bipush S (v := 13) d_Mod_decode_26 (by decide) ?_
      refine a_callV S (rest := []) lg_Mod_65 h0 (c_Mod_empty X.2.1 D b 0 c s ki fl va fo go si te m ro kr.length ma sz en ms lw hw lo.length (if he then nI hi.length else -1) pt bd 13 w3 n (by omega) ⟨h0, h1, h2, h3, h4, h5, h6, h7, h8, h9, h10, h11, h12, h13⟩) (by decide) (by omega) (by omega) rfl (Nat.le_of_ble_eq_true rfl) d_Mod_decode_28 (fun v5 w6 n7 p8 => ?_)
      obtain ⟨va11, fo11, go11, si11, rfl, e10, f9, ⟨h0, h1, h2, h3, h4, h5, h6, h7, h8, h9, h10, h11, h12, h13⟩, hz11, hq11, hN11⟩ := p8
      rw [e10]
      refine a_st (st' := []) rfl ?_
      have fr := fr.trans (Fr.sub f9 (by omega) (by omega))
      refine a_aload_n S d_Mod_decode_31 rfl rfl ?_
      refine a_iconst S (v := 0) d_Mod_decode_32 (by decide) ?_
      refine a_put S kc_Mod kt_Mod 21 (by decide) lf_Mod_139 rfl h0 rfl rfl (Nat.le_of_ble_eq_true rfl) d_Mod_decode_33 (fun w12 h0 e13 => ?_)
      have h0 : w12 b = some (.inr (6, [.int 0, .int (nI c), .int (if s then 1 else 0), .ref (b + 1), .ref (b + 2), .ref (b + 3), .ref (b + 4), .ref (b + 5), .ref (b + 6), .ref (b + 7), .int (nI m), .ref (b + 8), .int (nI kr.length), .ref (b + 9), .int (nI sz), .ref (b + 10), .ref (b + 11), .ref (b + 12), .ref (b + 13), .int (nI lo.length), .int (if he then nI hi.length else -1), .int 0, .int (if bd then 1 else 0)])) := h0
      have fr := fr.trans (Fr.sub (Fr.of1 e13) (by omega) (by omega))
      have h1 := Fr.cell (Fr.of1 e13) h1 (by omega)
      have h2 := Fr.cell (Fr.of1 e13) h2 (by omega)
      have h3 := Fr.cell (Fr.of1 e13) h3 (by omega)
      have h4 := Fr.cell (Fr.of1 e13) h4 (by omega)
      have h5 := Fr.cell (Fr.of1 e13) h5 (by omega)
      have h6 := Fr.cell (Fr.of1 e13) h6 (by omega)
      have h7 := Fr.cell (Fr.of1 e13) h7 (by omega)
      have h8 := Fr.cell (Fr.of1 e13) h8 (by omega)
      have h9 := Fr.cell (Fr.of1 e13) h9 (by omega)
      have h10 := Fr.cell (Fr.of1 e13) h10 (by omega)
      have h11 := Fr.cell (Fr.of1 e13) h11 (by omega)
      have h12 := Fr.cell (Fr.of1 e13) h12 (by omega)
      have h13 := Fr.cell (Fr.of1 e13) h13 (by omega)
      refine a_aload_n S d_Mod_decode_36 rfl rfl ?_
      refine a_iconst S (v := 0) d_Mod_decode_37 (by decide) ?_
      refine a_put S kc_Mod kt_Mod 22 (by decide) lf_Mod_142 rfl h0 rfl rfl (Nat.le_of_ble_eq_true rfl) d_Mod_decode_38 (fun w14 h0 e15 => ?_)
      have h0 : w14 b = some (.inr (6, [.int 0, .int (nI c), .int (if s then 1 else 0), .ref (b + 1), .ref (b + 2), .ref (b + 3), .ref (b + 4), .ref (b + 5), .ref (b + 6), .ref (b + 7), .int (nI m), .ref (b + 8), .int (nI kr.length), .ref (b + 9), .int (nI sz), .ref (b + 10), .ref (b + 11), .ref (b + 12), .ref (b + 13), .int (nI lo.length), .int (if he then nI hi.length else -1), .int 0, .int 0])) := h0
      have fr := fr.trans (Fr.sub (Fr.of1 e15) (by omega) (by omega))
      have h1 := Fr.cell (Fr.of1 e15) h1 (by omega)
      have h2 := Fr.cell (Fr.of1 e15) h2 (by omega)
      have h3 := Fr.cell (Fr.of1 e15) h3 (by omega)
      have h4 := Fr.cell (Fr.of1 e15) h4 (by omega)
      have h5 := Fr.cell (Fr.of1 e15) h5 (by omega)
      have h6 := Fr.cell (Fr.of1 e15) h6 (by omega)
      have h7 := Fr.cell (Fr.of1 e15) h7 (by omega)
      have h8 := Fr.cell (Fr.of1 e15) h8 (by omega)
      have h9 := Fr.cell (Fr.of1 e15) h9 (by omega)
      have h10 := Fr.cell (Fr.of1 e15) h10 (by omega)
      have h11 := Fr.cell (Fr.of1 e15) h11 (by omega)
      have h12 := Fr.cell (Fr.of1 e15) h12 (by omega)
      have h13 := Fr.cell (Fr.of1 e15) h13 (by omega)
      refine a_iconst S (v := 0) d_Mod_decode_41 (by decide) ?_
      refine a_istore_n S d_Mod_decode_42 rfl (Nat.le_of_ble_eq_true rfl) (lv' := [(0, .ref b), (1, .int 0)]) rfl ?_
      have hG11 := hN11 hG
      have loop43 : ∀ (kk43 : Nat) (g p1 : Nat) (b1 : Bool) (va1 : Nat → Int64) (fo1 go1 si1 te1 : Nat → Int32) (T1 : Nat → kV) (w1 : ww), c - g = kk43 → (g ≤ c) → (p1 ≤ kr.length) → (Fr w w1 b 14) → (Mo D w1 b 0 c s ki fl va1 fo1 go1 si1 te1 m ro kr.length ma sz en ms lw hw lo.length (if he then nI hi.length else -1) p1 b1) → (∀ f, f < 5 → VR va1 fo1 go1 si1 te1 (5 * 13 + f) (T1 f)) → (∀ f, g ≤ f → T1 f = (false, 0, 0, [])) → (∀ j, j < c → P2 (K j) (F j) (T1 j)) → (∀ p x, p < 65 → VR va fo go si te p x → VR va1 fo1 go1 si1 te1 p x) → (NG go1) → (RM1 kr K F c g p1 T1 b1) → AW X (D, A, 3, Q) 43 [(0, .ref b), (1, .int (nI g))] [] w1 n (0 + 0) (0 + 0) := by
        intro kk43
        induction kk43 using Nat.strongRecOn with
        | ind kk43 ih43 =>
          intro g p1 b1 va1 fo1 go1 si1 te1 T1 w1 hk43 hg hp1 fr h hT hE hP hS hNg hC
          obtain ⟨h0, h1, h2, h3, h4, h5, h6, h7, h8, h9, h10, h11, h12, h13⟩ := h
          refine a_iload_n S d_Mod_decode_43 rfl rfl ?_
          refine a_aload_n S d_Mod_decode_44 rfl rfl ?_
          refine a_get S kc_Mod 1 (by decide) lf_Mod_62 h0 rfl d_Mod_decode_45 ?_
          refine a_icmp_ge S (tgt := 71) d_Mod_decode_48 rfl (fun h48 => ?_) (fun h48 => ?_)
          · have he_ : g = c ∨ b1 = true := Or.inl (Nat.le_antisymm hg ((nI_leI (by omega) (by omega)).mp h48))
            refine a_aload_n S d_Mod_decode_71 rfl rfl ?_
            refine a_bipush S (v := 13) d_Mod_decode_72 (by decide) ?_
            refine a_callV S (rest := []) lg_Mod_168 h0 (c_Mod_readTail X.2.1 D b 0 c s ki fl va1 fo1 go1 si1 te1 m ro ma sz en ms lw hw lo.length (if he then nI hi.length else -1) p1 b1 kr 13 K F T1 w1 n hkr hI.row.1 hI.row.2 hp1 (by omega) hc5 hkf (fun f hf => hT f (by omega)) hP (RM2.z hC he_) ⟨h0, h1, h2, h3, h4, h5, h6, h7, h8, h9, h10, h11, h12, h13⟩) (by decide) (by omega) (by omega) rfl (Nat.le_of_ble_eq_true rfl) d_Mod_decode_74 (fun v16 w17 n18 p19 => ?_)
            obtain ⟨T2, va2, fo2, p2, b2, rfl, e21, f20, ⟨h0, h1, h2, h3, h4, h5, h6, h7, h8, h9, h10, h11, h12, h13⟩, hp2, hT2, hS2, hP2, hfin⟩ := p19
            rw [e21]
            refine a_st (st' := []) rfl ?_
            have hI := hI.sx (fun p x hp hv => (hS p x hp hv).tl (hS2.1 p (by omega)) (hS2.2 p (by omega)))
            have fr := fr.trans (Fr.sub f20 (by omega) (by omega))
            refine a_aload_n S d_Mod_decode_77 rfl rfl ?_
            refine a_get S kc_Mod 22 (by decide) lf_Mod_142 h0 rfl d_Mod_decode_78 ?_
            refine a_if_ne S (tgt := 108) d_Mod_decode_81 rfl (fun h81 => ?_) (fun h81 => ?_)
            · have hb2 : b2 = true := bo_1 h81
              have hno : ∀ T : Nat → kV, okT K F T c → ¬ kr = keyB K F T c := fun T z1 z2 => by rw [(hfin T z1 z2).1] at hb2; cases hb2
              refine a_iconst S (v := 0) d_Mod_decode_108 (by decide) ?_
              refine a_istore_n S d_Mod_decode_109 rfl (Nat.le_of_ble_eq_true rfl) (lv' := [(0, .ref b), (1, .int 0)]) rfl ?_
              refine a_iload_n S d_Mod_decode_110 rfl rfl ?_
              refine a_if_eq S (tgt := 181) d_Mod_decode_111 rfl (fun h111 => ?_) (fun h111 => ?_)
              · refine a_aload_n S d_Mod_decode_181 rfl rfl ?_
                refine a_iload_n S d_Mod_decode_182 rfl rfl ?_
                refine a_if_eq S (tgt := 190) d_Mod_decode_183 rfl (fun h183 => ?_) (fun h183 => ?_)
                · refine a_iconst S (v := 2) d_Mod_decode_190 (by decide) ?_
                  refine a_put S kc_Mod kt_Mod 0 (by decide) lf_Mod_55 rfl h0 rfl rfl (Nat.le_of_ble_eq_true rfl) d_Mod_decode_191 (fun w22 h0 e23 => ?_)
                  have h0 : w22 b = some (.inr (6, [.int 2, .int (nI c), .int (if s then 1 else 0), .ref (b + 1), .ref (b + 2), .ref (b + 3), .ref (b + 4), .ref (b + 5), .ref (b + 6), .ref (b + 7), .int (nI m), .ref (b + 8), .int (nI kr.length), .ref (b + 9), .int (nI sz), .ref (b + 10), .ref (b + 11), .ref (b + 12), .ref (b + 13), .int (nI lo.length), .int (if he then nI hi.length else -1), .int (nI p2), .int (if b2 then 1 else 0)])) := h0
                  have fr := fr.trans (Fr.sub (Fr.of1 e23) (by omega) (by omega))
                  have h1 := Fr.cell (Fr.of1 e23) h1 (by omega)
                  have h2 := Fr.cell (Fr.of1 e23) h2 (by omega)
                  have h3 := Fr.cell (Fr.of1 e23) h3 (by omega)
                  have h4 := Fr.cell (Fr.of1 e23) h4 (by omega)
                  have h5 := Fr.cell (Fr.of1 e23) h5 (by omega)
                  have h6 := Fr.cell (Fr.of1 e23) h6 (by omega)
                  have h7 := Fr.cell (Fr.of1 e23) h7 (by omega)
                  have h8 := Fr.cell (Fr.of1 e23) h8 (by omega)
                  have h9 := Fr.cell (Fr.of1 e23) h9 (by omega)
                  have h10 := Fr.cell (Fr.of1 e23) h10 (by omega)
                  have h11 := Fr.cell (Fr.of1 e23) h11 (by omega)
                  have h12 := Fr.cell (Fr.of1 e23) h12 (by omega)
                  have h13 := Fr.cell (Fr.of1 e23) h13 (by omega)
                  refine a_iload_n S d_Mod_decode_194 rfl rfl ?_
                  refine a_if_eq S (tgt := 205) d_Mod_decode_195 rfl (fun h195 => ?_) (fun h195 => ?_)
                  · refine a_iload_n S d_Mod_decode_205 rfl rfl ?_
                    exact RT _ _ _ _ _ _ _ d_Mod_decode_206 (by first | rfl | (cases gd <;> rfl)) (by omega) (by omega) (Or.inr (Or.inr ⟨hs0, hno, rfl, rfl, fr, ⟨_, _, _, _, _, _, _, _, _, _, _, _, _, _, _, _, ⟨h0, h1, h2, h3, h4, h5, h6, h7, h8, h9, h10, h11, h12, h13⟩, hI, hNg⟩⟩))
                  · exact absurd (by decide) h195
                · exact absurd (by decide) h183
              · exact absurd (by decide) h111
            · have hb2 : b2 = false := bo_0 h81
              refine a_aload_n S d_Mod_decode_84 rfl rfl ?_
              refine a_get S kc_Mod 21 (by decide) lf_Mod_139 h0 rfl d_Mod_decode_85 ?_
              refine a_aload_n S d_Mod_decode_88 rfl rfl ?_
              refine a_get S kc_Mod 12 (by decide) lf_Mod_72 h0 rfl d_Mod_decode_89 ?_
              refine a_icmp_ne S (tgt := 108) d_Mod_decode_92 rfl (fun h92 => ?_) (fun h92 => ?_)
              · have hno : ∀ T : Nat → kV, okT K F T c → ¬ kr = keyB K F T c := fun T z1 z2 => h92 (by rw [(hfin T z1 z2).2.1])
                refine a_iconst S (v := 0) d_Mod_decode_108 (by decide) ?_
                refine a_istore_n S d_Mod_decode_109 rfl (Nat.le_of_ble_eq_true rfl) (lv' := [(0, .ref b), (1, .int 0)]) rfl ?_
                refine a_iload_n S d_Mod_decode_110 rfl rfl ?_
                refine a_if_eq S (tgt := 181) d_Mod_decode_111 rfl (fun h111 => ?_) (fun h111 => ?_)
                · refine a_aload_n S d_Mod_decode_181 rfl rfl ?_
                  refine a_iload_n S d_Mod_decode_182 rfl rfl ?_
                  refine a_if_eq S (tgt := 190) d_Mod_decode_183 rfl (fun h183 => ?_) (fun h183 => ?_)
                  · refine a_iconst S (v := 2) d_Mod_decode_190 (by decide) ?_
                    refine a_put S kc_Mod kt_Mod 0 (by decide) lf_Mod_55 rfl h0 rfl rfl (Nat.le_of_ble_eq_true rfl) d_Mod_decode_191 (fun w24 h0 e25 => ?_)
                    have h0 : w24 b = some (.inr (6, [.int 2, .int (nI c), .int (if s then 1 else 0), .ref (b + 1), .ref (b + 2), .ref (b + 3), .ref (b + 4), .ref (b + 5), .ref (b + 6), .ref (b + 7), .int (nI m), .ref (b + 8), .int (nI kr.length), .ref (b + 9), .int (nI sz), .ref (b + 10), .ref (b + 11), .ref (b + 12), .ref (b + 13), .int (nI lo.length), .int (if he then nI hi.length else -1), .int (nI p2), .int (if b2 then 1 else 0)])) := h0
                    have fr := fr.trans (Fr.sub (Fr.of1 e25) (by omega) (by omega))
                    have h1 := Fr.cell (Fr.of1 e25) h1 (by omega)
                    have h2 := Fr.cell (Fr.of1 e25) h2 (by omega)
                    have h3 := Fr.cell (Fr.of1 e25) h3 (by omega)
                    have h4 := Fr.cell (Fr.of1 e25) h4 (by omega)
                    have h5 := Fr.cell (Fr.of1 e25) h5 (by omega)
                    have h6 := Fr.cell (Fr.of1 e25) h6 (by omega)
                    have h7 := Fr.cell (Fr.of1 e25) h7 (by omega)
                    have h8 := Fr.cell (Fr.of1 e25) h8 (by omega)
                    have h9 := Fr.cell (Fr.of1 e25) h9 (by omega)
                    have h10 := Fr.cell (Fr.of1 e25) h10 (by omega)
                    have h11 := Fr.cell (Fr.of1 e25) h11 (by omega)
                    have h12 := Fr.cell (Fr.of1 e25) h12 (by omega)
                    have h13 := Fr.cell (Fr.of1 e25) h13 (by omega)
                    refine a_iload_n S d_Mod_decode_194 rfl rfl ?_
                    refine a_if_eq S (tgt := 205) d_Mod_decode_195 rfl (fun h195 => ?_) (fun h195 => ?_)
                    · refine a_iload_n S d_Mod_decode_205 rfl rfl ?_
                      exact RT _ _ _ _ _ _ _ d_Mod_decode_206 (by first | rfl | (cases gd <;> rfl)) (by omega) (by omega) (Or.inr (Or.inr ⟨hs0, hno, rfl, rfl, fr, ⟨_, _, _, _, _, _, _, _, _, _, _, _, _, _, _, _, ⟨h0, h1, h2, h3, h4, h5, h6, h7, h8, h9, h10, h11, h12, h13⟩, hI, hNg⟩⟩))
                    · exact absurd (by decide) h195
                  · exact absurd (by decide) h183
                · exact absurd (by decide) h111
              · refine a_aload_n S d_Mod_decode_95 rfl rfl ?_
                refine a_bipush S (v := 13) d_Mod_decode_96 (by decide) ?_
                refine a_callV S (rest := []) lg_Mod_171 h0 (c_Mod_isTuple X.2.1 D b 0 c s ki fl va2 fo2 go1 si1 te1 m ro kr.length ma sz en ms lw hw lo.length (if he then nI hi.length else -1) p2 b2 13 K T2 w17 n (by omega) hc5 (fun i hi => ⟨(hkf i hi).2.2.1, (hkf i hi).1⟩) hT2 ⟨h0, h1, h2, h3, h4, h5, h6, h7, h8, h9, h10, h11, h12, h13⟩) (by decide) (by omega) (by omega) rfl (Nat.le_of_ble_eq_true rfl) d_Mod_decode_98 (fun v26 w27 n28 p29 => ?_)
                obtain ⟨ok, rfl, hok, e30, e31⟩ := p29
                rw [e30, e31]
                refine a_st (st' := [.int (if ok then 1 else 0)]) rfl ?_
                refine a_if_eq S (tgt := 108) d_Mod_decode_101 rfl (fun h101 => ?_) (fun h101 => ?_)
                · have hok0 : ok = false := bo_0 h101
                  have hno : ∀ T : Nat → kV, okT K F T c → ¬ kr = keyB K F T c := fun T z1 z2 => by have q := hok.mpr (fun i hi _ _ => by rw [(hfin T z1 z2).2.2 i hi]; exact (z1 i hi).2.2.2.1); rw [hok0] at q; cases q
                  refine a_iconst S (v := 0) d_Mod_decode_108 (by decide) ?_
                  refine a_istore_n S d_Mod_decode_109 rfl (Nat.le_of_ble_eq_true rfl) (lv' := [(0, .ref b), (1, .int 0)]) rfl ?_
                  refine a_iload_n S d_Mod_decode_110 rfl rfl ?_
                  refine a_if_eq S (tgt := 181) d_Mod_decode_111 rfl (fun h111 => ?_) (fun h111 => ?_)
                  · refine a_aload_n S d_Mod_decode_181 rfl rfl ?_
                    refine a_iload_n S d_Mod_decode_182 rfl rfl ?_
                    refine a_if_eq S (tgt := 190) d_Mod_decode_183 rfl (fun h183 => ?_) (fun h183 => ?_)
                    · refine a_iconst S (v := 2) d_Mod_decode_190 (by decide) ?_
                      refine a_put S kc_Mod kt_Mod 0 (by decide) lf_Mod_55 rfl h0 rfl rfl (Nat.le_of_ble_eq_true rfl) d_Mod_decode_191 (fun w32 h0 e33 => ?_)
                      have h0 : w32 b = some (.inr (6, [.int 2, .int (nI c), .int (if s then 1 else 0), .ref (b + 1), .ref (b + 2), .ref (b + 3), .ref (b + 4), .ref (b + 5), .ref (b + 6), .ref (b + 7), .int (nI m), .ref (b + 8), .int (nI kr.length), .ref (b + 9), .int (nI sz), .ref (b + 10), .ref (b + 11), .ref (b + 12), .ref (b + 13), .int (nI lo.length), .int (if he then nI hi.length else -1), .int (nI p2), .int (if b2 then 1 else 0)])) := h0
                      have fr := fr.trans (Fr.sub (Fr.of1 e33) (by omega) (by omega))
                      have h1 := Fr.cell (Fr.of1 e33) h1 (by omega)
                      have h2 := Fr.cell (Fr.of1 e33) h2 (by omega)
                      have h3 := Fr.cell (Fr.of1 e33) h3 (by omega)
                      have h4 := Fr.cell (Fr.of1 e33) h4 (by omega)
                      have h5 := Fr.cell (Fr.of1 e33) h5 (by omega)
                      have h6 := Fr.cell (Fr.of1 e33) h6 (by omega)
                      have h7 := Fr.cell (Fr.of1 e33) h7 (by omega)
                      have h8 := Fr.cell (Fr.of1 e33) h8 (by omega)
                      have h9 := Fr.cell (Fr.of1 e33) h9 (by omega)
                      have h10 := Fr.cell (Fr.of1 e33) h10 (by omega)
                      have h11 := Fr.cell (Fr.of1 e33) h11 (by omega)
                      have h12 := Fr.cell (Fr.of1 e33) h12 (by omega)
                      have h13 := Fr.cell (Fr.of1 e33) h13 (by omega)
                      refine a_iload_n S d_Mod_decode_194 rfl rfl ?_
                      refine a_if_eq S (tgt := 205) d_Mod_decode_195 rfl (fun h195 => ?_) (fun h195 => ?_)
                      · refine a_iload_n S d_Mod_decode_205 rfl rfl ?_
                        exact RT _ _ _ _ _ _ _ d_Mod_decode_206 (by first | rfl | (cases gd <;> rfl)) (by omega) (by omega) (Or.inr (Or.inr ⟨hs0, hno, rfl, rfl, fr, ⟨_, _, _, _, _, _, _, _, _, _, _, _, _, _, _, _, ⟨h0, h1, h2, h3, h4, h5, h6, h7, h8, h9, h10, h11, h12, h13⟩, hI, hNg⟩⟩))
                      · exact absurd (by decide) h195
                    · exact absurd (by decide) h183
                  · exact absurd (by decide) h111
                · have hoT : okT K F T2 c := okT_of hT2 hP2 (hok.mp (bo_1 h101))
                  have hkl := keyB_l hoT hc5
                  have hG := hNg
                  refine a_iconst S (v := 1) d_Mod_decode_104 (by decide) ?_
                  refine a_goto S (tgt := 109) d_Mod_decode_105 rfl ?_
                  refine a_istore_n S d_Mod_decode_109 rfl (Nat.le_of_ble_eq_true rfl) (lv' := [(0, .ref b), (1, .int 1)]) rfl ?_
                  refine a_iload_n S d_Mod_decode_110 rfl rfl ?_
                  refine a_if_eq S (tgt := 181) d_Mod_decode_111 rfl (fun h111 => ?_) (fun h111 => ?_)
                  · exact absurd h111 (by decide)
                  · refine a_aload_n S d_Mod_decode_114 rfl rfl ?_
                    refine a_iconst S (v := 0) d_Mod_decode_115 (by decide) ?_
                    refine a_bipush S (v := 13) d_Mod_decode_116 (by decide) ?_
                    refine a_callV S (rest := []) lg_Mod_136 h0 (c_Mod_make X.2.1 D b 0 c s ki fl va2 fo2 go1 si1 te1 m ro kr.length ma sz en ms lw hw lo.length (if he then nI hi.length else -1) p2 b2 0 13 K F T2 w17 n (by decide) (by omega) hc5 hkf hT2 hoT ⟨h0, h1, h2, h3, h4, h5, h6, h7, h8, h9, h10, h11, h12, h13⟩) (by decide) (by omega) (by omega) rfl (Nat.le_of_ble_eq_true rfl) d_Mod_decode_118 (fun v34 w35 n36 p37 => ?_)
                    obtain ⟨en_40, rfl, e39, f38, ⟨h0, h1, h2, h3, h4, h5, h6, h7, h8, h9, h10, h11, h12, h13⟩, hE41⟩ := p37
                    rw [e39]
                    refine a_st (st' := []) rfl ?_
                    have fr := fr.trans (Fr.sub f38 (by omega) (by omega))
                    refine a_aload_n S d_Mod_decode_121 rfl rfl ?_
                    refine a_get S kc_Mod 16 (by decide) lf_Mod_42 h0 rfl d_Mod_decode_122 ?_
                    refine a_iconst S (v := 0) d_Mod_decode_125 (by decide) ?_
                    refine a_iald S (i := 0) h11 rfl (by omega) (by decide) d_Mod_decode_126 ?_
                    refine a_eqi pk_us ?_
                    refine a_aload_n S d_Mod_decode_127 rfl rfl ?_
                    refine a_get S kc_Mod 12 (by decide) lf_Mod_72 h0 rfl d_Mod_decode_128 ?_
                    refine a_icmp_ne S (tgt := 138) d_Mod_decode_131 rfl (fun h131 => ?_) (fun h131 => ?_)
                    · have hno : ∀ T : Nat → kV, okT K F T c → ¬ kr = keyB K F T c := fun T z1 z2 => h131 (by rw [keyB_cg (hfin T z1 z2).2.2, ← z2])
                      refine a_iconst S (v := 0) d_Mod_decode_138 (by decide) ?_
                      refine a_istore_n S d_Mod_decode_139 rfl (Nat.le_of_ble_eq_true rfl) (lv' := [(0, .ref b), (1, .int 0)]) rfl ?_
                      refine a_iconst S (v := 0) d_Mod_decode_140 (by decide) ?_
                      refine a_istore_n S d_Mod_decode_141 rfl (Nat.le_of_ble_eq_true rfl) (lv' := [(0, .ref b), (1, .int 0), (2, .int 0)]) rfl ?_
                      refine a_iload_n S d_Mod_decode_142 rfl rfl ?_
                      refine a_aload_n S d_Mod_decode_143 rfl rfl ?_
                      refine a_get S kc_Mod 12 (by decide) lf_Mod_72 h0 rfl d_Mod_decode_144 ?_
                      refine a_icmp_ge S (tgt := 181) d_Mod_decode_147 rfl (fun h147 => ?_) (fun h147 => ?_)
                      · refine a_aload_n S d_Mod_decode_181 rfl rfl ?_
                        refine a_iload_n S d_Mod_decode_182 rfl rfl ?_
                        refine a_if_eq S (tgt := 190) d_Mod_decode_183 rfl (fun h183 => ?_) (fun h183 => ?_)
                        · refine a_iconst S (v := 2) d_Mod_decode_190 (by decide) ?_
                          refine a_put S kc_Mod kt_Mod 0 (by decide) lf_Mod_55 rfl h0 rfl rfl (Nat.le_of_ble_eq_true rfl) d_Mod_decode_191 (fun w42 h0 e43 => ?_)
                          have h0 : w42 b = some (.inr (6, [.int 2, .int (nI c), .int (if s then 1 else 0), .ref (b + 1), .ref (b + 2), .ref (b + 3), .ref (b + 4), .ref (b + 5), .ref (b + 6), .ref (b + 7), .int (nI m), .ref (b + 8), .int (nI kr.length), .ref (b + 9), .int (nI ((keyB K F T2 c).length)), .ref (b + 10), .ref (b + 11), .ref (b + 12), .ref (b + 13), .int (nI lo.length), .int (if he then nI hi.length else -1), .int (nI p2), .int (if b2 then 1 else 0)])) := h0
                          have fr := fr.trans (Fr.sub (Fr.of1 e43) (by omega) (by omega))
                          have h1 := Fr.cell (Fr.of1 e43) h1 (by omega)
                          have h2 := Fr.cell (Fr.of1 e43) h2 (by omega)
                          have h3 := Fr.cell (Fr.of1 e43) h3 (by omega)
                          have h4 := Fr.cell (Fr.of1 e43) h4 (by omega)
                          have h5 := Fr.cell (Fr.of1 e43) h5 (by omega)
                          have h6 := Fr.cell (Fr.of1 e43) h6 (by omega)
                          have h7 := Fr.cell (Fr.of1 e43) h7 (by omega)
                          have h8 := Fr.cell (Fr.of1 e43) h8 (by omega)
                          have h9 := Fr.cell (Fr.of1 e43) h9 (by omega)
                          have h10 := Fr.cell (Fr.of1 e43) h10 (by omega)
                          have h11 := Fr.cell (Fr.of1 e43) h11 (by omega)
                          have h12 := Fr.cell (Fr.of1 e43) h12 (by omega)
                          have h13 := Fr.cell (Fr.of1 e43) h13 (by omega)
                          refine a_iload_n S d_Mod_decode_194 rfl rfl ?_
                          refine a_if_eq S (tgt := 205) d_Mod_decode_195 rfl (fun h195 => ?_) (fun h195 => ?_)
                          · refine a_iload_n S d_Mod_decode_205 rfl rfl ?_
                            exact RT _ _ _ _ _ _ _ d_Mod_decode_206 (by first | rfl | (cases gd <;> rfl)) (by omega) (by omega) (Or.inr (Or.inr ⟨hs0, hno, rfl, rfl, fr, ⟨_, _, _, _, _, _, _, _, _, _, _, _, _, _, _, _, ⟨h0, h1, h2, h3, h4, h5, h6, h7, h8, h9, h10, h11, h12, h13⟩, hI, hNg⟩⟩))
                          · exact absurd (by decide) h195
                        · exact absurd (by decide) h183
                      · refine a_iload_n S d_Mod_decode_150 rfl rfl ?_
                        refine a_if_eq S (tgt := 181) d_Mod_decode_151 rfl (fun h151 => ?_) (fun h151 => ?_)
                        · refine a_aload_n S d_Mod_decode_181 rfl rfl ?_
                          refine a_iload_n S d_Mod_decode_182 rfl rfl ?_
                          refine a_if_eq S (tgt := 190) d_Mod_decode_183 rfl (fun h183 => ?_) (fun h183 => ?_)
                          · refine a_iconst S (v := 2) d_Mod_decode_190 (by decide) ?_
                            refine a_put S kc_Mod kt_Mod 0 (by decide) lf_Mod_55 rfl h0 rfl rfl (Nat.le_of_ble_eq_true rfl) d_Mod_decode_191 (fun w44 h0 e45 => ?_)
                            have h0 : w44 b = some (.inr (6, [.int 2, .int (nI c), .int (if s then 1 else 0), .ref (b + 1), .ref (b + 2), .ref (b + 3), .ref (b + 4), .ref (b + 5), .ref (b + 6), .ref (b + 7), .int (nI m), .ref (b + 8), .int (nI kr.length), .ref (b + 9), .int (nI ((keyB K F T2 c).length)), .ref (b + 10), .ref (b + 11), .ref (b + 12), .ref (b + 13), .int (nI lo.length), .int (if he then nI hi.length else -1), .int (nI p2), .int (if b2 then 1 else 0)])) := h0
                            have fr := fr.trans (Fr.sub (Fr.of1 e45) (by omega) (by omega))
                            have h1 := Fr.cell (Fr.of1 e45) h1 (by omega)
                            have h2 := Fr.cell (Fr.of1 e45) h2 (by omega)
                            have h3 := Fr.cell (Fr.of1 e45) h3 (by omega)
                            have h4 := Fr.cell (Fr.of1 e45) h4 (by omega)
                            have h5 := Fr.cell (Fr.of1 e45) h5 (by omega)
                            have h6 := Fr.cell (Fr.of1 e45) h6 (by omega)
                            have h7 := Fr.cell (Fr.of1 e45) h7 (by omega)
                            have h8 := Fr.cell (Fr.of1 e45) h8 (by omega)
                            have h9 := Fr.cell (Fr.of1 e45) h9 (by omega)
                            have h10 := Fr.cell (Fr.of1 e45) h10 (by omega)
                            have h11 := Fr.cell (Fr.of1 e45) h11 (by omega)
                            have h12 := Fr.cell (Fr.of1 e45) h12 (by omega)
                            have h13 := Fr.cell (Fr.of1 e45) h13 (by omega)
                            refine a_iload_n S d_Mod_decode_194 rfl rfl ?_
                            refine a_if_eq S (tgt := 205) d_Mod_decode_195 rfl (fun h195 => ?_) (fun h195 => ?_)
                            · refine a_iload_n S d_Mod_decode_205 rfl rfl ?_
                              exact RT _ _ _ _ _ _ _ d_Mod_decode_206 (by first | rfl | (cases gd <;> rfl)) (by omega) (by omega) (Or.inr (Or.inr ⟨hs0, hno, rfl, rfl, fr, ⟨_, _, _, _, _, _, _, _, _, _, _, _, _, _, _, _, ⟨h0, h1, h2, h3, h4, h5, h6, h7, h8, h9, h10, h11, h12, h13⟩, hI, hNg⟩⟩))
                            · exact absurd (by decide) h195
                          · exact absurd (by decide) h183
                        · exact absurd (by decide) h151
                    · have hln : (keyB K F T2 c).length = kr.length := (nI_eq (by omega) (by omega)).mp h131
                      refine a_iconst S (v := 1) d_Mod_decode_134 (by decide) ?_
                      refine a_goto S (tgt := 139) d_Mod_decode_135 rfl ?_
                      refine a_istore_n S d_Mod_decode_139 rfl (Nat.le_of_ble_eq_true rfl) (lv' := [(0, .ref b), (1, .int 1)]) rfl ?_
                      refine a_iconst S (v := 0) d_Mod_decode_140 (by decide) ?_
                      refine a_istore_n S d_Mod_decode_141 rfl (Nat.le_of_ble_eq_true rfl) (lv' := [(0, .ref b), (1, .int 1), (2, .int 0)]) rfl ?_
                      have loop142 : ∀ (kk142 : Nat) (j : Nat) (gd : Bool), kr.length - j = kk142 → (j ≤ kr.length) → (gd = true → ∀ i, i < j → (keyB K F T2 c).getD i 0 = kr.getD i 0) → (gd = false → ¬ (keyB K F T2 c) = kr) → AW X (D, A, 3, Q) 142 [(0, .ref b), (1, .int (if gd then 1 else 0)), (2, .int (nI j))] [] w35 n ((((0 + 0) + 0) + 0) + 0) ((((0 + 0) + 0) + 0) + 0) := by
                        intro kk142
                        induction kk142 using Nat.strongRecOn with
                        | ind kk142 ih142 =>
                          intro j gd hk142 hj hg1 hg0
                          refine a_iload_n S d_Mod_decode_142 rfl rfl ?_
                          refine a_aload_n S d_Mod_decode_143 rfl rfl ?_
                          refine a_get S kc_Mod 12 (by decide) lf_Mod_72 h0 rfl d_Mod_decode_144 ?_
                          refine a_icmp_ge S (tgt := 181) d_Mod_decode_147 rfl (fun h147 => ?_) (fun h147 => ?_)
                          · have hj2 : kr.length ≤ j := (nI_leI (by omega) (by omega)).mp h147
                            have hG1 : gd = true → kr = (keyB K F T2 c) := fun z => (ls_ext hln (fun i hi => hg1 z i (by omega))).symm
                            refine a_aload_n S d_Mod_decode_181 rfl rfl ?_
                            refine a_iload_n S d_Mod_decode_182 rfl rfl ?_
                            refine a_if_eq S (tgt := 190) d_Mod_decode_183 rfl (fun h183 => ?_) (fun h183 => ?_)
                            · have hgv : gd = false := bo_0 h183
                              have hno : ∀ T : Nat → kV, okT K F T c → ¬ kr = keyB K F T c := fun T z1 z2 => hg0 hgv (by rw [keyB_cg (hfin T z1 z2).2.2, ← z2])
                              refine a_iconst S (v := 2) d_Mod_decode_190 (by decide) ?_
                              refine a_put S kc_Mod kt_Mod 0 (by decide) lf_Mod_55 rfl h0 rfl rfl (Nat.le_of_ble_eq_true rfl) d_Mod_decode_191 (fun w46 h0 e47 => ?_)
                              have h0 : w46 b = some (.inr (6, [.int 2, .int (nI c), .int (if s then 1 else 0), .ref (b + 1), .ref (b + 2), .ref (b + 3), .ref (b + 4), .ref (b + 5), .ref (b + 6), .ref (b + 7), .int (nI m), .ref (b + 8), .int (nI kr.length), .ref (b + 9), .int (nI ((keyB K F T2 c).length)), .ref (b + 10), .ref (b + 11), .ref (b + 12), .ref (b + 13), .int (nI lo.length), .int (if he then nI hi.length else -1), .int (nI p2), .int (if b2 then 1 else 0)])) := h0
                              have fr := fr.trans (Fr.sub (Fr.of1 e47) (by omega) (by omega))
                              have h1 := Fr.cell (Fr.of1 e47) h1 (by omega)
                              have h2 := Fr.cell (Fr.of1 e47) h2 (by omega)
                              have h3 := Fr.cell (Fr.of1 e47) h3 (by omega)
                              have h4 := Fr.cell (Fr.of1 e47) h4 (by omega)
                              have h5 := Fr.cell (Fr.of1 e47) h5 (by omega)
                              have h6 := Fr.cell (Fr.of1 e47) h6 (by omega)
                              have h7 := Fr.cell (Fr.of1 e47) h7 (by omega)
                              have h8 := Fr.cell (Fr.of1 e47) h8 (by omega)
                              have h9 := Fr.cell (Fr.of1 e47) h9 (by omega)
                              have h10 := Fr.cell (Fr.of1 e47) h10 (by omega)
                              have h11 := Fr.cell (Fr.of1 e47) h11 (by omega)
                              have h12 := Fr.cell (Fr.of1 e47) h12 (by omega)
                              have h13 := Fr.cell (Fr.of1 e47) h13 (by omega)
                              refine a_iload_n S d_Mod_decode_194 rfl rfl ?_
                              refine a_if_eq S (tgt := 205) d_Mod_decode_195 rfl (fun h195 => ?_) (fun h195 => ?_)
                              · refine a_iload_n S d_Mod_decode_205 rfl rfl ?_
                                exact RT _ _ _ _ _ _ _ d_Mod_decode_206 (by first | rfl | (cases gd <;> rfl)) (by omega) (by omega) (Or.inr (Or.inr ⟨hs0, hno, (by rw [hgv]; rfl), rfl, fr, ⟨_, _, _, _, _, _, _, _, _, _, _, _, _, _, _, _, ⟨h0, h1, h2, h3, h4, h5, h6, h7, h8, h9, h10, h11, h12, h13⟩, hI, hNg⟩⟩))
                              · exact absurd (hgv.symm.trans (bo_1 h195)) (by decide)
                            · have hgv : gd = true := bo_1 h183
                              refine a_iconst S (v := 0) d_Mod_decode_186 (by decide) ?_
                              refine a_goto S (tgt := 191) d_Mod_decode_187 rfl ?_
                              refine a_put S kc_Mod kt_Mod 0 (by decide) lf_Mod_55 rfl h0 rfl rfl (Nat.le_of_ble_eq_true rfl) d_Mod_decode_191 (fun w48 h0 e49 => ?_)
                              have h0 : w48 b = some (.inr (6, [.int 0, .int (nI c), .int (if s then 1 else 0), .ref (b + 1), .ref (b + 2), .ref (b + 3), .ref (b + 4), .ref (b + 5), .ref (b + 6), .ref (b + 7), .int (nI m), .ref (b + 8), .int (nI kr.length), .ref (b + 9), .int (nI ((keyB K F T2 c).length)), .ref (b + 10), .ref (b + 11), .ref (b + 12), .ref (b + 13), .int (nI lo.length), .int (if he then nI hi.length else -1), .int (nI p2), .int (if b2 then 1 else 0)])) := h0
                              have fr := fr.trans (Fr.sub (Fr.of1 e49) (by omega) (by omega))
                              have h1 := Fr.cell (Fr.of1 e49) h1 (by omega)
                              have h2 := Fr.cell (Fr.of1 e49) h2 (by omega)
                              have h3 := Fr.cell (Fr.of1 e49) h3 (by omega)
                              have h4 := Fr.cell (Fr.of1 e49) h4 (by omega)
                              have h5 := Fr.cell (Fr.of1 e49) h5 (by omega)
                              have h6 := Fr.cell (Fr.of1 e49) h6 (by omega)
                              have h7 := Fr.cell (Fr.of1 e49) h7 (by omega)
                              have h8 := Fr.cell (Fr.of1 e49) h8 (by omega)
                              have h9 := Fr.cell (Fr.of1 e49) h9 (by omega)
                              have h10 := Fr.cell (Fr.of1 e49) h10 (by omega)
                              have h11 := Fr.cell (Fr.of1 e49) h11 (by omega)
                              have h12 := Fr.cell (Fr.of1 e49) h12 (by omega)
                              have h13 := Fr.cell (Fr.of1 e49) h13 (by omega)
                              refine a_iload_n S d_Mod_decode_194 rfl rfl ?_
                              refine a_if_eq S (tgt := 205) d_Mod_decode_195 rfl (fun h195 => ?_) (fun h195 => ?_)
                              · exact absurd (hgv.symm.trans (bo_0 h195)) (by decide)
                              · refine a_aload_n S d_Mod_decode_198 rfl rfl ?_
                                refine a_bipush S (v := 13) d_Mod_decode_199 (by decide) ?_
                                refine a_iconst S (v := 0) d_Mod_decode_201 (by decide) ?_
                                refine a_callV S (rest := []) lg_Mod_174 h0 (c_Mod_copy X.2.1 D b 0 c s ki fl va2 fo2 go1 si1 te1 m ro kr.length (wrL ma (200 * 0) (keyB K F T2 c)) ((keyB K F T2 c).length) en_40 (upd ms 0 (nI (keyB K F T2 c).length)) lw hw lo.length (if he then nI hi.length else -1) p2 b2 13 0 w48 n (by omega) (by omega) (by omega) hG ⟨h0, h1, h2, h3, h4, h5, h6, h7, h8, h9, h10, h11, h12, h13⟩) (by decide) (by omega) (by omega) rfl (Nat.le_of_ble_eq_true rfl) d_Mod_decode_202 (fun v50 w51 n52 p53 => ?_)
                                obtain ⟨va56, fo56, go56, si56, te56, rfl, e55, f54, ⟨h0, h1, h2, h3, h4, h5, h6, h7, h8, h9, h10, h11, h12, h13⟩, hC1, hC2, hC3, hC4, hC5⟩ := p53
                                rw [e55]
                                refine a_st (st' := []) rfl ?_
                                have hG := NG.cpd hG hC3
                                have fr := fr.trans (Fr.sub f54 (by omega) (by omega))
                                refine a_iload_n S d_Mod_decode_205 rfl rfl ?_
                                exact RT _ _ _ _ _ _ _ d_Mod_decode_206 (by first | rfl | (cases gd <;> rfl)) (by omega) (by omega) (Or.inr (Or.inl ⟨T2, hs0, hoT, hG1 hgv, (by rw [hgv]; rfl), (fun T z1 z2 => (hfin T z1 z2).2.2), rfl, fr, ⟨_, _, _, _, _, _, _, _, _, _, _, _, _, _, _, _, ⟨h0, h1, h2, h3, h4, h5, h6, h7, h8, h9, h10, h11, h12, h13⟩, (hI.dc hT2 hC1 hC2 hC3 hC4 hC5), hG⟩⟩))
                          · have hj : j < kr.length := Nat.not_le.mp fun z => h147 ((nI_leI (by omega) (by omega)).mpr z)
                            refine a_iload_n S d_Mod_decode_150 rfl rfl ?_
                            refine a_if_eq S (tgt := 181) d_Mod_decode_151 rfl (fun h151 => ?_) (fun h151 => ?_)
                            · have hgf : gd = false := bo_0 h151
                              have hG1 : gd = true → kr = (keyB K F T2 c) := fun z => by rw [hgf] at z; cases z
                              refine a_aload_n S d_Mod_decode_181 rfl rfl ?_
                              refine a_iload_n S d_Mod_decode_182 rfl rfl ?_
                              refine a_if_eq S (tgt := 190) d_Mod_decode_183 rfl (fun h183 => ?_) (fun h183 => ?_)
                              · have hgv : gd = false := bo_0 h183
                                have hno : ∀ T : Nat → kV, okT K F T c → ¬ kr = keyB K F T c := fun T z1 z2 => hg0 hgv (by rw [keyB_cg (hfin T z1 z2).2.2, ← z2])
                                refine a_iconst S (v := 2) d_Mod_decode_190 (by decide) ?_
                                refine a_put S kc_Mod kt_Mod 0 (by decide) lf_Mod_55 rfl h0 rfl rfl (Nat.le_of_ble_eq_true rfl) d_Mod_decode_191 (fun w57 h0 e58 => ?_)
                                have h0 : w57 b = some (.inr (6, [.int 2, .int (nI c), .int (if s then 1 else 0), .ref (b + 1), .ref (b + 2), .ref (b + 3), .ref (b + 4), .ref (b + 5), .ref (b + 6), .ref (b + 7), .int (nI m), .ref (b + 8), .int (nI kr.length), .ref (b + 9), .int (nI ((keyB K F T2 c).length)), .ref (b + 10), .ref (b + 11), .ref (b + 12), .ref (b + 13), .int (nI lo.length), .int (if he then nI hi.length else -1), .int (nI p2), .int (if b2 then 1 else 0)])) := h0
                                have fr := fr.trans (Fr.sub (Fr.of1 e58) (by omega) (by omega))
                                have h1 := Fr.cell (Fr.of1 e58) h1 (by omega)
                                have h2 := Fr.cell (Fr.of1 e58) h2 (by omega)
                                have h3 := Fr.cell (Fr.of1 e58) h3 (by omega)
                                have h4 := Fr.cell (Fr.of1 e58) h4 (by omega)
                                have h5 := Fr.cell (Fr.of1 e58) h5 (by omega)
                                have h6 := Fr.cell (Fr.of1 e58) h6 (by omega)
                                have h7 := Fr.cell (Fr.of1 e58) h7 (by omega)
                                have h8 := Fr.cell (Fr.of1 e58) h8 (by omega)
                                have h9 := Fr.cell (Fr.of1 e58) h9 (by omega)
                                have h10 := Fr.cell (Fr.of1 e58) h10 (by omega)
                                have h11 := Fr.cell (Fr.of1 e58) h11 (by omega)
                                have h12 := Fr.cell (Fr.of1 e58) h12 (by omega)
                                have h13 := Fr.cell (Fr.of1 e58) h13 (by omega)
                                refine a_iload_n S d_Mod_decode_194 rfl rfl ?_
                                refine a_if_eq S (tgt := 205) d_Mod_decode_195 rfl (fun h195 => ?_) (fun h195 => ?_)
                                · refine a_iload_n S d_Mod_decode_205 rfl rfl ?_
                                  exact RT _ _ _ _ _ _ _ d_Mod_decode_206 (by first | rfl | (cases gd <;> rfl)) (by omega) (by omega) (Or.inr (Or.inr ⟨hs0, hno, (by rw [hgv]; rfl), rfl, fr, ⟨_, _, _, _, _, _, _, _, _, _, _, _, _, _, _, _, ⟨h0, h1, h2, h3, h4, h5, h6, h7, h8, h9, h10, h11, h12, h13⟩, hI, hNg⟩⟩))
                                · exact absurd (hgv.symm.trans (bo_1 h195)) (by decide)
                              · have hgv : gd = true := bo_1 h183
                                refine a_iconst S (v := 0) d_Mod_decode_186 (by decide) ?_
                                refine a_goto S (tgt := 191) d_Mod_decode_187 rfl ?_
                                refine a_put S kc_Mod kt_Mod 0 (by decide) lf_Mod_55 rfl h0 rfl rfl (Nat.le_of_ble_eq_true rfl) d_Mod_decode_191 (fun w59 h0 e60 => ?_)
                                have h0 : w59 b = some (.inr (6, [.int 0, .int (nI c), .int (if s then 1 else 0), .ref (b + 1), .ref (b + 2), .ref (b + 3), .ref (b + 4), .ref (b + 5), .ref (b + 6), .ref (b + 7), .int (nI m), .ref (b + 8), .int (nI kr.length), .ref (b + 9), .int (nI ((keyB K F T2 c).length)), .ref (b + 10), .ref (b + 11), .ref (b + 12), .ref (b + 13), .int (nI lo.length), .int (if he then nI hi.length else -1), .int (nI p2), .int (if b2 then 1 else 0)])) := h0
                                have fr := fr.trans (Fr.sub (Fr.of1 e60) (by omega) (by omega))
                                have h1 := Fr.cell (Fr.of1 e60) h1 (by omega)
                                have h2 := Fr.cell (Fr.of1 e60) h2 (by omega)
                                have h3 := Fr.cell (Fr.of1 e60) h3 (by omega)
                                have h4 := Fr.cell (Fr.of1 e60) h4 (by omega)
                                have h5 := Fr.cell (Fr.of1 e60) h5 (by omega)
                                have h6 := Fr.cell (Fr.of1 e60) h6 (by omega)
                                have h7 := Fr.cell (Fr.of1 e60) h7 (by omega)
                                have h8 := Fr.cell (Fr.of1 e60) h8 (by omega)
                                have h9 := Fr.cell (Fr.of1 e60) h9 (by omega)
                                have h10 := Fr.cell (Fr.of1 e60) h10 (by omega)
                                have h11 := Fr.cell (Fr.of1 e60) h11 (by omega)
                                have h12 := Fr.cell (Fr.of1 e60) h12 (by omega)
                                have h13 := Fr.cell (Fr.of1 e60) h13 (by omega)
                                refine a_iload_n S d_Mod_decode_194 rfl rfl ?_
                                refine a_if_eq S (tgt := 205) d_Mod_decode_195 rfl (fun h195 => ?_) (fun h195 => ?_)
                                · exact absurd (hgv.symm.trans (bo_0 h195)) (by decide)
                                · refine a_aload_n S d_Mod_decode_198 rfl rfl ?_
                                  refine a_bipush S (v := 13) d_Mod_decode_199 (by decide) ?_
                                  refine a_iconst S (v := 0) d_Mod_decode_201 (by decide) ?_
                                  refine a_callV S (rest := []) lg_Mod_174 h0 (c_Mod_copy X.2.1 D b 0 c s ki fl va2 fo2 go1 si1 te1 m ro kr.length (wrL ma (200 * 0) (keyB K F T2 c)) ((keyB K F T2 c).length) en_40 (upd ms 0 (nI (keyB K F T2 c).length)) lw hw lo.length (if he then nI hi.length else -1) p2 b2 13 0 w59 n (by omega) (by omega) (by omega) hG ⟨h0, h1, h2, h3, h4, h5, h6, h7, h8, h9, h10, h11, h12, h13⟩) (by decide) (by omega) (by omega) rfl (Nat.le_of_ble_eq_true rfl) d_Mod_decode_202 (fun v61 w62 n63 p64 => ?_)
                                  obtain ⟨va67, fo67, go67, si67, te67, rfl, e66, f65, ⟨h0, h1, h2, h3, h4, h5, h6, h7, h8, h9, h10, h11, h12, h13⟩, hC1, hC2, hC3, hC4, hC5⟩ := p64
                                  rw [e66]
                                  refine a_st (st' := []) rfl ?_
                                  have hG := NG.cpd hG hC3
                                  have fr := fr.trans (Fr.sub f65 (by omega) (by omega))
                                  refine a_iload_n S d_Mod_decode_205 rfl rfl ?_
                                  exact RT _ _ _ _ _ _ _ d_Mod_decode_206 (by first | rfl | (cases gd <;> rfl)) (by omega) (by omega) (Or.inr (Or.inl ⟨T2, hs0, hoT, hG1 hgv, (by rw [hgv]; rfl), (fun T z1 z2 => (hfin T z1 z2).2.2), rfl, fr, ⟨_, _, _, _, _, _, _, _, _, _, _, _, _, _, _, _, ⟨h0, h1, h2, h3, h4, h5, h6, h7, h8, h9, h10, h11, h12, h13⟩, (hI.dc hT2 hC1 hC2 hC3 hC4 hC5), hG⟩⟩))
                            · have hgd : gd = true := bo_1 h151
                              refine a_aload_n S d_Mod_decode_154 rfl rfl ?_
                              refine a_get S kc_Mod 13 (by decide) lf_Mod_36 h0 rfl d_Mod_decode_155 ?_
                              refine a_iload_n S d_Mod_decode_158 rfl rfl ?_
                              refine a_iald S (i := j) h9 rfl (by omega) (by decide) d_Mod_decode_159 ?_
                              refine a_eqi (wr0 (by omega)) ?_
                              refine a_aload_n S d_Mod_decode_160 rfl rfl ?_
                              refine a_get S kc_Mod 11 (by decide) lf_Mod_33 h0 rfl d_Mod_decode_161 ?_
                              refine a_iload_n S d_Mod_decode_164 rfl rfl ?_
                              refine a_iald S (i := j) h8 rfl (by omega) (by decide) d_Mod_decode_165 ?_
                              refine a_eqi (hI.row.2 j hj) ?_
                              refine a_icmp_ne S (tgt := 173) d_Mod_decode_166 rfl (fun h166 => ?_) (fun h166 => ?_)
                              · have hq_ : ¬ (keyB K F T2 c).getD j 0 = kr.getD j 0 := fun z => h166 (by rw [z])
                                refine a_iconst S (v := 0) d_Mod_decode_173 (by decide) ?_
                                refine a_istore_n S d_Mod_decode_174 rfl (Nat.le_of_ble_eq_true rfl) (lv' := [(0, .ref b), (1, .int 0), (2, .int (nI j))]) rfl ?_
                                refine a_iinc S (v := nI (j + 1)) d_Mod_decode_175 rfl (ni_add rfl (by decide)) (Nat.le_of_ble_eq_true rfl) (lv' := [(0, .ref b), (1, .int 0), (2, .int (nI (j + 1)))]) rfl ?_
                                refine a_goto S (tgt := 142) d_Mod_decode_178 rfl ?_
                                exact ih142 _ (by omega) (j + 1) false rfl (by omega) (fun z => by cases z) (fun _ z => hq_ (by rw [z]))
                              · have hq_ : (keyB K F T2 c).getD j 0 = kr.getD j 0 := (nI_eq (by have := getD_lt (keyB_lt hoT) j; omega) (by have := getD_lt hI.row.1 j; omega)).mp h166
                                refine a_iconst S (v := 1) d_Mod_decode_169 (by decide) ?_
                                refine a_goto S (tgt := 174) d_Mod_decode_170 rfl ?_
                                refine a_istore_n S d_Mod_decode_174 rfl (Nat.le_of_ble_eq_true rfl) (lv' := [(0, .ref b), (1, .int 1), (2, .int (nI j))]) rfl ?_
                                refine a_iinc S (v := nI (j + 1)) d_Mod_decode_175 rfl (ni_add rfl (by decide)) (Nat.le_of_ble_eq_true rfl) (lv' := [(0, .ref b), (1, .int 1), (2, .int (nI (j + 1)))]) rfl ?_
                                refine a_goto S (tgt := 142) d_Mod_decode_178 rfl ?_
                                exact ih142 _ (by omega) (j + 1) true rfl (by omega) (fun _ i hi => by
          by_cases e : i = j
          · subst e; exact hq_
          · exact hg1 hgd i (by omega)) (fun z => by cases z)
                      exact loop142 _ 0 true rfl (Nat.zero_le _) (fun _ i hi => absurd hi (Nat.not_lt_zero i)) (fun z => by cases z)
          · have hg : g < c := Nat.not_le.mp fun z => h48 ((nI_leI (by omega) (by omega)).mpr z)
            refine a_aload_n S d_Mod_decode_51 rfl rfl ?_
            refine a_get S kc_Mod 22 (by decide) lf_Mod_142 h0 rfl d_Mod_decode_52 ?_
            refine a_if_ne S (tgt := 71) d_Mod_decode_55 rfl (fun h55 => ?_) (fun h55 => ?_)
            · have he_ : g = c ∨ b1 = true := Or.inr (bo_1 h55)
              refine a_aload_n S d_Mod_decode_71 rfl rfl ?_
              refine a_bipush S (v := 13) d_Mod_decode_72 (by decide) ?_
              refine a_callV S (rest := []) lg_Mod_168 h0 (c_Mod_readTail X.2.1 D b 0 c s ki fl va1 fo1 go1 si1 te1 m ro ma sz en ms lw hw lo.length (if he then nI hi.length else -1) p1 b1 kr 13 K F T1 w1 n hkr hI.row.1 hI.row.2 hp1 (by omega) hc5 hkf (fun f hf => hT f (by omega)) hP (RM2.z hC he_) ⟨h0, h1, h2, h3, h4, h5, h6, h7, h8, h9, h10, h11, h12, h13⟩) (by decide) (by omega) (by omega) rfl (Nat.le_of_ble_eq_true rfl) d_Mod_decode_74 (fun v68 w69 n70 p71 => ?_)
              obtain ⟨T2, va2, fo2, p2, b2, rfl, e73, f72, ⟨h0, h1, h2, h3, h4, h5, h6, h7, h8, h9, h10, h11, h12, h13⟩, hp2, hT2, hS2, hP2, hfin⟩ := p71
              rw [e73]
              refine a_st (st' := []) rfl ?_
              have hI := hI.sx (fun p x hp hv => (hS p x hp hv).tl (hS2.1 p (by omega)) (hS2.2 p (by omega)))
              have fr := fr.trans (Fr.sub f72 (by omega) (by omega))
              refine a_aload_n S d_Mod_decode_77 rfl rfl ?_
              refine a_get S kc_Mod 22 (by decide) lf_Mod_142 h0 rfl d_Mod_decode_78 ?_
              refine a_if_ne S (tgt := 108) d_Mod_decode_81 rfl (fun h81 => ?_) (fun h81 => ?_)
              · have hb2 : b2 = true := bo_1 h81
                have hno : ∀ T : Nat → kV, okT K F T c → ¬ kr = keyB K F T c := fun T z1 z2 => by rw [(hfin T z1 z2).1] at hb2; cases hb2
                refine a_iconst S (v := 0) d_Mod_decode_108 (by decide) ?_
                refine a_istore_n S d_Mod_decode_109 rfl (Nat.le_of_ble_eq_true rfl) (lv' := [(0, .ref b), (1, .int 0)]) rfl ?_
                refine a_iload_n S d_Mod_decode_110 rfl rfl ?_
                refine a_if_eq S (tgt := 181) d_Mod_decode_111 rfl (fun h111 => ?_) (fun h111 => ?_)
                · refine a_aload_n S d_Mod_decode_181 rfl rfl ?_
                  refine a_iload_n S d_Mod_decode_182 rfl rfl ?_
                  refine a_if_eq S (tgt := 190) d_Mod_decode_183 rfl (fun h183 => ?_) (fun h183 => ?_)
                  · refine a_iconst S (v := 2) d_Mod_decode_190 (by decide) ?_
                    refine a_put S kc_Mod kt_Mod 0 (by decide) lf_Mod_55 rfl h0 rfl rfl (Nat.le_of_ble_eq_true rfl) d_Mod_decode_191 (fun w74 h0 e75 => ?_)
                    have h0 : w74 b = some (.inr (6, [.int 2, .int (nI c), .int (if s then 1 else 0), .ref (b + 1), .ref (b + 2), .ref (b + 3), .ref (b + 4), .ref (b + 5), .ref (b + 6), .ref (b + 7), .int (nI m), .ref (b + 8), .int (nI kr.length), .ref (b + 9), .int (nI sz), .ref (b + 10), .ref (b + 11), .ref (b + 12), .ref (b + 13), .int (nI lo.length), .int (if he then nI hi.length else -1), .int (nI p2), .int (if b2 then 1 else 0)])) := h0
                    have fr := fr.trans (Fr.sub (Fr.of1 e75) (by omega) (by omega))
                    have h1 := Fr.cell (Fr.of1 e75) h1 (by omega)
                    have h2 := Fr.cell (Fr.of1 e75) h2 (by omega)
                    have h3 := Fr.cell (Fr.of1 e75) h3 (by omega)
                    have h4 := Fr.cell (Fr.of1 e75) h4 (by omega)
                    have h5 := Fr.cell (Fr.of1 e75) h5 (by omega)
                    have h6 := Fr.cell (Fr.of1 e75) h6 (by omega)
                    have h7 := Fr.cell (Fr.of1 e75) h7 (by omega)
                    have h8 := Fr.cell (Fr.of1 e75) h8 (by omega)
                    have h9 := Fr.cell (Fr.of1 e75) h9 (by omega)
                    have h10 := Fr.cell (Fr.of1 e75) h10 (by omega)
                    have h11 := Fr.cell (Fr.of1 e75) h11 (by omega)
                    have h12 := Fr.cell (Fr.of1 e75) h12 (by omega)
                    have h13 := Fr.cell (Fr.of1 e75) h13 (by omega)
                    refine a_iload_n S d_Mod_decode_194 rfl rfl ?_
                    refine a_if_eq S (tgt := 205) d_Mod_decode_195 rfl (fun h195 => ?_) (fun h195 => ?_)
                    · refine a_iload_n S d_Mod_decode_205 rfl rfl ?_
                      exact RT _ _ _ _ _ _ _ d_Mod_decode_206 (by first | rfl | (cases gd <;> rfl)) (by omega) (by omega) (Or.inr (Or.inr ⟨hs0, hno, rfl, rfl, fr, ⟨_, _, _, _, _, _, _, _, _, _, _, _, _, _, _, _, ⟨h0, h1, h2, h3, h4, h5, h6, h7, h8, h9, h10, h11, h12, h13⟩, hI, hNg⟩⟩))
                    · exact absurd (by decide) h195
                  · exact absurd (by decide) h183
                · exact absurd (by decide) h111
              · have hb2 : b2 = false := bo_0 h81
                refine a_aload_n S d_Mod_decode_84 rfl rfl ?_
                refine a_get S kc_Mod 21 (by decide) lf_Mod_139 h0 rfl d_Mod_decode_85 ?_
                refine a_aload_n S d_Mod_decode_88 rfl rfl ?_
                refine a_get S kc_Mod 12 (by decide) lf_Mod_72 h0 rfl d_Mod_decode_89 ?_
                refine a_icmp_ne S (tgt := 108) d_Mod_decode_92 rfl (fun h92 => ?_) (fun h92 => ?_)
                · have hno : ∀ T : Nat → kV, okT K F T c → ¬ kr = keyB K F T c := fun T z1 z2 => h92 (by rw [(hfin T z1 z2).2.1])
                  refine a_iconst S (v := 0) d_Mod_decode_108 (by decide) ?_
                  refine a_istore_n S d_Mod_decode_109 rfl (Nat.le_of_ble_eq_true rfl) (lv' := [(0, .ref b), (1, .int 0)]) rfl ?_
                  refine a_iload_n S d_Mod_decode_110 rfl rfl ?_
                  refine a_if_eq S (tgt := 181) d_Mod_decode_111 rfl (fun h111 => ?_) (fun h111 => ?_)
                  · refine a_aload_n S d_Mod_decode_181 rfl rfl ?_
                    refine a_iload_n S d_Mod_decode_182 rfl rfl ?_
                    refine a_if_eq S (tgt := 190) d_Mod_decode_183 rfl (fun h183 => ?_) (fun h183 => ?_)
                    · refine a_iconst S (v := 2) d_Mod_decode_190 (by decide) ?_
                      refine a_put S kc_Mod kt_Mod 0 (by decide) lf_Mod_55 rfl h0 rfl rfl (Nat.le_of_ble_eq_true rfl) d_Mod_decode_191 (fun w76 h0 e77 => ?_)
                      have h0 : w76 b = some (.inr (6, [.int 2, .int (nI c), .int (if s then 1 else 0), .ref (b + 1), .ref (b + 2), .ref (b + 3), .ref (b + 4), .ref (b + 5), .ref (b + 6), .ref (b + 7), .int (nI m), .ref (b + 8), .int (nI kr.length), .ref (b + 9), .int (nI sz), .ref (b + 10), .ref (b + 11), .ref (b + 12), .ref (b + 13), .int (nI lo.length), .int (if he then nI hi.length else -1), .int (nI p2), .int (if b2 then 1 else 0)])) := h0
                      have fr := fr.trans (Fr.sub (Fr.of1 e77) (by omega) (by omega))
                      have h1 := Fr.cell (Fr.of1 e77) h1 (by omega)
                      have h2 := Fr.cell (Fr.of1 e77) h2 (by omega)
                      have h3 := Fr.cell (Fr.of1 e77) h3 (by omega)
                      have h4 := Fr.cell (Fr.of1 e77) h4 (by omega)
                      have h5 := Fr.cell (Fr.of1 e77) h5 (by omega)
                      have h6 := Fr.cell (Fr.of1 e77) h6 (by omega)
                      have h7 := Fr.cell (Fr.of1 e77) h7 (by omega)
                      have h8 := Fr.cell (Fr.of1 e77) h8 (by omega)
                      have h9 := Fr.cell (Fr.of1 e77) h9 (by omega)
                      have h10 := Fr.cell (Fr.of1 e77) h10 (by omega)
                      have h11 := Fr.cell (Fr.of1 e77) h11 (by omega)
                      have h12 := Fr.cell (Fr.of1 e77) h12 (by omega)
                      have h13 := Fr.cell (Fr.of1 e77) h13 (by omega)
                      refine a_iload_n S d_Mod_decode_194 rfl rfl ?_
                      refine a_if_eq S (tgt := 205) d_Mod_decode_195 rfl (fun h195 => ?_) (fun h195 => ?_)
                      · refine a_iload_n S d_Mod_decode_205 rfl rfl ?_
                        exact RT _ _ _ _ _ _ _ d_Mod_decode_206 (by first | rfl | (cases gd <;> rfl)) (by omega) (by omega) (Or.inr (Or.inr ⟨hs0, hno, rfl, rfl, fr, ⟨_, _, _, _, _, _, _, _, _, _, _, _, _, _, _, _, ⟨h0, h1, h2, h3, h4, h5, h6, h7, h8, h9, h10, h11, h12, h13⟩, hI, hNg⟩⟩))
                      · exact absurd (by decide) h195
                    · exact absurd (by decide) h183
                  · exact absurd (by decide) h111
                · refine a_aload_n S d_Mod_decode_95 rfl rfl ?_
                  refine a_bipush S (v := 13) d_Mod_decode_96 (by decide) ?_
                  refine a_callV S (rest := []) lg_Mod_171 h0 (c_Mod_isTuple X.2.1 D b 0 c s ki fl va2 fo2 go1 si1 te1 m ro kr.length ma sz en ms lw hw lo.length (if he then nI hi.length else -1) p2 b2 13 K T2 w69 n (by omega) hc5 (fun i hi => ⟨(hkf i hi).2.2.1, (hkf i hi).1⟩) hT2 ⟨h0, h1, h2, h3, h4, h5, h6, h7, h8, h9, h10, h11, h12, h13⟩) (by decide) (by omega) (by omega) rfl (Nat.le_of_ble_eq_true rfl) d_Mod_decode_98 (fun v78 w79 n80 p81 => ?_)
                  obtain ⟨ok, rfl, hok, e82, e83⟩ := p81
                  rw [e82, e83]
                  refine a_st (st' := [.int (if ok then 1 else 0)]) rfl ?_
                  refine a_if_eq S (tgt := 108) d_Mod_decode_101 rfl (fun h101 => ?_) (fun h101 => ?_)
                  · have hok0 : ok = false := bo_0 h101
                    have hno : ∀ T : Nat → kV, okT K F T c → ¬ kr = keyB K F T c := fun T z1 z2 => by have q := hok.mpr (fun i hi _ _ => by rw [(hfin T z1 z2).2.2 i hi]; exact (z1 i hi).2.2.2.1); rw [hok0] at q; cases q
                    refine a_iconst S (v := 0) d_Mod_decode_108 (by decide) ?_
                    refine a_istore_n S d_Mod_decode_109 rfl (Nat.le_of_ble_eq_true rfl) (lv' := [(0, .ref b), (1, .int 0)]) rfl ?_
                    refine a_iload_n S d_Mod_decode_110 rfl rfl ?_
                    refine a_if_eq S (tgt := 181) d_Mod_decode_111 rfl (fun h111 => ?_) (fun h111 => ?_)
                    · refine a_aload_n S d_Mod_decode_181 rfl rfl ?_
                      refine a_iload_n S d_Mod_decode_182 rfl rfl ?_
                      refine a_if_eq S (tgt := 190) d_Mod_decode_183 rfl (fun h183 => ?_) (fun h183 => ?_)
                      · refine a_iconst S (v := 2) d_Mod_decode_190 (by decide) ?_
                        refine a_put S kc_Mod kt_Mod 0 (by decide) lf_Mod_55 rfl h0 rfl rfl (Nat.le_of_ble_eq_true rfl) d_Mod_decode_191 (fun w84 h0 e85 => ?_)
                        have h0 : w84 b = some (.inr (6, [.int 2, .int (nI c), .int (if s then 1 else 0), .ref (b + 1), .ref (b + 2), .ref (b + 3), .ref (b + 4), .ref (b + 5), .ref (b + 6), .ref (b + 7), .int (nI m), .ref (b + 8), .int (nI kr.length), .ref (b + 9), .int (nI sz), .ref (b + 10), .ref (b + 11), .ref (b + 12), .ref (b + 13), .int (nI lo.length), .int (if he then nI hi.length else -1), .int (nI p2), .int (if b2 then 1 else 0)])) := h0
                        have fr := fr.trans (Fr.sub (Fr.of1 e85) (by omega) (by omega))
                        have h1 := Fr.cell (Fr.of1 e85) h1 (by omega)
                        have h2 := Fr.cell (Fr.of1 e85) h2 (by omega)
                        have h3 := Fr.cell (Fr.of1 e85) h3 (by omega)
                        have h4 := Fr.cell (Fr.of1 e85) h4 (by omega)
                        have h5 := Fr.cell (Fr.of1 e85) h5 (by omega)
                        have h6 := Fr.cell (Fr.of1 e85) h6 (by omega)
                        have h7 := Fr.cell (Fr.of1 e85) h7 (by omega)
                        have h8 := Fr.cell (Fr.of1 e85) h8 (by omega)
                        have h9 := Fr.cell (Fr.of1 e85) h9 (by omega)
                        have h10 := Fr.cell (Fr.of1 e85) h10 (by omega)
                        have h11 := Fr.cell (Fr.of1 e85) h11 (by omega)
                        have h12 := Fr.cell (Fr.of1 e85) h12 (by omega)
                        have h13 := Fr.cell (Fr.of1 e85) h13 (by omega)
                        refine a_iload_n S d_Mod_decode_194 rfl rfl ?_
                        refine a_if_eq S (tgt := 205) d_Mod_decode_195 rfl (fun h195 => ?_) (fun h195 => ?_)
                        · refine a_iload_n S d_Mod_decode_205 rfl rfl ?_
                          exact RT _ _ _ _ _ _ _ d_Mod_decode_206 (by first | rfl | (cases gd <;> rfl)) (by omega) (by omega) (Or.inr (Or.inr ⟨hs0, hno, rfl, rfl, fr, ⟨_, _, _, _, _, _, _, _, _, _, _, _, _, _, _, _, ⟨h0, h1, h2, h3, h4, h5, h6, h7, h8, h9, h10, h11, h12, h13⟩, hI, hNg⟩⟩))
                        · exact absurd (by decide) h195
                      · exact absurd (by decide) h183
                    · exact absurd (by decide) h111
                  · have hoT : okT K F T2 c := okT_of hT2 hP2 (hok.mp (bo_1 h101))
                    have hkl := keyB_l hoT hc5
                    have hG := hNg
                    refine a_iconst S (v := 1) d_Mod_decode_104 (by decide) ?_
                    refine a_goto S (tgt := 109) d_Mod_decode_105 rfl ?_
                    refine a_istore_n S d_Mod_decode_109 rfl (Nat.le_of_ble_eq_true rfl) (lv' := [(0, .ref b), (1, .int 1)]) rfl ?_
                    refine a_iload_n S d_Mod_decode_110 rfl rfl ?_
                    refine a_if_eq S (tgt := 181) d_Mod_decode_111 rfl (fun h111 => ?_) (fun h111 => ?_)
                    · exact absurd h111 (by decide)
                    · refine a_aload_n S d_Mod_decode_114 rfl rfl ?_
                      refine a_iconst S (v := 0) d_Mod_decode_115 (by decide) ?_
                      refine a_bipush S (v := 13) d_Mod_decode_116 (by decide) ?_
                      refine a_callV S (rest := []) lg_Mod_136 h0 (c_Mod_make X.2.1 D b 0 c s ki fl va2 fo2 go1 si1 te1 m ro kr.length ma sz en ms lw hw lo.length (if he then nI hi.length else -1) p2 b2 0 13 K F T2 w69 n (by decide) (by omega) hc5 hkf hT2 hoT ⟨h0, h1, h2, h3, h4, h5, h6, h7, h8, h9, h10, h11, h12, h13⟩) (by decide) (by omega) (by omega) rfl (Nat.le_of_ble_eq_true rfl) d_Mod_decode_118 (fun v86 w87 n88 p89 => ?_)
                      obtain ⟨en_92, rfl, e91, f90, ⟨h0, h1, h2, h3, h4, h5, h6, h7, h8, h9, h10, h11, h12, h13⟩, hE93⟩ := p89
                      rw [e91]
                      refine a_st (st' := []) rfl ?_
                      have fr := fr.trans (Fr.sub f90 (by omega) (by omega))
                      refine a_aload_n S d_Mod_decode_121 rfl rfl ?_
                      refine a_get S kc_Mod 16 (by decide) lf_Mod_42 h0 rfl d_Mod_decode_122 ?_
                      refine a_iconst S (v := 0) d_Mod_decode_125 (by decide) ?_
                      refine a_iald S (i := 0) h11 rfl (by omega) (by decide) d_Mod_decode_126 ?_
                      refine a_eqi pk_us ?_
                      refine a_aload_n S d_Mod_decode_127 rfl rfl ?_
                      refine a_get S kc_Mod 12 (by decide) lf_Mod_72 h0 rfl d_Mod_decode_128 ?_
                      refine a_icmp_ne S (tgt := 138) d_Mod_decode_131 rfl (fun h131 => ?_) (fun h131 => ?_)
                      · have hno : ∀ T : Nat → kV, okT K F T c → ¬ kr = keyB K F T c := fun T z1 z2 => h131 (by rw [keyB_cg (hfin T z1 z2).2.2, ← z2])
                        refine a_iconst S (v := 0) d_Mod_decode_138 (by decide) ?_
                        refine a_istore_n S d_Mod_decode_139 rfl (Nat.le_of_ble_eq_true rfl) (lv' := [(0, .ref b), (1, .int 0)]) rfl ?_
                        refine a_iconst S (v := 0) d_Mod_decode_140 (by decide) ?_
                        refine a_istore_n S d_Mod_decode_141 rfl (Nat.le_of_ble_eq_true rfl) (lv' := [(0, .ref b), (1, .int 0), (2, .int 0)]) rfl ?_
                        refine a_iload_n S d_Mod_decode_142 rfl rfl ?_
                        refine a_aload_n S d_Mod_decode_143 rfl rfl ?_
                        refine a_get S kc_Mod 12 (by decide) lf_Mod_72 h0 rfl d_Mod_decode_144 ?_
                        refine a_icmp_ge S (tgt := 181) d_Mod_decode_147 rfl (fun h147 => ?_) (fun h147 => ?_)
                        · refine a_aload_n S d_Mod_decode_181 rfl rfl ?_
                          refine a_iload_n S d_Mod_decode_182 rfl rfl ?_
                          refine a_if_eq S (tgt := 190) d_Mod_decode_183 rfl (fun h183 => ?_) (fun h183 => ?_)
                          · refine a_iconst S (v := 2) d_Mod_decode_190 (by decide) ?_
                            refine a_put S kc_Mod kt_Mod 0 (by decide) lf_Mod_55 rfl h0 rfl rfl (Nat.le_of_ble_eq_true rfl) d_Mod_decode_191 (fun w94 h0 e95 => ?_)
                            have h0 : w94 b = some (.inr (6, [.int 2, .int (nI c), .int (if s then 1 else 0), .ref (b + 1), .ref (b + 2), .ref (b + 3), .ref (b + 4), .ref (b + 5), .ref (b + 6), .ref (b + 7), .int (nI m), .ref (b + 8), .int (nI kr.length), .ref (b + 9), .int (nI ((keyB K F T2 c).length)), .ref (b + 10), .ref (b + 11), .ref (b + 12), .ref (b + 13), .int (nI lo.length), .int (if he then nI hi.length else -1), .int (nI p2), .int (if b2 then 1 else 0)])) := h0
                            have fr := fr.trans (Fr.sub (Fr.of1 e95) (by omega) (by omega))
                            have h1 := Fr.cell (Fr.of1 e95) h1 (by omega)
                            have h2 := Fr.cell (Fr.of1 e95) h2 (by omega)
                            have h3 := Fr.cell (Fr.of1 e95) h3 (by omega)
                            have h4 := Fr.cell (Fr.of1 e95) h4 (by omega)
                            have h5 := Fr.cell (Fr.of1 e95) h5 (by omega)
                            have h6 := Fr.cell (Fr.of1 e95) h6 (by omega)
                            have h7 := Fr.cell (Fr.of1 e95) h7 (by omega)
                            have h8 := Fr.cell (Fr.of1 e95) h8 (by omega)
                            have h9 := Fr.cell (Fr.of1 e95) h9 (by omega)
                            have h10 := Fr.cell (Fr.of1 e95) h10 (by omega)
                            have h11 := Fr.cell (Fr.of1 e95) h11 (by omega)
                            have h12 := Fr.cell (Fr.of1 e95) h12 (by omega)
                            have h13 := Fr.cell (Fr.of1 e95) h13 (by omega)
                            refine a_iload_n S d_Mod_decode_194 rfl rfl ?_
                            refine a_if_eq S (tgt := 205) d_Mod_decode_195 rfl (fun h195 => ?_) (fun h195 => ?_)
                            · refine a_iload_n S d_Mod_decode_205 rfl rfl ?_
                              exact RT _ _ _ _ _ _ _ d_Mod_decode_206 (by first | rfl | (cases gd <;> rfl)) (by omega) (by omega) (Or.inr (Or.inr ⟨hs0, hno, rfl, rfl, fr, ⟨_, _, _, _, _, _, _, _, _, _, _, _, _, _, _, _, ⟨h0, h1, h2, h3, h4, h5, h6, h7, h8, h9, h10, h11, h12, h13⟩, hI, hNg⟩⟩))
                            · exact absurd (by decide) h195
                          · exact absurd (by decide) h183
                        · refine a_iload_n S d_Mod_decode_150 rfl rfl ?_
                          refine a_if_eq S (tgt := 181) d_Mod_decode_151 rfl (fun h151 => ?_) (fun h151 => ?_)
                          · refine a_aload_n S d_Mod_decode_181 rfl rfl ?_
                            refine a_iload_n S d_Mod_decode_182 rfl rfl ?_
                            refine a_if_eq S (tgt := 190) d_Mod_decode_183 rfl (fun h183 => ?_) (fun h183 => ?_)
                            · refine a_iconst S (v := 2) d_Mod_decode_190 (by decide) ?_
                              refine a_put S kc_Mod kt_Mod 0 (by decide) lf_Mod_55 rfl h0 rfl rfl (Nat.le_of_ble_eq_true rfl) d_Mod_decode_191 (fun w96 h0 e97 => ?_)
                              have h0 : w96 b = some (.inr (6, [.int 2, .int (nI c), .int (if s then 1 else 0), .ref (b + 1), .ref (b + 2), .ref (b + 3), .ref (b + 4), .ref (b + 5), .ref (b + 6), .ref (b + 7), .int (nI m), .ref (b + 8), .int (nI kr.length), .ref (b + 9), .int (nI ((keyB K F T2 c).length)), .ref (b + 10), .ref (b + 11), .ref (b + 12), .ref (b + 13), .int (nI lo.length), .int (if he then nI hi.length else -1), .int (nI p2), .int (if b2 then 1 else 0)])) := h0
                              have fr := fr.trans (Fr.sub (Fr.of1 e97) (by omega) (by omega))
                              have h1 := Fr.cell (Fr.of1 e97) h1 (by omega)
                              have h2 := Fr.cell (Fr.of1 e97) h2 (by omega)
                              have h3 := Fr.cell (Fr.of1 e97) h3 (by omega)
                              have h4 := Fr.cell (Fr.of1 e97) h4 (by omega)
                              have h5 := Fr.cell (Fr.of1 e97) h5 (by omega)
                              have h6 := Fr.cell (Fr.of1 e97) h6 (by omega)
                              have h7 := Fr.cell (Fr.of1 e97) h7 (by omega)
                              have h8 := Fr.cell (Fr.of1 e97) h8 (by omega)
                              have h9 := Fr.cell (Fr.of1 e97) h9 (by omega)
                              have h10 := Fr.cell (Fr.of1 e97) h10 (by omega)
                              have h11 := Fr.cell (Fr.of1 e97) h11 (by omega)
                              have h12 := Fr.cell (Fr.of1 e97) h12 (by omega)
                              have h13 := Fr.cell (Fr.of1 e97) h13 (by omega)
                              refine a_iload_n S d_Mod_decode_194 rfl rfl ?_
                              refine a_if_eq S (tgt := 205) d_Mod_decode_195 rfl (fun h195 => ?_) (fun h195 => ?_)
                              · refine a_iload_n S d_Mod_decode_205 rfl rfl ?_
                                exact RT _ _ _ _ _ _ _ d_Mod_decode_206 (by first | rfl | (cases gd <;> rfl)) (by omega) (by omega) (Or.inr (Or.inr ⟨hs0, hno, rfl, rfl, fr, ⟨_, _, _, _, _, _, _, _, _, _, _, _, _, _, _, _, ⟨h0, h1, h2, h3, h4, h5, h6, h7, h8, h9, h10, h11, h12, h13⟩, hI, hNg⟩⟩))
                              · exact absurd (by decide) h195
                            · exact absurd (by decide) h183
                          · exact absurd (by decide) h151
                      · have hln : (keyB K F T2 c).length = kr.length := (nI_eq (by omega) (by omega)).mp h131
                        refine a_iconst S (v := 1) d_Mod_decode_134 (by decide) ?_
                        refine a_goto S (tgt := 139) d_Mod_decode_135 rfl ?_
                        refine a_istore_n S d_Mod_decode_139 rfl (Nat.le_of_ble_eq_true rfl) (lv' := [(0, .ref b), (1, .int 1)]) rfl ?_
                        refine a_iconst S (v := 0) d_Mod_decode_140 (by decide) ?_
                        refine a_istore_n S d_Mod_decode_141 rfl (Nat.le_of_ble_eq_true rfl) (lv' := [(0, .ref b), (1, .int 1), (2, .int 0)]) rfl ?_
                        have loop142 : ∀ (kk142 : Nat) (j : Nat) (gd : Bool), kr.length - j = kk142 → (j ≤ kr.length) → (gd = true → ∀ i, i < j → (keyB K F T2 c).getD i 0 = kr.getD i 0) → (gd = false → ¬ (keyB K F T2 c) = kr) → AW X (D, A, 3, Q) 142 [(0, .ref b), (1, .int (if gd then 1 else 0)), (2, .int (nI j))] [] w87 n ((((0 + 0) + 0) + 0) + 0) ((((0 + 0) + 0) + 0) + 0) := by
                          intro kk142
                          induction kk142 using Nat.strongRecOn with
                          | ind kk142 ih142 =>
                            intro j gd hk142 hj hg1 hg0
                            refine a_iload_n S d_Mod_decode_142 rfl rfl ?_
                            refine a_aload_n S d_Mod_decode_143 rfl rfl ?_
                            refine a_get S kc_Mod 12 (by decide) lf_Mod_72 h0 rfl d_Mod_decode_144 ?_
                            refine a_icmp_ge S (tgt := 181) d_Mod_decode_147 rfl (fun h147 => ?_) (fun h147 => ?_)
                            · have hj2 : kr.length ≤ j := (nI_leI (by omega) (by omega)).mp h147
                              have hG1 : gd = true → kr = (keyB K F T2 c) := fun z => (ls_ext hln (fun i hi => hg1 z i (by omega))).symm
                              refine a_aload_n S d_Mod_decode_181 rfl rfl ?_
                              refine a_iload_n S d_Mod_decode_182 rfl rfl ?_
                              refine a_if_eq S (tgt := 190) d_Mod_decode_183 rfl (fun h183 => ?_) (fun h183 => ?_)
                              · have hgv : gd = false := bo_0 h183
                                have hno : ∀ T : Nat → kV, okT K F T c → ¬ kr = keyB K F T c := fun T z1 z2 => hg0 hgv (by rw [keyB_cg (hfin T z1 z2).2.2, ← z2])
                                refine a_iconst S (v := 2) d_Mod_decode_190 (by decide) ?_
                                refine a_put S kc_Mod kt_Mod 0 (by decide) lf_Mod_55 rfl h0 rfl rfl (Nat.le_of_ble_eq_true rfl) d_Mod_decode_191 (fun w98 h0 e99 => ?_)
                                have h0 : w98 b = some (.inr (6, [.int 2, .int (nI c), .int (if s then 1 else 0), .ref (b + 1), .ref (b + 2), .ref (b + 3), .ref (b + 4), .ref (b + 5), .ref (b + 6), .ref (b + 7), .int (nI m), .ref (b + 8), .int (nI kr.length), .ref (b + 9), .int (nI ((keyB K F T2 c).length)), .ref (b + 10), .ref (b + 11), .ref (b + 12), .ref (b + 13), .int (nI lo.length), .int (if he then nI hi.length else -1), .int (nI p2), .int (if b2 then 1 else 0)])) := h0
                                have fr := fr.trans (Fr.sub (Fr.of1 e99) (by omega) (by omega))
                                have h1 := Fr.cell (Fr.of1 e99) h1 (by omega)
                                have h2 := Fr.cell (Fr.of1 e99) h2 (by omega)
                                have h3 := Fr.cell (Fr.of1 e99) h3 (by omega)
                                have h4 := Fr.cell (Fr.of1 e99) h4 (by omega)
                                have h5 := Fr.cell (Fr.of1 e99) h5 (by omega)
                                have h6 := Fr.cell (Fr.of1 e99) h6 (by omega)
                                have h7 := Fr.cell (Fr.of1 e99) h7 (by omega)
                                have h8 := Fr.cell (Fr.of1 e99) h8 (by omega)
                                have h9 := Fr.cell (Fr.of1 e99) h9 (by omega)
                                have h10 := Fr.cell (Fr.of1 e99) h10 (by omega)
                                have h11 := Fr.cell (Fr.of1 e99) h11 (by omega)
                                have h12 := Fr.cell (Fr.of1 e99) h12 (by omega)
                                have h13 := Fr.cell (Fr.of1 e99) h13 (by omega)
                                refine a_iload_n S d_Mod_decode_194 rfl rfl ?_
                                refine a_if_eq S (tgt := 205) d_Mod_decode_195 rfl (fun h195 => ?_) (fun h195 => ?_)
                                · refine a_iload_n S d_Mod_decode_205 rfl rfl ?_
                                  exact RT _ _ _ _ _ _ _ d_Mod_decode_206 (by first | rfl | (cases gd <;> rfl)) (by omega) (by omega) (Or.inr (Or.inr ⟨hs0, hno, (by rw [hgv]; rfl), rfl, fr, ⟨_, _, _, _, _, _, _, _, _, _, _, _, _, _, _, _, ⟨h0, h1, h2, h3, h4, h5, h6, h7, h8, h9, h10, h11, h12, h13⟩, hI, hNg⟩⟩))
                                · exact absurd (hgv.symm.trans (bo_1 h195)) (by decide)
                              · have hgv : gd = true := bo_1 h183
                                refine a_iconst S (v := 0) d_Mod_decode_186 (by decide) ?_
                                refine a_goto S (tgt := 191) d_Mod_decode_187 rfl ?_
                                refine a_put S kc_Mod kt_Mod 0 (by decide) lf_Mod_55 rfl h0 rfl rfl (Nat.le_of_ble_eq_true rfl) d_Mod_decode_191 (fun w100 h0 e101 => ?_)
                                have h0 : w100 b = some (.inr (6, [.int 0, .int (nI c), .int (if s then 1 else 0), .ref (b + 1), .ref (b + 2), .ref (b + 3), .ref (b + 4), .ref (b + 5), .ref (b + 6), .ref (b + 7), .int (nI m), .ref (b + 8), .int (nI kr.length), .ref (b + 9), .int (nI ((keyB K F T2 c).length)), .ref (b + 10), .ref (b + 11), .ref (b + 12), .ref (b + 13), .int (nI lo.length), .int (if he then nI hi.length else -1), .int (nI p2), .int (if b2 then 1 else 0)])) := h0
                                have fr := fr.trans (Fr.sub (Fr.of1 e101) (by omega) (by omega))
                                have h1 := Fr.cell (Fr.of1 e101) h1 (by omega)
                                have h2 := Fr.cell (Fr.of1 e101) h2 (by omega)
                                have h3 := Fr.cell (Fr.of1 e101) h3 (by omega)
                                have h4 := Fr.cell (Fr.of1 e101) h4 (by omega)
                                have h5 := Fr.cell (Fr.of1 e101) h5 (by omega)
                                have h6 := Fr.cell (Fr.of1 e101) h6 (by omega)
                                have h7 := Fr.cell (Fr.of1 e101) h7 (by omega)
                                have h8 := Fr.cell (Fr.of1 e101) h8 (by omega)
                                have h9 := Fr.cell (Fr.of1 e101) h9 (by omega)
                                have h10 := Fr.cell (Fr.of1 e101) h10 (by omega)
                                have h11 := Fr.cell (Fr.of1 e101) h11 (by omega)
                                have h12 := Fr.cell (Fr.of1 e101) h12 (by omega)
                                have h13 := Fr.cell (Fr.of1 e101) h13 (by omega)
                                refine a_iload_n S d_Mod_decode_194 rfl rfl ?_
                                refine a_if_eq S (tgt := 205) d_Mod_decode_195 rfl (fun h195 => ?_) (fun h195 => ?_)
                                · exact absurd (hgv.symm.trans (bo_0 h195)) (by decide)
                                · refine a_aload_n S d_Mod_decode_198 rfl rfl ?_
                                  refine a_bipush S (v := 13) d_Mod_decode_199 (by decide) ?_
                                  refine a_iconst S (v := 0) d_Mod_decode_201 (by decide) ?_
                                  refine a_callV S (rest := []) lg_Mod_174 h0 (c_Mod_copy X.2.1 D b 0 c s ki fl va2 fo2 go1 si1 te1 m ro kr.length (wrL ma (200 * 0) (keyB K F T2 c)) ((keyB K F T2 c).length) en_92 (upd ms 0 (nI (keyB K F T2 c).length)) lw hw lo.length (if he then nI hi.length else -1) p2 b2 13 0 w100 n (by omega) (by omega) (by omega) hG ⟨h0, h1, h2, h3, h4, h5, h6, h7, h8, h9, h10, h11, h12, h13⟩) (by decide) (by omega) (by omega) rfl (Nat.le_of_ble_eq_true rfl) d_Mod_decode_202 (fun v102 w103 n104 p105 => ?_)
                                  obtain ⟨va108, fo108, go108, si108, te108, rfl, e107, f106, ⟨h0, h1, h2, h3, h4, h5, h6, h7, h8, h9, h10, h11, h12, h13⟩, hC1, hC2, hC3, hC4, hC5⟩ := p105
                                  rw [e107]
                                  refine a_st (st' := []) rfl ?_
                                  have hG := NG.cpd hG hC3
                                  have fr := fr.trans (Fr.sub f106 (by omega) (by omega))
                                  refine a_iload_n S d_Mod_decode_205 rfl rfl ?_
                                  exact RT _ _ _ _ _ _ _ d_Mod_decode_206 (by first | rfl | (cases gd <;> rfl)) (by omega) (by omega) (Or.inr (Or.inl ⟨T2, hs0, hoT, hG1 hgv, (by rw [hgv]; rfl), (fun T z1 z2 => (hfin T z1 z2).2.2), rfl, fr, ⟨_, _, _, _, _, _, _, _, _, _, _, _, _, _, _, _, ⟨h0, h1, h2, h3, h4, h5, h6, h7, h8, h9, h10, h11, h12, h13⟩, (hI.dc hT2 hC1 hC2 hC3 hC4 hC5), hG⟩⟩))
                            · have hj : j < kr.length := Nat.not_le.mp fun z => h147 ((nI_leI (by omega) (by omega)).mpr z)
                              refine a_iload_n S d_Mod_decode_150 rfl rfl ?_
                              refine a_if_eq S (tgt := 181) d_Mod_decode_151 rfl (fun h151 => ?_) (fun h151 => ?_)
                              · have hgf : gd = false := bo_0 h151
                                have hG1 : gd = true → kr = (keyB K F T2 c) := fun z => by rw [hgf] at z; cases z
                                refine a_aload_n S d_Mod_decode_181 rfl rfl ?_
                                refine a_iload_n S d_Mod_decode_182 rfl rfl ?_
                                refine a_if_eq S (tgt := 190) d_Mod_decode_183 rfl (fun h183 => ?_) (fun h183 => ?_)
                                · have hgv : gd = false := bo_0 h183
                                  have hno : ∀ T : Nat → kV, okT K F T c → ¬ kr = keyB K F T c := fun T z1 z2 => hg0 hgv (by rw [keyB_cg (hfin T z1 z2).2.2, ← z2])
                                  refine a_iconst S (v := 2) d_Mod_decode_190 (by decide) ?_
                                  refine a_put S kc_Mod kt_Mod 0 (by decide) lf_Mod_55 rfl h0 rfl rfl (Nat.le_of_ble_eq_true rfl) d_Mod_decode_191 (fun w109 h0 e110 => ?_)
                                  have h0 : w109 b = some (.inr (6, [.int 2, .int (nI c), .int (if s then 1 else 0), .ref (b + 1), .ref (b + 2), .ref (b + 3), .ref (b + 4), .ref (b + 5), .ref (b + 6), .ref (b + 7), .int (nI m), .ref (b + 8), .int (nI kr.length), .ref (b + 9), .int (nI ((keyB K F T2 c).length)), .ref (b + 10), .ref (b + 11), .ref (b + 12), .ref (b + 13), .int (nI lo.length), .int (if he then nI hi.length else -1), .int (nI p2), .int (if b2 then 1 else 0)])) := h0
                                  have fr := fr.trans (Fr.sub (Fr.of1 e110) (by omega) (by omega))
                                  have h1 := Fr.cell (Fr.of1 e110) h1 (by omega)
                                  have h2 := Fr.cell (Fr.of1 e110) h2 (by omega)
                                  have h3 := Fr.cell (Fr.of1 e110) h3 (by omega)
                                  have h4 := Fr.cell (Fr.of1 e110) h4 (by omega)
                                  have h5 := Fr.cell (Fr.of1 e110) h5 (by omega)
                                  have h6 := Fr.cell (Fr.of1 e110) h6 (by omega)
                                  have h7 := Fr.cell (Fr.of1 e110) h7 (by omega)
                                  have h8 := Fr.cell (Fr.of1 e110) h8 (by omega)
                                  have h9 := Fr.cell (Fr.of1 e110) h9 (by omega)
                                  have h10 := Fr.cell (Fr.of1 e110) h10 (by omega)
                                  have h11 := Fr.cell (Fr.of1 e110) h11 (by omega)
                                  have h12 := Fr.cell (Fr.of1 e110) h12 (by omega)
                                  have h13 := Fr.cell (Fr.of1 e110) h13 (by omega)
                                  refine a_iload_n S d_Mod_decode_194 rfl rfl ?_
                                  refine a_if_eq S (tgt := 205) d_Mod_decode_195 rfl (fun h195 => ?_) (fun h195 => ?_)
                                  · refine a_iload_n S d_Mod_decode_205 rfl rfl ?_
                                    exact RT _ _ _ _ _ _ _ d_Mod_decode_206 (by first | rfl | (cases gd <;> rfl)) (by omega) (by omega) (Or.inr (Or.inr ⟨hs0, hno, (by rw [hgv]; rfl), rfl, fr, ⟨_, _, _, _, _, _, _, _, _, _, _, _, _, _, _, _, ⟨h0, h1, h2, h3, h4, h5, h6, h7, h8, h9, h10, h11, h12, h13⟩, hI, hNg⟩⟩))
                                  · exact absurd (hgv.symm.trans (bo_1 h195)) (by decide)
                                · have hgv : gd = true := bo_1 h183
                                  refine a_iconst S (v := 0) d_Mod_decode_186 (by decide) ?_
                                  refine a_goto S (tgt := 191) d_Mod_decode_187 rfl ?_
                                  refine a_put S kc_Mod kt_Mod 0 (by decide) lf_Mod_55 rfl h0 rfl rfl (Nat.le_of_ble_eq_true rfl) d_Mod_decode_191 (fun w111 h0 e112 => ?_)
                                  have h0 : w111 b = some (.inr (6, [.int 0, .int (nI c), .int (if s then 1 else 0), .ref (b + 1), .ref (b + 2), .ref (b + 3), .ref (b + 4), .ref (b + 5), .ref (b + 6), .ref (b + 7), .int (nI m), .ref (b + 8), .int (nI kr.length), .ref (b + 9), .int (nI ((keyB K F T2 c).length)), .ref (b + 10), .ref (b + 11), .ref (b + 12), .ref (b + 13), .int (nI lo.length), .int (if he then nI hi.length else -1), .int (nI p2), .int (if b2 then 1 else 0)])) := h0
                                  have fr := fr.trans (Fr.sub (Fr.of1 e112) (by omega) (by omega))
                                  have h1 := Fr.cell (Fr.of1 e112) h1 (by omega)
                                  have h2 := Fr.cell (Fr.of1 e112) h2 (by omega)
                                  have h3 := Fr.cell (Fr.of1 e112) h3 (by omega)
                                  have h4 := Fr.cell (Fr.of1 e112) h4 (by omega)
                                  have h5 := Fr.cell (Fr.of1 e112) h5 (by omega)
                                  have h6 := Fr.cell (Fr.of1 e112) h6 (by omega)
                                  have h7 := Fr.cell (Fr.of1 e112) h7 (by omega)
                                  have h8 := Fr.cell (Fr.of1 e112) h8 (by omega)
                                  have h9 := Fr.cell (Fr.of1 e112) h9 (by omega)
                                  have h10 := Fr.cell (Fr.of1 e112) h10 (by omega)
                                  have h11 := Fr.cell (Fr.of1 e112) h11 (by omega)
                                  have h12 := Fr.cell (Fr.of1 e112) h12 (by omega)
                                  have h13 := Fr.cell (Fr.of1 e112) h13 (by omega)
                                  refine a_iload_n S d_Mod_decode_194 rfl rfl ?_
                                  refine a_if_eq S (tgt := 205) d_Mod_decode_195 rfl (fun h195 => ?_) (fun h195 => ?_)
                                  · exact absurd (hgv.symm.trans (bo_0 h195)) (by decide)
                                  · refine a_aload_n S d_Mod_decode_198 rfl rfl ?_
                                    refine a_bipush S (v := 13) d_Mod_decode_199 (by decide) ?_
                                    refine a_iconst S (v := 0) d_Mod_decode_201 (by decide) ?_
                                    refine a_callV S (rest := []) lg_Mod_174 h0 (c_Mod_copy X.2.1 D b 0 c s ki fl va2 fo2 go1 si1 te1 m ro kr.length (wrL ma (200 * 0) (keyB K F T2 c)) ((keyB K F T2 c).length) en_92 (upd ms 0 (nI (keyB K F T2 c).length)) lw hw lo.length (if he then nI hi.length else -1) p2 b2 13 0 w111 n (by omega) (by omega) (by omega) hG ⟨h0, h1, h2, h3, h4, h5, h6, h7, h8, h9, h10, h11, h12, h13⟩) (by decide) (by omega) (by omega) rfl (Nat.le_of_ble_eq_true rfl) d_Mod_decode_202 (fun v113 w114 n115 p116 => ?_)
                                    obtain ⟨va119, fo119, go119, si119, te119, rfl, e118, f117, ⟨h0, h1, h2, h3, h4, h5, h6, h7, h8, h9, h10, h11, h12, h13⟩, hC1, hC2, hC3, hC4, hC5⟩ := p116
                                    rw [e118]
                                    refine a_st (st' := []) rfl ?_
                                    have hG := NG.cpd hG hC3
                                    have fr := fr.trans (Fr.sub f117 (by omega) (by omega))
                                    refine a_iload_n S d_Mod_decode_205 rfl rfl ?_
                                    exact RT _ _ _ _ _ _ _ d_Mod_decode_206 (by first | rfl | (cases gd <;> rfl)) (by omega) (by omega) (Or.inr (Or.inl ⟨T2, hs0, hoT, hG1 hgv, (by rw [hgv]; rfl), (fun T z1 z2 => (hfin T z1 z2).2.2), rfl, fr, ⟨_, _, _, _, _, _, _, _, _, _, _, _, _, _, _, _, ⟨h0, h1, h2, h3, h4, h5, h6, h7, h8, h9, h10, h11, h12, h13⟩, (hI.dc hT2 hC1 hC2 hC3 hC4 hC5), hG⟩⟩))
                              · have hgd : gd = true := bo_1 h151
                                refine a_aload_n S d_Mod_decode_154 rfl rfl ?_
                                refine a_get S kc_Mod 13 (by decide) lf_Mod_36 h0 rfl d_Mod_decode_155 ?_
                                refine a_iload_n S d_Mod_decode_158 rfl rfl ?_
                                refine a_iald S (i := j) h9 rfl (by omega) (by decide) d_Mod_decode_159 ?_
                                refine a_eqi (wr0 (by omega)) ?_
                                refine a_aload_n S d_Mod_decode_160 rfl rfl ?_
                                refine a_get S kc_Mod 11 (by decide) lf_Mod_33 h0 rfl d_Mod_decode_161 ?_
                                refine a_iload_n S d_Mod_decode_164 rfl rfl ?_
                                refine a_iald S (i := j) h8 rfl (by omega) (by decide) d_Mod_decode_165 ?_
                                refine a_eqi (hI.row.2 j hj) ?_
                                refine a_icmp_ne S (tgt := 173) d_Mod_decode_166 rfl (fun h166 => ?_) (fun h166 => ?_)
                                · have hq_ : ¬ (keyB K F T2 c).getD j 0 = kr.getD j 0 := fun z => h166 (by rw [z])
                                  refine a_iconst S (v := 0) d_Mod_decode_173 (by decide) ?_
                                  refine a_istore_n S d_Mod_decode_174 rfl (Nat.le_of_ble_eq_true rfl) (lv' := [(0, .ref b), (1, .int 0), (2, .int (nI j))]) rfl ?_
                                  refine a_iinc S (v := nI (j + 1)) d_Mod_decode_175 rfl (ni_add rfl (by decide)) (Nat.le_of_ble_eq_true rfl) (lv' := [(0, .ref b), (1, .int 0), (2, .int (nI (j + 1)))]) rfl ?_
                                  refine a_goto S (tgt := 142) d_Mod_decode_178 rfl ?_
                                  exact ih142 _ (by omega) (j + 1) false rfl (by omega) (fun z => by cases z) (fun _ z => hq_ (by rw [z]))
                                · have hq_ : (keyB K F T2 c).getD j 0 = kr.getD j 0 := (nI_eq (by have := getD_lt (keyB_lt hoT) j; omega) (by have := getD_lt hI.row.1 j; omega)).mp h166
                                  refine a_iconst S (v := 1) d_Mod_decode_169 (by decide) ?_
                                  refine a_goto S (tgt := 174) d_Mod_decode_170 rfl ?_
                                  refine a_istore_n S d_Mod_decode_174 rfl (Nat.le_of_ble_eq_true rfl) (lv' := [(0, .ref b), (1, .int 1), (2, .int (nI j))]) rfl ?_
                                  refine a_iinc S (v := nI (j + 1)) d_Mod_decode_175 rfl (ni_add rfl (by decide)) (Nat.le_of_ble_eq_true rfl) (lv' := [(0, .ref b), (1, .int 1), (2, .int (nI (j + 1)))]) rfl ?_
                                  refine a_goto S (tgt := 142) d_Mod_decode_178 rfl ?_
                                  exact ih142 _ (by omega) (j + 1) true rfl (by omega) (fun _ i hi => by
          by_cases e : i = j
          · subst e; exact hq_
          · exact hg1 hgd i (by omega)) (fun z => by cases z)
                        exact loop142 _ 0 true rfl (Nat.zero_le _) (fun _ i hi => absurd hi (Nat.not_lt_zero i)) (fun z => by cases z)
            · obtain rfl : b1 = false := bo_0 h55
              have hk := hkf g hg
              refine a_aload_n S d_Mod_decode_58 rfl rfl ?_
              refine a_bipush S (v := 13) d_Mod_decode_59 (by decide) ?_
              refine a_iload_n S d_Mod_decode_61 rfl rfl ?_
              refine a_callV S (rest := []) lg_Mod_165 h0 (c_Mod_readField X.2.1 D b 0 c s ki fl va1 fo1 go1 si1 te1 m ro ma sz en ms lw hw lo.length (if he then nI hi.length else -1) p1 false kr 13 g (K g) (F g) w1 n hkr hI.row.1 hI.row.2 hp1 (by omega) (by omega) hk.2.2.1 hk.2.2.2 hk.1 hk.2.1 (by have z := hT g (by omega); rw [hE g (Nat.le_refl _)] at z; exact z) ⟨h0, h1, h2, h3, h4, h5, h6, h7, h8, h9, h10, h11, h12, h13⟩) (by decide) (by omega) (by omega) rfl (Nat.le_of_ble_eq_true rfl) d_Mod_decode_62 (fun v120 w121 n122 p123 => ?_)
              obtain ⟨v2, va2, fo2, go2, si2, te2, p2, b2, rfl, e125, f124, ⟨h0, h1, h2, h3, h4, h5, h6, h7, h8, h9, h10, h11, h12, h13⟩, hp2, hv2, hX2, hN2, hF2⟩ := p123
              rw [e125]
              refine a_st (st' := []) rfl ?_
              have fr := fr.trans (Fr.sub f124 (by omega) (by omega))
              refine a_iinc S (v := nI (g + 1)) d_Mod_decode_65 rfl (ni_add rfl (by decide)) (Nat.le_of_ble_eq_true rfl) (lv' := [(0, .ref b), (1, .int (nI (g + 1)))]) rfl ?_
              refine a_goto S (tgt := 43) d_Mod_decode_68 rfl ?_
              exact ih43 _ (by omega) (g + 1) p2 b2 va2 fo2 go2 si2 te2 (va_up T1 g v2) w121 rfl (by omega) hp2 fr ⟨h0, h1, h2, h3, h4, h5, h6, h7, h8, h9, h10, h11, h12, h13⟩ (fun f hf => by
          by_cases e : f = g
          · subst e; rw [va_up_self]; exact hv2
          · rw [va_up_ne _ _ e]; exact (hT f hf).sx hX2 (by omega)) (fun f hf => by rw [va_up_ne _ _ (by omega)]; exact hE f (by omega)) (fun j hj => by
          by_cases e : j = g
          · subst e; rw [va_up_self]; exact hF2.1
          · rw [va_up_ne _ _ e]; exact hP j hj) (fun p x hp hv => (hS p x hp hv).sx hX2 (by omega)) (hN2 hNg) (RM1.s hg hC hF2)
      exact loop43 _ 0 0 false va11 fo11 go11 si11 te (fun _ => (false, 0, 0, [])) w14 rfl (Nat.zero_le _) (Nat.zero_le _) fr ⟨h0, h1, h2, h3, h4, h5, h6, h7, h8, h9, h10, h11, h12, h13⟩ (fun f hf => hz11 f hf) (fun _ _ => rfl) (fun _ _ => P2.e0) (fun p x hp hv => hq11 p x (Or.inl (by omega)) hv) hG11 RM1.z
    · exact absurd (by decide) h20
