set_option maxHeartbeats 400000 in
set_option maxRecDepth 100000 in
theorem c_Mod_readText (l : Launch) (D : kD) (b : Nat) (th : Int32) (fd : Nat) (sl : Bool) (ki fl : Nat → Int32) (va : Nat → Int64) (fo go si te : Nat → Int32) (kp : Nat) (ro : Nat → Int32) (ma : Nat → Int32) (sz : Nat) (en ms lw hw : Nat → Int32) (ls : Nat) (hz : Int32) (pt : Nat) (bd : Bool) (l0 : List Nat) (k t : Nat) (w : ww) (n : Nat) (hl : l0.length ≤ 120) (hby : ∀ b ∈ l0, b < 256) (hA : Arr ro l0) (hpt : pt ≤ l0.length) (ht : t = 0 ∨ t = 255) (hk : k < 70) (hs0 : si k = nI 0) (h : Mo D w b th fd sl ki fl va fo go si te kp ro l0.length ma sz en ms lw hw ls hz pt false) : AM l D M_Mod_readText 1 0 0 [.ref b, .int (nI k), .int (nI t)] w n (fun v w' n' => ∃ (x : List Nat) (si1 te1 : Nat → Int32) (p1 : Nat) (b1 : Bool), v = none ∧ n' = n ∧ Fr w w' b 14 ∧ Mo D w' b th fd sl ki fl va fo go si1 te1 kp ro l0.length ma sz en ms lw hw ls hz p1 b1 ∧ p1 ≤ l0.length ∧ TX si te si1 te1 k x ∧ (b1 = true → rdT t 11 [] (l0.drop pt) = none) ∧ (b1 = false → rdT t 11 [] (l0.drop pt) = some (x, l0.drop p1))) := by
  refine AM.ofv (by decide +kernel) rfl (Nat.le_of_ble_eq_true rfl) (fun X A Q hin S RT => ?_)
  have S : FX X (D, A, 6, Q) prog_9_method_31_code "KeyCodecModel" 1 0 0 := S
  have RT : RTv X (D, A, 6, Q) prog_9_method_31_code 0 0 _ := RT
  obtain ⟨h0, h1, h2, h3, h4, h5, h6, h7, h8, h9, h10, h11, h12, h13⟩ := h
  refine a_lve (lv' := [(0, .ref b), (1, .int (nI k)), (2, .int (nI t))]) rfl ?_
  have fr : Fr w w b 14 := Fr.refl _ _ _
  refine a_iconst S (v := 1) d_Mod_readText_0 (by decide) ?_
  refine a_istore_n S d_Mod_readText_1 rfl (Nat.le_of_ble_eq_true rfl) (lv' := [(0, .ref b), (1, .int (nI k)), (2, .int (nI t)), (3, .int 1)]) rfl ?_
  have loop2 : ∀ (kk2 : Nat) (mr b1 : Bool) (p1 : Nat) (x : List Nat) (si1 te1 : Nat → Int32) (w1 : ww), 2 * (l0.length - p1) + (if b1 then 0 else 1) = kk2 → (p1 ≤ l0.length) → (Fr w w1 b 14) → (Mo D w1 b th fd sl ki fl va fo go si1 te1 kp ro l0.length ma sz en ms lw hw ls hz p1 b1) → (TX si te si1 te1 k x) → (RTc t l0 pt p1 x mr b1) → AW X (D, A, 6, Q) 2 [(0, .ref b), (1, .int (nI k)), (2, .int (nI t)), (3, .int (if mr then 1 else 0))] [] w1 n 0 0 := by
    intro kk2
    induction kk2 using Nat.strongRecOn with
    | ind kk2 ih2 =>
      intro mr b1 p1 x si1 te1 w1 hk2 hp1 fr h hX hC
      obtain ⟨h0, h1, h2, h3, h4, h5, h6, h7, h8, h9, h10, h11, h12, h13⟩ := h
      refine a_iload_n S d_Mod_readText_2 rfl rfl ?_
      refine a_if_eq S (tgt := 131) d_Mod_readText_3 rfl (fun h3_ => ?_) (fun h3_ => ?_)
      · have he : mr = false ∨ b1 = true := Or.inl (bo_0 h3_)
        exact RT _ _ _ _ _ _ d_Mod_readText_131 (by omega) (by omega) (have ge := hC.e he; ⟨x, si1, te1, p1, b1, rfl, rfl, fr, ⟨h0, h1, h2, h3, h4, h5, h6, h7, h8, h9, h10, h11, h12, h13⟩, hp1, hX, ge.1, ge.2⟩)
      · obtain rfl : mr = true := bo_1 h3_
        refine a_aload_n S d_Mod_readText_6 rfl rfl ?_
        refine a_get S kc_Mod 22 (by decide) lf_Mod_142 h0 rfl d_Mod_readText_7 ?_
        refine a_if_ne S (tgt := 131) d_Mod_readText_10 rfl (fun h10_ => ?_) (fun h10_ => ?_)
        · have he : true = false ∨ b1 = true := Or.inr (bo_1 h10_)
          exact RT _ _ _ _ _ _ d_Mod_readText_131 (by omega) (by omega) (have ge := hC.e he; ⟨x, si1, te1, p1, b1, rfl, rfl, fr, ⟨h0, h1, h2, h3, h4, h5, h6, h7, h8, h9, h10, h11, h12, h13⟩, hp1, hX, ge.1, ge.2⟩)
        · obtain rfl : b1 = false := bo_0 h10_
          refine a_aload_n S d_Mod_readText_13 rfl rfl ?_
          refine a_iload_n S d_Mod_readText_14 rfl rfl ?_
          refine a_callV S (rest := []) lg_Mod_145 h0 (c_Mod_next X.2.1 D b th fd sl ki fl va fo go si1 te1 kp ro ma sz en ms lw hw ls hz p1 false l0 t w1 n hl hby hA (by omega) ht ⟨h0, h1, h2, h3, h4, h5, h6, h7, h8, h9, h10, h11, h12, h13⟩) (by decide) (by omega) (by omega) rfl (Nat.le_of_ble_eq_true rfl) d_Mod_readText_15 (fun v1 w2 n3 p4 => ?_)
          rcases p4 with ⟨hq7, rfl, e6, f5, h0, h1, h2, h3, h4, h5, h6, h7, h8, h9, h10, h11, h12, h13⟩ | ⟨hq7, rfl, e6, f5, h0, h1, h2, h3, h4, h5, h6, h7, h8, h9, h10, h11, h12, h13⟩
          · rw [e6]
            refine a_st (st' := [.int (nI (tnB t (l0.getD p1 0)))]) rfl ?_
            have hbhq7 := tnB_lt (t := t) (getD_lt hby p1)
            have fr := fr.trans (Fr.sub f5 (by omega) (by omega))
            refine a_istore S d_Mod_readText_18 (Nat.le_of_ble_eq_true rfl) (lv' := [(0, .ref b), (1, .int (nI k)), (2, .int (nI t)), (3, .int (if true then 1 else 0)), (4, .int (nI (tnB t (l0.getD p1 0))))]) rfl ?_
            refine a_iload S d_Mod_readText_20 rfl ?_
            refine a_if_ne S (tgt := 33) d_Mod_readText_22 rfl (fun h22 => ?_) (fun h22 => ?_)
            · have hb0 : ¬ tnB t (l0.getD p1 0) = 0 := fun z => h22 (by rw [z]; rfl)
              refine a_sipush S (v := 255) d_Mod_readText_33 (by decide) ?_
              refine a_istore S d_Mod_readText_36 (Nat.le_of_ble_eq_true rfl) (lv' := [(0, .ref b), (1, .int (nI k)), (2, .int (nI t)), (3, .int (if true then 1 else 0)), (4, .int (nI (tnB t (l0.getD p1 0)))), (5, .int 255)]) rfl ?_
              refine a_iload S d_Mod_readText_38 rfl ?_
              refine a_sipush S (v := 255) d_Mod_readText_40 (by decide) ?_
              refine a_icmp_ne S (tgt := 50) d_Mod_readText_43 rfl (fun h43 => ?_) (fun h43 => ?_)
              · exact absurd (by decide) h43
              · refine a_iconst S (v := 1) d_Mod_readText_46 (by decide) ?_
                refine a_goto S (tgt := 51) d_Mod_readText_47 rfl ?_
                refine a_istore_n S d_Mod_readText_51 rfl (Nat.le_of_ble_eq_true rfl) (lv' := [(0, .ref b), (1, .int (nI k)), (2, .int (nI t)), (3, .int 1), (4, .int (nI (tnB t (l0.getD p1 0)))), (5, .int 255)]) rfl ?_
                refine a_iload_n S d_Mod_readText_52 rfl rfl ?_
                refine a_if_ne S (tgt := 81) d_Mod_readText_53 rfl (fun h53 => ?_) (fun h53 => ?_)
                · refine a_aload_n S d_Mod_readText_81 rfl rfl ?_
                  refine a_get S kc_Mod 8 (by decide) lf_Mod_27 h0 rfl d_Mod_readText_82 ?_
                  refine a_iload_n S d_Mod_readText_85 rfl rfl ?_
                  refine a_iald S (i := k) h6 rfl (by omega) (by decide) d_Mod_readText_86 ?_
                  refine a_eqi hX.2.2.1 ?_
                  refine a_bipush S (v := 10) d_Mod_readText_87 (by decide) ?_
                  refine a_icmp_ne S (tgt := 100) d_Mod_readText_89 rfl (fun h89 => ?_) (fun h89 => ?_)
                  · have hx10 : ¬ x.length = 10 := fun z => h89 (by rw [z]; rfl)
                    have hxl := hX.1
                    refine a_aload_n S d_Mod_readText_100 rfl rfl ?_
                    refine a_get S kc_Mod 9 (by decide) lf_Mod_30 h0 rfl d_Mod_readText_101 ?_
                    refine a_bipush S (v := 10) d_Mod_readText_104 (by decide) ?_
                    refine a_iload_n S d_Mod_readText_106 rfl rfl ?_
                    refine a_imul S d_Mod_readText_107 ?_
                    refine a_eqi (y := nI (10 * k)) (ni_mul rfl rfl) ?_
                    refine a_aload_n S d_Mod_readText_108 rfl rfl ?_
                    refine a_get S kc_Mod 8 (by decide) lf_Mod_27 h0 rfl d_Mod_readText_109 ?_
                    refine a_iload_n S d_Mod_readText_112 rfl rfl ?_
                    refine a_iald S (i := k) h6 rfl (by omega) (by decide) d_Mod_readText_113 ?_
                    refine a_eqi hX.2.2.1 ?_
                    refine a_iadd S d_Mod_readText_114 ?_
                    refine a_eqi (y := nI (10 * k + x.length)) (ni_add rfl rfl) ?_
                    refine a_iload S d_Mod_readText_115 rfl ?_
                    refine a_iast S (i := 10 * k + x.length) h7 rfl (by omega) (by decide) d_Mod_readText_117 (fun w8 h7 e9 => ?_)
                    have fr := fr.trans (Fr.sub (Fr.of1 e9) (by omega) (by omega))
                    have h0 := Fr.cell (Fr.of1 e9) h0 (by omega)
                    have h1 := Fr.cell (Fr.of1 e9) h1 (by omega)
                    have h2 := Fr.cell (Fr.of1 e9) h2 (by omega)
                    have h3 := Fr.cell (Fr.of1 e9) h3 (by omega)
                    have h4 := Fr.cell (Fr.of1 e9) h4 (by omega)
                    have h5 := Fr.cell (Fr.of1 e9) h5 (by omega)
                    have h6 := Fr.cell (Fr.of1 e9) h6 (by omega)
                    have h8 := Fr.cell (Fr.of1 e9) h8 (by omega)
                    have h9 := Fr.cell (Fr.of1 e9) h9 (by omega)
                    have h10 := Fr.cell (Fr.of1 e9) h10 (by omega)
                    have h11 := Fr.cell (Fr.of1 e9) h11 (by omega)
                    have h12 := Fr.cell (Fr.of1 e9) h12 (by omega)
                    have h13 := Fr.cell (Fr.of1 e9) h13 (by omega)
                    refine a_aload_n S d_Mod_readText_118 rfl rfl ?_
                    refine a_get S kc_Mod 8 (by decide) lf_Mod_27 h0 rfl d_Mod_readText_119 ?_
                    refine a_iload_n S d_Mod_readText_122 rfl rfl ?_
                    refine a_dup2 S d_Mod_readText_123 rfl rfl ?_
                    refine a_iald S (i := k) h6 rfl (by omega) (by decide) d_Mod_readText_124 ?_
                    refine a_eqi hX.2.2.1 ?_
                    refine a_iconst S (v := 1) d_Mod_readText_125 (by decide) ?_
                    refine a_iadd S d_Mod_readText_126 ?_
                    refine a_eqi (y := nI (x.length + 1)) (ni_add rfl rfl) ?_
                    refine a_iast S (i := k) h6 rfl (by omega) (by decide) d_Mod_readText_127 (fun w10 h6 e11 => ?_)
                    have fr := fr.trans (Fr.sub (Fr.of1 e11) (by omega) (by omega))
                    have h0 := Fr.cell (Fr.of1 e11) h0 (by omega)
                    have h1 := Fr.cell (Fr.of1 e11) h1 (by omega)
                    have h2 := Fr.cell (Fr.of1 e11) h2 (by omega)
                    have h3 := Fr.cell (Fr.of1 e11) h3 (by omega)
                    have h4 := Fr.cell (Fr.of1 e11) h4 (by omega)
                    have h5 := Fr.cell (Fr.of1 e11) h5 (by omega)
                    have h7 := Fr.cell (Fr.of1 e11) h7 (by omega)
                    have h8 := Fr.cell (Fr.of1 e11) h8 (by omega)
                    have h9 := Fr.cell (Fr.of1 e11) h9 (by omega)
                    have h10 := Fr.cell (Fr.of1 e11) h10 (by omega)
                    have h11 := Fr.cell (Fr.of1 e11) h11 (by omega)
                    have h12 := Fr.cell (Fr.of1 e11) h12 (by omega)
                    have h13 := Fr.cell (Fr.of1 e11) h13 (by omega)
                    refine a_goto S (tgt := 2) d_Mod_readText_128 rfl ?_
                    refine a_lv [0, 1, 2, 3] (lv' := [(0, .ref b), (1, .int (nI k)), (2, .int (nI t)), (3, .int 1)]) rfl ?_
                    exact ih2 _ (by rw [← hk2]; simp only [if_true, Bool.false_eq_true, if_false]; omega) true false (p1 + 1) (x ++ [tnB t (l0.getD p1 0)]) (upd si1 k (nI (x.length + 1))) (upd te1 (10 * k + x.length) (nI (tnB t (l0.getD p1 0)))) w10 rfl (by omega) fr ⟨h0, h1, h2, h3, h4, h5, h6, h7, h8, h9, h10, h11, h12, h13⟩ (hX.s hx10 hbhq7) (hC.xb hX.1 hq7 hb0 hx10)
                  · have hx10 : x.length = 10 := (nI_eq (by have := hX.1; omega) (by decide)).mp h89
                    have hxl := hX.1
                    refine a_aload_n S d_Mod_readText_92 rfl rfl ?_
                    refine a_iconst S (v := 1) d_Mod_readText_93 (by decide) ?_
                    refine a_put S kc_Mod kt_Mod 22 (by decide) lf_Mod_142 rfl h0 rfl rfl (Nat.le_of_ble_eq_true rfl) d_Mod_readText_94 (fun w12 h0 e13 => ?_)
                    have h0 : w12 b = some (.inr (6, [.int th, .int (nI fd), .int (if sl then 1 else 0), .ref (b + 1), .ref (b + 2), .ref (b + 3), .ref (b + 4), .ref (b + 5), .ref (b + 6), .ref (b + 7), .int (nI kp), .ref (b + 8), .int (nI l0.length), .ref (b + 9), .int (nI sz), .ref (b + 10), .ref (b + 11), .ref (b + 12), .ref (b + 13), .int (nI ls), .int hz, .int (nI (p1 + 1)), .int 1])) := h0
                    have fr := fr.trans (Fr.sub (Fr.of1 e13) (by omega) (by omega))
                    have h1 := Fr.cell (Fr.of1 e13) h1 (by omega)
                    have h2 := Fr.cell (Fr.of1 e13) h2 (by omega)
                    have h3 := Fr.cell (Fr.of1 e13) h3 (by omega)
                    have h4 := Fr.cell (Fr.of1 e13) h4 (by omega)
                    have h5 := Fr.cell (Fr.of1 e13) h5 (by omega)
                    have h6 := Fr.cell (Fr.of1 e13) h6 (by omega)
                    have h7 := Fr.cell (Fr.of1 e13) h7 (by omega)
                    have h8 := Fr.cell (Fr.of1 e13) h8 (by omega)
                    have h9 := Fr.cell (Fr.of1 e13) h9 (by omega)
                    have h10 := Fr.cell (Fr.of1 e13) h10 (by omega)
                    have h11 := Fr.cell (Fr.of1 e13) h11 (by omega)
                    have h12 := Fr.cell (Fr.of1 e13) h12 (by omega)
                    have h13 := Fr.cell (Fr.of1 e13) h13 (by omega)
                    refine a_goto S (tgt := 128) d_Mod_readText_97 rfl ?_
                    refine a_goto S (tgt := 2) d_Mod_readText_128 rfl ?_
                    refine a_lv [0, 1, 2, 3] (lv' := [(0, .ref b), (1, .int (nI k)), (2, .int (nI t)), (3, .int 1)]) rfl ?_
                    exact ih2 _ (by rw [← hk2]; simp only [if_true, Bool.false_eq_true, if_false]; omega) true true (p1 + 1) x si1 te1 w12 rfl (by omega) fr ⟨h0, h1, h2, h3, h4, h5, h6, h7, h8, h9, h10, h11, h12, h13⟩ hX (hC.xbf hX.1 hq7 hb0 hx10)
                · exact absurd h53 (by decide)
            · have hb0 : tnB t (l0.getD p1 0) = 0 := (nI_eq (by omega) (by decide)).mp h22
              refine a_aload_n S d_Mod_readText_25 rfl rfl ?_
              refine a_iload_n S d_Mod_readText_26 rfl rfl ?_
              refine a_callV S (rest := []) lg_Mod_145 h0 (c_Mod_next X.2.1 D b th fd sl ki fl va fo go si1 te1 kp ro ma sz en ms lw hw ls hz (p1 + 1) false l0 t w2 n hl hby hA (by omega) ht ⟨h0, h1, h2, h3, h4, h5, h6, h7, h8, h9, h10, h11, h12, h13⟩) (by decide) (by omega) (by omega) rfl (Nat.le_of_ble_eq_true rfl) d_Mod_readText_27 (fun v14 w15 n16 p17 => ?_)
              rcases p17 with ⟨hq20, rfl, e19, f18, h0, h1, h2, h3, h4, h5, h6, h7, h8, h9, h10, h11, h12, h13⟩ | ⟨hq20, rfl, e19, f18, h0, h1, h2, h3, h4, h5, h6, h7, h8, h9, h10, h11, h12, h13⟩
              · rw [e19]
                refine a_st (st' := [.int (nI (tnB t (l0.getD (p1 + 1) 0)))]) rfl ?_
                have hbhq20 := tnB_lt (t := t) (getD_lt hby (p1 + 1))
                have fr := fr.trans (Fr.sub f18 (by omega) (by omega))
                refine a_goto S (tgt := 36) d_Mod_readText_30 rfl ?_
                refine a_istore S d_Mod_readText_36 (Nat.le_of_ble_eq_true rfl) (lv' := [(0, .ref b), (1, .int (nI k)), (2, .int (nI t)), (3, .int (if true then 1 else 0)), (4, .int (nI (tnB t (l0.getD p1 0)))), (5, .int (nI (tnB t (l0.getD (p1 + 1) 0))))]) rfl ?_
                refine a_iload S d_Mod_readText_38 rfl ?_
                refine a_sipush S (v := 255) d_Mod_readText_40 (by decide) ?_
                refine a_icmp_ne S (tgt := 50) d_Mod_readText_43 rfl (fun h43 => ?_) (fun h43 => ?_)
                · have h255 : ¬ tnB t (l0.getD (p1 + 1) 0) = 255 := fun z => h43 (by rw [z]; rfl)
                  refine a_iconst S (v := 0) d_Mod_readText_50 (by decide) ?_
                  refine a_istore_n S d_Mod_readText_51 rfl (Nat.le_of_ble_eq_true rfl) (lv' := [(0, .ref b), (1, .int (nI k)), (2, .int (nI t)), (3, .int 0), (4, .int (nI (tnB t (l0.getD p1 0)))), (5, .int (nI (tnB t (l0.getD (p1 + 1) 0))))]) rfl ?_
                  refine a_iload_n S d_Mod_readText_52 rfl rfl ?_
                  refine a_if_ne S (tgt := 81) d_Mod_readText_53 rfl (fun h53 => ?_) (fun h53 => ?_)
                  · exact absurd (by decide) h53
                  · refine a_aload_n S d_Mod_readText_56 rfl rfl ?_
                    refine a_aload_n S d_Mod_readText_57 rfl rfl ?_
                    refine a_get S kc_Mod 22 (by decide) lf_Mod_142 h0 rfl d_Mod_readText_58 ?_
                    refine a_if_ne S (tgt := 70) d_Mod_readText_61 rfl (fun h61 => ?_) (fun h61 => ?_)
                    · exact absurd rfl h61
                    · refine a_iload S d_Mod_readText_64 rfl ?_
                      refine a_iconst S (v := 1) d_Mod_readText_66 (by decide) ?_
                      refine a_icmp_eq S (tgt := 74) d_Mod_readText_67 rfl (fun h67 => ?_) (fun h67 => ?_)
                      · have hy1 : tnB t (l0.getD (p1 + 1) 0) = 1 := (nI_eq (by omega) (by decide)).mp h67
                        refine a_iconst S (v := 0) d_Mod_readText_74 (by decide) ?_
                        refine a_put S kc_Mod kt_Mod 22 (by decide) lf_Mod_142 rfl h0 rfl rfl (Nat.le_of_ble_eq_true rfl) d_Mod_readText_75 (fun w21 h0 e22 => ?_)
                        have h0 : w21 b = some (.inr (6, [.int th, .int (nI fd), .int (if sl then 1 else 0), .ref (b + 1), .ref (b + 2), .ref (b + 3), .ref (b + 4), .ref (b + 5), .ref (b + 6), .ref (b + 7), .int (nI kp), .ref (b + 8), .int (nI l0.length), .ref (b + 9), .int (nI sz), .ref (b + 10), .ref (b + 11), .ref (b + 12), .ref (b + 13), .int (nI ls), .int hz, .int (nI (p1 + 1 + 1)), .int 0])) := h0
                        have fr := fr.trans (Fr.sub (Fr.of1 e22) (by omega) (by omega))
                        have h1 := Fr.cell (Fr.of1 e22) h1 (by omega)
                        have h2 := Fr.cell (Fr.of1 e22) h2 (by omega)
                        have h3 := Fr.cell (Fr.of1 e22) h3 (by omega)
                        have h4 := Fr.cell (Fr.of1 e22) h4 (by omega)
                        have h5 := Fr.cell (Fr.of1 e22) h5 (by omega)
                        have h6 := Fr.cell (Fr.of1 e22) h6 (by omega)
                        have h7 := Fr.cell (Fr.of1 e22) h7 (by omega)
                        have h8 := Fr.cell (Fr.of1 e22) h8 (by omega)
                        have h9 := Fr.cell (Fr.of1 e22) h9 (by omega)
                        have h10 := Fr.cell (Fr.of1 e22) h10 (by omega)
                        have h11 := Fr.cell (Fr.of1 e22) h11 (by omega)
                        have h12 := Fr.cell (Fr.of1 e22) h12 (by omega)
                        have h13 := Fr.cell (Fr.of1 e22) h13 (by omega)
                        refine a_goto S (tgt := 128) d_Mod_readText_78 rfl ?_
                        refine a_goto S (tgt := 2) d_Mod_readText_128 rfl ?_
                        refine a_lv [0, 1, 2, 3] (lv' := [(0, .ref b), (1, .int (nI k)), (2, .int (nI t)), (3, .int 0)]) rfl ?_
                        exact ih2 _ (by rw [← hk2]; simp only [if_true, Bool.false_eq_true, if_false]; omega) false false (p1 + 1 + 1) x si1 te1 w21 rfl (by omega) fr ⟨h0, h1, h2, h3, h4, h5, h6, h7, h8, h9, h10, h11, h12, h13⟩ hX (hC.xz1 hX.1 hq7 hb0 hq20 h255 hy1)
                      · have hy1 : ¬ tnB t (l0.getD (p1 + 1) 0) = 1 := fun z => h67 (by rw [z]; rfl)
                        refine a_iconst S (v := 1) d_Mod_readText_70 (by decide) ?_
                        refine a_goto S (tgt := 75) d_Mod_readText_71 rfl ?_
                        refine a_put S kc_Mod kt_Mod 22 (by decide) lf_Mod_142 rfl h0 rfl rfl (Nat.le_of_ble_eq_true rfl) d_Mod_readText_75 (fun w23 h0 e24 => ?_)
                        have h0 : w23 b = some (.inr (6, [.int th, .int (nI fd), .int (if sl then 1 else 0), .ref (b + 1), .ref (b + 2), .ref (b + 3), .ref (b + 4), .ref (b + 5), .ref (b + 6), .ref (b + 7), .int (nI kp), .ref (b + 8), .int (nI l0.length), .ref (b + 9), .int (nI sz), .ref (b + 10), .ref (b + 11), .ref (b + 12), .ref (b + 13), .int (nI ls), .int hz, .int (nI (p1 + 1 + 1)), .int 1])) := h0
                        have fr := fr.trans (Fr.sub (Fr.of1 e24) (by omega) (by omega))
                        have h1 := Fr.cell (Fr.of1 e24) h1 (by omega)
                        have h2 := Fr.cell (Fr.of1 e24) h2 (by omega)
                        have h3 := Fr.cell (Fr.of1 e24) h3 (by omega)
                        have h4 := Fr.cell (Fr.of1 e24) h4 (by omega)
                        have h5 := Fr.cell (Fr.of1 e24) h5 (by omega)
                        have h6 := Fr.cell (Fr.of1 e24) h6 (by omega)
                        have h7 := Fr.cell (Fr.of1 e24) h7 (by omega)
                        have h8 := Fr.cell (Fr.of1 e24) h8 (by omega)
                        have h9 := Fr.cell (Fr.of1 e24) h9 (by omega)
                        have h10 := Fr.cell (Fr.of1 e24) h10 (by omega)
                        have h11 := Fr.cell (Fr.of1 e24) h11 (by omega)
                        have h12 := Fr.cell (Fr.of1 e24) h12 (by omega)
                        have h13 := Fr.cell (Fr.of1 e24) h13 (by omega)
                        refine a_goto S (tgt := 128) d_Mod_readText_78 rfl ?_
                        refine a_goto S (tgt := 2) d_Mod_readText_128 rfl ?_
                        refine a_lv [0, 1, 2, 3] (lv' := [(0, .ref b), (1, .int (nI k)), (2, .int (nI t)), (3, .int 0)]) rfl ?_
                        exact ih2 _ (by rw [← hk2]; simp only [if_true, Bool.false_eq_true, if_false]; omega) false true (p1 + 1 + 1) x si1 te1 w23 rfl (by omega) fr ⟨h0, h1, h2, h3, h4, h5, h6, h7, h8, h9, h10, h11, h12, h13⟩ hX (hC.xzn hX.1 hq7 hb0 hq20 h255 hy1)
                · have h255 : tnB t (l0.getD (p1 + 1) 0) = 255 := (nI_eq (by omega) (by decide)).mp h43
                  refine a_iconst S (v := 1) d_Mod_readText_46 (by decide) ?_
                  refine a_goto S (tgt := 51) d_Mod_readText_47 rfl ?_
                  refine a_istore_n S d_Mod_readText_51 rfl (Nat.le_of_ble_eq_true rfl) (lv' := [(0, .ref b), (1, .int (nI k)), (2, .int (nI t)), (3, .int 1), (4, .int (nI (tnB t (l0.getD p1 0)))), (5, .int (nI (tnB t (l0.getD (p1 + 1) 0))))]) rfl ?_
                  refine a_iload_n S d_Mod_readText_52 rfl rfl ?_
                  refine a_if_ne S (tgt := 81) d_Mod_readText_53 rfl (fun h53 => ?_) (fun h53 => ?_)
                  · refine a_aload_n S d_Mod_readText_81 rfl rfl ?_
                    refine a_get S kc_Mod 8 (by decide) lf_Mod_27 h0 rfl d_Mod_readText_82 ?_
                    refine a_iload_n S d_Mod_readText_85 rfl rfl ?_
                    refine a_iald S (i := k) h6 rfl (by omega) (by decide) d_Mod_readText_86 ?_
                    refine a_eqi hX.2.2.1 ?_
                    refine a_bipush S (v := 10) d_Mod_readText_87 (by decide) ?_
                    refine a_icmp_ne S (tgt := 100) d_Mod_readText_89 rfl (fun h89 => ?_) (fun h89 => ?_)
                    · have hx10 : ¬ x.length = 10 := fun z => h89 (by rw [z]; rfl)
                      have hxl := hX.1
                      refine a_aload_n S d_Mod_readText_100 rfl rfl ?_
                      refine a_get S kc_Mod 9 (by decide) lf_Mod_30 h0 rfl d_Mod_readText_101 ?_
                      refine a_bipush S (v := 10) d_Mod_readText_104 (by decide) ?_
                      refine a_iload_n S d_Mod_readText_106 rfl rfl ?_
                      refine a_imul S d_Mod_readText_107 ?_
                      refine a_eqi (y := nI (10 * k)) (ni_mul rfl rfl) ?_
                      refine a_aload_n S d_Mod_readText_108 rfl rfl ?_
                      refine a_get S kc_Mod 8 (by decide) lf_Mod_27 h0 rfl d_Mod_readText_109 ?_
                      refine a_iload_n S d_Mod_readText_112 rfl rfl ?_
                      refine a_iald S (i := k) h6 rfl (by omega) (by decide) d_Mod_readText_113 ?_
                      refine a_eqi hX.2.2.1 ?_
                      refine a_iadd S d_Mod_readText_114 ?_
                      refine a_eqi (y := nI (10 * k + x.length)) (ni_add rfl rfl) ?_
                      refine a_iload S d_Mod_readText_115 rfl ?_
                      refine a_iast S (i := 10 * k + x.length) h7 rfl (by omega) (by decide) d_Mod_readText_117 (fun w25 h7 e26 => ?_)
                      have fr := fr.trans (Fr.sub (Fr.of1 e26) (by omega) (by omega))
                      have h0 := Fr.cell (Fr.of1 e26) h0 (by omega)
                      have h1 := Fr.cell (Fr.of1 e26) h1 (by omega)
                      have h2 := Fr.cell (Fr.of1 e26) h2 (by omega)
                      have h3 := Fr.cell (Fr.of1 e26) h3 (by omega)
                      have h4 := Fr.cell (Fr.of1 e26) h4 (by omega)
                      have h5 := Fr.cell (Fr.of1 e26) h5 (by omega)
                      have h6 := Fr.cell (Fr.of1 e26) h6 (by omega)
                      have h8 := Fr.cell (Fr.of1 e26) h8 (by omega)
                      have h9 := Fr.cell (Fr.of1 e26) h9 (by omega)
                      have h10 := Fr.cell (Fr.of1 e26) h10 (by omega)
                      have h11 := Fr.cell (Fr.of1 e26) h11 (by omega)
                      have h12 := Fr.cell (Fr.of1 e26) h12 (by omega)
                      have h13 := Fr.cell (Fr.of1 e26) h13 (by omega)
                      refine a_aload_n S d_Mod_readText_118 rfl rfl ?_
                      refine a_get S kc_Mod 8 (by decide) lf_Mod_27 h0 rfl d_Mod_readText_119 ?_
                      refine a_iload_n S d_Mod_readText_122 rfl rfl ?_
                      refine a_dup2 S d_Mod_readText_123 rfl rfl ?_
                      refine a_iald S (i := k) h6 rfl (by omega) (by decide) d_Mod_readText_124 ?_
                      refine a_eqi hX.2.2.1 ?_
                      refine a_iconst S (v := 1) d_Mod_readText_125 (by decide) ?_
                      refine a_iadd S d_Mod_readText_126 ?_
                      refine a_eqi (y := nI (x.length + 1)) (ni_add rfl rfl) ?_
                      refine a_iast S (i := k) h6 rfl (by omega) (by decide) d_Mod_readText_127 (fun w27 h6 e28 => ?_)
                      have fr := fr.trans (Fr.sub (Fr.of1 e28) (by omega) (by omega))
                      have h0 := Fr.cell (Fr.of1 e28) h0 (by omega)
                      have h1 := Fr.cell (Fr.of1 e28) h1 (by omega)
                      have h2 := Fr.cell (Fr.of1 e28) h2 (by omega)
                      have h3 := Fr.cell (Fr.of1 e28) h3 (by omega)
                      have h4 := Fr.cell (Fr.of1 e28) h4 (by omega)
                      have h5 := Fr.cell (Fr.of1 e28) h5 (by omega)
                      have h7 := Fr.cell (Fr.of1 e28) h7 (by omega)
                      have h8 := Fr.cell (Fr.of1 e28) h8 (by omega)
                      have h9 := Fr.cell (Fr.of1 e28) h9 (by omega)
                      have h10 := Fr.cell (Fr.of1 e28) h10 (by omega)
                      have h11 := Fr.cell (Fr.of1 e28) h11 (by omega)
                      have h12 := Fr.cell (Fr.of1 e28) h12 (by omega)
                      have h13 := Fr.cell (Fr.of1 e28) h13 (by omega)
                      refine a_goto S (tgt := 2) d_Mod_readText_128 rfl ?_
                      refine a_lv [0, 1, 2, 3] (lv' := [(0, .ref b), (1, .int (nI k)), (2, .int (nI t)), (3, .int 1)]) rfl ?_
                      exact ih2 _ (by rw [← hk2]; simp only [if_true, Bool.false_eq_true, if_false]; omega) true false (p1 + 1 + 1) (x ++ [tnB t (l0.getD p1 0)]) (upd si1 k (nI (x.length + 1))) (upd te1 (10 * k + x.length) (nI (tnB t (l0.getD p1 0)))) w27 rfl (by omega) fr ⟨h0, h1, h2, h3, h4, h5, h6, h7, h8, h9, h10, h11, h12, h13⟩ (hX.s hx10 hbhq7) (hC.xz hX.1 hq7 hb0 hq20 h255 hx10)
                    · have hx10 : x.length = 10 := (nI_eq (by have := hX.1; omega) (by decide)).mp h89
                      have hxl := hX.1
                      refine a_aload_n S d_Mod_readText_92 rfl rfl ?_
                      refine a_iconst S (v := 1) d_Mod_readText_93 (by decide) ?_
                      refine a_put S kc_Mod kt_Mod 22 (by decide) lf_Mod_142 rfl h0 rfl rfl (Nat.le_of_ble_eq_true rfl) d_Mod_readText_94 (fun w29 h0 e30 => ?_)
                      have h0 : w29 b = some (.inr (6, [.int th, .int (nI fd), .int (if sl then 1 else 0), .ref (b + 1), .ref (b + 2), .ref (b + 3), .ref (b + 4), .ref (b + 5), .ref (b + 6), .ref (b + 7), .int (nI kp), .ref (b + 8), .int (nI l0.length), .ref (b + 9), .int (nI sz), .ref (b + 10), .ref (b + 11), .ref (b + 12), .ref (b + 13), .int (nI ls), .int hz, .int (nI (p1 + 1 + 1)), .int 1])) := h0
                      have fr := fr.trans (Fr.sub (Fr.of1 e30) (by omega) (by omega))
                      have h1 := Fr.cell (Fr.of1 e30) h1 (by omega)
                      have h2 := Fr.cell (Fr.of1 e30) h2 (by omega)
                      have h3 := Fr.cell (Fr.of1 e30) h3 (by omega)
                      have h4 := Fr.cell (Fr.of1 e30) h4 (by omega)
                      have h5 := Fr.cell (Fr.of1 e30) h5 (by omega)
                      have h6 := Fr.cell (Fr.of1 e30) h6 (by omega)
                      have h7 := Fr.cell (Fr.of1 e30) h7 (by omega)
                      have h8 := Fr.cell (Fr.of1 e30) h8 (by omega)
                      have h9 := Fr.cell (Fr.of1 e30) h9 (by omega)
                      have h10 := Fr.cell (Fr.of1 e30) h10 (by omega)
                      have h11 := Fr.cell (Fr.of1 e30) h11 (by omega)
                      have h12 := Fr.cell (Fr.of1 e30) h12 (by omega)
                      have h13 := Fr.cell (Fr.of1 e30) h13 (by omega)
                      refine a_goto S (tgt := 128) d_Mod_readText_97 rfl ?_
                      refine a_goto S (tgt := 2) d_Mod_readText_128 rfl ?_
                      refine a_lv [0, 1, 2, 3] (lv' := [(0, .ref b), (1, .int (nI k)), (2, .int (nI t)), (3, .int 1)]) rfl ?_
                      exact ih2 _ (by rw [← hk2]; simp only [if_true, Bool.false_eq_true, if_false]; omega) true true (p1 + 1 + 1) x si1 te1 w29 rfl (by omega) fr ⟨h0, h1, h2, h3, h4, h5, h6, h7, h8, h9, h10, h11, h12, h13⟩ hX (hC.xzf hX.1 hq7 hb0 hq20 h255 hx10)
                  · exact absurd h53 (by decide)
              · rw [e19]
                refine a_st (st' := [.int 0]) rfl ?_
                have fr := fr.trans (Fr.sub f18 (by omega) (by omega))
                refine a_goto S (tgt := 36) d_Mod_readText_30 rfl ?_
                refine a_istore S d_Mod_readText_36 (Nat.le_of_ble_eq_true rfl) (lv' := [(0, .ref b), (1, .int (nI k)), (2, .int (nI t)), (3, .int (if true then 1 else 0)), (4, .int (nI (tnB t (l0.getD p1 0)))), (5, .int 0)]) rfl ?_
                refine a_iload S d_Mod_readText_38 rfl ?_
                refine a_sipush S (v := 255) d_Mod_readText_40 (by decide) ?_
                refine a_icmp_ne S (tgt := 50) d_Mod_readText_43 rfl (fun h43 => ?_) (fun h43 => ?_)
                · refine a_iconst S (v := 0) d_Mod_readText_50 (by decide) ?_
                  refine a_istore_n S d_Mod_readText_51 rfl (Nat.le_of_ble_eq_true rfl) (lv' := [(0, .ref b), (1, .int (nI k)), (2, .int (nI t)), (3, .int 0), (4, .int (nI (tnB t (l0.getD p1 0)))), (5, .int 0)]) rfl ?_
                  refine a_iload_n S d_Mod_readText_52 rfl rfl ?_
                  refine a_if_ne S (tgt := 81) d_Mod_readText_53 rfl (fun h53 => ?_) (fun h53 => ?_)
                  · exact absurd (by decide) h53
                  · refine a_aload_n S d_Mod_readText_56 rfl rfl ?_
                    refine a_aload_n S d_Mod_readText_57 rfl rfl ?_
                    refine a_get S kc_Mod 22 (by decide) lf_Mod_142 h0 rfl d_Mod_readText_58 ?_
                    refine a_if_ne S (tgt := 70) d_Mod_readText_61 rfl (fun h61 => ?_) (fun h61 => ?_)
                    · refine a_iconst S (v := 1) d_Mod_readText_70 (by decide) ?_
                      refine a_goto S (tgt := 75) d_Mod_readText_71 rfl ?_
                      refine a_put S kc_Mod kt_Mod 22 (by decide) lf_Mod_142 rfl h0 rfl rfl (Nat.le_of_ble_eq_true rfl) d_Mod_readText_75 (fun w31 h0 e32 => ?_)
                      have h0 : w31 b = some (.inr (6, [.int th, .int (nI fd), .int (if sl then 1 else 0), .ref (b + 1), .ref (b + 2), .ref (b + 3), .ref (b + 4), .ref (b + 5), .ref (b + 6), .ref (b + 7), .int (nI kp), .ref (b + 8), .int (nI l0.length), .ref (b + 9), .int (nI sz), .ref (b + 10), .ref (b + 11), .ref (b + 12), .ref (b + 13), .int (nI ls), .int hz, .int (nI (p1 + 1)), .int 1])) := h0
                      have fr := fr.trans (Fr.sub (Fr.of1 e32) (by omega) (by omega))
                      have h1 := Fr.cell (Fr.of1 e32) h1 (by omega)
                      have h2 := Fr.cell (Fr.of1 e32) h2 (by omega)
                      have h3 := Fr.cell (Fr.of1 e32) h3 (by omega)
                      have h4 := Fr.cell (Fr.of1 e32) h4 (by omega)
                      have h5 := Fr.cell (Fr.of1 e32) h5 (by omega)
                      have h6 := Fr.cell (Fr.of1 e32) h6 (by omega)
                      have h7 := Fr.cell (Fr.of1 e32) h7 (by omega)
                      have h8 := Fr.cell (Fr.of1 e32) h8 (by omega)
                      have h9 := Fr.cell (Fr.of1 e32) h9 (by omega)
                      have h10 := Fr.cell (Fr.of1 e32) h10 (by omega)
                      have h11 := Fr.cell (Fr.of1 e32) h11 (by omega)
                      have h12 := Fr.cell (Fr.of1 e32) h12 (by omega)
                      have h13 := Fr.cell (Fr.of1 e32) h13 (by omega)
                      refine a_goto S (tgt := 128) d_Mod_readText_78 rfl ?_
                      refine a_goto S (tgt := 2) d_Mod_readText_128 rfl ?_
                      refine a_lv [0, 1, 2, 3] (lv' := [(0, .ref b), (1, .int (nI k)), (2, .int (nI t)), (3, .int 0)]) rfl ?_
                      exact ih2 _ (by rw [← hk2]; simp only [if_true, Bool.false_eq_true, if_false]; omega) false true (p1 + 1) x si1 te1 w31 rfl (by omega) fr ⟨h0, h1, h2, h3, h4, h5, h6, h7, h8, h9, h10, h11, h12, h13⟩ hX (hC.xze hX.1 hq7 hb0 hq20)
                    · exact absurd h61 (by decide)
                · exact absurd h43 (by decide)
          · rw [e6]
            refine a_st (st' := [.int 0]) rfl ?_
            have fr := fr.trans (Fr.sub f5 (by omega) (by omega))
            refine a_istore S d_Mod_readText_18 (Nat.le_of_ble_eq_true rfl) (lv' := [(0, .ref b), (1, .int (nI k)), (2, .int (nI t)), (3, .int (if true then 1 else 0)), (4, .int 0)]) rfl ?_
            refine a_iload S d_Mod_readText_20 rfl ?_
            refine a_if_ne S (tgt := 33) d_Mod_readText_22 rfl (fun h22 => ?_) (fun h22 => ?_)
            · exact absurd (by decide) h22
            · refine a_aload_n S d_Mod_readText_25 rfl rfl ?_
              refine a_iload_n S d_Mod_readText_26 rfl rfl ?_
              refine a_callV S (rest := []) lg_Mod_145 h0 (c_Mod_next X.2.1 D b th fd sl ki fl va fo go si1 te1 kp ro ma sz en ms lw hw ls hz p1 true l0 t w2 n hl hby hA (by omega) ht ⟨h0, h1, h2, h3, h4, h5, h6, h7, h8, h9, h10, h11, h12, h13⟩) (by decide) (by omega) (by omega) rfl (Nat.le_of_ble_eq_true rfl) d_Mod_readText_27 (fun v33 w34 n35 p36 => ?_)
              rcases p36 with ⟨hq39, rfl, e38, f37, h0, h1, h2, h3, h4, h5, h6, h7, h8, h9, h10, h11, h12, h13⟩ | ⟨hq39, rfl, e38, f37, h0, h1, h2, h3, h4, h5, h6, h7, h8, h9, h10, h11, h12, h13⟩
              · rw [e38]
                refine a_st (st' := [.int (nI (tnB t (l0.getD p1 0)))]) rfl ?_
                have hbhq39 := tnB_lt (t := t) (getD_lt hby p1)
                have fr := fr.trans (Fr.sub f37 (by omega) (by omega))
                exact absurd hq39 (by omega)
              · rw [e38]
                refine a_st (st' := [.int 0]) rfl ?_
                have fr := fr.trans (Fr.sub f37 (by omega) (by omega))
                refine a_goto S (tgt := 36) d_Mod_readText_30 rfl ?_
                refine a_istore S d_Mod_readText_36 (Nat.le_of_ble_eq_true rfl) (lv' := [(0, .ref b), (1, .int (nI k)), (2, .int (nI t)), (3, .int (if true then 1 else 0)), (4, .int 0), (5, .int 0)]) rfl ?_
                refine a_iload S d_Mod_readText_38 rfl ?_
                refine a_sipush S (v := 255) d_Mod_readText_40 (by decide) ?_
                refine a_icmp_ne S (tgt := 50) d_Mod_readText_43 rfl (fun h43 => ?_) (fun h43 => ?_)
                · refine a_iconst S (v := 0) d_Mod_readText_50 (by decide) ?_
                  refine a_istore_n S d_Mod_readText_51 rfl (Nat.le_of_ble_eq_true rfl) (lv' := [(0, .ref b), (1, .int (nI k)), (2, .int (nI t)), (3, .int 0), (4, .int 0), (5, .int 0)]) rfl ?_
                  refine a_iload_n S d_Mod_readText_52 rfl rfl ?_
                  refine a_if_ne S (tgt := 81) d_Mod_readText_53 rfl (fun h53 => ?_) (fun h53 => ?_)
                  · exact absurd (by decide) h53
                  · refine a_aload_n S d_Mod_readText_56 rfl rfl ?_
                    refine a_aload_n S d_Mod_readText_57 rfl rfl ?_
                    refine a_get S kc_Mod 22 (by decide) lf_Mod_142 h0 rfl d_Mod_readText_58 ?_
                    refine a_if_ne S (tgt := 70) d_Mod_readText_61 rfl (fun h61 => ?_) (fun h61 => ?_)
                    · refine a_iconst S (v := 1) d_Mod_readText_70 (by decide) ?_
                      refine a_goto S (tgt := 75) d_Mod_readText_71 rfl ?_
                      refine a_put S kc_Mod kt_Mod 22 (by decide) lf_Mod_142 rfl h0 rfl rfl (Nat.le_of_ble_eq_true rfl) d_Mod_readText_75 (fun w40 h0 e41 => ?_)
                      have h0 : w40 b = some (.inr (6, [.int th, .int (nI fd), .int (if sl then 1 else 0), .ref (b + 1), .ref (b + 2), .ref (b + 3), .ref (b + 4), .ref (b + 5), .ref (b + 6), .ref (b + 7), .int (nI kp), .ref (b + 8), .int (nI l0.length), .ref (b + 9), .int (nI sz), .ref (b + 10), .ref (b + 11), .ref (b + 12), .ref (b + 13), .int (nI ls), .int hz, .int (nI p1), .int 1])) := h0
                      have fr := fr.trans (Fr.sub (Fr.of1 e41) (by omega) (by omega))
                      have h1 := Fr.cell (Fr.of1 e41) h1 (by omega)
                      have h2 := Fr.cell (Fr.of1 e41) h2 (by omega)
                      have h3 := Fr.cell (Fr.of1 e41) h3 (by omega)
                      have h4 := Fr.cell (Fr.of1 e41) h4 (by omega)
                      have h5 := Fr.cell (Fr.of1 e41) h5 (by omega)
                      have h6 := Fr.cell (Fr.of1 e41) h6 (by omega)
                      have h7 := Fr.cell (Fr.of1 e41) h7 (by omega)
                      have h8 := Fr.cell (Fr.of1 e41) h8 (by omega)
                      have h9 := Fr.cell (Fr.of1 e41) h9 (by omega)
                      have h10 := Fr.cell (Fr.of1 e41) h10 (by omega)
                      have h11 := Fr.cell (Fr.of1 e41) h11 (by omega)
                      have h12 := Fr.cell (Fr.of1 e41) h12 (by omega)
                      have h13 := Fr.cell (Fr.of1 e41) h13 (by omega)
                      refine a_goto S (tgt := 128) d_Mod_readText_78 rfl ?_
                      refine a_goto S (tgt := 2) d_Mod_readText_128 rfl ?_
                      refine a_lv [0, 1, 2, 3] (lv' := [(0, .ref b), (1, .int (nI k)), (2, .int (nI t)), (3, .int 0)]) rfl ?_
                      exact ih2 _ (by rw [← hk2]; simp only [if_true, Bool.false_eq_true, if_false]; omega) false true p1 x si1 te1 w40 rfl (by omega) fr ⟨h0, h1, h2, h3, h4, h5, h6, h7, h8, h9, h10, h11, h12, h13⟩ hX (hC.xe hX.1 hq7)
                    · exact absurd h61 (by decide)
                · exact absurd h43 (by decide)
  exact loop2 _ true false pt ([]) si te w rfl hpt fr ⟨h0, h1, h2, h3, h4, h5, h6, h7, h8, h9, h10, h11, h12, h13⟩ (TX.z hs0) RTc.z
set_option maxHeartbeats 400000 in
set_option maxRecDepth 100000 in
theorem c_Mod_readDecimal (l : Launch) (D : kD) (b : Nat) (th : Int32) (fd : Nat) (sl : Bool) (ki fl : Nat → Int32) (va : Nat → Int64) (fo go si te : Nat → Int32) (kp : Nat) (ro : Nat → Int32) (ma : Nat → Int32) (sz : Nat) (en ms lw hw : Nat → Int32) (ls : Nat) (hz : Int32) (pt : Nat) (bd : Bool) (l0 : List Nat) (k t : Nat) (w : ww) (n : Nat) (hl : l0.length ≤ 120) (hby : ∀ b ∈ l0, b < 256) (hA : Arr ro l0) (hpt : pt ≤ l0.length) (ht : t = 0 ∨ t = 255) (hk : k < 70) (hv0 : va k = 0) (hf0 : fo k = 0) (h : Mo D w b th fd sl ki fl va fo go si te kp ro l0.length ma sz en ms lw hw ls hz pt false) : AM l D M_Mod_readDecimal 1 0 0 [.ref b, .int (nI k), .int (nI t)] w n (fun v w' n' => ∃ (d : Int64) (e : Int32) (va1 : Nat → Int64) (fo1 : Nat → Int32) (p1 : Nat) (b1 : Bool), v = none ∧ n' = n ∧ Fr w w' b 14 ∧ Mo D w' b th fd sl ki fl va1 fo1 go si te kp ro l0.length ma sz en ms lw hw ls hz p1 b1 ∧ p1 ≤ l0.length ∧ DX va va1 fo fo1 k d e ∧ ∀ d0 e0 rest, rdD t (l0.drop pt) = some (d0, e0, rest) → b1 = false ∧ d = d0 ∧ e = e0 ∧ l0.drop p1 = rest) := by
  refine AM.ofv (by decide +kernel) rfl (Nat.le_of_ble_eq_true rfl) (fun X A Q hin S RT => ?_)
  have S : FX X (D, A, 10, Q) prog_9_method_32_code "KeyCodecModel" 1 0 0 := S
  have RT : RTv X (D, A, 10, Q) prog_9_method_32_code 0 0 _ := RT
  obtain ⟨h0, h1, h2, h3, h4, h5, h6, h7, h8, h9, h10, h11, h12, h13⟩ := h
  refine a_lve (lv' := [(0, .ref b), (1, .int (nI k)), (2, .int (nI t))]) rfl ?_
  have fr : Fr w w b 14 := Fr.refl _ _ _
  refine a_aload_n S d_Mod_readDecimal_0 rfl rfl ?_
  refine a_iload_n S d_Mod_readDecimal_1 rfl rfl ?_
  refine a_callV S (rest := []) lg_Mod_145 h0 (c_Mod_next X.2.1 D b th fd sl ki fl va fo go si te kp ro ma sz en ms lw hw ls hz pt false l0 t w n hl hby hA (by omega) ht ⟨h0, h1, h2, h3, h4, h5, h6, h7, h8, h9, h10, h11, h12, h13⟩) (by decide) (by omega) (by omega) rfl (Nat.le_of_ble_eq_true rfl) d_Mod_readDecimal_2 (fun v1 w2 n3 p4 => ?_)
  rcases p4 with ⟨hq7, rfl, e6, f5, h0, h1, h2, h3, h4, h5, h6, h7, h8, h9, h10, h11, h12, h13⟩ | ⟨hq7, rfl, e6, f5, h0, h1, h2, h3, h4, h5, h6, h7, h8, h9, h10, h11, h12, h13⟩
  · rw [e6]
    refine a_st (st' := [.int (nI (tnB t (l0.getD pt 0)))]) rfl ?_
    have hbhq7 := tnB_lt (t := t) (getD_lt hby pt)
    have fr := fr.trans (Fr.sub f5 (by omega) (by omega))
    refine a_istore_n S d_Mod_readDecimal_5 rfl (Nat.le_of_ble_eq_true rfl) (lv' := [(0, .ref b), (1, .int (nI k)), (2, .int (nI t)), (3, .int (nI (tnB t (l0.getD pt 0))))]) rfl ?_
    refine a_iload_n S d_Mod_readDecimal_6 rfl rfl ?_
    refine a_iconst S (v := 2) d_Mod_readDecimal_7 (by decide) ?_
    refine a_icmp_ne S (tgt := 12) d_Mod_readDecimal_8 rfl (fun h8_ => ?_) (fun h8_ => ?_)
    · have hy2 : ¬ tnB t (l0.getD pt 0) = 2 := fun z => h8_ (by rw [z]; rfl)
      refine a_iload_n S d_Mod_readDecimal_12 rfl rfl ?_
      refine a_iconst S (v := 1) d_Mod_readDecimal_13 (by decide) ?_
      refine a_icmp_ne S (tgt := 23) d_Mod_readDecimal_14 rfl (fun h14 => ?_) (fun h14 => ?_)
      · have hy1 : ¬ tnB t (l0.getD pt 0) = 1 := fun z => h14 (by rw [z]; rfl)
        refine a_iconst S (v := 0) d_Mod_readDecimal_23 (by decide) ?_
        refine a_istore S d_Mod_readDecimal_24 (Nat.le_of_ble_eq_true rfl) (lv' := [(0, .ref b), (1, .int (nI k)), (2, .int (nI t)), (3, .int (nI (tnB t (l0.getD pt 0)))), (4, .int 0)]) rfl ?_
        refine a_aload_n S d_Mod_readDecimal_26 rfl rfl ?_
        refine a_aload_n S d_Mod_readDecimal_27 rfl rfl ?_
        refine a_get S kc_Mod 22 (by decide) lf_Mod_142 h0 rfl d_Mod_readDecimal_28 ?_
        refine a_if_ne S (tgt := 44) d_Mod_readDecimal_31 rfl (fun h31 => ?_) (fun h31 => ?_)
        · exact absurd rfl h31
        · refine a_iload_n S d_Mod_readDecimal_34 rfl rfl ?_
          refine a_iconst S (v := 1) d_Mod_readDecimal_35 (by decide) ?_
          refine a_icmp_eq S (tgt := 48) d_Mod_readDecimal_36 rfl (fun h36 => ?_) (fun h36 => ?_)
          · exact absurd ((nI_eq (by omega) (by decide)).mp h36) hy1
          · refine a_iload_n S d_Mod_readDecimal_39 rfl rfl ?_
            refine a_iconst S (v := 3) d_Mod_readDecimal_40 (by decide) ?_
            refine a_icmp_eq S (tgt := 48) d_Mod_readDecimal_41 rfl (fun h41 => ?_) (fun h41 => ?_)
            · have hy3 : tnB t (l0.getD pt 0) = 3 := (nI_eq (by omega) (by decide)).mp h41
              refine a_iconst S (v := 0) d_Mod_readDecimal_48 (by decide) ?_
              refine a_put S kc_Mod kt_Mod 22 (by decide) lf_Mod_142 rfl h0 rfl rfl (Nat.le_of_ble_eq_true rfl) d_Mod_readDecimal_49 (fun w8 h0 e9 => ?_)
              have h0 : w8 b = some (.inr (6, [.int th, .int (nI fd), .int (if sl then 1 else 0), .ref (b + 1), .ref (b + 2), .ref (b + 3), .ref (b + 4), .ref (b + 5), .ref (b + 6), .ref (b + 7), .int (nI kp), .ref (b + 8), .int (nI l0.length), .ref (b + 9), .int (nI sz), .ref (b + 10), .ref (b + 11), .ref (b + 12), .ref (b + 13), .int (nI ls), .int hz, .int (nI (pt + 1)), .int 0])) := h0
              have fr := fr.trans (Fr.sub (Fr.of1 e9) (by omega) (by omega))
              have h1 := Fr.cell (Fr.of1 e9) h1 (by omega)
              have h2 := Fr.cell (Fr.of1 e9) h2 (by omega)
              have h3 := Fr.cell (Fr.of1 e9) h3 (by omega)
              have h4 := Fr.cell (Fr.of1 e9) h4 (by omega)
              have h5 := Fr.cell (Fr.of1 e9) h5 (by omega)
              have h6 := Fr.cell (Fr.of1 e9) h6 (by omega)
              have h7 := Fr.cell (Fr.of1 e9) h7 (by omega)
              have h8 := Fr.cell (Fr.of1 e9) h8 (by omega)
              have h9 := Fr.cell (Fr.of1 e9) h9 (by omega)
              have h10 := Fr.cell (Fr.of1 e9) h10 (by omega)
              have h11 := Fr.cell (Fr.of1 e9) h11 (by omega)
              have h12 := Fr.cell (Fr.of1 e9) h12 (by omega)
              have h13 := Fr.cell (Fr.of1 e9) h13 (by omega)
              refine a_aload_n S d_Mod_readDecimal_52 rfl rfl ?_
              refine a_iload_n S d_Mod_readDecimal_53 rfl rfl ?_
              refine a_callV S (rest := []) lg_Mod_145 h0 (c_Mod_next X.2.1 D b th fd sl ki fl va fo go si te kp ro ma sz en ms lw hw ls hz (pt + 1) false l0 t w8 n hl hby hA (by omega) ht ⟨h0, h1, h2, h3, h4, h5, h6, h7, h8, h9, h10, h11, h12, h13⟩) (by decide) (by omega) (by omega) rfl (Nat.le_of_ble_eq_true rfl) d_Mod_readDecimal_54 (fun v10 w11 n12 p13 => ?_)
              rcases p13 with ⟨hq16, rfl, e15, f14, h0, h1, h2, h3, h4, h5, h6, h7, h8, h9, h10, h11, h12, h13⟩ | ⟨hq16, rfl, e15, f14, h0, h1, h2, h3, h4, h5, h6, h7, h8, h9, h10, h11, h12, h13⟩
              · rw [e15]
                refine a_st (st' := [.int (nI (tnB t (l0.getD (pt + 1) 0)))]) rfl ?_
                have hbhq16 := tnB_lt (t := t) (getD_lt hby (pt + 1))
                have fr := fr.trans (Fr.sub f14 (by omega) (by omega))
                refine a_iload S d_Mod_readDecimal_57 rfl ?_
                refine a_ixor S d_Mod_readDecimal_59 ?_
                refine a_eqi (y := nI (tnB t (l0.getD (pt + 1) 0))) (xor_g0 _) ?_
                refine a_bipush S (v := 64) d_Mod_readDecimal_60 (by decide) ?_
                refine a_isub S d_Mod_readDecimal_62 ?_
                refine a_istore S d_Mod_readDecimal_63 (Nat.le_of_ble_eq_true rfl) (lv' := [(0, .ref b), (1, .int (nI k)), (2, .int (nI t)), (3, .int (nI (tnB t (l0.getD pt 0)))), (4, .int 0), (5, .int (nI (tnB t (l0.getD (pt + 1) 0)) - 64))]) rfl ?_
                refine a_lconst S (v := 0) d_Mod_readDecimal_65 (by decide) ?_
                refine a_lstore S d_Mod_readDecimal_66 (Nat.le_of_ble_eq_true rfl) (lv' := [(0, .ref b), (1, .int (nI k)), (2, .int (nI t)), (3, .int (nI (tnB t (l0.getD pt 0)))), (4, .int 0), (5, .int (nI (tnB t (l0.getD (pt + 1) 0)) - 64)), (6, .long 0)]) rfl ?_
                refine a_iconst S (v := 0) d_Mod_readDecimal_68 (by decide) ?_
                refine a_istore S d_Mod_readDecimal_69 (Nat.le_of_ble_eq_true rfl) (lv' := [(0, .ref b), (1, .int (nI k)), (2, .int (nI t)), (3, .int (nI (tnB t (l0.getD pt 0)))), (4, .int 0), (5, .int (nI (tnB t (l0.getD (pt + 1) 0)) - 64)), (6, .long 0), (8, .int 0)]) rfl ?_
                refine a_aload_n S d_Mod_readDecimal_71 rfl rfl ?_
                refine a_iload_n S d_Mod_readDecimal_72 rfl rfl ?_
                refine a_callV S (rest := []) lg_Mod_145 h0 (c_Mod_next X.2.1 D b th fd sl ki fl va fo go si te kp ro ma sz en ms lw hw ls hz (pt + 1 + 1) false l0 t w11 n hl hby hA (by omega) ht ⟨h0, h1, h2, h3, h4, h5, h6, h7, h8, h9, h10, h11, h12, h13⟩) (by decide) (by omega) (by omega) rfl (Nat.le_of_ble_eq_true rfl) d_Mod_readDecimal_73 (fun v17 w18 n19 p20 => ?_)
                rcases p20 with ⟨hq23, rfl, e22, f21, h0, h1, h2, h3, h4, h5, h6, h7, h8, h9, h10, h11, h12, h13⟩ | ⟨hq23, rfl, e22, f21, h0, h1, h2, h3, h4, h5, h6, h7, h8, h9, h10, h11, h12, h13⟩
                · rw [e22]
                  refine a_st (st' := [.int (nI (tnB t (l0.getD (pt + 1 + 1) 0)))]) rfl ?_
                  have hbhq23 := tnB_lt (t := t) (getD_lt hby (pt + 1 + 1))
                  have fr := fr.trans (Fr.sub f21 (by omega) (by omega))
                  refine a_iload S d_Mod_readDecimal_76 rfl ?_
                  refine a_ixor S d_Mod_readDecimal_78 ?_
                  refine a_eqi (y := nI (tnB t (l0.getD (pt + 1 + 1) 0))) (xor_g0 _) ?_
                  refine a_istore S d_Mod_readDecimal_79 (Nat.le_of_ble_eq_true rfl) (lv' := [(0, .ref b), (1, .int (nI k)), (2, .int (nI t)), (3, .int (nI (tnB t (l0.getD pt 0)))), (4, .int 0), (5, .int (nI (tnB t (l0.getD (pt + 1) 0)) - 64)), (6, .long 0), (8, .int 0), (9, .int (nI (tnB t (l0.getD (pt + 1 + 1) 0))))]) rfl ?_
                  have loop81 : ∀ (kk81 : Nat) (q m B : Nat) (b1 : Bool) (p2 : Nat) (w1 : ww), 17 - m = kk81 → (m ≤ 16 ∨ (b1 = true ∧ m ≤ 17)) → (p2 ≤ l0.length) → (B < 256) → (Fr w w1 b 14) → (Mo D w1 b th fd sl ki fl va fo go si te kp ro l0.length ma sz en ms lw hw ls hz p2 b1) → (RDc t l0 pt t 1 (nI (tnB t (l0.getD (pt + 1) 0)) - 64) p2 q m B b1) → AW X (D, A, 10, Q) 81 [(0, .ref b), (1, .int (nI k)), (2, .int (nI t)), (3, .int (nI (tnB t (l0.getD pt 0)))), (4, .int 0), (5, .int (nI (tnB t (l0.getD (pt + 1) 0)) - 64)), (6, .long (lN q)), (8, .int (nI m)), (9, .int (nI B))] [] w1 n (((0 + 0) + 0) + 0) (((0 + 0) + 0) + 0) := by
                    intro kk81
                    induction kk81 using Nat.strongRecOn with
                    | ind kk81 ih81 =>
                      intro q m B b1 p2 w1 hk81 hm hp2 hB fr h hC
                      obtain ⟨h0, h1, h2, h3, h4, h5, h6, h7, h8, h9, h10, h11, h12, h13⟩ := h
                      refine a_iload S d_Mod_readDecimal_81 rfl ?_
                      refine a_if_eq S (tgt := 146) d_Mod_readDecimal_83 rfl (fun h83 => ?_) (fun h83 => ?_)
                      · have hx : B = 0 ∨ b1 = true := Or.inl ((nI_eq (by omega) (by decide)).mp h83)
                        refine a_aload_n S d_Mod_readDecimal_146 rfl rfl ?_
                        refine a_get S kc_Mod 5 (by decide) lf_Mod_16 h0 rfl d_Mod_readDecimal_147 ?_
                        refine a_iload_n S d_Mod_readDecimal_150 rfl rfl ?_
                        refine a_iload S d_Mod_readDecimal_151 rfl ?_
                        refine a_sipush S (v := 255) d_Mod_readDecimal_153 (by decide) ?_
                        refine a_icmp_ne S (tgt := 166) d_Mod_readDecimal_156 rfl (fun h156 => ?_) (fun h156 => ?_)
                        · refine a_lload S d_Mod_readDecimal_166 rfl ?_
                          refine a_last S (i := k) h3 rfl (by omega) (by decide) d_Mod_readDecimal_168 (fun w24 h3 e25 => ?_)
                          have fr := fr.trans (Fr.sub (Fr.of1 e25) (by omega) (by omega))
                          have h0 := Fr.cell (Fr.of1 e25) h0 (by omega)
                          have h1 := Fr.cell (Fr.of1 e25) h1 (by omega)
                          have h2 := Fr.cell (Fr.of1 e25) h2 (by omega)
                          have h4 := Fr.cell (Fr.of1 e25) h4 (by omega)
                          have h5 := Fr.cell (Fr.of1 e25) h5 (by omega)
                          have h6 := Fr.cell (Fr.of1 e25) h6 (by omega)
                          have h7 := Fr.cell (Fr.of1 e25) h7 (by omega)
                          have h8 := Fr.cell (Fr.of1 e25) h8 (by omega)
                          have h9 := Fr.cell (Fr.of1 e25) h9 (by omega)
                          have h10 := Fr.cell (Fr.of1 e25) h10 (by omega)
                          have h11 := Fr.cell (Fr.of1 e25) h11 (by omega)
                          have h12 := Fr.cell (Fr.of1 e25) h12 (by omega)
                          have h13 := Fr.cell (Fr.of1 e25) h13 (by omega)
                          refine a_aload_n S d_Mod_readDecimal_169 rfl rfl ?_
                          refine a_get S kc_Mod 6 (by decide) lf_Mod_20 h0 rfl d_Mod_readDecimal_170 ?_
                          refine a_iload_n S d_Mod_readDecimal_173 rfl rfl ?_
                          refine a_iload S d_Mod_readDecimal_174 rfl ?_
                          refine a_iload S d_Mod_readDecimal_176 rfl ?_
                          refine a_isub S d_Mod_readDecimal_178 ?_
                          refine a_iast S (i := k) h4 rfl (by omega) (by decide) d_Mod_readDecimal_179 (fun w26 h4 e27 => ?_)
                          have fr := fr.trans (Fr.sub (Fr.of1 e27) (by omega) (by omega))
                          have h0 := Fr.cell (Fr.of1 e27) h0 (by omega)
                          have h1 := Fr.cell (Fr.of1 e27) h1 (by omega)
                          have h2 := Fr.cell (Fr.of1 e27) h2 (by omega)
                          have h3 := Fr.cell (Fr.of1 e27) h3 (by omega)
                          have h5 := Fr.cell (Fr.of1 e27) h5 (by omega)
                          have h6 := Fr.cell (Fr.of1 e27) h6 (by omega)
                          have h7 := Fr.cell (Fr.of1 e27) h7 (by omega)
                          have h8 := Fr.cell (Fr.of1 e27) h8 (by omega)
                          have h9 := Fr.cell (Fr.of1 e27) h9 (by omega)
                          have h10 := Fr.cell (Fr.of1 e27) h10 (by omega)
                          have h11 := Fr.cell (Fr.of1 e27) h11 (by omega)
                          have h12 := Fr.cell (Fr.of1 e27) h12 (by omega)
                          have h13 := Fr.cell (Fr.of1 e27) h13 (by omega)
                          exact RT _ _ _ _ _ _ d_Mod_readDecimal_180 (by omega) (by omega) ⟨_, _, _, _, p2, b1, rfl, rfl, fr, ⟨h0, h1, h2, h3, h4, h5, h6, h7, h8, h9, h10, h11, h12, h13⟩, hp2, DX.up, (fun d0 e0 rest g => have z := hC.e hx d0 e0 rest g; ⟨z.1, by rw [← z.2.1, (sg_p (lN q))], z.2.2.1, z.2.2.2⟩)⟩
                        · exact absurd h156 (by decide)
                      · have hB0 : ¬ B = 0 := fun z => h83 (by rw [z]; rfl)
                        refine a_aload_n S d_Mod_readDecimal_86 rfl rfl ?_
                        refine a_get S kc_Mod 22 (by decide) lf_Mod_142 h0 rfl d_Mod_readDecimal_87 ?_
                        refine a_if_ne S (tgt := 146) d_Mod_readDecimal_90 rfl (fun h90 => ?_) (fun h90 => ?_)
                        · have hx : B = 0 ∨ b1 = true := Or.inr (bo_1 h90)
                          refine a_aload_n S d_Mod_readDecimal_146 rfl rfl ?_
                          refine a_get S kc_Mod 5 (by decide) lf_Mod_16 h0 rfl d_Mod_readDecimal_147 ?_
                          refine a_iload_n S d_Mod_readDecimal_150 rfl rfl ?_
                          refine a_iload S d_Mod_readDecimal_151 rfl ?_
                          refine a_sipush S (v := 255) d_Mod_readDecimal_153 (by decide) ?_
                          refine a_icmp_ne S (tgt := 166) d_Mod_readDecimal_156 rfl (fun h156 => ?_) (fun h156 => ?_)
                          · refine a_lload S d_Mod_readDecimal_166 rfl ?_
                            refine a_last S (i := k) h3 rfl (by omega) (by decide) d_Mod_readDecimal_168 (fun w28 h3 e29 => ?_)
                            have fr := fr.trans (Fr.sub (Fr.of1 e29) (by omega) (by omega))
                            have h0 := Fr.cell (Fr.of1 e29) h0 (by omega)
                            have h1 := Fr.cell (Fr.of1 e29) h1 (by omega)
                            have h2 := Fr.cell (Fr.of1 e29) h2 (by omega)
                            have h4 := Fr.cell (Fr.of1 e29) h4 (by omega)
                            have h5 := Fr.cell (Fr.of1 e29) h5 (by omega)
                            have h6 := Fr.cell (Fr.of1 e29) h6 (by omega)
                            have h7 := Fr.cell (Fr.of1 e29) h7 (by omega)
                            have h8 := Fr.cell (Fr.of1 e29) h8 (by omega)
                            have h9 := Fr.cell (Fr.of1 e29) h9 (by omega)
                            have h10 := Fr.cell (Fr.of1 e29) h10 (by omega)
                            have h11 := Fr.cell (Fr.of1 e29) h11 (by omega)
                            have h12 := Fr.cell (Fr.of1 e29) h12 (by omega)
                            have h13 := Fr.cell (Fr.of1 e29) h13 (by omega)
                            refine a_aload_n S d_Mod_readDecimal_169 rfl rfl ?_
                            refine a_get S kc_Mod 6 (by decide) lf_Mod_20 h0 rfl d_Mod_readDecimal_170 ?_
                            refine a_iload_n S d_Mod_readDecimal_173 rfl rfl ?_
                            refine a_iload S d_Mod_readDecimal_174 rfl ?_
                            refine a_iload S d_Mod_readDecimal_176 rfl ?_
                            refine a_isub S d_Mod_readDecimal_178 ?_
                            refine a_iast S (i := k) h4 rfl (by omega) (by decide) d_Mod_readDecimal_179 (fun w30 h4 e31 => ?_)
                            have fr := fr.trans (Fr.sub (Fr.of1 e31) (by omega) (by omega))
                            have h0 := Fr.cell (Fr.of1 e31) h0 (by omega)
                            have h1 := Fr.cell (Fr.of1 e31) h1 (by omega)
                            have h2 := Fr.cell (Fr.of1 e31) h2 (by omega)
                            have h3 := Fr.cell (Fr.of1 e31) h3 (by omega)
                            have h5 := Fr.cell (Fr.of1 e31) h5 (by omega)
                            have h6 := Fr.cell (Fr.of1 e31) h6 (by omega)
                            have h7 := Fr.cell (Fr.of1 e31) h7 (by omega)
                            have h8 := Fr.cell (Fr.of1 e31) h8 (by omega)
                            have h9 := Fr.cell (Fr.of1 e31) h9 (by omega)
                            have h10 := Fr.cell (Fr.of1 e31) h10 (by omega)
                            have h11 := Fr.cell (Fr.of1 e31) h11 (by omega)
                            have h12 := Fr.cell (Fr.of1 e31) h12 (by omega)
                            have h13 := Fr.cell (Fr.of1 e31) h13 (by omega)
                            exact RT _ _ _ _ _ _ d_Mod_readDecimal_180 (by omega) (by omega) ⟨_, _, _, _, p2, b1, rfl, rfl, fr, ⟨h0, h1, h2, h3, h4, h5, h6, h7, h8, h9, h10, h11, h12, h13⟩, hp2, DX.up, (fun d0 e0 rest g => have z := hC.e hx d0 e0 rest g; ⟨z.1, by rw [← z.2.1, (sg_p (lN q))], z.2.2.1, z.2.2.2⟩)⟩
                          · exact absurd h156 (by decide)
                        · obtain rfl : b1 = false := bo_0 h90
                          have hm2 : m ≤ 16 := hm.elim id (fun z => by cases z.1)
                          refine a_aload_n S d_Mod_readDecimal_93 rfl rfl ?_
                          refine a_iload S d_Mod_readDecimal_94 rfl ?_
                          refine a_bipush S (v := 10) d_Mod_readDecimal_96 (by decide) ?_
                          refine a_icmp_gt S (tgt := 108) d_Mod_readDecimal_98 rfl (fun h98 => ?_) (fun h98 => ?_)
                          · have hbig : 10 < B ∨ m = 16 := Or.inl ((nI_ltI (by decide) (by omega)).mp h98)
                            refine a_iconst S (v := 1) d_Mod_readDecimal_108 (by decide) ?_
                            refine a_goto S (tgt := 113) d_Mod_readDecimal_109 rfl ?_
                            refine a_put S kc_Mod kt_Mod 22 (by decide) lf_Mod_142 rfl h0 rfl rfl (Nat.le_of_ble_eq_true rfl) d_Mod_readDecimal_113 (fun w32 h0 e33 => ?_)
                            have h0 : w32 b = some (.inr (6, [.int th, .int (nI fd), .int (if sl then 1 else 0), .ref (b + 1), .ref (b + 2), .ref (b + 3), .ref (b + 4), .ref (b + 5), .ref (b + 6), .ref (b + 7), .int (nI kp), .ref (b + 8), .int (nI l0.length), .ref (b + 9), .int (nI sz), .ref (b + 10), .ref (b + 11), .ref (b + 12), .ref (b + 13), .int (nI ls), .int hz, .int (nI p2), .int 1])) := h0
                            have fr := fr.trans (Fr.sub (Fr.of1 e33) (by omega) (by omega))
                            have h1 := Fr.cell (Fr.of1 e33) h1 (by omega)
                            have h2 := Fr.cell (Fr.of1 e33) h2 (by omega)
                            have h3 := Fr.cell (Fr.of1 e33) h3 (by omega)
                            have h4 := Fr.cell (Fr.of1 e33) h4 (by omega)
                            have h5 := Fr.cell (Fr.of1 e33) h5 (by omega)
                            have h6 := Fr.cell (Fr.of1 e33) h6 (by omega)
                            have h7 := Fr.cell (Fr.of1 e33) h7 (by omega)
                            have h8 := Fr.cell (Fr.of1 e33) h8 (by omega)
                            have h9 := Fr.cell (Fr.of1 e33) h9 (by omega)
                            have h10 := Fr.cell (Fr.of1 e33) h10 (by omega)
                            have h11 := Fr.cell (Fr.of1 e33) h11 (by omega)
                            have h12 := Fr.cell (Fr.of1 e33) h12 (by omega)
                            have h13 := Fr.cell (Fr.of1 e33) h13 (by omega)
                            refine a_lload S d_Mod_readDecimal_116 rfl ?_
                            refine a_ldc2 S (v := 10) lK_Mod_111 d_Mod_readDecimal_118 ?_
                            refine a_lmul S d_Mod_readDecimal_121 ?_
                            refine a_iload S d_Mod_readDecimal_122 rfl ?_
                            refine a_i2l S d_Mod_readDecimal_124 ?_
                            refine a_ladd S d_Mod_readDecimal_125 ?_
                            refine a_lconst S (v := 1) d_Mod_readDecimal_126 (by decide) ?_
                            refine a_lsub S d_Mod_readDecimal_127 ?_
                            refine a_eql (y := (lN (q * 10 + (B - 1)))) (l_dig hB0 hB) ?_
                            refine a_lstore S d_Mod_readDecimal_128 (Nat.le_of_ble_eq_true rfl) (lv' := [(0, .ref b), (1, .int (nI k)), (2, .int (nI t)), (3, .int (nI (tnB t (l0.getD pt 0)))), (4, .int 0), (5, .int (nI (tnB t (l0.getD (pt + 1) 0)) - 64)), (6, .long (lN (q * 10 + (B - 1)))), (8, .int (nI m)), (9, .int (nI B))]) rfl ?_
                            refine a_iinc S (v := nI (m + 1)) d_Mod_readDecimal_130 rfl (ni_add rfl (by decide)) (Nat.le_of_ble_eq_true rfl) (lv' := [(0, .ref b), (1, .int (nI k)), (2, .int (nI t)), (3, .int (nI (tnB t (l0.getD pt 0)))), (4, .int 0), (5, .int (nI (tnB t (l0.getD (pt + 1) 0)) - 64)), (6, .long (lN (q * 10 + (B - 1)))), (8, .int (nI (m + 1))), (9, .int (nI B))]) rfl ?_
                            refine a_aload_n S d_Mod_readDecimal_133 rfl rfl ?_
                            refine a_iload_n S d_Mod_readDecimal_134 rfl rfl ?_
                            refine a_callV S (rest := []) lg_Mod_145 h0 (c_Mod_next X.2.1 D b th fd sl ki fl va fo go si te kp ro ma sz en ms lw hw ls hz p2 true l0 t w32 n hl hby hA (by omega) ht ⟨h0, h1, h2, h3, h4, h5, h6, h7, h8, h9, h10, h11, h12, h13⟩) (by decide) (by omega) (by omega) rfl (Nat.le_of_ble_eq_true rfl) d_Mod_readDecimal_135 (fun v34 w35 n36 p37 => ?_)
                            rcases p37 with ⟨hq40, rfl, e39, f38, h0, h1, h2, h3, h4, h5, h6, h7, h8, h9, h10, h11, h12, h13⟩ | ⟨hq40, rfl, e39, f38, h0, h1, h2, h3, h4, h5, h6, h7, h8, h9, h10, h11, h12, h13⟩
                            · rw [e39]
                              refine a_st (st' := [.int (nI (tnB t (l0.getD p2 0)))]) rfl ?_
                              have hbhq40 := tnB_lt (t := t) (getD_lt hby p2)
                              have fr := fr.trans (Fr.sub f38 (by omega) (by omega))
                              refine a_iload S d_Mod_readDecimal_138 rfl ?_
                              refine a_ixor S d_Mod_readDecimal_140 ?_
                              refine a_eqi (y := nI (tnB t (l0.getD p2 0))) (xor_g0 _) ?_
                              refine a_istore S d_Mod_readDecimal_141 (Nat.le_of_ble_eq_true rfl) (lv' := [(0, .ref b), (1, .int (nI k)), (2, .int (nI t)), (3, .int (nI (tnB t (l0.getD pt 0)))), (4, .int 0), (5, .int (nI (tnB t (l0.getD (pt + 1) 0)) - 64)), (6, .long (lN (q * 10 + (B - 1)))), (8, .int (nI (m + 1))), (9, .int (nI (tnB t (l0.getD p2 0))))]) rfl ?_
                              refine a_goto S (tgt := 81) d_Mod_readDecimal_143 rfl ?_
                              exact ih81 _ (by omega) (q * 10 + (B - 1)) (m + 1) (tnB t (l0.getD p2 0)) true (p2 + 1) w35 rfl (Or.inr ⟨rfl, by omega⟩) (by omega) (tnB_lt (getD_lt hby _)) fr ⟨h0, h1, h2, h3, h4, h5, h6, h7, h8, h9, h10, h11, h12, h13⟩ (hC.big hB0 hbig)
                            · rw [e39]
                              refine a_st (st' := [.int 0]) rfl ?_
                              have fr := fr.trans (Fr.sub f38 (by omega) (by omega))
                              refine a_iload S d_Mod_readDecimal_138 rfl ?_
                              refine a_ixor S d_Mod_readDecimal_140 ?_
                              refine a_eqi (y := 0) (by decide) ?_
                              refine a_istore S d_Mod_readDecimal_141 (Nat.le_of_ble_eq_true rfl) (lv' := [(0, .ref b), (1, .int (nI k)), (2, .int (nI t)), (3, .int (nI (tnB t (l0.getD pt 0)))), (4, .int 0), (5, .int (nI (tnB t (l0.getD (pt + 1) 0)) - 64)), (6, .long (lN (q * 10 + (B - 1)))), (8, .int (nI (m + 1))), (9, .int 0)]) rfl ?_
                              refine a_goto S (tgt := 81) d_Mod_readDecimal_143 rfl ?_
                              exact ih81 _ (by omega) (q * 10 + (B - 1)) (m + 1) 0 true p2 w35 rfl (Or.inr ⟨rfl, by omega⟩) (by omega) (by decide) fr ⟨h0, h1, h2, h3, h4, h5, h6, h7, h8, h9, h10, h11, h12, h13⟩ (hC.big hB0 hbig)
                          · have hB10 : ¬ 10 < B := fun z => h98 ((nI_ltI (by decide) (by omega)).mpr z)
                            refine a_iload S d_Mod_readDecimal_101 rfl ?_
                            refine a_bipush S (v := 16) d_Mod_readDecimal_103 (by decide) ?_
                            refine a_icmp_ne S (tgt := 112) d_Mod_readDecimal_105 rfl (fun h105 => ?_) (fun h105 => ?_)
                            · have hm16 : ¬ m = 16 := fun z => h105 (by rw [z]; rfl)
                              refine a_iconst S (v := 0) d_Mod_readDecimal_112 (by decide) ?_
                              refine a_put S kc_Mod kt_Mod 22 (by decide) lf_Mod_142 rfl h0 rfl rfl (Nat.le_of_ble_eq_true rfl) d_Mod_readDecimal_113 (fun w41 h0 e42 => ?_)
                              have h0 : w41 b = some (.inr (6, [.int th, .int (nI fd), .int (if sl then 1 else 0), .ref (b + 1), .ref (b + 2), .ref (b + 3), .ref (b + 4), .ref (b + 5), .ref (b + 6), .ref (b + 7), .int (nI kp), .ref (b + 8), .int (nI l0.length), .ref (b + 9), .int (nI sz), .ref (b + 10), .ref (b + 11), .ref (b + 12), .ref (b + 13), .int (nI ls), .int hz, .int (nI p2), .int 0])) := h0
                              have fr := fr.trans (Fr.sub (Fr.of1 e42) (by omega) (by omega))
                              have h1 := Fr.cell (Fr.of1 e42) h1 (by omega)
                              have h2 := Fr.cell (Fr.of1 e42) h2 (by omega)
                              have h3 := Fr.cell (Fr.of1 e42) h3 (by omega)
                              have h4 := Fr.cell (Fr.of1 e42) h4 (by omega)
                              have h5 := Fr.cell (Fr.of1 e42) h5 (by omega)
                              have h6 := Fr.cell (Fr.of1 e42) h6 (by omega)
                              have h7 := Fr.cell (Fr.of1 e42) h7 (by omega)
                              have h8 := Fr.cell (Fr.of1 e42) h8 (by omega)
                              have h9 := Fr.cell (Fr.of1 e42) h9 (by omega)
                              have h10 := Fr.cell (Fr.of1 e42) h10 (by omega)
                              have h11 := Fr.cell (Fr.of1 e42) h11 (by omega)
                              have h12 := Fr.cell (Fr.of1 e42) h12 (by omega)
                              have h13 := Fr.cell (Fr.of1 e42) h13 (by omega)
                              refine a_lload S d_Mod_readDecimal_116 rfl ?_
                              refine a_ldc2 S (v := 10) lK_Mod_111 d_Mod_readDecimal_118 ?_
                              refine a_lmul S d_Mod_readDecimal_121 ?_
                              refine a_iload S d_Mod_readDecimal_122 rfl ?_
                              refine a_i2l S d_Mod_readDecimal_124 ?_
                              refine a_ladd S d_Mod_readDecimal_125 ?_
                              refine a_lconst S (v := 1) d_Mod_readDecimal_126 (by decide) ?_
                              refine a_lsub S d_Mod_readDecimal_127 ?_
                              refine a_eql (y := (lN (q * 10 + (B - 1)))) (l_dig hB0 hB) ?_
                              refine a_lstore S d_Mod_readDecimal_128 (Nat.le_of_ble_eq_true rfl) (lv' := [(0, .ref b), (1, .int (nI k)), (2, .int (nI t)), (3, .int (nI (tnB t (l0.getD pt 0)))), (4, .int 0), (5, .int (nI (tnB t (l0.getD (pt + 1) 0)) - 64)), (6, .long (lN (q * 10 + (B - 1)))), (8, .int (nI m)), (9, .int (nI B))]) rfl ?_
                              refine a_iinc S (v := nI (m + 1)) d_Mod_readDecimal_130 rfl (ni_add rfl (by decide)) (Nat.le_of_ble_eq_true rfl) (lv' := [(0, .ref b), (1, .int (nI k)), (2, .int (nI t)), (3, .int (nI (tnB t (l0.getD pt 0)))), (4, .int 0), (5, .int (nI (tnB t (l0.getD (pt + 1) 0)) - 64)), (6, .long (lN (q * 10 + (B - 1)))), (8, .int (nI (m + 1))), (9, .int (nI B))]) rfl ?_
                              refine a_aload_n S d_Mod_readDecimal_133 rfl rfl ?_
                              refine a_iload_n S d_Mod_readDecimal_134 rfl rfl ?_
                              refine a_callV S (rest := []) lg_Mod_145 h0 (c_Mod_next X.2.1 D b th fd sl ki fl va fo go si te kp ro ma sz en ms lw hw ls hz p2 false l0 t w41 n hl hby hA (by omega) ht ⟨h0, h1, h2, h3, h4, h5, h6, h7, h8, h9, h10, h11, h12, h13⟩) (by decide) (by omega) (by omega) rfl (Nat.le_of_ble_eq_true rfl) d_Mod_readDecimal_135 (fun v43 w44 n45 p46 => ?_)
                              rcases p46 with ⟨hq49, rfl, e48, f47, h0, h1, h2, h3, h4, h5, h6, h7, h8, h9, h10, h11, h12, h13⟩ | ⟨hq49, rfl, e48, f47, h0, h1, h2, h3, h4, h5, h6, h7, h8, h9, h10, h11, h12, h13⟩
                              · rw [e48]
                                refine a_st (st' := [.int (nI (tnB t (l0.getD p2 0)))]) rfl ?_
                                have hbhq49 := tnB_lt (t := t) (getD_lt hby p2)
                                have fr := fr.trans (Fr.sub f47 (by omega) (by omega))
                                refine a_iload S d_Mod_readDecimal_138 rfl ?_
                                refine a_ixor S d_Mod_readDecimal_140 ?_
                                refine a_eqi (y := nI (tnB t (l0.getD p2 0))) (xor_g0 _) ?_
                                refine a_istore S d_Mod_readDecimal_141 (Nat.le_of_ble_eq_true rfl) (lv' := [(0, .ref b), (1, .int (nI k)), (2, .int (nI t)), (3, .int (nI (tnB t (l0.getD pt 0)))), (4, .int 0), (5, .int (nI (tnB t (l0.getD (pt + 1) 0)) - 64)), (6, .long (lN (q * 10 + (B - 1)))), (8, .int (nI (m + 1))), (9, .int (nI (tnB t (l0.getD p2 0))))]) rfl ?_
                                refine a_goto S (tgt := 81) d_Mod_readDecimal_143 rfl ?_
                                exact ih81 _ (by omega) (q * 10 + (B - 1)) (m + 1) (tnB t (l0.getD p2 0)) false (p2 + 1) w44 rfl (by omega) (by omega) (tnB_lt (getD_lt hby _)) fr ⟨h0, h1, h2, h3, h4, h5, h6, h7, h8, h9, h10, h11, h12, h13⟩ (hC.s hB0 hB10 hm16 hq49)
                              · rw [e48]
                                refine a_st (st' := [.int 0]) rfl ?_
                                have fr := fr.trans (Fr.sub f47 (by omega) (by omega))
                                refine a_iload S d_Mod_readDecimal_138 rfl ?_
                                refine a_ixor S d_Mod_readDecimal_140 ?_
                                refine a_eqi (y := 0) (by decide) ?_
                                refine a_istore S d_Mod_readDecimal_141 (Nat.le_of_ble_eq_true rfl) (lv' := [(0, .ref b), (1, .int (nI k)), (2, .int (nI t)), (3, .int (nI (tnB t (l0.getD pt 0)))), (4, .int 0), (5, .int (nI (tnB t (l0.getD (pt + 1) 0)) - 64)), (6, .long (lN (q * 10 + (B - 1)))), (8, .int (nI (m + 1))), (9, .int 0)]) rfl ?_
                                refine a_goto S (tgt := 81) d_Mod_readDecimal_143 rfl ?_
                                exact ih81 _ (by omega) (q * 10 + (B - 1)) (m + 1) 0 true p2 w44 rfl (by omega) (by omega) (by decide) fr ⟨h0, h1, h2, h3, h4, h5, h6, h7, h8, h9, h10, h11, h12, h13⟩ (hC.se hB0 hB10 hm16 hq49)
                            · have hbig : 10 < B ∨ m = 16 := Or.inr ((nI_eq (by omega) (by decide)).mp h105)
                              refine a_iconst S (v := 1) d_Mod_readDecimal_108 (by decide) ?_
                              refine a_goto S (tgt := 113) d_Mod_readDecimal_109 rfl ?_
                              refine a_put S kc_Mod kt_Mod 22 (by decide) lf_Mod_142 rfl h0 rfl rfl (Nat.le_of_ble_eq_true rfl) d_Mod_readDecimal_113 (fun w50 h0 e51 => ?_)
                              have h0 : w50 b = some (.inr (6, [.int th, .int (nI fd), .int (if sl then 1 else 0), .ref (b + 1), .ref (b + 2), .ref (b + 3), .ref (b + 4), .ref (b + 5), .ref (b + 6), .ref (b + 7), .int (nI kp), .ref (b + 8), .int (nI l0.length), .ref (b + 9), .int (nI sz), .ref (b + 10), .ref (b + 11), .ref (b + 12), .ref (b + 13), .int (nI ls), .int hz, .int (nI p2), .int 1])) := h0
                              have fr := fr.trans (Fr.sub (Fr.of1 e51) (by omega) (by omega))
                              have h1 := Fr.cell (Fr.of1 e51) h1 (by omega)
                              have h2 := Fr.cell (Fr.of1 e51) h2 (by omega)
                              have h3 := Fr.cell (Fr.of1 e51) h3 (by omega)
                              have h4 := Fr.cell (Fr.of1 e51) h4 (by omega)
                              have h5 := Fr.cell (Fr.of1 e51) h5 (by omega)
                              have h6 := Fr.cell (Fr.of1 e51) h6 (by omega)
                              have h7 := Fr.cell (Fr.of1 e51) h7 (by omega)
                              have h8 := Fr.cell (Fr.of1 e51) h8 (by omega)
                              have h9 := Fr.cell (Fr.of1 e51) h9 (by omega)
                              have h10 := Fr.cell (Fr.of1 e51) h10 (by omega)
                              have h11 := Fr.cell (Fr.of1 e51) h11 (by omega)
                              have h12 := Fr.cell (Fr.of1 e51) h12 (by omega)
                              have h13 := Fr.cell (Fr.of1 e51) h13 (by omega)
                              refine a_lload S d_Mod_readDecimal_116 rfl ?_
                              refine a_ldc2 S (v := 10) lK_Mod_111 d_Mod_readDecimal_118 ?_
                              refine a_lmul S d_Mod_readDecimal_121 ?_
                              refine a_iload S d_Mod_readDecimal_122 rfl ?_
                              refine a_i2l S d_Mod_readDecimal_124 ?_
                              refine a_ladd S d_Mod_readDecimal_125 ?_
                              refine a_lconst S (v := 1) d_Mod_readDecimal_126 (by decide) ?_
                              refine a_lsub S d_Mod_readDecimal_127 ?_
                              refine a_eql (y := (lN (q * 10 + (B - 1)))) (l_dig hB0 hB) ?_
                              refine a_lstore S d_Mod_readDecimal_128 (Nat.le_of_ble_eq_true rfl) (lv' := [(0, .ref b), (1, .int (nI k)), (2, .int (nI t)), (3, .int (nI (tnB t (l0.getD pt 0)))), (4, .int 0), (5, .int (nI (tnB t (l0.getD (pt + 1) 0)) - 64)), (6, .long (lN (q * 10 + (B - 1)))), (8, .int (nI m)), (9, .int (nI B))]) rfl ?_
                              refine a_iinc S (v := nI (m + 1)) d_Mod_readDecimal_130 rfl (ni_add rfl (by decide)) (Nat.le_of_ble_eq_true rfl) (lv' := [(0, .ref b), (1, .int (nI k)), (2, .int (nI t)), (3, .int (nI (tnB t (l0.getD pt 0)))), (4, .int 0), (5, .int (nI (tnB t (l0.getD (pt + 1) 0)) - 64)), (6, .long (lN (q * 10 + (B - 1)))), (8, .int (nI (m + 1))), (9, .int (nI B))]) rfl ?_
                              refine a_aload_n S d_Mod_readDecimal_133 rfl rfl ?_
                              refine a_iload_n S d_Mod_readDecimal_134 rfl rfl ?_
                              refine a_callV S (rest := []) lg_Mod_145 h0 (c_Mod_next X.2.1 D b th fd sl ki fl va fo go si te kp ro ma sz en ms lw hw ls hz p2 true l0 t w50 n hl hby hA (by omega) ht ⟨h0, h1, h2, h3, h4, h5, h6, h7, h8, h9, h10, h11, h12, h13⟩) (by decide) (by omega) (by omega) rfl (Nat.le_of_ble_eq_true rfl) d_Mod_readDecimal_135 (fun v52 w53 n54 p55 => ?_)
                              rcases p55 with ⟨hq58, rfl, e57, f56, h0, h1, h2, h3, h4, h5, h6, h7, h8, h9, h10, h11, h12, h13⟩ | ⟨hq58, rfl, e57, f56, h0, h1, h2, h3, h4, h5, h6, h7, h8, h9, h10, h11, h12, h13⟩
                              · rw [e57]
                                refine a_st (st' := [.int (nI (tnB t (l0.getD p2 0)))]) rfl ?_
                                have hbhq58 := tnB_lt (t := t) (getD_lt hby p2)
                                have fr := fr.trans (Fr.sub f56 (by omega) (by omega))
                                refine a_iload S d_Mod_readDecimal_138 rfl ?_
                                refine a_ixor S d_Mod_readDecimal_140 ?_
                                refine a_eqi (y := nI (tnB t (l0.getD p2 0))) (xor_g0 _) ?_
                                refine a_istore S d_Mod_readDecimal_141 (Nat.le_of_ble_eq_true rfl) (lv' := [(0, .ref b), (1, .int (nI k)), (2, .int (nI t)), (3, .int (nI (tnB t (l0.getD pt 0)))), (4, .int 0), (5, .int (nI (tnB t (l0.getD (pt + 1) 0)) - 64)), (6, .long (lN (q * 10 + (B - 1)))), (8, .int (nI (m + 1))), (9, .int (nI (tnB t (l0.getD p2 0))))]) rfl ?_
                                refine a_goto S (tgt := 81) d_Mod_readDecimal_143 rfl ?_
                                exact ih81 _ (by omega) (q * 10 + (B - 1)) (m + 1) (tnB t (l0.getD p2 0)) true (p2 + 1) w53 rfl (Or.inr ⟨rfl, by omega⟩) (by omega) (tnB_lt (getD_lt hby _)) fr ⟨h0, h1, h2, h3, h4, h5, h6, h7, h8, h9, h10, h11, h12, h13⟩ (hC.big hB0 hbig)
                              · rw [e57]
                                refine a_st (st' := [.int 0]) rfl ?_
                                have fr := fr.trans (Fr.sub f56 (by omega) (by omega))
                                refine a_iload S d_Mod_readDecimal_138 rfl ?_
                                refine a_ixor S d_Mod_readDecimal_140 ?_
                                refine a_eqi (y := 0) (by decide) ?_
                                refine a_istore S d_Mod_readDecimal_141 (Nat.le_of_ble_eq_true rfl) (lv' := [(0, .ref b), (1, .int (nI k)), (2, .int (nI t)), (3, .int (nI (tnB t (l0.getD pt 0)))), (4, .int 0), (5, .int (nI (tnB t (l0.getD (pt + 1) 0)) - 64)), (6, .long (lN (q * 10 + (B - 1)))), (8, .int (nI (m + 1))), (9, .int 0)]) rfl ?_
                                refine a_goto S (tgt := 81) d_Mod_readDecimal_143 rfl ?_
                                exact ih81 _ (by omega) (q * 10 + (B - 1)) (m + 1) 0 true p2 w53 rfl (Or.inr ⟨rfl, by omega⟩) (by omega) (by decide) fr ⟨h0, h1, h2, h3, h4, h5, h6, h7, h8, h9, h10, h11, h12, h13⟩ (hC.big hB0 hbig)
                  exact loop81 _ 0 0 (tnB t (l0.getD (pt + 1 + 1) 0)) false (pt + 1 + 1 + 1) w18 rfl (Or.inl (Nat.zero_le _)) (by omega) (tnB_lt (getD_lt hby _)) fr ⟨h0, h1, h2, h3, h4, h5, h6, h7, h8, h9, h10, h11, h12, h13⟩ (RDc.st hq7 (Or.inr ⟨hy3, rfl, rfl⟩) hq16 hq23)
                · rw [e22]
                  refine a_st (st' := [.int 0]) rfl ?_
                  have fr := fr.trans (Fr.sub f21 (by omega) (by omega))
                  refine a_iload S d_Mod_readDecimal_76 rfl ?_
                  refine a_ixor S d_Mod_readDecimal_78 ?_
                  refine a_eqi (y := 0) (by decide) ?_
                  refine a_istore S d_Mod_readDecimal_79 (Nat.le_of_ble_eq_true rfl) (lv' := [(0, .ref b), (1, .int (nI k)), (2, .int (nI t)), (3, .int (nI (tnB t (l0.getD pt 0)))), (4, .int 0), (5, .int (nI (tnB t (l0.getD (pt + 1) 0)) - 64)), (6, .long 0), (8, .int 0), (9, .int 0)]) rfl ?_
                  have loop81 : ∀ (kk81 : Nat) (q m B : Nat) (b1 : Bool) (p2 : Nat) (w1 : ww), 17 - m = kk81 → (m ≤ 16 ∨ (b1 = true ∧ m ≤ 17)) → (p2 ≤ l0.length) → (B < 256) → (Fr w w1 b 14) → (Mo D w1 b th fd sl ki fl va fo go si te kp ro l0.length ma sz en ms lw hw ls hz p2 b1) → (RDc t l0 pt t 1 (nI (tnB t (l0.getD (pt + 1) 0)) - 64) p2 q m B b1) → AW X (D, A, 10, Q) 81 [(0, .ref b), (1, .int (nI k)), (2, .int (nI t)), (3, .int (nI (tnB t (l0.getD pt 0)))), (4, .int 0), (5, .int (nI (tnB t (l0.getD (pt + 1) 0)) - 64)), (6, .long (lN q)), (8, .int (nI m)), (9, .int (nI B))] [] w1 n (((0 + 0) + 0) + 0) (((0 + 0) + 0) + 0) := by
                    intro kk81
                    induction kk81 using Nat.strongRecOn with
                    | ind kk81 ih81 =>
                      intro q m B b1 p2 w1 hk81 hm hp2 hB fr h hC
                      obtain ⟨h0, h1, h2, h3, h4, h5, h6, h7, h8, h9, h10, h11, h12, h13⟩ := h
                      refine a_iload S d_Mod_readDecimal_81 rfl ?_
                      refine a_if_eq S (tgt := 146) d_Mod_readDecimal_83 rfl (fun h83 => ?_) (fun h83 => ?_)
                      · have hx : B = 0 ∨ b1 = true := Or.inl ((nI_eq (by omega) (by decide)).mp h83)
                        refine a_aload_n S d_Mod_readDecimal_146 rfl rfl ?_
                        refine a_get S kc_Mod 5 (by decide) lf_Mod_16 h0 rfl d_Mod_readDecimal_147 ?_
                        refine a_iload_n S d_Mod_readDecimal_150 rfl rfl ?_
                        refine a_iload S d_Mod_readDecimal_151 rfl ?_
                        refine a_sipush S (v := 255) d_Mod_readDecimal_153 (by decide) ?_
                        refine a_icmp_ne S (tgt := 166) d_Mod_readDecimal_156 rfl (fun h156 => ?_) (fun h156 => ?_)
                        · refine a_lload S d_Mod_readDecimal_166 rfl ?_
                          refine a_last S (i := k) h3 rfl (by omega) (by decide) d_Mod_readDecimal_168 (fun w59 h3 e60 => ?_)
                          have fr := fr.trans (Fr.sub (Fr.of1 e60) (by omega) (by omega))
                          have h0 := Fr.cell (Fr.of1 e60) h0 (by omega)
                          have h1 := Fr.cell (Fr.of1 e60) h1 (by omega)
                          have h2 := Fr.cell (Fr.of1 e60) h2 (by omega)
                          have h4 := Fr.cell (Fr.of1 e60) h4 (by omega)
                          have h5 := Fr.cell (Fr.of1 e60) h5 (by omega)
                          have h6 := Fr.cell (Fr.of1 e60) h6 (by omega)
                          have h7 := Fr.cell (Fr.of1 e60) h7 (by omega)
                          have h8 := Fr.cell (Fr.of1 e60) h8 (by omega)
                          have h9 := Fr.cell (Fr.of1 e60) h9 (by omega)
                          have h10 := Fr.cell (Fr.of1 e60) h10 (by omega)
                          have h11 := Fr.cell (Fr.of1 e60) h11 (by omega)
                          have h12 := Fr.cell (Fr.of1 e60) h12 (by omega)
                          have h13 := Fr.cell (Fr.of1 e60) h13 (by omega)
                          refine a_aload_n S d_Mod_readDecimal_169 rfl rfl ?_
                          refine a_get S kc_Mod 6 (by decide) lf_Mod_20 h0 rfl d_Mod_readDecimal_170 ?_
                          refine a_iload_n S d_Mod_readDecimal_173 rfl rfl ?_
                          refine a_iload S d_Mod_readDecimal_174 rfl ?_
                          refine a_iload S d_Mod_readDecimal_176 rfl ?_
                          refine a_isub S d_Mod_readDecimal_178 ?_
                          refine a_iast S (i := k) h4 rfl (by omega) (by decide) d_Mod_readDecimal_179 (fun w61 h4 e62 => ?_)
                          have fr := fr.trans (Fr.sub (Fr.of1 e62) (by omega) (by omega))
                          have h0 := Fr.cell (Fr.of1 e62) h0 (by omega)
                          have h1 := Fr.cell (Fr.of1 e62) h1 (by omega)
                          have h2 := Fr.cell (Fr.of1 e62) h2 (by omega)
                          have h3 := Fr.cell (Fr.of1 e62) h3 (by omega)
                          have h5 := Fr.cell (Fr.of1 e62) h5 (by omega)
                          have h6 := Fr.cell (Fr.of1 e62) h6 (by omega)
                          have h7 := Fr.cell (Fr.of1 e62) h7 (by omega)
                          have h8 := Fr.cell (Fr.of1 e62) h8 (by omega)
                          have h9 := Fr.cell (Fr.of1 e62) h9 (by omega)
                          have h10 := Fr.cell (Fr.of1 e62) h10 (by omega)
                          have h11 := Fr.cell (Fr.of1 e62) h11 (by omega)
                          have h12 := Fr.cell (Fr.of1 e62) h12 (by omega)
                          have h13 := Fr.cell (Fr.of1 e62) h13 (by omega)
                          exact RT _ _ _ _ _ _ d_Mod_readDecimal_180 (by omega) (by omega) ⟨_, _, _, _, p2, b1, rfl, rfl, fr, ⟨h0, h1, h2, h3, h4, h5, h6, h7, h8, h9, h10, h11, h12, h13⟩, hp2, DX.up, (fun d0 e0 rest g => have z := hC.e hx d0 e0 rest g; ⟨z.1, by rw [← z.2.1, (sg_p (lN q))], z.2.2.1, z.2.2.2⟩)⟩
                        · exact absurd h156 (by decide)
                      · have hB0 : ¬ B = 0 := fun z => h83 (by rw [z]; rfl)
                        refine a_aload_n S d_Mod_readDecimal_86 rfl rfl ?_
                        refine a_get S kc_Mod 22 (by decide) lf_Mod_142 h0 rfl d_Mod_readDecimal_87 ?_
                        refine a_if_ne S (tgt := 146) d_Mod_readDecimal_90 rfl (fun h90 => ?_) (fun h90 => ?_)
                        · have hx : B = 0 ∨ b1 = true := Or.inr (bo_1 h90)
                          refine a_aload_n S d_Mod_readDecimal_146 rfl rfl ?_
                          refine a_get S kc_Mod 5 (by decide) lf_Mod_16 h0 rfl d_Mod_readDecimal_147 ?_
                          refine a_iload_n S d_Mod_readDecimal_150 rfl rfl ?_
                          refine a_iload S d_Mod_readDecimal_151 rfl ?_
                          refine a_sipush S (v := 255) d_Mod_readDecimal_153 (by decide) ?_
                          refine a_icmp_ne S (tgt := 166) d_Mod_readDecimal_156 rfl (fun h156 => ?_) (fun h156 => ?_)
                          · refine a_lload S d_Mod_readDecimal_166 rfl ?_
                            refine a_last S (i := k) h3 rfl (by omega) (by decide) d_Mod_readDecimal_168 (fun w63 h3 e64 => ?_)
                            have fr := fr.trans (Fr.sub (Fr.of1 e64) (by omega) (by omega))
                            have h0 := Fr.cell (Fr.of1 e64) h0 (by omega)
                            have h1 := Fr.cell (Fr.of1 e64) h1 (by omega)
                            have h2 := Fr.cell (Fr.of1 e64) h2 (by omega)
                            have h4 := Fr.cell (Fr.of1 e64) h4 (by omega)
                            have h5 := Fr.cell (Fr.of1 e64) h5 (by omega)
                            have h6 := Fr.cell (Fr.of1 e64) h6 (by omega)
                            have h7 := Fr.cell (Fr.of1 e64) h7 (by omega)
                            have h8 := Fr.cell (Fr.of1 e64) h8 (by omega)
                            have h9 := Fr.cell (Fr.of1 e64) h9 (by omega)
                            have h10 := Fr.cell (Fr.of1 e64) h10 (by omega)
                            have h11 := Fr.cell (Fr.of1 e64) h11 (by omega)
                            have h12 := Fr.cell (Fr.of1 e64) h12 (by omega)
                            have h13 := Fr.cell (Fr.of1 e64) h13 (by omega)
                            refine a_aload_n S d_Mod_readDecimal_169 rfl rfl ?_
                            refine a_get S kc_Mod 6 (by decide) lf_Mod_20 h0 rfl d_Mod_readDecimal_170 ?_
                            refine a_iload_n S d_Mod_readDecimal_173 rfl rfl ?_
                            refine a_iload S d_Mod_readDecimal_174 rfl ?_
                            refine a_iload S d_Mod_readDecimal_176 rfl ?_
                            refine a_isub S d_Mod_readDecimal_178 ?_
                            refine a_iast S (i := k) h4 rfl (by omega) (by decide) d_Mod_readDecimal_179 (fun w65 h4 e66 => ?_)
                            have fr := fr.trans (Fr.sub (Fr.of1 e66) (by omega) (by omega))
                            have h0 := Fr.cell (Fr.of1 e66) h0 (by omega)
                            have h1 := Fr.cell (Fr.of1 e66) h1 (by omega)
                            have h2 := Fr.cell (Fr.of1 e66) h2 (by omega)
                            have h3 := Fr.cell (Fr.of1 e66) h3 (by omega)
                            have h5 := Fr.cell (Fr.of1 e66) h5 (by omega)
                            have h6 := Fr.cell (Fr.of1 e66) h6 (by omega)
                            have h7 := Fr.cell (Fr.of1 e66) h7 (by omega)
                            have h8 := Fr.cell (Fr.of1 e66) h8 (by omega)
                            have h9 := Fr.cell (Fr.of1 e66) h9 (by omega)
                            have h10 := Fr.cell (Fr.of1 e66) h10 (by omega)
                            have h11 := Fr.cell (Fr.of1 e66) h11 (by omega)
                            have h12 := Fr.cell (Fr.of1 e66) h12 (by omega)
                            have h13 := Fr.cell (Fr.of1 e66) h13 (by omega)
                            exact RT _ _ _ _ _ _ d_Mod_readDecimal_180 (by omega) (by omega) ⟨_, _, _, _, p2, b1, rfl, rfl, fr, ⟨h0, h1, h2, h3, h4, h5, h6, h7, h8, h9, h10, h11, h12, h13⟩, hp2, DX.up, (fun d0 e0 rest g => have z := hC.e hx d0 e0 rest g; ⟨z.1, by rw [← z.2.1, (sg_p (lN q))], z.2.2.1, z.2.2.2⟩)⟩
                          · exact absurd h156 (by decide)
                        · obtain rfl : b1 = false := bo_0 h90
                          have hm2 : m ≤ 16 := hm.elim id (fun z => by cases z.1)
                          refine a_aload_n S d_Mod_readDecimal_93 rfl rfl ?_
                          refine a_iload S d_Mod_readDecimal_94 rfl ?_
                          refine a_bipush S (v := 10) d_Mod_readDecimal_96 (by decide) ?_
                          refine a_icmp_gt S (tgt := 108) d_Mod_readDecimal_98 rfl (fun h98 => ?_) (fun h98 => ?_)
                          · have hbig : 10 < B ∨ m = 16 := Or.inl ((nI_ltI (by decide) (by omega)).mp h98)
                            refine a_iconst S (v := 1) d_Mod_readDecimal_108 (by decide) ?_
                            refine a_goto S (tgt := 113) d_Mod_readDecimal_109 rfl ?_
                            refine a_put S kc_Mod kt_Mod 22 (by decide) lf_Mod_142 rfl h0 rfl rfl (Nat.le_of_ble_eq_true rfl) d_Mod_readDecimal_113 (fun w67 h0 e68 => ?_)
                            have h0 : w67 b = some (.inr (6, [.int th, .int (nI fd), .int (if sl then 1 else 0), .ref (b + 1), .ref (b + 2), .ref (b + 3), .ref (b + 4), .ref (b + 5), .ref (b + 6), .ref (b + 7), .int (nI kp), .ref (b + 8), .int (nI l0.length), .ref (b + 9), .int (nI sz), .ref (b + 10), .ref (b + 11), .ref (b + 12), .ref (b + 13), .int (nI ls), .int hz, .int (nI p2), .int 1])) := h0
                            have fr := fr.trans (Fr.sub (Fr.of1 e68) (by omega) (by omega))
                            have h1 := Fr.cell (Fr.of1 e68) h1 (by omega)
                            have h2 := Fr.cell (Fr.of1 e68) h2 (by omega)
                            have h3 := Fr.cell (Fr.of1 e68) h3 (by omega)
                            have h4 := Fr.cell (Fr.of1 e68) h4 (by omega)
                            have h5 := Fr.cell (Fr.of1 e68) h5 (by omega)
                            have h6 := Fr.cell (Fr.of1 e68) h6 (by omega)
                            have h7 := Fr.cell (Fr.of1 e68) h7 (by omega)
                            have h8 := Fr.cell (Fr.of1 e68) h8 (by omega)
                            have h9 := Fr.cell (Fr.of1 e68) h9 (by omega)
                            have h10 := Fr.cell (Fr.of1 e68) h10 (by omega)
                            have h11 := Fr.cell (Fr.of1 e68) h11 (by omega)
                            have h12 := Fr.cell (Fr.of1 e68) h12 (by omega)
                            have h13 := Fr.cell (Fr.of1 e68) h13 (by omega)
                            refine a_lload S d_Mod_readDecimal_116 rfl ?_
                            refine a_ldc2 S (v := 10) lK_Mod_111 d_Mod_readDecimal_118 ?_
                            refine a_lmul S d_Mod_readDecimal_121 ?_
                            refine a_iload S d_Mod_readDecimal_122 rfl ?_
                            refine a_i2l S d_Mod_readDecimal_124 ?_
                            refine a_ladd S d_Mod_readDecimal_125 ?_
                            refine a_lconst S (v := 1) d_Mod_readDecimal_126 (by decide) ?_
                            refine a_lsub S d_Mod_readDecimal_127 ?_
                            refine a_eql (y := (lN (q * 10 + (B - 1)))) (l_dig hB0 hB) ?_
                            refine a_lstore S d_Mod_readDecimal_128 (Nat.le_of_ble_eq_true rfl) (lv' := [(0, .ref b), (1, .int (nI k)), (2, .int (nI t)), (3, .int (nI (tnB t (l0.getD pt 0)))), (4, .int 0), (5, .int (nI (tnB t (l0.getD (pt + 1) 0)) - 64)), (6, .long (lN (q * 10 + (B - 1)))), (8, .int (nI m)), (9, .int (nI B))]) rfl ?_
                            refine a_iinc S (v := nI (m + 1)) d_Mod_readDecimal_130 rfl (ni_add rfl (by decide)) (Nat.le_of_ble_eq_true rfl) (lv' := [(0, .ref b), (1, .int (nI k)), (2, .int (nI t)), (3, .int (nI (tnB t (l0.getD pt 0)))), (4, .int 0), (5, .int (nI (tnB t (l0.getD (pt + 1) 0)) - 64)), (6, .long (lN (q * 10 + (B - 1)))), (8, .int (nI (m + 1))), (9, .int (nI B))]) rfl ?_
                            refine a_aload_n S d_Mod_readDecimal_133 rfl rfl ?_
                            refine a_iload_n S d_Mod_readDecimal_134 rfl rfl ?_
                            refine a_callV S (rest := []) lg_Mod_145 h0 (c_Mod_next X.2.1 D b th fd sl ki fl va fo go si te kp ro ma sz en ms lw hw ls hz p2 true l0 t w67 n hl hby hA (by omega) ht ⟨h0, h1, h2, h3, h4, h5, h6, h7, h8, h9, h10, h11, h12, h13⟩) (by decide) (by omega) (by omega) rfl (Nat.le_of_ble_eq_true rfl) d_Mod_readDecimal_135 (fun v69 w70 n71 p72 => ?_)
                            rcases p72 with ⟨hq75, rfl, e74, f73, h0, h1, h2, h3, h4, h5, h6, h7, h8, h9, h10, h11, h12, h13⟩ | ⟨hq75, rfl, e74, f73, h0, h1, h2, h3, h4, h5, h6, h7, h8, h9, h10, h11, h12, h13⟩
                            · rw [e74]
                              refine a_st (st' := [.int (nI (tnB t (l0.getD p2 0)))]) rfl ?_
                              have hbhq75 := tnB_lt (t := t) (getD_lt hby p2)
                              have fr := fr.trans (Fr.sub f73 (by omega) (by omega))
                              refine a_iload S d_Mod_readDecimal_138 rfl ?_
                              refine a_ixor S d_Mod_readDecimal_140 ?_
                              refine a_eqi (y := nI (tnB t (l0.getD p2 0))) (xor_g0 _) ?_
                              refine a_istore S d_Mod_readDecimal_141 (Nat.le_of_ble_eq_true rfl) (lv' := [(0, .ref b), (1, .int (nI k)), (2, .int (nI t)), (3, .int (nI (tnB t (l0.getD pt 0)))), (4, .int 0), (5, .int (nI (tnB t (l0.getD (pt + 1) 0)) - 64)), (6, .long (lN (q * 10 + (B - 1)))), (8, .int (nI (m + 1))), (9, .int (nI (tnB t (l0.getD p2 0))))]) rfl ?_
                              refine a_goto S (tgt := 81) d_Mod_readDecimal_143 rfl ?_
                              exact ih81 _ (by omega) (q * 10 + (B - 1)) (m + 1) (tnB t (l0.getD p2 0)) true (p2 + 1) w70 rfl (Or.inr ⟨rfl, by omega⟩) (by omega) (tnB_lt (getD_lt hby _)) fr ⟨h0, h1, h2, h3, h4, h5, h6, h7, h8, h9, h10, h11, h12, h13⟩ (hC.big hB0 hbig)
                            · rw [e74]
                              refine a_st (st' := [.int 0]) rfl ?_
                              have fr := fr.trans (Fr.sub f73 (by omega) (by omega))
                              refine a_iload S d_Mod_readDecimal_138 rfl ?_
                              refine a_ixor S d_Mod_readDecimal_140 ?_
                              refine a_eqi (y := 0) (by decide) ?_
                              refine a_istore S d_Mod_readDecimal_141 (Nat.le_of_ble_eq_true rfl) (lv' := [(0, .ref b), (1, .int (nI k)), (2, .int (nI t)), (3, .int (nI (tnB t (l0.getD pt 0)))), (4, .int 0), (5, .int (nI (tnB t (l0.getD (pt + 1) 0)) - 64)), (6, .long (lN (q * 10 + (B - 1)))), (8, .int (nI (m + 1))), (9, .int 0)]) rfl ?_
                              refine a_goto S (tgt := 81) d_Mod_readDecimal_143 rfl ?_
                              exact ih81 _ (by omega) (q * 10 + (B - 1)) (m + 1) 0 true p2 w70 rfl (Or.inr ⟨rfl, by omega⟩) (by omega) (by decide) fr ⟨h0, h1, h2, h3, h4, h5, h6, h7, h8, h9, h10, h11, h12, h13⟩ (hC.big hB0 hbig)
                          · have hB10 : ¬ 10 < B := fun z => h98 ((nI_ltI (by decide) (by omega)).mpr z)
                            refine a_iload S d_Mod_readDecimal_101 rfl ?_
                            refine a_bipush S (v := 16) d_Mod_readDecimal_103 (by decide) ?_
                            refine a_icmp_ne S (tgt := 112) d_Mod_readDecimal_105 rfl (fun h105 => ?_) (fun h105 => ?_)
                            · have hm16 : ¬ m = 16 := fun z => h105 (by rw [z]; rfl)
                              refine a_iconst S (v := 0) d_Mod_readDecimal_112 (by decide) ?_
                              refine a_put S kc_Mod kt_Mod 22 (by decide) lf_Mod_142 rfl h0 rfl rfl (Nat.le_of_ble_eq_true rfl) d_Mod_readDecimal_113 (fun w76 h0 e77 => ?_)
                              have h0 : w76 b = some (.inr (6, [.int th, .int (nI fd), .int (if sl then 1 else 0), .ref (b + 1), .ref (b + 2), .ref (b + 3), .ref (b + 4), .ref (b + 5), .ref (b + 6), .ref (b + 7), .int (nI kp), .ref (b + 8), .int (nI l0.length), .ref (b + 9), .int (nI sz), .ref (b + 10), .ref (b + 11), .ref (b + 12), .ref (b + 13), .int (nI ls), .int hz, .int (nI p2), .int 0])) := h0
                              have fr := fr.trans (Fr.sub (Fr.of1 e77) (by omega) (by omega))
                              have h1 := Fr.cell (Fr.of1 e77) h1 (by omega)
                              have h2 := Fr.cell (Fr.of1 e77) h2 (by omega)
                              have h3 := Fr.cell (Fr.of1 e77) h3 (by omega)
                              have h4 := Fr.cell (Fr.of1 e77) h4 (by omega)
                              have h5 := Fr.cell (Fr.of1 e77) h5 (by omega)
                              have h6 := Fr.cell (Fr.of1 e77) h6 (by omega)
                              have h7 := Fr.cell (Fr.of1 e77) h7 (by omega)
                              have h8 := Fr.cell (Fr.of1 e77) h8 (by omega)
                              have h9 := Fr.cell (Fr.of1 e77) h9 (by omega)
                              have h10 := Fr.cell (Fr.of1 e77) h10 (by omega)
                              have h11 := Fr.cell (Fr.of1 e77) h11 (by omega)
                              have h12 := Fr.cell (Fr.of1 e77) h12 (by omega)
                              have h13 := Fr.cell (Fr.of1 e77) h13 (by omega)
                              refine a_lload S d_Mod_readDecimal_116 rfl ?_
                              refine a_ldc2 S (v := 10) lK_Mod_111 d_Mod_readDecimal_118 ?_
                              refine a_lmul S d_Mod_readDecimal_121 ?_
                              refine a_iload S d_Mod_readDecimal_122 rfl ?_
                              refine a_i2l S d_Mod_readDecimal_124 ?_
                              refine a_ladd S d_Mod_readDecimal_125 ?_
                              refine a_lconst S (v := 1) d_Mod_readDecimal_126 (by decide) ?_
                              refine a_lsub S d_Mod_readDecimal_127 ?_
                              refine a_eql (y := (lN (q * 10 + (B - 1)))) (l_dig hB0 hB) ?_
                              refine a_lstore S d_Mod_readDecimal_128 (Nat.le_of_ble_eq_true rfl) (lv' := [(0, .ref b), (1, .int (nI k)), (2, .int (nI t)), (3, .int (nI (tnB t (l0.getD pt 0)))), (4, .int 0), (5, .int (nI (tnB t (l0.getD (pt + 1) 0)) - 64)), (6, .long (lN (q * 10 + (B - 1)))), (8, .int (nI m)), (9, .int (nI B))]) rfl ?_
                              refine a_iinc S (v := nI (m + 1)) d_Mod_readDecimal_130 rfl (ni_add rfl (by decide)) (Nat.le_of_ble_eq_true rfl) (lv' := [(0, .ref b), (1, .int (nI k)), (2, .int (nI t)), (3, .int (nI (tnB t (l0.getD pt 0)))), (4, .int 0), (5, .int (nI (tnB t (l0.getD (pt + 1) 0)) - 64)), (6, .long (lN (q * 10 + (B - 1)))), (8, .int (nI (m + 1))), (9, .int (nI B))]) rfl ?_
                              refine a_aload_n S d_Mod_readDecimal_133 rfl rfl ?_
                              refine a_iload_n S d_Mod_readDecimal_134 rfl rfl ?_
                              refine a_callV S (rest := []) lg_Mod_145 h0 (c_Mod_next X.2.1 D b th fd sl ki fl va fo go si te kp ro ma sz en ms lw hw ls hz p2 false l0 t w76 n hl hby hA (by omega) ht ⟨h0, h1, h2, h3, h4, h5, h6, h7, h8, h9, h10, h11, h12, h13⟩) (by decide) (by omega) (by omega) rfl (Nat.le_of_ble_eq_true rfl) d_Mod_readDecimal_135 (fun v78 w79 n80 p81 => ?_)
                              rcases p81 with ⟨hq84, rfl, e83, f82, h0, h1, h2, h3, h4, h5, h6, h7, h8, h9, h10, h11, h12, h13⟩ | ⟨hq84, rfl, e83, f82, h0, h1, h2, h3, h4, h5, h6, h7, h8, h9, h10, h11, h12, h13⟩
                              · rw [e83]
                                refine a_st (st' := [.int (nI (tnB t (l0.getD p2 0)))]) rfl ?_
                                have hbhq84 := tnB_lt (t := t) (getD_lt hby p2)
                                have fr := fr.trans (Fr.sub f82 (by omega) (by omega))
                                refine a_iload S d_Mod_readDecimal_138 rfl ?_
                                refine a_ixor S d_Mod_readDecimal_140 ?_
                                refine a_eqi (y := nI (tnB t (l0.getD p2 0))) (xor_g0 _) ?_
                                refine a_istore S d_Mod_readDecimal_141 (Nat.le_of_ble_eq_true rfl) (lv' := [(0, .ref b), (1, .int (nI k)), (2, .int (nI t)), (3, .int (nI (tnB t (l0.getD pt 0)))), (4, .int 0), (5, .int (nI (tnB t (l0.getD (pt + 1) 0)) - 64)), (6, .long (lN (q * 10 + (B - 1)))), (8, .int (nI (m + 1))), (9, .int (nI (tnB t (l0.getD p2 0))))]) rfl ?_
                                refine a_goto S (tgt := 81) d_Mod_readDecimal_143 rfl ?_
                                exact ih81 _ (by omega) (q * 10 + (B - 1)) (m + 1) (tnB t (l0.getD p2 0)) false (p2 + 1) w79 rfl (by omega) (by omega) (tnB_lt (getD_lt hby _)) fr ⟨h0, h1, h2, h3, h4, h5, h6, h7, h8, h9, h10, h11, h12, h13⟩ (hC.s hB0 hB10 hm16 hq84)
                              · rw [e83]
                                refine a_st (st' := [.int 0]) rfl ?_
                                have fr := fr.trans (Fr.sub f82 (by omega) (by omega))
                                refine a_iload S d_Mod_readDecimal_138 rfl ?_
                                refine a_ixor S d_Mod_readDecimal_140 ?_
                                refine a_eqi (y := 0) (by decide) ?_
                                refine a_istore S d_Mod_readDecimal_141 (Nat.le_of_ble_eq_true rfl) (lv' := [(0, .ref b), (1, .int (nI k)), (2, .int (nI t)), (3, .int (nI (tnB t (l0.getD pt 0)))), (4, .int 0), (5, .int (nI (tnB t (l0.getD (pt + 1) 0)) - 64)), (6, .long (lN (q * 10 + (B - 1)))), (8, .int (nI (m + 1))), (9, .int 0)]) rfl ?_
                                refine a_goto S (tgt := 81) d_Mod_readDecimal_143 rfl ?_
                                exact ih81 _ (by omega) (q * 10 + (B - 1)) (m + 1) 0 true p2 w79 rfl (by omega) (by omega) (by decide) fr ⟨h0, h1, h2, h3, h4, h5, h6, h7, h8, h9, h10, h11, h12, h13⟩ (hC.se hB0 hB10 hm16 hq84)
                            · have hbig : 10 < B ∨ m = 16 := Or.inr ((nI_eq (by omega) (by decide)).mp h105)
                              refine a_iconst S (v := 1) d_Mod_readDecimal_108 (by decide) ?_
                              refine a_goto S (tgt := 113) d_Mod_readDecimal_109 rfl ?_
                              refine a_put S kc_Mod kt_Mod 22 (by decide) lf_Mod_142 rfl h0 rfl rfl (Nat.le_of_ble_eq_true rfl) d_Mod_readDecimal_113 (fun w85 h0 e86 => ?_)
                              have h0 : w85 b = some (.inr (6, [.int th, .int (nI fd), .int (if sl then 1 else 0), .ref (b + 1), .ref (b + 2), .ref (b + 3), .ref (b + 4), .ref (b + 5), .ref (b + 6), .ref (b + 7), .int (nI kp), .ref (b + 8), .int (nI l0.length), .ref (b + 9), .int (nI sz), .ref (b + 10), .ref (b + 11), .ref (b + 12), .ref (b + 13), .int (nI ls), .int hz, .int (nI p2), .int 1])) := h0
                              have fr := fr.trans (Fr.sub (Fr.of1 e86) (by omega) (by omega))
                              have h1 := Fr.cell (Fr.of1 e86) h1 (by omega)
                              have h2 := Fr.cell (Fr.of1 e86) h2 (by omega)
                              have h3 := Fr.cell (Fr.of1 e86) h3 (by omega)
                              have h4 := Fr.cell (Fr.of1 e86) h4 (by omega)
                              have h5 := Fr.cell (Fr.of1 e86) h5 (by omega)
                              have h6 := Fr.cell (Fr.of1 e86) h6 (by omega)
                              have h7 := Fr.cell (Fr.of1 e86) h7 (by omega)
                              have h8 := Fr.cell (Fr.of1 e86) h8 (by omega)
                              have h9 := Fr.cell (Fr.of1 e86) h9 (by omega)
                              have h10 := Fr.cell (Fr.of1 e86) h10 (by omega)
                              have h11 := Fr.cell (Fr.of1 e86) h11 (by omega)
                              have h12 := Fr.cell (Fr.of1 e86) h12 (by omega)
                              have h13 := Fr.cell (Fr.of1 e86) h13 (by omega)
                              refine a_lload S d_Mod_readDecimal_116 rfl ?_
                              refine a_ldc2 S (v := 10) lK_Mod_111 d_Mod_readDecimal_118 ?_
                              refine a_lmul S d_Mod_readDecimal_121 ?_
                              refine a_iload S d_Mod_readDecimal_122 rfl ?_
                              refine a_i2l S d_Mod_readDecimal_124 ?_
                              refine a_ladd S d_Mod_readDecimal_125 ?_
                              refine a_lconst S (v := 1) d_Mod_readDecimal_126 (by decide) ?_
                              refine a_lsub S d_Mod_readDecimal_127 ?_
                              refine a_eql (y := (lN (q * 10 + (B - 1)))) (l_dig hB0 hB) ?_
                              refine a_lstore S d_Mod_readDecimal_128 (Nat.le_of_ble_eq_true rfl) (lv' := [(0, .ref b), (1, .int (nI k)), (2, .int (nI t)), (3, .int (nI (tnB t (l0.getD pt 0)))), (4, .int 0), (5, .int (nI (tnB t (l0.getD (pt + 1) 0)) - 64)), (6, .long (lN (q * 10 + (B - 1)))), (8, .int (nI m)), (9, .int (nI B))]) rfl ?_
                              refine a_iinc S (v := nI (m + 1)) d_Mod_readDecimal_130 rfl (ni_add rfl (by decide)) (Nat.le_of_ble_eq_true rfl) (lv' := [(0, .ref b), (1, .int (nI k)), (2, .int (nI t)), (3, .int (nI (tnB t (l0.getD pt 0)))), (4, .int 0), (5, .int (nI (tnB t (l0.getD (pt + 1) 0)) - 64)), (6, .long (lN (q * 10 + (B - 1)))), (8, .int (nI (m + 1))), (9, .int (nI B))]) rfl ?_
                              refine a_aload_n S d_Mod_readDecimal_133 rfl rfl ?_
                              refine a_iload_n S d_Mod_readDecimal_134 rfl rfl ?_
                              refine a_callV S (rest := []) lg_Mod_145 h0 (c_Mod_next X.2.1 D b th fd sl ki fl va fo go si te kp ro ma sz en ms lw hw ls hz p2 true l0 t w85 n hl hby hA (by omega) ht ⟨h0, h1, h2, h3, h4, h5, h6, h7, h8, h9, h10, h11, h12, h13⟩) (by decide) (by omega) (by omega) rfl (Nat.le_of_ble_eq_true rfl) d_Mod_readDecimal_135 (fun v87 w88 n89 p90 => ?_)
                              rcases p90 with ⟨hq93, rfl, e92, f91, h0, h1, h2, h3, h4, h5, h6, h7, h8, h9, h10, h11, h12, h13⟩ | ⟨hq93, rfl, e92, f91, h0, h1, h2, h3, h4, h5, h6, h7, h8, h9, h10, h11, h12, h13⟩
                              · rw [e92]
                                refine a_st (st' := [.int (nI (tnB t (l0.getD p2 0)))]) rfl ?_
                                have hbhq93 := tnB_lt (t := t) (getD_lt hby p2)
                                have fr := fr.trans (Fr.sub f91 (by omega) (by omega))
                                refine a_iload S d_Mod_readDecimal_138 rfl ?_
                                refine a_ixor S d_Mod_readDecimal_140 ?_
                                refine a_eqi (y := nI (tnB t (l0.getD p2 0))) (xor_g0 _) ?_
                                refine a_istore S d_Mod_readDecimal_141 (Nat.le_of_ble_eq_true rfl) (lv' := [(0, .ref b), (1, .int (nI k)), (2, .int (nI t)), (3, .int (nI (tnB t (l0.getD pt 0)))), (4, .int 0), (5, .int (nI (tnB t (l0.getD (pt + 1) 0)) - 64)), (6, .long (lN (q * 10 + (B - 1)))), (8, .int (nI (m + 1))), (9, .int (nI (tnB t (l0.getD p2 0))))]) rfl ?_
                                refine a_goto S (tgt := 81) d_Mod_readDecimal_143 rfl ?_
                                exact ih81 _ (by omega) (q * 10 + (B - 1)) (m + 1) (tnB t (l0.getD p2 0)) true (p2 + 1) w88 rfl (Or.inr ⟨rfl, by omega⟩) (by omega) (tnB_lt (getD_lt hby _)) fr ⟨h0, h1, h2, h3, h4, h5, h6, h7, h8, h9, h10, h11, h12, h13⟩ (hC.big hB0 hbig)
                              · rw [e92]
                                refine a_st (st' := [.int 0]) rfl ?_
                                have fr := fr.trans (Fr.sub f91 (by omega) (by omega))
                                refine a_iload S d_Mod_readDecimal_138 rfl ?_
                                refine a_ixor S d_Mod_readDecimal_140 ?_
                                refine a_eqi (y := 0) (by decide) ?_
                                refine a_istore S d_Mod_readDecimal_141 (Nat.le_of_ble_eq_true rfl) (lv' := [(0, .ref b), (1, .int (nI k)), (2, .int (nI t)), (3, .int (nI (tnB t (l0.getD pt 0)))), (4, .int 0), (5, .int (nI (tnB t (l0.getD (pt + 1) 0)) - 64)), (6, .long (lN (q * 10 + (B - 1)))), (8, .int (nI (m + 1))), (9, .int 0)]) rfl ?_
                                refine a_goto S (tgt := 81) d_Mod_readDecimal_143 rfl ?_
                                exact ih81 _ (by omega) (q * 10 + (B - 1)) (m + 1) 0 true p2 w88 rfl (Or.inr ⟨rfl, by omega⟩) (by omega) (by decide) fr ⟨h0, h1, h2, h3, h4, h5, h6, h7, h8, h9, h10, h11, h12, h13⟩ (hC.big hB0 hbig)
                  exact loop81 _ 0 0 0 true (pt + 1 + 1) w18 rfl (Or.inl (Nat.zero_le _)) (by omega) (by decide) fr ⟨h0, h1, h2, h3, h4, h5, h6, h7, h8, h9, h10, h11, h12, h13⟩ (RDc.f2 hq7 (Or.inr ⟨hy3, rfl, rfl⟩) hq16 hq23)
              · rw [e15]
                refine a_st (st' := [.int 0]) rfl ?_
                have fr := fr.trans (Fr.sub f14 (by omega) (by omega))
                refine a_iload S d_Mod_readDecimal_57 rfl ?_
                refine a_ixor S d_Mod_readDecimal_59 ?_
                refine a_eqi (y := 0) (by decide) ?_
                refine a_bipush S (v := 64) d_Mod_readDecimal_60 (by decide) ?_
                refine a_isub S d_Mod_readDecimal_62 ?_
                refine a_eqi (y := (-64)) (by decide) ?_
                refine a_istore S d_Mod_readDecimal_63 (Nat.le_of_ble_eq_true rfl) (lv' := [(0, .ref b), (1, .int (nI k)), (2, .int (nI t)), (3, .int (nI (tnB t (l0.getD pt 0)))), (4, .int 0), (5, .int (-64))]) rfl ?_
                refine a_lconst S (v := 0) d_Mod_readDecimal_65 (by decide) ?_
                refine a_lstore S d_Mod_readDecimal_66 (Nat.le_of_ble_eq_true rfl) (lv' := [(0, .ref b), (1, .int (nI k)), (2, .int (nI t)), (3, .int (nI (tnB t (l0.getD pt 0)))), (4, .int 0), (5, .int (-64)), (6, .long 0)]) rfl ?_
                refine a_iconst S (v := 0) d_Mod_readDecimal_68 (by decide) ?_
                refine a_istore S d_Mod_readDecimal_69 (Nat.le_of_ble_eq_true rfl) (lv' := [(0, .ref b), (1, .int (nI k)), (2, .int (nI t)), (3, .int (nI (tnB t (l0.getD pt 0)))), (4, .int 0), (5, .int (-64)), (6, .long 0), (8, .int 0)]) rfl ?_
                refine a_aload_n S d_Mod_readDecimal_71 rfl rfl ?_
                refine a_iload_n S d_Mod_readDecimal_72 rfl rfl ?_
                refine a_callV S (rest := []) lg_Mod_145 h0 (c_Mod_next X.2.1 D b th fd sl ki fl va fo go si te kp ro ma sz en ms lw hw ls hz (pt + 1) true l0 t w11 n hl hby hA (by omega) ht ⟨h0, h1, h2, h3, h4, h5, h6, h7, h8, h9, h10, h11, h12, h13⟩) (by decide) (by omega) (by omega) rfl (Nat.le_of_ble_eq_true rfl) d_Mod_readDecimal_73 (fun v94 w95 n96 p97 => ?_)
                rcases p97 with ⟨hq100, rfl, e99, f98, h0, h1, h2, h3, h4, h5, h6, h7, h8, h9, h10, h11, h12, h13⟩ | ⟨hq100, rfl, e99, f98, h0, h1, h2, h3, h4, h5, h6, h7, h8, h9, h10, h11, h12, h13⟩
                · rw [e99]
                  refine a_st (st' := [.int (nI (tnB t (l0.getD (pt + 1) 0)))]) rfl ?_
                  have hbhq100 := tnB_lt (t := t) (getD_lt hby (pt + 1))
                  have fr := fr.trans (Fr.sub f98 (by omega) (by omega))
                  exact absurd hq100 (by omega)
                · rw [e99]
                  refine a_st (st' := [.int 0]) rfl ?_
                  have fr := fr.trans (Fr.sub f98 (by omega) (by omega))
                  refine a_iload S d_Mod_readDecimal_76 rfl ?_
                  refine a_ixor S d_Mod_readDecimal_78 ?_
                  refine a_eqi (y := 0) (by decide) ?_
                  refine a_istore S d_Mod_readDecimal_79 (Nat.le_of_ble_eq_true rfl) (lv' := [(0, .ref b), (1, .int (nI k)), (2, .int (nI t)), (3, .int (nI (tnB t (l0.getD pt 0)))), (4, .int 0), (5, .int (-64)), (6, .long 0), (8, .int 0), (9, .int 0)]) rfl ?_
                  have loop81 : ∀ (kk81 : Nat) (q m B : Nat) (b1 : Bool) (p2 : Nat) (w1 : ww), 17 - m = kk81 → (m ≤ 16 ∨ (b1 = true ∧ m ≤ 17)) → (p2 ≤ l0.length) → (B < 256) → (Fr w w1 b 14) → (Mo D w1 b th fd sl ki fl va fo go si te kp ro l0.length ma sz en ms lw hw ls hz p2 b1) → (RDc t l0 pt t 1 (-64) p2 q m B b1) → AW X (D, A, 10, Q) 81 [(0, .ref b), (1, .int (nI k)), (2, .int (nI t)), (3, .int (nI (tnB t (l0.getD pt 0)))), (4, .int 0), (5, .int (-64)), (6, .long (lN q)), (8, .int (nI m)), (9, .int (nI B))] [] w1 n (((0 + 0) + 0) + 0) (((0 + 0) + 0) + 0) := by
                    intro kk81
                    induction kk81 using Nat.strongRecOn with
                    | ind kk81 ih81 =>
                      intro q m B b1 p2 w1 hk81 hm hp2 hB fr h hC
                      obtain ⟨h0, h1, h2, h3, h4, h5, h6, h7, h8, h9, h10, h11, h12, h13⟩ := h
                      refine a_iload S d_Mod_readDecimal_81 rfl ?_
                      refine a_if_eq S (tgt := 146) d_Mod_readDecimal_83 rfl (fun h83 => ?_) (fun h83 => ?_)
                      · have hx : B = 0 ∨ b1 = true := Or.inl ((nI_eq (by omega) (by decide)).mp h83)
                        refine a_aload_n S d_Mod_readDecimal_146 rfl rfl ?_
                        refine a_get S kc_Mod 5 (by decide) lf_Mod_16 h0 rfl d_Mod_readDecimal_147 ?_
                        refine a_iload_n S d_Mod_readDecimal_150 rfl rfl ?_
                        refine a_iload S d_Mod_readDecimal_151 rfl ?_
                        refine a_sipush S (v := 255) d_Mod_readDecimal_153 (by decide) ?_
                        refine a_icmp_ne S (tgt := 166) d_Mod_readDecimal_156 rfl (fun h156 => ?_) (fun h156 => ?_)
                        · refine a_lload S d_Mod_readDecimal_166 rfl ?_
                          refine a_last S (i := k) h3 rfl (by omega) (by decide) d_Mod_readDecimal_168 (fun w101 h3 e102 => ?_)
                          have fr := fr.trans (Fr.sub (Fr.of1 e102) (by omega) (by omega))
                          have h0 := Fr.cell (Fr.of1 e102) h0 (by omega)
                          have h1 := Fr.cell (Fr.of1 e102) h1 (by omega)
                          have h2 := Fr.cell (Fr.of1 e102) h2 (by omega)
                          have h4 := Fr.cell (Fr.of1 e102) h4 (by omega)
                          have h5 := Fr.cell (Fr.of1 e102) h5 (by omega)
                          have h6 := Fr.cell (Fr.of1 e102) h6 (by omega)
                          have h7 := Fr.cell (Fr.of1 e102) h7 (by omega)
                          have h8 := Fr.cell (Fr.of1 e102) h8 (by omega)
                          have h9 := Fr.cell (Fr.of1 e102) h9 (by omega)
                          have h10 := Fr.cell (Fr.of1 e102) h10 (by omega)
                          have h11 := Fr.cell (Fr.of1 e102) h11 (by omega)
                          have h12 := Fr.cell (Fr.of1 e102) h12 (by omega)
                          have h13 := Fr.cell (Fr.of1 e102) h13 (by omega)
                          refine a_aload_n S d_Mod_readDecimal_169 rfl rfl ?_
                          refine a_get S kc_Mod 6 (by decide) lf_Mod_20 h0 rfl d_Mod_readDecimal_170 ?_
                          refine a_iload_n S d_Mod_readDecimal_173 rfl rfl ?_
                          refine a_iload S d_Mod_readDecimal_174 rfl ?_
                          refine a_iload S d_Mod_readDecimal_176 rfl ?_
                          refine a_isub S d_Mod_readDecimal_178 ?_
                          refine a_iast S (i := k) h4 rfl (by omega) (by decide) d_Mod_readDecimal_179 (fun w103 h4 e104 => ?_)
                          have fr := fr.trans (Fr.sub (Fr.of1 e104) (by omega) (by omega))
                          have h0 := Fr.cell (Fr.of1 e104) h0 (by omega)
                          have h1 := Fr.cell (Fr.of1 e104) h1 (by omega)
                          have h2 := Fr.cell (Fr.of1 e104) h2 (by omega)
                          have h3 := Fr.cell (Fr.of1 e104) h3 (by omega)
                          have h5 := Fr.cell (Fr.of1 e104) h5 (by omega)
                          have h6 := Fr.cell (Fr.of1 e104) h6 (by omega)
                          have h7 := Fr.cell (Fr.of1 e104) h7 (by omega)
                          have h8 := Fr.cell (Fr.of1 e104) h8 (by omega)
                          have h9 := Fr.cell (Fr.of1 e104) h9 (by omega)
                          have h10 := Fr.cell (Fr.of1 e104) h10 (by omega)
                          have h11 := Fr.cell (Fr.of1 e104) h11 (by omega)
                          have h12 := Fr.cell (Fr.of1 e104) h12 (by omega)
                          have h13 := Fr.cell (Fr.of1 e104) h13 (by omega)
                          exact RT _ _ _ _ _ _ d_Mod_readDecimal_180 (by omega) (by omega) ⟨_, _, _, _, p2, b1, rfl, rfl, fr, ⟨h0, h1, h2, h3, h4, h5, h6, h7, h8, h9, h10, h11, h12, h13⟩, hp2, DX.up, (fun d0 e0 rest g => have z := hC.e hx d0 e0 rest g; ⟨z.1, by rw [← z.2.1, (sg_p (lN q))], z.2.2.1, z.2.2.2⟩)⟩
                        · exact absurd h156 (by decide)
                      · have hB0 : ¬ B = 0 := fun z => h83 (by rw [z]; rfl)
                        refine a_aload_n S d_Mod_readDecimal_86 rfl rfl ?_
                        refine a_get S kc_Mod 22 (by decide) lf_Mod_142 h0 rfl d_Mod_readDecimal_87 ?_
                        refine a_if_ne S (tgt := 146) d_Mod_readDecimal_90 rfl (fun h90 => ?_) (fun h90 => ?_)
                        · have hx : B = 0 ∨ b1 = true := Or.inr (bo_1 h90)
                          refine a_aload_n S d_Mod_readDecimal_146 rfl rfl ?_
                          refine a_get S kc_Mod 5 (by decide) lf_Mod_16 h0 rfl d_Mod_readDecimal_147 ?_
                          refine a_iload_n S d_Mod_readDecimal_150 rfl rfl ?_
                          refine a_iload S d_Mod_readDecimal_151 rfl ?_
                          refine a_sipush S (v := 255) d_Mod_readDecimal_153 (by decide) ?_
                          refine a_icmp_ne S (tgt := 166) d_Mod_readDecimal_156 rfl (fun h156 => ?_) (fun h156 => ?_)
                          · refine a_lload S d_Mod_readDecimal_166 rfl ?_
                            refine a_last S (i := k) h3 rfl (by omega) (by decide) d_Mod_readDecimal_168 (fun w105 h3 e106 => ?_)
                            have fr := fr.trans (Fr.sub (Fr.of1 e106) (by omega) (by omega))
                            have h0 := Fr.cell (Fr.of1 e106) h0 (by omega)
                            have h1 := Fr.cell (Fr.of1 e106) h1 (by omega)
                            have h2 := Fr.cell (Fr.of1 e106) h2 (by omega)
                            have h4 := Fr.cell (Fr.of1 e106) h4 (by omega)
                            have h5 := Fr.cell (Fr.of1 e106) h5 (by omega)
                            have h6 := Fr.cell (Fr.of1 e106) h6 (by omega)
                            have h7 := Fr.cell (Fr.of1 e106) h7 (by omega)
                            have h8 := Fr.cell (Fr.of1 e106) h8 (by omega)
                            have h9 := Fr.cell (Fr.of1 e106) h9 (by omega)
                            have h10 := Fr.cell (Fr.of1 e106) h10 (by omega)
                            have h11 := Fr.cell (Fr.of1 e106) h11 (by omega)
                            have h12 := Fr.cell (Fr.of1 e106) h12 (by omega)
                            have h13 := Fr.cell (Fr.of1 e106) h13 (by omega)
                            refine a_aload_n S d_Mod_readDecimal_169 rfl rfl ?_
                            refine a_get S kc_Mod 6 (by decide) lf_Mod_20 h0 rfl d_Mod_readDecimal_170 ?_
                            refine a_iload_n S d_Mod_readDecimal_173 rfl rfl ?_
                            refine a_iload S d_Mod_readDecimal_174 rfl ?_
                            refine a_iload S d_Mod_readDecimal_176 rfl ?_
                            refine a_isub S d_Mod_readDecimal_178 ?_
                            refine a_iast S (i := k) h4 rfl (by omega) (by decide) d_Mod_readDecimal_179 (fun w107 h4 e108 => ?_)
                            have fr := fr.trans (Fr.sub (Fr.of1 e108) (by omega) (by omega))
                            have h0 := Fr.cell (Fr.of1 e108) h0 (by omega)
                            have h1 := Fr.cell (Fr.of1 e108) h1 (by omega)
                            have h2 := Fr.cell (Fr.of1 e108) h2 (by omega)
                            have h3 := Fr.cell (Fr.of1 e108) h3 (by omega)
                            have h5 := Fr.cell (Fr.of1 e108) h5 (by omega)
                            have h6 := Fr.cell (Fr.of1 e108) h6 (by omega)
                            have h7 := Fr.cell (Fr.of1 e108) h7 (by omega)
                            have h8 := Fr.cell (Fr.of1 e108) h8 (by omega)
                            have h9 := Fr.cell (Fr.of1 e108) h9 (by omega)
                            have h10 := Fr.cell (Fr.of1 e108) h10 (by omega)
                            have h11 := Fr.cell (Fr.of1 e108) h11 (by omega)
                            have h12 := Fr.cell (Fr.of1 e108) h12 (by omega)
                            have h13 := Fr.cell (Fr.of1 e108) h13 (by omega)
                            exact RT _ _ _ _ _ _ d_Mod_readDecimal_180 (by omega) (by omega) ⟨_, _, _, _, p2, b1, rfl, rfl, fr, ⟨h0, h1, h2, h3, h4, h5, h6, h7, h8, h9, h10, h11, h12, h13⟩, hp2, DX.up, (fun d0 e0 rest g => have z := hC.e hx d0 e0 rest g; ⟨z.1, by rw [← z.2.1, (sg_p (lN q))], z.2.2.1, z.2.2.2⟩)⟩
                          · exact absurd h156 (by decide)
                        · obtain rfl : b1 = false := bo_0 h90
                          have hm2 : m ≤ 16 := hm.elim id (fun z => by cases z.1)
                          refine a_aload_n S d_Mod_readDecimal_93 rfl rfl ?_
                          refine a_iload S d_Mod_readDecimal_94 rfl ?_
                          refine a_bipush S (v := 10) d_Mod_readDecimal_96 (by decide) ?_
                          refine a_icmp_gt S (tgt := 108) d_Mod_readDecimal_98 rfl (fun h98 => ?_) (fun h98 => ?_)
                          · have hbig : 10 < B ∨ m = 16 := Or.inl ((nI_ltI (by decide) (by omega)).mp h98)
                            refine a_iconst S (v := 1) d_Mod_readDecimal_108 (by decide) ?_
                            refine a_goto S (tgt := 113) d_Mod_readDecimal_109 rfl ?_
                            refine a_put S kc_Mod kt_Mod 22 (by decide) lf_Mod_142 rfl h0 rfl rfl (Nat.le_of_ble_eq_true rfl) d_Mod_readDecimal_113 (fun w109 h0 e110 => ?_)
                            have h0 : w109 b = some (.inr (6, [.int th, .int (nI fd), .int (if sl then 1 else 0), .ref (b + 1), .ref (b + 2), .ref (b + 3), .ref (b + 4), .ref (b + 5), .ref (b + 6), .ref (b + 7), .int (nI kp), .ref (b + 8), .int (nI l0.length), .ref (b + 9), .int (nI sz), .ref (b + 10), .ref (b + 11), .ref (b + 12), .ref (b + 13), .int (nI ls), .int hz, .int (nI p2), .int 1])) := h0
                            have fr := fr.trans (Fr.sub (Fr.of1 e110) (by omega) (by omega))
                            have h1 := Fr.cell (Fr.of1 e110) h1 (by omega)
                            have h2 := Fr.cell (Fr.of1 e110) h2 (by omega)
                            have h3 := Fr.cell (Fr.of1 e110) h3 (by omega)
                            have h4 := Fr.cell (Fr.of1 e110) h4 (by omega)
                            have h5 := Fr.cell (Fr.of1 e110) h5 (by omega)
                            have h6 := Fr.cell (Fr.of1 e110) h6 (by omega)
                            have h7 := Fr.cell (Fr.of1 e110) h7 (by omega)
                            have h8 := Fr.cell (Fr.of1 e110) h8 (by omega)
                            have h9 := Fr.cell (Fr.of1 e110) h9 (by omega)
                            have h10 := Fr.cell (Fr.of1 e110) h10 (by omega)
                            have h11 := Fr.cell (Fr.of1 e110) h11 (by omega)
                            have h12 := Fr.cell (Fr.of1 e110) h12 (by omega)
                            have h13 := Fr.cell (Fr.of1 e110) h13 (by omega)
                            refine a_lload S d_Mod_readDecimal_116 rfl ?_
                            refine a_ldc2 S (v := 10) lK_Mod_111 d_Mod_readDecimal_118 ?_
                            refine a_lmul S d_Mod_readDecimal_121 ?_
                            refine a_iload S d_Mod_readDecimal_122 rfl ?_
                            refine a_i2l S d_Mod_readDecimal_124 ?_
                            refine a_ladd S d_Mod_readDecimal_125 ?_
                            refine a_lconst S (v := 1) d_Mod_readDecimal_126 (by decide) ?_
                            refine a_lsub S d_Mod_readDecimal_127 ?_
                            refine a_eql (y := (lN (q * 10 + (B - 1)))) (l_dig hB0 hB) ?_
                            refine a_lstore S d_Mod_readDecimal_128 (Nat.le_of_ble_eq_true rfl) (lv' := [(0, .ref b), (1, .int (nI k)), (2, .int (nI t)), (3, .int (nI (tnB t (l0.getD pt 0)))), (4, .int 0), (5, .int (-64)), (6, .long (lN (q * 10 + (B - 1)))), (8, .int (nI m)), (9, .int (nI B))]) rfl ?_
                            refine a_iinc S (v := nI (m + 1)) d_Mod_readDecimal_130 rfl (ni_add rfl (by decide)) (Nat.le_of_ble_eq_true rfl) (lv' := [(0, .ref b), (1, .int (nI k)), (2, .int (nI t)), (3, .int (nI (tnB t (l0.getD pt 0)))), (4, .int 0), (5, .int (-64)), (6, .long (lN (q * 10 + (B - 1)))), (8, .int (nI (m + 1))), (9, .int (nI B))]) rfl ?_
                            refine a_aload_n S d_Mod_readDecimal_133 rfl rfl ?_
                            refine a_iload_n S d_Mod_readDecimal_134 rfl rfl ?_
                            refine a_callV S (rest := []) lg_Mod_145 h0 (c_Mod_next X.2.1 D b th fd sl ki fl va fo go si te kp ro ma sz en ms lw hw ls hz p2 true l0 t w109 n hl hby hA (by omega) ht ⟨h0, h1, h2, h3, h4, h5, h6, h7, h8, h9, h10, h11, h12, h13⟩) (by decide) (by omega) (by omega) rfl (Nat.le_of_ble_eq_true rfl) d_Mod_readDecimal_135 (fun v111 w112 n113 p114 => ?_)
                            rcases p114 with ⟨hq117, rfl, e116, f115, h0, h1, h2, h3, h4, h5, h6, h7, h8, h9, h10, h11, h12, h13⟩ | ⟨hq117, rfl, e116, f115, h0, h1, h2, h3, h4, h5, h6, h7, h8, h9, h10, h11, h12, h13⟩
                            · rw [e116]
                              refine a_st (st' := [.int (nI (tnB t (l0.getD p2 0)))]) rfl ?_
                              have hbhq117 := tnB_lt (t := t) (getD_lt hby p2)
                              have fr := fr.trans (Fr.sub f115 (by omega) (by omega))
                              refine a_iload S d_Mod_readDecimal_138 rfl ?_
                              refine a_ixor S d_Mod_readDecimal_140 ?_
                              refine a_eqi (y := nI (tnB t (l0.getD p2 0))) (xor_g0 _) ?_
                              refine a_istore S d_Mod_readDecimal_141 (Nat.le_of_ble_eq_true rfl) (lv' := [(0, .ref b), (1, .int (nI k)), (2, .int (nI t)), (3, .int (nI (tnB t (l0.getD pt 0)))), (4, .int 0), (5, .int (-64)), (6, .long (lN (q * 10 + (B - 1)))), (8, .int (nI (m + 1))), (9, .int (nI (tnB t (l0.getD p2 0))))]) rfl ?_
                              refine a_goto S (tgt := 81) d_Mod_readDecimal_143 rfl ?_
                              exact ih81 _ (by omega) (q * 10 + (B - 1)) (m + 1) (tnB t (l0.getD p2 0)) true (p2 + 1) w112 rfl (Or.inr ⟨rfl, by omega⟩) (by omega) (tnB_lt (getD_lt hby _)) fr ⟨h0, h1, h2, h3, h4, h5, h6, h7, h8, h9, h10, h11, h12, h13⟩ (hC.big hB0 hbig)
                            · rw [e116]
                              refine a_st (st' := [.int 0]) rfl ?_
                              have fr := fr.trans (Fr.sub f115 (by omega) (by omega))
                              refine a_iload S d_Mod_readDecimal_138 rfl ?_
                              refine a_ixor S d_Mod_readDecimal_140 ?_
                              refine a_eqi (y := 0) (by decide) ?_
                              refine a_istore S d_Mod_readDecimal_141 (Nat.le_of_ble_eq_true rfl) (lv' := [(0, .ref b), (1, .int (nI k)), (2, .int (nI t)), (3, .int (nI (tnB t (l0.getD pt 0)))), (4, .int 0), (5, .int (-64)), (6, .long (lN (q * 10 + (B - 1)))), (8, .int (nI (m + 1))), (9, .int 0)]) rfl ?_
                              refine a_goto S (tgt := 81) d_Mod_readDecimal_143 rfl ?_
                              exact ih81 _ (by omega) (q * 10 + (B - 1)) (m + 1) 0 true p2 w112 rfl (Or.inr ⟨rfl, by omega⟩) (by omega) (by decide) fr ⟨h0, h1, h2, h3, h4, h5, h6, h7, h8, h9, h10, h11, h12, h13⟩ (hC.big hB0 hbig)
                          · have hB10 : ¬ 10 < B := fun z => h98 ((nI_ltI (by decide) (by omega)).mpr z)
                            refine a_iload S d_Mod_readDecimal_101 rfl ?_
                            refine a_bipush S (v := 16) d_Mod_readDecimal_103 (by decide) ?_
                            refine a_icmp_ne S (tgt := 112) d_Mod_readDecimal_105 rfl (fun h105 => ?_) (fun h105 => ?_)
                            · have hm16 : ¬ m = 16 := fun z => h105 (by rw [z]; rfl)
                              refine a_iconst S (v := 0) d_Mod_readDecimal_112 (by decide) ?_
                              refine a_put S kc_Mod kt_Mod 22 (by decide) lf_Mod_142 rfl h0 rfl rfl (Nat.le_of_ble_eq_true rfl) d_Mod_readDecimal_113 (fun w118 h0 e119 => ?_)
                              have h0 : w118 b = some (.inr (6, [.int th, .int (nI fd), .int (if sl then 1 else 0), .ref (b + 1), .ref (b + 2), .ref (b + 3), .ref (b + 4), .ref (b + 5), .ref (b + 6), .ref (b + 7), .int (nI kp), .ref (b + 8), .int (nI l0.length), .ref (b + 9), .int (nI sz), .ref (b + 10), .ref (b + 11), .ref (b + 12), .ref (b + 13), .int (nI ls), .int hz, .int (nI p2), .int 0])) := h0
                              have fr := fr.trans (Fr.sub (Fr.of1 e119) (by omega) (by omega))
                              have h1 := Fr.cell (Fr.of1 e119) h1 (by omega)
                              have h2 := Fr.cell (Fr.of1 e119) h2 (by omega)
                              have h3 := Fr.cell (Fr.of1 e119) h3 (by omega)
                              have h4 := Fr.cell (Fr.of1 e119) h4 (by omega)
                              have h5 := Fr.cell (Fr.of1 e119) h5 (by omega)
                              have h6 := Fr.cell (Fr.of1 e119) h6 (by omega)
                              have h7 := Fr.cell (Fr.of1 e119) h7 (by omega)
                              have h8 := Fr.cell (Fr.of1 e119) h8 (by omega)
                              have h9 := Fr.cell (Fr.of1 e119) h9 (by omega)
                              have h10 := Fr.cell (Fr.of1 e119) h10 (by omega)
                              have h11 := Fr.cell (Fr.of1 e119) h11 (by omega)
                              have h12 := Fr.cell (Fr.of1 e119) h12 (by omega)
                              have h13 := Fr.cell (Fr.of1 e119) h13 (by omega)
                              refine a_lload S d_Mod_readDecimal_116 rfl ?_
                              refine a_ldc2 S (v := 10) lK_Mod_111 d_Mod_readDecimal_118 ?_
                              refine a_lmul S d_Mod_readDecimal_121 ?_
                              refine a_iload S d_Mod_readDecimal_122 rfl ?_
                              refine a_i2l S d_Mod_readDecimal_124 ?_
                              refine a_ladd S d_Mod_readDecimal_125 ?_
                              refine a_lconst S (v := 1) d_Mod_readDecimal_126 (by decide) ?_
                              refine a_lsub S d_Mod_readDecimal_127 ?_
                              refine a_eql (y := (lN (q * 10 + (B - 1)))) (l_dig hB0 hB) ?_
                              refine a_lstore S d_Mod_readDecimal_128 (Nat.le_of_ble_eq_true rfl) (lv' := [(0, .ref b), (1, .int (nI k)), (2, .int (nI t)), (3, .int (nI (tnB t (l0.getD pt 0)))), (4, .int 0), (5, .int (-64)), (6, .long (lN (q * 10 + (B - 1)))), (8, .int (nI m)), (9, .int (nI B))]) rfl ?_
                              refine a_iinc S (v := nI (m + 1)) d_Mod_readDecimal_130 rfl (ni_add rfl (by decide)) (Nat.le_of_ble_eq_true rfl) (lv' := [(0, .ref b), (1, .int (nI k)), (2, .int (nI t)), (3, .int (nI (tnB t (l0.getD pt 0)))), (4, .int 0), (5, .int (-64)), (6, .long (lN (q * 10 + (B - 1)))), (8, .int (nI (m + 1))), (9, .int (nI B))]) rfl ?_
                              refine a_aload_n S d_Mod_readDecimal_133 rfl rfl ?_
                              refine a_iload_n S d_Mod_readDecimal_134 rfl rfl ?_
                              refine a_callV S (rest := []) lg_Mod_145 h0 (c_Mod_next X.2.1 D b th fd sl ki fl va fo go si te kp ro ma sz en ms lw hw ls hz p2 false l0 t w118 n hl hby hA (by omega) ht ⟨h0, h1, h2, h3, h4, h5, h6, h7, h8, h9, h10, h11, h12, h13⟩) (by decide) (by omega) (by omega) rfl (Nat.le_of_ble_eq_true rfl) d_Mod_readDecimal_135 (fun v120 w121 n122 p123 => ?_)
                              rcases p123 with ⟨hq126, rfl, e125, f124, h0, h1, h2, h3, h4, h5, h6, h7, h8, h9, h10, h11, h12, h13⟩ | ⟨hq126, rfl, e125, f124, h0, h1, h2, h3, h4, h5, h6, h7, h8, h9, h10, h11, h12, h13⟩
                              · rw [e125]
                                refine a_st (st' := [.int (nI (tnB t (l0.getD p2 0)))]) rfl ?_
                                have hbhq126 := tnB_lt (t := t) (getD_lt hby p2)
                                have fr := fr.trans (Fr.sub f124 (by omega) (by omega))
                                refine a_iload S d_Mod_readDecimal_138 rfl ?_
                                refine a_ixor S d_Mod_readDecimal_140 ?_
                                refine a_eqi (y := nI (tnB t (l0.getD p2 0))) (xor_g0 _) ?_
                                refine a_istore S d_Mod_readDecimal_141 (Nat.le_of_ble_eq_true rfl) (lv' := [(0, .ref b), (1, .int (nI k)), (2, .int (nI t)), (3, .int (nI (tnB t (l0.getD pt 0)))), (4, .int 0), (5, .int (-64)), (6, .long (lN (q * 10 + (B - 1)))), (8, .int (nI (m + 1))), (9, .int (nI (tnB t (l0.getD p2 0))))]) rfl ?_
                                refine a_goto S (tgt := 81) d_Mod_readDecimal_143 rfl ?_
                                exact ih81 _ (by omega) (q * 10 + (B - 1)) (m + 1) (tnB t (l0.getD p2 0)) false (p2 + 1) w121 rfl (by omega) (by omega) (tnB_lt (getD_lt hby _)) fr ⟨h0, h1, h2, h3, h4, h5, h6, h7, h8, h9, h10, h11, h12, h13⟩ (hC.s hB0 hB10 hm16 hq126)
                              · rw [e125]
                                refine a_st (st' := [.int 0]) rfl ?_
                                have fr := fr.trans (Fr.sub f124 (by omega) (by omega))
                                refine a_iload S d_Mod_readDecimal_138 rfl ?_
                                refine a_ixor S d_Mod_readDecimal_140 ?_
                                refine a_eqi (y := 0) (by decide) ?_
                                refine a_istore S d_Mod_readDecimal_141 (Nat.le_of_ble_eq_true rfl) (lv' := [(0, .ref b), (1, .int (nI k)), (2, .int (nI t)), (3, .int (nI (tnB t (l0.getD pt 0)))), (4, .int 0), (5, .int (-64)), (6, .long (lN (q * 10 + (B - 1)))), (8, .int (nI (m + 1))), (9, .int 0)]) rfl ?_
                                refine a_goto S (tgt := 81) d_Mod_readDecimal_143 rfl ?_
                                exact ih81 _ (by omega) (q * 10 + (B - 1)) (m + 1) 0 true p2 w121 rfl (by omega) (by omega) (by decide) fr ⟨h0, h1, h2, h3, h4, h5, h6, h7, h8, h9, h10, h11, h12, h13⟩ (hC.se hB0 hB10 hm16 hq126)
                            · have hbig : 10 < B ∨ m = 16 := Or.inr ((nI_eq (by omega) (by decide)).mp h105)
                              refine a_iconst S (v := 1) d_Mod_readDecimal_108 (by decide) ?_
                              refine a_goto S (tgt := 113) d_Mod_readDecimal_109 rfl ?_
                              refine a_put S kc_Mod kt_Mod 22 (by decide) lf_Mod_142 rfl h0 rfl rfl (Nat.le_of_ble_eq_true rfl) d_Mod_readDecimal_113 (fun w127 h0 e128 => ?_)
                              have h0 : w127 b = some (.inr (6, [.int th, .int (nI fd), .int (if sl then 1 else 0), .ref (b + 1), .ref (b + 2), .ref (b + 3), .ref (b + 4), .ref (b + 5), .ref (b + 6), .ref (b + 7), .int (nI kp), .ref (b + 8), .int (nI l0.length), .ref (b + 9), .int (nI sz), .ref (b + 10), .ref (b + 11), .ref (b + 12), .ref (b + 13), .int (nI ls), .int hz, .int (nI p2), .int 1])) := h0
                              have fr := fr.trans (Fr.sub (Fr.of1 e128) (by omega) (by omega))
                              have h1 := Fr.cell (Fr.of1 e128) h1 (by omega)
                              have h2 := Fr.cell (Fr.of1 e128) h2 (by omega)
                              have h3 := Fr.cell (Fr.of1 e128) h3 (by omega)
                              have h4 := Fr.cell (Fr.of1 e128) h4 (by omega)
                              have h5 := Fr.cell (Fr.of1 e128) h5 (by omega)
                              have h6 := Fr.cell (Fr.of1 e128) h6 (by omega)
                              have h7 := Fr.cell (Fr.of1 e128) h7 (by omega)
                              have h8 := Fr.cell (Fr.of1 e128) h8 (by omega)
                              have h9 := Fr.cell (Fr.of1 e128) h9 (by omega)
                              have h10 := Fr.cell (Fr.of1 e128) h10 (by omega)
                              have h11 := Fr.cell (Fr.of1 e128) h11 (by omega)
                              have h12 := Fr.cell (Fr.of1 e128) h12 (by omega)
                              have h13 := Fr.cell (Fr.of1 e128) h13 (by omega)
                              refine a_lload S d_Mod_readDecimal_116 rfl ?_
                              refine a_ldc2 S (v := 10) lK_Mod_111 d_Mod_readDecimal_118 ?_
                              refine a_lmul S d_Mod_readDecimal_121 ?_
                              refine a_iload S d_Mod_readDecimal_122 rfl ?_
                              refine a_i2l S d_Mod_readDecimal_124 ?_
                              refine a_ladd S d_Mod_readDecimal_125 ?_
                              refine a_lconst S (v := 1) d_Mod_readDecimal_126 (by decide) ?_
                              refine a_lsub S d_Mod_readDecimal_127 ?_
                              refine a_eql (y := (lN (q * 10 + (B - 1)))) (l_dig hB0 hB) ?_
                              refine a_lstore S d_Mod_readDecimal_128 (Nat.le_of_ble_eq_true rfl) (lv' := [(0, .ref b), (1, .int (nI k)), (2, .int (nI t)), (3, .int (nI (tnB t (l0.getD pt 0)))), (4, .int 0), (5, .int (-64)), (6, .long (lN (q * 10 + (B - 1)))), (8, .int (nI m)), (9, .int (nI B))]) rfl ?_
                              refine a_iinc S (v := nI (m + 1)) d_Mod_readDecimal_130 rfl (ni_add rfl (by decide)) (Nat.le_of_ble_eq_true rfl) (lv' := [(0, .ref b), (1, .int (nI k)), (2, .int (nI t)), (3, .int (nI (tnB t (l0.getD pt 0)))), (4, .int 0), (5, .int (-64)), (6, .long (lN (q * 10 + (B - 1)))), (8, .int (nI (m + 1))), (9, .int (nI B))]) rfl ?_
                              refine a_aload_n S d_Mod_readDecimal_133 rfl rfl ?_
                              refine a_iload_n S d_Mod_readDecimal_134 rfl rfl ?_
                              refine a_callV S (rest := []) lg_Mod_145 h0 (c_Mod_next X.2.1 D b th fd sl ki fl va fo go si te kp ro ma sz en ms lw hw ls hz p2 true l0 t w127 n hl hby hA (by omega) ht ⟨h0, h1, h2, h3, h4, h5, h6, h7, h8, h9, h10, h11, h12, h13⟩) (by decide) (by omega) (by omega) rfl (Nat.le_of_ble_eq_true rfl) d_Mod_readDecimal_135 (fun v129 w130 n131 p132 => ?_)
                              rcases p132 with ⟨hq135, rfl, e134, f133, h0, h1, h2, h3, h4, h5, h6, h7, h8, h9, h10, h11, h12, h13⟩ | ⟨hq135, rfl, e134, f133, h0, h1, h2, h3, h4, h5, h6, h7, h8, h9, h10, h11, h12, h13⟩
                              · rw [e134]
                                refine a_st (st' := [.int (nI (tnB t (l0.getD p2 0)))]) rfl ?_
                                have hbhq135 := tnB_lt (t := t) (getD_lt hby p2)
                                have fr := fr.trans (Fr.sub f133 (by omega) (by omega))
                                refine a_iload S d_Mod_readDecimal_138 rfl ?_
                                refine a_ixor S d_Mod_readDecimal_140 ?_
                                refine a_eqi (y := nI (tnB t (l0.getD p2 0))) (xor_g0 _) ?_
                                refine a_istore S d_Mod_readDecimal_141 (Nat.le_of_ble_eq_true rfl) (lv' := [(0, .ref b), (1, .int (nI k)), (2, .int (nI t)), (3, .int (nI (tnB t (l0.getD pt 0)))), (4, .int 0), (5, .int (-64)), (6, .long (lN (q * 10 + (B - 1)))), (8, .int (nI (m + 1))), (9, .int (nI (tnB t (l0.getD p2 0))))]) rfl ?_
                                refine a_goto S (tgt := 81) d_Mod_readDecimal_143 rfl ?_
                                exact ih81 _ (by omega) (q * 10 + (B - 1)) (m + 1) (tnB t (l0.getD p2 0)) true (p2 + 1) w130 rfl (Or.inr ⟨rfl, by omega⟩) (by omega) (tnB_lt (getD_lt hby _)) fr ⟨h0, h1, h2, h3, h4, h5, h6, h7, h8, h9, h10, h11, h12, h13⟩ (hC.big hB0 hbig)
                              · rw [e134]
                                refine a_st (st' := [.int 0]) rfl ?_
                                have fr := fr.trans (Fr.sub f133 (by omega) (by omega))
                                refine a_iload S d_Mod_readDecimal_138 rfl ?_
                                refine a_ixor S d_Mod_readDecimal_140 ?_
                                refine a_eqi (y := 0) (by decide) ?_
                                refine a_istore S d_Mod_readDecimal_141 (Nat.le_of_ble_eq_true rfl) (lv' := [(0, .ref b), (1, .int (nI k)), (2, .int (nI t)), (3, .int (nI (tnB t (l0.getD pt 0)))), (4, .int 0), (5, .int (-64)), (6, .long (lN (q * 10 + (B - 1)))), (8, .int (nI (m + 1))), (9, .int 0)]) rfl ?_
                                refine a_goto S (tgt := 81) d_Mod_readDecimal_143 rfl ?_
                                exact ih81 _ (by omega) (q * 10 + (B - 1)) (m + 1) 0 true p2 w130 rfl (Or.inr ⟨rfl, by omega⟩) (by omega) (by decide) fr ⟨h0, h1, h2, h3, h4, h5, h6, h7, h8, h9, h10, h11, h12, h13⟩ (hC.big hB0 hbig)
                  exact loop81 _ 0 0 0 true (pt + 1) w95 rfl (Or.inl (Nat.zero_le _)) (by omega) (by decide) fr ⟨h0, h1, h2, h3, h4, h5, h6, h7, h8, h9, h10, h11, h12, h13⟩ (RDc.f1 hq7 (Or.inr ⟨hy3, rfl, rfl⟩) hq16)
            · have hy3 : ¬ tnB t (l0.getD pt 0) = 3 := fun z => h41 (by rw [z]; rfl)
              refine a_iconst S (v := 1) d_Mod_readDecimal_44 (by decide) ?_
              refine a_goto S (tgt := 49) d_Mod_readDecimal_45 rfl ?_
              refine a_put S kc_Mod kt_Mod 22 (by decide) lf_Mod_142 rfl h0 rfl rfl (Nat.le_of_ble_eq_true rfl) d_Mod_readDecimal_49 (fun w136 h0 e137 => ?_)
              have h0 : w136 b = some (.inr (6, [.int th, .int (nI fd), .int (if sl then 1 else 0), .ref (b + 1), .ref (b + 2), .ref (b + 3), .ref (b + 4), .ref (b + 5), .ref (b + 6), .ref (b + 7), .int (nI kp), .ref (b + 8), .int (nI l0.length), .ref (b + 9), .int (nI sz), .ref (b + 10), .ref (b + 11), .ref (b + 12), .ref (b + 13), .int (nI ls), .int hz, .int (nI (pt + 1)), .int 1])) := h0
              have fr := fr.trans (Fr.sub (Fr.of1 e137) (by omega) (by omega))
              have h1 := Fr.cell (Fr.of1 e137) h1 (by omega)
              have h2 := Fr.cell (Fr.of1 e137) h2 (by omega)
              have h3 := Fr.cell (Fr.of1 e137) h3 (by omega)
              have h4 := Fr.cell (Fr.of1 e137) h4 (by omega)
              have h5 := Fr.cell (Fr.of1 e137) h5 (by omega)
              have h6 := Fr.cell (Fr.of1 e137) h6 (by omega)
              have h7 := Fr.cell (Fr.of1 e137) h7 (by omega)
              have h8 := Fr.cell (Fr.of1 e137) h8 (by omega)
              have h9 := Fr.cell (Fr.of1 e137) h9 (by omega)
              have h10 := Fr.cell (Fr.of1 e137) h10 (by omega)
              have h11 := Fr.cell (Fr.of1 e137) h11 (by omega)
              have h12 := Fr.cell (Fr.of1 e137) h12 (by omega)
              have h13 := Fr.cell (Fr.of1 e137) h13 (by omega)
              refine a_aload_n S d_Mod_readDecimal_52 rfl rfl ?_
              refine a_iload_n S d_Mod_readDecimal_53 rfl rfl ?_
              refine a_callV S (rest := []) lg_Mod_145 h0 (c_Mod_next X.2.1 D b th fd sl ki fl va fo go si te kp ro ma sz en ms lw hw ls hz (pt + 1) true l0 t w136 n hl hby hA (by omega) ht ⟨h0, h1, h2, h3, h4, h5, h6, h7, h8, h9, h10, h11, h12, h13⟩) (by decide) (by omega) (by omega) rfl (Nat.le_of_ble_eq_true rfl) d_Mod_readDecimal_54 (fun v138 w139 n140 p141 => ?_)
              rcases p141 with ⟨hq144, rfl, e143, f142, h0, h1, h2, h3, h4, h5, h6, h7, h8, h9, h10, h11, h12, h13⟩ | ⟨hq144, rfl, e143, f142, h0, h1, h2, h3, h4, h5, h6, h7, h8, h9, h10, h11, h12, h13⟩
              · rw [e143]
                refine a_st (st' := [.int (nI (tnB t (l0.getD (pt + 1) 0)))]) rfl ?_
                have hbhq144 := tnB_lt (t := t) (getD_lt hby (pt + 1))
                have fr := fr.trans (Fr.sub f142 (by omega) (by omega))
                refine a_iload S d_Mod_readDecimal_57 rfl ?_
                refine a_ixor S d_Mod_readDecimal_59 ?_
                refine a_eqi (y := nI (tnB t (l0.getD (pt + 1) 0))) (xor_g0 _) ?_
                refine a_bipush S (v := 64) d_Mod_readDecimal_60 (by decide) ?_
                refine a_isub S d_Mod_readDecimal_62 ?_
                refine a_istore S d_Mod_readDecimal_63 (Nat.le_of_ble_eq_true rfl) (lv' := [(0, .ref b), (1, .int (nI k)), (2, .int (nI t)), (3, .int (nI (tnB t (l0.getD pt 0)))), (4, .int 0), (5, .int (nI (tnB t (l0.getD (pt + 1) 0)) - 64))]) rfl ?_
                refine a_lconst S (v := 0) d_Mod_readDecimal_65 (by decide) ?_
                refine a_lstore S d_Mod_readDecimal_66 (Nat.le_of_ble_eq_true rfl) (lv' := [(0, .ref b), (1, .int (nI k)), (2, .int (nI t)), (3, .int (nI (tnB t (l0.getD pt 0)))), (4, .int 0), (5, .int (nI (tnB t (l0.getD (pt + 1) 0)) - 64)), (6, .long 0)]) rfl ?_
                refine a_iconst S (v := 0) d_Mod_readDecimal_68 (by decide) ?_
                refine a_istore S d_Mod_readDecimal_69 (Nat.le_of_ble_eq_true rfl) (lv' := [(0, .ref b), (1, .int (nI k)), (2, .int (nI t)), (3, .int (nI (tnB t (l0.getD pt 0)))), (4, .int 0), (5, .int (nI (tnB t (l0.getD (pt + 1) 0)) - 64)), (6, .long 0), (8, .int 0)]) rfl ?_
                refine a_aload_n S d_Mod_readDecimal_71 rfl rfl ?_
                refine a_iload_n S d_Mod_readDecimal_72 rfl rfl ?_
                refine a_callV S (rest := []) lg_Mod_145 h0 (c_Mod_next X.2.1 D b th fd sl ki fl va fo go si te kp ro ma sz en ms lw hw ls hz (pt + 1 + 1) true l0 t w139 n hl hby hA (by omega) ht ⟨h0, h1, h2, h3, h4, h5, h6, h7, h8, h9, h10, h11, h12, h13⟩) (by decide) (by omega) (by omega) rfl (Nat.le_of_ble_eq_true rfl) d_Mod_readDecimal_73 (fun v145 w146 n147 p148 => ?_)
                rcases p148 with ⟨hq151, rfl, e150, f149, h0, h1, h2, h3, h4, h5, h6, h7, h8, h9, h10, h11, h12, h13⟩ | ⟨hq151, rfl, e150, f149, h0, h1, h2, h3, h4, h5, h6, h7, h8, h9, h10, h11, h12, h13⟩
                · rw [e150]
                  refine a_st (st' := [.int (nI (tnB t (l0.getD (pt + 1 + 1) 0)))]) rfl ?_
                  have hbhq151 := tnB_lt (t := t) (getD_lt hby (pt + 1 + 1))
                  have fr := fr.trans (Fr.sub f149 (by omega) (by omega))
                  refine a_iload S d_Mod_readDecimal_76 rfl ?_
                  refine a_ixor S d_Mod_readDecimal_78 ?_
                  refine a_eqi (y := nI (tnB t (l0.getD (pt + 1 + 1) 0))) (xor_g0 _) ?_
                  refine a_istore S d_Mod_readDecimal_79 (Nat.le_of_ble_eq_true rfl) (lv' := [(0, .ref b), (1, .int (nI k)), (2, .int (nI t)), (3, .int (nI (tnB t (l0.getD pt 0)))), (4, .int 0), (5, .int (nI (tnB t (l0.getD (pt + 1) 0)) - 64)), (6, .long 0), (8, .int 0), (9, .int (nI (tnB t (l0.getD (pt + 1 + 1) 0))))]) rfl ?_
                  have loop81 : ∀ (kk81 : Nat) (q m B : Nat) (b1 : Bool) (p2 : Nat) (w1 : ww), 17 - m = kk81 → (m ≤ 16 ∨ (b1 = true ∧ m ≤ 17)) → (p2 ≤ l0.length) → (B < 256) → (Fr w w1 b 14) → (Mo D w1 b th fd sl ki fl va fo go si te kp ro l0.length ma sz en ms lw hw ls hz p2 b1) → (RDc t l0 pt t 1 (nI (tnB t (l0.getD (pt + 1) 0)) - 64) p2 q m B b1) → AW X (D, A, 10, Q) 81 [(0, .ref b), (1, .int (nI k)), (2, .int (nI t)), (3, .int (nI (tnB t (l0.getD pt 0)))), (4, .int 0), (5, .int (nI (tnB t (l0.getD (pt + 1) 0)) - 64)), (6, .long (lN q)), (8, .int (nI m)), (9, .int (nI B))] [] w1 n (((0 + 0) + 0) + 0) (((0 + 0) + 0) + 0) := by
                    intro kk81
                    induction kk81 using Nat.strongRecOn with
                    | ind kk81 ih81 =>
                      intro q m B b1 p2 w1 hk81 hm hp2 hB fr h hC
                      obtain ⟨h0, h1, h2, h3, h4, h5, h6, h7, h8, h9, h10, h11, h12, h13⟩ := h
                      refine a_iload S d_Mod_readDecimal_81 rfl ?_
                      refine a_if_eq S (tgt := 146) d_Mod_readDecimal_83 rfl (fun h83 => ?_) (fun h83 => ?_)
                      · have hx : B = 0 ∨ b1 = true := Or.inl ((nI_eq (by omega) (by decide)).mp h83)
                        refine a_aload_n S d_Mod_readDecimal_146 rfl rfl ?_
                        refine a_get S kc_Mod 5 (by decide) lf_Mod_16 h0 rfl d_Mod_readDecimal_147 ?_
                        refine a_iload_n S d_Mod_readDecimal_150 rfl rfl ?_
                        refine a_iload S d_Mod_readDecimal_151 rfl ?_
                        refine a_sipush S (v := 255) d_Mod_readDecimal_153 (by decide) ?_
                        refine a_icmp_ne S (tgt := 166) d_Mod_readDecimal_156 rfl (fun h156 => ?_) (fun h156 => ?_)
                        · refine a_lload S d_Mod_readDecimal_166 rfl ?_
                          refine a_last S (i := k) h3 rfl (by omega) (by decide) d_Mod_readDecimal_168 (fun w152 h3 e153 => ?_)
                          have fr := fr.trans (Fr.sub (Fr.of1 e153) (by omega) (by omega))
                          have h0 := Fr.cell (Fr.of1 e153) h0 (by omega)
                          have h1 := Fr.cell (Fr.of1 e153) h1 (by omega)
                          have h2 := Fr.cell (Fr.of1 e153) h2 (by omega)
                          have h4 := Fr.cell (Fr.of1 e153) h4 (by omega)
                          have h5 := Fr.cell (Fr.of1 e153) h5 (by omega)
                          have h6 := Fr.cell (Fr.of1 e153) h6 (by omega)
                          have h7 := Fr.cell (Fr.of1 e153) h7 (by omega)
                          have h8 := Fr.cell (Fr.of1 e153) h8 (by omega)
                          have h9 := Fr.cell (Fr.of1 e153) h9 (by omega)
                          have h10 := Fr.cell (Fr.of1 e153) h10 (by omega)
                          have h11 := Fr.cell (Fr.of1 e153) h11 (by omega)
                          have h12 := Fr.cell (Fr.of1 e153) h12 (by omega)
                          have h13 := Fr.cell (Fr.of1 e153) h13 (by omega)
                          refine a_aload_n S d_Mod_readDecimal_169 rfl rfl ?_
                          refine a_get S kc_Mod 6 (by decide) lf_Mod_20 h0 rfl d_Mod_readDecimal_170 ?_
                          refine a_iload_n S d_Mod_readDecimal_173 rfl rfl ?_
                          refine a_iload S d_Mod_readDecimal_174 rfl ?_
                          refine a_iload S d_Mod_readDecimal_176 rfl ?_
                          refine a_isub S d_Mod_readDecimal_178 ?_
                          refine a_iast S (i := k) h4 rfl (by omega) (by decide) d_Mod_readDecimal_179 (fun w154 h4 e155 => ?_)
                          have fr := fr.trans (Fr.sub (Fr.of1 e155) (by omega) (by omega))
                          have h0 := Fr.cell (Fr.of1 e155) h0 (by omega)
                          have h1 := Fr.cell (Fr.of1 e155) h1 (by omega)
                          have h2 := Fr.cell (Fr.of1 e155) h2 (by omega)
                          have h3 := Fr.cell (Fr.of1 e155) h3 (by omega)
                          have h5 := Fr.cell (Fr.of1 e155) h5 (by omega)
                          have h6 := Fr.cell (Fr.of1 e155) h6 (by omega)
                          have h7 := Fr.cell (Fr.of1 e155) h7 (by omega)
                          have h8 := Fr.cell (Fr.of1 e155) h8 (by omega)
                          have h9 := Fr.cell (Fr.of1 e155) h9 (by omega)
                          have h10 := Fr.cell (Fr.of1 e155) h10 (by omega)
                          have h11 := Fr.cell (Fr.of1 e155) h11 (by omega)
                          have h12 := Fr.cell (Fr.of1 e155) h12 (by omega)
                          have h13 := Fr.cell (Fr.of1 e155) h13 (by omega)
                          exact RT _ _ _ _ _ _ d_Mod_readDecimal_180 (by omega) (by omega) ⟨_, _, _, _, p2, b1, rfl, rfl, fr, ⟨h0, h1, h2, h3, h4, h5, h6, h7, h8, h9, h10, h11, h12, h13⟩, hp2, DX.up, (fun d0 e0 rest g => have z := hC.e hx d0 e0 rest g; ⟨z.1, by rw [← z.2.1, (sg_p (lN q))], z.2.2.1, z.2.2.2⟩)⟩
                        · exact absurd h156 (by decide)
                      · have hB0 : ¬ B = 0 := fun z => h83 (by rw [z]; rfl)
                        refine a_aload_n S d_Mod_readDecimal_86 rfl rfl ?_
                        refine a_get S kc_Mod 22 (by decide) lf_Mod_142 h0 rfl d_Mod_readDecimal_87 ?_
                        refine a_if_ne S (tgt := 146) d_Mod_readDecimal_90 rfl (fun h90 => ?_) (fun h90 => ?_)
                        · have hx : B = 0 ∨ b1 = true := Or.inr (bo_1 h90)
                          refine a_aload_n S d_Mod_readDecimal_146 rfl rfl ?_
                          refine a_get S kc_Mod 5 (by decide) lf_Mod_16 h0 rfl d_Mod_readDecimal_147 ?_
                          refine a_iload_n S d_Mod_readDecimal_150 rfl rfl ?_
                          refine a_iload S d_Mod_readDecimal_151 rfl ?_
                          refine a_sipush S (v := 255) d_Mod_readDecimal_153 (by decide) ?_
                          refine a_icmp_ne S (tgt := 166) d_Mod_readDecimal_156 rfl (fun h156 => ?_) (fun h156 => ?_)
                          · refine a_lload S d_Mod_readDecimal_166 rfl ?_
                            refine a_last S (i := k) h3 rfl (by omega) (by decide) d_Mod_readDecimal_168 (fun w156 h3 e157 => ?_)
                            have fr := fr.trans (Fr.sub (Fr.of1 e157) (by omega) (by omega))
                            have h0 := Fr.cell (Fr.of1 e157) h0 (by omega)
                            have h1 := Fr.cell (Fr.of1 e157) h1 (by omega)
                            have h2 := Fr.cell (Fr.of1 e157) h2 (by omega)
                            have h4 := Fr.cell (Fr.of1 e157) h4 (by omega)
                            have h5 := Fr.cell (Fr.of1 e157) h5 (by omega)
                            have h6 := Fr.cell (Fr.of1 e157) h6 (by omega)
                            have h7 := Fr.cell (Fr.of1 e157) h7 (by omega)
                            have h8 := Fr.cell (Fr.of1 e157) h8 (by omega)
                            have h9 := Fr.cell (Fr.of1 e157) h9 (by omega)
                            have h10 := Fr.cell (Fr.of1 e157) h10 (by omega)
                            have h11 := Fr.cell (Fr.of1 e157) h11 (by omega)
                            have h12 := Fr.cell (Fr.of1 e157) h12 (by omega)
                            have h13 := Fr.cell (Fr.of1 e157) h13 (by omega)
                            refine a_aload_n S d_Mod_readDecimal_169 rfl rfl ?_
                            refine a_get S kc_Mod 6 (by decide) lf_Mod_20 h0 rfl d_Mod_readDecimal_170 ?_
                            refine a_iload_n S d_Mod_readDecimal_173 rfl rfl ?_
                            refine a_iload S d_Mod_readDecimal_174 rfl ?_
                            refine a_iload S d_Mod_readDecimal_176 rfl ?_
                            refine a_isub S d_Mod_readDecimal_178 ?_
                            refine a_iast S (i := k) h4 rfl (by omega) (by decide) d_Mod_readDecimal_179 (fun w158 h4 e159 => ?_)
                            have fr := fr.trans (Fr.sub (Fr.of1 e159) (by omega) (by omega))
                            have h0 := Fr.cell (Fr.of1 e159) h0 (by omega)
                            have h1 := Fr.cell (Fr.of1 e159) h1 (by omega)
                            have h2 := Fr.cell (Fr.of1 e159) h2 (by omega)
                            have h3 := Fr.cell (Fr.of1 e159) h3 (by omega)
                            have h5 := Fr.cell (Fr.of1 e159) h5 (by omega)
                            have h6 := Fr.cell (Fr.of1 e159) h6 (by omega)
                            have h7 := Fr.cell (Fr.of1 e159) h7 (by omega)
                            have h8 := Fr.cell (Fr.of1 e159) h8 (by omega)
                            have h9 := Fr.cell (Fr.of1 e159) h9 (by omega)
                            have h10 := Fr.cell (Fr.of1 e159) h10 (by omega)
                            have h11 := Fr.cell (Fr.of1 e159) h11 (by omega)
                            have h12 := Fr.cell (Fr.of1 e159) h12 (by omega)
                            have h13 := Fr.cell (Fr.of1 e159) h13 (by omega)
                            exact RT _ _ _ _ _ _ d_Mod_readDecimal_180 (by omega) (by omega) ⟨_, _, _, _, p2, b1, rfl, rfl, fr, ⟨h0, h1, h2, h3, h4, h5, h6, h7, h8, h9, h10, h11, h12, h13⟩, hp2, DX.up, (fun d0 e0 rest g => have z := hC.e hx d0 e0 rest g; ⟨z.1, by rw [← z.2.1, (sg_p (lN q))], z.2.2.1, z.2.2.2⟩)⟩
                          · exact absurd h156 (by decide)
                        · obtain rfl : b1 = false := bo_0 h90
                          have hm2 : m ≤ 16 := hm.elim id (fun z => by cases z.1)
                          refine a_aload_n S d_Mod_readDecimal_93 rfl rfl ?_
                          refine a_iload S d_Mod_readDecimal_94 rfl ?_
                          refine a_bipush S (v := 10) d_Mod_readDecimal_96 (by decide) ?_
                          refine a_icmp_gt S (tgt := 108) d_Mod_readDecimal_98 rfl (fun h98 => ?_) (fun h98 => ?_)
                          · have hbig : 10 < B ∨ m = 16 := Or.inl ((nI_ltI (by decide) (by omega)).mp h98)
                            refine a_iconst S (v := 1) d_Mod_readDecimal_108 (by decide) ?_
                            refine a_goto S (tgt := 113) d_Mod_readDecimal_109 rfl ?_
                            refine a_put S kc_Mod kt_Mod 22 (by decide) lf_Mod_142 rfl h0 rfl rfl (Nat.le_of_ble_eq_true rfl) d_Mod_readDecimal_113 (fun w160 h0 e161 => ?_)
                            have h0 : w160 b = some (.inr (6, [.int th, .int (nI fd), .int (if sl then 1 else 0), .ref (b + 1), .ref (b + 2), .ref (b + 3), .ref (b + 4), .ref (b + 5), .ref (b + 6), .ref (b + 7), .int (nI kp), .ref (b + 8), .int (nI l0.length), .ref (b + 9), .int (nI sz), .ref (b + 10), .ref (b + 11), .ref (b + 12), .ref (b + 13), .int (nI ls), .int hz, .int (nI p2), .int 1])) := h0
                            have fr := fr.trans (Fr.sub (Fr.of1 e161) (by omega) (by omega))
                            have h1 := Fr.cell (Fr.of1 e161) h1 (by omega)
                            have h2 := Fr.cell (Fr.of1 e161) h2 (by omega)
                            have h3 := Fr.cell (Fr.of1 e161) h3 (by omega)
                            have h4 := Fr.cell (Fr.of1 e161) h4 (by omega)
                            have h5 := Fr.cell (Fr.of1 e161) h5 (by omega)
                            have h6 := Fr.cell (Fr.of1 e161) h6 (by omega)
                            have h7 := Fr.cell (Fr.of1 e161) h7 (by omega)
                            have h8 := Fr.cell (Fr.of1 e161) h8 (by omega)
                            have h9 := Fr.cell (Fr.of1 e161) h9 (by omega)
                            have h10 := Fr.cell (Fr.of1 e161) h10 (by omega)
                            have h11 := Fr.cell (Fr.of1 e161) h11 (by omega)
                            have h12 := Fr.cell (Fr.of1 e161) h12 (by omega)
                            have h13 := Fr.cell (Fr.of1 e161) h13 (by omega)
                            refine a_lload S d_Mod_readDecimal_116 rfl ?_
                            refine a_ldc2 S (v := 10) lK_Mod_111 d_Mod_readDecimal_118 ?_
                            refine a_lmul S d_Mod_readDecimal_121 ?_
                            refine a_iload S d_Mod_readDecimal_122 rfl ?_
                            refine a_i2l S d_Mod_readDecimal_124 ?_
                            refine a_ladd S d_Mod_readDecimal_125 ?_
                            refine a_lconst S (v := 1) d_Mod_readDecimal_126 (by decide) ?_
                            refine a_lsub S d_Mod_readDecimal_127 ?_
                            refine a_eql (y := (lN (q * 10 + (B - 1)))) (l_dig hB0 hB) ?_
                            refine a_lstore S d_Mod_readDecimal_128 (Nat.le_of_ble_eq_true rfl) (lv' := [(0, .ref b), (1, .int (nI k)), (2, .int (nI t)), (3, .int (nI (tnB t (l0.getD pt 0)))), (4, .int 0), (5, .int (nI (tnB t (l0.getD (pt + 1) 0)) - 64)), (6, .long (lN (q * 10 + (B - 1)))), (8, .int (nI m)), (9, .int (nI B))]) rfl ?_
                            refine a_iinc S (v := nI (m + 1)) d_Mod_readDecimal_130 rfl (ni_add rfl (by decide)) (Nat.le_of_ble_eq_true rfl) (lv' := [(0, .ref b), (1, .int (nI k)), (2, .int (nI t)), (3, .int (nI (tnB t (l0.getD pt 0)))), (4, .int 0), (5, .int (nI (tnB t (l0.getD (pt + 1) 0)) - 64)), (6, .long (lN (q * 10 + (B - 1)))), (8, .int (nI (m + 1))), (9, .int (nI B))]) rfl ?_
                            refine a_aload_n S d_Mod_readDecimal_133 rfl rfl ?_
                            refine a_iload_n S d_Mod_readDecimal_134 rfl rfl ?_
                            refine a_callV S (rest := []) lg_Mod_145 h0 (c_Mod_next X.2.1 D b th fd sl ki fl va fo go si te kp ro ma sz en ms lw hw ls hz p2 true l0 t w160 n hl hby hA (by omega) ht ⟨h0, h1, h2, h3, h4, h5, h6, h7, h8, h9, h10, h11, h12, h13⟩) (by decide) (by omega) (by omega) rfl (Nat.le_of_ble_eq_true rfl) d_Mod_readDecimal_135 (fun v162 w163 n164 p165 => ?_)
                            rcases p165 with ⟨hq168, rfl, e167, f166, h0, h1, h2, h3, h4, h5, h6, h7, h8, h9, h10, h11, h12, h13⟩ | ⟨hq168, rfl, e167, f166, h0, h1, h2, h3, h4, h5, h6, h7, h8, h9, h10, h11, h12, h13⟩
                            · rw [e167]
                              refine a_st (st' := [.int (nI (tnB t (l0.getD p2 0)))]) rfl ?_
                              have hbhq168 := tnB_lt (t := t) (getD_lt hby p2)
                              have fr := fr.trans (Fr.sub f166 (by omega) (by omega))
                              refine a_iload S d_Mod_readDecimal_138 rfl ?_
                              refine a_ixor S d_Mod_readDecimal_140 ?_
                              refine a_eqi (y := nI (tnB t (l0.getD p2 0))) (xor_g0 _) ?_
                              refine a_istore S d_Mod_readDecimal_141 (Nat.le_of_ble_eq_true rfl) (lv' := [(0, .ref b), (1, .int (nI k)), (2, .int (nI t)), (3, .int (nI (tnB t (l0.getD pt 0)))), (4, .int 0), (5, .int (nI (tnB t (l0.getD (pt + 1) 0)) - 64)), (6, .long (lN (q * 10 + (B - 1)))), (8, .int (nI (m + 1))), (9, .int (nI (tnB t (l0.getD p2 0))))]) rfl ?_
                              refine a_goto S (tgt := 81) d_Mod_readDecimal_143 rfl ?_
                              exact ih81 _ (by omega) (q * 10 + (B - 1)) (m + 1) (tnB t (l0.getD p2 0)) true (p2 + 1) w163 rfl (Or.inr ⟨rfl, by omega⟩) (by omega) (tnB_lt (getD_lt hby _)) fr ⟨h0, h1, h2, h3, h4, h5, h6, h7, h8, h9, h10, h11, h12, h13⟩ (hC.big hB0 hbig)
                            · rw [e167]
                              refine a_st (st' := [.int 0]) rfl ?_
                              have fr := fr.trans (Fr.sub f166 (by omega) (by omega))
                              refine a_iload S d_Mod_readDecimal_138 rfl ?_
                              refine a_ixor S d_Mod_readDecimal_140 ?_
                              refine a_eqi (y := 0) (by decide) ?_
                              refine a_istore S d_Mod_readDecimal_141 (Nat.le_of_ble_eq_true rfl) (lv' := [(0, .ref b), (1, .int (nI k)), (2, .int (nI t)), (3, .int (nI (tnB t (l0.getD pt 0)))), (4, .int 0), (5, .int (nI (tnB t (l0.getD (pt + 1) 0)) - 64)), (6, .long (lN (q * 10 + (B - 1)))), (8, .int (nI (m + 1))), (9, .int 0)]) rfl ?_
                              refine a_goto S (tgt := 81) d_Mod_readDecimal_143 rfl ?_
                              exact ih81 _ (by omega) (q * 10 + (B - 1)) (m + 1) 0 true p2 w163 rfl (Or.inr ⟨rfl, by omega⟩) (by omega) (by decide) fr ⟨h0, h1, h2, h3, h4, h5, h6, h7, h8, h9, h10, h11, h12, h13⟩ (hC.big hB0 hbig)
                          · have hB10 : ¬ 10 < B := fun z => h98 ((nI_ltI (by decide) (by omega)).mpr z)
                            refine a_iload S d_Mod_readDecimal_101 rfl ?_
                            refine a_bipush S (v := 16) d_Mod_readDecimal_103 (by decide) ?_
                            refine a_icmp_ne S (tgt := 112) d_Mod_readDecimal_105 rfl (fun h105 => ?_) (fun h105 => ?_)
                            · have hm16 : ¬ m = 16 := fun z => h105 (by rw [z]; rfl)
                              refine a_iconst S (v := 0) d_Mod_readDecimal_112 (by decide) ?_
                              refine a_put S kc_Mod kt_Mod 22 (by decide) lf_Mod_142 rfl h0 rfl rfl (Nat.le_of_ble_eq_true rfl) d_Mod_readDecimal_113 (fun w169 h0 e170 => ?_)
                              have h0 : w169 b = some (.inr (6, [.int th, .int (nI fd), .int (if sl then 1 else 0), .ref (b + 1), .ref (b + 2), .ref (b + 3), .ref (b + 4), .ref (b + 5), .ref (b + 6), .ref (b + 7), .int (nI kp), .ref (b + 8), .int (nI l0.length), .ref (b + 9), .int (nI sz), .ref (b + 10), .ref (b + 11), .ref (b + 12), .ref (b + 13), .int (nI ls), .int hz, .int (nI p2), .int 0])) := h0
                              have fr := fr.trans (Fr.sub (Fr.of1 e170) (by omega) (by omega))
                              have h1 := Fr.cell (Fr.of1 e170) h1 (by omega)
                              have h2 := Fr.cell (Fr.of1 e170) h2 (by omega)
                              have h3 := Fr.cell (Fr.of1 e170) h3 (by omega)
                              have h4 := Fr.cell (Fr.of1 e170) h4 (by omega)
                              have h5 := Fr.cell (Fr.of1 e170) h5 (by omega)
                              have h6 := Fr.cell (Fr.of1 e170) h6 (by omega)
                              have h7 := Fr.cell (Fr.of1 e170) h7 (by omega)
                              have h8 := Fr.cell (Fr.of1 e170) h8 (by omega)
                              have h9 := Fr.cell (Fr.of1 e170) h9 (by omega)
                              have h10 := Fr.cell (Fr.of1 e170) h10 (by omega)
                              have h11 := Fr.cell (Fr.of1 e170) h11 (by omega)
                              have h12 := Fr.cell (Fr.of1 e170) h12 (by omega)
                              have h13 := Fr.cell (Fr.of1 e170) h13 (by omega)
                              refine a_lload S d_Mod_readDecimal_116 rfl ?_
                              refine a_ldc2 S (v := 10) lK_Mod_111 d_Mod_readDecimal_118 ?_
                              refine a_lmul S d_Mod_readDecimal_121 ?_
                              refine a_iload S d_Mod_readDecimal_122 rfl ?_
                              refine a_i2l S d_Mod_readDecimal_124 ?_
                              refine a_ladd S d_Mod_readDecimal_125 ?_
                              refine a_lconst S (v := 1) d_Mod_readDecimal_126 (by decide) ?_
                              refine a_lsub S d_Mod_readDecimal_127 ?_
                              refine a_eql (y := (lN (q * 10 + (B - 1)))) (l_dig hB0 hB) ?_
                              refine a_lstore S d_Mod_readDecimal_128 (Nat.le_of_ble_eq_true rfl) (lv' := [(0, .ref b), (1, .int (nI k)), (2, .int (nI t)), (3, .int (nI (tnB t (l0.getD pt 0)))), (4, .int 0), (5, .int (nI (tnB t (l0.getD (pt + 1) 0)) - 64)), (6, .long (lN (q * 10 + (B - 1)))), (8, .int (nI m)), (9, .int (nI B))]) rfl ?_
                              refine a_iinc S (v := nI (m + 1)) d_Mod_readDecimal_130 rfl (ni_add rfl (by decide)) (Nat.le_of_ble_eq_true rfl) (lv' := [(0, .ref b), (1, .int (nI k)), (2, .int (nI t)), (3, .int (nI (tnB t (l0.getD pt 0)))), (4, .int 0), (5, .int (nI (tnB t (l0.getD (pt + 1) 0)) - 64)), (6, .long (lN (q * 10 + (B - 1)))), (8, .int (nI (m + 1))), (9, .int (nI B))]) rfl ?_
                              refine a_aload_n S d_Mod_readDecimal_133 rfl rfl ?_
                              refine a_iload_n S d_Mod_readDecimal_134 rfl rfl ?_
                              refine a_callV S (rest := []) lg_Mod_145 h0 (c_Mod_next X.2.1 D b th fd sl ki fl va fo go si te kp ro ma sz en ms lw hw ls hz p2 false l0 t w169 n hl hby hA (by omega) ht ⟨h0, h1, h2, h3, h4, h5, h6, h7, h8, h9, h10, h11, h12, h13⟩) (by decide) (by omega) (by omega) rfl (Nat.le_of_ble_eq_true rfl) d_Mod_readDecimal_135 (fun v171 w172 n173 p174 => ?_)
                              rcases p174 with ⟨hq177, rfl, e176, f175, h0, h1, h2, h3, h4, h5, h6, h7, h8, h9, h10, h11, h12, h13⟩ | ⟨hq177, rfl, e176, f175, h0, h1, h2, h3, h4, h5, h6, h7, h8, h9, h10, h11, h12, h13⟩
                              · rw [e176]
                                refine a_st (st' := [.int (nI (tnB t (l0.getD p2 0)))]) rfl ?_
                                have hbhq177 := tnB_lt (t := t) (getD_lt hby p2)
                                have fr := fr.trans (Fr.sub f175 (by omega) (by omega))
                                refine a_iload S d_Mod_readDecimal_138 rfl ?_
                                refine a_ixor S d_Mod_readDecimal_140 ?_
                                refine a_eqi (y := nI (tnB t (l0.getD p2 0))) (xor_g0 _) ?_
                                refine a_istore S d_Mod_readDecimal_141 (Nat.le_of_ble_eq_true rfl) (lv' := [(0, .ref b), (1, .int (nI k)), (2, .int (nI t)), (3, .int (nI (tnB t (l0.getD pt 0)))), (4, .int 0), (5, .int (nI (tnB t (l0.getD (pt + 1) 0)) - 64)), (6, .long (lN (q * 10 + (B - 1)))), (8, .int (nI (m + 1))), (9, .int (nI (tnB t (l0.getD p2 0))))]) rfl ?_
                                refine a_goto S (tgt := 81) d_Mod_readDecimal_143 rfl ?_
                                exact ih81 _ (by omega) (q * 10 + (B - 1)) (m + 1) (tnB t (l0.getD p2 0)) false (p2 + 1) w172 rfl (by omega) (by omega) (tnB_lt (getD_lt hby _)) fr ⟨h0, h1, h2, h3, h4, h5, h6, h7, h8, h9, h10, h11, h12, h13⟩ (hC.s hB0 hB10 hm16 hq177)
                              · rw [e176]
                                refine a_st (st' := [.int 0]) rfl ?_
                                have fr := fr.trans (Fr.sub f175 (by omega) (by omega))
                                refine a_iload S d_Mod_readDecimal_138 rfl ?_
                                refine a_ixor S d_Mod_readDecimal_140 ?_
                                refine a_eqi (y := 0) (by decide) ?_
                                refine a_istore S d_Mod_readDecimal_141 (Nat.le_of_ble_eq_true rfl) (lv' := [(0, .ref b), (1, .int (nI k)), (2, .int (nI t)), (3, .int (nI (tnB t (l0.getD pt 0)))), (4, .int 0), (5, .int (nI (tnB t (l0.getD (pt + 1) 0)) - 64)), (6, .long (lN (q * 10 + (B - 1)))), (8, .int (nI (m + 1))), (9, .int 0)]) rfl ?_
                                refine a_goto S (tgt := 81) d_Mod_readDecimal_143 rfl ?_
                                exact ih81 _ (by omega) (q * 10 + (B - 1)) (m + 1) 0 true p2 w172 rfl (by omega) (by omega) (by decide) fr ⟨h0, h1, h2, h3, h4, h5, h6, h7, h8, h9, h10, h11, h12, h13⟩ (hC.se hB0 hB10 hm16 hq177)
                            · have hbig : 10 < B ∨ m = 16 := Or.inr ((nI_eq (by omega) (by decide)).mp h105)
                              refine a_iconst S (v := 1) d_Mod_readDecimal_108 (by decide) ?_
                              refine a_goto S (tgt := 113) d_Mod_readDecimal_109 rfl ?_
                              refine a_put S kc_Mod kt_Mod 22 (by decide) lf_Mod_142 rfl h0 rfl rfl (Nat.le_of_ble_eq_true rfl) d_Mod_readDecimal_113 (fun w178 h0 e179 => ?_)
                              have h0 : w178 b = some (.inr (6, [.int th, .int (nI fd), .int (if sl then 1 else 0), .ref (b + 1), .ref (b + 2), .ref (b + 3), .ref (b + 4), .ref (b + 5), .ref (b + 6), .ref (b + 7), .int (nI kp), .ref (b + 8), .int (nI l0.length), .ref (b + 9), .int (nI sz), .ref (b + 10), .ref (b + 11), .ref (b + 12), .ref (b + 13), .int (nI ls), .int hz, .int (nI p2), .int 1])) := h0
                              have fr := fr.trans (Fr.sub (Fr.of1 e179) (by omega) (by omega))
                              have h1 := Fr.cell (Fr.of1 e179) h1 (by omega)
                              have h2 := Fr.cell (Fr.of1 e179) h2 (by omega)
                              have h3 := Fr.cell (Fr.of1 e179) h3 (by omega)
                              have h4 := Fr.cell (Fr.of1 e179) h4 (by omega)
                              have h5 := Fr.cell (Fr.of1 e179) h5 (by omega)
                              have h6 := Fr.cell (Fr.of1 e179) h6 (by omega)
                              have h7 := Fr.cell (Fr.of1 e179) h7 (by omega)
                              have h8 := Fr.cell (Fr.of1 e179) h8 (by omega)
                              have h9 := Fr.cell (Fr.of1 e179) h9 (by omega)
                              have h10 := Fr.cell (Fr.of1 e179) h10 (by omega)
                              have h11 := Fr.cell (Fr.of1 e179) h11 (by omega)
                              have h12 := Fr.cell (Fr.of1 e179) h12 (by omega)
                              have h13 := Fr.cell (Fr.of1 e179) h13 (by omega)
                              refine a_lload S d_Mod_readDecimal_116 rfl ?_
                              refine a_ldc2 S (v := 10) lK_Mod_111 d_Mod_readDecimal_118 ?_
                              refine a_lmul S d_Mod_readDecimal_121 ?_
                              refine a_iload S d_Mod_readDecimal_122 rfl ?_
                              refine a_i2l S d_Mod_readDecimal_124 ?_
                              refine a_ladd S d_Mod_readDecimal_125 ?_
                              refine a_lconst S (v := 1) d_Mod_readDecimal_126 (by decide) ?_
                              refine a_lsub S d_Mod_readDecimal_127 ?_
                              refine a_eql (y := (lN (q * 10 + (B - 1)))) (l_dig hB0 hB) ?_
                              refine a_lstore S d_Mod_readDecimal_128 (Nat.le_of_ble_eq_true rfl) (lv' := [(0, .ref b), (1, .int (nI k)), (2, .int (nI t)), (3, .int (nI (tnB t (l0.getD pt 0)))), (4, .int 0), (5, .int (nI (tnB t (l0.getD (pt + 1) 0)) - 64)), (6, .long (lN (q * 10 + (B - 1)))), (8, .int (nI m)), (9, .int (nI B))]) rfl ?_
                              refine a_iinc S (v := nI (m + 1)) d_Mod_readDecimal_130 rfl (ni_add rfl (by decide)) (Nat.le_of_ble_eq_true rfl) (lv' := [(0, .ref b), (1, .int (nI k)), (2, .int (nI t)), (3, .int (nI (tnB t (l0.getD pt 0)))), (4, .int 0), (5, .int (nI (tnB t (l0.getD (pt + 1) 0)) - 64)), (6, .long (lN (q * 10 + (B - 1)))), (8, .int (nI (m + 1))), (9, .int (nI B))]) rfl ?_
                              refine a_aload_n S d_Mod_readDecimal_133 rfl rfl ?_
                              refine a_iload_n S d_Mod_readDecimal_134 rfl rfl ?_
                              refine a_callV S (rest := []) lg_Mod_145 h0 (c_Mod_next X.2.1 D b th fd sl ki fl va fo go si te kp ro ma sz en ms lw hw ls hz p2 true l0 t w178 n hl hby hA (by omega) ht ⟨h0, h1, h2, h3, h4, h5, h6, h7, h8, h9, h10, h11, h12, h13⟩) (by decide) (by omega) (by omega) rfl (Nat.le_of_ble_eq_true rfl) d_Mod_readDecimal_135 (fun v180 w181 n182 p183 => ?_)
                              rcases p183 with ⟨hq186, rfl, e185, f184, h0, h1, h2, h3, h4, h5, h6, h7, h8, h9, h10, h11, h12, h13⟩ | ⟨hq186, rfl, e185, f184, h0, h1, h2, h3, h4, h5, h6, h7, h8, h9, h10, h11, h12, h13⟩
                              · rw [e185]
                                refine a_st (st' := [.int (nI (tnB t (l0.getD p2 0)))]) rfl ?_
                                have hbhq186 := tnB_lt (t := t) (getD_lt hby p2)
                                have fr := fr.trans (Fr.sub f184 (by omega) (by omega))
                                refine a_iload S d_Mod_readDecimal_138 rfl ?_
                                refine a_ixor S d_Mod_readDecimal_140 ?_
                                refine a_eqi (y := nI (tnB t (l0.getD p2 0))) (xor_g0 _) ?_
                                refine a_istore S d_Mod_readDecimal_141 (Nat.le_of_ble_eq_true rfl) (lv' := [(0, .ref b), (1, .int (nI k)), (2, .int (nI t)), (3, .int (nI (tnB t (l0.getD pt 0)))), (4, .int 0), (5, .int (nI (tnB t (l0.getD (pt + 1) 0)) - 64)), (6, .long (lN (q * 10 + (B - 1)))), (8, .int (nI (m + 1))), (9, .int (nI (tnB t (l0.getD p2 0))))]) rfl ?_
                                refine a_goto S (tgt := 81) d_Mod_readDecimal_143 rfl ?_
                                exact ih81 _ (by omega) (q * 10 + (B - 1)) (m + 1) (tnB t (l0.getD p2 0)) true (p2 + 1) w181 rfl (Or.inr ⟨rfl, by omega⟩) (by omega) (tnB_lt (getD_lt hby _)) fr ⟨h0, h1, h2, h3, h4, h5, h6, h7, h8, h9, h10, h11, h12, h13⟩ (hC.big hB0 hbig)
                              · rw [e185]
                                refine a_st (st' := [.int 0]) rfl ?_
                                have fr := fr.trans (Fr.sub f184 (by omega) (by omega))
                                refine a_iload S d_Mod_readDecimal_138 rfl ?_
                                refine a_ixor S d_Mod_readDecimal_140 ?_
                                refine a_eqi (y := 0) (by decide) ?_
                                refine a_istore S d_Mod_readDecimal_141 (Nat.le_of_ble_eq_true rfl) (lv' := [(0, .ref b), (1, .int (nI k)), (2, .int (nI t)), (3, .int (nI (tnB t (l0.getD pt 0)))), (4, .int 0), (5, .int (nI (tnB t (l0.getD (pt + 1) 0)) - 64)), (6, .long (lN (q * 10 + (B - 1)))), (8, .int (nI (m + 1))), (9, .int 0)]) rfl ?_
                                refine a_goto S (tgt := 81) d_Mod_readDecimal_143 rfl ?_
                                exact ih81 _ (by omega) (q * 10 + (B - 1)) (m + 1) 0 true p2 w181 rfl (Or.inr ⟨rfl, by omega⟩) (by omega) (by decide) fr ⟨h0, h1, h2, h3, h4, h5, h6, h7, h8, h9, h10, h11, h12, h13⟩ (hC.big hB0 hbig)
                  exact loop81 _ 0 0 (tnB t (l0.getD (pt + 1 + 1) 0)) true (pt + 1 + 1 + 1) w146 rfl (Or.inl (Nat.zero_le _)) (by omega) (tnB_lt (getD_lt hby _)) fr ⟨h0, h1, h2, h3, h4, h5, h6, h7, h8, h9, h10, h11, h12, h13⟩ (RDc.dn hq7 hy2 hy1 hy3)
                · rw [e150]
                  refine a_st (st' := [.int 0]) rfl ?_
                  have fr := fr.trans (Fr.sub f149 (by omega) (by omega))
                  refine a_iload S d_Mod_readDecimal_76 rfl ?_
                  refine a_ixor S d_Mod_readDecimal_78 ?_
                  refine a_eqi (y := 0) (by decide) ?_
                  refine a_istore S d_Mod_readDecimal_79 (Nat.le_of_ble_eq_true rfl) (lv' := [(0, .ref b), (1, .int (nI k)), (2, .int (nI t)), (3, .int (nI (tnB t (l0.getD pt 0)))), (4, .int 0), (5, .int (nI (tnB t (l0.getD (pt + 1) 0)) - 64)), (6, .long 0), (8, .int 0), (9, .int 0)]) rfl ?_
                  have loop81 : ∀ (kk81 : Nat) (q m B : Nat) (b1 : Bool) (p2 : Nat) (w1 : ww), 17 - m = kk81 → (m ≤ 16 ∨ (b1 = true ∧ m ≤ 17)) → (p2 ≤ l0.length) → (B < 256) → (Fr w w1 b 14) → (Mo D w1 b th fd sl ki fl va fo go si te kp ro l0.length ma sz en ms lw hw ls hz p2 b1) → (RDc t l0 pt t 1 (nI (tnB t (l0.getD (pt + 1) 0)) - 64) p2 q m B b1) → AW X (D, A, 10, Q) 81 [(0, .ref b), (1, .int (nI k)), (2, .int (nI t)), (3, .int (nI (tnB t (l0.getD pt 0)))), (4, .int 0), (5, .int (nI (tnB t (l0.getD (pt + 1) 0)) - 64)), (6, .long (lN q)), (8, .int (nI m)), (9, .int (nI B))] [] w1 n (((0 + 0) + 0) + 0) (((0 + 0) + 0) + 0) := by
                    intro kk81
                    induction kk81 using Nat.strongRecOn with
                    | ind kk81 ih81 =>
                      intro q m B b1 p2 w1 hk81 hm hp2 hB fr h hC
                      obtain ⟨h0, h1, h2, h3, h4, h5, h6, h7, h8, h9, h10, h11, h12, h13⟩ := h
                      refine a_iload S d_Mod_readDecimal_81 rfl ?_
                      refine a_if_eq S (tgt := 146) d_Mod_readDecimal_83 rfl (fun h83 => ?_) (fun h83 => ?_)
                      · have hx : B = 0 ∨ b1 = true := Or.inl ((nI_eq (by omega) (by decide)).mp h83)
                        refine a_aload_n S d_Mod_readDecimal_146 rfl rfl ?_
                        refine a_get S kc_Mod 5 (by decide) lf_Mod_16 h0 rfl d_Mod_readDecimal_147 ?_
                        refine a_iload_n S d_Mod_readDecimal_150 rfl rfl ?_
                        refine a_iload S d_Mod_readDecimal_151 rfl ?_
                        refine a_sipush S (v := 255) d_Mod_readDecimal_153 (by decide) ?_
                        refine a_icmp_ne S (tgt := 166) d_Mod_readDecimal_156 rfl (fun h156 => ?_) (fun h156 => ?_)
                        · refine a_lload S d_Mod_readDecimal_166 rfl ?_
                          refine a_last S (i := k) h3 rfl (by omega) (by decide) d_Mod_readDecimal_168 (fun w187 h3 e188 => ?_)
                          have fr := fr.trans (Fr.sub (Fr.of1 e188) (by omega) (by omega))
                          have h0 := Fr.cell (Fr.of1 e188) h0 (by omega)
                          have h1 := Fr.cell (Fr.of1 e188) h1 (by omega)
                          have h2 := Fr.cell (Fr.of1 e188) h2 (by omega)
                          have h4 := Fr.cell (Fr.of1 e188) h4 (by omega)
                          have h5 := Fr.cell (Fr.of1 e188) h5 (by omega)
                          have h6 := Fr.cell (Fr.of1 e188) h6 (by omega)
                          have h7 := Fr.cell (Fr.of1 e188) h7 (by omega)
                          have h8 := Fr.cell (Fr.of1 e188) h8 (by omega)
                          have h9 := Fr.cell (Fr.of1 e188) h9 (by omega)
                          have h10 := Fr.cell (Fr.of1 e188) h10 (by omega)
                          have h11 := Fr.cell (Fr.of1 e188) h11 (by omega)
                          have h12 := Fr.cell (Fr.of1 e188) h12 (by omega)
                          have h13 := Fr.cell (Fr.of1 e188) h13 (by omega)
                          refine a_aload_n S d_Mod_readDecimal_169 rfl rfl ?_
                          refine a_get S kc_Mod 6 (by decide) lf_Mod_20 h0 rfl d_Mod_readDecimal_170 ?_
                          refine a_iload_n S d_Mod_readDecimal_173 rfl rfl ?_
                          refine a_iload S d_Mod_readDecimal_174 rfl ?_
                          refine a_iload S d_Mod_readDecimal_176 rfl ?_
                          refine a_isub S d_Mod_readDecimal_178 ?_
                          refine a_iast S (i := k) h4 rfl (by omega) (by decide) d_Mod_readDecimal_179 (fun w189 h4 e190 => ?_)
                          have fr := fr.trans (Fr.sub (Fr.of1 e190) (by omega) (by omega))
                          have h0 := Fr.cell (Fr.of1 e190) h0 (by omega)
                          have h1 := Fr.cell (Fr.of1 e190) h1 (by omega)
                          have h2 := Fr.cell (Fr.of1 e190) h2 (by omega)
                          have h3 := Fr.cell (Fr.of1 e190) h3 (by omega)
                          have h5 := Fr.cell (Fr.of1 e190) h5 (by omega)
                          have h6 := Fr.cell (Fr.of1 e190) h6 (by omega)
                          have h7 := Fr.cell (Fr.of1 e190) h7 (by omega)
                          have h8 := Fr.cell (Fr.of1 e190) h8 (by omega)
                          have h9 := Fr.cell (Fr.of1 e190) h9 (by omega)
                          have h10 := Fr.cell (Fr.of1 e190) h10 (by omega)
                          have h11 := Fr.cell (Fr.of1 e190) h11 (by omega)
                          have h12 := Fr.cell (Fr.of1 e190) h12 (by omega)
                          have h13 := Fr.cell (Fr.of1 e190) h13 (by omega)
                          exact RT _ _ _ _ _ _ d_Mod_readDecimal_180 (by omega) (by omega) ⟨_, _, _, _, p2, b1, rfl, rfl, fr, ⟨h0, h1, h2, h3, h4, h5, h6, h7, h8, h9, h10, h11, h12, h13⟩, hp2, DX.up, (fun d0 e0 rest g => have z := hC.e hx d0 e0 rest g; ⟨z.1, by rw [← z.2.1, (sg_p (lN q))], z.2.2.1, z.2.2.2⟩)⟩
                        · exact absurd h156 (by decide)
                      · have hB0 : ¬ B = 0 := fun z => h83 (by rw [z]; rfl)
                        refine a_aload_n S d_Mod_readDecimal_86 rfl rfl ?_
                        refine a_get S kc_Mod 22 (by decide) lf_Mod_142 h0 rfl d_Mod_readDecimal_87 ?_
                        refine a_if_ne S (tgt := 146) d_Mod_readDecimal_90 rfl (fun h90 => ?_) (fun h90 => ?_)
                        · have hx : B = 0 ∨ b1 = true := Or.inr (bo_1 h90)
                          refine a_aload_n S d_Mod_readDecimal_146 rfl rfl ?_
                          refine a_get S kc_Mod 5 (by decide) lf_Mod_16 h0 rfl d_Mod_readDecimal_147 ?_
                          refine a_iload_n S d_Mod_readDecimal_150 rfl rfl ?_
                          refine a_iload S d_Mod_readDecimal_151 rfl ?_
                          refine a_sipush S (v := 255) d_Mod_readDecimal_153 (by decide) ?_
                          refine a_icmp_ne S (tgt := 166) d_Mod_readDecimal_156 rfl (fun h156 => ?_) (fun h156 => ?_)
                          · refine a_lload S d_Mod_readDecimal_166 rfl ?_
                            refine a_last S (i := k) h3 rfl (by omega) (by decide) d_Mod_readDecimal_168 (fun w191 h3 e192 => ?_)
                            have fr := fr.trans (Fr.sub (Fr.of1 e192) (by omega) (by omega))
                            have h0 := Fr.cell (Fr.of1 e192) h0 (by omega)
                            have h1 := Fr.cell (Fr.of1 e192) h1 (by omega)
                            have h2 := Fr.cell (Fr.of1 e192) h2 (by omega)
                            have h4 := Fr.cell (Fr.of1 e192) h4 (by omega)
                            have h5 := Fr.cell (Fr.of1 e192) h5 (by omega)
                            have h6 := Fr.cell (Fr.of1 e192) h6 (by omega)
                            have h7 := Fr.cell (Fr.of1 e192) h7 (by omega)
                            have h8 := Fr.cell (Fr.of1 e192) h8 (by omega)
                            have h9 := Fr.cell (Fr.of1 e192) h9 (by omega)
                            have h10 := Fr.cell (Fr.of1 e192) h10 (by omega)
                            have h11 := Fr.cell (Fr.of1 e192) h11 (by omega)
                            have h12 := Fr.cell (Fr.of1 e192) h12 (by omega)
                            have h13 := Fr.cell (Fr.of1 e192) h13 (by omega)
                            refine a_aload_n S d_Mod_readDecimal_169 rfl rfl ?_
                            refine a_get S kc_Mod 6 (by decide) lf_Mod_20 h0 rfl d_Mod_readDecimal_170 ?_
                            refine a_iload_n S d_Mod_readDecimal_173 rfl rfl ?_
                            refine a_iload S d_Mod_readDecimal_174 rfl ?_
                            refine a_iload S d_Mod_readDecimal_176 rfl ?_
                            refine a_isub S d_Mod_readDecimal_178 ?_
                            refine a_iast S (i := k) h4 rfl (by omega) (by decide) d_Mod_readDecimal_179 (fun w193 h4 e194 => ?_)
                            have fr := fr.trans (Fr.sub (Fr.of1 e194) (by omega) (by omega))
                            have h0 := Fr.cell (Fr.of1 e194) h0 (by omega)
                            have h1 := Fr.cell (Fr.of1 e194) h1 (by omega)
                            have h2 := Fr.cell (Fr.of1 e194) h2 (by omega)
                            have h3 := Fr.cell (Fr.of1 e194) h3 (by omega)
                            have h5 := Fr.cell (Fr.of1 e194) h5 (by omega)
                            have h6 := Fr.cell (Fr.of1 e194) h6 (by omega)
                            have h7 := Fr.cell (Fr.of1 e194) h7 (by omega)
                            have h8 := Fr.cell (Fr.of1 e194) h8 (by omega)
                            have h9 := Fr.cell (Fr.of1 e194) h9 (by omega)
                            have h10 := Fr.cell (Fr.of1 e194) h10 (by omega)
                            have h11 := Fr.cell (Fr.of1 e194) h11 (by omega)
                            have h12 := Fr.cell (Fr.of1 e194) h12 (by omega)
                            have h13 := Fr.cell (Fr.of1 e194) h13 (by omega)
                            exact RT _ _ _ _ _ _ d_Mod_readDecimal_180 (by omega) (by omega) ⟨_, _, _, _, p2, b1, rfl, rfl, fr, ⟨h0, h1, h2, h3, h4, h5, h6, h7, h8, h9, h10, h11, h12, h13⟩, hp2, DX.up, (fun d0 e0 rest g => have z := hC.e hx d0 e0 rest g; ⟨z.1, by rw [← z.2.1, (sg_p (lN q))], z.2.2.1, z.2.2.2⟩)⟩
                          · exact absurd h156 (by decide)
                        · obtain rfl : b1 = false := bo_0 h90
                          have hm2 : m ≤ 16 := hm.elim id (fun z => by cases z.1)
                          refine a_aload_n S d_Mod_readDecimal_93 rfl rfl ?_
                          refine a_iload S d_Mod_readDecimal_94 rfl ?_
                          refine a_bipush S (v := 10) d_Mod_readDecimal_96 (by decide) ?_
                          refine a_icmp_gt S (tgt := 108) d_Mod_readDecimal_98 rfl (fun h98 => ?_) (fun h98 => ?_)
                          · have hbig : 10 < B ∨ m = 16 := Or.inl ((nI_ltI (by decide) (by omega)).mp h98)
                            refine a_iconst S (v := 1) d_Mod_readDecimal_108 (by decide) ?_
                            refine a_goto S (tgt := 113) d_Mod_readDecimal_109 rfl ?_
                            refine a_put S kc_Mod kt_Mod 22 (by decide) lf_Mod_142 rfl h0 rfl rfl (Nat.le_of_ble_eq_true rfl) d_Mod_readDecimal_113 (fun w195 h0 e196 => ?_)
                            have h0 : w195 b = some (.inr (6, [.int th, .int (nI fd), .int (if sl then 1 else 0), .ref (b + 1), .ref (b + 2), .ref (b + 3), .ref (b + 4), .ref (b + 5), .ref (b + 6), .ref (b + 7), .int (nI kp), .ref (b + 8), .int (nI l0.length), .ref (b + 9), .int (nI sz), .ref (b + 10), .ref (b + 11), .ref (b + 12), .ref (b + 13), .int (nI ls), .int hz, .int (nI p2), .int 1])) := h0
                            have fr := fr.trans (Fr.sub (Fr.of1 e196) (by omega) (by omega))
                            have h1 := Fr.cell (Fr.of1 e196) h1 (by omega)
                            have h2 := Fr.cell (Fr.of1 e196) h2 (by omega)
                            have h3 := Fr.cell (Fr.of1 e196) h3 (by omega)
                            have h4 := Fr.cell (Fr.of1 e196) h4 (by omega)
                            have h5 := Fr.cell (Fr.of1 e196) h5 (by omega)
                            have h6 := Fr.cell (Fr.of1 e196) h6 (by omega)
                            have h7 := Fr.cell (Fr.of1 e196) h7 (by omega)
                            have h8 := Fr.cell (Fr.of1 e196) h8 (by omega)
                            have h9 := Fr.cell (Fr.of1 e196) h9 (by omega)
                            have h10 := Fr.cell (Fr.of1 e196) h10 (by omega)
                            have h11 := Fr.cell (Fr.of1 e196) h11 (by omega)
                            have h12 := Fr.cell (Fr.of1 e196) h12 (by omega)
                            have h13 := Fr.cell (Fr.of1 e196) h13 (by omega)
                            refine a_lload S d_Mod_readDecimal_116 rfl ?_
                            refine a_ldc2 S (v := 10) lK_Mod_111 d_Mod_readDecimal_118 ?_
                            refine a_lmul S d_Mod_readDecimal_121 ?_
                            refine a_iload S d_Mod_readDecimal_122 rfl ?_
                            refine a_i2l S d_Mod_readDecimal_124 ?_
                            refine a_ladd S d_Mod_readDecimal_125 ?_
                            refine a_lconst S (v := 1) d_Mod_readDecimal_126 (by decide) ?_
                            refine a_lsub S d_Mod_readDecimal_127 ?_
                            refine a_eql (y := (lN (q * 10 + (B - 1)))) (l_dig hB0 hB) ?_
                            refine a_lstore S d_Mod_readDecimal_128 (Nat.le_of_ble_eq_true rfl) (lv' := [(0, .ref b), (1, .int (nI k)), (2, .int (nI t)), (3, .int (nI (tnB t (l0.getD pt 0)))), (4, .int 0), (5, .int (nI (tnB t (l0.getD (pt + 1) 0)) - 64)), (6, .long (lN (q * 10 + (B - 1)))), (8, .int (nI m)), (9, .int (nI B))]) rfl ?_
                            refine a_iinc S (v := nI (m + 1)) d_Mod_readDecimal_130 rfl (ni_add rfl (by decide)) (Nat.le_of_ble_eq_true rfl) (lv' := [(0, .ref b), (1, .int (nI k)), (2, .int (nI t)), (3, .int (nI (tnB t (l0.getD pt 0)))), (4, .int 0), (5, .int (nI (tnB t (l0.getD (pt + 1) 0)) - 64)), (6, .long (lN (q * 10 + (B - 1)))), (8, .int (nI (m + 1))), (9, .int (nI B))]) rfl ?_
                            refine a_aload_n S d_Mod_readDecimal_133 rfl rfl ?_
                            refine a_iload_n S d_Mod_readDecimal_134 rfl rfl ?_
                            refine a_callV S (rest := []) lg_Mod_145 h0 (c_Mod_next X.2.1 D b th fd sl ki fl va fo go si te kp ro ma sz en ms lw hw ls hz p2 true l0 t w195 n hl hby hA (by omega) ht ⟨h0, h1, h2, h3, h4, h5, h6, h7, h8, h9, h10, h11, h12, h13⟩) (by decide) (by omega) (by omega) rfl (Nat.le_of_ble_eq_true rfl) d_Mod_readDecimal_135 (fun v197 w198 n199 p200 => ?_)
                            rcases p200 with ⟨hq203, rfl, e202, f201, h0, h1, h2, h3, h4, h5, h6, h7, h8, h9, h10, h11, h12, h13⟩ | ⟨hq203, rfl, e202, f201, h0, h1, h2, h3, h4, h5, h6, h7, h8, h9, h10, h11, h12, h13⟩
                            · rw [e202]
                              refine a_st (st' := [.int (nI (tnB t (l0.getD p2 0)))]) rfl ?_
                              have hbhq203 := tnB_lt (t := t) (getD_lt hby p2)
                              have fr := fr.trans (Fr.sub f201 (by omega) (by omega))
                              refine a_iload S d_Mod_readDecimal_138 rfl ?_
                              refine a_ixor S d_Mod_readDecimal_140 ?_
                              refine a_eqi (y := nI (tnB t (l0.getD p2 0))) (xor_g0 _) ?_
                              refine a_istore S d_Mod_readDecimal_141 (Nat.le_of_ble_eq_true rfl) (lv' := [(0, .ref b), (1, .int (nI k)), (2, .int (nI t)), (3, .int (nI (tnB t (l0.getD pt 0)))), (4, .int 0), (5, .int (nI (tnB t (l0.getD (pt + 1) 0)) - 64)), (6, .long (lN (q * 10 + (B - 1)))), (8, .int (nI (m + 1))), (9, .int (nI (tnB t (l0.getD p2 0))))]) rfl ?_
                              refine a_goto S (tgt := 81) d_Mod_readDecimal_143 rfl ?_
                              exact ih81 _ (by omega) (q * 10 + (B - 1)) (m + 1) (tnB t (l0.getD p2 0)) true (p2 + 1) w198 rfl (Or.inr ⟨rfl, by omega⟩) (by omega) (tnB_lt (getD_lt hby _)) fr ⟨h0, h1, h2, h3, h4, h5, h6, h7, h8, h9, h10, h11, h12, h13⟩ (hC.big hB0 hbig)
                            · rw [e202]
                              refine a_st (st' := [.int 0]) rfl ?_
                              have fr := fr.trans (Fr.sub f201 (by omega) (by omega))
                              refine a_iload S d_Mod_readDecimal_138 rfl ?_
                              refine a_ixor S d_Mod_readDecimal_140 ?_
                              refine a_eqi (y := 0) (by decide) ?_
                              refine a_istore S d_Mod_readDecimal_141 (Nat.le_of_ble_eq_true rfl) (lv' := [(0, .ref b), (1, .int (nI k)), (2, .int (nI t)), (3, .int (nI (tnB t (l0.getD pt 0)))), (4, .int 0), (5, .int (nI (tnB t (l0.getD (pt + 1) 0)) - 64)), (6, .long (lN (q * 10 + (B - 1)))), (8, .int (nI (m + 1))), (9, .int 0)]) rfl ?_
                              refine a_goto S (tgt := 81) d_Mod_readDecimal_143 rfl ?_
                              exact ih81 _ (by omega) (q * 10 + (B - 1)) (m + 1) 0 true p2 w198 rfl (Or.inr ⟨rfl, by omega⟩) (by omega) (by decide) fr ⟨h0, h1, h2, h3, h4, h5, h6, h7, h8, h9, h10, h11, h12, h13⟩ (hC.big hB0 hbig)
                          · have hB10 : ¬ 10 < B := fun z => h98 ((nI_ltI (by decide) (by omega)).mpr z)
                            refine a_iload S d_Mod_readDecimal_101 rfl ?_
                            refine a_bipush S (v := 16) d_Mod_readDecimal_103 (by decide) ?_
                            refine a_icmp_ne S (tgt := 112) d_Mod_readDecimal_105 rfl (fun h105 => ?_) (fun h105 => ?_)
                            · have hm16 : ¬ m = 16 := fun z => h105 (by rw [z]; rfl)
                              refine a_iconst S (v := 0) d_Mod_readDecimal_112 (by decide) ?_
                              refine a_put S kc_Mod kt_Mod 22 (by decide) lf_Mod_142 rfl h0 rfl rfl (Nat.le_of_ble_eq_true rfl) d_Mod_readDecimal_113 (fun w204 h0 e205 => ?_)
                              have h0 : w204 b = some (.inr (6, [.int th, .int (nI fd), .int (if sl then 1 else 0), .ref (b + 1), .ref (b + 2), .ref (b + 3), .ref (b + 4), .ref (b + 5), .ref (b + 6), .ref (b + 7), .int (nI kp), .ref (b + 8), .int (nI l0.length), .ref (b + 9), .int (nI sz), .ref (b + 10), .ref (b + 11), .ref (b + 12), .ref (b + 13), .int (nI ls), .int hz, .int (nI p2), .int 0])) := h0
                              have fr := fr.trans (Fr.sub (Fr.of1 e205) (by omega) (by omega))
                              have h1 := Fr.cell (Fr.of1 e205) h1 (by omega)
                              have h2 := Fr.cell (Fr.of1 e205) h2 (by omega)
                              have h3 := Fr.cell (Fr.of1 e205) h3 (by omega)
                              have h4 := Fr.cell (Fr.of1 e205) h4 (by omega)
                              have h5 := Fr.cell (Fr.of1 e205) h5 (by omega)
                              have h6 := Fr.cell (Fr.of1 e205) h6 (by omega)
                              have h7 := Fr.cell (Fr.of1 e205) h7 (by omega)
                              have h8 := Fr.cell (Fr.of1 e205) h8 (by omega)
                              have h9 := Fr.cell (Fr.of1 e205) h9 (by omega)
                              have h10 := Fr.cell (Fr.of1 e205) h10 (by omega)
                              have h11 := Fr.cell (Fr.of1 e205) h11 (by omega)
                              have h12 := Fr.cell (Fr.of1 e205) h12 (by omega)
                              have h13 := Fr.cell (Fr.of1 e205) h13 (by omega)
                              refine a_lload S d_Mod_readDecimal_116 rfl ?_
                              refine a_ldc2 S (v := 10) lK_Mod_111 d_Mod_readDecimal_118 ?_
                              refine a_lmul S d_Mod_readDecimal_121 ?_
                              refine a_iload S d_Mod_readDecimal_122 rfl ?_
                              refine a_i2l S d_Mod_readDecimal_124 ?_
                              refine a_ladd S d_Mod_readDecimal_125 ?_
                              refine a_lconst S (v := 1) d_Mod_readDecimal_126 (by decide) ?_
                              refine a_lsub S d_Mod_readDecimal_127 ?_
                              refine a_eql (y := (lN (q * 10 + (B - 1)))) (l_dig hB0 hB) ?_
                              refine a_lstore S d_Mod_readDecimal_128 (Nat.le_of_ble_eq_true rfl) (lv' := [(0, .ref b), (1, .int (nI k)), (2, .int (nI t)), (3, .int (nI (tnB t (l0.getD pt 0)))), (4, .int 0), (5, .int (nI (tnB t (l0.getD (pt + 1) 0)) - 64)), (6, .long (lN (q * 10 + (B - 1)))), (8, .int (nI m)), (9, .int (nI B))]) rfl ?_
                              refine a_iinc S (v := nI (m + 1)) d_Mod_readDecimal_130 rfl (ni_add rfl (by decide)) (Nat.le_of_ble_eq_true rfl) (lv' := [(0, .ref b), (1, .int (nI k)), (2, .int (nI t)), (3, .int (nI (tnB t (l0.getD pt 0)))), (4, .int 0), (5, .int (nI (tnB t (l0.getD (pt + 1) 0)) - 64)), (6, .long (lN (q * 10 + (B - 1)))), (8, .int (nI (m + 1))), (9, .int (nI B))]) rfl ?_
                              refine a_aload_n S d_Mod_readDecimal_133 rfl rfl ?_
                              refine a_iload_n S d_Mod_readDecimal_134 rfl rfl ?_
                              refine a_callV S (rest := []) lg_Mod_145 h0 (c_Mod_next X.2.1 D b th fd sl ki fl va fo go si te kp ro ma sz en ms lw hw ls hz p2 false l0 t w204 n hl hby hA (by omega) ht ⟨h0, h1, h2, h3, h4, h5, h6, h7, h8, h9, h10, h11, h12, h13⟩) (by decide) (by omega) (by omega) rfl (Nat.le_of_ble_eq_true rfl) d_Mod_readDecimal_135 (fun v206 w207 n208 p209 => ?_)
                              rcases p209 with ⟨hq212, rfl, e211, f210, h0, h1, h2, h3, h4, h5, h6, h7, h8, h9, h10, h11, h12, h13⟩ | ⟨hq212, rfl, e211, f210, h0, h1, h2, h3, h4, h5, h6, h7, h8, h9, h10, h11, h12, h13⟩
                              · rw [e211]
                                refine a_st (st' := [.int (nI (tnB t (l0.getD p2 0)))]) rfl ?_
                                have hbhq212 := tnB_lt (t := t) (getD_lt hby p2)
                                have fr := fr.trans (Fr.sub f210 (by omega) (by omega))
                                refine a_iload S d_Mod_readDecimal_138 rfl ?_
                                refine a_ixor S d_Mod_readDecimal_140 ?_
                                refine a_eqi (y := nI (tnB t (l0.getD p2 0))) (xor_g0 _) ?_
                                refine a_istore S d_Mod_readDecimal_141 (Nat.le_of_ble_eq_true rfl) (lv' := [(0, .ref b), (1, .int (nI k)), (2, .int (nI t)), (3, .int (nI (tnB t (l0.getD pt 0)))), (4, .int 0), (5, .int (nI (tnB t (l0.getD (pt + 1) 0)) - 64)), (6, .long (lN (q * 10 + (B - 1)))), (8, .int (nI (m + 1))), (9, .int (nI (tnB t (l0.getD p2 0))))]) rfl ?_
                                refine a_goto S (tgt := 81) d_Mod_readDecimal_143 rfl ?_
                                exact ih81 _ (by omega) (q * 10 + (B - 1)) (m + 1) (tnB t (l0.getD p2 0)) false (p2 + 1) w207 rfl (by omega) (by omega) (tnB_lt (getD_lt hby _)) fr ⟨h0, h1, h2, h3, h4, h5, h6, h7, h8, h9, h10, h11, h12, h13⟩ (hC.s hB0 hB10 hm16 hq212)
                              · rw [e211]
                                refine a_st (st' := [.int 0]) rfl ?_
                                have fr := fr.trans (Fr.sub f210 (by omega) (by omega))
                                refine a_iload S d_Mod_readDecimal_138 rfl ?_
                                refine a_ixor S d_Mod_readDecimal_140 ?_
                                refine a_eqi (y := 0) (by decide) ?_
                                refine a_istore S d_Mod_readDecimal_141 (Nat.le_of_ble_eq_true rfl) (lv' := [(0, .ref b), (1, .int (nI k)), (2, .int (nI t)), (3, .int (nI (tnB t (l0.getD pt 0)))), (4, .int 0), (5, .int (nI (tnB t (l0.getD (pt + 1) 0)) - 64)), (6, .long (lN (q * 10 + (B - 1)))), (8, .int (nI (m + 1))), (9, .int 0)]) rfl ?_
                                refine a_goto S (tgt := 81) d_Mod_readDecimal_143 rfl ?_
                                exact ih81 _ (by omega) (q * 10 + (B - 1)) (m + 1) 0 true p2 w207 rfl (by omega) (by omega) (by decide) fr ⟨h0, h1, h2, h3, h4, h5, h6, h7, h8, h9, h10, h11, h12, h13⟩ (hC.se hB0 hB10 hm16 hq212)
                            · have hbig : 10 < B ∨ m = 16 := Or.inr ((nI_eq (by omega) (by decide)).mp h105)
                              refine a_iconst S (v := 1) d_Mod_readDecimal_108 (by decide) ?_
                              refine a_goto S (tgt := 113) d_Mod_readDecimal_109 rfl ?_
                              refine a_put S kc_Mod kt_Mod 22 (by decide) lf_Mod_142 rfl h0 rfl rfl (Nat.le_of_ble_eq_true rfl) d_Mod_readDecimal_113 (fun w213 h0 e214 => ?_)
                              have h0 : w213 b = some (.inr (6, [.int th, .int (nI fd), .int (if sl then 1 else 0), .ref (b + 1), .ref (b + 2), .ref (b + 3), .ref (b + 4), .ref (b + 5), .ref (b + 6), .ref (b + 7), .int (nI kp), .ref (b + 8), .int (nI l0.length), .ref (b + 9), .int (nI sz), .ref (b + 10), .ref (b + 11), .ref (b + 12), .ref (b + 13), .int (nI ls), .int hz, .int (nI p2), .int 1])) := h0
                              have fr := fr.trans (Fr.sub (Fr.of1 e214) (by omega) (by omega))
                              have h1 := Fr.cell (Fr.of1 e214) h1 (by omega)
                              have h2 := Fr.cell (Fr.of1 e214) h2 (by omega)
                              have h3 := Fr.cell (Fr.of1 e214) h3 (by omega)
                              have h4 := Fr.cell (Fr.of1 e214) h4 (by omega)
                              have h5 := Fr.cell (Fr.of1 e214) h5 (by omega)
                              have h6 := Fr.cell (Fr.of1 e214) h6 (by omega)
                              have h7 := Fr.cell (Fr.of1 e214) h7 (by omega)
                              have h8 := Fr.cell (Fr.of1 e214) h8 (by omega)
                              have h9 := Fr.cell (Fr.of1 e214) h9 (by omega)
                              have h10 := Fr.cell (Fr.of1 e214) h10 (by omega)
                              have h11 := Fr.cell (Fr.of1 e214) h11 (by omega)
                              have h12 := Fr.cell (Fr.of1 e214) h12 (by omega)
                              have h13 := Fr.cell (Fr.of1 e214) h13 (by omega)
                              refine a_lload S d_Mod_readDecimal_116 rfl ?_
                              refine a_ldc2 S (v := 10) lK_Mod_111 d_Mod_readDecimal_118 ?_
                              refine a_lmul S d_Mod_readDecimal_121 ?_
                              refine a_iload S d_Mod_readDecimal_122 rfl ?_
                              refine a_i2l S d_Mod_readDecimal_124 ?_
                              refine a_ladd S d_Mod_readDecimal_125 ?_
                              refine a_lconst S (v := 1) d_Mod_readDecimal_126 (by decide) ?_
                              refine a_lsub S d_Mod_readDecimal_127 ?_
                              refine a_eql (y := (lN (q * 10 + (B - 1)))) (l_dig hB0 hB) ?_
                              refine a_lstore S d_Mod_readDecimal_128 (Nat.le_of_ble_eq_true rfl) (lv' := [(0, .ref b), (1, .int (nI k)), (2, .int (nI t)), (3, .int (nI (tnB t (l0.getD pt 0)))), (4, .int 0), (5, .int (nI (tnB t (l0.getD (pt + 1) 0)) - 64)), (6, .long (lN (q * 10 + (B - 1)))), (8, .int (nI m)), (9, .int (nI B))]) rfl ?_
                              refine a_iinc S (v := nI (m + 1)) d_Mod_readDecimal_130 rfl (ni_add rfl (by decide)) (Nat.le_of_ble_eq_true rfl) (lv' := [(0, .ref b), (1, .int (nI k)), (2, .int (nI t)), (3, .int (nI (tnB t (l0.getD pt 0)))), (4, .int 0), (5, .int (nI (tnB t (l0.getD (pt + 1) 0)) - 64)), (6, .long (lN (q * 10 + (B - 1)))), (8, .int (nI (m + 1))), (9, .int (nI B))]) rfl ?_
                              refine a_aload_n S d_Mod_readDecimal_133 rfl rfl ?_
                              refine a_iload_n S d_Mod_readDecimal_134 rfl rfl ?_
                              refine a_callV S (rest := []) lg_Mod_145 h0 (c_Mod_next X.2.1 D b th fd sl ki fl va fo go si te kp ro ma sz en ms lw hw ls hz p2 true l0 t w213 n hl hby hA (by omega) ht ⟨h0, h1, h2, h3, h4, h5, h6, h7, h8, h9, h10, h11, h12, h13⟩) (by decide) (by omega) (by omega) rfl (Nat.le_of_ble_eq_true rfl) d_Mod_readDecimal_135 (fun v215 w216 n217 p218 => ?_)
                              rcases p218 with ⟨hq221, rfl, e220, f219, h0, h1, h2, h3, h4, h5, h6, h7, h8, h9, h10, h11, h12, h13⟩ | ⟨hq221, rfl, e220, f219, h0, h1, h2, h3, h4, h5, h6, h7, h8, h9, h10, h11, h12, h13⟩
                              · rw [e220]
                                refine a_st (st' := [.int (nI (tnB t (l0.getD p2 0)))]) rfl ?_
                                have hbhq221 := tnB_lt (t := t) (getD_lt hby p2)
                                have fr := fr.trans (Fr.sub f219 (by omega) (by omega))
                                refine a_iload S d_Mod_readDecimal_138 rfl ?_
                                refine a_ixor S d_Mod_readDecimal_140 ?_
                                refine a_eqi (y := nI (tnB t (l0.getD p2 0))) (xor_g0 _) ?_
                                refine a_istore S d_Mod_readDecimal_141 (Nat.le_of_ble_eq_true rfl) (lv' := [(0, .ref b), (1, .int (nI k)), (2, .int (nI t)), (3, .int (nI (tnB t (l0.getD pt 0)))), (4, .int 0), (5, .int (nI (tnB t (l0.getD (pt + 1) 0)) - 64)), (6, .long (lN (q * 10 + (B - 1)))), (8, .int (nI (m + 1))), (9, .int (nI (tnB t (l0.getD p2 0))))]) rfl ?_
                                refine a_goto S (tgt := 81) d_Mod_readDecimal_143 rfl ?_
                                exact ih81 _ (by omega) (q * 10 + (B - 1)) (m + 1) (tnB t (l0.getD p2 0)) true (p2 + 1) w216 rfl (Or.inr ⟨rfl, by omega⟩) (by omega) (tnB_lt (getD_lt hby _)) fr ⟨h0, h1, h2, h3, h4, h5, h6, h7, h8, h9, h10, h11, h12, h13⟩ (hC.big hB0 hbig)
                              · rw [e220]
                                refine a_st (st' := [.int 0]) rfl ?_
                                have fr := fr.trans (Fr.sub f219 (by omega) (by omega))
                                refine a_iload S d_Mod_readDecimal_138 rfl ?_
                                refine a_ixor S d_Mod_readDecimal_140 ?_
                                refine a_eqi (y := 0) (by decide) ?_
                                refine a_istore S d_Mod_readDecimal_141 (Nat.le_of_ble_eq_true rfl) (lv' := [(0, .ref b), (1, .int (nI k)), (2, .int (nI t)), (3, .int (nI (tnB t (l0.getD pt 0)))), (4, .int 0), (5, .int (nI (tnB t (l0.getD (pt + 1) 0)) - 64)), (6, .long (lN (q * 10 + (B - 1)))), (8, .int (nI (m + 1))), (9, .int 0)]) rfl ?_
                                refine a_goto S (tgt := 81) d_Mod_readDecimal_143 rfl ?_
                                exact ih81 _ (by omega) (q * 10 + (B - 1)) (m + 1) 0 true p2 w216 rfl (Or.inr ⟨rfl, by omega⟩) (by omega) (by decide) fr ⟨h0, h1, h2, h3, h4, h5, h6, h7, h8, h9, h10, h11, h12, h13⟩ (hC.big hB0 hbig)
                  exact loop81 _ 0 0 0 true (pt + 1 + 1) w146 rfl (Or.inl (Nat.zero_le _)) (by omega) (by decide) fr ⟨h0, h1, h2, h3, h4, h5, h6, h7, h8, h9, h10, h11, h12, h13⟩ (RDc.dn hq7 hy2 hy1 hy3)
              · rw [e143]
                refine a_st (st' := [.int 0]) rfl ?_
                have fr := fr.trans (Fr.sub f142 (by omega) (by omega))
                refine a_iload S d_Mod_readDecimal_57 rfl ?_
                refine a_ixor S d_Mod_readDecimal_59 ?_
                refine a_eqi (y := 0) (by decide) ?_
                refine a_bipush S (v := 64) d_Mod_readDecimal_60 (by decide) ?_
                refine a_isub S d_Mod_readDecimal_62 ?_
                refine a_eqi (y := (-64)) (by decide) ?_
                refine a_istore S d_Mod_readDecimal_63 (Nat.le_of_ble_eq_true rfl) (lv' := [(0, .ref b), (1, .int (nI k)), (2, .int (nI t)), (3, .int (nI (tnB t (l0.getD pt 0)))), (4, .int 0), (5, .int (-64))]) rfl ?_
                refine a_lconst S (v := 0) d_Mod_readDecimal_65 (by decide) ?_
                refine a_lstore S d_Mod_readDecimal_66 (Nat.le_of_ble_eq_true rfl) (lv' := [(0, .ref b), (1, .int (nI k)), (2, .int (nI t)), (3, .int (nI (tnB t (l0.getD pt 0)))), (4, .int 0), (5, .int (-64)), (6, .long 0)]) rfl ?_
                refine a_iconst S (v := 0) d_Mod_readDecimal_68 (by decide) ?_
                refine a_istore S d_Mod_readDecimal_69 (Nat.le_of_ble_eq_true rfl) (lv' := [(0, .ref b), (1, .int (nI k)), (2, .int (nI t)), (3, .int (nI (tnB t (l0.getD pt 0)))), (4, .int 0), (5, .int (-64)), (6, .long 0), (8, .int 0)]) rfl ?_
                refine a_aload_n S d_Mod_readDecimal_71 rfl rfl ?_
                refine a_iload_n S d_Mod_readDecimal_72 rfl rfl ?_
                refine a_callV S (rest := []) lg_Mod_145 h0 (c_Mod_next X.2.1 D b th fd sl ki fl va fo go si te kp ro ma sz en ms lw hw ls hz (pt + 1) true l0 t w139 n hl hby hA (by omega) ht ⟨h0, h1, h2, h3, h4, h5, h6, h7, h8, h9, h10, h11, h12, h13⟩) (by decide) (by omega) (by omega) rfl (Nat.le_of_ble_eq_true rfl) d_Mod_readDecimal_73 (fun v222 w223 n224 p225 => ?_)
                rcases p225 with ⟨hq228, rfl, e227, f226, h0, h1, h2, h3, h4, h5, h6, h7, h8, h9, h10, h11, h12, h13⟩ | ⟨hq228, rfl, e227, f226, h0, h1, h2, h3, h4, h5, h6, h7, h8, h9, h10, h11, h12, h13⟩
                · rw [e227]
                  refine a_st (st' := [.int (nI (tnB t (l0.getD (pt + 1) 0)))]) rfl ?_
                  have hbhq228 := tnB_lt (t := t) (getD_lt hby (pt + 1))
                  have fr := fr.trans (Fr.sub f226 (by omega) (by omega))
                  exact absurd hq228 (by omega)
                · rw [e227]
                  refine a_st (st' := [.int 0]) rfl ?_
                  have fr := fr.trans (Fr.sub f226 (by omega) (by omega))
                  refine a_iload S d_Mod_readDecimal_76 rfl ?_
                  refine a_ixor S d_Mod_readDecimal_78 ?_
                  refine a_eqi (y := 0) (by decide) ?_
                  refine a_istore S d_Mod_readDecimal_79 (Nat.le_of_ble_eq_true rfl) (lv' := [(0, .ref b), (1, .int (nI k)), (2, .int (nI t)), (3, .int (nI (tnB t (l0.getD pt 0)))), (4, .int 0), (5, .int (-64)), (6, .long 0), (8, .int 0), (9, .int 0)]) rfl ?_
                  have loop81 : ∀ (kk81 : Nat) (q m B : Nat) (b1 : Bool) (p2 : Nat) (w1 : ww), 17 - m = kk81 → (m ≤ 16 ∨ (b1 = true ∧ m ≤ 17)) → (p2 ≤ l0.length) → (B < 256) → (Fr w w1 b 14) → (Mo D w1 b th fd sl ki fl va fo go si te kp ro l0.length ma sz en ms lw hw ls hz p2 b1) → (RDc t l0 pt t 1 (-64) p2 q m B b1) → AW X (D, A, 10, Q) 81 [(0, .ref b), (1, .int (nI k)), (2, .int (nI t)), (3, .int (nI (tnB t (l0.getD pt 0)))), (4, .int 0), (5, .int (-64)), (6, .long (lN q)), (8, .int (nI m)), (9, .int (nI B))] [] w1 n (((0 + 0) + 0) + 0) (((0 + 0) + 0) + 0) := by
                    intro kk81
                    induction kk81 using Nat.strongRecOn with
                    | ind kk81 ih81 =>
                      intro q m B b1 p2 w1 hk81 hm hp2 hB fr h hC
                      obtain ⟨h0, h1, h2, h3, h4, h5, h6, h7, h8, h9, h10, h11, h12, h13⟩ := h
                      refine a_iload S d_Mod_readDecimal_81 rfl ?_
                      refine a_if_eq S (tgt := 146) d_Mod_readDecimal_83 rfl (fun h83 => ?_) (fun h83 => ?_)
                      · have hx : B = 0 ∨ b1 = true := Or.inl ((nI_eq (by omega) (by decide)).mp h83)
                        refine a_aload_n S d_Mod_readDecimal_146 rfl rfl ?_
                        refine a_get S kc_Mod 5 (by decide) lf_Mod_16 h0 rfl d_Mod_readDecimal_147 ?_
                        refine a_iload_n S d_Mod_readDecimal_150 rfl rfl ?_
                        refine a_iload S d_Mod_readDecimal_151 rfl ?_
                        refine a_sipush S (v := 255) d_Mod_readDecimal_153 (by decide) ?_
                        refine a_icmp_ne S (tgt := 166) d_Mod_readDecimal_156 rfl (fun h156 => ?_) (fun h156 => ?_)
                        · refine a_lload S d_Mod_readDecimal_166 rfl ?_
                          refine a_last S (i := k) h3 rfl (by omega) (by decide) d_Mod_readDecimal_168 (fun w229 h3 e230 => ?_)
                          have fr := fr.trans (Fr.sub (Fr.of1 e230) (by omega) (by omega))
                          have h0 := Fr.cell (Fr.of1 e230) h0 (by omega)
                          have h1 := Fr.cell (Fr.of1 e230) h1 (by omega)
                          have h2 := Fr.cell (Fr.of1 e230) h2 (by omega)
                          have h4 := Fr.cell (Fr.of1 e230) h4 (by omega)
                          have h5 := Fr.cell (Fr.of1 e230) h5 (by omega)
                          have h6 := Fr.cell (Fr.of1 e230) h6 (by omega)
                          have h7 := Fr.cell (Fr.of1 e230) h7 (by omega)
                          have h8 := Fr.cell (Fr.of1 e230) h8 (by omega)
                          have h9 := Fr.cell (Fr.of1 e230) h9 (by omega)
                          have h10 := Fr.cell (Fr.of1 e230) h10 (by omega)
                          have h11 := Fr.cell (Fr.of1 e230) h11 (by omega)
                          have h12 := Fr.cell (Fr.of1 e230) h12 (by omega)
                          have h13 := Fr.cell (Fr.of1 e230) h13 (by omega)
                          refine a_aload_n S d_Mod_readDecimal_169 rfl rfl ?_
                          refine a_get S kc_Mod 6 (by decide) lf_Mod_20 h0 rfl d_Mod_readDecimal_170 ?_
                          refine a_iload_n S d_Mod_readDecimal_173 rfl rfl ?_
                          refine a_iload S d_Mod_readDecimal_174 rfl ?_
                          refine a_iload S d_Mod_readDecimal_176 rfl ?_
                          refine a_isub S d_Mod_readDecimal_178 ?_
                          refine a_iast S (i := k) h4 rfl (by omega) (by decide) d_Mod_readDecimal_179 (fun w231 h4 e232 => ?_)
                          have fr := fr.trans (Fr.sub (Fr.of1 e232) (by omega) (by omega))
                          have h0 := Fr.cell (Fr.of1 e232) h0 (by omega)
                          have h1 := Fr.cell (Fr.of1 e232) h1 (by omega)
                          have h2 := Fr.cell (Fr.of1 e232) h2 (by omega)
                          have h3 := Fr.cell (Fr.of1 e232) h3 (by omega)
                          have h5 := Fr.cell (Fr.of1 e232) h5 (by omega)
                          have h6 := Fr.cell (Fr.of1 e232) h6 (by omega)
                          have h7 := Fr.cell (Fr.of1 e232) h7 (by omega)
                          have h8 := Fr.cell (Fr.of1 e232) h8 (by omega)
                          have h9 := Fr.cell (Fr.of1 e232) h9 (by omega)
                          have h10 := Fr.cell (Fr.of1 e232) h10 (by omega)
                          have h11 := Fr.cell (Fr.of1 e232) h11 (by omega)
                          have h12 := Fr.cell (Fr.of1 e232) h12 (by omega)
                          have h13 := Fr.cell (Fr.of1 e232) h13 (by omega)
                          exact RT _ _ _ _ _ _ d_Mod_readDecimal_180 (by omega) (by omega) ⟨_, _, _, _, p2, b1, rfl, rfl, fr, ⟨h0, h1, h2, h3, h4, h5, h6, h7, h8, h9, h10, h11, h12, h13⟩, hp2, DX.up, (fun d0 e0 rest g => have z := hC.e hx d0 e0 rest g; ⟨z.1, by rw [← z.2.1, (sg_p (lN q))], z.2.2.1, z.2.2.2⟩)⟩
                        · exact absurd h156 (by decide)
                      · have hB0 : ¬ B = 0 := fun z => h83 (by rw [z]; rfl)
                        refine a_aload_n S d_Mod_readDecimal_86 rfl rfl ?_
                        refine a_get S kc_Mod 22 (by decide) lf_Mod_142 h0 rfl d_Mod_readDecimal_87 ?_
                        refine a_if_ne S (tgt := 146) d_Mod_readDecimal_90 rfl (fun h90 => ?_) (fun h90 => ?_)
                        · have hx : B = 0 ∨ b1 = true := Or.inr (bo_1 h90)
                          refine a_aload_n S d_Mod_readDecimal_146 rfl rfl ?_
                          refine a_get S kc_Mod 5 (by decide) lf_Mod_16 h0 rfl d_Mod_readDecimal_147 ?_
                          refine a_iload_n S d_Mod_readDecimal_150 rfl rfl ?_
                          refine a_iload S d_Mod_readDecimal_151 rfl ?_
                          refine a_sipush S (v := 255) d_Mod_readDecimal_153 (by decide) ?_
                          refine a_icmp_ne S (tgt := 166) d_Mod_readDecimal_156 rfl (fun h156 => ?_) (fun h156 => ?_)
                          · refine a_lload S d_Mod_readDecimal_166 rfl ?_
                            refine a_last S (i := k) h3 rfl (by omega) (by decide) d_Mod_readDecimal_168 (fun w233 h3 e234 => ?_)
                            have fr := fr.trans (Fr.sub (Fr.of1 e234) (by omega) (by omega))
                            have h0 := Fr.cell (Fr.of1 e234) h0 (by omega)
                            have h1 := Fr.cell (Fr.of1 e234) h1 (by omega)
                            have h2 := Fr.cell (Fr.of1 e234) h2 (by omega)
                            have h4 := Fr.cell (Fr.of1 e234) h4 (by omega)
                            have h5 := Fr.cell (Fr.of1 e234) h5 (by omega)
                            have h6 := Fr.cell (Fr.of1 e234) h6 (by omega)
                            have h7 := Fr.cell (Fr.of1 e234) h7 (by omega)
                            have h8 := Fr.cell (Fr.of1 e234) h8 (by omega)
                            have h9 := Fr.cell (Fr.of1 e234) h9 (by omega)
                            have h10 := Fr.cell (Fr.of1 e234) h10 (by omega)
                            have h11 := Fr.cell (Fr.of1 e234) h11 (by omega)
                            have h12 := Fr.cell (Fr.of1 e234) h12 (by omega)
                            have h13 := Fr.cell (Fr.of1 e234) h13 (by omega)
                            refine a_aload_n S d_Mod_readDecimal_169 rfl rfl ?_
                            refine a_get S kc_Mod 6 (by decide) lf_Mod_20 h0 rfl d_Mod_readDecimal_170 ?_
                            refine a_iload_n S d_Mod_readDecimal_173 rfl rfl ?_
                            refine a_iload S d_Mod_readDecimal_174 rfl ?_
                            refine a_iload S d_Mod_readDecimal_176 rfl ?_
                            refine a_isub S d_Mod_readDecimal_178 ?_
                            refine a_iast S (i := k) h4 rfl (by omega) (by decide) d_Mod_readDecimal_179 (fun w235 h4 e236 => ?_)
                            have fr := fr.trans (Fr.sub (Fr.of1 e236) (by omega) (by omega))
                            have h0 := Fr.cell (Fr.of1 e236) h0 (by omega)
                            have h1 := Fr.cell (Fr.of1 e236) h1 (by omega)
                            have h2 := Fr.cell (Fr.of1 e236) h2 (by omega)
                            have h3 := Fr.cell (Fr.of1 e236) h3 (by omega)
                            have h5 := Fr.cell (Fr.of1 e236) h5 (by omega)
                            have h6 := Fr.cell (Fr.of1 e236) h6 (by omega)
                            have h7 := Fr.cell (Fr.of1 e236) h7 (by omega)
                            have h8 := Fr.cell (Fr.of1 e236) h8 (by omega)
                            have h9 := Fr.cell (Fr.of1 e236) h9 (by omega)
                            have h10 := Fr.cell (Fr.of1 e236) h10 (by omega)
                            have h11 := Fr.cell (Fr.of1 e236) h11 (by omega)
                            have h12 := Fr.cell (Fr.of1 e236) h12 (by omega)
                            have h13 := Fr.cell (Fr.of1 e236) h13 (by omega)
                            exact RT _ _ _ _ _ _ d_Mod_readDecimal_180 (by omega) (by omega) ⟨_, _, _, _, p2, b1, rfl, rfl, fr, ⟨h0, h1, h2, h3, h4, h5, h6, h7, h8, h9, h10, h11, h12, h13⟩, hp2, DX.up, (fun d0 e0 rest g => have z := hC.e hx d0 e0 rest g; ⟨z.1, by rw [← z.2.1, (sg_p (lN q))], z.2.2.1, z.2.2.2⟩)⟩
                          · exact absurd h156 (by decide)
                        · obtain rfl : b1 = false := bo_0 h90
                          have hm2 : m ≤ 16 := hm.elim id (fun z => by cases z.1)
                          refine a_aload_n S d_Mod_readDecimal_93 rfl rfl ?_
                          refine a_iload S d_Mod_readDecimal_94 rfl ?_
                          refine a_bipush S (v := 10) d_Mod_readDecimal_96 (by decide) ?_
                          refine a_icmp_gt S (tgt := 108) d_Mod_readDecimal_98 rfl (fun h98 => ?_) (fun h98 => ?_)
                          · have hbig : 10 < B ∨ m = 16 := Or.inl ((nI_ltI (by decide) (by omega)).mp h98)
                            refine a_iconst S (v := 1) d_Mod_readDecimal_108 (by decide) ?_
                            refine a_goto S (tgt := 113) d_Mod_readDecimal_109 rfl ?_
                            refine a_put S kc_Mod kt_Mod 22 (by decide) lf_Mod_142 rfl h0 rfl rfl (Nat.le_of_ble_eq_true rfl) d_Mod_readDecimal_113 (fun w237 h0 e238 => ?_)
                            have h0 : w237 b = some (.inr (6, [.int th, .int (nI fd), .int (if sl then 1 else 0), .ref (b + 1), .ref (b + 2), .ref (b + 3), .ref (b + 4), .ref (b + 5), .ref (b + 6), .ref (b + 7), .int (nI kp), .ref (b + 8), .int (nI l0.length), .ref (b + 9), .int (nI sz), .ref (b + 10), .ref (b + 11), .ref (b + 12), .ref (b + 13), .int (nI ls), .int hz, .int (nI p2), .int 1])) := h0
                            have fr := fr.trans (Fr.sub (Fr.of1 e238) (by omega) (by omega))
                            have h1 := Fr.cell (Fr.of1 e238) h1 (by omega)
                            have h2 := Fr.cell (Fr.of1 e238) h2 (by omega)
                            have h3 := Fr.cell (Fr.of1 e238) h3 (by omega)
                            have h4 := Fr.cell (Fr.of1 e238) h4 (by omega)
                            have h5 := Fr.cell (Fr.of1 e238) h5 (by omega)
                            have h6 := Fr.cell (Fr.of1 e238) h6 (by omega)
                            have h7 := Fr.cell (Fr.of1 e238) h7 (by omega)
                            have h8 := Fr.cell (Fr.of1 e238) h8 (by omega)
                            have h9 := Fr.cell (Fr.of1 e238) h9 (by omega)
                            have h10 := Fr.cell (Fr.of1 e238) h10 (by omega)
                            have h11 := Fr.cell (Fr.of1 e238) h11 (by omega)
                            have h12 := Fr.cell (Fr.of1 e238) h12 (by omega)
                            have h13 := Fr.cell (Fr.of1 e238) h13 (by omega)
                            refine a_lload S d_Mod_readDecimal_116 rfl ?_
                            refine a_ldc2 S (v := 10) lK_Mod_111 d_Mod_readDecimal_118 ?_
                            refine a_lmul S d_Mod_readDecimal_121 ?_
                            refine a_iload S d_Mod_readDecimal_122 rfl ?_
                            refine a_i2l S d_Mod_readDecimal_124 ?_
                            refine a_ladd S d_Mod_readDecimal_125 ?_
                            refine a_lconst S (v := 1) d_Mod_readDecimal_126 (by decide) ?_
                            refine a_lsub S d_Mod_readDecimal_127 ?_
                            refine a_eql (y := (lN (q * 10 + (B - 1)))) (l_dig hB0 hB) ?_
                            refine a_lstore S d_Mod_readDecimal_128 (Nat.le_of_ble_eq_true rfl) (lv' := [(0, .ref b), (1, .int (nI k)), (2, .int (nI t)), (3, .int (nI (tnB t (l0.getD pt 0)))), (4, .int 0), (5, .int (-64)), (6, .long (lN (q * 10 + (B - 1)))), (8, .int (nI m)), (9, .int (nI B))]) rfl ?_
                            refine a_iinc S (v := nI (m + 1)) d_Mod_readDecimal_130 rfl (ni_add rfl (by decide)) (Nat.le_of_ble_eq_true rfl) (lv' := [(0, .ref b), (1, .int (nI k)), (2, .int (nI t)), (3, .int (nI (tnB t (l0.getD pt 0)))), (4, .int 0), (5, .int (-64)), (6, .long (lN (q * 10 + (B - 1)))), (8, .int (nI (m + 1))), (9, .int (nI B))]) rfl ?_
                            refine a_aload_n S d_Mod_readDecimal_133 rfl rfl ?_
                            refine a_iload_n S d_Mod_readDecimal_134 rfl rfl ?_
                            refine a_callV S (rest := []) lg_Mod_145 h0 (c_Mod_next X.2.1 D b th fd sl ki fl va fo go si te kp ro ma sz en ms lw hw ls hz p2 true l0 t w237 n hl hby hA (by omega) ht ⟨h0, h1, h2, h3, h4, h5, h6, h7, h8, h9, h10, h11, h12, h13⟩) (by decide) (by omega) (by omega) rfl (Nat.le_of_ble_eq_true rfl) d_Mod_readDecimal_135 (fun v239 w240 n241 p242 => ?_)
                            rcases p242 with ⟨hq245, rfl, e244, f243, h0, h1, h2, h3, h4, h5, h6, h7, h8, h9, h10, h11, h12, h13⟩ | ⟨hq245, rfl, e244, f243, h0, h1, h2, h3, h4, h5, h6, h7, h8, h9, h10, h11, h12, h13⟩
                            · rw [e244]
                              refine a_st (st' := [.int (nI (tnB t (l0.getD p2 0)))]) rfl ?_
                              have hbhq245 := tnB_lt (t := t) (getD_lt hby p2)
                              have fr := fr.trans (Fr.sub f243 (by omega) (by omega))
                              refine a_iload S d_Mod_readDecimal_138 rfl ?_
                              refine a_ixor S d_Mod_readDecimal_140 ?_
                              refine a_eqi (y := nI (tnB t (l0.getD p2 0))) (xor_g0 _) ?_
                              refine a_istore S d_Mod_readDecimal_141 (Nat.le_of_ble_eq_true rfl) (lv' := [(0, .ref b), (1, .int (nI k)), (2, .int (nI t)), (3, .int (nI (tnB t (l0.getD pt 0)))), (4, .int 0), (5, .int (-64)), (6, .long (lN (q * 10 + (B - 1)))), (8, .int (nI (m + 1))), (9, .int (nI (tnB t (l0.getD p2 0))))]) rfl ?_
                              refine a_goto S (tgt := 81) d_Mod_readDecimal_143 rfl ?_
                              exact ih81 _ (by omega) (q * 10 + (B - 1)) (m + 1) (tnB t (l0.getD p2 0)) true (p2 + 1) w240 rfl (Or.inr ⟨rfl, by omega⟩) (by omega) (tnB_lt (getD_lt hby _)) fr ⟨h0, h1, h2, h3, h4, h5, h6, h7, h8, h9, h10, h11, h12, h13⟩ (hC.big hB0 hbig)
                            · rw [e244]
                              refine a_st (st' := [.int 0]) rfl ?_
                              have fr := fr.trans (Fr.sub f243 (by omega) (by omega))
                              refine a_iload S d_Mod_readDecimal_138 rfl ?_
                              refine a_ixor S d_Mod_readDecimal_140 ?_
                              refine a_eqi (y := 0) (by decide) ?_
                              refine a_istore S d_Mod_readDecimal_141 (Nat.le_of_ble_eq_true rfl) (lv' := [(0, .ref b), (1, .int (nI k)), (2, .int (nI t)), (3, .int (nI (tnB t (l0.getD pt 0)))), (4, .int 0), (5, .int (-64)), (6, .long (lN (q * 10 + (B - 1)))), (8, .int (nI (m + 1))), (9, .int 0)]) rfl ?_
                              refine a_goto S (tgt := 81) d_Mod_readDecimal_143 rfl ?_
                              exact ih81 _ (by omega) (q * 10 + (B - 1)) (m + 1) 0 true p2 w240 rfl (Or.inr ⟨rfl, by omega⟩) (by omega) (by decide) fr ⟨h0, h1, h2, h3, h4, h5, h6, h7, h8, h9, h10, h11, h12, h13⟩ (hC.big hB0 hbig)
                          · have hB10 : ¬ 10 < B := fun z => h98 ((nI_ltI (by decide) (by omega)).mpr z)
                            refine a_iload S d_Mod_readDecimal_101 rfl ?_
                            refine a_bipush S (v := 16) d_Mod_readDecimal_103 (by decide) ?_
                            refine a_icmp_ne S (tgt := 112) d_Mod_readDecimal_105 rfl (fun h105 => ?_) (fun h105 => ?_)
                            · have hm16 : ¬ m = 16 := fun z => h105 (by rw [z]; rfl)
                              refine a_iconst S (v := 0) d_Mod_readDecimal_112 (by decide) ?_
                              refine a_put S kc_Mod kt_Mod 22 (by decide) lf_Mod_142 rfl h0 rfl rfl (Nat.le_of_ble_eq_true rfl) d_Mod_readDecimal_113 (fun w246 h0 e247 => ?_)
                              have h0 : w246 b = some (.inr (6, [.int th, .int (nI fd), .int (if sl then 1 else 0), .ref (b + 1), .ref (b + 2), .ref (b + 3), .ref (b + 4), .ref (b + 5), .ref (b + 6), .ref (b + 7), .int (nI kp), .ref (b + 8), .int (nI l0.length), .ref (b + 9), .int (nI sz), .ref (b + 10), .ref (b + 11), .ref (b + 12), .ref (b + 13), .int (nI ls), .int hz, .int (nI p2), .int 0])) := h0
                              have fr := fr.trans (Fr.sub (Fr.of1 e247) (by omega) (by omega))
                              have h1 := Fr.cell (Fr.of1 e247) h1 (by omega)
                              have h2 := Fr.cell (Fr.of1 e247) h2 (by omega)
                              have h3 := Fr.cell (Fr.of1 e247) h3 (by omega)
                              have h4 := Fr.cell (Fr.of1 e247) h4 (by omega)
                              have h5 := Fr.cell (Fr.of1 e247) h5 (by omega)
                              have h6 := Fr.cell (Fr.of1 e247) h6 (by omega)
                              have h7 := Fr.cell (Fr.of1 e247) h7 (by omega)
                              have h8 := Fr.cell (Fr.of1 e247) h8 (by omega)
                              have h9 := Fr.cell (Fr.of1 e247) h9 (by omega)
                              have h10 := Fr.cell (Fr.of1 e247) h10 (by omega)
                              have h11 := Fr.cell (Fr.of1 e247) h11 (by omega)
                              have h12 := Fr.cell (Fr.of1 e247) h12 (by omega)
                              have h13 := Fr.cell (Fr.of1 e247) h13 (by omega)
                              refine a_lload S d_Mod_readDecimal_116 rfl ?_
                              refine a_ldc2 S (v := 10) lK_Mod_111 d_Mod_readDecimal_118 ?_
                              refine a_lmul S d_Mod_readDecimal_121 ?_
                              refine a_iload S d_Mod_readDecimal_122 rfl ?_
                              refine a_i2l S d_Mod_readDecimal_124 ?_
                              refine a_ladd S d_Mod_readDecimal_125 ?_
                              refine a_lconst S (v := 1) d_Mod_readDecimal_126 (by decide) ?_
                              refine a_lsub S d_Mod_readDecimal_127 ?_
                              refine a_eql (y := (lN (q * 10 + (B - 1)))) (l_dig hB0 hB) ?_
                              refine a_lstore S d_Mod_readDecimal_128 (Nat.le_of_ble_eq_true rfl) (lv' := [(0, .ref b), (1, .int (nI k)), (2, .int (nI t)), (3, .int (nI (tnB t (l0.getD pt 0)))), (4, .int 0), (5, .int (-64)), (6, .long (lN (q * 10 + (B - 1)))), (8, .int (nI m)), (9, .int (nI B))]) rfl ?_
                              refine a_iinc S (v := nI (m + 1)) d_Mod_readDecimal_130 rfl (ni_add rfl (by decide)) (Nat.le_of_ble_eq_true rfl) (lv' := [(0, .ref b), (1, .int (nI k)), (2, .int (nI t)), (3, .int (nI (tnB t (l0.getD pt 0)))), (4, .int 0), (5, .int (-64)), (6, .long (lN (q * 10 + (B - 1)))), (8, .int (nI (m + 1))), (9, .int (nI B))]) rfl ?_
                              refine a_aload_n S d_Mod_readDecimal_133 rfl rfl ?_
                              refine a_iload_n S d_Mod_readDecimal_134 rfl rfl ?_
                              refine a_callV S (rest := []) lg_Mod_145 h0 (c_Mod_next X.2.1 D b th fd sl ki fl va fo go si te kp ro ma sz en ms lw hw ls hz p2 false l0 t w246 n hl hby hA (by omega) ht ⟨h0, h1, h2, h3, h4, h5, h6, h7, h8, h9, h10, h11, h12, h13⟩) (by decide) (by omega) (by omega) rfl (Nat.le_of_ble_eq_true rfl) d_Mod_readDecimal_135 (fun v248 w249 n250 p251 => ?_)
                              rcases p251 with ⟨hq254, rfl, e253, f252, h0, h1, h2, h3, h4, h5, h6, h7, h8, h9, h10, h11, h12, h13⟩ | ⟨hq254, rfl, e253, f252, h0, h1, h2, h3, h4, h5, h6, h7, h8, h9, h10, h11, h12, h13⟩
                              · rw [e253]
                                refine a_st (st' := [.int (nI (tnB t (l0.getD p2 0)))]) rfl ?_
                                have hbhq254 := tnB_lt (t := t) (getD_lt hby p2)
                                have fr := fr.trans (Fr.sub f252 (by omega) (by omega))
                                refine a_iload S d_Mod_readDecimal_138 rfl ?_
                                refine a_ixor S d_Mod_readDecimal_140 ?_
                                refine a_eqi (y := nI (tnB t (l0.getD p2 0))) (xor_g0 _) ?_
                                refine a_istore S d_Mod_readDecimal_141 (Nat.le_of_ble_eq_true rfl) (lv' := [(0, .ref b), (1, .int (nI k)), (2, .int (nI t)), (3, .int (nI (tnB t (l0.getD pt 0)))), (4, .int 0), (5, .int (-64)), (6, .long (lN (q * 10 + (B - 1)))), (8, .int (nI (m + 1))), (9, .int (nI (tnB t (l0.getD p2 0))))]) rfl ?_
                                refine a_goto S (tgt := 81) d_Mod_readDecimal_143 rfl ?_
                                exact ih81 _ (by omega) (q * 10 + (B - 1)) (m + 1) (tnB t (l0.getD p2 0)) false (p2 + 1) w249 rfl (by omega) (by omega) (tnB_lt (getD_lt hby _)) fr ⟨h0, h1, h2, h3, h4, h5, h6, h7, h8, h9, h10, h11, h12, h13⟩ (hC.s hB0 hB10 hm16 hq254)
                              · rw [e253]
                                refine a_st (st' := [.int 0]) rfl ?_
                                have fr := fr.trans (Fr.sub f252 (by omega) (by omega))
                                refine a_iload S d_Mod_readDecimal_138 rfl ?_
                                refine a_ixor S d_Mod_readDecimal_140 ?_
                                refine a_eqi (y := 0) (by decide) ?_
                                refine a_istore S d_Mod_readDecimal_141 (Nat.le_of_ble_eq_true rfl) (lv' := [(0, .ref b), (1, .int (nI k)), (2, .int (nI t)), (3, .int (nI (tnB t (l0.getD pt 0)))), (4, .int 0), (5, .int (-64)), (6, .long (lN (q * 10 + (B - 1)))), (8, .int (nI (m + 1))), (9, .int 0)]) rfl ?_
                                refine a_goto S (tgt := 81) d_Mod_readDecimal_143 rfl ?_
                                exact ih81 _ (by omega) (q * 10 + (B - 1)) (m + 1) 0 true p2 w249 rfl (by omega) (by omega) (by decide) fr ⟨h0, h1, h2, h3, h4, h5, h6, h7, h8, h9, h10, h11, h12, h13⟩ (hC.se hB0 hB10 hm16 hq254)
                            · have hbig : 10 < B ∨ m = 16 := Or.inr ((nI_eq (by omega) (by decide)).mp h105)
                              refine a_iconst S (v := 1) d_Mod_readDecimal_108 (by decide) ?_
                              refine a_goto S (tgt := 113) d_Mod_readDecimal_109 rfl ?_
                              refine a_put S kc_Mod kt_Mod 22 (by decide) lf_Mod_142 rfl h0 rfl rfl (Nat.le_of_ble_eq_true rfl) d_Mod_readDecimal_113 (fun w255 h0 e256 => ?_)
                              have h0 : w255 b = some (.inr (6, [.int th, .int (nI fd), .int (if sl then 1 else 0), .ref (b + 1), .ref (b + 2), .ref (b + 3), .ref (b + 4), .ref (b + 5), .ref (b + 6), .ref (b + 7), .int (nI kp), .ref (b + 8), .int (nI l0.length), .ref (b + 9), .int (nI sz), .ref (b + 10), .ref (b + 11), .ref (b + 12), .ref (b + 13), .int (nI ls), .int hz, .int (nI p2), .int 1])) := h0
                              have fr := fr.trans (Fr.sub (Fr.of1 e256) (by omega) (by omega))
                              have h1 := Fr.cell (Fr.of1 e256) h1 (by omega)
                              have h2 := Fr.cell (Fr.of1 e256) h2 (by omega)
                              have h3 := Fr.cell (Fr.of1 e256) h3 (by omega)
                              have h4 := Fr.cell (Fr.of1 e256) h4 (by omega)
                              have h5 := Fr.cell (Fr.of1 e256) h5 (by omega)
                              have h6 := Fr.cell (Fr.of1 e256) h6 (by omega)
                              have h7 := Fr.cell (Fr.of1 e256) h7 (by omega)
                              have h8 := Fr.cell (Fr.of1 e256) h8 (by omega)
                              have h9 := Fr.cell (Fr.of1 e256) h9 (by omega)
                              have h10 := Fr.cell (Fr.of1 e256) h10 (by omega)
                              have h11 := Fr.cell (Fr.of1 e256) h11 (by omega)
                              have h12 := Fr.cell (Fr.of1 e256) h12 (by omega)
                              have h13 := Fr.cell (Fr.of1 e256) h13 (by omega)
                              refine a_lload S d_Mod_readDecimal_116 rfl ?_
                              refine a_ldc2 S (v := 10) lK_Mod_111 d_Mod_readDecimal_118 ?_
                              refine a_lmul S d_Mod_readDecimal_121 ?_
                              refine a_iload S d_Mod_readDecimal_122 rfl ?_
                              refine a_i2l S d_Mod_readDecimal_124 ?_
                              refine a_ladd S d_Mod_readDecimal_125 ?_
                              refine a_lconst S (v := 1) d_Mod_readDecimal_126 (by decide) ?_
                              refine a_lsub S d_Mod_readDecimal_127 ?_
                              refine a_eql (y := (lN (q * 10 + (B - 1)))) (l_dig hB0 hB) ?_
                              refine a_lstore S d_Mod_readDecimal_128 (Nat.le_of_ble_eq_true rfl) (lv' := [(0, .ref b), (1, .int (nI k)), (2, .int (nI t)), (3, .int (nI (tnB t (l0.getD pt 0)))), (4, .int 0), (5, .int (-64)), (6, .long (lN (q * 10 + (B - 1)))), (8, .int (nI m)), (9, .int (nI B))]) rfl ?_
                              refine a_iinc S (v := nI (m + 1)) d_Mod_readDecimal_130 rfl (ni_add rfl (by decide)) (Nat.le_of_ble_eq_true rfl) (lv' := [(0, .ref b), (1, .int (nI k)), (2, .int (nI t)), (3, .int (nI (tnB t (l0.getD pt 0)))), (4, .int 0), (5, .int (-64)), (6, .long (lN (q * 10 + (B - 1)))), (8, .int (nI (m + 1))), (9, .int (nI B))]) rfl ?_
                              refine a_aload_n S d_Mod_readDecimal_133 rfl rfl ?_
                              refine a_iload_n S d_Mod_readDecimal_134 rfl rfl ?_
                              refine a_callV S (rest := []) lg_Mod_145 h0 (c_Mod_next X.2.1 D b th fd sl ki fl va fo go si te kp ro ma sz en ms lw hw ls hz p2 true l0 t w255 n hl hby hA (by omega) ht ⟨h0, h1, h2, h3, h4, h5, h6, h7, h8, h9, h10, h11, h12, h13⟩) (by decide) (by omega) (by omega) rfl (Nat.le_of_ble_eq_true rfl) d_Mod_readDecimal_135 (fun v257 w258 n259 p260 => ?_)
                              rcases p260 with ⟨hq263, rfl, e262, f261, h0, h1, h2, h3, h4, h5, h6, h7, h8, h9, h10, h11, h12, h13⟩ | ⟨hq263, rfl, e262, f261, h0, h1, h2, h3, h4, h5, h6, h7, h8, h9, h10, h11, h12, h13⟩
                              · rw [e262]
                                refine a_st (st' := [.int (nI (tnB t (l0.getD p2 0)))]) rfl ?_
                                have hbhq263 := tnB_lt (t := t) (getD_lt hby p2)
                                have fr := fr.trans (Fr.sub f261 (by omega) (by omega))
                                refine a_iload S d_Mod_readDecimal_138 rfl ?_
                                refine a_ixor S d_Mod_readDecimal_140 ?_
                                refine a_eqi (y := nI (tnB t (l0.getD p2 0))) (xor_g0 _) ?_
                                refine a_istore S d_Mod_readDecimal_141 (Nat.le_of_ble_eq_true rfl) (lv' := [(0, .ref b), (1, .int (nI k)), (2, .int (nI t)), (3, .int (nI (tnB t (l0.getD pt 0)))), (4, .int 0), (5, .int (-64)), (6, .long (lN (q * 10 + (B - 1)))), (8, .int (nI (m + 1))), (9, .int (nI (tnB t (l0.getD p2 0))))]) rfl ?_
                                refine a_goto S (tgt := 81) d_Mod_readDecimal_143 rfl ?_
                                exact ih81 _ (by omega) (q * 10 + (B - 1)) (m + 1) (tnB t (l0.getD p2 0)) true (p2 + 1) w258 rfl (Or.inr ⟨rfl, by omega⟩) (by omega) (tnB_lt (getD_lt hby _)) fr ⟨h0, h1, h2, h3, h4, h5, h6, h7, h8, h9, h10, h11, h12, h13⟩ (hC.big hB0 hbig)
                              · rw [e262]
                                refine a_st (st' := [.int 0]) rfl ?_
                                have fr := fr.trans (Fr.sub f261 (by omega) (by omega))
                                refine a_iload S d_Mod_readDecimal_138 rfl ?_
                                refine a_ixor S d_Mod_readDecimal_140 ?_
                                refine a_eqi (y := 0) (by decide) ?_
                                refine a_istore S d_Mod_readDecimal_141 (Nat.le_of_ble_eq_true rfl) (lv' := [(0, .ref b), (1, .int (nI k)), (2, .int (nI t)), (3, .int (nI (tnB t (l0.getD pt 0)))), (4, .int 0), (5, .int (-64)), (6, .long (lN (q * 10 + (B - 1)))), (8, .int (nI (m + 1))), (9, .int 0)]) rfl ?_
                                refine a_goto S (tgt := 81) d_Mod_readDecimal_143 rfl ?_
                                exact ih81 _ (by omega) (q * 10 + (B - 1)) (m + 1) 0 true p2 w258 rfl (Or.inr ⟨rfl, by omega⟩) (by omega) (by decide) fr ⟨h0, h1, h2, h3, h4, h5, h6, h7, h8, h9, h10, h11, h12, h13⟩ (hC.big hB0 hbig)
                  exact loop81 _ 0 0 0 true (pt + 1) w223 rfl (Or.inl (Nat.zero_le _)) (by omega) (by decide) fr ⟨h0, h1, h2, h3, h4, h5, h6, h7, h8, h9, h10, h11, h12, h13⟩ (RDc.dn hq7 hy2 hy1 hy3)
      · have hy1 : tnB t (l0.getD pt 0) = 1 := (nI_eq (by omega) (by decide)).mp h14
        have hy3 : ¬ tnB t (l0.getD pt 0) = 3 := by omega
        refine a_sipush S (v := 255) d_Mod_readDecimal_17 (by decide) ?_
        refine a_goto S (tgt := 24) d_Mod_readDecimal_20 rfl ?_
        refine a_istore S d_Mod_readDecimal_24 (Nat.le_of_ble_eq_true rfl) (lv' := [(0, .ref b), (1, .int (nI k)), (2, .int (nI t)), (3, .int (nI (tnB t (l0.getD pt 0)))), (4, .int 255)]) rfl ?_
        refine a_aload_n S d_Mod_readDecimal_26 rfl rfl ?_
        refine a_aload_n S d_Mod_readDecimal_27 rfl rfl ?_
        refine a_get S kc_Mod 22 (by decide) lf_Mod_142 h0 rfl d_Mod_readDecimal_28 ?_
        refine a_if_ne S (tgt := 44) d_Mod_readDecimal_31 rfl (fun h31 => ?_) (fun h31 => ?_)
        · exact absurd rfl h31
        · refine a_iload_n S d_Mod_readDecimal_34 rfl rfl ?_
          refine a_iconst S (v := 1) d_Mod_readDecimal_35 (by decide) ?_
          refine a_icmp_eq S (tgt := 48) d_Mod_readDecimal_36 rfl (fun h36 => ?_) (fun h36 => ?_)
          · refine a_iconst S (v := 0) d_Mod_readDecimal_48 (by decide) ?_
            refine a_put S kc_Mod kt_Mod 22 (by decide) lf_Mod_142 rfl h0 rfl rfl (Nat.le_of_ble_eq_true rfl) d_Mod_readDecimal_49 (fun w264 h0 e265 => ?_)
            have h0 : w264 b = some (.inr (6, [.int th, .int (nI fd), .int (if sl then 1 else 0), .ref (b + 1), .ref (b + 2), .ref (b + 3), .ref (b + 4), .ref (b + 5), .ref (b + 6), .ref (b + 7), .int (nI kp), .ref (b + 8), .int (nI l0.length), .ref (b + 9), .int (nI sz), .ref (b + 10), .ref (b + 11), .ref (b + 12), .ref (b + 13), .int (nI ls), .int hz, .int (nI (pt + 1)), .int 0])) := h0
            have fr := fr.trans (Fr.sub (Fr.of1 e265) (by omega) (by omega))
            have h1 := Fr.cell (Fr.of1 e265) h1 (by omega)
            have h2 := Fr.cell (Fr.of1 e265) h2 (by omega)
            have h3 := Fr.cell (Fr.of1 e265) h3 (by omega)
            have h4 := Fr.cell (Fr.of1 e265) h4 (by omega)
            have h5 := Fr.cell (Fr.of1 e265) h5 (by omega)
            have h6 := Fr.cell (Fr.of1 e265) h6 (by omega)
            have h7 := Fr.cell (Fr.of1 e265) h7 (by omega)
            have h8 := Fr.cell (Fr.of1 e265) h8 (by omega)
            have h9 := Fr.cell (Fr.of1 e265) h9 (by omega)
            have h10 := Fr.cell (Fr.of1 e265) h10 (by omega)
            have h11 := Fr.cell (Fr.of1 e265) h11 (by omega)
            have h12 := Fr.cell (Fr.of1 e265) h12 (by omega)
            have h13 := Fr.cell (Fr.of1 e265) h13 (by omega)
            refine a_aload_n S d_Mod_readDecimal_52 rfl rfl ?_
            refine a_iload_n S d_Mod_readDecimal_53 rfl rfl ?_
            refine a_callV S (rest := []) lg_Mod_145 h0 (c_Mod_next X.2.1 D b th fd sl ki fl va fo go si te kp ro ma sz en ms lw hw ls hz (pt + 1) false l0 t w264 n hl hby hA (by omega) ht ⟨h0, h1, h2, h3, h4, h5, h6, h7, h8, h9, h10, h11, h12, h13⟩) (by decide) (by omega) (by omega) rfl (Nat.le_of_ble_eq_true rfl) d_Mod_readDecimal_54 (fun v266 w267 n268 p269 => ?_)
            rcases p269 with ⟨hq272, rfl, e271, f270, h0, h1, h2, h3, h4, h5, h6, h7, h8, h9, h10, h11, h12, h13⟩ | ⟨hq272, rfl, e271, f270, h0, h1, h2, h3, h4, h5, h6, h7, h8, h9, h10, h11, h12, h13⟩
            · rw [e271]
              refine a_st (st' := [.int (nI (tnB t (l0.getD (pt + 1) 0)))]) rfl ?_
              have hbhq272 := tnB_lt (t := t) (getD_lt hby (pt + 1))
              have fr := fr.trans (Fr.sub f270 (by omega) (by omega))
              refine a_iload S d_Mod_readDecimal_57 rfl ?_
              refine a_ixor S d_Mod_readDecimal_59 ?_
              refine a_eqi (y := nI (tnB (255 - t) (l0.getD (pt + 1) 0))) (xor_g1 ht (getD_lt hby (pt + 1))) ?_
              refine a_bipush S (v := 64) d_Mod_readDecimal_60 (by decide) ?_
              refine a_isub S d_Mod_readDecimal_62 ?_
              refine a_istore S d_Mod_readDecimal_63 (Nat.le_of_ble_eq_true rfl) (lv' := [(0, .ref b), (1, .int (nI k)), (2, .int (nI t)), (3, .int (nI (tnB t (l0.getD pt 0)))), (4, .int 255), (5, .int (nI (tnB (255 - t) (l0.getD (pt + 1) 0)) - 64))]) rfl ?_
              refine a_lconst S (v := 0) d_Mod_readDecimal_65 (by decide) ?_
              refine a_lstore S d_Mod_readDecimal_66 (Nat.le_of_ble_eq_true rfl) (lv' := [(0, .ref b), (1, .int (nI k)), (2, .int (nI t)), (3, .int (nI (tnB t (l0.getD pt 0)))), (4, .int 255), (5, .int (nI (tnB (255 - t) (l0.getD (pt + 1) 0)) - 64)), (6, .long 0)]) rfl ?_
              refine a_iconst S (v := 0) d_Mod_readDecimal_68 (by decide) ?_
              refine a_istore S d_Mod_readDecimal_69 (Nat.le_of_ble_eq_true rfl) (lv' := [(0, .ref b), (1, .int (nI k)), (2, .int (nI t)), (3, .int (nI (tnB t (l0.getD pt 0)))), (4, .int 255), (5, .int (nI (tnB (255 - t) (l0.getD (pt + 1) 0)) - 64)), (6, .long 0), (8, .int 0)]) rfl ?_
              refine a_aload_n S d_Mod_readDecimal_71 rfl rfl ?_
              refine a_iload_n S d_Mod_readDecimal_72 rfl rfl ?_
              refine a_callV S (rest := []) lg_Mod_145 h0 (c_Mod_next X.2.1 D b th fd sl ki fl va fo go si te kp ro ma sz en ms lw hw ls hz (pt + 1 + 1) false l0 t w267 n hl hby hA (by omega) ht ⟨h0, h1, h2, h3, h4, h5, h6, h7, h8, h9, h10, h11, h12, h13⟩) (by decide) (by omega) (by omega) rfl (Nat.le_of_ble_eq_true rfl) d_Mod_readDecimal_73 (fun v273 w274 n275 p276 => ?_)
              rcases p276 with ⟨hq279, rfl, e278, f277, h0, h1, h2, h3, h4, h5, h6, h7, h8, h9, h10, h11, h12, h13⟩ | ⟨hq279, rfl, e278, f277, h0, h1, h2, h3, h4, h5, h6, h7, h8, h9, h10, h11, h12, h13⟩
              · rw [e278]
                refine a_st (st' := [.int (nI (tnB t (l0.getD (pt + 1 + 1) 0)))]) rfl ?_
                have hbhq279 := tnB_lt (t := t) (getD_lt hby (pt + 1 + 1))
                have fr := fr.trans (Fr.sub f277 (by omega) (by omega))
                refine a_iload S d_Mod_readDecimal_76 rfl ?_
                refine a_ixor S d_Mod_readDecimal_78 ?_
                refine a_eqi (y := nI (tnB (255 - t) (l0.getD (pt + 1 + 1) 0))) (xor_g1 ht (getD_lt hby (pt + 1 + 1))) ?_
                refine a_istore S d_Mod_readDecimal_79 (Nat.le_of_ble_eq_true rfl) (lv' := [(0, .ref b), (1, .int (nI k)), (2, .int (nI t)), (3, .int (nI (tnB t (l0.getD pt 0)))), (4, .int 255), (5, .int (nI (tnB (255 - t) (l0.getD (pt + 1) 0)) - 64)), (6, .long 0), (8, .int 0), (9, .int (nI (tnB (255 - t) (l0.getD (pt + 1 + 1) 0))))]) rfl ?_
                have loop81 : ∀ (kk81 : Nat) (q m B : Nat) (b1 : Bool) (p2 : Nat) (w1 : ww), 17 - m = kk81 → (m ≤ 16 ∨ (b1 = true ∧ m ≤ 17)) → (p2 ≤ l0.length) → (B < 256) → (Fr w w1 b 14) → (Mo D w1 b th fd sl ki fl va fo go si te kp ro l0.length ma sz en ms lw hw ls hz p2 b1) → (RDc t l0 pt (255 - t) (-1) (nI (tnB (255 - t) (l0.getD (pt + 1) 0)) - 64) p2 q m B b1) → AW X (D, A, 10, Q) 81 [(0, .ref b), (1, .int (nI k)), (2, .int (nI t)), (3, .int (nI (tnB t (l0.getD pt 0)))), (4, .int 255), (5, .int (nI (tnB (255 - t) (l0.getD (pt + 1) 0)) - 64)), (6, .long (lN q)), (8, .int (nI m)), (9, .int (nI B))] [] w1 n (((0 + 0) + 0) + 0) (((0 + 0) + 0) + 0) := by
                  intro kk81
                  induction kk81 using Nat.strongRecOn with
                  | ind kk81 ih81 =>
                    intro q m B b1 p2 w1 hk81 hm hp2 hB fr h hC
                    obtain ⟨h0, h1, h2, h3, h4, h5, h6, h7, h8, h9, h10, h11, h12, h13⟩ := h
                    refine a_iload S d_Mod_readDecimal_81 rfl ?_
                    refine a_if_eq S (tgt := 146) d_Mod_readDecimal_83 rfl (fun h83 => ?_) (fun h83 => ?_)
                    · have hx : B = 0 ∨ b1 = true := Or.inl ((nI_eq (by omega) (by decide)).mp h83)
                      refine a_aload_n S d_Mod_readDecimal_146 rfl rfl ?_
                      refine a_get S kc_Mod 5 (by decide) lf_Mod_16 h0 rfl d_Mod_readDecimal_147 ?_
                      refine a_iload_n S d_Mod_readDecimal_150 rfl rfl ?_
                      refine a_iload S d_Mod_readDecimal_151 rfl ?_
                      refine a_sipush S (v := 255) d_Mod_readDecimal_153 (by decide) ?_
                      refine a_icmp_ne S (tgt := 166) d_Mod_readDecimal_156 rfl (fun h156 => ?_) (fun h156 => ?_)
                      · exact absurd (by decide) h156
                      · refine a_lconst S (v := 0) d_Mod_readDecimal_159 (by decide) ?_
                        refine a_lload S d_Mod_readDecimal_160 rfl ?_
                        refine a_lsub S d_Mod_readDecimal_162 ?_
                        refine a_goto S (tgt := 168) d_Mod_readDecimal_163 rfl ?_
                        refine a_last S (i := k) h3 rfl (by omega) (by decide) d_Mod_readDecimal_168 (fun w280 h3 e281 => ?_)
                        have fr := fr.trans (Fr.sub (Fr.of1 e281) (by omega) (by omega))
                        have h0 := Fr.cell (Fr.of1 e281) h0 (by omega)
                        have h1 := Fr.cell (Fr.of1 e281) h1 (by omega)
                        have h2 := Fr.cell (Fr.of1 e281) h2 (by omega)
                        have h4 := Fr.cell (Fr.of1 e281) h4 (by omega)
                        have h5 := Fr.cell (Fr.of1 e281) h5 (by omega)
                        have h6 := Fr.cell (Fr.of1 e281) h6 (by omega)
                        have h7 := Fr.cell (Fr.of1 e281) h7 (by omega)
                        have h8 := Fr.cell (Fr.of1 e281) h8 (by omega)
                        have h9 := Fr.cell (Fr.of1 e281) h9 (by omega)
                        have h10 := Fr.cell (Fr.of1 e281) h10 (by omega)
                        have h11 := Fr.cell (Fr.of1 e281) h11 (by omega)
                        have h12 := Fr.cell (Fr.of1 e281) h12 (by omega)
                        have h13 := Fr.cell (Fr.of1 e281) h13 (by omega)
                        refine a_aload_n S d_Mod_readDecimal_169 rfl rfl ?_
                        refine a_get S kc_Mod 6 (by decide) lf_Mod_20 h0 rfl d_Mod_readDecimal_170 ?_
                        refine a_iload_n S d_Mod_readDecimal_173 rfl rfl ?_
                        refine a_iload S d_Mod_readDecimal_174 rfl ?_
                        refine a_iload S d_Mod_readDecimal_176 rfl ?_
                        refine a_isub S d_Mod_readDecimal_178 ?_
                        refine a_iast S (i := k) h4 rfl (by omega) (by decide) d_Mod_readDecimal_179 (fun w282 h4 e283 => ?_)
                        have fr := fr.trans (Fr.sub (Fr.of1 e283) (by omega) (by omega))
                        have h0 := Fr.cell (Fr.of1 e283) h0 (by omega)
                        have h1 := Fr.cell (Fr.of1 e283) h1 (by omega)
                        have h2 := Fr.cell (Fr.of1 e283) h2 (by omega)
                        have h3 := Fr.cell (Fr.of1 e283) h3 (by omega)
                        have h5 := Fr.cell (Fr.of1 e283) h5 (by omega)
                        have h6 := Fr.cell (Fr.of1 e283) h6 (by omega)
                        have h7 := Fr.cell (Fr.of1 e283) h7 (by omega)
                        have h8 := Fr.cell (Fr.of1 e283) h8 (by omega)
                        have h9 := Fr.cell (Fr.of1 e283) h9 (by omega)
                        have h10 := Fr.cell (Fr.of1 e283) h10 (by omega)
                        have h11 := Fr.cell (Fr.of1 e283) h11 (by omega)
                        have h12 := Fr.cell (Fr.of1 e283) h12 (by omega)
                        have h13 := Fr.cell (Fr.of1 e283) h13 (by omega)
                        exact RT _ _ _ _ _ _ d_Mod_readDecimal_180 (by omega) (by omega) ⟨_, _, _, _, p2, b1, rfl, rfl, fr, ⟨h0, h1, h2, h3, h4, h5, h6, h7, h8, h9, h10, h11, h12, h13⟩, hp2, DX.up, (fun d0 e0 rest g => have z := hC.e hx d0 e0 rest g; ⟨z.1, by rw [← z.2.1, (sg_n (lN q))], z.2.2.1, z.2.2.2⟩)⟩
                    · have hB0 : ¬ B = 0 := fun z => h83 (by rw [z]; rfl)
                      refine a_aload_n S d_Mod_readDecimal_86 rfl rfl ?_
                      refine a_get S kc_Mod 22 (by decide) lf_Mod_142 h0 rfl d_Mod_readDecimal_87 ?_
                      refine a_if_ne S (tgt := 146) d_Mod_readDecimal_90 rfl (fun h90 => ?_) (fun h90 => ?_)
                      · have hx : B = 0 ∨ b1 = true := Or.inr (bo_1 h90)
                        refine a_aload_n S d_Mod_readDecimal_146 rfl rfl ?_
                        refine a_get S kc_Mod 5 (by decide) lf_Mod_16 h0 rfl d_Mod_readDecimal_147 ?_
                        refine a_iload_n S d_Mod_readDecimal_150 rfl rfl ?_
                        refine a_iload S d_Mod_readDecimal_151 rfl ?_
                        refine a_sipush S (v := 255) d_Mod_readDecimal_153 (by decide) ?_
                        refine a_icmp_ne S (tgt := 166) d_Mod_readDecimal_156 rfl (fun h156 => ?_) (fun h156 => ?_)
                        · exact absurd (by decide) h156
                        · refine a_lconst S (v := 0) d_Mod_readDecimal_159 (by decide) ?_
                          refine a_lload S d_Mod_readDecimal_160 rfl ?_
                          refine a_lsub S d_Mod_readDecimal_162 ?_
                          refine a_goto S (tgt := 168) d_Mod_readDecimal_163 rfl ?_
                          refine a_last S (i := k) h3 rfl (by omega) (by decide) d_Mod_readDecimal_168 (fun w284 h3 e285 => ?_)
                          have fr := fr.trans (Fr.sub (Fr.of1 e285) (by omega) (by omega))
                          have h0 := Fr.cell (Fr.of1 e285) h0 (by omega)
                          have h1 := Fr.cell (Fr.of1 e285) h1 (by omega)
                          have h2 := Fr.cell (Fr.of1 e285) h2 (by omega)
                          have h4 := Fr.cell (Fr.of1 e285) h4 (by omega)
                          have h5 := Fr.cell (Fr.of1 e285) h5 (by omega)
                          have h6 := Fr.cell (Fr.of1 e285) h6 (by omega)
                          have h7 := Fr.cell (Fr.of1 e285) h7 (by omega)
                          have h8 := Fr.cell (Fr.of1 e285) h8 (by omega)
                          have h9 := Fr.cell (Fr.of1 e285) h9 (by omega)
                          have h10 := Fr.cell (Fr.of1 e285) h10 (by omega)
                          have h11 := Fr.cell (Fr.of1 e285) h11 (by omega)
                          have h12 := Fr.cell (Fr.of1 e285) h12 (by omega)
                          have h13 := Fr.cell (Fr.of1 e285) h13 (by omega)
                          refine a_aload_n S d_Mod_readDecimal_169 rfl rfl ?_
                          refine a_get S kc_Mod 6 (by decide) lf_Mod_20 h0 rfl d_Mod_readDecimal_170 ?_
                          refine a_iload_n S d_Mod_readDecimal_173 rfl rfl ?_
                          refine a_iload S d_Mod_readDecimal_174 rfl ?_
                          refine a_iload S d_Mod_readDecimal_176 rfl ?_
                          refine a_isub S d_Mod_readDecimal_178 ?_
                          refine a_iast S (i := k) h4 rfl (by omega) (by decide) d_Mod_readDecimal_179 (fun w286 h4 e287 => ?_)
                          have fr := fr.trans (Fr.sub (Fr.of1 e287) (by omega) (by omega))
                          have h0 := Fr.cell (Fr.of1 e287) h0 (by omega)
                          have h1 := Fr.cell (Fr.of1 e287) h1 (by omega)
                          have h2 := Fr.cell (Fr.of1 e287) h2 (by omega)
                          have h3 := Fr.cell (Fr.of1 e287) h3 (by omega)
                          have h5 := Fr.cell (Fr.of1 e287) h5 (by omega)
                          have h6 := Fr.cell (Fr.of1 e287) h6 (by omega)
                          have h7 := Fr.cell (Fr.of1 e287) h7 (by omega)
                          have h8 := Fr.cell (Fr.of1 e287) h8 (by omega)
                          have h9 := Fr.cell (Fr.of1 e287) h9 (by omega)
                          have h10 := Fr.cell (Fr.of1 e287) h10 (by omega)
                          have h11 := Fr.cell (Fr.of1 e287) h11 (by omega)
                          have h12 := Fr.cell (Fr.of1 e287) h12 (by omega)
                          have h13 := Fr.cell (Fr.of1 e287) h13 (by omega)
                          exact RT _ _ _ _ _ _ d_Mod_readDecimal_180 (by omega) (by omega) ⟨_, _, _, _, p2, b1, rfl, rfl, fr, ⟨h0, h1, h2, h3, h4, h5, h6, h7, h8, h9, h10, h11, h12, h13⟩, hp2, DX.up, (fun d0 e0 rest g => have z := hC.e hx d0 e0 rest g; ⟨z.1, by rw [← z.2.1, (sg_n (lN q))], z.2.2.1, z.2.2.2⟩)⟩
                      · obtain rfl : b1 = false := bo_0 h90
                        have hm2 : m ≤ 16 := hm.elim id (fun z => by cases z.1)
                        refine a_aload_n S d_Mod_readDecimal_93 rfl rfl ?_
                        refine a_iload S d_Mod_readDecimal_94 rfl ?_
                        refine a_bipush S (v := 10) d_Mod_readDecimal_96 (by decide) ?_
                        refine a_icmp_gt S (tgt := 108) d_Mod_readDecimal_98 rfl (fun h98 => ?_) (fun h98 => ?_)
                        · have hbig : 10 < B ∨ m = 16 := Or.inl ((nI_ltI (by decide) (by omega)).mp h98)
                          refine a_iconst S (v := 1) d_Mod_readDecimal_108 (by decide) ?_
                          refine a_goto S (tgt := 113) d_Mod_readDecimal_109 rfl ?_
                          refine a_put S kc_Mod kt_Mod 22 (by decide) lf_Mod_142 rfl h0 rfl rfl (Nat.le_of_ble_eq_true rfl) d_Mod_readDecimal_113 (fun w288 h0 e289 => ?_)
                          have h0 : w288 b = some (.inr (6, [.int th, .int (nI fd), .int (if sl then 1 else 0), .ref (b + 1), .ref (b + 2), .ref (b + 3), .ref (b + 4), .ref (b + 5), .ref (b + 6), .ref (b + 7), .int (nI kp), .ref (b + 8), .int (nI l0.length), .ref (b + 9), .int (nI sz), .ref (b + 10), .ref (b + 11), .ref (b + 12), .ref (b + 13), .int (nI ls), .int hz, .int (nI p2), .int 1])) := h0
                          have fr := fr.trans (Fr.sub (Fr.of1 e289) (by omega) (by omega))
                          have h1 := Fr.cell (Fr.of1 e289) h1 (by omega)
                          have h2 := Fr.cell (Fr.of1 e289) h2 (by omega)
                          have h3 := Fr.cell (Fr.of1 e289) h3 (by omega)
                          have h4 := Fr.cell (Fr.of1 e289) h4 (by omega)
                          have h5 := Fr.cell (Fr.of1 e289) h5 (by omega)
                          have h6 := Fr.cell (Fr.of1 e289) h6 (by omega)
                          have h7 := Fr.cell (Fr.of1 e289) h7 (by omega)
                          have h8 := Fr.cell (Fr.of1 e289) h8 (by omega)
                          have h9 := Fr.cell (Fr.of1 e289) h9 (by omega)
                          have h10 := Fr.cell (Fr.of1 e289) h10 (by omega)
                          have h11 := Fr.cell (Fr.of1 e289) h11 (by omega)
                          have h12 := Fr.cell (Fr.of1 e289) h12 (by omega)
                          have h13 := Fr.cell (Fr.of1 e289) h13 (by omega)
                          refine a_lload S d_Mod_readDecimal_116 rfl ?_
                          refine a_ldc2 S (v := 10) lK_Mod_111 d_Mod_readDecimal_118 ?_
                          refine a_lmul S d_Mod_readDecimal_121 ?_
                          refine a_iload S d_Mod_readDecimal_122 rfl ?_
                          refine a_i2l S d_Mod_readDecimal_124 ?_
                          refine a_ladd S d_Mod_readDecimal_125 ?_
                          refine a_lconst S (v := 1) d_Mod_readDecimal_126 (by decide) ?_
                          refine a_lsub S d_Mod_readDecimal_127 ?_
                          refine a_eql (y := (lN (q * 10 + (B - 1)))) (l_dig hB0 hB) ?_
                          refine a_lstore S d_Mod_readDecimal_128 (Nat.le_of_ble_eq_true rfl) (lv' := [(0, .ref b), (1, .int (nI k)), (2, .int (nI t)), (3, .int (nI (tnB t (l0.getD pt 0)))), (4, .int 255), (5, .int (nI (tnB (255 - t) (l0.getD (pt + 1) 0)) - 64)), (6, .long (lN (q * 10 + (B - 1)))), (8, .int (nI m)), (9, .int (nI B))]) rfl ?_
                          refine a_iinc S (v := nI (m + 1)) d_Mod_readDecimal_130 rfl (ni_add rfl (by decide)) (Nat.le_of_ble_eq_true rfl) (lv' := [(0, .ref b), (1, .int (nI k)), (2, .int (nI t)), (3, .int (nI (tnB t (l0.getD pt 0)))), (4, .int 255), (5, .int (nI (tnB (255 - t) (l0.getD (pt + 1) 0)) - 64)), (6, .long (lN (q * 10 + (B - 1)))), (8, .int (nI (m + 1))), (9, .int (nI B))]) rfl ?_
                          refine a_aload_n S d_Mod_readDecimal_133 rfl rfl ?_
                          refine a_iload_n S d_Mod_readDecimal_134 rfl rfl ?_
                          refine a_callV S (rest := []) lg_Mod_145 h0 (c_Mod_next X.2.1 D b th fd sl ki fl va fo go si te kp ro ma sz en ms lw hw ls hz p2 true l0 t w288 n hl hby hA (by omega) ht ⟨h0, h1, h2, h3, h4, h5, h6, h7, h8, h9, h10, h11, h12, h13⟩) (by decide) (by omega) (by omega) rfl (Nat.le_of_ble_eq_true rfl) d_Mod_readDecimal_135 (fun v290 w291 n292 p293 => ?_)
                          rcases p293 with ⟨hq296, rfl, e295, f294, h0, h1, h2, h3, h4, h5, h6, h7, h8, h9, h10, h11, h12, h13⟩ | ⟨hq296, rfl, e295, f294, h0, h1, h2, h3, h4, h5, h6, h7, h8, h9, h10, h11, h12, h13⟩
                          · rw [e295]
                            refine a_st (st' := [.int (nI (tnB t (l0.getD p2 0)))]) rfl ?_
                            have hbhq296 := tnB_lt (t := t) (getD_lt hby p2)
                            have fr := fr.trans (Fr.sub f294 (by omega) (by omega))
                            refine a_iload S d_Mod_readDecimal_138 rfl ?_
                            refine a_ixor S d_Mod_readDecimal_140 ?_
                            refine a_eqi (y := nI (tnB (255 - t) (l0.getD p2 0))) (xor_g1 ht (getD_lt hby p2)) ?_
                            refine a_istore S d_Mod_readDecimal_141 (Nat.le_of_ble_eq_true rfl) (lv' := [(0, .ref b), (1, .int (nI k)), (2, .int (nI t)), (3, .int (nI (tnB t (l0.getD pt 0)))), (4, .int 255), (5, .int (nI (tnB (255 - t) (l0.getD (pt + 1) 0)) - 64)), (6, .long (lN (q * 10 + (B - 1)))), (8, .int (nI (m + 1))), (9, .int (nI (tnB (255 - t) (l0.getD p2 0))))]) rfl ?_
                            refine a_goto S (tgt := 81) d_Mod_readDecimal_143 rfl ?_
                            exact ih81 _ (by omega) (q * 10 + (B - 1)) (m + 1) (tnB (255 - t) (l0.getD p2 0)) true (p2 + 1) w291 rfl (Or.inr ⟨rfl, by omega⟩) (by omega) (tnB_lt (getD_lt hby _)) fr ⟨h0, h1, h2, h3, h4, h5, h6, h7, h8, h9, h10, h11, h12, h13⟩ (hC.big hB0 hbig)
                          · rw [e295]
                            refine a_st (st' := [.int 0]) rfl ?_
                            have fr := fr.trans (Fr.sub f294 (by omega) (by omega))
                            refine a_iload S d_Mod_readDecimal_138 rfl ?_
                            refine a_ixor S d_Mod_readDecimal_140 ?_
                            refine a_eqi (y := 255) (by decide) ?_
                            refine a_istore S d_Mod_readDecimal_141 (Nat.le_of_ble_eq_true rfl) (lv' := [(0, .ref b), (1, .int (nI k)), (2, .int (nI t)), (3, .int (nI (tnB t (l0.getD pt 0)))), (4, .int 255), (5, .int (nI (tnB (255 - t) (l0.getD (pt + 1) 0)) - 64)), (6, .long (lN (q * 10 + (B - 1)))), (8, .int (nI (m + 1))), (9, .int 255)]) rfl ?_
                            refine a_goto S (tgt := 81) d_Mod_readDecimal_143 rfl ?_
                            exact ih81 _ (by omega) (q * 10 + (B - 1)) (m + 1) 255 true p2 w291 rfl (Or.inr ⟨rfl, by omega⟩) (by omega) (by decide) fr ⟨h0, h1, h2, h3, h4, h5, h6, h7, h8, h9, h10, h11, h12, h13⟩ (hC.big hB0 hbig)
                        · have hB10 : ¬ 10 < B := fun z => h98 ((nI_ltI (by decide) (by omega)).mpr z)
                          refine a_iload S d_Mod_readDecimal_101 rfl ?_
                          refine a_bipush S (v := 16) d_Mod_readDecimal_103 (by decide) ?_
                          refine a_icmp_ne S (tgt := 112) d_Mod_readDecimal_105 rfl (fun h105 => ?_) (fun h105 => ?_)
                          · have hm16 : ¬ m = 16 := fun z => h105 (by rw [z]; rfl)
                            refine a_iconst S (v := 0) d_Mod_readDecimal_112 (by decide) ?_
                            refine a_put S kc_Mod kt_Mod 22 (by decide) lf_Mod_142 rfl h0 rfl rfl (Nat.le_of_ble_eq_true rfl) d_Mod_readDecimal_113 (fun w297 h0 e298 => ?_)
                            have h0 : w297 b = some (.inr (6, [.int th, .int (nI fd), .int (if sl then 1 else 0), .ref (b + 1), .ref (b + 2), .ref (b + 3), .ref (b + 4), .ref (b + 5), .ref (b + 6), .ref (b + 7), .int (nI kp), .ref (b + 8), .int (nI l0.length), .ref (b + 9), .int (nI sz), .ref (b + 10), .ref (b + 11), .ref (b + 12), .ref (b + 13), .int (nI ls), .int hz, .int (nI p2), .int 0])) := h0
                            have fr := fr.trans (Fr.sub (Fr.of1 e298) (by omega) (by omega))
                            have h1 := Fr.cell (Fr.of1 e298) h1 (by omega)
                            have h2 := Fr.cell (Fr.of1 e298) h2 (by omega)
                            have h3 := Fr.cell (Fr.of1 e298) h3 (by omega)
                            have h4 := Fr.cell (Fr.of1 e298) h4 (by omega)
                            have h5 := Fr.cell (Fr.of1 e298) h5 (by omega)
                            have h6 := Fr.cell (Fr.of1 e298) h6 (by omega)
                            have h7 := Fr.cell (Fr.of1 e298) h7 (by omega)
                            have h8 := Fr.cell (Fr.of1 e298) h8 (by omega)
                            have h9 := Fr.cell (Fr.of1 e298) h9 (by omega)
                            have h10 := Fr.cell (Fr.of1 e298) h10 (by omega)
                            have h11 := Fr.cell (Fr.of1 e298) h11 (by omega)
                            have h12 := Fr.cell (Fr.of1 e298) h12 (by omega)
                            have h13 := Fr.cell (Fr.of1 e298) h13 (by omega)
                            refine a_lload S d_Mod_readDecimal_116 rfl ?_
                            refine a_ldc2 S (v := 10) lK_Mod_111 d_Mod_readDecimal_118 ?_
                            refine a_lmul S d_Mod_readDecimal_121 ?_
                            refine a_iload S d_Mod_readDecimal_122 rfl ?_
                            refine a_i2l S d_Mod_readDecimal_124 ?_
                            refine a_ladd S d_Mod_readDecimal_125 ?_
                            refine a_lconst S (v := 1) d_Mod_readDecimal_126 (by decide) ?_
                            refine a_lsub S d_Mod_readDecimal_127 ?_
                            refine a_eql (y := (lN (q * 10 + (B - 1)))) (l_dig hB0 hB) ?_
                            refine a_lstore S d_Mod_readDecimal_128 (Nat.le_of_ble_eq_true rfl) (lv' := [(0, .ref b), (1, .int (nI k)), (2, .int (nI t)), (3, .int (nI (tnB t (l0.getD pt 0)))), (4, .int 255), (5, .int (nI (tnB (255 - t) (l0.getD (pt + 1) 0)) - 64)), (6, .long (lN (q * 10 + (B - 1)))), (8, .int (nI m)), (9, .int (nI B))]) rfl ?_
                            refine a_iinc S (v := nI (m + 1)) d_Mod_readDecimal_130 rfl (ni_add rfl (by decide)) (Nat.le_of_ble_eq_true rfl) (lv' := [(0, .ref b), (1, .int (nI k)), (2, .int (nI t)), (3, .int (nI (tnB t (l0.getD pt 0)))), (4, .int 255), (5, .int (nI (tnB (255 - t) (l0.getD (pt + 1) 0)) - 64)), (6, .long (lN (q * 10 + (B - 1)))), (8, .int (nI (m + 1))), (9, .int (nI B))]) rfl ?_
                            refine a_aload_n S d_Mod_readDecimal_133 rfl rfl ?_
                            refine a_iload_n S d_Mod_readDecimal_134 rfl rfl ?_
                            refine a_callV S (rest := []) lg_Mod_145 h0 (c_Mod_next X.2.1 D b th fd sl ki fl va fo go si te kp ro ma sz en ms lw hw ls hz p2 false l0 t w297 n hl hby hA (by omega) ht ⟨h0, h1, h2, h3, h4, h5, h6, h7, h8, h9, h10, h11, h12, h13⟩) (by decide) (by omega) (by omega) rfl (Nat.le_of_ble_eq_true rfl) d_Mod_readDecimal_135 (fun v299 w300 n301 p302 => ?_)
                            rcases p302 with ⟨hq305, rfl, e304, f303, h0, h1, h2, h3, h4, h5, h6, h7, h8, h9, h10, h11, h12, h13⟩ | ⟨hq305, rfl, e304, f303, h0, h1, h2, h3, h4, h5, h6, h7, h8, h9, h10, h11, h12, h13⟩
                            · rw [e304]
                              refine a_st (st' := [.int (nI (tnB t (l0.getD p2 0)))]) rfl ?_
                              have hbhq305 := tnB_lt (t := t) (getD_lt hby p2)
                              have fr := fr.trans (Fr.sub f303 (by omega) (by omega))
                              refine a_iload S d_Mod_readDecimal_138 rfl ?_
                              refine a_ixor S d_Mod_readDecimal_140 ?_
                              refine a_eqi (y := nI (tnB (255 - t) (l0.getD p2 0))) (xor_g1 ht (getD_lt hby p2)) ?_
                              refine a_istore S d_Mod_readDecimal_141 (Nat.le_of_ble_eq_true rfl) (lv' := [(0, .ref b), (1, .int (nI k)), (2, .int (nI t)), (3, .int (nI (tnB t (l0.getD pt 0)))), (4, .int 255), (5, .int (nI (tnB (255 - t) (l0.getD (pt + 1) 0)) - 64)), (6, .long (lN (q * 10 + (B - 1)))), (8, .int (nI (m + 1))), (9, .int (nI (tnB (255 - t) (l0.getD p2 0))))]) rfl ?_
                              refine a_goto S (tgt := 81) d_Mod_readDecimal_143 rfl ?_
                              exact ih81 _ (by omega) (q * 10 + (B - 1)) (m + 1) (tnB (255 - t) (l0.getD p2 0)) false (p2 + 1) w300 rfl (by omega) (by omega) (tnB_lt (getD_lt hby _)) fr ⟨h0, h1, h2, h3, h4, h5, h6, h7, h8, h9, h10, h11, h12, h13⟩ (hC.s hB0 hB10 hm16 hq305)
                            · rw [e304]
                              refine a_st (st' := [.int 0]) rfl ?_
                              have fr := fr.trans (Fr.sub f303 (by omega) (by omega))
                              refine a_iload S d_Mod_readDecimal_138 rfl ?_
                              refine a_ixor S d_Mod_readDecimal_140 ?_
                              refine a_eqi (y := 255) (by decide) ?_
                              refine a_istore S d_Mod_readDecimal_141 (Nat.le_of_ble_eq_true rfl) (lv' := [(0, .ref b), (1, .int (nI k)), (2, .int (nI t)), (3, .int (nI (tnB t (l0.getD pt 0)))), (4, .int 255), (5, .int (nI (tnB (255 - t) (l0.getD (pt + 1) 0)) - 64)), (6, .long (lN (q * 10 + (B - 1)))), (8, .int (nI (m + 1))), (9, .int 255)]) rfl ?_
                              refine a_goto S (tgt := 81) d_Mod_readDecimal_143 rfl ?_
                              exact ih81 _ (by omega) (q * 10 + (B - 1)) (m + 1) 255 true p2 w300 rfl (by omega) (by omega) (by decide) fr ⟨h0, h1, h2, h3, h4, h5, h6, h7, h8, h9, h10, h11, h12, h13⟩ (hC.se hB0 hB10 hm16 hq305)
                          · have hbig : 10 < B ∨ m = 16 := Or.inr ((nI_eq (by omega) (by decide)).mp h105)
                            refine a_iconst S (v := 1) d_Mod_readDecimal_108 (by decide) ?_
                            refine a_goto S (tgt := 113) d_Mod_readDecimal_109 rfl ?_
                            refine a_put S kc_Mod kt_Mod 22 (by decide) lf_Mod_142 rfl h0 rfl rfl (Nat.le_of_ble_eq_true rfl) d_Mod_readDecimal_113 (fun w306 h0 e307 => ?_)
                            have h0 : w306 b = some (.inr (6, [.int th, .int (nI fd), .int (if sl then 1 else 0), .ref (b + 1), .ref (b + 2), .ref (b + 3), .ref (b + 4), .ref (b + 5), .ref (b + 6), .ref (b + 7), .int (nI kp), .ref (b + 8), .int (nI l0.length), .ref (b + 9), .int (nI sz), .ref (b + 10), .ref (b + 11), .ref (b + 12), .ref (b + 13), .int (nI ls), .int hz, .int (nI p2), .int 1])) := h0
                            have fr := fr.trans (Fr.sub (Fr.of1 e307) (by omega) (by omega))
                            have h1 := Fr.cell (Fr.of1 e307) h1 (by omega)
                            have h2 := Fr.cell (Fr.of1 e307) h2 (by omega)
                            have h3 := Fr.cell (Fr.of1 e307) h3 (by omega)
                            have h4 := Fr.cell (Fr.of1 e307) h4 (by omega)
                            have h5 := Fr.cell (Fr.of1 e307) h5 (by omega)
                            have h6 := Fr.cell (Fr.of1 e307) h6 (by omega)
                            have h7 := Fr.cell (Fr.of1 e307) h7 (by omega)
                            have h8 := Fr.cell (Fr.of1 e307) h8 (by omega)
                            have h9 := Fr.cell (Fr.of1 e307) h9 (by omega)
                            have h10 := Fr.cell (Fr.of1 e307) h10 (by omega)
                            have h11 := Fr.cell (Fr.of1 e307) h11 (by omega)
                            have h12 := Fr.cell (Fr.of1 e307) h12 (by omega)
                            have h13 := Fr.cell (Fr.of1 e307) h13 (by omega)
                            refine a_lload S d_Mod_readDecimal_116 rfl ?_
                            refine a_ldc2 S (v := 10) lK_Mod_111 d_Mod_readDecimal_118 ?_
                            refine a_lmul S d_Mod_readDecimal_121 ?_
                            refine a_iload S d_Mod_readDecimal_122 rfl ?_
                            refine a_i2l S d_Mod_readDecimal_124 ?_
                            refine a_ladd S d_Mod_readDecimal_125 ?_
                            refine a_lconst S (v := 1) d_Mod_readDecimal_126 (by decide) ?_
                            refine a_lsub S d_Mod_readDecimal_127 ?_
                            refine a_eql (y := (lN (q * 10 + (B - 1)))) (l_dig hB0 hB) ?_
                            refine a_lstore S d_Mod_readDecimal_128 (Nat.le_of_ble_eq_true rfl) (lv' := [(0, .ref b), (1, .int (nI k)), (2, .int (nI t)), (3, .int (nI (tnB t (l0.getD pt 0)))), (4, .int 255), (5, .int (nI (tnB (255 - t) (l0.getD (pt + 1) 0)) - 64)), (6, .long (lN (q * 10 + (B - 1)))), (8, .int (nI m)), (9, .int (nI B))]) rfl ?_
                            refine a_iinc S (v := nI (m + 1)) d_Mod_readDecimal_130 rfl (ni_add rfl (by decide)) (Nat.le_of_ble_eq_true rfl) (lv' := [(0, .ref b), (1, .int (nI k)), (2, .int (nI t)), (3, .int (nI (tnB t (l0.getD pt 0)))), (4, .int 255), (5, .int (nI (tnB (255 - t) (l0.getD (pt + 1) 0)) - 64)), (6, .long (lN (q * 10 + (B - 1)))), (8, .int (nI (m + 1))), (9, .int (nI B))]) rfl ?_
                            refine a_aload_n S d_Mod_readDecimal_133 rfl rfl ?_
                            refine a_iload_n S d_Mod_readDecimal_134 rfl rfl ?_
                            refine a_callV S (rest := []) lg_Mod_145 h0 (c_Mod_next X.2.1 D b th fd sl ki fl va fo go si te kp ro ma sz en ms lw hw ls hz p2 true l0 t w306 n hl hby hA (by omega) ht ⟨h0, h1, h2, h3, h4, h5, h6, h7, h8, h9, h10, h11, h12, h13⟩) (by decide) (by omega) (by omega) rfl (Nat.le_of_ble_eq_true rfl) d_Mod_readDecimal_135 (fun v308 w309 n310 p311 => ?_)
                            rcases p311 with ⟨hq314, rfl, e313, f312, h0, h1, h2, h3, h4, h5, h6, h7, h8, h9, h10, h11, h12, h13⟩ | ⟨hq314, rfl, e313, f312, h0, h1, h2, h3, h4, h5, h6, h7, h8, h9, h10, h11, h12, h13⟩
                            · rw [e313]
                              refine a_st (st' := [.int (nI (tnB t (l0.getD p2 0)))]) rfl ?_
                              have hbhq314 := tnB_lt (t := t) (getD_lt hby p2)
                              have fr := fr.trans (Fr.sub f312 (by omega) (by omega))
                              refine a_iload S d_Mod_readDecimal_138 rfl ?_
                              refine a_ixor S d_Mod_readDecimal_140 ?_
                              refine a_eqi (y := nI (tnB (255 - t) (l0.getD p2 0))) (xor_g1 ht (getD_lt hby p2)) ?_
                              refine a_istore S d_Mod_readDecimal_141 (Nat.le_of_ble_eq_true rfl) (lv' := [(0, .ref b), (1, .int (nI k)), (2, .int (nI t)), (3, .int (nI (tnB t (l0.getD pt 0)))), (4, .int 255), (5, .int (nI (tnB (255 - t) (l0.getD (pt + 1) 0)) - 64)), (6, .long (lN (q * 10 + (B - 1)))), (8, .int (nI (m + 1))), (9, .int (nI (tnB (255 - t) (l0.getD p2 0))))]) rfl ?_
                              refine a_goto S (tgt := 81) d_Mod_readDecimal_143 rfl ?_
                              exact ih81 _ (by omega) (q * 10 + (B - 1)) (m + 1) (tnB (255 - t) (l0.getD p2 0)) true (p2 + 1) w309 rfl (Or.inr ⟨rfl, by omega⟩) (by omega) (tnB_lt (getD_lt hby _)) fr ⟨h0, h1, h2, h3, h4, h5, h6, h7, h8, h9, h10, h11, h12, h13⟩ (hC.big hB0 hbig)
                            · rw [e313]
                              refine a_st (st' := [.int 0]) rfl ?_
                              have fr := fr.trans (Fr.sub f312 (by omega) (by omega))
                              refine a_iload S d_Mod_readDecimal_138 rfl ?_
                              refine a_ixor S d_Mod_readDecimal_140 ?_
                              refine a_eqi (y := 255) (by decide) ?_
                              refine a_istore S d_Mod_readDecimal_141 (Nat.le_of_ble_eq_true rfl) (lv' := [(0, .ref b), (1, .int (nI k)), (2, .int (nI t)), (3, .int (nI (tnB t (l0.getD pt 0)))), (4, .int 255), (5, .int (nI (tnB (255 - t) (l0.getD (pt + 1) 0)) - 64)), (6, .long (lN (q * 10 + (B - 1)))), (8, .int (nI (m + 1))), (9, .int 255)]) rfl ?_
                              refine a_goto S (tgt := 81) d_Mod_readDecimal_143 rfl ?_
                              exact ih81 _ (by omega) (q * 10 + (B - 1)) (m + 1) 255 true p2 w309 rfl (Or.inr ⟨rfl, by omega⟩) (by omega) (by decide) fr ⟨h0, h1, h2, h3, h4, h5, h6, h7, h8, h9, h10, h11, h12, h13⟩ (hC.big hB0 hbig)
                exact loop81 _ 0 0 (tnB (255 - t) (l0.getD (pt + 1 + 1) 0)) false (pt + 1 + 1 + 1) w274 rfl (Or.inl (Nat.zero_le _)) (by omega) (tnB_lt (getD_lt hby _)) fr ⟨h0, h1, h2, h3, h4, h5, h6, h7, h8, h9, h10, h11, h12, h13⟩ (RDc.st hq7 (Or.inl ⟨hy1, rfl, rfl⟩) hq272 hq279)
              · rw [e278]
                refine a_st (st' := [.int 0]) rfl ?_
                have fr := fr.trans (Fr.sub f277 (by omega) (by omega))
                refine a_iload S d_Mod_readDecimal_76 rfl ?_
                refine a_ixor S d_Mod_readDecimal_78 ?_
                refine a_eqi (y := 255) (by decide) ?_
                refine a_istore S d_Mod_readDecimal_79 (Nat.le_of_ble_eq_true rfl) (lv' := [(0, .ref b), (1, .int (nI k)), (2, .int (nI t)), (3, .int (nI (tnB t (l0.getD pt 0)))), (4, .int 255), (5, .int (nI (tnB (255 - t) (l0.getD (pt + 1) 0)) - 64)), (6, .long 0), (8, .int 0), (9, .int 255)]) rfl ?_
                have loop81 : ∀ (kk81 : Nat) (q m B : Nat) (b1 : Bool) (p2 : Nat) (w1 : ww), 17 - m = kk81 → (m ≤ 16 ∨ (b1 = true ∧ m ≤ 17)) → (p2 ≤ l0.length) → (B < 256) → (Fr w w1 b 14) → (Mo D w1 b th fd sl ki fl va fo go si te kp ro l0.length ma sz en ms lw hw ls hz p2 b1) → (RDc t l0 pt (255 - t) (-1) (nI (tnB (255 - t) (l0.getD (pt + 1) 0)) - 64) p2 q m B b1) → AW X (D, A, 10, Q) 81 [(0, .ref b), (1, .int (nI k)), (2, .int (nI t)), (3, .int (nI (tnB t (l0.getD pt 0)))), (4, .int 255), (5, .int (nI (tnB (255 - t) (l0.getD (pt + 1) 0)) - 64)), (6, .long (lN q)), (8, .int (nI m)), (9, .int (nI B))] [] w1 n (((0 + 0) + 0) + 0) (((0 + 0) + 0) + 0) := by
                  intro kk81
                  induction kk81 using Nat.strongRecOn with
                  | ind kk81 ih81 =>
                    intro q m B b1 p2 w1 hk81 hm hp2 hB fr h hC
                    obtain ⟨h0, h1, h2, h3, h4, h5, h6, h7, h8, h9, h10, h11, h12, h13⟩ := h
                    refine a_iload S d_Mod_readDecimal_81 rfl ?_
                    refine a_if_eq S (tgt := 146) d_Mod_readDecimal_83 rfl (fun h83 => ?_) (fun h83 => ?_)
                    · have hx : B = 0 ∨ b1 = true := Or.inl ((nI_eq (by omega) (by decide)).mp h83)
                      refine a_aload_n S d_Mod_readDecimal_146 rfl rfl ?_
                      refine a_get S kc_Mod 5 (by decide) lf_Mod_16 h0 rfl d_Mod_readDecimal_147 ?_
                      refine a_iload_n S d_Mod_readDecimal_150 rfl rfl ?_
                      refine a_iload S d_Mod_readDecimal_151 rfl ?_
                      refine a_sipush S (v := 255) d_Mod_readDecimal_153 (by decide) ?_
                      refine a_icmp_ne S (tgt := 166) d_Mod_readDecimal_156 rfl (fun h156 => ?_) (fun h156 => ?_)
                      · exact absurd (by decide) h156
                      · refine a_lconst S (v := 0) d_Mod_readDecimal_159 (by decide) ?_
                        refine a_lload S d_Mod_readDecimal_160 rfl ?_
                        refine a_lsub S d_Mod_readDecimal_162 ?_
                        refine a_goto S (tgt := 168) d_Mod_readDecimal_163 rfl ?_
                        refine a_last S (i := k) h3 rfl (by omega) (by decide) d_Mod_readDecimal_168 (fun w315 h3 e316 => ?_)
                        have fr := fr.trans (Fr.sub (Fr.of1 e316) (by omega) (by omega))
                        have h0 := Fr.cell (Fr.of1 e316) h0 (by omega)
                        have h1 := Fr.cell (Fr.of1 e316) h1 (by omega)
                        have h2 := Fr.cell (Fr.of1 e316) h2 (by omega)
                        have h4 := Fr.cell (Fr.of1 e316) h4 (by omega)
                        have h5 := Fr.cell (Fr.of1 e316) h5 (by omega)
                        have h6 := Fr.cell (Fr.of1 e316) h6 (by omega)
                        have h7 := Fr.cell (Fr.of1 e316) h7 (by omega)
                        have h8 := Fr.cell (Fr.of1 e316) h8 (by omega)
                        have h9 := Fr.cell (Fr.of1 e316) h9 (by omega)
                        have h10 := Fr.cell (Fr.of1 e316) h10 (by omega)
                        have h11 := Fr.cell (Fr.of1 e316) h11 (by omega)
                        have h12 := Fr.cell (Fr.of1 e316) h12 (by omega)
                        have h13 := Fr.cell (Fr.of1 e316) h13 (by omega)
                        refine a_aload_n S d_Mod_readDecimal_169 rfl rfl ?_
                        refine a_get S kc_Mod 6 (by decide) lf_Mod_20 h0 rfl d_Mod_readDecimal_170 ?_
                        refine a_iload_n S d_Mod_readDecimal_173 rfl rfl ?_
                        refine a_iload S d_Mod_readDecimal_174 rfl ?_
                        refine a_iload S d_Mod_readDecimal_176 rfl ?_
                        refine a_isub S d_Mod_readDecimal_178 ?_
                        refine a_iast S (i := k) h4 rfl (by omega) (by decide) d_Mod_readDecimal_179 (fun w317 h4 e318 => ?_)
                        have fr := fr.trans (Fr.sub (Fr.of1 e318) (by omega) (by omega))
                        have h0 := Fr.cell (Fr.of1 e318) h0 (by omega)
                        have h1 := Fr.cell (Fr.of1 e318) h1 (by omega)
                        have h2 := Fr.cell (Fr.of1 e318) h2 (by omega)
                        have h3 := Fr.cell (Fr.of1 e318) h3 (by omega)
                        have h5 := Fr.cell (Fr.of1 e318) h5 (by omega)
                        have h6 := Fr.cell (Fr.of1 e318) h6 (by omega)
                        have h7 := Fr.cell (Fr.of1 e318) h7 (by omega)
                        have h8 := Fr.cell (Fr.of1 e318) h8 (by omega)
                        have h9 := Fr.cell (Fr.of1 e318) h9 (by omega)
                        have h10 := Fr.cell (Fr.of1 e318) h10 (by omega)
                        have h11 := Fr.cell (Fr.of1 e318) h11 (by omega)
                        have h12 := Fr.cell (Fr.of1 e318) h12 (by omega)
                        have h13 := Fr.cell (Fr.of1 e318) h13 (by omega)
                        exact RT _ _ _ _ _ _ d_Mod_readDecimal_180 (by omega) (by omega) ⟨_, _, _, _, p2, b1, rfl, rfl, fr, ⟨h0, h1, h2, h3, h4, h5, h6, h7, h8, h9, h10, h11, h12, h13⟩, hp2, DX.up, (fun d0 e0 rest g => have z := hC.e hx d0 e0 rest g; ⟨z.1, by rw [← z.2.1, (sg_n (lN q))], z.2.2.1, z.2.2.2⟩)⟩
                    · have hB0 : ¬ B = 0 := fun z => h83 (by rw [z]; rfl)
                      refine a_aload_n S d_Mod_readDecimal_86 rfl rfl ?_
                      refine a_get S kc_Mod 22 (by decide) lf_Mod_142 h0 rfl d_Mod_readDecimal_87 ?_
                      refine a_if_ne S (tgt := 146) d_Mod_readDecimal_90 rfl (fun h90 => ?_) (fun h90 => ?_)
                      · have hx : B = 0 ∨ b1 = true := Or.inr (bo_1 h90)
                        refine a_aload_n S d_Mod_readDecimal_146 rfl rfl ?_
                        refine a_get S kc_Mod 5 (by decide) lf_Mod_16 h0 rfl d_Mod_readDecimal_147 ?_
                        refine a_iload_n S d_Mod_readDecimal_150 rfl rfl ?_
                        refine a_iload S d_Mod_readDecimal_151 rfl ?_
                        refine a_sipush S (v := 255) d_Mod_readDecimal_153 (by decide) ?_
                        refine a_icmp_ne S (tgt := 166) d_Mod_readDecimal_156 rfl (fun h156 => ?_) (fun h156 => ?_)
                        · exact absurd (by decide) h156
                        · refine a_lconst S (v := 0) d_Mod_readDecimal_159 (by decide) ?_
                          refine a_lload S d_Mod_readDecimal_160 rfl ?_
                          refine a_lsub S d_Mod_readDecimal_162 ?_
                          refine a_goto S (tgt := 168) d_Mod_readDecimal_163 rfl ?_
                          refine a_last S (i := k) h3 rfl (by omega) (by decide) d_Mod_readDecimal_168 (fun w319 h3 e320 => ?_)
                          have fr := fr.trans (Fr.sub (Fr.of1 e320) (by omega) (by omega))
                          have h0 := Fr.cell (Fr.of1 e320) h0 (by omega)
                          have h1 := Fr.cell (Fr.of1 e320) h1 (by omega)
                          have h2 := Fr.cell (Fr.of1 e320) h2 (by omega)
                          have h4 := Fr.cell (Fr.of1 e320) h4 (by omega)
                          have h5 := Fr.cell (Fr.of1 e320) h5 (by omega)
                          have h6 := Fr.cell (Fr.of1 e320) h6 (by omega)
                          have h7 := Fr.cell (Fr.of1 e320) h7 (by omega)
                          have h8 := Fr.cell (Fr.of1 e320) h8 (by omega)
                          have h9 := Fr.cell (Fr.of1 e320) h9 (by omega)
                          have h10 := Fr.cell (Fr.of1 e320) h10 (by omega)
                          have h11 := Fr.cell (Fr.of1 e320) h11 (by omega)
                          have h12 := Fr.cell (Fr.of1 e320) h12 (by omega)
                          have h13 := Fr.cell (Fr.of1 e320) h13 (by omega)
                          refine a_aload_n S d_Mod_readDecimal_169 rfl rfl ?_
                          refine a_get S kc_Mod 6 (by decide) lf_Mod_20 h0 rfl d_Mod_readDecimal_170 ?_
                          refine a_iload_n S d_Mod_readDecimal_173 rfl rfl ?_
                          refine a_iload S d_Mod_readDecimal_174 rfl ?_
                          refine a_iload S d_Mod_readDecimal_176 rfl ?_
                          refine a_isub S d_Mod_readDecimal_178 ?_
                          refine a_iast S (i := k) h4 rfl (by omega) (by decide) d_Mod_readDecimal_179 (fun w321 h4 e322 => ?_)
                          have fr := fr.trans (Fr.sub (Fr.of1 e322) (by omega) (by omega))
                          have h0 := Fr.cell (Fr.of1 e322) h0 (by omega)
                          have h1 := Fr.cell (Fr.of1 e322) h1 (by omega)
                          have h2 := Fr.cell (Fr.of1 e322) h2 (by omega)
                          have h3 := Fr.cell (Fr.of1 e322) h3 (by omega)
                          have h5 := Fr.cell (Fr.of1 e322) h5 (by omega)
                          have h6 := Fr.cell (Fr.of1 e322) h6 (by omega)
                          have h7 := Fr.cell (Fr.of1 e322) h7 (by omega)
                          have h8 := Fr.cell (Fr.of1 e322) h8 (by omega)
                          have h9 := Fr.cell (Fr.of1 e322) h9 (by omega)
                          have h10 := Fr.cell (Fr.of1 e322) h10 (by omega)
                          have h11 := Fr.cell (Fr.of1 e322) h11 (by omega)
                          have h12 := Fr.cell (Fr.of1 e322) h12 (by omega)
                          have h13 := Fr.cell (Fr.of1 e322) h13 (by omega)
                          exact RT _ _ _ _ _ _ d_Mod_readDecimal_180 (by omega) (by omega) ⟨_, _, _, _, p2, b1, rfl, rfl, fr, ⟨h0, h1, h2, h3, h4, h5, h6, h7, h8, h9, h10, h11, h12, h13⟩, hp2, DX.up, (fun d0 e0 rest g => have z := hC.e hx d0 e0 rest g; ⟨z.1, by rw [← z.2.1, (sg_n (lN q))], z.2.2.1, z.2.2.2⟩)⟩
                      · obtain rfl : b1 = false := bo_0 h90
                        have hm2 : m ≤ 16 := hm.elim id (fun z => by cases z.1)
                        refine a_aload_n S d_Mod_readDecimal_93 rfl rfl ?_
                        refine a_iload S d_Mod_readDecimal_94 rfl ?_
                        refine a_bipush S (v := 10) d_Mod_readDecimal_96 (by decide) ?_
                        refine a_icmp_gt S (tgt := 108) d_Mod_readDecimal_98 rfl (fun h98 => ?_) (fun h98 => ?_)
                        · have hbig : 10 < B ∨ m = 16 := Or.inl ((nI_ltI (by decide) (by omega)).mp h98)
                          refine a_iconst S (v := 1) d_Mod_readDecimal_108 (by decide) ?_
                          refine a_goto S (tgt := 113) d_Mod_readDecimal_109 rfl ?_
                          refine a_put S kc_Mod kt_Mod 22 (by decide) lf_Mod_142 rfl h0 rfl rfl (Nat.le_of_ble_eq_true rfl) d_Mod_readDecimal_113 (fun w323 h0 e324 => ?_)
                          have h0 : w323 b = some (.inr (6, [.int th, .int (nI fd), .int (if sl then 1 else 0), .ref (b + 1), .ref (b + 2), .ref (b + 3), .ref (b + 4), .ref (b + 5), .ref (b + 6), .ref (b + 7), .int (nI kp), .ref (b + 8), .int (nI l0.length), .ref (b + 9), .int (nI sz), .ref (b + 10), .ref (b + 11), .ref (b + 12), .ref (b + 13), .int (nI ls), .int hz, .int (nI p2), .int 1])) := h0
                          have fr := fr.trans (Fr.sub (Fr.of1 e324) (by omega) (by omega))
                          have h1 := Fr.cell (Fr.of1 e324) h1 (by omega)
                          have h2 := Fr.cell (Fr.of1 e324) h2 (by omega)
                          have h3 := Fr.cell (Fr.of1 e324) h3 (by omega)
                          have h4 := Fr.cell (Fr.of1 e324) h4 (by omega)
                          have h5 := Fr.cell (Fr.of1 e324) h5 (by omega)
                          have h6 := Fr.cell (Fr.of1 e324) h6 (by omega)
                          have h7 := Fr.cell (Fr.of1 e324) h7 (by omega)
                          have h8 := Fr.cell (Fr.of1 e324) h8 (by omega)
                          have h9 := Fr.cell (Fr.of1 e324) h9 (by omega)
                          have h10 := Fr.cell (Fr.of1 e324) h10 (by omega)
                          have h11 := Fr.cell (Fr.of1 e324) h11 (by omega)
                          have h12 := Fr.cell (Fr.of1 e324) h12 (by omega)
                          have h13 := Fr.cell (Fr.of1 e324) h13 (by omega)
                          refine a_lload S d_Mod_readDecimal_116 rfl ?_
                          refine a_ldc2 S (v := 10) lK_Mod_111 d_Mod_readDecimal_118 ?_
                          refine a_lmul S d_Mod_readDecimal_121 ?_
                          refine a_iload S d_Mod_readDecimal_122 rfl ?_
                          refine a_i2l S d_Mod_readDecimal_124 ?_
                          refine a_ladd S d_Mod_readDecimal_125 ?_
                          refine a_lconst S (v := 1) d_Mod_readDecimal_126 (by decide) ?_
                          refine a_lsub S d_Mod_readDecimal_127 ?_
                          refine a_eql (y := (lN (q * 10 + (B - 1)))) (l_dig hB0 hB) ?_
                          refine a_lstore S d_Mod_readDecimal_128 (Nat.le_of_ble_eq_true rfl) (lv' := [(0, .ref b), (1, .int (nI k)), (2, .int (nI t)), (3, .int (nI (tnB t (l0.getD pt 0)))), (4, .int 255), (5, .int (nI (tnB (255 - t) (l0.getD (pt + 1) 0)) - 64)), (6, .long (lN (q * 10 + (B - 1)))), (8, .int (nI m)), (9, .int (nI B))]) rfl ?_
                          refine a_iinc S (v := nI (m + 1)) d_Mod_readDecimal_130 rfl (ni_add rfl (by decide)) (Nat.le_of_ble_eq_true rfl) (lv' := [(0, .ref b), (1, .int (nI k)), (2, .int (nI t)), (3, .int (nI (tnB t (l0.getD pt 0)))), (4, .int 255), (5, .int (nI (tnB (255 - t) (l0.getD (pt + 1) 0)) - 64)), (6, .long (lN (q * 10 + (B - 1)))), (8, .int (nI (m + 1))), (9, .int (nI B))]) rfl ?_
                          refine a_aload_n S d_Mod_readDecimal_133 rfl rfl ?_
                          refine a_iload_n S d_Mod_readDecimal_134 rfl rfl ?_
                          refine a_callV S (rest := []) lg_Mod_145 h0 (c_Mod_next X.2.1 D b th fd sl ki fl va fo go si te kp ro ma sz en ms lw hw ls hz p2 true l0 t w323 n hl hby hA (by omega) ht ⟨h0, h1, h2, h3, h4, h5, h6, h7, h8, h9, h10, h11, h12, h13⟩) (by decide) (by omega) (by omega) rfl (Nat.le_of_ble_eq_true rfl) d_Mod_readDecimal_135 (fun v325 w326 n327 p328 => ?_)
                          rcases p328 with ⟨hq331, rfl, e330, f329, h0, h1, h2, h3, h4, h5, h6, h7, h8, h9, h10, h11, h12, h13⟩ | ⟨hq331, rfl, e330, f329, h0, h1, h2, h3, h4, h5, h6, h7, h8, h9, h10, h11, h12, h13⟩
                          · rw [e330]
                            refine a_st (st' := [.int (nI (tnB t (l0.getD p2 0)))]) rfl ?_
                            have hbhq331 := tnB_lt (t := t) (getD_lt hby p2)
                            have fr := fr.trans (Fr.sub f329 (by omega) (by omega))
                            refine a_iload S d_Mod_readDecimal_138 rfl ?_
                            refine a_ixor S d_Mod_readDecimal_140 ?_
                            refine a_eqi (y := nI (tnB (255 - t) (l0.getD p2 0))) (xor_g1 ht (getD_lt hby p2)) ?_
                            refine a_istore S d_Mod_readDecimal_141 (Nat.le_of_ble_eq_true rfl) (lv' := [(0, .ref b), (1, .int (nI k)), (2, .int (nI t)), (3, .int (nI (tnB t (l0.getD pt 0)))), (4, .int 255), (5, .int (nI (tnB (255 - t) (l0.getD (pt + 1) 0)) - 64)), (6, .long (lN (q * 10 + (B - 1)))), (8, .int (nI (m + 1))), (9, .int (nI (tnB (255 - t) (l0.getD p2 0))))]) rfl ?_
                            refine a_goto S (tgt := 81) d_Mod_readDecimal_143 rfl ?_
                            exact ih81 _ (by omega) (q * 10 + (B - 1)) (m + 1) (tnB (255 - t) (l0.getD p2 0)) true (p2 + 1) w326 rfl (Or.inr ⟨rfl, by omega⟩) (by omega) (tnB_lt (getD_lt hby _)) fr ⟨h0, h1, h2, h3, h4, h5, h6, h7, h8, h9, h10, h11, h12, h13⟩ (hC.big hB0 hbig)
                          · rw [e330]
                            refine a_st (st' := [.int 0]) rfl ?_
                            have fr := fr.trans (Fr.sub f329 (by omega) (by omega))
                            refine a_iload S d_Mod_readDecimal_138 rfl ?_
                            refine a_ixor S d_Mod_readDecimal_140 ?_
                            refine a_eqi (y := 255) (by decide) ?_
                            refine a_istore S d_Mod_readDecimal_141 (Nat.le_of_ble_eq_true rfl) (lv' := [(0, .ref b), (1, .int (nI k)), (2, .int (nI t)), (3, .int (nI (tnB t (l0.getD pt 0)))), (4, .int 255), (5, .int (nI (tnB (255 - t) (l0.getD (pt + 1) 0)) - 64)), (6, .long (lN (q * 10 + (B - 1)))), (8, .int (nI (m + 1))), (9, .int 255)]) rfl ?_
                            refine a_goto S (tgt := 81) d_Mod_readDecimal_143 rfl ?_
                            exact ih81 _ (by omega) (q * 10 + (B - 1)) (m + 1) 255 true p2 w326 rfl (Or.inr ⟨rfl, by omega⟩) (by omega) (by decide) fr ⟨h0, h1, h2, h3, h4, h5, h6, h7, h8, h9, h10, h11, h12, h13⟩ (hC.big hB0 hbig)
                        · have hB10 : ¬ 10 < B := fun z => h98 ((nI_ltI (by decide) (by omega)).mpr z)
                          refine a_iload S d_Mod_readDecimal_101 rfl ?_
                          refine a_bipush S (v := 16) d_Mod_readDecimal_103 (by decide) ?_
                          refine a_icmp_ne S (tgt := 112) d_Mod_readDecimal_105 rfl (fun h105 => ?_) (fun h105 => ?_)
                          · have hm16 : ¬ m = 16 := fun z => h105 (by rw [z]; rfl)
                            refine a_iconst S (v := 0) d_Mod_readDecimal_112 (by decide) ?_
                            refine a_put S kc_Mod kt_Mod 22 (by decide) lf_Mod_142 rfl h0 rfl rfl (Nat.le_of_ble_eq_true rfl) d_Mod_readDecimal_113 (fun w332 h0 e333 => ?_)
                            have h0 : w332 b = some (.inr (6, [.int th, .int (nI fd), .int (if sl then 1 else 0), .ref (b + 1), .ref (b + 2), .ref (b + 3), .ref (b + 4), .ref (b + 5), .ref (b + 6), .ref (b + 7), .int (nI kp), .ref (b + 8), .int (nI l0.length), .ref (b + 9), .int (nI sz), .ref (b + 10), .ref (b + 11), .ref (b + 12), .ref (b + 13), .int (nI ls), .int hz, .int (nI p2), .int 0])) := h0
                            have fr := fr.trans (Fr.sub (Fr.of1 e333) (by omega) (by omega))
                            have h1 := Fr.cell (Fr.of1 e333) h1 (by omega)
                            have h2 := Fr.cell (Fr.of1 e333) h2 (by omega)
                            have h3 := Fr.cell (Fr.of1 e333) h3 (by omega)
                            have h4 := Fr.cell (Fr.of1 e333) h4 (by omega)
                            have h5 := Fr.cell (Fr.of1 e333) h5 (by omega)
                            have h6 := Fr.cell (Fr.of1 e333) h6 (by omega)
                            have h7 := Fr.cell (Fr.of1 e333) h7 (by omega)
                            have h8 := Fr.cell (Fr.of1 e333) h8 (by omega)
                            have h9 := Fr.cell (Fr.of1 e333) h9 (by omega)
                            have h10 := Fr.cell (Fr.of1 e333) h10 (by omega)
                            have h11 := Fr.cell (Fr.of1 e333) h11 (by omega)
                            have h12 := Fr.cell (Fr.of1 e333) h12 (by omega)
                            have h13 := Fr.cell (Fr.of1 e333) h13 (by omega)
                            refine a_lload S d_Mod_readDecimal_116 rfl ?_
                            refine a_ldc2 S (v := 10) lK_Mod_111 d_Mod_readDecimal_118 ?_
                            refine a_lmul S d_Mod_readDecimal_121 ?_
                            refine a_iload S d_Mod_readDecimal_122 rfl ?_
                            refine a_i2l S d_Mod_readDecimal_124 ?_
                            refine a_ladd S d_Mod_readDecimal_125 ?_
                            refine a_lconst S (v := 1) d_Mod_readDecimal_126 (by decide) ?_
                            refine a_lsub S d_Mod_readDecimal_127 ?_
                            refine a_eql (y := (lN (q * 10 + (B - 1)))) (l_dig hB0 hB) ?_
                            refine a_lstore S d_Mod_readDecimal_128 (Nat.le_of_ble_eq_true rfl) (lv' := [(0, .ref b), (1, .int (nI k)), (2, .int (nI t)), (3, .int (nI (tnB t (l0.getD pt 0)))), (4, .int 255), (5, .int (nI (tnB (255 - t) (l0.getD (pt + 1) 0)) - 64)), (6, .long (lN (q * 10 + (B - 1)))), (8, .int (nI m)), (9, .int (nI B))]) rfl ?_
                            refine a_iinc S (v := nI (m + 1)) d_Mod_readDecimal_130 rfl (ni_add rfl (by decide)) (Nat.le_of_ble_eq_true rfl) (lv' := [(0, .ref b), (1, .int (nI k)), (2, .int (nI t)), (3, .int (nI (tnB t (l0.getD pt 0)))), (4, .int 255), (5, .int (nI (tnB (255 - t) (l0.getD (pt + 1) 0)) - 64)), (6, .long (lN (q * 10 + (B - 1)))), (8, .int (nI (m + 1))), (9, .int (nI B))]) rfl ?_
                            refine a_aload_n S d_Mod_readDecimal_133 rfl rfl ?_
                            refine a_iload_n S d_Mod_readDecimal_134 rfl rfl ?_
                            refine a_callV S (rest := []) lg_Mod_145 h0 (c_Mod_next X.2.1 D b th fd sl ki fl va fo go si te kp ro ma sz en ms lw hw ls hz p2 false l0 t w332 n hl hby hA (by omega) ht ⟨h0, h1, h2, h3, h4, h5, h6, h7, h8, h9, h10, h11, h12, h13⟩) (by decide) (by omega) (by omega) rfl (Nat.le_of_ble_eq_true rfl) d_Mod_readDecimal_135 (fun v334 w335 n336 p337 => ?_)
                            rcases p337 with ⟨hq340, rfl, e339, f338, h0, h1, h2, h3, h4, h5, h6, h7, h8, h9, h10, h11, h12, h13⟩ | ⟨hq340, rfl, e339, f338, h0, h1, h2, h3, h4, h5, h6, h7, h8, h9, h10, h11, h12, h13⟩
                            · rw [e339]
                              refine a_st (st' := [.int (nI (tnB t (l0.getD p2 0)))]) rfl ?_
                              have hbhq340 := tnB_lt (t := t) (getD_lt hby p2)
                              have fr := fr.trans (Fr.sub f338 (by omega) (by omega))
                              refine a_iload S d_Mod_readDecimal_138 rfl ?_
                              refine a_ixor S d_Mod_readDecimal_140 ?_
                              refine a_eqi (y := nI (tnB (255 - t) (l0.getD p2 0))) (xor_g1 ht (getD_lt hby p2)) ?_
                              refine a_istore S d_Mod_readDecimal_141 (Nat.le_of_ble_eq_true rfl) (lv' := [(0, .ref b), (1, .int (nI k)), (2, .int (nI t)), (3, .int (nI (tnB t (l0.getD pt 0)))), (4, .int 255), (5, .int (nI (tnB (255 - t) (l0.getD (pt + 1) 0)) - 64)), (6, .long (lN (q * 10 + (B - 1)))), (8, .int (nI (m + 1))), (9, .int (nI (tnB (255 - t) (l0.getD p2 0))))]) rfl ?_
                              refine a_goto S (tgt := 81) d_Mod_readDecimal_143 rfl ?_
                              exact ih81 _ (by omega) (q * 10 + (B - 1)) (m + 1) (tnB (255 - t) (l0.getD p2 0)) false (p2 + 1) w335 rfl (by omega) (by omega) (tnB_lt (getD_lt hby _)) fr ⟨h0, h1, h2, h3, h4, h5, h6, h7, h8, h9, h10, h11, h12, h13⟩ (hC.s hB0 hB10 hm16 hq340)
                            · rw [e339]
                              refine a_st (st' := [.int 0]) rfl ?_
                              have fr := fr.trans (Fr.sub f338 (by omega) (by omega))
                              refine a_iload S d_Mod_readDecimal_138 rfl ?_
                              refine a_ixor S d_Mod_readDecimal_140 ?_
                              refine a_eqi (y := 255) (by decide) ?_
                              refine a_istore S d_Mod_readDecimal_141 (Nat.le_of_ble_eq_true rfl) (lv' := [(0, .ref b), (1, .int (nI k)), (2, .int (nI t)), (3, .int (nI (tnB t (l0.getD pt 0)))), (4, .int 255), (5, .int (nI (tnB (255 - t) (l0.getD (pt + 1) 0)) - 64)), (6, .long (lN (q * 10 + (B - 1)))), (8, .int (nI (m + 1))), (9, .int 255)]) rfl ?_
                              refine a_goto S (tgt := 81) d_Mod_readDecimal_143 rfl ?_
                              exact ih81 _ (by omega) (q * 10 + (B - 1)) (m + 1) 255 true p2 w335 rfl (by omega) (by omega) (by decide) fr ⟨h0, h1, h2, h3, h4, h5, h6, h7, h8, h9, h10, h11, h12, h13⟩ (hC.se hB0 hB10 hm16 hq340)
                          · have hbig : 10 < B ∨ m = 16 := Or.inr ((nI_eq (by omega) (by decide)).mp h105)
                            refine a_iconst S (v := 1) d_Mod_readDecimal_108 (by decide) ?_
                            refine a_goto S (tgt := 113) d_Mod_readDecimal_109 rfl ?_
                            refine a_put S kc_Mod kt_Mod 22 (by decide) lf_Mod_142 rfl h0 rfl rfl (Nat.le_of_ble_eq_true rfl) d_Mod_readDecimal_113 (fun w341 h0 e342 => ?_)
                            have h0 : w341 b = some (.inr (6, [.int th, .int (nI fd), .int (if sl then 1 else 0), .ref (b + 1), .ref (b + 2), .ref (b + 3), .ref (b + 4), .ref (b + 5), .ref (b + 6), .ref (b + 7), .int (nI kp), .ref (b + 8), .int (nI l0.length), .ref (b + 9), .int (nI sz), .ref (b + 10), .ref (b + 11), .ref (b + 12), .ref (b + 13), .int (nI ls), .int hz, .int (nI p2), .int 1])) := h0
                            have fr := fr.trans (Fr.sub (Fr.of1 e342) (by omega) (by omega))
                            have h1 := Fr.cell (Fr.of1 e342) h1 (by omega)
                            have h2 := Fr.cell (Fr.of1 e342) h2 (by omega)
                            have h3 := Fr.cell (Fr.of1 e342) h3 (by omega)
                            have h4 := Fr.cell (Fr.of1 e342) h4 (by omega)
                            have h5 := Fr.cell (Fr.of1 e342) h5 (by omega)
                            have h6 := Fr.cell (Fr.of1 e342) h6 (by omega)
                            have h7 := Fr.cell (Fr.of1 e342) h7 (by omega)
                            have h8 := Fr.cell (Fr.of1 e342) h8 (by omega)
                            have h9 := Fr.cell (Fr.of1 e342) h9 (by omega)
                            have h10 := Fr.cell (Fr.of1 e342) h10 (by omega)
                            have h11 := Fr.cell (Fr.of1 e342) h11 (by omega)
                            have h12 := Fr.cell (Fr.of1 e342) h12 (by omega)
                            have h13 := Fr.cell (Fr.of1 e342) h13 (by omega)
                            refine a_lload S d_Mod_readDecimal_116 rfl ?_
                            refine a_ldc2 S (v := 10) lK_Mod_111 d_Mod_readDecimal_118 ?_
                            refine a_lmul S d_Mod_readDecimal_121 ?_
                            refine a_iload S d_Mod_readDecimal_122 rfl ?_
                            refine a_i2l S d_Mod_readDecimal_124 ?_
                            refine a_ladd S d_Mod_readDecimal_125 ?_
                            refine a_lconst S (v := 1) d_Mod_readDecimal_126 (by decide) ?_
                            refine a_lsub S d_Mod_readDecimal_127 ?_
                            refine a_eql (y := (lN (q * 10 + (B - 1)))) (l_dig hB0 hB) ?_
                            refine a_lstore S d_Mod_readDecimal_128 (Nat.le_of_ble_eq_true rfl) (lv' := [(0, .ref b), (1, .int (nI k)), (2, .int (nI t)), (3, .int (nI (tnB t (l0.getD pt 0)))), (4, .int 255), (5, .int (nI (tnB (255 - t) (l0.getD (pt + 1) 0)) - 64)), (6, .long (lN (q * 10 + (B - 1)))), (8, .int (nI m)), (9, .int (nI B))]) rfl ?_
                            refine a_iinc S (v := nI (m + 1)) d_Mod_readDecimal_130 rfl (ni_add rfl (by decide)) (Nat.le_of_ble_eq_true rfl) (lv' := [(0, .ref b), (1, .int (nI k)), (2, .int (nI t)), (3, .int (nI (tnB t (l0.getD pt 0)))), (4, .int 255), (5, .int (nI (tnB (255 - t) (l0.getD (pt + 1) 0)) - 64)), (6, .long (lN (q * 10 + (B - 1)))), (8, .int (nI (m + 1))), (9, .int (nI B))]) rfl ?_
                            refine a_aload_n S d_Mod_readDecimal_133 rfl rfl ?_
                            refine a_iload_n S d_Mod_readDecimal_134 rfl rfl ?_
                            refine a_callV S (rest := []) lg_Mod_145 h0 (c_Mod_next X.2.1 D b th fd sl ki fl va fo go si te kp ro ma sz en ms lw hw ls hz p2 true l0 t w341 n hl hby hA (by omega) ht ⟨h0, h1, h2, h3, h4, h5, h6, h7, h8, h9, h10, h11, h12, h13⟩) (by decide) (by omega) (by omega) rfl (Nat.le_of_ble_eq_true rfl) d_Mod_readDecimal_135 (fun v343 w344 n345 p346 => ?_)
                            rcases p346 with ⟨hq349, rfl, e348, f347, h0, h1, h2, h3, h4, h5, h6, h7, h8, h9, h10, h11, h12, h13⟩ | ⟨hq349, rfl, e348, f347, h0, h1, h2, h3, h4, h5, h6, h7, h8, h9, h10, h11, h12, h13⟩
                            · rw [e348]
                              refine a_st (st' := [.int (nI (tnB t (l0.getD p2 0)))]) rfl ?_
                              have hbhq349 := tnB_lt (t := t) (getD_lt hby p2)
                              have fr := fr.trans (Fr.sub f347 (by omega) (by omega))
                              refine a_iload S d_Mod_readDecimal_138 rfl ?_
                              refine a_ixor S d_Mod_readDecimal_140 ?_
                              refine a_eqi (y := nI (tnB (255 - t) (l0.getD p2 0))) (xor_g1 ht (getD_lt hby p2)) ?_
                              refine a_istore S d_Mod_readDecimal_141 (Nat.le_of_ble_eq_true rfl) (lv' := [(0, .ref b), (1, .int (nI k)), (2, .int (nI t)), (3, .int (nI (tnB t (l0.getD pt 0)))), (4, .int 255), (5, .int (nI (tnB (255 - t) (l0.getD (pt + 1) 0)) - 64)), (6, .long (lN (q * 10 + (B - 1)))), (8, .int (nI (m + 1))), (9, .int (nI (tnB (255 - t) (l0.getD p2 0))))]) rfl ?_
                              refine a_goto S (tgt := 81) d_Mod_readDecimal_143 rfl ?_
                              exact ih81 _ (by omega) (q * 10 + (B - 1)) (m + 1) (tnB (255 - t) (l0.getD p2 0)) true (p2 + 1) w344 rfl (Or.inr ⟨rfl, by omega⟩) (by omega) (tnB_lt (getD_lt hby _)) fr ⟨h0, h1, h2, h3, h4, h5, h6, h7, h8, h9, h10, h11, h12, h13⟩ (hC.big hB0 hbig)
                            · rw [e348]
                              refine a_st (st' := [.int 0]) rfl ?_
                              have fr := fr.trans (Fr.sub f347 (by omega) (by omega))
                              refine a_iload S d_Mod_readDecimal_138 rfl ?_
                              refine a_ixor S d_Mod_readDecimal_140 ?_
                              refine a_eqi (y := 255) (by decide) ?_
                              refine a_istore S d_Mod_readDecimal_141 (Nat.le_of_ble_eq_true rfl) (lv' := [(0, .ref b), (1, .int (nI k)), (2, .int (nI t)), (3, .int (nI (tnB t (l0.getD pt 0)))), (4, .int 255), (5, .int (nI (tnB (255 - t) (l0.getD (pt + 1) 0)) - 64)), (6, .long (lN (q * 10 + (B - 1)))), (8, .int (nI (m + 1))), (9, .int 255)]) rfl ?_
                              refine a_goto S (tgt := 81) d_Mod_readDecimal_143 rfl ?_
                              exact ih81 _ (by omega) (q * 10 + (B - 1)) (m + 1) 255 true p2 w344 rfl (Or.inr ⟨rfl, by omega⟩) (by omega) (by decide) fr ⟨h0, h1, h2, h3, h4, h5, h6, h7, h8, h9, h10, h11, h12, h13⟩ (hC.big hB0 hbig)
                exact loop81 _ 0 0 255 true (pt + 1 + 1) w274 rfl (Or.inl (Nat.zero_le _)) (by omega) (by decide) fr ⟨h0, h1, h2, h3, h4, h5, h6, h7, h8, h9, h10, h11, h12, h13⟩ (RDc.f2 hq7 (Or.inl ⟨hy1, rfl, rfl⟩) hq272 hq279)
            · rw [e271]
              refine a_st (st' := [.int 0]) rfl ?_
              have fr := fr.trans (Fr.sub f270 (by omega) (by omega))
              refine a_iload S d_Mod_readDecimal_57 rfl ?_
              refine a_ixor S d_Mod_readDecimal_59 ?_
              refine a_eqi (y := 255) (by decide) ?_
              refine a_bipush S (v := 64) d_Mod_readDecimal_60 (by decide) ?_
              refine a_isub S d_Mod_readDecimal_62 ?_
              refine a_eqi (y := 191) (by decide) ?_
              refine a_istore S d_Mod_readDecimal_63 (Nat.le_of_ble_eq_true rfl) (lv' := [(0, .ref b), (1, .int (nI k)), (2, .int (nI t)), (3, .int (nI (tnB t (l0.getD pt 0)))), (4, .int 255), (5, .int 191)]) rfl ?_
              refine a_lconst S (v := 0) d_Mod_readDecimal_65 (by decide) ?_
              refine a_lstore S d_Mod_readDecimal_66 (Nat.le_of_ble_eq_true rfl) (lv' := [(0, .ref b), (1, .int (nI k)), (2, .int (nI t)), (3, .int (nI (tnB t (l0.getD pt 0)))), (4, .int 255), (5, .int 191), (6, .long 0)]) rfl ?_
              refine a_iconst S (v := 0) d_Mod_readDecimal_68 (by decide) ?_
              refine a_istore S d_Mod_readDecimal_69 (Nat.le_of_ble_eq_true rfl) (lv' := [(0, .ref b), (1, .int (nI k)), (2, .int (nI t)), (3, .int (nI (tnB t (l0.getD pt 0)))), (4, .int 255), (5, .int 191), (6, .long 0), (8, .int 0)]) rfl ?_
              refine a_aload_n S d_Mod_readDecimal_71 rfl rfl ?_
              refine a_iload_n S d_Mod_readDecimal_72 rfl rfl ?_
              refine a_callV S (rest := []) lg_Mod_145 h0 (c_Mod_next X.2.1 D b th fd sl ki fl va fo go si te kp ro ma sz en ms lw hw ls hz (pt + 1) true l0 t w267 n hl hby hA (by omega) ht ⟨h0, h1, h2, h3, h4, h5, h6, h7, h8, h9, h10, h11, h12, h13⟩) (by decide) (by omega) (by omega) rfl (Nat.le_of_ble_eq_true rfl) d_Mod_readDecimal_73 (fun v350 w351 n352 p353 => ?_)
              rcases p353 with ⟨hq356, rfl, e355, f354, h0, h1, h2, h3, h4, h5, h6, h7, h8, h9, h10, h11, h12, h13⟩ | ⟨hq356, rfl, e355, f354, h0, h1, h2, h3, h4, h5, h6, h7, h8, h9, h10, h11, h12, h13⟩
              · rw [e355]
                refine a_st (st' := [.int (nI (tnB t (l0.getD (pt + 1) 0)))]) rfl ?_
                have hbhq356 := tnB_lt (t := t) (getD_lt hby (pt + 1))
                have fr := fr.trans (Fr.sub f354 (by omega) (by omega))
                exact absurd hq356 (by omega)
              · rw [e355]
                refine a_st (st' := [.int 0]) rfl ?_
                have fr := fr.trans (Fr.sub f354 (by omega) (by omega))
                refine a_iload S d_Mod_readDecimal_76 rfl ?_
                refine a_ixor S d_Mod_readDecimal_78 ?_
                refine a_eqi (y := 255) (by decide) ?_
                refine a_istore S d_Mod_readDecimal_79 (Nat.le_of_ble_eq_true rfl) (lv' := [(0, .ref b), (1, .int (nI k)), (2, .int (nI t)), (3, .int (nI (tnB t (l0.getD pt 0)))), (4, .int 255), (5, .int 191), (6, .long 0), (8, .int 0), (9, .int 255)]) rfl ?_
                have loop81 : ∀ (kk81 : Nat) (q m B : Nat) (b1 : Bool) (p2 : Nat) (w1 : ww), 17 - m = kk81 → (m ≤ 16 ∨ (b1 = true ∧ m ≤ 17)) → (p2 ≤ l0.length) → (B < 256) → (Fr w w1 b 14) → (Mo D w1 b th fd sl ki fl va fo go si te kp ro l0.length ma sz en ms lw hw ls hz p2 b1) → (RDc t l0 pt (255 - t) (-1) 191 p2 q m B b1) → AW X (D, A, 10, Q) 81 [(0, .ref b), (1, .int (nI k)), (2, .int (nI t)), (3, .int (nI (tnB t (l0.getD pt 0)))), (4, .int 255), (5, .int 191), (6, .long (lN q)), (8, .int (nI m)), (9, .int (nI B))] [] w1 n (((0 + 0) + 0) + 0) (((0 + 0) + 0) + 0) := by
                  intro kk81
                  induction kk81 using Nat.strongRecOn with
                  | ind kk81 ih81 =>
                    intro q m B b1 p2 w1 hk81 hm hp2 hB fr h hC
                    obtain ⟨h0, h1, h2, h3, h4, h5, h6, h7, h8, h9, h10, h11, h12, h13⟩ := h
                    refine a_iload S d_Mod_readDecimal_81 rfl ?_
                    refine a_if_eq S (tgt := 146) d_Mod_readDecimal_83 rfl (fun h83 => ?_) (fun h83 => ?_)
                    · have hx : B = 0 ∨ b1 = true := Or.inl ((nI_eq (by omega) (by decide)).mp h83)
                      refine a_aload_n S d_Mod_readDecimal_146 rfl rfl ?_
                      refine a_get S kc_Mod 5 (by decide) lf_Mod_16 h0 rfl d_Mod_readDecimal_147 ?_
                      refine a_iload_n S d_Mod_readDecimal_150 rfl rfl ?_
                      refine a_iload S d_Mod_readDecimal_151 rfl ?_
                      refine a_sipush S (v := 255) d_Mod_readDecimal_153 (by decide) ?_
                      refine a_icmp_ne S (tgt := 166) d_Mod_readDecimal_156 rfl (fun h156 => ?_) (fun h156 => ?_)
                      · exact absurd (by decide) h156
                      · refine a_lconst S (v := 0) d_Mod_readDecimal_159 (by decide) ?_
                        refine a_lload S d_Mod_readDecimal_160 rfl ?_
                        refine a_lsub S d_Mod_readDecimal_162 ?_
                        refine a_goto S (tgt := 168) d_Mod_readDecimal_163 rfl ?_
                        refine a_last S (i := k) h3 rfl (by omega) (by decide) d_Mod_readDecimal_168 (fun w357 h3 e358 => ?_)
                        have fr := fr.trans (Fr.sub (Fr.of1 e358) (by omega) (by omega))
                        have h0 := Fr.cell (Fr.of1 e358) h0 (by omega)
                        have h1 := Fr.cell (Fr.of1 e358) h1 (by omega)
                        have h2 := Fr.cell (Fr.of1 e358) h2 (by omega)
                        have h4 := Fr.cell (Fr.of1 e358) h4 (by omega)
                        have h5 := Fr.cell (Fr.of1 e358) h5 (by omega)
                        have h6 := Fr.cell (Fr.of1 e358) h6 (by omega)
                        have h7 := Fr.cell (Fr.of1 e358) h7 (by omega)
                        have h8 := Fr.cell (Fr.of1 e358) h8 (by omega)
                        have h9 := Fr.cell (Fr.of1 e358) h9 (by omega)
                        have h10 := Fr.cell (Fr.of1 e358) h10 (by omega)
                        have h11 := Fr.cell (Fr.of1 e358) h11 (by omega)
                        have h12 := Fr.cell (Fr.of1 e358) h12 (by omega)
                        have h13 := Fr.cell (Fr.of1 e358) h13 (by omega)
                        refine a_aload_n S d_Mod_readDecimal_169 rfl rfl ?_
                        refine a_get S kc_Mod 6 (by decide) lf_Mod_20 h0 rfl d_Mod_readDecimal_170 ?_
                        refine a_iload_n S d_Mod_readDecimal_173 rfl rfl ?_
                        refine a_iload S d_Mod_readDecimal_174 rfl ?_
                        refine a_iload S d_Mod_readDecimal_176 rfl ?_
                        refine a_isub S d_Mod_readDecimal_178 ?_
                        refine a_iast S (i := k) h4 rfl (by omega) (by decide) d_Mod_readDecimal_179 (fun w359 h4 e360 => ?_)
                        have fr := fr.trans (Fr.sub (Fr.of1 e360) (by omega) (by omega))
                        have h0 := Fr.cell (Fr.of1 e360) h0 (by omega)
                        have h1 := Fr.cell (Fr.of1 e360) h1 (by omega)
                        have h2 := Fr.cell (Fr.of1 e360) h2 (by omega)
                        have h3 := Fr.cell (Fr.of1 e360) h3 (by omega)
                        have h5 := Fr.cell (Fr.of1 e360) h5 (by omega)
                        have h6 := Fr.cell (Fr.of1 e360) h6 (by omega)
                        have h7 := Fr.cell (Fr.of1 e360) h7 (by omega)
                        have h8 := Fr.cell (Fr.of1 e360) h8 (by omega)
                        have h9 := Fr.cell (Fr.of1 e360) h9 (by omega)
                        have h10 := Fr.cell (Fr.of1 e360) h10 (by omega)
                        have h11 := Fr.cell (Fr.of1 e360) h11 (by omega)
                        have h12 := Fr.cell (Fr.of1 e360) h12 (by omega)
                        have h13 := Fr.cell (Fr.of1 e360) h13 (by omega)
                        exact RT _ _ _ _ _ _ d_Mod_readDecimal_180 (by omega) (by omega) ⟨_, _, _, _, p2, b1, rfl, rfl, fr, ⟨h0, h1, h2, h3, h4, h5, h6, h7, h8, h9, h10, h11, h12, h13⟩, hp2, DX.up, (fun d0 e0 rest g => have z := hC.e hx d0 e0 rest g; ⟨z.1, by rw [← z.2.1, (sg_n (lN q))], z.2.2.1, z.2.2.2⟩)⟩
                    · have hB0 : ¬ B = 0 := fun z => h83 (by rw [z]; rfl)
                      refine a_aload_n S d_Mod_readDecimal_86 rfl rfl ?_
                      refine a_get S kc_Mod 22 (by decide) lf_Mod_142 h0 rfl d_Mod_readDecimal_87 ?_
                      refine a_if_ne S (tgt := 146) d_Mod_readDecimal_90 rfl (fun h90 => ?_) (fun h90 => ?_)
                      · have hx : B = 0 ∨ b1 = true := Or.inr (bo_1 h90)
                        refine a_aload_n S d_Mod_readDecimal_146 rfl rfl ?_
                        refine a_get S kc_Mod 5 (by decide) lf_Mod_16 h0 rfl d_Mod_readDecimal_147 ?_
                        refine a_iload_n S d_Mod_readDecimal_150 rfl rfl ?_
                        refine a_iload S d_Mod_readDecimal_151 rfl ?_
                        refine a_sipush S (v := 255) d_Mod_readDecimal_153 (by decide) ?_
                        refine a_icmp_ne S (tgt := 166) d_Mod_readDecimal_156 rfl (fun h156 => ?_) (fun h156 => ?_)
                        · exact absurd (by decide) h156
                        · refine a_lconst S (v := 0) d_Mod_readDecimal_159 (by decide) ?_
                          refine a_lload S d_Mod_readDecimal_160 rfl ?_
                          refine a_lsub S d_Mod_readDecimal_162 ?_
                          refine a_goto S (tgt := 168) d_Mod_readDecimal_163 rfl ?_
                          refine a_last S (i := k) h3 rfl (by omega) (by decide) d_Mod_readDecimal_168 (fun w361 h3 e362 => ?_)
                          have fr := fr.trans (Fr.sub (Fr.of1 e362) (by omega) (by omega))
                          have h0 := Fr.cell (Fr.of1 e362) h0 (by omega)
                          have h1 := Fr.cell (Fr.of1 e362) h1 (by omega)
                          have h2 := Fr.cell (Fr.of1 e362) h2 (by omega)
                          have h4 := Fr.cell (Fr.of1 e362) h4 (by omega)
                          have h5 := Fr.cell (Fr.of1 e362) h5 (by omega)
                          have h6 := Fr.cell (Fr.of1 e362) h6 (by omega)
                          have h7 := Fr.cell (Fr.of1 e362) h7 (by omega)
                          have h8 := Fr.cell (Fr.of1 e362) h8 (by omega)
                          have h9 := Fr.cell (Fr.of1 e362) h9 (by omega)
                          have h10 := Fr.cell (Fr.of1 e362) h10 (by omega)
                          have h11 := Fr.cell (Fr.of1 e362) h11 (by omega)
                          have h12 := Fr.cell (Fr.of1 e362) h12 (by omega)
                          have h13 := Fr.cell (Fr.of1 e362) h13 (by omega)
                          refine a_aload_n S d_Mod_readDecimal_169 rfl rfl ?_
                          refine a_get S kc_Mod 6 (by decide) lf_Mod_20 h0 rfl d_Mod_readDecimal_170 ?_
                          refine a_iload_n S d_Mod_readDecimal_173 rfl rfl ?_
                          refine a_iload S d_Mod_readDecimal_174 rfl ?_
                          refine a_iload S d_Mod_readDecimal_176 rfl ?_
                          refine a_isub S d_Mod_readDecimal_178 ?_
                          refine a_iast S (i := k) h4 rfl (by omega) (by decide) d_Mod_readDecimal_179 (fun w363 h4 e364 => ?_)
                          have fr := fr.trans (Fr.sub (Fr.of1 e364) (by omega) (by omega))
                          have h0 := Fr.cell (Fr.of1 e364) h0 (by omega)
                          have h1 := Fr.cell (Fr.of1 e364) h1 (by omega)
                          have h2 := Fr.cell (Fr.of1 e364) h2 (by omega)
                          have h3 := Fr.cell (Fr.of1 e364) h3 (by omega)
                          have h5 := Fr.cell (Fr.of1 e364) h5 (by omega)
                          have h6 := Fr.cell (Fr.of1 e364) h6 (by omega)
                          have h7 := Fr.cell (Fr.of1 e364) h7 (by omega)
                          have h8 := Fr.cell (Fr.of1 e364) h8 (by omega)
                          have h9 := Fr.cell (Fr.of1 e364) h9 (by omega)
                          have h10 := Fr.cell (Fr.of1 e364) h10 (by omega)
                          have h11 := Fr.cell (Fr.of1 e364) h11 (by omega)
                          have h12 := Fr.cell (Fr.of1 e364) h12 (by omega)
                          have h13 := Fr.cell (Fr.of1 e364) h13 (by omega)
                          exact RT _ _ _ _ _ _ d_Mod_readDecimal_180 (by omega) (by omega) ⟨_, _, _, _, p2, b1, rfl, rfl, fr, ⟨h0, h1, h2, h3, h4, h5, h6, h7, h8, h9, h10, h11, h12, h13⟩, hp2, DX.up, (fun d0 e0 rest g => have z := hC.e hx d0 e0 rest g; ⟨z.1, by rw [← z.2.1, (sg_n (lN q))], z.2.2.1, z.2.2.2⟩)⟩
                      · obtain rfl : b1 = false := bo_0 h90
                        have hm2 : m ≤ 16 := hm.elim id (fun z => by cases z.1)
                        refine a_aload_n S d_Mod_readDecimal_93 rfl rfl ?_
                        refine a_iload S d_Mod_readDecimal_94 rfl ?_
                        refine a_bipush S (v := 10) d_Mod_readDecimal_96 (by decide) ?_
                        refine a_icmp_gt S (tgt := 108) d_Mod_readDecimal_98 rfl (fun h98 => ?_) (fun h98 => ?_)
                        · have hbig : 10 < B ∨ m = 16 := Or.inl ((nI_ltI (by decide) (by omega)).mp h98)
                          refine a_iconst S (v := 1) d_Mod_readDecimal_108 (by decide) ?_
                          refine a_goto S (tgt := 113) d_Mod_readDecimal_109 rfl ?_
                          refine a_put S kc_Mod kt_Mod 22 (by decide) lf_Mod_142 rfl h0 rfl rfl (Nat.le_of_ble_eq_true rfl) d_Mod_readDecimal_113 (fun w365 h0 e366 => ?_)
                          have h0 : w365 b = some (.inr (6, [.int th, .int (nI fd), .int (if sl then 1 else 0), .ref (b + 1), .ref (b + 2), .ref (b + 3), .ref (b + 4), .ref (b + 5), .ref (b + 6), .ref (b + 7), .int (nI kp), .ref (b + 8), .int (nI l0.length), .ref (b + 9), .int (nI sz), .ref (b + 10), .ref (b + 11), .ref (b + 12), .ref (b + 13), .int (nI ls), .int hz, .int (nI p2), .int 1])) := h0
                          have fr := fr.trans (Fr.sub (Fr.of1 e366) (by omega) (by omega))
                          have h1 := Fr.cell (Fr.of1 e366) h1 (by omega)
                          have h2 := Fr.cell (Fr.of1 e366) h2 (by omega)
                          have h3 := Fr.cell (Fr.of1 e366) h3 (by omega)
                          have h4 := Fr.cell (Fr.of1 e366) h4 (by omega)
                          have h5 := Fr.cell (Fr.of1 e366) h5 (by omega)
                          have h6 := Fr.cell (Fr.of1 e366) h6 (by omega)
                          have h7 := Fr.cell (Fr.of1 e366) h7 (by omega)
                          have h8 := Fr.cell (Fr.of1 e366) h8 (by omega)
                          have h9 := Fr.cell (Fr.of1 e366) h9 (by omega)
                          have h10 := Fr.cell (Fr.of1 e366) h10 (by omega)
                          have h11 := Fr.cell (Fr.of1 e366) h11 (by omega)
                          have h12 := Fr.cell (Fr.of1 e366) h12 (by omega)
                          have h13 := Fr.cell (Fr.of1 e366) h13 (by omega)
                          refine a_lload S d_Mod_readDecimal_116 rfl ?_
                          refine a_ldc2 S (v := 10) lK_Mod_111 d_Mod_readDecimal_118 ?_
                          refine a_lmul S d_Mod_readDecimal_121 ?_
                          refine a_iload S d_Mod_readDecimal_122 rfl ?_
                          refine a_i2l S d_Mod_readDecimal_124 ?_
                          refine a_ladd S d_Mod_readDecimal_125 ?_
                          refine a_lconst S (v := 1) d_Mod_readDecimal_126 (by decide) ?_
                          refine a_lsub S d_Mod_readDecimal_127 ?_
                          refine a_eql (y := (lN (q * 10 + (B - 1)))) (l_dig hB0 hB) ?_
                          refine a_lstore S d_Mod_readDecimal_128 (Nat.le_of_ble_eq_true rfl) (lv' := [(0, .ref b), (1, .int (nI k)), (2, .int (nI t)), (3, .int (nI (tnB t (l0.getD pt 0)))), (4, .int 255), (5, .int 191), (6, .long (lN (q * 10 + (B - 1)))), (8, .int (nI m)), (9, .int (nI B))]) rfl ?_
                          refine a_iinc S (v := nI (m + 1)) d_Mod_readDecimal_130 rfl (ni_add rfl (by decide)) (Nat.le_of_ble_eq_true rfl) (lv' := [(0, .ref b), (1, .int (nI k)), (2, .int (nI t)), (3, .int (nI (tnB t (l0.getD pt 0)))), (4, .int 255), (5, .int 191), (6, .long (lN (q * 10 + (B - 1)))), (8, .int (nI (m + 1))), (9, .int (nI B))]) rfl ?_
                          refine a_aload_n S d_Mod_readDecimal_133 rfl rfl ?_
                          refine a_iload_n S d_Mod_readDecimal_134 rfl rfl ?_
                          refine a_callV S (rest := []) lg_Mod_145 h0 (c_Mod_next X.2.1 D b th fd sl ki fl va fo go si te kp ro ma sz en ms lw hw ls hz p2 true l0 t w365 n hl hby hA (by omega) ht ⟨h0, h1, h2, h3, h4, h5, h6, h7, h8, h9, h10, h11, h12, h13⟩) (by decide) (by omega) (by omega) rfl (Nat.le_of_ble_eq_true rfl) d_Mod_readDecimal_135 (fun v367 w368 n369 p370 => ?_)
                          rcases p370 with ⟨hq373, rfl, e372, f371, h0, h1, h2, h3, h4, h5, h6, h7, h8, h9, h10, h11, h12, h13⟩ | ⟨hq373, rfl, e372, f371, h0, h1, h2, h3, h4, h5, h6, h7, h8, h9, h10, h11, h12, h13⟩
                          · rw [e372]
                            refine a_st (st' := [.int (nI (tnB t (l0.getD p2 0)))]) rfl ?_
                            have hbhq373 := tnB_lt (t := t) (getD_lt hby p2)
                            have fr := fr.trans (Fr.sub f371 (by omega) (by omega))
                            refine a_iload S d_Mod_readDecimal_138 rfl ?_
                            refine a_ixor S d_Mod_readDecimal_140 ?_
                            refine a_eqi (y := nI (tnB (255 - t) (l0.getD p2 0))) (xor_g1 ht (getD_lt hby p2)) ?_
                            refine a_istore S d_Mod_readDecimal_141 (Nat.le_of_ble_eq_true rfl) (lv' := [(0, .ref b), (1, .int (nI k)), (2, .int (nI t)), (3, .int (nI (tnB t (l0.getD pt 0)))), (4, .int 255), (5, .int 191), (6, .long (lN (q * 10 + (B - 1)))), (8, .int (nI (m + 1))), (9, .int (nI (tnB (255 - t) (l0.getD p2 0))))]) rfl ?_
                            refine a_goto S (tgt := 81) d_Mod_readDecimal_143 rfl ?_
                            exact ih81 _ (by omega) (q * 10 + (B - 1)) (m + 1) (tnB (255 - t) (l0.getD p2 0)) true (p2 + 1) w368 rfl (Or.inr ⟨rfl, by omega⟩) (by omega) (tnB_lt (getD_lt hby _)) fr ⟨h0, h1, h2, h3, h4, h5, h6, h7, h8, h9, h10, h11, h12, h13⟩ (hC.big hB0 hbig)
                          · rw [e372]
                            refine a_st (st' := [.int 0]) rfl ?_
                            have fr := fr.trans (Fr.sub f371 (by omega) (by omega))
                            refine a_iload S d_Mod_readDecimal_138 rfl ?_
                            refine a_ixor S d_Mod_readDecimal_140 ?_
                            refine a_eqi (y := 255) (by decide) ?_
                            refine a_istore S d_Mod_readDecimal_141 (Nat.le_of_ble_eq_true rfl) (lv' := [(0, .ref b), (1, .int (nI k)), (2, .int (nI t)), (3, .int (nI (tnB t (l0.getD pt 0)))), (4, .int 255), (5, .int 191), (6, .long (lN (q * 10 + (B - 1)))), (8, .int (nI (m + 1))), (9, .int 255)]) rfl ?_
                            refine a_goto S (tgt := 81) d_Mod_readDecimal_143 rfl ?_
                            exact ih81 _ (by omega) (q * 10 + (B - 1)) (m + 1) 255 true p2 w368 rfl (Or.inr ⟨rfl, by omega⟩) (by omega) (by decide) fr ⟨h0, h1, h2, h3, h4, h5, h6, h7, h8, h9, h10, h11, h12, h13⟩ (hC.big hB0 hbig)
                        · have hB10 : ¬ 10 < B := fun z => h98 ((nI_ltI (by decide) (by omega)).mpr z)
                          refine a_iload S d_Mod_readDecimal_101 rfl ?_
                          refine a_bipush S (v := 16) d_Mod_readDecimal_103 (by decide) ?_
                          refine a_icmp_ne S (tgt := 112) d_Mod_readDecimal_105 rfl (fun h105 => ?_) (fun h105 => ?_)
                          · have hm16 : ¬ m = 16 := fun z => h105 (by rw [z]; rfl)
                            refine a_iconst S (v := 0) d_Mod_readDecimal_112 (by decide) ?_
                            refine a_put S kc_Mod kt_Mod 22 (by decide) lf_Mod_142 rfl h0 rfl rfl (Nat.le_of_ble_eq_true rfl) d_Mod_readDecimal_113 (fun w374 h0 e375 => ?_)
                            have h0 : w374 b = some (.inr (6, [.int th, .int (nI fd), .int (if sl then 1 else 0), .ref (b + 1), .ref (b + 2), .ref (b + 3), .ref (b + 4), .ref (b + 5), .ref (b + 6), .ref (b + 7), .int (nI kp), .ref (b + 8), .int (nI l0.length), .ref (b + 9), .int (nI sz), .ref (b + 10), .ref (b + 11), .ref (b + 12), .ref (b + 13), .int (nI ls), .int hz, .int (nI p2), .int 0])) := h0
                            have fr := fr.trans (Fr.sub (Fr.of1 e375) (by omega) (by omega))
                            have h1 := Fr.cell (Fr.of1 e375) h1 (by omega)
                            have h2 := Fr.cell (Fr.of1 e375) h2 (by omega)
                            have h3 := Fr.cell (Fr.of1 e375) h3 (by omega)
                            have h4 := Fr.cell (Fr.of1 e375) h4 (by omega)
                            have h5 := Fr.cell (Fr.of1 e375) h5 (by omega)
                            have h6 := Fr.cell (Fr.of1 e375) h6 (by omega)
                            have h7 := Fr.cell (Fr.of1 e375) h7 (by omega)
                            have h8 := Fr.cell (Fr.of1 e375) h8 (by omega)
                            have h9 := Fr.cell (Fr.of1 e375) h9 (by omega)
                            have h10 := Fr.cell (Fr.of1 e375) h10 (by omega)
                            have h11 := Fr.cell (Fr.of1 e375) h11 (by omega)
                            have h12 := Fr.cell (Fr.of1 e375) h12 (by omega)
                            have h13 := Fr.cell (Fr.of1 e375) h13 (by omega)
                            refine a_lload S d_Mod_readDecimal_116 rfl ?_
                            refine a_ldc2 S (v := 10) lK_Mod_111 d_Mod_readDecimal_118 ?_
                            refine a_lmul S d_Mod_readDecimal_121 ?_
                            refine a_iload S d_Mod_readDecimal_122 rfl ?_
                            refine a_i2l S d_Mod_readDecimal_124 ?_
                            refine a_ladd S d_Mod_readDecimal_125 ?_
                            refine a_lconst S (v := 1) d_Mod_readDecimal_126 (by decide) ?_
                            refine a_lsub S d_Mod_readDecimal_127 ?_
                            refine a_eql (y := (lN (q * 10 + (B - 1)))) (l_dig hB0 hB) ?_
                            refine a_lstore S d_Mod_readDecimal_128 (Nat.le_of_ble_eq_true rfl) (lv' := [(0, .ref b), (1, .int (nI k)), (2, .int (nI t)), (3, .int (nI (tnB t (l0.getD pt 0)))), (4, .int 255), (5, .int 191), (6, .long (lN (q * 10 + (B - 1)))), (8, .int (nI m)), (9, .int (nI B))]) rfl ?_
                            refine a_iinc S (v := nI (m + 1)) d_Mod_readDecimal_130 rfl (ni_add rfl (by decide)) (Nat.le_of_ble_eq_true rfl) (lv' := [(0, .ref b), (1, .int (nI k)), (2, .int (nI t)), (3, .int (nI (tnB t (l0.getD pt 0)))), (4, .int 255), (5, .int 191), (6, .long (lN (q * 10 + (B - 1)))), (8, .int (nI (m + 1))), (9, .int (nI B))]) rfl ?_
                            refine a_aload_n S d_Mod_readDecimal_133 rfl rfl ?_
                            refine a_iload_n S d_Mod_readDecimal_134 rfl rfl ?_
                            refine a_callV S (rest := []) lg_Mod_145 h0 (c_Mod_next X.2.1 D b th fd sl ki fl va fo go si te kp ro ma sz en ms lw hw ls hz p2 false l0 t w374 n hl hby hA (by omega) ht ⟨h0, h1, h2, h3, h4, h5, h6, h7, h8, h9, h10, h11, h12, h13⟩) (by decide) (by omega) (by omega) rfl (Nat.le_of_ble_eq_true rfl) d_Mod_readDecimal_135 (fun v376 w377 n378 p379 => ?_)
                            rcases p379 with ⟨hq382, rfl, e381, f380, h0, h1, h2, h3, h4, h5, h6, h7, h8, h9, h10, h11, h12, h13⟩ | ⟨hq382, rfl, e381, f380, h0, h1, h2, h3, h4, h5, h6, h7, h8, h9, h10, h11, h12, h13⟩
                            · rw [e381]
                              refine a_st (st' := [.int (nI (tnB t (l0.getD p2 0)))]) rfl ?_
                              have hbhq382 := tnB_lt (t := t) (getD_lt hby p2)
                              have fr := fr.trans (Fr.sub f380 (by omega) (by omega))
                              refine a_iload S d_Mod_readDecimal_138 rfl ?_
                              refine a_ixor S d_Mod_readDecimal_140 ?_
                              refine a_eqi (y := nI (tnB (255 - t) (l0.getD p2 0))) (xor_g1 ht (getD_lt hby p2)) ?_
                              refine a_istore S d_Mod_readDecimal_141 (Nat.le_of_ble_eq_true rfl) (lv' := [(0, .ref b), (1, .int (nI k)), (2, .int (nI t)), (3, .int (nI (tnB t (l0.getD pt 0)))), (4, .int 255), (5, .int 191), (6, .long (lN (q * 10 + (B - 1)))), (8, .int (nI (m + 1))), (9, .int (nI (tnB (255 - t) (l0.getD p2 0))))]) rfl ?_
                              refine a_goto S (tgt := 81) d_Mod_readDecimal_143 rfl ?_
                              exact ih81 _ (by omega) (q * 10 + (B - 1)) (m + 1) (tnB (255 - t) (l0.getD p2 0)) false (p2 + 1) w377 rfl (by omega) (by omega) (tnB_lt (getD_lt hby _)) fr ⟨h0, h1, h2, h3, h4, h5, h6, h7, h8, h9, h10, h11, h12, h13⟩ (hC.s hB0 hB10 hm16 hq382)
                            · rw [e381]
                              refine a_st (st' := [.int 0]) rfl ?_
                              have fr := fr.trans (Fr.sub f380 (by omega) (by omega))
                              refine a_iload S d_Mod_readDecimal_138 rfl ?_
                              refine a_ixor S d_Mod_readDecimal_140 ?_
                              refine a_eqi (y := 255) (by decide) ?_
                              refine a_istore S d_Mod_readDecimal_141 (Nat.le_of_ble_eq_true rfl) (lv' := [(0, .ref b), (1, .int (nI k)), (2, .int (nI t)), (3, .int (nI (tnB t (l0.getD pt 0)))), (4, .int 255), (5, .int 191), (6, .long (lN (q * 10 + (B - 1)))), (8, .int (nI (m + 1))), (9, .int 255)]) rfl ?_
                              refine a_goto S (tgt := 81) d_Mod_readDecimal_143 rfl ?_
                              exact ih81 _ (by omega) (q * 10 + (B - 1)) (m + 1) 255 true p2 w377 rfl (by omega) (by omega) (by decide) fr ⟨h0, h1, h2, h3, h4, h5, h6, h7, h8, h9, h10, h11, h12, h13⟩ (hC.se hB0 hB10 hm16 hq382)
                          · have hbig : 10 < B ∨ m = 16 := Or.inr ((nI_eq (by omega) (by decide)).mp h105)
                            refine a_iconst S (v := 1) d_Mod_readDecimal_108 (by decide) ?_
                            refine a_goto S (tgt := 113) d_Mod_readDecimal_109 rfl ?_
                            refine a_put S kc_Mod kt_Mod 22 (by decide) lf_Mod_142 rfl h0 rfl rfl (Nat.le_of_ble_eq_true rfl) d_Mod_readDecimal_113 (fun w383 h0 e384 => ?_)
                            have h0 : w383 b = some (.inr (6, [.int th, .int (nI fd), .int (if sl then 1 else 0), .ref (b + 1), .ref (b + 2), .ref (b + 3), .ref (b + 4), .ref (b + 5), .ref (b + 6), .ref (b + 7), .int (nI kp), .ref (b + 8), .int (nI l0.length), .ref (b + 9), .int (nI sz), .ref (b + 10), .ref (b + 11), .ref (b + 12), .ref (b + 13), .int (nI ls), .int hz, .int (nI p2), .int 1])) := h0
                            have fr := fr.trans (Fr.sub (Fr.of1 e384) (by omega) (by omega))
                            have h1 := Fr.cell (Fr.of1 e384) h1 (by omega)
                            have h2 := Fr.cell (Fr.of1 e384) h2 (by omega)
                            have h3 := Fr.cell (Fr.of1 e384) h3 (by omega)
                            have h4 := Fr.cell (Fr.of1 e384) h4 (by omega)
                            have h5 := Fr.cell (Fr.of1 e384) h5 (by omega)
                            have h6 := Fr.cell (Fr.of1 e384) h6 (by omega)
                            have h7 := Fr.cell (Fr.of1 e384) h7 (by omega)
                            have h8 := Fr.cell (Fr.of1 e384) h8 (by omega)
                            have h9 := Fr.cell (Fr.of1 e384) h9 (by omega)
                            have h10 := Fr.cell (Fr.of1 e384) h10 (by omega)
                            have h11 := Fr.cell (Fr.of1 e384) h11 (by omega)
                            have h12 := Fr.cell (Fr.of1 e384) h12 (by omega)
                            have h13 := Fr.cell (Fr.of1 e384) h13 (by omega)
                            refine a_lload S d_Mod_readDecimal_116 rfl ?_
                            refine a_ldc2 S (v := 10) lK_Mod_111 d_Mod_readDecimal_118 ?_
                            refine a_lmul S d_Mod_readDecimal_121 ?_
                            refine a_iload S d_Mod_readDecimal_122 rfl ?_
                            refine a_i2l S d_Mod_readDecimal_124 ?_
                            refine a_ladd S d_Mod_readDecimal_125 ?_
                            refine a_lconst S (v := 1) d_Mod_readDecimal_126 (by decide) ?_
                            refine a_lsub S d_Mod_readDecimal_127 ?_
                            refine a_eql (y := (lN (q * 10 + (B - 1)))) (l_dig hB0 hB) ?_
                            refine a_lstore S d_Mod_readDecimal_128 (Nat.le_of_ble_eq_true rfl) (lv' := [(0, .ref b), (1, .int (nI k)), (2, .int (nI t)), (3, .int (nI (tnB t (l0.getD pt 0)))), (4, .int 255), (5, .int 191), (6, .long (lN (q * 10 + (B - 1)))), (8, .int (nI m)), (9, .int (nI B))]) rfl ?_
                            refine a_iinc S (v := nI (m + 1)) d_Mod_readDecimal_130 rfl (ni_add rfl (by decide)) (Nat.le_of_ble_eq_true rfl) (lv' := [(0, .ref b), (1, .int (nI k)), (2, .int (nI t)), (3, .int (nI (tnB t (l0.getD pt 0)))), (4, .int 255), (5, .int 191), (6, .long (lN (q * 10 + (B - 1)))), (8, .int (nI (m + 1))), (9, .int (nI B))]) rfl ?_
                            refine a_aload_n S d_Mod_readDecimal_133 rfl rfl ?_
                            refine a_iload_n S d_Mod_readDecimal_134 rfl rfl ?_
                            refine a_callV S (rest := []) lg_Mod_145 h0 (c_Mod_next X.2.1 D b th fd sl ki fl va fo go si te kp ro ma sz en ms lw hw ls hz p2 true l0 t w383 n hl hby hA (by omega) ht ⟨h0, h1, h2, h3, h4, h5, h6, h7, h8, h9, h10, h11, h12, h13⟩) (by decide) (by omega) (by omega) rfl (Nat.le_of_ble_eq_true rfl) d_Mod_readDecimal_135 (fun v385 w386 n387 p388 => ?_)
                            rcases p388 with ⟨hq391, rfl, e390, f389, h0, h1, h2, h3, h4, h5, h6, h7, h8, h9, h10, h11, h12, h13⟩ | ⟨hq391, rfl, e390, f389, h0, h1, h2, h3, h4, h5, h6, h7, h8, h9, h10, h11, h12, h13⟩
                            · rw [e390]
                              refine a_st (st' := [.int (nI (tnB t (l0.getD p2 0)))]) rfl ?_
                              have hbhq391 := tnB_lt (t := t) (getD_lt hby p2)
                              have fr := fr.trans (Fr.sub f389 (by omega) (by omega))
                              refine a_iload S d_Mod_readDecimal_138 rfl ?_
                              refine a_ixor S d_Mod_readDecimal_140 ?_
                              refine a_eqi (y := nI (tnB (255 - t) (l0.getD p2 0))) (xor_g1 ht (getD_lt hby p2)) ?_
                              refine a_istore S d_Mod_readDecimal_141 (Nat.le_of_ble_eq_true rfl) (lv' := [(0, .ref b), (1, .int (nI k)), (2, .int (nI t)), (3, .int (nI (tnB t (l0.getD pt 0)))), (4, .int 255), (5, .int 191), (6, .long (lN (q * 10 + (B - 1)))), (8, .int (nI (m + 1))), (9, .int (nI (tnB (255 - t) (l0.getD p2 0))))]) rfl ?_
                              refine a_goto S (tgt := 81) d_Mod_readDecimal_143 rfl ?_
                              exact ih81 _ (by omega) (q * 10 + (B - 1)) (m + 1) (tnB (255 - t) (l0.getD p2 0)) true (p2 + 1) w386 rfl (Or.inr ⟨rfl, by omega⟩) (by omega) (tnB_lt (getD_lt hby _)) fr ⟨h0, h1, h2, h3, h4, h5, h6, h7, h8, h9, h10, h11, h12, h13⟩ (hC.big hB0 hbig)
                            · rw [e390]
                              refine a_st (st' := [.int 0]) rfl ?_
                              have fr := fr.trans (Fr.sub f389 (by omega) (by omega))
                              refine a_iload S d_Mod_readDecimal_138 rfl ?_
                              refine a_ixor S d_Mod_readDecimal_140 ?_
                              refine a_eqi (y := 255) (by decide) ?_
                              refine a_istore S d_Mod_readDecimal_141 (Nat.le_of_ble_eq_true rfl) (lv' := [(0, .ref b), (1, .int (nI k)), (2, .int (nI t)), (3, .int (nI (tnB t (l0.getD pt 0)))), (4, .int 255), (5, .int 191), (6, .long (lN (q * 10 + (B - 1)))), (8, .int (nI (m + 1))), (9, .int 255)]) rfl ?_
                              refine a_goto S (tgt := 81) d_Mod_readDecimal_143 rfl ?_
                              exact ih81 _ (by omega) (q * 10 + (B - 1)) (m + 1) 255 true p2 w386 rfl (Or.inr ⟨rfl, by omega⟩) (by omega) (by decide) fr ⟨h0, h1, h2, h3, h4, h5, h6, h7, h8, h9, h10, h11, h12, h13⟩ (hC.big hB0 hbig)
                exact loop81 _ 0 0 255 true (pt + 1) w351 rfl (Or.inl (Nat.zero_le _)) (by omega) (by decide) fr ⟨h0, h1, h2, h3, h4, h5, h6, h7, h8, h9, h10, h11, h12, h13⟩ (RDc.f1 hq7 (Or.inl ⟨hy1, rfl, rfl⟩) hq272)
          · exact absurd (by rw [hy1]; rfl) h36
    · have hy2 : tnB t (l0.getD pt 0) = 2 := (nI_eq (by omega) (by decide)).mp h8_
      exact RT _ _ _ _ _ _ d_Mod_readDecimal_11 (by omega) (by omega) ⟨0, 0, va, fo, pt + 1, false, rfl, rfl, fr, ⟨h0, h1, h2, h3, h4, h5, h6, h7, h8, h9, h10, h11, h12, h13⟩, (by omega), DX.id hv0 hf0, (fun d0 e0 rest q => by rw [rD_2 hq7 hy2] at q; cases q; exact ⟨rfl, rfl, rfl, rfl⟩)⟩
  · rw [e6]
    refine a_st (st' := [.int 0]) rfl ?_
    have fr := fr.trans (Fr.sub f5 (by omega) (by omega))
    refine a_istore_n S d_Mod_readDecimal_5 rfl (Nat.le_of_ble_eq_true rfl) (lv' := [(0, .ref b), (1, .int (nI k)), (2, .int (nI t)), (3, .int 0)]) rfl ?_
    refine a_iload_n S d_Mod_readDecimal_6 rfl rfl ?_
    refine a_iconst S (v := 2) d_Mod_readDecimal_7 (by decide) ?_
    refine a_icmp_ne S (tgt := 12) d_Mod_readDecimal_8 rfl (fun h8_ => ?_) (fun h8_ => ?_)
    · refine a_iload_n S d_Mod_readDecimal_12 rfl rfl ?_
      refine a_iconst S (v := 1) d_Mod_readDecimal_13 (by decide) ?_
      refine a_icmp_ne S (tgt := 23) d_Mod_readDecimal_14 rfl (fun h14 => ?_) (fun h14 => ?_)
      · refine a_iconst S (v := 0) d_Mod_readDecimal_23 (by decide) ?_
        refine a_istore S d_Mod_readDecimal_24 (Nat.le_of_ble_eq_true rfl) (lv' := [(0, .ref b), (1, .int (nI k)), (2, .int (nI t)), (3, .int 0), (4, .int 0)]) rfl ?_
        refine a_aload_n S d_Mod_readDecimal_26 rfl rfl ?_
        refine a_aload_n S d_Mod_readDecimal_27 rfl rfl ?_
        refine a_get S kc_Mod 22 (by decide) lf_Mod_142 h0 rfl d_Mod_readDecimal_28 ?_
        refine a_if_ne S (tgt := 44) d_Mod_readDecimal_31 rfl (fun h31 => ?_) (fun h31 => ?_)
        · refine a_iconst S (v := 1) d_Mod_readDecimal_44 (by decide) ?_
          refine a_goto S (tgt := 49) d_Mod_readDecimal_45 rfl ?_
          refine a_put S kc_Mod kt_Mod 22 (by decide) lf_Mod_142 rfl h0 rfl rfl (Nat.le_of_ble_eq_true rfl) d_Mod_readDecimal_49 (fun w392 h0 e393 => ?_)
          have h0 : w392 b = some (.inr (6, [.int th, .int (nI fd), .int (if sl then 1 else 0), .ref (b + 1), .ref (b + 2), .ref (b + 3), .ref (b + 4), .ref (b + 5), .ref (b + 6), .ref (b + 7), .int (nI kp), .ref (b + 8), .int (nI l0.length), .ref (b + 9), .int (nI sz), .ref (b + 10), .ref (b + 11), .ref (b + 12), .ref (b + 13), .int (nI ls), .int hz, .int (nI pt), .int 1])) := h0
          have fr := fr.trans (Fr.sub (Fr.of1 e393) (by omega) (by omega))
          have h1 := Fr.cell (Fr.of1 e393) h1 (by omega)
          have h2 := Fr.cell (Fr.of1 e393) h2 (by omega)
          have h3 := Fr.cell (Fr.of1 e393) h3 (by omega)
          have h4 := Fr.cell (Fr.of1 e393) h4 (by omega)
          have h5 := Fr.cell (Fr.of1 e393) h5 (by omega)
          have h6 := Fr.cell (Fr.of1 e393) h6 (by omega)
          have h7 := Fr.cell (Fr.of1 e393) h7 (by omega)
          have h8 := Fr.cell (Fr.of1 e393) h8 (by omega)
          have h9 := Fr.cell (Fr.of1 e393) h9 (by omega)
          have h10 := Fr.cell (Fr.of1 e393) h10 (by omega)
          have h11 := Fr.cell (Fr.of1 e393) h11 (by omega)
          have h12 := Fr.cell (Fr.of1 e393) h12 (by omega)
          have h13 := Fr.cell (Fr.of1 e393) h13 (by omega)
          refine a_aload_n S d_Mod_readDecimal_52 rfl rfl ?_
          refine a_iload_n S d_Mod_readDecimal_53 rfl rfl ?_
          refine a_callV S (rest := []) lg_Mod_145 h0 (c_Mod_next X.2.1 D b th fd sl ki fl va fo go si te kp ro ma sz en ms lw hw ls hz pt true l0 t w392 n hl hby hA (by omega) ht ⟨h0, h1, h2, h3, h4, h5, h6, h7, h8, h9, h10, h11, h12, h13⟩) (by decide) (by omega) (by omega) rfl (Nat.le_of_ble_eq_true rfl) d_Mod_readDecimal_54 (fun v394 w395 n396 p397 => ?_)
          rcases p397 with ⟨hq400, rfl, e399, f398, h0, h1, h2, h3, h4, h5, h6, h7, h8, h9, h10, h11, h12, h13⟩ | ⟨hq400, rfl, e399, f398, h0, h1, h2, h3, h4, h5, h6, h7, h8, h9, h10, h11, h12, h13⟩
          · rw [e399]
            refine a_st (st' := [.int (nI (tnB t (l0.getD pt 0)))]) rfl ?_
            have hbhq400 := tnB_lt (t := t) (getD_lt hby pt)
            have fr := fr.trans (Fr.sub f398 (by omega) (by omega))
            exact absurd hq400 (by omega)
          · rw [e399]
            refine a_st (st' := [.int 0]) rfl ?_
            have fr := fr.trans (Fr.sub f398 (by omega) (by omega))
            refine a_iload S d_Mod_readDecimal_57 rfl ?_
            refine a_ixor S d_Mod_readDecimal_59 ?_
            refine a_eqi (y := 0) (by decide) ?_
            refine a_bipush S (v := 64) d_Mod_readDecimal_60 (by decide) ?_
            refine a_isub S d_Mod_readDecimal_62 ?_
            refine a_eqi (y := (-64)) (by decide) ?_
            refine a_istore S d_Mod_readDecimal_63 (Nat.le_of_ble_eq_true rfl) (lv' := [(0, .ref b), (1, .int (nI k)), (2, .int (nI t)), (3, .int 0), (4, .int 0), (5, .int (-64))]) rfl ?_
            refine a_lconst S (v := 0) d_Mod_readDecimal_65 (by decide) ?_
            refine a_lstore S d_Mod_readDecimal_66 (Nat.le_of_ble_eq_true rfl) (lv' := [(0, .ref b), (1, .int (nI k)), (2, .int (nI t)), (3, .int 0), (4, .int 0), (5, .int (-64)), (6, .long 0)]) rfl ?_
            refine a_iconst S (v := 0) d_Mod_readDecimal_68 (by decide) ?_
            refine a_istore S d_Mod_readDecimal_69 (Nat.le_of_ble_eq_true rfl) (lv' := [(0, .ref b), (1, .int (nI k)), (2, .int (nI t)), (3, .int 0), (4, .int 0), (5, .int (-64)), (6, .long 0), (8, .int 0)]) rfl ?_
            refine a_aload_n S d_Mod_readDecimal_71 rfl rfl ?_
            refine a_iload_n S d_Mod_readDecimal_72 rfl rfl ?_
            refine a_callV S (rest := []) lg_Mod_145 h0 (c_Mod_next X.2.1 D b th fd sl ki fl va fo go si te kp ro ma sz en ms lw hw ls hz pt true l0 t w395 n hl hby hA (by omega) ht ⟨h0, h1, h2, h3, h4, h5, h6, h7, h8, h9, h10, h11, h12, h13⟩) (by decide) (by omega) (by omega) rfl (Nat.le_of_ble_eq_true rfl) d_Mod_readDecimal_73 (fun v401 w402 n403 p404 => ?_)
            rcases p404 with ⟨hq407, rfl, e406, f405, h0, h1, h2, h3, h4, h5, h6, h7, h8, h9, h10, h11, h12, h13⟩ | ⟨hq407, rfl, e406, f405, h0, h1, h2, h3, h4, h5, h6, h7, h8, h9, h10, h11, h12, h13⟩
            · rw [e406]
              refine a_st (st' := [.int (nI (tnB t (l0.getD pt 0)))]) rfl ?_
              have hbhq407 := tnB_lt (t := t) (getD_lt hby pt)
              have fr := fr.trans (Fr.sub f405 (by omega) (by omega))
              exact absurd hq407 (by omega)
            · rw [e406]
              refine a_st (st' := [.int 0]) rfl ?_
              have fr := fr.trans (Fr.sub f405 (by omega) (by omega))
              refine a_iload S d_Mod_readDecimal_76 rfl ?_
              refine a_ixor S d_Mod_readDecimal_78 ?_
              refine a_eqi (y := 0) (by decide) ?_
              refine a_istore S d_Mod_readDecimal_79 (Nat.le_of_ble_eq_true rfl) (lv' := [(0, .ref b), (1, .int (nI k)), (2, .int (nI t)), (3, .int 0), (4, .int 0), (5, .int (-64)), (6, .long 0), (8, .int 0), (9, .int 0)]) rfl ?_
              have loop81 : ∀ (kk81 : Nat) (q m B : Nat) (b1 : Bool) (p2 : Nat) (w1 : ww), 17 - m = kk81 → (m ≤ 16 ∨ (b1 = true ∧ m ≤ 17)) → (p2 ≤ l0.length) → (B < 256) → (Fr w w1 b 14) → (Mo D w1 b th fd sl ki fl va fo go si te kp ro l0.length ma sz en ms lw hw ls hz p2 b1) → (RDc t l0 pt t 1 (-64) p2 q m B b1) → AW X (D, A, 10, Q) 81 [(0, .ref b), (1, .int (nI k)), (2, .int (nI t)), (3, .int 0), (4, .int 0), (5, .int (-64)), (6, .long (lN q)), (8, .int (nI m)), (9, .int (nI B))] [] w1 n (((0 + 0) + 0) + 0) (((0 + 0) + 0) + 0) := by
                intro kk81
                induction kk81 using Nat.strongRecOn with
                | ind kk81 ih81 =>
                  intro q m B b1 p2 w1 hk81 hm hp2 hB fr h hC
                  obtain ⟨h0, h1, h2, h3, h4, h5, h6, h7, h8, h9, h10, h11, h12, h13⟩ := h
                  refine a_iload S d_Mod_readDecimal_81 rfl ?_
                  refine a_if_eq S (tgt := 146) d_Mod_readDecimal_83 rfl (fun h83 => ?_) (fun h83 => ?_)
                  · have hx : B = 0 ∨ b1 = true := Or.inl ((nI_eq (by omega) (by decide)).mp h83)
                    refine a_aload_n S d_Mod_readDecimal_146 rfl rfl ?_
                    refine a_get S kc_Mod 5 (by decide) lf_Mod_16 h0 rfl d_Mod_readDecimal_147 ?_
                    refine a_iload_n S d_Mod_readDecimal_150 rfl rfl ?_
                    refine a_iload S d_Mod_readDecimal_151 rfl ?_
                    refine a_sipush S (v := 255) d_Mod_readDecimal_153 (by decide) ?_
                    refine a_icmp_ne S (tgt := 166) d_Mod_readDecimal_156 rfl (fun h156 => ?_) (fun h156 => ?_)
                    · refine a_lload S d_Mod_readDecimal_166 rfl ?_
                      refine a_last S (i := k) h3 rfl (by omega) (by decide) d_Mod_readDecimal_168 (fun w408 h3 e409 => ?_)
                      have fr := fr.trans (Fr.sub (Fr.of1 e409) (by omega) (by omega))
                      have h0 := Fr.cell (Fr.of1 e409) h0 (by omega)
                      have h1 := Fr.cell (Fr.of1 e409) h1 (by omega)
                      have h2 := Fr.cell (Fr.of1 e409) h2 (by omega)
                      have h4 := Fr.cell (Fr.of1 e409) h4 (by omega)
                      have h5 := Fr.cell (Fr.of1 e409) h5 (by omega)
                      have h6 := Fr.cell (Fr.of1 e409) h6 (by omega)
                      have h7 := Fr.cell (Fr.of1 e409) h7 (by omega)
                      have h8 := Fr.cell (Fr.of1 e409) h8 (by omega)
                      have h9 := Fr.cell (Fr.of1 e409) h9 (by omega)
                      have h10 := Fr.cell (Fr.of1 e409) h10 (by omega)
                      have h11 := Fr.cell (Fr.of1 e409) h11 (by omega)
                      have h12 := Fr.cell (Fr.of1 e409) h12 (by omega)
                      have h13 := Fr.cell (Fr.of1 e409) h13 (by omega)
                      refine a_aload_n S d_Mod_readDecimal_169 rfl rfl ?_
                      refine a_get S kc_Mod 6 (by decide) lf_Mod_20 h0 rfl d_Mod_readDecimal_170 ?_
                      refine a_iload_n S d_Mod_readDecimal_173 rfl rfl ?_
                      refine a_iload S d_Mod_readDecimal_174 rfl ?_
                      refine a_iload S d_Mod_readDecimal_176 rfl ?_
                      refine a_isub S d_Mod_readDecimal_178 ?_
                      refine a_iast S (i := k) h4 rfl (by omega) (by decide) d_Mod_readDecimal_179 (fun w410 h4 e411 => ?_)
                      have fr := fr.trans (Fr.sub (Fr.of1 e411) (by omega) (by omega))
                      have h0 := Fr.cell (Fr.of1 e411) h0 (by omega)
                      have h1 := Fr.cell (Fr.of1 e411) h1 (by omega)
                      have h2 := Fr.cell (Fr.of1 e411) h2 (by omega)
                      have h3 := Fr.cell (Fr.of1 e411) h3 (by omega)
                      have h5 := Fr.cell (Fr.of1 e411) h5 (by omega)
                      have h6 := Fr.cell (Fr.of1 e411) h6 (by omega)
                      have h7 := Fr.cell (Fr.of1 e411) h7 (by omega)
                      have h8 := Fr.cell (Fr.of1 e411) h8 (by omega)
                      have h9 := Fr.cell (Fr.of1 e411) h9 (by omega)
                      have h10 := Fr.cell (Fr.of1 e411) h10 (by omega)
                      have h11 := Fr.cell (Fr.of1 e411) h11 (by omega)
                      have h12 := Fr.cell (Fr.of1 e411) h12 (by omega)
                      have h13 := Fr.cell (Fr.of1 e411) h13 (by omega)
                      exact RT _ _ _ _ _ _ d_Mod_readDecimal_180 (by omega) (by omega) ⟨_, _, _, _, p2, b1, rfl, rfl, fr, ⟨h0, h1, h2, h3, h4, h5, h6, h7, h8, h9, h10, h11, h12, h13⟩, hp2, DX.up, (fun d0 e0 rest g => have z := hC.e hx d0 e0 rest g; ⟨z.1, by rw [← z.2.1, (sg_p (lN q))], z.2.2.1, z.2.2.2⟩)⟩
                    · exact absurd h156 (by decide)
                  · have hB0 : ¬ B = 0 := fun z => h83 (by rw [z]; rfl)
                    refine a_aload_n S d_Mod_readDecimal_86 rfl rfl ?_
                    refine a_get S kc_Mod 22 (by decide) lf_Mod_142 h0 rfl d_Mod_readDecimal_87 ?_
                    refine a_if_ne S (tgt := 146) d_Mod_readDecimal_90 rfl (fun h90 => ?_) (fun h90 => ?_)
                    · have hx : B = 0 ∨ b1 = true := Or.inr (bo_1 h90)
                      refine a_aload_n S d_Mod_readDecimal_146 rfl rfl ?_
                      refine a_get S kc_Mod 5 (by decide) lf_Mod_16 h0 rfl d_Mod_readDecimal_147 ?_
                      refine a_iload_n S d_Mod_readDecimal_150 rfl rfl ?_
                      refine a_iload S d_Mod_readDecimal_151 rfl ?_
                      refine a_sipush S (v := 255) d_Mod_readDecimal_153 (by decide) ?_
                      refine a_icmp_ne S (tgt := 166) d_Mod_readDecimal_156 rfl (fun h156 => ?_) (fun h156 => ?_)
                      · refine a_lload S d_Mod_readDecimal_166 rfl ?_
                        refine a_last S (i := k) h3 rfl (by omega) (by decide) d_Mod_readDecimal_168 (fun w412 h3 e413 => ?_)
                        have fr := fr.trans (Fr.sub (Fr.of1 e413) (by omega) (by omega))
                        have h0 := Fr.cell (Fr.of1 e413) h0 (by omega)
                        have h1 := Fr.cell (Fr.of1 e413) h1 (by omega)
                        have h2 := Fr.cell (Fr.of1 e413) h2 (by omega)
                        have h4 := Fr.cell (Fr.of1 e413) h4 (by omega)
                        have h5 := Fr.cell (Fr.of1 e413) h5 (by omega)
                        have h6 := Fr.cell (Fr.of1 e413) h6 (by omega)
                        have h7 := Fr.cell (Fr.of1 e413) h7 (by omega)
                        have h8 := Fr.cell (Fr.of1 e413) h8 (by omega)
                        have h9 := Fr.cell (Fr.of1 e413) h9 (by omega)
                        have h10 := Fr.cell (Fr.of1 e413) h10 (by omega)
                        have h11 := Fr.cell (Fr.of1 e413) h11 (by omega)
                        have h12 := Fr.cell (Fr.of1 e413) h12 (by omega)
                        have h13 := Fr.cell (Fr.of1 e413) h13 (by omega)
                        refine a_aload_n S d_Mod_readDecimal_169 rfl rfl ?_
                        refine a_get S kc_Mod 6 (by decide) lf_Mod_20 h0 rfl d_Mod_readDecimal_170 ?_
                        refine a_iload_n S d_Mod_readDecimal_173 rfl rfl ?_
                        refine a_iload S d_Mod_readDecimal_174 rfl ?_
                        refine a_iload S d_Mod_readDecimal_176 rfl ?_
                        refine a_isub S d_Mod_readDecimal_178 ?_
                        refine a_iast S (i := k) h4 rfl (by omega) (by decide) d_Mod_readDecimal_179 (fun w414 h4 e415 => ?_)
                        have fr := fr.trans (Fr.sub (Fr.of1 e415) (by omega) (by omega))
                        have h0 := Fr.cell (Fr.of1 e415) h0 (by omega)
                        have h1 := Fr.cell (Fr.of1 e415) h1 (by omega)
                        have h2 := Fr.cell (Fr.of1 e415) h2 (by omega)
                        have h3 := Fr.cell (Fr.of1 e415) h3 (by omega)
                        have h5 := Fr.cell (Fr.of1 e415) h5 (by omega)
                        have h6 := Fr.cell (Fr.of1 e415) h6 (by omega)
                        have h7 := Fr.cell (Fr.of1 e415) h7 (by omega)
                        have h8 := Fr.cell (Fr.of1 e415) h8 (by omega)
                        have h9 := Fr.cell (Fr.of1 e415) h9 (by omega)
                        have h10 := Fr.cell (Fr.of1 e415) h10 (by omega)
                        have h11 := Fr.cell (Fr.of1 e415) h11 (by omega)
                        have h12 := Fr.cell (Fr.of1 e415) h12 (by omega)
                        have h13 := Fr.cell (Fr.of1 e415) h13 (by omega)
                        exact RT _ _ _ _ _ _ d_Mod_readDecimal_180 (by omega) (by omega) ⟨_, _, _, _, p2, b1, rfl, rfl, fr, ⟨h0, h1, h2, h3, h4, h5, h6, h7, h8, h9, h10, h11, h12, h13⟩, hp2, DX.up, (fun d0 e0 rest g => have z := hC.e hx d0 e0 rest g; ⟨z.1, by rw [← z.2.1, (sg_p (lN q))], z.2.2.1, z.2.2.2⟩)⟩
                      · exact absurd h156 (by decide)
                    · obtain rfl : b1 = false := bo_0 h90
                      have hm2 : m ≤ 16 := hm.elim id (fun z => by cases z.1)
                      refine a_aload_n S d_Mod_readDecimal_93 rfl rfl ?_
                      refine a_iload S d_Mod_readDecimal_94 rfl ?_
                      refine a_bipush S (v := 10) d_Mod_readDecimal_96 (by decide) ?_
                      refine a_icmp_gt S (tgt := 108) d_Mod_readDecimal_98 rfl (fun h98 => ?_) (fun h98 => ?_)
                      · have hbig : 10 < B ∨ m = 16 := Or.inl ((nI_ltI (by decide) (by omega)).mp h98)
                        refine a_iconst S (v := 1) d_Mod_readDecimal_108 (by decide) ?_
                        refine a_goto S (tgt := 113) d_Mod_readDecimal_109 rfl ?_
                        refine a_put S kc_Mod kt_Mod 22 (by decide) lf_Mod_142 rfl h0 rfl rfl (Nat.le_of_ble_eq_true rfl) d_Mod_readDecimal_113 (fun w416 h0 e417 => ?_)
                        have h0 : w416 b = some (.inr (6, [.int th, .int (nI fd), .int (if sl then 1 else 0), .ref (b + 1), .ref (b + 2), .ref (b + 3), .ref (b + 4), .ref (b + 5), .ref (b + 6), .ref (b + 7), .int (nI kp), .ref (b + 8), .int (nI l0.length), .ref (b + 9), .int (nI sz), .ref (b + 10), .ref (b + 11), .ref (b + 12), .ref (b + 13), .int (nI ls), .int hz, .int (nI p2), .int 1])) := h0
                        have fr := fr.trans (Fr.sub (Fr.of1 e417) (by omega) (by omega))
                        have h1 := Fr.cell (Fr.of1 e417) h1 (by omega)
                        have h2 := Fr.cell (Fr.of1 e417) h2 (by omega)
                        have h3 := Fr.cell (Fr.of1 e417) h3 (by omega)
                        have h4 := Fr.cell (Fr.of1 e417) h4 (by omega)
                        have h5 := Fr.cell (Fr.of1 e417) h5 (by omega)
                        have h6 := Fr.cell (Fr.of1 e417) h6 (by omega)
                        have h7 := Fr.cell (Fr.of1 e417) h7 (by omega)
                        have h8 := Fr.cell (Fr.of1 e417) h8 (by omega)
                        have h9 := Fr.cell (Fr.of1 e417) h9 (by omega)
                        have h10 := Fr.cell (Fr.of1 e417) h10 (by omega)
                        have h11 := Fr.cell (Fr.of1 e417) h11 (by omega)
                        have h12 := Fr.cell (Fr.of1 e417) h12 (by omega)
                        have h13 := Fr.cell (Fr.of1 e417) h13 (by omega)
                        refine a_lload S d_Mod_readDecimal_116 rfl ?_
                        refine a_ldc2 S (v := 10) lK_Mod_111 d_Mod_readDecimal_118 ?_
                        refine a_lmul S d_Mod_readDecimal_121 ?_
                        refine a_iload S d_Mod_readDecimal_122 rfl ?_
                        refine a_i2l S d_Mod_readDecimal_124 ?_
                        refine a_ladd S d_Mod_readDecimal_125 ?_
                        refine a_lconst S (v := 1) d_Mod_readDecimal_126 (by decide) ?_
                        refine a_lsub S d_Mod_readDecimal_127 ?_
                        refine a_eql (y := (lN (q * 10 + (B - 1)))) (l_dig hB0 hB) ?_
                        refine a_lstore S d_Mod_readDecimal_128 (Nat.le_of_ble_eq_true rfl) (lv' := [(0, .ref b), (1, .int (nI k)), (2, .int (nI t)), (3, .int 0), (4, .int 0), (5, .int (-64)), (6, .long (lN (q * 10 + (B - 1)))), (8, .int (nI m)), (9, .int (nI B))]) rfl ?_
                        refine a_iinc S (v := nI (m + 1)) d_Mod_readDecimal_130 rfl (ni_add rfl (by decide)) (Nat.le_of_ble_eq_true rfl) (lv' := [(0, .ref b), (1, .int (nI k)), (2, .int (nI t)), (3, .int 0), (4, .int 0), (5, .int (-64)), (6, .long (lN (q * 10 + (B - 1)))), (8, .int (nI (m + 1))), (9, .int (nI B))]) rfl ?_
                        refine a_aload_n S d_Mod_readDecimal_133 rfl rfl ?_
                        refine a_iload_n S d_Mod_readDecimal_134 rfl rfl ?_
                        refine a_callV S (rest := []) lg_Mod_145 h0 (c_Mod_next X.2.1 D b th fd sl ki fl va fo go si te kp ro ma sz en ms lw hw ls hz p2 true l0 t w416 n hl hby hA (by omega) ht ⟨h0, h1, h2, h3, h4, h5, h6, h7, h8, h9, h10, h11, h12, h13⟩) (by decide) (by omega) (by omega) rfl (Nat.le_of_ble_eq_true rfl) d_Mod_readDecimal_135 (fun v418 w419 n420 p421 => ?_)
                        rcases p421 with ⟨hq424, rfl, e423, f422, h0, h1, h2, h3, h4, h5, h6, h7, h8, h9, h10, h11, h12, h13⟩ | ⟨hq424, rfl, e423, f422, h0, h1, h2, h3, h4, h5, h6, h7, h8, h9, h10, h11, h12, h13⟩
                        · rw [e423]
                          refine a_st (st' := [.int (nI (tnB t (l0.getD p2 0)))]) rfl ?_
                          have hbhq424 := tnB_lt (t := t) (getD_lt hby p2)
                          have fr := fr.trans (Fr.sub f422 (by omega) (by omega))
                          refine a_iload S d_Mod_readDecimal_138 rfl ?_
                          refine a_ixor S d_Mod_readDecimal_140 ?_
                          refine a_eqi (y := nI (tnB t (l0.getD p2 0))) (xor_g0 _) ?_
                          refine a_istore S d_Mod_readDecimal_141 (Nat.le_of_ble_eq_true rfl) (lv' := [(0, .ref b), (1, .int (nI k)), (2, .int (nI t)), (3, .int 0), (4, .int 0), (5, .int (-64)), (6, .long (lN (q * 10 + (B - 1)))), (8, .int (nI (m + 1))), (9, .int (nI (tnB t (l0.getD p2 0))))]) rfl ?_
                          refine a_goto S (tgt := 81) d_Mod_readDecimal_143 rfl ?_
                          exact ih81 _ (by omega) (q * 10 + (B - 1)) (m + 1) (tnB t (l0.getD p2 0)) true (p2 + 1) w419 rfl (Or.inr ⟨rfl, by omega⟩) (by omega) (tnB_lt (getD_lt hby _)) fr ⟨h0, h1, h2, h3, h4, h5, h6, h7, h8, h9, h10, h11, h12, h13⟩ (hC.big hB0 hbig)
                        · rw [e423]
                          refine a_st (st' := [.int 0]) rfl ?_
                          have fr := fr.trans (Fr.sub f422 (by omega) (by omega))
                          refine a_iload S d_Mod_readDecimal_138 rfl ?_
                          refine a_ixor S d_Mod_readDecimal_140 ?_
                          refine a_eqi (y := 0) (by decide) ?_
                          refine a_istore S d_Mod_readDecimal_141 (Nat.le_of_ble_eq_true rfl) (lv' := [(0, .ref b), (1, .int (nI k)), (2, .int (nI t)), (3, .int 0), (4, .int 0), (5, .int (-64)), (6, .long (lN (q * 10 + (B - 1)))), (8, .int (nI (m + 1))), (9, .int 0)]) rfl ?_
                          refine a_goto S (tgt := 81) d_Mod_readDecimal_143 rfl ?_
                          exact ih81 _ (by omega) (q * 10 + (B - 1)) (m + 1) 0 true p2 w419 rfl (Or.inr ⟨rfl, by omega⟩) (by omega) (by decide) fr ⟨h0, h1, h2, h3, h4, h5, h6, h7, h8, h9, h10, h11, h12, h13⟩ (hC.big hB0 hbig)
                      · have hB10 : ¬ 10 < B := fun z => h98 ((nI_ltI (by decide) (by omega)).mpr z)
                        refine a_iload S d_Mod_readDecimal_101 rfl ?_
                        refine a_bipush S (v := 16) d_Mod_readDecimal_103 (by decide) ?_
                        refine a_icmp_ne S (tgt := 112) d_Mod_readDecimal_105 rfl (fun h105 => ?_) (fun h105 => ?_)
                        · have hm16 : ¬ m = 16 := fun z => h105 (by rw [z]; rfl)
                          refine a_iconst S (v := 0) d_Mod_readDecimal_112 (by decide) ?_
                          refine a_put S kc_Mod kt_Mod 22 (by decide) lf_Mod_142 rfl h0 rfl rfl (Nat.le_of_ble_eq_true rfl) d_Mod_readDecimal_113 (fun w425 h0 e426 => ?_)
                          have h0 : w425 b = some (.inr (6, [.int th, .int (nI fd), .int (if sl then 1 else 0), .ref (b + 1), .ref (b + 2), .ref (b + 3), .ref (b + 4), .ref (b + 5), .ref (b + 6), .ref (b + 7), .int (nI kp), .ref (b + 8), .int (nI l0.length), .ref (b + 9), .int (nI sz), .ref (b + 10), .ref (b + 11), .ref (b + 12), .ref (b + 13), .int (nI ls), .int hz, .int (nI p2), .int 0])) := h0
                          have fr := fr.trans (Fr.sub (Fr.of1 e426) (by omega) (by omega))
                          have h1 := Fr.cell (Fr.of1 e426) h1 (by omega)
                          have h2 := Fr.cell (Fr.of1 e426) h2 (by omega)
                          have h3 := Fr.cell (Fr.of1 e426) h3 (by omega)
                          have h4 := Fr.cell (Fr.of1 e426) h4 (by omega)
                          have h5 := Fr.cell (Fr.of1 e426) h5 (by omega)
                          have h6 := Fr.cell (Fr.of1 e426) h6 (by omega)
                          have h7 := Fr.cell (Fr.of1 e426) h7 (by omega)
                          have h8 := Fr.cell (Fr.of1 e426) h8 (by omega)
                          have h9 := Fr.cell (Fr.of1 e426) h9 (by omega)
                          have h10 := Fr.cell (Fr.of1 e426) h10 (by omega)
                          have h11 := Fr.cell (Fr.of1 e426) h11 (by omega)
                          have h12 := Fr.cell (Fr.of1 e426) h12 (by omega)
                          have h13 := Fr.cell (Fr.of1 e426) h13 (by omega)
                          refine a_lload S d_Mod_readDecimal_116 rfl ?_
                          refine a_ldc2 S (v := 10) lK_Mod_111 d_Mod_readDecimal_118 ?_
                          refine a_lmul S d_Mod_readDecimal_121 ?_
                          refine a_iload S d_Mod_readDecimal_122 rfl ?_
                          refine a_i2l S d_Mod_readDecimal_124 ?_
                          refine a_ladd S d_Mod_readDecimal_125 ?_
                          refine a_lconst S (v := 1) d_Mod_readDecimal_126 (by decide) ?_
                          refine a_lsub S d_Mod_readDecimal_127 ?_
                          refine a_eql (y := (lN (q * 10 + (B - 1)))) (l_dig hB0 hB) ?_
                          refine a_lstore S d_Mod_readDecimal_128 (Nat.le_of_ble_eq_true rfl) (lv' := [(0, .ref b), (1, .int (nI k)), (2, .int (nI t)), (3, .int 0), (4, .int 0), (5, .int (-64)), (6, .long (lN (q * 10 + (B - 1)))), (8, .int (nI m)), (9, .int (nI B))]) rfl ?_
                          refine a_iinc S (v := nI (m + 1)) d_Mod_readDecimal_130 rfl (ni_add rfl (by decide)) (Nat.le_of_ble_eq_true rfl) (lv' := [(0, .ref b), (1, .int (nI k)), (2, .int (nI t)), (3, .int 0), (4, .int 0), (5, .int (-64)), (6, .long (lN (q * 10 + (B - 1)))), (8, .int (nI (m + 1))), (9, .int (nI B))]) rfl ?_
                          refine a_aload_n S d_Mod_readDecimal_133 rfl rfl ?_
                          refine a_iload_n S d_Mod_readDecimal_134 rfl rfl ?_
                          refine a_callV S (rest := []) lg_Mod_145 h0 (c_Mod_next X.2.1 D b th fd sl ki fl va fo go si te kp ro ma sz en ms lw hw ls hz p2 false l0 t w425 n hl hby hA (by omega) ht ⟨h0, h1, h2, h3, h4, h5, h6, h7, h8, h9, h10, h11, h12, h13⟩) (by decide) (by omega) (by omega) rfl (Nat.le_of_ble_eq_true rfl) d_Mod_readDecimal_135 (fun v427 w428 n429 p430 => ?_)
                          rcases p430 with ⟨hq433, rfl, e432, f431, h0, h1, h2, h3, h4, h5, h6, h7, h8, h9, h10, h11, h12, h13⟩ | ⟨hq433, rfl, e432, f431, h0, h1, h2, h3, h4, h5, h6, h7, h8, h9, h10, h11, h12, h13⟩
                          · rw [e432]
                            refine a_st (st' := [.int (nI (tnB t (l0.getD p2 0)))]) rfl ?_
                            have hbhq433 := tnB_lt (t := t) (getD_lt hby p2)
                            have fr := fr.trans (Fr.sub f431 (by omega) (by omega))
                            refine a_iload S d_Mod_readDecimal_138 rfl ?_
                            refine a_ixor S d_Mod_readDecimal_140 ?_
                            refine a_eqi (y := nI (tnB t (l0.getD p2 0))) (xor_g0 _) ?_
                            refine a_istore S d_Mod_readDecimal_141 (Nat.le_of_ble_eq_true rfl) (lv' := [(0, .ref b), (1, .int (nI k)), (2, .int (nI t)), (3, .int 0), (4, .int 0), (5, .int (-64)), (6, .long (lN (q * 10 + (B - 1)))), (8, .int (nI (m + 1))), (9, .int (nI (tnB t (l0.getD p2 0))))]) rfl ?_
                            refine a_goto S (tgt := 81) d_Mod_readDecimal_143 rfl ?_
                            exact ih81 _ (by omega) (q * 10 + (B - 1)) (m + 1) (tnB t (l0.getD p2 0)) false (p2 + 1) w428 rfl (by omega) (by omega) (tnB_lt (getD_lt hby _)) fr ⟨h0, h1, h2, h3, h4, h5, h6, h7, h8, h9, h10, h11, h12, h13⟩ (hC.s hB0 hB10 hm16 hq433)
                          · rw [e432]
                            refine a_st (st' := [.int 0]) rfl ?_
                            have fr := fr.trans (Fr.sub f431 (by omega) (by omega))
                            refine a_iload S d_Mod_readDecimal_138 rfl ?_
                            refine a_ixor S d_Mod_readDecimal_140 ?_
                            refine a_eqi (y := 0) (by decide) ?_
                            refine a_istore S d_Mod_readDecimal_141 (Nat.le_of_ble_eq_true rfl) (lv' := [(0, .ref b), (1, .int (nI k)), (2, .int (nI t)), (3, .int 0), (4, .int 0), (5, .int (-64)), (6, .long (lN (q * 10 + (B - 1)))), (8, .int (nI (m + 1))), (9, .int 0)]) rfl ?_
                            refine a_goto S (tgt := 81) d_Mod_readDecimal_143 rfl ?_
                            exact ih81 _ (by omega) (q * 10 + (B - 1)) (m + 1) 0 true p2 w428 rfl (by omega) (by omega) (by decide) fr ⟨h0, h1, h2, h3, h4, h5, h6, h7, h8, h9, h10, h11, h12, h13⟩ (hC.se hB0 hB10 hm16 hq433)
                        · have hbig : 10 < B ∨ m = 16 := Or.inr ((nI_eq (by omega) (by decide)).mp h105)
                          refine a_iconst S (v := 1) d_Mod_readDecimal_108 (by decide) ?_
                          refine a_goto S (tgt := 113) d_Mod_readDecimal_109 rfl ?_
                          refine a_put S kc_Mod kt_Mod 22 (by decide) lf_Mod_142 rfl h0 rfl rfl (Nat.le_of_ble_eq_true rfl) d_Mod_readDecimal_113 (fun w434 h0 e435 => ?_)
                          have h0 : w434 b = some (.inr (6, [.int th, .int (nI fd), .int (if sl then 1 else 0), .ref (b + 1), .ref (b + 2), .ref (b + 3), .ref (b + 4), .ref (b + 5), .ref (b + 6), .ref (b + 7), .int (nI kp), .ref (b + 8), .int (nI l0.length), .ref (b + 9), .int (nI sz), .ref (b + 10), .ref (b + 11), .ref (b + 12), .ref (b + 13), .int (nI ls), .int hz, .int (nI p2), .int 1])) := h0
                          have fr := fr.trans (Fr.sub (Fr.of1 e435) (by omega) (by omega))
                          have h1 := Fr.cell (Fr.of1 e435) h1 (by omega)
                          have h2 := Fr.cell (Fr.of1 e435) h2 (by omega)
                          have h3 := Fr.cell (Fr.of1 e435) h3 (by omega)
                          have h4 := Fr.cell (Fr.of1 e435) h4 (by omega)
                          have h5 := Fr.cell (Fr.of1 e435) h5 (by omega)
                          have h6 := Fr.cell (Fr.of1 e435) h6 (by omega)
                          have h7 := Fr.cell (Fr.of1 e435) h7 (by omega)
                          have h8 := Fr.cell (Fr.of1 e435) h8 (by omega)
                          have h9 := Fr.cell (Fr.of1 e435) h9 (by omega)
                          have h10 := Fr.cell (Fr.of1 e435) h10 (by omega)
                          have h11 := Fr.cell (Fr.of1 e435) h11 (by omega)
                          have h12 := Fr.cell (Fr.of1 e435) h12 (by omega)
                          have h13 := Fr.cell (Fr.of1 e435) h13 (by omega)
                          refine a_lload S d_Mod_readDecimal_116 rfl ?_
                          refine a_ldc2 S (v := 10) lK_Mod_111 d_Mod_readDecimal_118 ?_
                          refine a_lmul S d_Mod_readDecimal_121 ?_
                          refine a_iload S d_Mod_readDecimal_122 rfl ?_
                          refine a_i2l S d_Mod_readDecimal_124 ?_
                          refine a_ladd S d_Mod_readDecimal_125 ?_
                          refine a_lconst S (v := 1) d_Mod_readDecimal_126 (by decide) ?_
                          refine a_lsub S d_Mod_readDecimal_127 ?_
                          refine a_eql (y := (lN (q * 10 + (B - 1)))) (l_dig hB0 hB) ?_
                          refine a_lstore S d_Mod_readDecimal_128 (Nat.le_of_ble_eq_true rfl) (lv' := [(0, .ref b), (1, .int (nI k)), (2, .int (nI t)), (3, .int 0), (4, .int 0), (5, .int (-64)), (6, .long (lN (q * 10 + (B - 1)))), (8, .int (nI m)), (9, .int (nI B))]) rfl ?_
                          refine a_iinc S (v := nI (m + 1)) d_Mod_readDecimal_130 rfl (ni_add rfl (by decide)) (Nat.le_of_ble_eq_true rfl) (lv' := [(0, .ref b), (1, .int (nI k)), (2, .int (nI t)), (3, .int 0), (4, .int 0), (5, .int (-64)), (6, .long (lN (q * 10 + (B - 1)))), (8, .int (nI (m + 1))), (9, .int (nI B))]) rfl ?_
                          refine a_aload_n S d_Mod_readDecimal_133 rfl rfl ?_
                          refine a_iload_n S d_Mod_readDecimal_134 rfl rfl ?_
                          refine a_callV S (rest := []) lg_Mod_145 h0 (c_Mod_next X.2.1 D b th fd sl ki fl va fo go si te kp ro ma sz en ms lw hw ls hz p2 true l0 t w434 n hl hby hA (by omega) ht ⟨h0, h1, h2, h3, h4, h5, h6, h7, h8, h9, h10, h11, h12, h13⟩) (by decide) (by omega) (by omega) rfl (Nat.le_of_ble_eq_true rfl) d_Mod_readDecimal_135 (fun v436 w437 n438 p439 => ?_)
                          rcases p439 with ⟨hq442, rfl, e441, f440, h0, h1, h2, h3, h4, h5, h6, h7, h8, h9, h10, h11, h12, h13⟩ | ⟨hq442, rfl, e441, f440, h0, h1, h2, h3, h4, h5, h6, h7, h8, h9, h10, h11, h12, h13⟩
                          · rw [e441]
                            refine a_st (st' := [.int (nI (tnB t (l0.getD p2 0)))]) rfl ?_
                            have hbhq442 := tnB_lt (t := t) (getD_lt hby p2)
                            have fr := fr.trans (Fr.sub f440 (by omega) (by omega))
                            refine a_iload S d_Mod_readDecimal_138 rfl ?_
                            refine a_ixor S d_Mod_readDecimal_140 ?_
                            refine a_eqi (y := nI (tnB t (l0.getD p2 0))) (xor_g0 _) ?_
                            refine a_istore S d_Mod_readDecimal_141 (Nat.le_of_ble_eq_true rfl) (lv' := [(0, .ref b), (1, .int (nI k)), (2, .int (nI t)), (3, .int 0), (4, .int 0), (5, .int (-64)), (6, .long (lN (q * 10 + (B - 1)))), (8, .int (nI (m + 1))), (9, .int (nI (tnB t (l0.getD p2 0))))]) rfl ?_
                            refine a_goto S (tgt := 81) d_Mod_readDecimal_143 rfl ?_
                            exact ih81 _ (by omega) (q * 10 + (B - 1)) (m + 1) (tnB t (l0.getD p2 0)) true (p2 + 1) w437 rfl (Or.inr ⟨rfl, by omega⟩) (by omega) (tnB_lt (getD_lt hby _)) fr ⟨h0, h1, h2, h3, h4, h5, h6, h7, h8, h9, h10, h11, h12, h13⟩ (hC.big hB0 hbig)
                          · rw [e441]
                            refine a_st (st' := [.int 0]) rfl ?_
                            have fr := fr.trans (Fr.sub f440 (by omega) (by omega))
                            refine a_iload S d_Mod_readDecimal_138 rfl ?_
                            refine a_ixor S d_Mod_readDecimal_140 ?_
                            refine a_eqi (y := 0) (by decide) ?_
                            refine a_istore S d_Mod_readDecimal_141 (Nat.le_of_ble_eq_true rfl) (lv' := [(0, .ref b), (1, .int (nI k)), (2, .int (nI t)), (3, .int 0), (4, .int 0), (5, .int (-64)), (6, .long (lN (q * 10 + (B - 1)))), (8, .int (nI (m + 1))), (9, .int 0)]) rfl ?_
                            refine a_goto S (tgt := 81) d_Mod_readDecimal_143 rfl ?_
                            exact ih81 _ (by omega) (q * 10 + (B - 1)) (m + 1) 0 true p2 w437 rfl (Or.inr ⟨rfl, by omega⟩) (by omega) (by decide) fr ⟨h0, h1, h2, h3, h4, h5, h6, h7, h8, h9, h10, h11, h12, h13⟩ (hC.big hB0 hbig)
              exact loop81 _ 0 0 0 true pt w402 rfl (Or.inl (Nat.zero_le _)) (by omega) (by decide) fr ⟨h0, h1, h2, h3, h4, h5, h6, h7, h8, h9, h10, h11, h12, h13⟩ (RDc.d0 hq7)
        · exact absurd h31 (by decide)
      · exact absurd h14 (by decide)
    · exact absurd h8_ (by decide)
