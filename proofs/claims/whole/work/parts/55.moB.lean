set_option maxHeartbeats 400000 in
set_option maxRecDepth 100000 in
theorem c_Mod_next (l : Launch) (D : kD) (b : Nat) (th : Int32) (fd : Nat) (sl : Bool) (ki fl : Nat → Int32) (va : Nat → Int64) (fo go si te : Nat → Int32) (kp : Nat) (ro : Nat → Int32) (ma : Nat → Int32) (sz : Nat) (en ms lw hw : Nat → Int32) (ls : Nat) (hz : Int32) (pt : Nat) (bd : Bool) (l0 : List Nat) (t : Nat) (w : ww) (n : Nat) (hl : l0.length ≤ 120) (hby : ∀ b ∈ l0, b < 256) (hA : Arr ro l0) (hpt : pt ≤ l0.length) (ht : t = 0 ∨ t = 255) (h : Mo D w b th fd sl ki fl va fo go si te kp ro l0.length ma sz en ms lw hw ls hz pt bd) : AM l D M_Mod_next 0 0 0 [.ref b, .int (nI t)] w n (fun v w' n' => (pt < l0.length ∧ v = some (.int (nI (tnB t (l0.getD pt 0)))) ∧ n' = n ∧ Fr w w' b 14 ∧ Mo D w' b th fd sl ki fl va fo go si te kp ro l0.length ma sz en ms lw hw ls hz (pt + 1) bd) ∨ (pt = l0.length ∧ v = some (.int 0) ∧ n' = n ∧ Fr w w' b 14 ∧ Mo D w' b th fd sl ki fl va fo go si te kp ro l0.length ma sz en ms lw hw ls hz pt true)) := by
  refine AM.ofi (by decide +kernel) rfl (Nat.le_of_ble_eq_true rfl) (fun X A Q hin S RT => ?_)
  have S : FX X (D, A, 2, Q) prog_9_method_29_code "KeyCodecModel" 0 0 0 := S
  have RT : RTi X (D, A, 2, Q) prog_9_method_29_code 0 0 _ := RT
  obtain ⟨h0, h1, h2, h3, h4, h5, h6, h7, h8, h9, h10, h11, h12, h13⟩ := h
  refine a_lve (lv' := [(0, .ref b), (1, .int (nI t))]) rfl ?_
  have fr : Fr w w b 14 := Fr.refl _ _ _
  refine a_aload_n S d_Mod_next_0 rfl rfl ?_
  refine a_get S kc_Mod 21 (by decide) lf_Mod_139 h0 rfl d_Mod_next_1 ?_
  refine a_aload_n S d_Mod_next_4 rfl rfl ?_
  refine a_get S kc_Mod 12 (by decide) lf_Mod_72 h0 rfl d_Mod_next_5 ?_
  refine a_icmp_lt S (tgt := 18) d_Mod_next_8 rfl (fun hlt_ => ?_) (fun hlt_ => ?_)
  · have hp : pt < l0.length := (nI_ltI (by omega) (by omega)).mp hlt_
    have hb8 := getD_lt hby pt
    refine a_aload_n S d_Mod_next_18 rfl rfl ?_
    refine a_dup S d_Mod_next_19 rfl ?_
    refine a_get S kc_Mod 21 (by decide) lf_Mod_139 h0 rfl d_Mod_next_20 ?_
    refine a_iconst S (v := 1) d_Mod_next_23 (by decide) ?_
    refine a_iadd S d_Mod_next_24 ?_
    refine a_eqi (y := nI (pt + 1)) (ni_add rfl rfl) ?_
    refine a_put S kc_Mod kt_Mod 21 (by decide) lf_Mod_139 rfl h0 rfl rfl (Nat.le_of_ble_eq_true rfl) d_Mod_next_25 (fun w1 h0 e2 => ?_)
    have h0 : w1 b = some (.inr (6, [.int th, .int (nI fd), .int (if sl then 1 else 0), .ref (b + 1), .ref (b + 2), .ref (b + 3), .ref (b + 4), .ref (b + 5), .ref (b + 6), .ref (b + 7), .int (nI kp), .ref (b + 8), .int (nI l0.length), .ref (b + 9), .int (nI sz), .ref (b + 10), .ref (b + 11), .ref (b + 12), .ref (b + 13), .int (nI ls), .int hz, .int (nI (pt + 1)), .int (if bd then 1 else 0)])) := h0
    have fr := fr.trans (Fr.sub (Fr.of1 e2) (by omega) (by omega))
    have h1 := Fr.cell (Fr.of1 e2) h1 (by omega)
    have h2 := Fr.cell (Fr.of1 e2) h2 (by omega)
    have h3 := Fr.cell (Fr.of1 e2) h3 (by omega)
    have h4 := Fr.cell (Fr.of1 e2) h4 (by omega)
    have h5 := Fr.cell (Fr.of1 e2) h5 (by omega)
    have h6 := Fr.cell (Fr.of1 e2) h6 (by omega)
    have h7 := Fr.cell (Fr.of1 e2) h7 (by omega)
    have h8 := Fr.cell (Fr.of1 e2) h8 (by omega)
    have h9 := Fr.cell (Fr.of1 e2) h9 (by omega)
    have h10 := Fr.cell (Fr.of1 e2) h10 (by omega)
    have h11 := Fr.cell (Fr.of1 e2) h11 (by omega)
    have h12 := Fr.cell (Fr.of1 e2) h12 (by omega)
    have h13 := Fr.cell (Fr.of1 e2) h13 (by omega)
    refine a_aload_n S d_Mod_next_28 rfl rfl ?_
    refine a_get S kc_Mod 11 (by decide) lf_Mod_33 h0 rfl d_Mod_next_29 ?_
    refine a_aload_n S d_Mod_next_32 rfl rfl ?_
    refine a_get S kc_Mod 21 (by decide) lf_Mod_139 h0 rfl d_Mod_next_33 ?_
    refine a_iconst S (v := 1) d_Mod_next_36 (by decide) ?_
    refine a_isub S d_Mod_next_37 ?_
    refine a_eqi (y := nI pt) (by rw [nI_pred]) ?_
    refine a_iald S (i := pt) h8 rfl (by omega) (by decide) d_Mod_next_38 ?_
    refine a_eqi (hA pt hp) ?_
    refine a_iload_n S d_Mod_next_39 rfl rfl ?_
    refine a_ixor S d_Mod_next_40 ?_
    refine a_eqi (y := nI (tnB t (l0.getD pt 0))) (xor_tn ht hb8) ?_
    exact RT _ _ _ _ _ _ _ d_Mod_next_41 (by omega) (by omega) (Or.inl ⟨hp, rfl, rfl, fr, h0, h1, h2, h3, h4, h5, h6, h7, h8, h9, h10, h11, h12, h13⟩)
  · have hp : pt = l0.length := by have : ¬ pt < l0.length := fun z => hlt_ ((nI_ltI (by omega) (by omega)).mpr z); omega
    refine a_aload_n S d_Mod_next_11 rfl rfl ?_
    refine a_iconst S (v := 1) d_Mod_next_12 (by decide) ?_
    refine a_put S kc_Mod kt_Mod 22 (by decide) lf_Mod_142 rfl h0 rfl rfl (Nat.le_of_ble_eq_true rfl) d_Mod_next_13 (fun w3 h0 e4 => ?_)
    have h0 : w3 b = some (.inr (6, [.int th, .int (nI fd), .int (if sl then 1 else 0), .ref (b + 1), .ref (b + 2), .ref (b + 3), .ref (b + 4), .ref (b + 5), .ref (b + 6), .ref (b + 7), .int (nI kp), .ref (b + 8), .int (nI l0.length), .ref (b + 9), .int (nI sz), .ref (b + 10), .ref (b + 11), .ref (b + 12), .ref (b + 13), .int (nI ls), .int hz, .int (nI pt), .int 1])) := h0
    have fr := fr.trans (Fr.sub (Fr.of1 e4) (by omega) (by omega))
    have h1 := Fr.cell (Fr.of1 e4) h1 (by omega)
    have h2 := Fr.cell (Fr.of1 e4) h2 (by omega)
    have h3 := Fr.cell (Fr.of1 e4) h3 (by omega)
    have h4 := Fr.cell (Fr.of1 e4) h4 (by omega)
    have h5 := Fr.cell (Fr.of1 e4) h5 (by omega)
    have h6 := Fr.cell (Fr.of1 e4) h6 (by omega)
    have h7 := Fr.cell (Fr.of1 e4) h7 (by omega)
    have h8 := Fr.cell (Fr.of1 e4) h8 (by omega)
    have h9 := Fr.cell (Fr.of1 e4) h9 (by omega)
    have h10 := Fr.cell (Fr.of1 e4) h10 (by omega)
    have h11 := Fr.cell (Fr.of1 e4) h11 (by omega)
    have h12 := Fr.cell (Fr.of1 e4) h12 (by omega)
    have h13 := Fr.cell (Fr.of1 e4) h13 (by omega)
    refine a_iconst S (v := 0) d_Mod_next_16 (by decide) ?_
    exact RT _ _ _ _ _ _ _ d_Mod_next_17 (by omega) (by omega) (Or.inr ⟨hp, rfl, rfl, fr, h0, h1, h2, h3, h4, h5, h6, h7, h8, h9, h10, h11, h12, h13⟩)
set_option maxHeartbeats 400000 in
set_option maxRecDepth 100000 in
theorem c_Mod_isTuple (l : Launch) (D : kD) (b : Nat) (th : Int32) (fd : Nat) (sl : Bool) (ki fl : Nat → Int32) (va : Nat → Int64) (fo go si te : Nat → Int32) (kp : Nat) (ro : Nat → Int32) (rs : Nat) (ma : Nat → Int32) (sz : Nat) (en ms lw hw : Nat → Int32) (ls : Nat) (hz : Int32) (pt : Nat) (bd : Bool) (u : Nat) (K : Nat → Nat) (T : Nat → kV) (w : ww) (n : Nat) (hu : u ≤ 13) (hfd : fd ≤ 5) (hki : ∀ i, i < fd → ki i = nI (K i) ∧ K i < 4) (hT : TR va fo go si te u fd T) (h : Mo D w b th fd sl ki fl va fo go si te kp ro rs ma sz en ms lw hw ls hz pt bd) : AM l D M_Mod_isTuple 1 0 0 [.ref b, .int (nI u)] w n (fun v w' n' => ∃ ok : Bool, v = some (.int (if ok then 1 else 0)) ∧ (ok = true ↔ ∀ i, i < fd → (T i).1 = false → ¬ K i = 2 → okN (K i) (T i).2.1 (T i).2.2.1) ∧ w' = w ∧ n' = n) := by
  refine AM.ofz (by decide +kernel) rfl (Nat.le_of_ble_eq_true rfl) (fun X A Q hin S RT => ?_)
  have S : FX X (D, A, 4, Q) prog_9_method_35_code "KeyCodecModel" 1 0 0 := S
  have RT : RTz X (D, A, 4, Q) prog_9_method_35_code 0 0 _ := RT
  obtain ⟨h0, h1, h2, h3, h4, h5, h6, h7, h8, h9, h10, h11, h12, h13⟩ := h
  refine a_lve (lv' := [(0, .ref b), (1, .int (nI u))]) rfl ?_
  have fr : Fr w w b 14 := Fr.refl _ _ _
  refine a_iconst S (v := 0) d_Mod_isTuple_0 (by decide) ?_
  refine a_istore_n S d_Mod_isTuple_1 rfl (Nat.le_of_ble_eq_true rfl) (lv' := [(0, .ref b), (1, .int (nI u)), (2, .int 0)]) rfl ?_
  have loop2 : ∀ (kk2 : Nat) (g : Nat), fd - g = kk2 → (g ≤ fd) → (∀ i, i < g → (T i).1 = false → ¬ K i = 2 → okN (K i) (T i).2.1 (T i).2.2.1) → AW X (D, A, 4, Q) 2 [(0, .ref b), (1, .int (nI u)), (2, .int (nI g))] [] w n 0 0 := by
    intro kk2
    induction kk2 using Nat.strongRecOn with
    | ind kk2 ih2 =>
      intro g hk2 hg hs
      refine a_iload_n S d_Mod_isTuple_2 rfl rfl ?_
      refine a_aload_n S d_Mod_isTuple_3 rfl rfl ?_
      refine a_get S kc_Mod 1 (by decide) lf_Mod_62 h0 rfl d_Mod_isTuple_4 ?_
      refine a_icmp_ge S (tgt := 67) d_Mod_isTuple_7 rfl (fun h7_ => ?_) (fun h7_ => ?_)
      · have hg : g = fd := Nat.le_antisymm hg ((nI_leI (by omega) (by omega)).mp h7_)
        refine a_iconst S (v := 1) d_Mod_isTuple_67 (by decide) ?_
        exact RT _ _ _ _ _ _ _ d_Mod_isTuple_68 rfl (by omega) (by omega) ⟨true, rfl, ⟨fun _ i hi => hs i (by omega), fun _ => rfl⟩, rfl, rfl⟩
      · have hg : g < fd := Nat.not_le.mp fun z => h7_ ((nI_leI (by omega) (by omega)).mpr z)
        have hv := hT g hg
        have hk := hki g hg
        refine a_iconst S (v := 5) d_Mod_isTuple_10 (by decide) ?_
        refine a_iload_n S d_Mod_isTuple_11 rfl rfl ?_
        refine a_imul S d_Mod_isTuple_12 ?_
        refine a_eqi (y := nI (5 * u)) (ni_mul rfl rfl) ?_
        refine a_iload_n S d_Mod_isTuple_13 rfl rfl ?_
        refine a_iadd S d_Mod_isTuple_14 ?_
        refine a_eqi (y := nI (5 * u + g)) (ni_add rfl rfl) ?_
        refine a_istore_n S d_Mod_isTuple_15 rfl (Nat.le_of_ble_eq_true rfl) (lv' := [(0, .ref b), (1, .int (nI u)), (2, .int (nI g)), (3, .int (nI (5 * u + g)))]) rfl ?_
        refine a_aload_n S d_Mod_isTuple_16 rfl rfl ?_
        refine a_get S kc_Mod 7 (by decide) lf_Mod_23 h0 rfl d_Mod_isTuple_17 ?_
        refine a_iload_n S d_Mod_isTuple_20 rfl rfl ?_
        refine a_zald S (i := 5 * u + g) h5 rfl (by omega) (by decide) d_Mod_isTuple_21 ?_
        refine a_eqi hv.2.2.1 ?_
        refine a_if_ne S (tgt := 61) d_Mod_isTuple_22 rfl (fun h22 => ?_) (fun h22 => ?_)
        · have hm : (T g).1 = true := bo_1 h22
          refine a_iinc S (v := nI (g + 1)) d_Mod_isTuple_61 rfl (ni_add rfl (by decide)) (Nat.le_of_ble_eq_true rfl) (lv' := [(0, .ref b), (1, .int (nI u)), (2, .int (nI (g + 1))), (3, .int (nI (5 * u + g)))]) rfl ?_
          refine a_goto S (tgt := 2) d_Mod_isTuple_64 rfl ?_
          refine a_lv [0, 1, 2] (lv' := [(0, .ref b), (1, .int (nI u)), (2, .int (nI (g + 1)))]) rfl ?_
          exact ih2 _ (by omega) (g + 1) rfl (by omega) (fun i hi => by
          by_cases e : i = g
          · subst e; exact (fun q => by rw [hm] at q; cases q)
          · exact hs i (by omega))
        · have hm : (T g).1 = false := bo_0 h22
          refine a_aload_n S d_Mod_isTuple_25 rfl rfl ?_
          refine a_get S kc_Mod 3 (by decide) lf_Mod_7 h0 rfl d_Mod_isTuple_26 ?_
          refine a_iload_n S d_Mod_isTuple_29 rfl rfl ?_
          refine a_iald S (i := g) h1 rfl (by omega) (by decide) d_Mod_isTuple_30 ?_
          refine a_eqi hk.1 ?_
          refine a_iconst S (v := 2) d_Mod_isTuple_31 (by decide) ?_
          refine a_icmp_eq S (tgt := 61) d_Mod_isTuple_32 rfl (fun h32 => ?_) (fun h32 => ?_)
          · have hk2 : K g = 2 := (nI_eq (by omega) (by decide)).mp h32
            refine a_iinc S (v := nI (g + 1)) d_Mod_isTuple_61 rfl (ni_add rfl (by decide)) (Nat.le_of_ble_eq_true rfl) (lv' := [(0, .ref b), (1, .int (nI u)), (2, .int (nI (g + 1))), (3, .int (nI (5 * u + g)))]) rfl ?_
            refine a_goto S (tgt := 2) d_Mod_isTuple_64 rfl ?_
            refine a_lv [0, 1, 2] (lv' := [(0, .ref b), (1, .int (nI u)), (2, .int (nI (g + 1)))]) rfl ?_
            exact ih2 _ (by omega) (g + 1) rfl (by omega) (fun i hi => by
          by_cases e : i = g
          · subst e; exact (fun _ q => absurd hk2 q)
          · exact hs i (by omega))
          · have hk2 : ¬ K g = 2 := fun z => h32 (by rw [z]; rfl)
            refine a_aload_n S d_Mod_isTuple_35 rfl rfl ?_
            refine a_get S kc_Mod 3 (by decide) lf_Mod_7 h0 rfl d_Mod_isTuple_36 ?_
            refine a_iload_n S d_Mod_isTuple_39 rfl rfl ?_
            refine a_iald S (i := g) h1 rfl (by omega) (by decide) d_Mod_isTuple_40 ?_
            refine a_eqi hk.1 ?_
            refine a_aload_n S d_Mod_isTuple_41 rfl rfl ?_
            refine a_get S kc_Mod 5 (by decide) lf_Mod_16 h0 rfl d_Mod_isTuple_42 ?_
            refine a_iload_n S d_Mod_isTuple_45 rfl rfl ?_
            refine a_lald S (i := 5 * u + g) h3 rfl (by omega) (by decide) d_Mod_isTuple_46 ?_
            refine a_eql hv.1 ?_
            refine a_aload_n S d_Mod_isTuple_47 rfl rfl ?_
            refine a_get S kc_Mod 6 (by decide) lf_Mod_20 h0 rfl d_Mod_isTuple_48 ?_
            refine a_iload_n S d_Mod_isTuple_51 rfl rfl ?_
            refine a_iald S (i := 5 * u + g) h4 rfl (by omega) (by decide) d_Mod_isTuple_52 ?_
            refine a_eqi hv.2.1 ?_
            refine a_callS S (rest := []) lg_Mod_87 (c_Mod_isValue X.2.1 D (K g) ((T g).2.1) ((T g).2.2.1) w n hk.2) (by decide) (by omega) (by omega) rfl (Nat.le_of_ble_eq_true rfl) d_Mod_isTuple_53 (fun v1 w2 n3 p4 => ?_)
            obtain ⟨ab, rfl, hab, e5, e6⟩ := p4
            rw [e5, e6]
            refine a_st (st' := [.int (if ab then 1 else 0)]) rfl ?_
            refine a_if_ne S (tgt := 61) d_Mod_isTuple_56 rfl (fun h56 => ?_) (fun h56 => ?_)
            · have hok := hab.mp (bo_1 h56)
              refine a_iinc S (v := nI (g + 1)) d_Mod_isTuple_61 rfl (ni_add rfl (by decide)) (Nat.le_of_ble_eq_true rfl) (lv' := [(0, .ref b), (1, .int (nI u)), (2, .int (nI (g + 1))), (3, .int (nI (5 * u + g)))]) rfl ?_
              refine a_goto S (tgt := 2) d_Mod_isTuple_64 rfl ?_
              refine a_lv [0, 1, 2] (lv' := [(0, .ref b), (1, .int (nI u)), (2, .int (nI (g + 1)))]) rfl ?_
              exact ih2 _ (by omega) (g + 1) rfl (by omega) (fun i hi => by
          by_cases e : i = g
          · subst e; exact (fun _ _ => hok)
          · exact hs i (by omega))
            · have hno : ¬ okN (K g) (T g).2.1 (T g).2.2.1 := fun z => by have := hab.mpr z; rw [bo_0 h56] at this; cases this
              refine a_iconst S (v := 0) d_Mod_isTuple_59 (by decide) ?_
              exact RT _ _ _ _ _ _ _ d_Mod_isTuple_60 rfl (by omega) (by omega) ⟨false, rfl, ⟨fun z => (by cases z), fun z => absurd (z g hg hm hk2) hno⟩, rfl, rfl⟩
  exact loop2 _ 0 rfl (Nat.zero_le _) (fun i hi => absurd hi (Nat.not_lt_zero i))
set_option maxHeartbeats 400000 in
set_option maxRecDepth 100000 in
theorem c_Mod_readInt (l : Launch) (D : kD) (b : Nat) (th : Int32) (fd : Nat) (sl : Bool) (ki fl : Nat → Int32) (va : Nat → Int64) (fo go si te : Nat → Int32) (kp : Nat) (ro : Nat → Int32) (ma : Nat → Int32) (sz : Nat) (en ms lw hw : Nat → Int32) (ls : Nat) (hz : Int32) (pt : Nat) (bd : Bool) (l0 : List Nat) (t : Nat) (w : ww) (n : Nat) (hl : l0.length ≤ 120) (hby : ∀ b ∈ l0, b < 256) (hA : Arr ro l0) (hpt : pt ≤ l0.length) (ht : t = 0 ∨ t = 255) (h : Mo D w b th fd sl ki fl va fo go si te kp ro l0.length ma sz en ms lw hw ls hz pt bd) : AM l D M_Mod_readInt 1 0 0 [.ref b, .int (nI t)] w n (fun v w' n' => ∃ (r : Int64) (p1 : Nat) (b1 : Bool), v = some (.long r) ∧ n' = n ∧ Fr w w' b 14 ∧ Mo D w' b th fd sl ki fl va fo go si te kp ro l0.length ma sz en ms lw hw ls hz p1 b1 ∧ p1 ≤ l0.length ∧ ∀ Nn rest, bd = false → rdI t (l0.drop pt) = some (Nn, rest) → r = lN Nn ∧ b1 = false ∧ l0.drop p1 = rest) := by
  refine AM.ofl (by decide +kernel) rfl (Nat.le_of_ble_eq_true rfl) (fun X A Q hin S RT => ?_)
  have S : FX X (D, A, 7, Q) prog_9_method_30_code "KeyCodecModel" 1 0 0 := S
  have RT : RTl X (D, A, 7, Q) prog_9_method_30_code 0 0 _ := RT
  obtain ⟨h0, h1, h2, h3, h4, h5, h6, h7, h8, h9, h10, h11, h12, h13⟩ := h
  refine a_lve (lv' := [(0, .ref b), (1, .int (nI t))]) rfl ?_
  have fr : Fr w w b 14 := Fr.refl _ _ _
  refine a_aload_n S d_Mod_readInt_0 rfl rfl ?_
  refine a_iload_n S d_Mod_readInt_1 rfl rfl ?_
  refine a_callV S (rest := []) lg_Mod_145 h0 (c_Mod_next X.2.1 D b th fd sl ki fl va fo go si te kp ro ma sz en ms lw hw ls hz pt bd l0 t w n hl hby hA hpt ht ⟨h0, h1, h2, h3, h4, h5, h6, h7, h8, h9, h10, h11, h12, h13⟩) (by decide) (by omega) (by omega) rfl (Nat.le_of_ble_eq_true rfl) d_Mod_readInt_2 (fun v1 w2 n3 p4 => ?_)
  rcases p4 with ⟨hq7, rfl, e6, f5, h0, h1, h2, h3, h4, h5, h6, h7, h8, h9, h10, h11, h12, h13⟩ | ⟨hq7, rfl, e6, f5, h0, h1, h2, h3, h4, h5, h6, h7, h8, h9, h10, h11, h12, h13⟩
  · rw [e6]
    refine a_st (st' := [.int (nI (tnB t (l0.getD pt 0)))]) rfl ?_
    have hbhq7 := tnB_lt (t := t) (getD_lt hby pt)
    have fr := fr.trans (Fr.sub f5 (by omega) (by omega))
    refine a_istore_n S d_Mod_readInt_5 rfl (Nat.le_of_ble_eq_true rfl) (lv' := [(0, .ref b), (1, .int (nI t)), (2, .int (nI (tnB t (l0.getD pt 0))))]) rfl ?_
    refine a_iload_n S d_Mod_readInt_6 rfl rfl ?_
    refine a_sipush S (v := 128) d_Mod_readInt_7 (by decide) ?_
    refine a_icmp_lt S (tgt := 21) d_Mod_readInt_10 rfl (fun h10_ => ?_) (fun h10_ => ?_)
    · have hx7 : tnB t (l0.getD pt 0) < 128 := (nI_ltI (by omega) (by decide)).mp h10_
      refine a_bipush S (v := 127) d_Mod_readInt_21 (by decide) ?_
      refine a_iload_n S d_Mod_readInt_23 rfl rfl ?_
      refine a_isub S d_Mod_readInt_24 ?_
      refine a_eqi (y := nI (127 - tnB t (l0.getD pt 0))) (ni_sub rfl rfl (by omega)) ?_
      refine a_istore_n S d_Mod_readInt_25 rfl (Nat.le_of_ble_eq_true rfl) (lv' := [(0, .ref b), (1, .int (nI t)), (2, .int (nI (tnB t (l0.getD pt 0)))), (3, .int (nI (127 - tnB t (l0.getD pt 0))))]) rfl ?_
      refine a_iload_n S d_Mod_readInt_26 rfl rfl ?_
      refine a_sipush S (v := 128) d_Mod_readInt_27 (by decide) ?_
      refine a_icmp_lt S (tgt := 37) d_Mod_readInt_30 rfl (fun h30 => ?_) (fun h30 => ?_)
      · refine a_ldc2 S (v := (-1)) lK_Mod_98 d_Mod_readInt_37 ?_
        refine a_eql (y := lN (2 ^ 64 - 1)) (by decide) ?_
        refine a_lstore S d_Mod_readInt_40 (Nat.le_of_ble_eq_true rfl) (lv' := [(0, .ref b), (1, .int (nI t)), (2, .int (nI (tnB t (l0.getD pt 0)))), (3, .int (nI (127 - tnB t (l0.getD pt 0)))), (4, .long (lN (2 ^ 64 - 1)))]) rfl ?_
        refine a_iload_n S d_Mod_readInt_42 rfl rfl ?_
        refine a_bipush S (v := 8) d_Mod_readInt_43 (by decide) ?_
        refine a_icmp_le S (tgt := 53) d_Mod_readInt_45 rfl (fun h45 => ?_) (fun h45 => ?_)
        · have hn8 : 127 - tnB t (l0.getD pt 0) ≤ 8 := (nI_leI (by omega) (by decide)).mp h45
          refine a_iconst S (v := 0) d_Mod_readInt_53 (by decide) ?_
          refine a_istore S d_Mod_readInt_54 (Nat.le_of_ble_eq_true rfl) (lv' := [(0, .ref b), (1, .int (nI t)), (2, .int (nI (tnB t (l0.getD pt 0)))), (3, .int (nI (127 - tnB t (l0.getD pt 0)))), (4, .long (lN (2 ^ 64 - 1))), (6, .int 0)]) rfl ?_
          have loop56 : ∀ (kk56 : Nat) (i p1 Nn : Nat) (b1 : Bool) (w1 : ww), 127 - tnB t (l0.getD pt 0) - i = kk56 → (i ≤ 127 - tnB t (l0.getD pt 0)) → (p1 ≤ l0.length) → (Fr w w1 b 14) → (Mo D w1 b th fd sl ki fl va fo go si te kp ro l0.length ma sz en ms lw hw ls hz p1 b1) → (bd = false → (b1 = false ∧ rdI t (l0.drop pt) = rdBs t (127 - tnB t (l0.getD pt 0) - i) Nn (l0.drop p1)) ∨ rdI t (l0.drop pt) = none) → AW X (D, A, 7, Q) 56 [(0, .ref b), (1, .int (nI t)), (2, .int (nI (tnB t (l0.getD pt 0)))), (3, .int (nI (127 - tnB t (l0.getD pt 0)))), (4, .long (lN Nn)), (6, .int (nI i))] [] w1 n (0 + 0) (0 + 0) := by
            intro kk56
            induction kk56 using Nat.strongRecOn with
            | ind kk56 ih56 =>
              intro i p1 Nn b1 w1 hk56 hi hp1 fr h hC
              obtain ⟨h0, h1, h2, h3, h4, h5, h6, h7, h8, h9, h10, h11, h12, h13⟩ := h
              refine a_iload S d_Mod_readInt_56 rfl ?_
              refine a_iload_n S d_Mod_readInt_58 rfl rfl ?_
              refine a_icmp_ge S (tgt := 89) d_Mod_readInt_59 rfl (fun h59 => ?_) (fun h59 => ?_)
              · have hi2 : i = 127 - tnB t (l0.getD pt 0) := Nat.le_antisymm hi ((nI_leI (by omega) (by omega)).mp h59)
                refine a_lload S d_Mod_readInt_89 rfl ?_
                exact RT _ _ _ _ _ _ _ d_Mod_readInt_91 (by omega) (by omega) ⟨_, p1, b1, rfl, rfl, fr, ⟨h0, h1, h2, h3, h4, h5, h6, h7, h8, h9, h10, h11, h12, h13⟩, hp1, (fun Nn_ rest z q => (hC z).elim (fun g => by rw [g.2, hi2, Nat.sub_self] at q; cases q; exact ⟨rfl, g.1, rfl⟩) (fun g => by rw [g] at q; cases q))⟩
              · have hi2 : i < 127 - tnB t (l0.getD pt 0) := Nat.not_le.mp fun z => h59 ((nI_leI (by omega) (by omega)).mpr z)
                refine a_aload_n S d_Mod_readInt_62 rfl rfl ?_
                refine a_get S kc_Mod 22 (by decide) lf_Mod_142 h0 rfl d_Mod_readInt_63 ?_
                refine a_if_ne S (tgt := 89) d_Mod_readInt_66 rfl (fun h66 => ?_) (fun h66 => ?_)
                · have hbt : b1 = true := bo_1 h66
                  refine a_lload S d_Mod_readInt_89 rfl ?_
                  exact RT _ _ _ _ _ _ _ d_Mod_readInt_91 (by omega) (by omega) ⟨_, p1, b1, rfl, rfl, fr, ⟨h0, h1, h2, h3, h4, h5, h6, h7, h8, h9, h10, h11, h12, h13⟩, hp1, (fun Nn_ rest z q => (hC z).elim (fun g => by rw [hbt] at g; cases g.1) (fun g => by rw [g] at q; cases q))⟩
                · have hbt : b1 = false := bo_0 h66
                  refine a_lload S d_Mod_readInt_69 rfl ?_
                  refine a_bipush S (v := 8) d_Mod_readInt_71 (by decide) ?_
                  refine a_lshl S d_Mod_readInt_73 rfl ?_
                  refine a_eql (y := (lN Nn <<< ((8 : Int32).toInt64 &&& 63))) rfl ?_
                  refine a_aload_n S d_Mod_readInt_74 rfl rfl ?_
                  refine a_iload_n S d_Mod_readInt_75 rfl rfl ?_
                  refine a_callV S (rest := [_]) lg_Mod_145 h0 (c_Mod_next X.2.1 D b th fd sl ki fl va fo go si te kp ro ma sz en ms lw hw ls hz p1 b1 l0 t w1 n hl hby hA hp1 ht ⟨h0, h1, h2, h3, h4, h5, h6, h7, h8, h9, h10, h11, h12, h13⟩) (by decide) (by omega) (by omega) rfl (Nat.le_of_ble_eq_true rfl) d_Mod_readInt_76 (fun v8 w9 n10 p11 => ?_)
                  rcases p11 with ⟨hq14, rfl, e13, f12, h0, h1, h2, h3, h4, h5, h6, h7, h8, h9, h10, h11, h12, h13⟩ | ⟨hq14, rfl, e13, f12, h0, h1, h2, h3, h4, h5, h6, h7, h8, h9, h10, h11, h12, h13⟩
                  · rw [e13]
                    refine a_st (st' := [.int (nI (tnB t (l0.getD p1 0))), .long (lN Nn <<< ((8 : Int32).toInt64 &&& 63))]) rfl ?_
                    have hbhq14 := tnB_lt (t := t) (getD_lt hby p1)
                    have fr := fr.trans (Fr.sub f12 (by omega) (by omega))
                    refine a_i2l S d_Mod_readInt_79 ?_
                    refine a_lor S d_Mod_readInt_80 ?_
                    refine a_eql (y := (lN (Nn * 256 + tnB t (l0.getD p1 0)))) (l_shor hbhq14) ?_
                    refine a_lstore S d_Mod_readInt_81 (Nat.le_of_ble_eq_true rfl) (lv' := [(0, .ref b), (1, .int (nI t)), (2, .int (nI (tnB t (l0.getD pt 0)))), (3, .int (nI (127 - tnB t (l0.getD pt 0)))), (4, .long (lN (Nn * 256 + tnB t (l0.getD p1 0)))), (6, .int (nI i))]) rfl ?_
                    refine a_iinc S (v := nI (i + 1)) d_Mod_readInt_83 rfl (ni_add rfl (by decide)) (Nat.le_of_ble_eq_true rfl) (lv' := [(0, .ref b), (1, .int (nI t)), (2, .int (nI (tnB t (l0.getD pt 0)))), (3, .int (nI (127 - tnB t (l0.getD pt 0)))), (4, .long (lN (Nn * 256 + tnB t (l0.getD p1 0)))), (6, .int (nI (i + 1)))]) rfl ?_
                    refine a_goto S (tgt := 56) d_Mod_readInt_86 rfl ?_
                    exact ih56 _ (by omega) (i + 1) (p1 + 1) (Nn * 256 + tnB t (l0.getD p1 0)) b1 w9 rfl (by omega) (by omega) fr ⟨h0, h1, h2, h3, h4, h5, h6, h7, h8, h9, h10, h11, h12, h13⟩ (fun z => (hC z).imp (fun q => ⟨q.1, by rw [q.2, rdBs_s hi2 hq14]⟩) id)
                  · rw [e13]
                    refine a_st (st' := [.int 0, .long (lN Nn <<< ((8 : Int32).toInt64 &&& 63))]) rfl ?_
                    have fr := fr.trans (Fr.sub f12 (by omega) (by omega))
                    refine a_i2l S d_Mod_readInt_79 ?_
                    refine a_lor S d_Mod_readInt_80 ?_
                    refine a_eql (y := (lN (Nn * 256 + 0))) (l_shor (b := 0) (by decide)) ?_
                    refine a_lstore S d_Mod_readInt_81 (Nat.le_of_ble_eq_true rfl) (lv' := [(0, .ref b), (1, .int (nI t)), (2, .int (nI (tnB t (l0.getD pt 0)))), (3, .int (nI (127 - tnB t (l0.getD pt 0)))), (4, .long (lN (Nn * 256 + 0))), (6, .int (nI i))]) rfl ?_
                    refine a_iinc S (v := nI (i + 1)) d_Mod_readInt_83 rfl (ni_add rfl (by decide)) (Nat.le_of_ble_eq_true rfl) (lv' := [(0, .ref b), (1, .int (nI t)), (2, .int (nI (tnB t (l0.getD pt 0)))), (3, .int (nI (127 - tnB t (l0.getD pt 0)))), (4, .long (lN (Nn * 256 + 0))), (6, .int (nI (i + 1)))]) rfl ?_
                    refine a_goto S (tgt := 56) d_Mod_readInt_86 rfl ?_
                    exact ih56 _ (by omega) (i + 1) p1 (Nn * 256 + 0) true w9 rfl (by omega) (by omega) fr ⟨h0, h1, h2, h3, h4, h5, h6, h7, h8, h9, h10, h11, h12, h13⟩ (fun z => Or.inr ((hC z).elim (fun q => by rw [q.2]; exact rdBs_nil (by omega) (by omega)) id))
          exact loop56 _ 0 (pt + 1) (2 ^ 64 - 1) bd w2 rfl (Nat.zero_le _) (by omega) fr ⟨h0, h1, h2, h3, h4, h5, h6, h7, h8, h9, h10, h11, h12, h13⟩ (fun z => Or.inl ⟨z, rdI_neg (by omega) (by omega) (by omega)⟩)
        · have hn8 : 8 < 127 - tnB t (l0.getD pt 0) := Nat.not_le.mp fun z => h45 ((nI_leI (by omega) (by decide)).mpr z)
          refine a_aload_n S d_Mod_readInt_48 rfl rfl ?_
          refine a_iconst S (v := 1) d_Mod_readInt_49 (by decide) ?_
          refine a_put S kc_Mod kt_Mod 22 (by decide) lf_Mod_142 rfl h0 rfl rfl (Nat.le_of_ble_eq_true rfl) d_Mod_readInt_50 (fun w15 h0 e16 => ?_)
          have h0 : w15 b = some (.inr (6, [.int th, .int (nI fd), .int (if sl then 1 else 0), .ref (b + 1), .ref (b + 2), .ref (b + 3), .ref (b + 4), .ref (b + 5), .ref (b + 6), .ref (b + 7), .int (nI kp), .ref (b + 8), .int (nI l0.length), .ref (b + 9), .int (nI sz), .ref (b + 10), .ref (b + 11), .ref (b + 12), .ref (b + 13), .int (nI ls), .int hz, .int (nI (pt + 1)), .int 1])) := h0
          have fr := fr.trans (Fr.sub (Fr.of1 e16) (by omega) (by omega))
          have h1 := Fr.cell (Fr.of1 e16) h1 (by omega)
          have h2 := Fr.cell (Fr.of1 e16) h2 (by omega)
          have h3 := Fr.cell (Fr.of1 e16) h3 (by omega)
          have h4 := Fr.cell (Fr.of1 e16) h4 (by omega)
          have h5 := Fr.cell (Fr.of1 e16) h5 (by omega)
          have h6 := Fr.cell (Fr.of1 e16) h6 (by omega)
          have h7 := Fr.cell (Fr.of1 e16) h7 (by omega)
          have h8 := Fr.cell (Fr.of1 e16) h8 (by omega)
          have h9 := Fr.cell (Fr.of1 e16) h9 (by omega)
          have h10 := Fr.cell (Fr.of1 e16) h10 (by omega)
          have h11 := Fr.cell (Fr.of1 e16) h11 (by omega)
          have h12 := Fr.cell (Fr.of1 e16) h12 (by omega)
          have h13 := Fr.cell (Fr.of1 e16) h13 (by omega)
          refine a_iconst S (v := 0) d_Mod_readInt_53 (by decide) ?_
          refine a_istore S d_Mod_readInt_54 (Nat.le_of_ble_eq_true rfl) (lv' := [(0, .ref b), (1, .int (nI t)), (2, .int (nI (tnB t (l0.getD pt 0)))), (3, .int (nI (127 - tnB t (l0.getD pt 0)))), (4, .long (lN (2 ^ 64 - 1))), (6, .int 0)]) rfl ?_
          refine a_iload S d_Mod_readInt_56 rfl ?_
          refine a_iload_n S d_Mod_readInt_58 rfl rfl ?_
          refine a_icmp_ge S (tgt := 89) d_Mod_readInt_59 rfl (fun h59 => ?_) (fun h59 => ?_)
          · exact absurd ((nI_leI (a := 127 - tnB t (l0.getD pt 0)) (b := 0) (by omega) (by decide)).mp h59) (by omega)
          · refine a_aload_n S d_Mod_readInt_62 rfl rfl ?_
            refine a_get S kc_Mod 22 (by decide) lf_Mod_142 h0 rfl d_Mod_readInt_63 ?_
            refine a_if_ne S (tgt := 89) d_Mod_readInt_66 rfl (fun h66 => ?_) (fun h66 => ?_)
            · refine a_lload S d_Mod_readInt_89 rfl ?_
              exact RT _ _ _ _ _ _ _ d_Mod_readInt_91 (by omega) (by omega) ⟨_, _, true, rfl, rfl, fr, ⟨h0, h1, h2, h3, h4, h5, h6, h7, h8, h9, h10, h11, h12, h13⟩, (by omega), (fun Nn_ rest _ q => by rw [rdI_bn (by omega) (by omega) (by omega)] at q; cases q)⟩
            · exact absurd h66 (by decide)
      · exact absurd h10_ h30
    · have hx7 : ¬ tnB t (l0.getD pt 0) < 128 := fun z => h10_ ((nI_ltI (by omega) (by decide)).mpr z)
      refine a_iload_n S d_Mod_readInt_13 rfl rfl ?_
      refine a_sipush S (v := 128) d_Mod_readInt_14 (by decide) ?_
      refine a_isub S d_Mod_readInt_17 ?_
      refine a_eqi (y := nI (tnB t (l0.getD pt 0) - 128)) (ni_sub rfl rfl (by omega)) ?_
      refine a_goto S (tgt := 25) d_Mod_readInt_18 rfl ?_
      refine a_istore_n S d_Mod_readInt_25 rfl (Nat.le_of_ble_eq_true rfl) (lv' := [(0, .ref b), (1, .int (nI t)), (2, .int (nI (tnB t (l0.getD pt 0)))), (3, .int (nI (tnB t (l0.getD pt 0) - 128)))]) rfl ?_
      refine a_iload_n S d_Mod_readInt_26 rfl rfl ?_
      refine a_sipush S (v := 128) d_Mod_readInt_27 (by decide) ?_
      refine a_icmp_lt S (tgt := 37) d_Mod_readInt_30 rfl (fun h30 => ?_) (fun h30 => ?_)
      · exact absurd h30 h10_
      · refine a_lconst S (v := 0) d_Mod_readInt_33 (by decide) ?_
        refine a_goto S (tgt := 40) d_Mod_readInt_34 rfl ?_
        refine a_eql (y := lN (0)) (by decide) ?_
        refine a_lstore S d_Mod_readInt_40 (Nat.le_of_ble_eq_true rfl) (lv' := [(0, .ref b), (1, .int (nI t)), (2, .int (nI (tnB t (l0.getD pt 0)))), (3, .int (nI (tnB t (l0.getD pt 0) - 128))), (4, .long (lN (0)))]) rfl ?_
        refine a_iload_n S d_Mod_readInt_42 rfl rfl ?_
        refine a_bipush S (v := 8) d_Mod_readInt_43 (by decide) ?_
        refine a_icmp_le S (tgt := 53) d_Mod_readInt_45 rfl (fun h45 => ?_) (fun h45 => ?_)
        · have hn8 : tnB t (l0.getD pt 0) - 128 ≤ 8 := (nI_leI (by omega) (by decide)).mp h45
          refine a_iconst S (v := 0) d_Mod_readInt_53 (by decide) ?_
          refine a_istore S d_Mod_readInt_54 (Nat.le_of_ble_eq_true rfl) (lv' := [(0, .ref b), (1, .int (nI t)), (2, .int (nI (tnB t (l0.getD pt 0)))), (3, .int (nI (tnB t (l0.getD pt 0) - 128))), (4, .long (lN (0))), (6, .int 0)]) rfl ?_
          have loop56 : ∀ (kk56 : Nat) (i p1 Nn : Nat) (b1 : Bool) (w1 : ww), tnB t (l0.getD pt 0) - 128 - i = kk56 → (i ≤ tnB t (l0.getD pt 0) - 128) → (p1 ≤ l0.length) → (Fr w w1 b 14) → (Mo D w1 b th fd sl ki fl va fo go si te kp ro l0.length ma sz en ms lw hw ls hz p1 b1) → (bd = false → (b1 = false ∧ rdI t (l0.drop pt) = rdBs t (tnB t (l0.getD pt 0) - 128 - i) Nn (l0.drop p1)) ∨ rdI t (l0.drop pt) = none) → AW X (D, A, 7, Q) 56 [(0, .ref b), (1, .int (nI t)), (2, .int (nI (tnB t (l0.getD pt 0)))), (3, .int (nI (tnB t (l0.getD pt 0) - 128))), (4, .long (lN Nn)), (6, .int (nI i))] [] w1 n (0 + 0) (0 + 0) := by
            intro kk56
            induction kk56 using Nat.strongRecOn with
            | ind kk56 ih56 =>
              intro i p1 Nn b1 w1 hk56 hi hp1 fr h hC
              obtain ⟨h0, h1, h2, h3, h4, h5, h6, h7, h8, h9, h10, h11, h12, h13⟩ := h
              refine a_iload S d_Mod_readInt_56 rfl ?_
              refine a_iload_n S d_Mod_readInt_58 rfl rfl ?_
              refine a_icmp_ge S (tgt := 89) d_Mod_readInt_59 rfl (fun h59 => ?_) (fun h59 => ?_)
              · have hi2 : i = tnB t (l0.getD pt 0) - 128 := Nat.le_antisymm hi ((nI_leI (by omega) (by omega)).mp h59)
                refine a_lload S d_Mod_readInt_89 rfl ?_
                exact RT _ _ _ _ _ _ _ d_Mod_readInt_91 (by omega) (by omega) ⟨_, p1, b1, rfl, rfl, fr, ⟨h0, h1, h2, h3, h4, h5, h6, h7, h8, h9, h10, h11, h12, h13⟩, hp1, (fun Nn_ rest z q => (hC z).elim (fun g => by rw [g.2, hi2, Nat.sub_self] at q; cases q; exact ⟨rfl, g.1, rfl⟩) (fun g => by rw [g] at q; cases q))⟩
              · have hi2 : i < tnB t (l0.getD pt 0) - 128 := Nat.not_le.mp fun z => h59 ((nI_leI (by omega) (by omega)).mpr z)
                refine a_aload_n S d_Mod_readInt_62 rfl rfl ?_
                refine a_get S kc_Mod 22 (by decide) lf_Mod_142 h0 rfl d_Mod_readInt_63 ?_
                refine a_if_ne S (tgt := 89) d_Mod_readInt_66 rfl (fun h66 => ?_) (fun h66 => ?_)
                · have hbt : b1 = true := bo_1 h66
                  refine a_lload S d_Mod_readInt_89 rfl ?_
                  exact RT _ _ _ _ _ _ _ d_Mod_readInt_91 (by omega) (by omega) ⟨_, p1, b1, rfl, rfl, fr, ⟨h0, h1, h2, h3, h4, h5, h6, h7, h8, h9, h10, h11, h12, h13⟩, hp1, (fun Nn_ rest z q => (hC z).elim (fun g => by rw [hbt] at g; cases g.1) (fun g => by rw [g] at q; cases q))⟩
                · have hbt : b1 = false := bo_0 h66
                  refine a_lload S d_Mod_readInt_69 rfl ?_
                  refine a_bipush S (v := 8) d_Mod_readInt_71 (by decide) ?_
                  refine a_lshl S d_Mod_readInt_73 rfl ?_
                  refine a_eql (y := (lN Nn <<< ((8 : Int32).toInt64 &&& 63))) rfl ?_
                  refine a_aload_n S d_Mod_readInt_74 rfl rfl ?_
                  refine a_iload_n S d_Mod_readInt_75 rfl rfl ?_
                  refine a_callV S (rest := [_]) lg_Mod_145 h0 (c_Mod_next X.2.1 D b th fd sl ki fl va fo go si te kp ro ma sz en ms lw hw ls hz p1 b1 l0 t w1 n hl hby hA hp1 ht ⟨h0, h1, h2, h3, h4, h5, h6, h7, h8, h9, h10, h11, h12, h13⟩) (by decide) (by omega) (by omega) rfl (Nat.le_of_ble_eq_true rfl) d_Mod_readInt_76 (fun v17 w18 n19 p20 => ?_)
                  rcases p20 with ⟨hq23, rfl, e22, f21, h0, h1, h2, h3, h4, h5, h6, h7, h8, h9, h10, h11, h12, h13⟩ | ⟨hq23, rfl, e22, f21, h0, h1, h2, h3, h4, h5, h6, h7, h8, h9, h10, h11, h12, h13⟩
                  · rw [e22]
                    refine a_st (st' := [.int (nI (tnB t (l0.getD p1 0))), .long (lN Nn <<< ((8 : Int32).toInt64 &&& 63))]) rfl ?_
                    have hbhq23 := tnB_lt (t := t) (getD_lt hby p1)
                    have fr := fr.trans (Fr.sub f21 (by omega) (by omega))
                    refine a_i2l S d_Mod_readInt_79 ?_
                    refine a_lor S d_Mod_readInt_80 ?_
                    refine a_eql (y := (lN (Nn * 256 + tnB t (l0.getD p1 0)))) (l_shor hbhq23) ?_
                    refine a_lstore S d_Mod_readInt_81 (Nat.le_of_ble_eq_true rfl) (lv' := [(0, .ref b), (1, .int (nI t)), (2, .int (nI (tnB t (l0.getD pt 0)))), (3, .int (nI (tnB t (l0.getD pt 0) - 128))), (4, .long (lN (Nn * 256 + tnB t (l0.getD p1 0)))), (6, .int (nI i))]) rfl ?_
                    refine a_iinc S (v := nI (i + 1)) d_Mod_readInt_83 rfl (ni_add rfl (by decide)) (Nat.le_of_ble_eq_true rfl) (lv' := [(0, .ref b), (1, .int (nI t)), (2, .int (nI (tnB t (l0.getD pt 0)))), (3, .int (nI (tnB t (l0.getD pt 0) - 128))), (4, .long (lN (Nn * 256 + tnB t (l0.getD p1 0)))), (6, .int (nI (i + 1)))]) rfl ?_
                    refine a_goto S (tgt := 56) d_Mod_readInt_86 rfl ?_
                    exact ih56 _ (by omega) (i + 1) (p1 + 1) (Nn * 256 + tnB t (l0.getD p1 0)) b1 w18 rfl (by omega) (by omega) fr ⟨h0, h1, h2, h3, h4, h5, h6, h7, h8, h9, h10, h11, h12, h13⟩ (fun z => (hC z).imp (fun q => ⟨q.1, by rw [q.2, rdBs_s hi2 hq23]⟩) id)
                  · rw [e22]
                    refine a_st (st' := [.int 0, .long (lN Nn <<< ((8 : Int32).toInt64 &&& 63))]) rfl ?_
                    have fr := fr.trans (Fr.sub f21 (by omega) (by omega))
                    refine a_i2l S d_Mod_readInt_79 ?_
                    refine a_lor S d_Mod_readInt_80 ?_
                    refine a_eql (y := (lN (Nn * 256 + 0))) (l_shor (b := 0) (by decide)) ?_
                    refine a_lstore S d_Mod_readInt_81 (Nat.le_of_ble_eq_true rfl) (lv' := [(0, .ref b), (1, .int (nI t)), (2, .int (nI (tnB t (l0.getD pt 0)))), (3, .int (nI (tnB t (l0.getD pt 0) - 128))), (4, .long (lN (Nn * 256 + 0))), (6, .int (nI i))]) rfl ?_
                    refine a_iinc S (v := nI (i + 1)) d_Mod_readInt_83 rfl (ni_add rfl (by decide)) (Nat.le_of_ble_eq_true rfl) (lv' := [(0, .ref b), (1, .int (nI t)), (2, .int (nI (tnB t (l0.getD pt 0)))), (3, .int (nI (tnB t (l0.getD pt 0) - 128))), (4, .long (lN (Nn * 256 + 0))), (6, .int (nI (i + 1)))]) rfl ?_
                    refine a_goto S (tgt := 56) d_Mod_readInt_86 rfl ?_
                    exact ih56 _ (by omega) (i + 1) p1 (Nn * 256 + 0) true w18 rfl (by omega) (by omega) fr ⟨h0, h1, h2, h3, h4, h5, h6, h7, h8, h9, h10, h11, h12, h13⟩ (fun z => Or.inr ((hC z).elim (fun q => by rw [q.2]; exact rdBs_nil (by omega) (by omega)) id))
          exact loop56 _ 0 (pt + 1) 0 bd w2 rfl (Nat.zero_le _) (by omega) fr ⟨h0, h1, h2, h3, h4, h5, h6, h7, h8, h9, h10, h11, h12, h13⟩ (fun z => Or.inl ⟨z, rdI_pos (by omega) (by omega) (by omega)⟩)
        · have hn8 : 8 < tnB t (l0.getD pt 0) - 128 := Nat.not_le.mp fun z => h45 ((nI_leI (by omega) (by decide)).mpr z)
          refine a_aload_n S d_Mod_readInt_48 rfl rfl ?_
          refine a_iconst S (v := 1) d_Mod_readInt_49 (by decide) ?_
          refine a_put S kc_Mod kt_Mod 22 (by decide) lf_Mod_142 rfl h0 rfl rfl (Nat.le_of_ble_eq_true rfl) d_Mod_readInt_50 (fun w24 h0 e25 => ?_)
          have h0 : w24 b = some (.inr (6, [.int th, .int (nI fd), .int (if sl then 1 else 0), .ref (b + 1), .ref (b + 2), .ref (b + 3), .ref (b + 4), .ref (b + 5), .ref (b + 6), .ref (b + 7), .int (nI kp), .ref (b + 8), .int (nI l0.length), .ref (b + 9), .int (nI sz), .ref (b + 10), .ref (b + 11), .ref (b + 12), .ref (b + 13), .int (nI ls), .int hz, .int (nI (pt + 1)), .int 1])) := h0
          have fr := fr.trans (Fr.sub (Fr.of1 e25) (by omega) (by omega))
          have h1 := Fr.cell (Fr.of1 e25) h1 (by omega)
          have h2 := Fr.cell (Fr.of1 e25) h2 (by omega)
          have h3 := Fr.cell (Fr.of1 e25) h3 (by omega)
          have h4 := Fr.cell (Fr.of1 e25) h4 (by omega)
          have h5 := Fr.cell (Fr.of1 e25) h5 (by omega)
          have h6 := Fr.cell (Fr.of1 e25) h6 (by omega)
          have h7 := Fr.cell (Fr.of1 e25) h7 (by omega)
          have h8 := Fr.cell (Fr.of1 e25) h8 (by omega)
          have h9 := Fr.cell (Fr.of1 e25) h9 (by omega)
          have h10 := Fr.cell (Fr.of1 e25) h10 (by omega)
          have h11 := Fr.cell (Fr.of1 e25) h11 (by omega)
          have h12 := Fr.cell (Fr.of1 e25) h12 (by omega)
          have h13 := Fr.cell (Fr.of1 e25) h13 (by omega)
          refine a_iconst S (v := 0) d_Mod_readInt_53 (by decide) ?_
          refine a_istore S d_Mod_readInt_54 (Nat.le_of_ble_eq_true rfl) (lv' := [(0, .ref b), (1, .int (nI t)), (2, .int (nI (tnB t (l0.getD pt 0)))), (3, .int (nI (tnB t (l0.getD pt 0) - 128))), (4, .long (lN (0))), (6, .int 0)]) rfl ?_
          refine a_iload S d_Mod_readInt_56 rfl ?_
          refine a_iload_n S d_Mod_readInt_58 rfl rfl ?_
          refine a_icmp_ge S (tgt := 89) d_Mod_readInt_59 rfl (fun h59 => ?_) (fun h59 => ?_)
          · exact absurd ((nI_leI (a := tnB t (l0.getD pt 0) - 128) (b := 0) (by omega) (by decide)).mp h59) (by omega)
          · refine a_aload_n S d_Mod_readInt_62 rfl rfl ?_
            refine a_get S kc_Mod 22 (by decide) lf_Mod_142 h0 rfl d_Mod_readInt_63 ?_
            refine a_if_ne S (tgt := 89) d_Mod_readInt_66 rfl (fun h66 => ?_) (fun h66 => ?_)
            · refine a_lload S d_Mod_readInt_89 rfl ?_
              exact RT _ _ _ _ _ _ _ d_Mod_readInt_91 (by omega) (by omega) ⟨_, _, true, rfl, rfl, fr, ⟨h0, h1, h2, h3, h4, h5, h6, h7, h8, h9, h10, h11, h12, h13⟩, (by omega), (fun Nn_ rest _ q => by rw [rdI_bp (by omega) (by omega) (by omega)] at q; cases q)⟩
            · exact absurd h66 (by decide)
  · rw [e6]
    refine a_st (st' := [.int 0]) rfl ?_
    have fr := fr.trans (Fr.sub f5 (by omega) (by omega))
    refine a_istore_n S d_Mod_readInt_5 rfl (Nat.le_of_ble_eq_true rfl) (lv' := [(0, .ref b), (1, .int (nI t)), (2, .int 0)]) rfl ?_
    refine a_iload_n S d_Mod_readInt_6 rfl rfl ?_
    refine a_sipush S (v := 128) d_Mod_readInt_7 (by decide) ?_
    refine a_icmp_lt S (tgt := 21) d_Mod_readInt_10 rfl (fun h10_ => ?_) (fun h10_ => ?_)
    · refine a_bipush S (v := 127) d_Mod_readInt_21 (by decide) ?_
      refine a_iload_n S d_Mod_readInt_23 rfl rfl ?_
      refine a_isub S d_Mod_readInt_24 ?_
      refine a_eqi (y := 127) (by decide) ?_
      refine a_istore_n S d_Mod_readInt_25 rfl (Nat.le_of_ble_eq_true rfl) (lv' := [(0, .ref b), (1, .int (nI t)), (2, .int 0), (3, .int 127)]) rfl ?_
      refine a_iload_n S d_Mod_readInt_26 rfl rfl ?_
      refine a_sipush S (v := 128) d_Mod_readInt_27 (by decide) ?_
      refine a_icmp_lt S (tgt := 37) d_Mod_readInt_30 rfl (fun h30 => ?_) (fun h30 => ?_)
      · refine a_ldc2 S (v := (-1)) lK_Mod_98 d_Mod_readInt_37 ?_
        refine a_lstore S d_Mod_readInt_40 (Nat.le_of_ble_eq_true rfl) (lv' := [(0, .ref b), (1, .int (nI t)), (2, .int 0), (3, .int 127), (4, .long (-1))]) rfl ?_
        refine a_iload_n S d_Mod_readInt_42 rfl rfl ?_
        refine a_bipush S (v := 8) d_Mod_readInt_43 (by decide) ?_
        refine a_icmp_le S (tgt := 53) d_Mod_readInt_45 rfl (fun h45 => ?_) (fun h45 => ?_)
        · exact absurd h45 (by decide)
        · refine a_aload_n S d_Mod_readInt_48 rfl rfl ?_
          refine a_iconst S (v := 1) d_Mod_readInt_49 (by decide) ?_
          refine a_put S kc_Mod kt_Mod 22 (by decide) lf_Mod_142 rfl h0 rfl rfl (Nat.le_of_ble_eq_true rfl) d_Mod_readInt_50 (fun w26 h0 e27 => ?_)
          have h0 : w26 b = some (.inr (6, [.int th, .int (nI fd), .int (if sl then 1 else 0), .ref (b + 1), .ref (b + 2), .ref (b + 3), .ref (b + 4), .ref (b + 5), .ref (b + 6), .ref (b + 7), .int (nI kp), .ref (b + 8), .int (nI l0.length), .ref (b + 9), .int (nI sz), .ref (b + 10), .ref (b + 11), .ref (b + 12), .ref (b + 13), .int (nI ls), .int hz, .int (nI pt), .int 1])) := h0
          have fr := fr.trans (Fr.sub (Fr.of1 e27) (by omega) (by omega))
          have h1 := Fr.cell (Fr.of1 e27) h1 (by omega)
          have h2 := Fr.cell (Fr.of1 e27) h2 (by omega)
          have h3 := Fr.cell (Fr.of1 e27) h3 (by omega)
          have h4 := Fr.cell (Fr.of1 e27) h4 (by omega)
          have h5 := Fr.cell (Fr.of1 e27) h5 (by omega)
          have h6 := Fr.cell (Fr.of1 e27) h6 (by omega)
          have h7 := Fr.cell (Fr.of1 e27) h7 (by omega)
          have h8 := Fr.cell (Fr.of1 e27) h8 (by omega)
          have h9 := Fr.cell (Fr.of1 e27) h9 (by omega)
          have h10 := Fr.cell (Fr.of1 e27) h10 (by omega)
          have h11 := Fr.cell (Fr.of1 e27) h11 (by omega)
          have h12 := Fr.cell (Fr.of1 e27) h12 (by omega)
          have h13 := Fr.cell (Fr.of1 e27) h13 (by omega)
          refine a_iconst S (v := 0) d_Mod_readInt_53 (by decide) ?_
          refine a_istore S d_Mod_readInt_54 (Nat.le_of_ble_eq_true rfl) (lv' := [(0, .ref b), (1, .int (nI t)), (2, .int 0), (3, .int 127), (4, .long (-1)), (6, .int 0)]) rfl ?_
          refine a_iload S d_Mod_readInt_56 rfl ?_
          refine a_iload_n S d_Mod_readInt_58 rfl rfl ?_
          refine a_icmp_ge S (tgt := 89) d_Mod_readInt_59 rfl (fun h59 => ?_) (fun h59 => ?_)
          · exact absurd h59 (by decide)
          · refine a_aload_n S d_Mod_readInt_62 rfl rfl ?_
            refine a_get S kc_Mod 22 (by decide) lf_Mod_142 h0 rfl d_Mod_readInt_63 ?_
            refine a_if_ne S (tgt := 89) d_Mod_readInt_66 rfl (fun h66 => ?_) (fun h66 => ?_)
            · refine a_lload S d_Mod_readInt_89 rfl ?_
              exact RT _ _ _ _ _ _ _ d_Mod_readInt_91 (by omega) (by omega) ⟨_, _, true, rfl, rfl, fr, ⟨h0, h1, h2, h3, h4, h5, h6, h7, h8, h9, h10, h11, h12, h13⟩, (by omega), (fun Nn_ rest _ q => by rw [rdI_nil (by omega)] at q; cases q)⟩
            · exact absurd h66 (by decide)
      · exact absurd (by decide) h30
    · exact absurd (by decide) h10_
set_option maxHeartbeats 400000 in
set_option maxRecDepth 100000 in
theorem c_Mod_shifted (l : Launch) (D : kD) (x : Int64) (k : Int32) (w : ww) (n : Nat)  : AM l D M_Mod_shifted 0 0 0 [.long x, .int k] w n (fun v w' n' => ∃ r : Int64, v = some (.long r) ∧ (∀ z : Nat, k = nI z → z < 2 ^ 31 → ∀ dv : Int, x.toInt * 10 ^ z = dv → -(10 : Int) ^ 15 ≤ dv → dv ≤ 10 ^ 15 → r.toInt = dv) ∧ w' = w ∧ n' = n) := by
  refine AM.ofl (by decide +kernel) rfl (Nat.le_of_ble_eq_true rfl) (fun X A Q hin S RT => ?_)
  have S : FX X (D, A, 6, Q) prog_9_method_33_code "KeyCodecModel" 0 0 0 := S
  have RT : RTl X (D, A, 6, Q) prog_9_method_33_code 0 0 _ := RT
  refine a_lve (lv' := [(0, .long x), (2, .int k)]) rfl ?_
  refine a_lload_n S d_Mod_shifted_0 rfl rfl ?_
  refine a_lstore_n S d_Mod_shifted_1 rfl (Nat.le_of_ble_eq_true rfl) (lv' := [(0, .long x), (2, .int k), (3, .long x)]) rfl ?_
  refine a_iconst S (v := 0) d_Mod_shifted_2 (by decide) ?_
  refine a_istore S d_Mod_shifted_3 (Nat.le_of_ble_eq_true rfl) (lv' := [(0, .long x), (2, .int k), (3, .long x), (5, .int 0)]) rfl ?_
  have loop5 : ∀ (kk5 : Nat) (i : Nat) (m : Int64), k.toInt.toNat - i = kk5 → (i ≤ k.toInt.toNat) → (ShC x k i m) → AW X (D, A, 6, Q) 5 [(0, .long x), (2, .int k), (3, .long m), (5, .int (nI i))] [] w n 0 0 := by
    intro kk5
    induction kk5 using Nat.strongRecOn with
    | ind kk5 ih5 =>
      intro i m hk5 hi hC
      refine a_iload S d_Mod_shifted_5 rfl ?_
      refine a_iload_n S d_Mod_shifted_7 rfl rfl ?_
      refine a_icmp_ge S (tgt := 51) d_Mod_shifted_8 rfl (fun h8 => ?_) (fun h8 => ?_)
      · have hr := hC.end_ hi h8
        refine a_lload_n S d_Mod_shifted_51 rfl rfl ?_
        exact RT _ _ _ _ _ _ _ d_Mod_shifted_52 (by omega) (by omega) ⟨m, rfl, hr, rfl, rfl⟩
      · have hi := sh_lt2 hi h8
        refine a_lload_n S d_Mod_shifted_11 rfl rfl ?_
        refine a_lconst S (v := 0) d_Mod_shifted_12 (by decide) ?_
        refine a_lcmp S d_Mod_shifted_13 ?_
        refine a_if_eq S (tgt := 51) d_Mod_shifted_14 rfl (fun h14 => ?_) (fun h14 => ?_)
        · have hr := hC.zero h14
          refine a_lload_n S d_Mod_shifted_51 rfl rfl ?_
          exact RT _ _ _ _ _ _ _ d_Mod_shifted_52 (by omega) (by omega) ⟨m, rfl, hr, rfl, rfl⟩
        · refine a_lload_n S d_Mod_shifted_17 rfl rfl ?_
          refine a_ldc2 S (v := 1000000000000000) lK_Mod_77 d_Mod_shifted_18 ?_
          refine a_lcmp S d_Mod_shifted_21 ?_
          refine a_if_gt S (tgt := 33) d_Mod_shifted_22 rfl (fun h22 => ?_) (fun h22 => ?_)
          · refine a_ldc2 S (v := 2000000000000000) lK_Mod_149 d_Mod_shifted_33 ?_
            refine a_goto S (tgt := 44) d_Mod_shifted_36 rfl ?_
            refine a_lstore_n S d_Mod_shifted_44 rfl (Nat.le_of_ble_eq_true rfl) (lv' := [(0, .long x), (2, .int k), (3, .long 2000000000000000), (5, .int (nI i))]) rfl ?_
            refine a_iinc S (v := nI (i + 1)) d_Mod_shifted_45 rfl (ni_add rfl (by decide)) (Nat.le_of_ble_eq_true rfl) (lv' := [(0, .long x), (2, .int k), (3, .long 2000000000000000), (5, .int (nI (i + 1)))]) rfl ?_
            refine a_goto S (tgt := 5) d_Mod_shifted_48 rfl ?_
            exact ih5 _ (by omega) (i + 1) 2000000000000000 rfl (by omega) (hC.bigp (Int64.lt_iff_toInt_lt.mp ((lg_cmp_gt _ _).mp h22)))
          · have hm2 : m.toInt ≤ 10 ^ 15 := ahi h22
            refine a_lload_n S d_Mod_shifted_25 rfl rfl ?_
            refine a_ldc2 S (v := (-1000000000000000)) lK_Mod_75 d_Mod_shifted_26 ?_
            refine a_lcmp S d_Mod_shifted_29 ?_
            refine a_if_ge S (tgt := 39) d_Mod_shifted_30 rfl (fun h30 => ?_) (fun h30 => ?_)
            · have hm1 : -(10 : Int) ^ 15 ≤ m.toInt := alow (k2_nlt h30)
              refine a_lload_n S d_Mod_shifted_39 rfl rfl ?_
              refine a_ldc2 S (v := 10) lK_Mod_111 d_Mod_shifted_40 ?_
              refine a_lmul S d_Mod_shifted_43 ?_
              refine a_lstore_n S d_Mod_shifted_44 rfl (Nat.le_of_ble_eq_true rfl) (lv' := [(0, .long x), (2, .int k), (3, .long (m * 10)), (5, .int (nI i))]) rfl ?_
              refine a_iinc S (v := nI (i + 1)) d_Mod_shifted_45 rfl (ni_add rfl (by decide)) (Nat.le_of_ble_eq_true rfl) (lv' := [(0, .long x), (2, .int k), (3, .long (m * 10)), (5, .int (nI (i + 1)))]) rfl ?_
              refine a_goto S (tgt := 5) d_Mod_shifted_48 rfl ?_
              exact ih5 _ (by omega) (i + 1) (m * 10) rfl (by omega) (hC.s hi hm1 hm2)
            · refine a_ldc2 S (v := 2000000000000000) lK_Mod_149 d_Mod_shifted_33 ?_
              refine a_goto S (tgt := 44) d_Mod_shifted_36 rfl ?_
              refine a_lstore_n S d_Mod_shifted_44 rfl (Nat.le_of_ble_eq_true rfl) (lv' := [(0, .long x), (2, .int k), (3, .long 2000000000000000), (5, .int (nI i))]) rfl ?_
              refine a_iinc S (v := nI (i + 1)) d_Mod_shifted_45 rfl (ni_add rfl (by decide)) (Nat.le_of_ble_eq_true rfl) (lv' := [(0, .long x), (2, .int k), (3, .long 2000000000000000), (5, .int (nI (i + 1)))]) rfl ?_
              refine a_goto S (tgt := 5) d_Mod_shifted_48 rfl ?_
              exact ih5 _ (by omega) (i + 1) 2000000000000000 rfl (by omega) (hC.bign (Int64.lt_iff_toInt_lt.mp ((lg_cmp_lt _ _).mp (k2_lt h30))))
  exact loop5 _ 0 x rfl (Nat.zero_le _) (ShC.z x k)
