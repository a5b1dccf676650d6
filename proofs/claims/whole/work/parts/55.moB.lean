set_option maxHeartbeats 400000 in
set_option maxRecDepth 100000 in
theorem c_Mod_next (l : Launch) (D : kD) (b : Nat) (th : Int32) (fd : Nat) (sl : Bool) (ki fl : Nat → Int32) (va : Nat → Int64) (fo go si te : Nat → Int32) (kp : Nat) (ro : Nat → Int32) (ma : Nat → Int32) (sz : Nat) (en ms lw hw : Nat → Int32) (ls : Nat) (hz : Int32) (pt : Nat) (bd : Bool) (l0 : List Nat) (t : Nat) (w : ww) (n : Nat) (hl : l0.length ≤ 120) (hby : ∀ b ∈ l0, b < 256) (hA : Arr ro l0) (hpt : pt ≤ l0.length) (ht : t = 0 ∨ t = 255) (h : Mo D w b th fd sl ki fl va fo go si te kp ro l0.length ma sz en ms lw hw ls hz pt bd) : AM l D M_Mod_next 0 0 0 [.ref b, .int (nI t)] w n (fun v w' n' => (pt < l0.length ∧ v = some (.int (nI (tnB t (l0.getD pt 0)))) ∧ n' = n ∧ Fr w w' b 14 ∧ Mo D w' b th fd sl ki fl va fo go si te kp ro l0.length ma sz en ms lw hw ls hz (pt + 1) bd) ∨ (pt = l0.length ∧ v = some (.int 0) ∧ n' = n ∧ Fr w w' b 14 ∧ Mo D w' b th fd sl ki fl va fo go si te kp ro l0.length ma sz en ms lw hw ls hz pt true)) := by
  refine AM.ofi (by decide +kernel) rfl (Nat.le_of_ble_eq_true rfl) (fun X A Q hin S RT => ?_)
  have S : FX X (D, A, 2, Q) prog_9_method_29_code "KeyCodecModel" 0 0 0 := S
  have RT : RTi X (D, A, 2, Q) prog_9_method_29_code 0 0 _ := RT
  obtain ⟨h0, h1, h2, h3, h4, h5, h6, h7, h8, h9, h10, h11, h12, h13⟩ := h
  refine a_lve (lv' := [(0, .ref b), (1, .int (nI t))]) rfl ?_
  have fr : Fr w w b 14 := Fr.refl _ _ _
  refine a_aload_n S d_Mod_next_0 rfl rfl ?_
  refine a_get S kc_Mod 21 (by decide) lf_Mod_139 h0 rfl d_Mod_next_1 ?_
  refine a_aload_n S d_Mod_next_4 rfl rfl ?_
  refine a_get S kc_Mod 12 (by decide) lf_Mod_72 h0 rfl d_Mod_next_5 ?_
  refine a_icmp_lt S (tgt := 18) d_Mod_next_8 rfl (fun hlt_ => ?_) (fun hlt_ => ?_)
  · have hp : pt < l0.length := (nI_ltI (by omega) (by omega)).mp hlt_
    have hb8 := getD_lt hby pt
    refine a_aload_n S d_Mod_next_18 rfl rfl ?_
    refine a_dup S d_Mod_next_19 rfl ?_
    refine a_get S kc_Mod 21 (by decide) lf_Mod_139 h0 rfl d_Mod_next_20 ?_
    refine a_iconst S (v := 1) d_Mod_next_23 (by decide) ?_
    refine a_iadd S d_Mod_next_24 ?_
    refine a_eqi (y := nI (pt + 1)) (ni_add rfl rfl) ?_
    refine a_put S kc_Mod kt_Mod 21 (by decide) lf_Mod_139 rfl h0 rfl rfl (Nat.le_of_ble_eq_true rfl) d_Mod_next_25 (fun w1 h0 e2 => ?_)
    have h0 : w1 b = some (.inr (6, [.int th, .int (nI fd), .int (if sl then 1 else 0), .ref (b + 1), .ref (b + 2), .ref (b + 3), .ref (b + 4), .ref (b + 5), .ref (b + 6), .ref (b + 7), .int (nI kp), .ref (b + 8), .int (nI l0.length), .ref (b + 9), .int (nI sz), .ref (b + 10), .ref (b + 11), .ref (b + 12), .ref (b + 13), .int (nI ls), .int hz, .int (nI (pt + 1)), .int (if bd then 1 else 0)])) := h0
    have fr := fr.trans (Fr.sub (Fr.of1 e2) (by omega) (by omega))
    have h1 := Fr.cell (Fr.of1 e2) h1 (by omega)
    have h2 := Fr.cell (Fr.of1 e2) h2 (by omega)
    have h3 := Fr.cell (Fr.of1 e2) h3 (by omega)
    have h4 := Fr.cell (Fr.of1 e2) h4 (by omega)
    have h5 := Fr.cell (Fr.of1 e2) h5 (by omega)
    have h6 := Fr.cell (Fr.of1 e2) h6 (by omega)
    have h7 := Fr.cell (Fr.of1 e2) h7 (by omega)
    have h8 := Fr.cell (Fr.of1 e2) h8 (by omega)
    have h9 := Fr.cell (Fr.of1 e2) h9 (by omega)
    have h10 := Fr.cell (Fr.of1 e2) h10 (by omega)
    have h11 := Fr.cell (Fr.of1 e2) h11 (by omega)
    have h12 := Fr.cell (Fr.of1 e2) h12 (by omega)
    have h13 := Fr.cell (Fr.of1 e2) h13 (by omega)
    refine a_aload_n S d_Mod_next_28 rfl rfl ?_
    refine a_get S kc_Mod 11 (by decide) lf_Mod_33 h0 rfl d_Mod_next_29 ?_
    refine a_aload_n S d_Mod_next_32 rfl rfl ?_
    refine a_get S kc_Mod 21 (by decide) lf_Mod_139 h0 rfl d_Mod_next_33 ?_
    refine a_iconst S (v := 1) d_Mod_next_36 (by decide) ?_
    refine a_isub S d_Mod_next_37 ?_
    refine a_eqi (y := nI pt) (by rw [nI_pred]) ?_
    refine a_iald S (i := pt) h8 rfl (by omega) (by decide) d_Mod_next_38 ?_
    refine a_eqi (hA pt hp) ?_
    refine a_iload_n S d_Mod_next_39 rfl rfl ?_
    refine a_ixor S d_Mod_next_40 ?_
    refine a_eqi (y := nI (tnB t (l0.getD pt 0))) (xor_tn ht hb8) ?_
    exact RT _ _ _ _ _ _ _ d_Mod_next_41 (by omega) (by omega) (Or.inl ⟨hp, rfl, rfl, fr, h0, h1, h2, h3, h4, h5, h6, h7, h8, h9, h10, h11, h12, h13⟩)
  · have hp : pt = l0.length := by have : ¬ pt < l0.length := fun z => hlt_ ((nI_ltI (by omega) (by omega)).mpr z); omega
    refine a_aload_n S d_Mod_next_11 rfl rfl ?_
    refine a_iconst S (v := 1) d_Mod_next_12 (by decide) ?_
    refine a_put S kc_Mod kt_Mod 22 (by decide) lf_Mod_142 rfl h0 rfl rfl (Nat.le_of_ble_eq_true rfl) d_Mod_next_13 (fun w3 h0 e4 => ?_)
    have h0 : w3 b = some (.inr (6, [.int th, .int (nI fd), .int (if sl then 1 else 0), .ref (b + 1), .ref (b + 2), .ref (b + 3), .ref (b + 4), .ref (b + 5), .ref (b + 6), .ref (b + 7), .int (nI kp), .ref (b + 8), .int (nI l0.length), .ref (b + 9), .int (nI sz), .ref (b + 10), .ref (b + 11), .ref (b + 12), .ref (b + 13), .int (nI ls), .int hz, .int (nI pt), .int 1])) := h0
    have fr := fr.trans (Fr.sub (Fr.of1 e4) (by omega) (by omega))
    have h1 := Fr.cell (Fr.of1 e4) h1 (by omega)
    have h2 := Fr.cell (Fr.of1 e4) h2 (by omega)
    have h3 := Fr.cell (Fr.of1 e4) h3 (by omega)
    have h4 := Fr.cell (Fr.of1 e4) h4 (by omega)
    have h5 := Fr.cell (Fr.of1 e4) h5 (by omega)
    have h6 := Fr.cell (Fr.of1 e4) h6 (by omega)
    have h7 := Fr.cell (Fr.of1 e4) h7 (by omega)
    have h8 := Fr.cell (Fr.of1 e4) h8 (by omega)
    have h9 := Fr.cell (Fr.of1 e4) h9 (by omega)
    have h10 := Fr.cell (Fr.of1 e4) h10 (by omega)
    have h11 := Fr.cell (Fr.of1 e4) h11 (by omega)
    have h12 := Fr.cell (Fr.of1 e4) h12 (by omega)
    have h13 := Fr.cell (Fr.of1 e4) h13 (by omega)
    refine a_iconst S (v := 0) d_Mod_next_16 (by decide) ?_
    exact RT _ _ _ _ _ _ _ d_Mod_next_17 (by omega) (by omega) (Or.inr ⟨hp, rfl, rfl, fr, h0, h1, h2, h3, h4, h5, h6, h7, h8, h9, h10, h11, h12, h13⟩)
set_option maxHeartbeats 400000 in
set_option maxRecDepth 100000 in
theorem c_Mod_isTuple (l : Launch) (D : kD) (b : Nat) (th : Int32) (fd : Nat) (sl : Bool) (ki fl : Nat → Int32) (va : Nat → Int64) (fo go si te : Nat → Int32) (kp : Nat) (ro : Nat → Int32) (rs : Nat) (ma : Nat → Int32) (sz : Nat) (en ms lw hw : Nat → Int32) (ls : Nat) (hz : Int32) (pt : Nat) (bd : Bool) (u : Nat) (K : Nat → Nat) (T : Nat → kV) (w : ww) (n : Nat) (hu : u ≤ 13) (hfd : fd ≤ 5) (hki : ∀ i, i < fd → ki i = nI (K i) ∧ K i < 4) (hT : TR va fo go si te u fd T) (h : Mo D w b th fd sl ki fl va fo go si te kp ro rs ma sz en ms lw hw ls hz pt bd) : AM l D M_Mod_isTuple 1 0 0 [.ref b, .int (nI u)] w n (fun v w' n' => ∃ ok : Bool, v = some (.int (if ok then 1 else 0)) ∧ (ok = true ↔ ∀ i, i < fd → (T i).1 = false → ¬ K i = 2 → okN (K i) (T i).2.1 (T i).2.2.1) ∧ w' = w ∧ n' = n) := by
  refine AM.ofz (by decide +kernel) rfl (Nat.le_of_ble_eq_true rfl) (fun X A Q hin S RT => ?_)
  have S : FX X (D, A, 4, Q) prog_9_method_35_code "KeyCodecModel" 1 0 0 := S
  have RT : RTz X (D, A, 4, Q) prog_9_method_35_code 0 0 _ := RT
  obtain ⟨h0, h1, h2, h3, h4, h5, h6, h7, h8, h9, h10, h11, h12, h13⟩ := h
  refine a_lve (lv' := [(0, .ref b), (1, .int (nI u))]) rfl ?_
  have fr : Fr w w b 14 := Fr.refl _ _ _
  refine a_iconst S (v := 0) d_Mod_isTuple_0 (by decide) ?_
  refine a_istore_n S d_Mod_isTuple_1 rfl (Nat.le_of_ble_eq_true rfl) (lv' := [(0, .ref b), (1, .int (nI u)), (2, .int 0)]) rfl ?_
  have loop2 : ∀ (kk2 : Nat) (g : Nat), fd - g = kk2 → (g ≤ fd) → (∀ i, i < g → (T i).1 = false → ¬ K i = 2 → okN (K i) (T i).2.1 (T i).2.2.1) → AW X (D, A, 4, Q) 2 [(0, .ref b), (1, .int (nI u)), (2, .int (nI g))] [] w n 0 0 := by
    intro kk2
    induction kk2 using Nat.strongRecOn with
    | ind kk2 ih2 =>
      intro g hk2 hg hs
      refine a_iload_n S d_Mod_isTuple_2 rfl rfl ?_
      refine a_aload_n S d_Mod_isTuple_3 rfl rfl ?_
      refine a_get S kc_Mod 1 (by decide) lf_Mod_62 h0 rfl d_Mod_isTuple_4 ?_
      refine a_icmp_ge S (tgt := 67) d_Mod_isTuple_7 rfl (fun h7_ => ?_) (fun h7_ => ?_)
      · have hg : g = fd := Nat.le_antisymm hg ((nI_leI (by omega) (by omega)).mp h7_)
        refine a_iconst S (v := 1) d_Mod_isTuple_67 (by decide) ?_
        exact RT _ _ _ _ _ _ _ d_Mod_isTuple_68 rfl (by omega) (by omega) ⟨true, rfl, ⟨fun _ i hi => hs i (by omega), fun _ => rfl⟩, rfl, rfl⟩
      · have hg : g < fd := Nat.not_le.mp fun z => h7_ ((nI_leI (by omega) (by omega)).mpr z)
        have hv := hT g hg
        have hk := hki g hg
        refine a_iconst S (v := 5) d_Mod_isTuple_10 (by decide) ?_
        refine a_iload_n S d_Mod_isTuple_11 rfl rfl ?_
        refine a_imul S d_Mod_isTuple_12 ?_
        refine a_eqi (y := nI (5 * u)) (ni_mul rfl rfl) ?_
        refine a_iload_n S d_Mod_isTuple_13 rfl rfl ?_
        refine a_iadd S d_Mod_isTuple_14 ?_
        refine a_eqi (y := nI (5 * u + g)) (ni_add rfl rfl) ?_
        refine a_istore_n S d_Mod_isTuple_15 rfl (Nat.le_of_ble_eq_true rfl) (lv' := [(0, .ref b), (1, .int (nI u)), (2, .int (nI g)), (3, .int (nI (5 * u + g)))]) rfl ?_
        refine a_aload_n S d_Mod_isTuple_16 rfl rfl ?_
        refine a_get S kc_Mod 7 (by decide) lf_Mod_23 h0 rfl d_Mod_isTuple_17 ?_
        refine a_iload_n S d_Mod_isTuple_20 rfl rfl ?_
        refine a_zald S (i := 5 * u + g) h5 rfl (by omega) (by decide) d_Mod_isTuple_21 ?_
        refine a_eqi hv.2.2.1 ?_
        refine a_if_ne S (tgt := 61) d_Mod_isTuple_22 rfl (fun h22 => ?_) (fun h22 => ?_)
        · have hm : (T g).1 = true := bo_1 h22
          refine a_iinc S (v := nI (g + 1)) d_Mod_isTuple_61 rfl (ni_add rfl (by decide)) (Nat.le_of_ble_eq_true rfl) (lv' := [(0, .ref b), (1, .int (nI u)), (2, .int (nI (g + 1))), (3, .int (nI (5 * u + g)))]) rfl ?_
          refine a_goto S (tgt := 2) d_Mod_isTuple_64 rfl ?_
          refine a_lv [0, 1, 2] (lv' := [(0, .ref b), (1, .int (nI u)), (2, .int (nI (g + 1)))]) rfl ?_
          exact ih2 _ (by omega) (g + 1) rfl (by omega) (fun i hi => by
          by_cases e : i = g
          · subst e; exact (fun q => by rw [hm] at q; cases q)
          · exact hs i (by omega))
        · have hm : (T g).1 = false := bo_0 h22
          refine a_aload_n S d_Mod_isTuple_25 rfl rfl ?_
          refine a_get S kc_Mod 3 (by decide) lf_Mod_7 h0 rfl d_Mod_isTuple_26 ?_
          refine a_iload_n S d_Mod_isTuple_29 rfl rfl ?_
          refine a_iald S (i := g) h1 rfl (by omega) (by decide) d_Mod_isTuple_30 ?_
          refine a_eqi hk.1 ?_
          refine a_iconst S (v := 2) d_Mod_isTuple_31 (by decide) ?_
          refine a_icmp_eq S (tgt := 61) d_Mod_isTuple_32 rfl (fun h32 => ?_) (fun h32 => ?_)
          · have hk2 : K g = 2 := (nI_eq (by omega) (by decide)).mp h32
            refine a_iinc S (v := nI (g + 1)) d_Mod_isTuple_61 rfl (ni_add rfl (by decide)) (Nat.le_of_ble_eq_true rfl) (lv' := [(0, .ref b), (1, .int (nI u)), (2, .int (nI (g + 1))), (3, .int (nI (5 * u + g)))]) rfl ?_
            refine a_goto S (tgt := 2) d_Mod_isTuple_64 rfl ?_
            refine a_lv [0, 1, 2] (lv' := [(0, .ref b), (1, .int (nI u)), (2, .int (nI (g + 1)))]) rfl ?_
            exact ih2 _ (by omega) (g + 1) rfl (by omega) (fun i hi => by
          by_cases e : i = g
          · subst e; exact (fun _ q => absurd hk2 q)
          · exact hs i (by omega))
          · have hk2 : ¬ K g = 2 := fun z => h32 (by rw [z]; rfl)
            refine a_aload_n S d_Mod_isTuple_35 rfl rfl ?_
            refine a_get S kc_Mod 3 (by decide) lf_Mod_7 h0 rfl d_Mod_isTuple_36 ?_
            refine a_iload_n S d_Mod_isTuple_39 rfl rfl ?_
            refine a_iald S (i := g) h1 rfl (by omega) (by decide) d_Mod_isTuple_40 ?_
            refine a_eqi hk.1 ?_
            refine a_aload_n S d_Mod_isTuple_41 rfl rfl ?_
            refine a_get S kc_Mod 5 (by decide) lf_Mod_16 h0 rfl d_Mod_isTuple_42 ?_
            refine a_iload_n S d_Mod_isTuple_45 rfl rfl ?_
            refine a_lald S (i := 5 * u + g) h3 rfl (by omega) (by decide) d_Mod_isTuple_46 ?_
            refine a_eql hv.1 ?_
            refine a_aload_n S d_Mod_isTuple_47 rfl rfl ?_
            refine a_get S kc_Mod 6 (by decide) lf_Mod_20 h0 rfl d_Mod_isTuple_48 ?_
            refine a_iload_n S d_Mod_isTuple_51 rfl rfl ?_
            refine a_iald S (i := 5 * u + g) h4 rfl (by omega) (by decide) d_Mod_isTuple_52 ?_
            refine a_eqi hv.2.1 ?_
            refine a_callS S (rest := []) lg_Mod_87 (c_Mod_isValue X.2.1 D (K g) ((T g).2.1) ((T g).2.2.1) w n hk.2) (by decide) (by omega) (by omega) rfl (Nat.le_of_ble_eq_true rfl) d_Mod_isTuple_53 (fun v1 w2 n3 p4 => ?_)
            obtain ⟨ab, rfl, hab, e5, e6⟩ := p4
            rw [e5, e6]
            refine a_st (st' := [.int (if ab then 1 else 0)]) rfl ?_
            refine a_if_ne S (tgt := 61) d_Mod_isTuple_56 rfl (fun h56 => ?_) (fun h56 => ?_)
            · have hok := hab.mp (bo_1 h56)
              refine a_iinc S (v := nI (g + 1)) d_Mod_isTuple_61 rfl (ni_add rfl (by decide)) (Nat.le_of_ble_eq_true rfl) (lv' := [(0, .ref b), (1, .int (nI u)), (2, .int (nI (g + 1))), (3, .int (nI (5 * u + g)))]) rfl ?_
              refine a_goto S (tgt := 2) d_Mod_isTuple_64 rfl ?_
              refine a_lv [0, 1, 2] (lv' := [(0, .ref b), (1, .int (nI u)), (2, .int (nI (g + 1)))]) rfl ?_
              exact ih2 _ (by omega) (g + 1) rfl (by omega) (fun i hi => by
          by_cases e : i = g
          · subst e; exact (fun _ _ => hok)
          · exact hs i (by omega))
            · have hno : ¬ okN (K g) (T g).2.1 (T g).2.2.1 := fun z => by have := hab.mpr z; rw [bo_0 h56] at this; cases this
              refine a_iconst S (v := 0) d_Mod_isTuple_59 (by decide) ?_
              exact RT _ _ _ _ _ _ _ d_Mod_isTuple_60 rfl (by omega) (by omega) ⟨false, rfl, ⟨fun z => (by cases z), fun z => absurd (z g hg hm hk2) hno⟩, rfl, rfl⟩
  exact loop2 _ 0 rfl (Nat.zero_le _) (fun i hi => absurd hi (Nat.not_lt_zero i))
