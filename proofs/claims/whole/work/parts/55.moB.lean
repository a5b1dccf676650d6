set_option maxHeartbeats 400000 in
set_option maxRecDepth 100000 in
theorem c_Mod_next (l : Launch) (D : kD) (b : Nat) (th : Int32) (fd : Nat) (sl : Bool) (ki fl : Nat → Int32) (va : Nat → Int64) (fo go si te : Nat → Int32) (kp : Nat) (ro : Nat → Int32) (ma : Nat → Int32) (sz : Nat) (en ms lw hw : Nat → Int32) (ls : Nat) (hz : Int32) (pt : Nat) (bd : Bool) (l0 : List Nat) (t : Nat) (w : ww) (n : Nat) (hl : l0.length ≤ 120) (hby : ∀ b ∈ l0, b < 256) (hA : Arr ro l0) (hpt : pt ≤ l0.length) (ht : t = 0 ∨ t = 255) (h : Mo D w b th fd sl ki fl va fo go si te kp ro l0.length ma sz en ms lw hw ls hz pt bd) : AM l D M_Mod_next 0 0 0 [.ref b, .int (nI t)] w n (fun v w' n' => (pt < l0.length ∧ v = some (.int (nI (tnB t (l0.getD pt 0)))) ∧ n' = n ∧ Fr w w' b 14 ∧ Mo D w' b th fd sl ki fl va fo go si te kp ro l0.length ma sz en ms lw hw ls hz (pt + 1) bd) ∨ (pt = l0.length ∧ v = some (.int 0) ∧ n' = n ∧ Fr w w' b 14 ∧ Mo D w' b th fd sl ki fl va fo go si te kp ro l0.length ma sz en ms lw hw ls hz pt true)) := by
  refine AM.ofi (by decide +kernel) rfl (Nat.le_of_ble_eq_true rfl) (fun X A Q hin S RT => ?_)
  have S : FX X (D, A, 2, Q) prog_9_method_29_code "KeyCodecModel" 0 0 0 := S
  have RT : RTi X (D, A, 2, Q) prog_9_method_29_code 0 0 _ := RT
  obtain ⟨h0, h1, h2, h3, h4, h5, h6, h7, h8, h9, h10, h11, h12, h13⟩ := h
  refine a_lve (lv' := [(0, .ref b), (1, .int (nI t))]) rfl ?_
  have fr : Fr w w b 14 := Fr.refl _ _ _
  refine a_aload_n S d_Mod_next_0 rfl rfl ?_
  refine a_get S kc_Mod 21 (by decide) lf_Mod_139 h0 rfl d_Mod_next_1 ?_
  refine a_aload_n S d_Mod_next_4 rfl rfl ?_
  refine a_get S kc_Mod 12 (by decide) lf_Mod_72 h0 rfl d_Mod_next_5 ?_
  refine a_icmp_lt S (tgt := 18) d_Mod_next_8 rfl (fun hlt_ => ?_) (fun hlt_ => ?_)
  · have hp : pt < l0.length := (nI_ltI (by omega) (by omega)).mp hlt_
    have hb8 := getD_lt hby pt
    refine a_aload_n S d_Mod_next_18 rfl rfl ?_
    refine a_dup S d_Mod_next_19 rfl ?_
    refine a_get S kc_Mod 21 (by decide) lf_Mod_139 h0 rfl d_Mod_next_20 ?_
    refine a_iconst S (v := 1) d_Mod_next_23 (by decide) ?_
    refine a_iadd S d_Mod_next_24 ?_
    refine a_eqi (y := nI (pt + 1)) (ni_add rfl rfl) ?_
    refine a_put S kc_Mod kt_Mod 21 (by decide) lf_Mod_139 rfl h0 rfl rfl (Nat.le_of_ble_eq_true rfl) d_Mod_next_25 (fun w1 h0 e2 => ?_)
    have h0 : w1 b = some (.inr (6, [.int th, .int (nI fd), .int (if sl then 1 else 0), .ref (b + 1), .ref (b + 2), .ref (b + 3), .ref (b + 4), .ref (b + 5), .ref (b + 6), .ref (b + 7), .int (nI kp), .ref (b + 8), .int (nI l0.length), .ref (b + 9), .int (nI sz), .ref (b + 10), .ref (b + 11), .ref (b + 12), .ref (b + 13), .int (nI ls), .int hz, .int (nI (pt + 1)), .int (if bd then 1 else 0)])) := h0
    have fr := fr.trans (Fr.sub (Fr.of1 e2) (by omega) (by omega))
    have h1 := Fr.cell (Fr.of1 e2) h1 (by omega)
    have h2 := Fr.cell (Fr.of1 e2) h2 (by omega)
    have h3 := Fr.cell (Fr.of1 e2) h3 (by omega)
    have h4 := Fr.cell (Fr.of1 e2) h4 (by omega)
    have h5 := Fr.cell (Fr.of1 e2) h5 (by omega)
    have h6 := Fr.cell (Fr.of1 e2) h6 (by omega)
    have h7 := Fr.cell (Fr.of1 e2) h7 (by omega)
    have h8 := Fr.cell (Fr.of1 e2) h8 (by omega)
    have h9 := Fr.cell (Fr.of1 e2) h9 (by omega)
    have h10 := Fr.cell (Fr.of1 e2) h10 (by omega)
    have h11 := Fr.cell (Fr.of1 e2) h11 (by omega)
    have h12 := Fr.cell (Fr.of1 e2) h12 (by omega)
    have h13 := Fr.cell (Fr.of1 e2) h13 (by omega)
    refine a_aload_n S d_Mod_next_28 rfl rfl ?_
    refine a_get S kc_Mod 11 (by decide) lf_Mod_33 h0 rfl d_Mod_next_29 ?_
    refine a_aload_n S d_Mod_next_32 rfl rfl ?_
    refine a_get S kc_Mod 21 (by decide) lf_Mod_139 h0 rfl d_Mod_next_33 ?_
    refine a_iconst S (v := 1) d_Mod_next_36 (by decide) ?_
    refine a_isub S d_Mod_next_37 ?_
    refine a_eqi (y := nI pt) (by rw [nI_pred]) ?_
    refine a_iald S (i := pt) h8 rfl (by omega) (by decide) d_Mod_next_38 ?_
    refine a_eqi (hA pt hp) ?_
    refine a_iload_n S d_Mod_next_39 rfl rfl ?_
    refine a_ixor S d_Mod_next_40 ?_
    refine a_eqi (y := nI (tnB t (l0.getD pt 0))) (xor_tn ht hb8) ?_
    exact RT _ _ _ _ _ _ _ d_Mod_next_41 (by omega) (by omega) (Or.inl ⟨hp, rfl, rfl, fr, h0, h1, h2, h3, h4, h5, h6, h7, h8, h9, h10, h11, h12, h13⟩)
  · have hp : pt = l0.length := by have : ¬ pt < l0.length := fun z => hlt_ ((nI_ltI (by omega) (by omega)).mpr z); omega
    refine a_aload_n S d_Mod_next_11 rfl rfl ?_
    refine a_iconst S (v := 1) d_Mod_next_12 (by decide) ?_
    refine a_put S kc_Mod kt_Mod 22 (by decide) lf_Mod_142 rfl h0 rfl rfl (Nat.le_of_ble_eq_true rfl) d_Mod_next_13 (fun w3 h0 e4 => ?_)
    have h0 : w3 b = some (.inr (6, [.int th, .int (nI fd), .int (if sl then 1 else 0), .ref (b + 1), .ref (b + 2), .ref (b + 3), .ref (b + 4), .ref (b + 5), .ref (b + 6), .ref (b + 7), .int (nI kp), .ref (b + 8), .int (nI l0.length), .ref (b + 9), .int (nI sz), .ref (b + 10), .ref (b + 11), .ref (b + 12), .ref (b + 13), .int (nI ls), .int hz, .int (nI pt), .int 1])) := h0
    have fr := fr.trans (Fr.sub (Fr.of1 e4) (by omega) (by omega))
    have h1 := Fr.cell (Fr.of1 e4) h1 (by omega)
    have h2 := Fr.cell (Fr.of1 e4) h2 (by omega)
    have h3 := Fr.cell (Fr.of1 e4) h3 (by omega)
    have h4 := Fr.cell (Fr.of1 e4) h4 (by omega)
    have h5 := Fr.cell (Fr.of1 e4) h5 (by omega)
    have h6 := Fr.cell (Fr.of1 e4) h6 (by omega)
    have h7 := Fr.cell (Fr.of1 e4) h7 (by omega)
    have h8 := Fr.cell (Fr.of1 e4) h8 (by omega)
    have h9 := Fr.cell (Fr.of1 e4) h9 (by omega)
    have h10 := Fr.cell (Fr.of1 e4) h10 (by omega)
    have h11 := Fr.cell (Fr.of1 e4) h11 (by omega)
    have h12 := Fr.cell (Fr.of1 e4) h12 (by omega)
    have h13 := Fr.cell (Fr.of1 e4) h13 (by omega)
    refine a_iconst S (v := 0) d_Mod_next_16 (by decide) ?_
    exact RT _ _ _ _ _ _ _ d_Mod_next_17 (by omega) (by omega) (Or.inr ⟨hp, rfl, rfl, fr, h0, h1, h2, h3, h4, h5, h6, h7, h8, h9, h10, h11, h12, h13⟩)
