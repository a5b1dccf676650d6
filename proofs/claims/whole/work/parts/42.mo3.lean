set_option maxHeartbeats 400000 in
set_option maxRecDepth 100000 in
theorem c_Mod_order (l : Launch) (D : kD) (x y : Int64) (w : ww) (n : Nat)  : AM l D M_Mod_order 0 0 0 [.long x, .long y] w n (fun v w' n' => v = some (.int (Int32.ofInt (ordI x.toInt y.toInt))) ∧ w' = w ∧ n' = n) := by
  refine AM.ofi (by decide +kernel) rfl (Nat.le_of_ble_eq_true rfl) (fun X A Q hin S RT => ?_)
  have S : FX X (D, A, 4, Q) prog_9_method_42_code "KeyCodecModel" 0 0 0 := S
  have RT : RTi X (D, A, 4, Q) prog_9_method_42_code 0 0 _ := RT
  refine a_lve (lv' := [(0, .long x), (2, .long y)]) rfl ?_
  refine a_lload_n S d_Mod_order_0 rfl rfl ?_
  refine a_lload_n S d_Mod_order_1 rfl rfl ?_
  refine a_lcmp S d_Mod_order_2 ?_
  refine a_if_ge S (tgt := 10) d_Mod_order_3 rfl (fun h3 => ?_) (fun h3 => ?_)
  · have hA : 0 ≤ lg_cmp x y := h3
    refine a_lload_n S d_Mod_order_10 rfl rfl ?_
    refine a_lload_n S d_Mod_order_11 rfl rfl ?_
    refine a_lcmp S d_Mod_order_12 ?_
    refine a_if_le S (tgt := 20) d_Mod_order_13 rfl (fun h13 => ?_) (fun h13 => ?_)
    · have hB := lg_tri2 hA h13
      refine a_iconst S (v := 0) d_Mod_order_20 (by decide) ?_
      exact RT _ _ _ _ _ _ _ d_Mod_order_21 (by omega) (by omega) ⟨by rw [ord32.2.2 hB]; rfl, rfl, rfl⟩
    · have hB : 0 < lg_cmp x y := k2_lt h13
      refine a_iconst S (v := 1) d_Mod_order_16 (by decide) ?_
      refine a_goto S (tgt := 21) d_Mod_order_17 rfl ?_
      exact RT _ _ _ _ _ _ _ d_Mod_order_21 (by omega) (by omega) ⟨by rw [ord32.2.1 hB]; rfl, rfl, rfl⟩
  · have hA : lg_cmp x y < 0 := k2_lt h3
    refine a_iconst S (v := (-1)) d_Mod_order_6 (by decide) ?_
    refine a_goto S (tgt := 21) d_Mod_order_7 rfl ?_
    exact RT _ _ _ _ _ _ _ d_Mod_order_21 (by omega) (by omega) ⟨by rw [ord32.1 hA]; rfl, rfl, rfl⟩
set_option maxHeartbeats 400000 in
set_option maxRecDepth 100000 in
theorem c_Mod_orderTexts (l : Launch) (D : kD) (b : Nat) (th : Int32) (fd : Nat) (sl : Bool) (ki fl : Nat → Int32) (va : Nat → Int64) (fo go si te : Nat → Int32) (kp : Nat) (ro : Nat → Int32) (rs : Nat) (ma : Nat → Int32) (sz : Nat) (en ms lw hw : Nat → Int32) (ls : Nat) (hz : Int32) (pt : Nat) (bd : Bool) (p q : Nat) (x y : List Nat) (w : ww) (n : Nat) (hx : ∀ b ∈ x, b < 256) (hy : ∀ b ∈ y, b < 256) (hp : p < 70) (hq : q < 70) (hx10 : x.length ≤ 10) (hy10 : y.length ≤ 10) (hsx : si p = nI x.length) (hsy : si q = nI y.length) (htx : ∀ i, i < x.length → te (10 * p + i) = nI (x.getD i 0)) (hty : ∀ i, i < y.length → te (10 * q + i) = nI (y.getD i 0)) (h : Mo D w b th fd sl ki fl va fo go si te kp ro rs ma sz en ms lw hw ls hz pt bd) : AM l D M_Mod_orderTexts 1 0 0 [.ref b, .int (nI p), .int (nI q)] w n (fun v w' n' => v = some (.int (Int32.ofInt (cmpB x y))) ∧ w' = w ∧ n' = n) := by
  refine AM.ofi (by decide +kernel) rfl (Nat.le_of_ble_eq_true rfl) (fun X A Q hin S RT => ?_)
  have S : FX X (D, A, 4, Q) prog_9_method_45_code "KeyCodecModel" 1 0 0 := S
  have RT : RTi X (D, A, 4, Q) prog_9_method_45_code 0 0 _ := RT
  obtain ⟨h0, h1, h2, h3, h4, h5, h6, h7, h8, h9, h10, h11, h12, h13⟩ := h
  refine a_lve (lv' := [(0, .ref b), (1, .int (nI p)), (2, .int (nI q))]) rfl ?_
  have fr : Fr w w b 14 := Fr.refl _ _ _
  refine a_iconst S (v := 0) d_Mod_orderTexts_0 (by decide) ?_
  refine a_istore_n S d_Mod_orderTexts_1 rfl (Nat.le_of_ble_eq_true rfl) (lv' := [(0, .ref b), (1, .int (nI p)), (2, .int (nI q)), (3, .int 0)]) rfl ?_
  have loop2 : ∀ (kk2 : Nat) (i : Nat), x.length - i = kk2 → (i ≤ x.length) → (i ≤ y.length) → (cmpB x y = cmpB (x.drop i) (y.drop i)) → AW X (D, A, 4, Q) 2 [(0, .ref b), (1, .int (nI p)), (2, .int (nI q)), (3, .int (nI i))] [] w n 0 0 := by
    intro kk2
    induction kk2 using Nat.strongRecOn with
    | ind kk2 ih2 =>
      intro i hk2 hi hi2 hs
      refine a_iload_n S d_Mod_orderTexts_2 rfl rfl ?_
      refine a_aload_n S d_Mod_orderTexts_3 rfl rfl ?_
      refine a_get S kc_Mod 8 (by decide) lf_Mod_27 h0 rfl d_Mod_orderTexts_4 ?_
      refine a_iload_n S d_Mod_orderTexts_7 rfl rfl ?_
      refine a_iald S (i := p) h6 rfl (by omega) (by decide) d_Mod_orderTexts_8 ?_
      refine a_eqi hsx ?_
      refine a_icmp_ge S (tgt := 81) d_Mod_orderTexts_9 rfl (fun ha_ => ?_) (fun ha_ => ?_)
      · have hE : x.length ≤ i ∨ y.length ≤ i := Or.inl ((nI_leI (by omega) (by omega)).mp ha_)
        refine a_aload_n S d_Mod_orderTexts_81 rfl rfl ?_
        refine a_get S kc_Mod 8 (by decide) lf_Mod_27 h0 rfl d_Mod_orderTexts_82 ?_
        refine a_iload_n S d_Mod_orderTexts_85 rfl rfl ?_
        refine a_iald S (i := p) h6 rfl (by omega) (by decide) d_Mod_orderTexts_86 ?_
        refine a_eqi hsx ?_
        refine a_i2l S d_Mod_orderTexts_87 ?_
        refine a_aload_n S d_Mod_orderTexts_88 rfl rfl ?_
        refine a_get S kc_Mod 8 (by decide) lf_Mod_27 h0 rfl d_Mod_orderTexts_89 ?_
        refine a_iload_n S d_Mod_orderTexts_92 rfl rfl ?_
        refine a_iald S (i := q) h6 rfl (by omega) (by decide) d_Mod_orderTexts_93 ?_
        refine a_eqi hsy ?_
        refine a_i2l S d_Mod_orderTexts_94 ?_
        refine a_callS S (rest := []) lg_Mod_184 (c_Mod_order X.2.1 D ((nI x.length).toInt64) ((nI y.length).toInt64) w n) (by decide) (by omega) (by omega) rfl (Nat.le_of_ble_eq_true rfl) d_Mod_orderTexts_95 (fun v1 w2 n3 p4 => ?_)
        obtain ⟨rfl, e5, e6⟩ := p4
        rw [e5, e6]
        refine a_st (st' := [.int (Int32.ofInt (ordI ((nI x.length).toInt64).toInt ((nI y.length).toInt64).toInt))]) rfl ?_
        exact RT _ _ _ _ _ _ _ d_Mod_orderTexts_98 (by omega) (by omega) ⟨by rw [od_e (by omega) (by omega) hi hi2 hE hs], rfl, rfl⟩
      · have h1_ : i < x.length := Nat.not_le.mp fun z => ha_ ((nI_leI (by omega) (by omega)).mpr z)
        refine a_iload_n S d_Mod_orderTexts_12 rfl rfl ?_
        refine a_aload_n S d_Mod_orderTexts_13 rfl rfl ?_
        refine a_get S kc_Mod 8 (by decide) lf_Mod_27 h0 rfl d_Mod_orderTexts_14 ?_
        refine a_iload_n S d_Mod_orderTexts_17 rfl rfl ?_
        refine a_iald S (i := q) h6 rfl (by omega) (by decide) d_Mod_orderTexts_18 ?_
        refine a_eqi hsy ?_
        refine a_icmp_ge S (tgt := 81) d_Mod_orderTexts_19 rfl (fun hb_ => ?_) (fun hb_ => ?_)
        · have hE : x.length ≤ i ∨ y.length ≤ i := Or.inr ((nI_leI (by omega) (by omega)).mp hb_)
          refine a_aload_n S d_Mod_orderTexts_81 rfl rfl ?_
          refine a_get S kc_Mod 8 (by decide) lf_Mod_27 h0 rfl d_Mod_orderTexts_82 ?_
          refine a_iload_n S d_Mod_orderTexts_85 rfl rfl ?_
          refine a_iald S (i := p) h6 rfl (by omega) (by decide) d_Mod_orderTexts_86 ?_
          refine a_eqi hsx ?_
          refine a_i2l S d_Mod_orderTexts_87 ?_
          refine a_aload_n S d_Mod_orderTexts_88 rfl rfl ?_
          refine a_get S kc_Mod 8 (by decide) lf_Mod_27 h0 rfl d_Mod_orderTexts_89 ?_
          refine a_iload_n S d_Mod_orderTexts_92 rfl rfl ?_
          refine a_iald S (i := q) h6 rfl (by omega) (by decide) d_Mod_orderTexts_93 ?_
          refine a_eqi hsy ?_
          refine a_i2l S d_Mod_orderTexts_94 ?_
          refine a_callS S (rest := []) lg_Mod_184 (c_Mod_order X.2.1 D ((nI x.length).toInt64) ((nI y.length).toInt64) w n) (by decide) (by omega) (by omega) rfl (Nat.le_of_ble_eq_true rfl) d_Mod_orderTexts_95 (fun v7 w8 n9 p10 => ?_)
          obtain ⟨rfl, e11, e12⟩ := p10
          rw [e11, e12]
          refine a_st (st' := [.int (Int32.ofInt (ordI ((nI x.length).toInt64).toInt ((nI y.length).toInt64).toInt))]) rfl ?_
          exact RT _ _ _ _ _ _ _ d_Mod_orderTexts_98 (by omega) (by omega) ⟨by rw [od_e (by omega) (by omega) hi hi2 hE hs], rfl, rfl⟩
        · have h2_ : i < y.length := Nat.not_le.mp fun z => hb_ ((nI_leI (by omega) (by omega)).mpr z)
          have hbx := getD_lt hx i
          have hby := getD_lt hy i
          refine a_aload_n S d_Mod_orderTexts_22 rfl rfl ?_
          refine a_get S kc_Mod 9 (by decide) lf_Mod_30 h0 rfl d_Mod_orderTexts_23 ?_
          refine a_bipush S (v := 10) d_Mod_orderTexts_26 (by decide) ?_
          refine a_iload_n S d_Mod_orderTexts_28 rfl rfl ?_
          refine a_imul S d_Mod_orderTexts_29 ?_
          refine a_eqi (y := nI (10 * p)) (ni_mul rfl rfl) ?_
          refine a_iload_n S d_Mod_orderTexts_30 rfl rfl ?_
          refine a_iadd S d_Mod_orderTexts_31 ?_
          refine a_eqi (y := nI (10 * p + i)) (ni_add rfl rfl) ?_
          refine a_iald S (i := 10 * p + i) h7 rfl (by omega) (by decide) d_Mod_orderTexts_32 ?_
          refine a_eqi (htx i h1_) ?_
          refine a_aload_n S d_Mod_orderTexts_33 rfl rfl ?_
          refine a_get S kc_Mod 9 (by decide) lf_Mod_30 h0 rfl d_Mod_orderTexts_34 ?_
          refine a_bipush S (v := 10) d_Mod_orderTexts_37 (by decide) ?_
          refine a_iload_n S d_Mod_orderTexts_39 rfl rfl ?_
          refine a_imul S d_Mod_orderTexts_40 ?_
          refine a_eqi (y := nI (10 * q)) (ni_mul rfl rfl) ?_
          refine a_iload_n S d_Mod_orderTexts_41 rfl rfl ?_
          refine a_iadd S d_Mod_orderTexts_42 ?_
          refine a_eqi (y := nI (10 * q + i)) (ni_add rfl rfl) ?_
          refine a_iald S (i := 10 * q + i) h7 rfl (by omega) (by decide) d_Mod_orderTexts_43 ?_
          refine a_eqi (hty i h2_) ?_
          refine a_icmp_eq S (tgt := 75) d_Mod_orderTexts_44 rfl (fun hq_ => ?_) (fun hq_ => ?_)
          · have he_ : x.getD i 0 = y.getD i 0 := (nI_eq (by omega) (by omega)).mp hq_
            refine a_iinc S (v := nI (i + 1)) d_Mod_orderTexts_75 rfl (ni_add rfl (by decide)) (Nat.le_of_ble_eq_true rfl) (lv' := [(0, .ref b), (1, .int (nI p)), (2, .int (nI q)), (3, .int (nI (i + 1)))]) rfl ?_
            refine a_goto S (tgt := 2) d_Mod_orderTexts_78 rfl ?_
            exact ih2 _ (by omega) (i + 1) rfl (by omega) (by omega) (by rw [hs, cm_s h1_ h2_ he_])
          · have he_ : ¬ x.getD i 0 = y.getD i 0 := fun z => hq_ (by rw [z])
            refine a_aload_n S d_Mod_orderTexts_47 rfl rfl ?_
            refine a_get S kc_Mod 9 (by decide) lf_Mod_30 h0 rfl d_Mod_orderTexts_48 ?_
            refine a_bipush S (v := 10) d_Mod_orderTexts_51 (by decide) ?_
            refine a_iload_n S d_Mod_orderTexts_53 rfl rfl ?_
            refine a_imul S d_Mod_orderTexts_54 ?_
            refine a_eqi (y := nI (10 * p)) (ni_mul rfl rfl) ?_
            refine a_iload_n S d_Mod_orderTexts_55 rfl rfl ?_
            refine a_iadd S d_Mod_orderTexts_56 ?_
            refine a_eqi (y := nI (10 * p + i)) (ni_add rfl rfl) ?_
            refine a_iald S (i := 10 * p + i) h7 rfl (by omega) (by decide) d_Mod_orderTexts_57 ?_
            refine a_eqi (htx i h1_) ?_
            refine a_i2l S d_Mod_orderTexts_58 ?_
            refine a_aload_n S d_Mod_orderTexts_59 rfl rfl ?_
            refine a_get S kc_Mod 9 (by decide) lf_Mod_30 h0 rfl d_Mod_orderTexts_60 ?_
            refine a_bipush S (v := 10) d_Mod_orderTexts_63 (by decide) ?_
            refine a_iload_n S d_Mod_orderTexts_65 rfl rfl ?_
            refine a_imul S d_Mod_orderTexts_66 ?_
            refine a_eqi (y := nI (10 * q)) (ni_mul rfl rfl) ?_
            refine a_iload_n S d_Mod_orderTexts_67 rfl rfl ?_
            refine a_iadd S d_Mod_orderTexts_68 ?_
            refine a_eqi (y := nI (10 * q + i)) (ni_add rfl rfl) ?_
            refine a_iald S (i := 10 * q + i) h7 rfl (by omega) (by decide) d_Mod_orderTexts_69 ?_
            refine a_eqi (hty i h2_) ?_
            refine a_i2l S d_Mod_orderTexts_70 ?_
            refine a_callS S (rest := []) lg_Mod_184 (c_Mod_order X.2.1 D ((nI (x.getD i 0)).toInt64) ((nI (y.getD i 0)).toInt64) w n) (by decide) (by omega) (by omega) rfl (Nat.le_of_ble_eq_true rfl) d_Mod_orderTexts_71 (fun v13 w14 n15 p16 => ?_)
            obtain ⟨rfl, e17, e18⟩ := p16
            rw [e17, e18]
            refine a_st (st' := [.int (Int32.ofInt (ordI ((nI (x.getD i 0)).toInt64).toInt ((nI (y.getD i 0)).toInt64).toInt))]) rfl ?_
            exact RT _ _ _ _ _ _ _ d_Mod_orderTexts_74 (by omega) (by omega) ⟨by rw [od_n hx hy h1_ h2_ he_ hs], rfl, rfl⟩
  exact loop2 _ 0 rfl (Nat.zero_le _) (Nat.zero_le _) rfl
set_option maxHeartbeats 400000 in
set_option maxRecDepth 100000 in
theorem c_Mod_orderMade (l : Launch) (D : kD) (b : Nat) (th : Int32) (fd : Nat) (sl : Bool) (ki fl : Nat → Int32) (va : Nat → Int64) (fo go si te : Nat → Int32) (kp : Nat) (ro : Nat → Int32) (rs : Nat) (ma : Nat → Int32) (sz : Nat) (en ms lw hw : Nat → Int32) (ls : Nat) (hz : Int32) (pt : Nat) (bd : Bool) (x y : List Nat) (w : ww) (n : Nat) (hx : ∀ b ∈ x, b < 256) (hy : ∀ b ∈ y, b < 256) (hx2 : x.length ≤ 200) (hy2 : y.length ≤ 200) (hsx : ms 0 = nI x.length) (hsy : ms 1 = nI y.length) (htx : ∀ i, i < x.length → ma i = nI (x.getD i 0)) (hty : ∀ i, i < y.length → ma (200 + i) = nI (y.getD i 0)) (h : Mo D w b th fd sl ki fl va fo go si te kp ro rs ma sz en ms lw hw ls hz pt bd) : AM l D M_Mod_orderMade 1 0 0 [.ref b] w n (fun v w' n' => v = some (.int (Int32.ofInt (cmpB x y))) ∧ w' = w ∧ n' = n) := by
  refine AM.ofi (by decide +kernel) rfl (Nat.le_of_ble_eq_true rfl) (fun X A Q hin S RT => ?_)
  have S : FX X (D, A, 2, Q) prog_9_method_48_code "KeyCodecModel" 1 0 0 := S
  have RT : RTi X (D, A, 2, Q) prog_9_method_48_code 0 0 _ := RT
  obtain ⟨h0, h1, h2, h3, h4, h5, h6, h7, h8, h9, h10, h11, h12, h13⟩ := h
  refine a_lve (lv' := [(0, .ref b)]) rfl ?_
  have fr : Fr w w b 14 := Fr.refl _ _ _
  refine a_iconst S (v := 0) d_Mod_orderMade_0 (by decide) ?_
  refine a_istore_n S d_Mod_orderMade_1 rfl (Nat.le_of_ble_eq_true rfl) (lv' := [(0, .ref b), (1, .int 0)]) rfl ?_
  have loop2 : ∀ (kk2 : Nat) (i : Nat), x.length - i = kk2 → (i ≤ x.length) → (i ≤ y.length) → (cmpB x y = cmpB (x.drop i) (y.drop i)) → AW X (D, A, 2, Q) 2 [(0, .ref b), (1, .int (nI i))] [] w n 0 0 := by
    intro kk2
    induction kk2 using Nat.strongRecOn with
    | ind kk2 ih2 =>
      intro i hk2 hi hi2 hs
      refine a_iload_n S d_Mod_orderMade_2 rfl rfl ?_
      refine a_aload_n S d_Mod_orderMade_3 rfl rfl ?_
      refine a_get S kc_Mod 16 (by decide) lf_Mod_42 h0 rfl d_Mod_orderMade_4 ?_
      refine a_iconst S (v := 0) d_Mod_orderMade_7 (by decide) ?_
      refine a_iald S (i := 0) h11 rfl (by omega) (by decide) d_Mod_orderMade_8 ?_
      refine a_eqi hsx ?_
      refine a_icmp_ge S (tgt := 69) d_Mod_orderMade_9 rfl (fun ha_ => ?_) (fun ha_ => ?_)
      · have hE : x.length ≤ i ∨ y.length ≤ i := Or.inl ((nI_leI (by omega) (by omega)).mp ha_)
        refine a_aload_n S d_Mod_orderMade_69 rfl rfl ?_
        refine a_get S kc_Mod 16 (by decide) lf_Mod_42 h0 rfl d_Mod_orderMade_70 ?_
        refine a_iconst S (v := 0) d_Mod_orderMade_73 (by decide) ?_
        refine a_iald S (i := 0) h11 rfl (by omega) (by decide) d_Mod_orderMade_74 ?_
        refine a_eqi hsx ?_
        refine a_i2l S d_Mod_orderMade_75 ?_
        refine a_aload_n S d_Mod_orderMade_76 rfl rfl ?_
        refine a_get S kc_Mod 16 (by decide) lf_Mod_42 h0 rfl d_Mod_orderMade_77 ?_
        refine a_iconst S (v := 1) d_Mod_orderMade_80 (by decide) ?_
        refine a_iald S (i := 1) h11 rfl (by omega) (by decide) d_Mod_orderMade_81 ?_
        refine a_eqi hsy ?_
        refine a_i2l S d_Mod_orderMade_82 ?_
        refine a_callS S (rest := []) lg_Mod_184 (c_Mod_order X.2.1 D ((nI x.length).toInt64) ((nI y.length).toInt64) w n) (by decide) (by omega) (by omega) rfl (Nat.le_of_ble_eq_true rfl) d_Mod_orderMade_83 (fun v1 w2 n3 p4 => ?_)
        obtain ⟨rfl, e5, e6⟩ := p4
        rw [e5, e6]
        refine a_st (st' := [.int (Int32.ofInt (ordI ((nI x.length).toInt64).toInt ((nI y.length).toInt64).toInt))]) rfl ?_
        exact RT _ _ _ _ _ _ _ d_Mod_orderMade_86 (by omega) (by omega) ⟨by rw [od_e (by omega) (by omega) hi hi2 hE hs], rfl, rfl⟩
      · have h1_ : i < x.length := Nat.not_le.mp fun z => ha_ ((nI_leI (by omega) (by omega)).mpr z)
        refine a_iload_n S d_Mod_orderMade_12 rfl rfl ?_
        refine a_aload_n S d_Mod_orderMade_13 rfl rfl ?_
        refine a_get S kc_Mod 16 (by decide) lf_Mod_42 h0 rfl d_Mod_orderMade_14 ?_
        refine a_iconst S (v := 1) d_Mod_orderMade_17 (by decide) ?_
        refine a_iald S (i := 1) h11 rfl (by omega) (by decide) d_Mod_orderMade_18 ?_
        refine a_eqi hsy ?_
        refine a_icmp_ge S (tgt := 69) d_Mod_orderMade_19 rfl (fun hb_ => ?_) (fun hb_ => ?_)
        · have hE : x.length ≤ i ∨ y.length ≤ i := Or.inr ((nI_leI (by omega) (by omega)).mp hb_)
          refine a_aload_n S d_Mod_orderMade_69 rfl rfl ?_
          refine a_get S kc_Mod 16 (by decide) lf_Mod_42 h0 rfl d_Mod_orderMade_70 ?_
          refine a_iconst S (v := 0) d_Mod_orderMade_73 (by decide) ?_
          refine a_iald S (i := 0) h11 rfl (by omega) (by decide) d_Mod_orderMade_74 ?_
          refine a_eqi hsx ?_
          refine a_i2l S d_Mod_orderMade_75 ?_
          refine a_aload_n S d_Mod_orderMade_76 rfl rfl ?_
          refine a_get S kc_Mod 16 (by decide) lf_Mod_42 h0 rfl d_Mod_orderMade_77 ?_
          refine a_iconst S (v := 1) d_Mod_orderMade_80 (by decide) ?_
          refine a_iald S (i := 1) h11 rfl (by omega) (by decide) d_Mod_orderMade_81 ?_
          refine a_eqi hsy ?_
          refine a_i2l S d_Mod_orderMade_82 ?_
          refine a_callS S (rest := []) lg_Mod_184 (c_Mod_order X.2.1 D ((nI x.length).toInt64) ((nI y.length).toInt64) w n) (by decide) (by omega) (by omega) rfl (Nat.le_of_ble_eq_true rfl) d_Mod_orderMade_83 (fun v7 w8 n9 p10 => ?_)
          obtain ⟨rfl, e11, e12⟩ := p10
          rw [e11, e12]
          refine a_st (st' := [.int (Int32.ofInt (ordI ((nI x.length).toInt64).toInt ((nI y.length).toInt64).toInt))]) rfl ?_
          exact RT _ _ _ _ _ _ _ d_Mod_orderMade_86 (by omega) (by omega) ⟨by rw [od_e (by omega) (by omega) hi hi2 hE hs], rfl, rfl⟩
        · have h2_ : i < y.length := Nat.not_le.mp fun z => hb_ ((nI_leI (by omega) (by omega)).mpr z)
          have hbx := getD_lt hx i
          have hby := getD_lt hy i
          refine a_aload_n S d_Mod_orderMade_22 rfl rfl ?_
          refine a_get S kc_Mod 13 (by decide) lf_Mod_36 h0 rfl d_Mod_orderMade_23 ?_
          refine a_iload_n S d_Mod_orderMade_26 rfl rfl ?_
          refine a_iald S (i := i) h9 rfl (by omega) (by decide) d_Mod_orderMade_27 ?_
          refine a_eqi (htx i h1_) ?_
          refine a_aload_n S d_Mod_orderMade_28 rfl rfl ?_
          refine a_get S kc_Mod 13 (by decide) lf_Mod_36 h0 rfl d_Mod_orderMade_29 ?_
          refine a_sipush S (v := 200) d_Mod_orderMade_32 (by decide) ?_
          refine a_iload_n S d_Mod_orderMade_35 rfl rfl ?_
          refine a_iadd S d_Mod_orderMade_36 ?_
          refine a_eqi (y := nI (200 + i)) (ni_add rfl rfl) ?_
          refine a_iald S (i := 200 + i) h9 rfl (by omega) (by decide) d_Mod_orderMade_37 ?_
          refine a_eqi (hty i h2_) ?_
          refine a_icmp_eq S (tgt := 63) d_Mod_orderMade_38 rfl (fun hq_ => ?_) (fun hq_ => ?_)
          · have he_ : x.getD i 0 = y.getD i 0 := (nI_eq (by omega) (by omega)).mp hq_
            refine a_iinc S (v := nI (i + 1)) d_Mod_orderMade_63 rfl (ni_add rfl (by decide)) (Nat.le_of_ble_eq_true rfl) (lv' := [(0, .ref b), (1, .int (nI (i + 1)))]) rfl ?_
            refine a_goto S (tgt := 2) d_Mod_orderMade_66 rfl ?_
            exact ih2 _ (by omega) (i + 1) rfl (by omega) (by omega) (by rw [hs, cm_s h1_ h2_ he_])
          · have he_ : ¬ x.getD i 0 = y.getD i 0 := fun z => hq_ (by rw [z])
            refine a_aload_n S d_Mod_orderMade_41 rfl rfl ?_
            refine a_get S kc_Mod 13 (by decide) lf_Mod_36 h0 rfl d_Mod_orderMade_42 ?_
            refine a_iload_n S d_Mod_orderMade_45 rfl rfl ?_
            refine a_iald S (i := i) h9 rfl (by omega) (by decide) d_Mod_orderMade_46 ?_
            refine a_eqi (htx i h1_) ?_
            refine a_i2l S d_Mod_orderMade_47 ?_
            refine a_aload_n S d_Mod_orderMade_48 rfl rfl ?_
            refine a_get S kc_Mod 13 (by decide) lf_Mod_36 h0 rfl d_Mod_orderMade_49 ?_
            refine a_sipush S (v := 200) d_Mod_orderMade_52 (by decide) ?_
            refine a_iload_n S d_Mod_orderMade_55 rfl rfl ?_
            refine a_iadd S d_Mod_orderMade_56 ?_
            refine a_eqi (y := nI (200 + i)) (ni_add rfl rfl) ?_
            refine a_iald S (i := 200 + i) h9 rfl (by omega) (by decide) d_Mod_orderMade_57 ?_
            refine a_eqi (hty i h2_) ?_
            refine a_i2l S d_Mod_orderMade_58 ?_
            refine a_callS S (rest := []) lg_Mod_184 (c_Mod_order X.2.1 D ((nI (x.getD i 0)).toInt64) ((nI (y.getD i 0)).toInt64) w n) (by decide) (by omega) (by omega) rfl (Nat.le_of_ble_eq_true rfl) d_Mod_orderMade_59 (fun v13 w14 n15 p16 => ?_)
            obtain ⟨rfl, e17, e18⟩ := p16
            rw [e17, e18]
            refine a_st (st' := [.int (Int32.ofInt (ordI ((nI (x.getD i 0)).toInt64).toInt ((nI (y.getD i 0)).toInt64).toInt))]) rfl ?_
            exact RT _ _ _ _ _ _ _ d_Mod_orderMade_62 (by omega) (by omega) ⟨by rw [od_n hx hy h1_ h2_ he_ hs], rfl, rfl⟩
  exact loop2 _ 0 rfl (Nat.zero_le _) (Nat.zero_le _) rfl
set_option maxHeartbeats 400000 in
set_option maxRecDepth 100000 in
theorem c_Mod_empty (l : Launch) (D : kD) (b : Nat) (th : Int32) (fd : Nat) (sl : Bool) (ki fl : Nat → Int32) (va : Nat → Int64) (fo go si te : Nat → Int32) (kp : Nat) (ro : Nat → Int32) (rs : Nat) (ma : Nat → Int32) (sz : Nat) (en ms lw hw : Nat → Int32) (ls : Nat) (hz : Int32) (pt : Nat) (bd : Bool) (t : Nat) (w : ww) (n : Nat) (ht : t ≤ 13) (h : Mo D w b th fd sl ki fl va fo go si te kp ro rs ma sz en ms lw hw ls hz pt bd) : AM l D M_Mod_empty 0 0 0 [.ref b, .int (nI t)] w n (fun v w' n' => ∃ (va' : Nat → Int64) (fo' go' si' : Nat → Int32), v = none ∧ n' = n ∧ Fr w w' b 14 ∧ Mo D w' b th fd sl ki fl va' fo' go' si' te kp ro rs ma sz en ms lw hw ls hz pt bd ∧ (∀ f, f < 5 → VR va' fo' go' si' te (5 * t + f) (false, 0, 0, [])) ∧ (∀ p x, (p < 5 * t ∨ 5 * t + 5 ≤ p) → VR va fo go si te p x → VR va' fo' go' si' te p x) ∧ (NG go → NG go')) := by
  refine AM.ofv (by decide +kernel) rfl (Nat.le_of_ble_eq_true rfl) (fun X A Q hin S RT => ?_)
  have S : FX X (D, A, 3, Q) prog_9_method_7_code "KeyCodecModel" 0 0 0 := S
  have RT : RTv X (D, A, 3, Q) prog_9_method_7_code 0 0 _ := RT
  obtain ⟨h0, h1, h2, h3, h4, h5, h6, h7, h8, h9, h10, h11, h12, h13⟩ := h
  refine a_lve (lv' := [(0, .ref b), (1, .int (nI t))]) rfl ?_
  have fr : Fr w w b 14 := Fr.refl _ _ _
  refine a_iconst S (v := 5) d_Mod_empty_0 (by decide) ?_
  refine a_iload_n S d_Mod_empty_1 rfl rfl ?_
  refine a_imul S d_Mod_empty_2 ?_
  refine a_eqi (y := nI (5 * t)) (ni_mul rfl rfl) ?_
  refine a_istore_n S d_Mod_empty_3 rfl (Nat.le_of_ble_eq_true rfl) (lv' := [(0, .ref b), (1, .int (nI t)), (2, .int (nI (5 * t)))]) rfl ?_
  have loop4 : ∀ (kk4 : Nat) (i : Nat) (w1 : ww) (va1 : Nat → Int64) (fo1 go1 si1 : Nat → Int32), 5 - i = kk4 → (i ≤ 5) → (Fr w w1 b 14) → (Mo D w1 b th fd sl ki fl va1 fo1 go1 si1 te kp ro rs ma sz en ms lw hw ls hz pt bd) → (∀ f, f < i → VR va1 fo1 go1 si1 te (5 * t + f) (false, 0, 0, [])) → (∀ p x, (p < 5 * t ∨ 5 * t + 5 ≤ p) → VR va fo go si te p x → VR va1 fo1 go1 si1 te p x) → (NG go → NG go1) → AW X (D, A, 3, Q) 4 [(0, .ref b), (1, .int (nI t)), (2, .int (nI (5 * t + i)))] [] w1 n 0 0 := by
    intro kk4
    induction kk4 using Nat.strongRecOn with
    | ind kk4 ih4 =>
      intro i w1 va1 fo1 go1 si1 hk4 hi fr h hz hq hN
      obtain ⟨h0, h1, h2, h3, h4, h5, h6, h7, h8, h9, h10, h11, h12, h13⟩ := h
      refine a_iload_n S d_Mod_empty_4 rfl rfl ?_
      refine a_iconst S (v := 5) d_Mod_empty_5 (by decide) ?_
      refine a_iload_n S d_Mod_empty_6 rfl rfl ?_
      refine a_imul S d_Mod_empty_7 ?_
      refine a_eqi (y := nI (5 * t)) (ni_mul rfl rfl) ?_
      refine a_iconst S (v := 5) d_Mod_empty_8 (by decide) ?_
      refine a_iadd S d_Mod_empty_9 ?_
      refine a_eqi (y := nI (5 * t + 5)) (ni_add rfl rfl) ?_
      refine a_icmp_ge S (tgt := 47) d_Mod_empty_10 rfl (fun h10_ => ?_) (fun h10_ => ?_)
      · have hi : i = 5 := by have := (nI_leI (by omega) (by omega)).mp h10_; omega
        rw [hi] at hz
        exact RT _ _ _ _ _ _ d_Mod_empty_47 (by omega) (by omega) ⟨va1, fo1, go1, si1, rfl, rfl, fr, ⟨h0, h1, h2, h3, h4, h5, h6, h7, h8, h9, h10, h11, h12, h13⟩, hz, hq, hN⟩
      · have hi2 : ¬ 5 * t + 5 ≤ 5 * t + i := fun z => h10_ ((nI_leI (by omega) (by omega)).mpr z)
        have hi : i < 5 := by omega
        refine a_aload_n S d_Mod_empty_13 rfl rfl ?_
        refine a_get S kc_Mod 5 (by decide) lf_Mod_16 h0 rfl d_Mod_empty_14 ?_
        refine a_iload_n S d_Mod_empty_17 rfl rfl ?_
        refine a_lconst S (v := 0) d_Mod_empty_18 (by decide) ?_
        refine a_last S (i := 5 * t + i) h3 rfl (by omega) (by decide) d_Mod_empty_19 (fun w1 h3 e2 => ?_)
        have fr := fr.trans (Fr.sub (Fr.of1 e2) (by omega) (by omega))
        have h0 := Fr.cell (Fr.of1 e2) h0 (by omega)
        have h1 := Fr.cell (Fr.of1 e2) h1 (by omega)
        have h2 := Fr.cell (Fr.of1 e2) h2 (by omega)
        have h4 := Fr.cell (Fr.of1 e2) h4 (by omega)
        have h5 := Fr.cell (Fr.of1 e2) h5 (by omega)
        have h6 := Fr.cell (Fr.of1 e2) h6 (by omega)
        have h7 := Fr.cell (Fr.of1 e2) h7 (by omega)
        have h8 := Fr.cell (Fr.of1 e2) h8 (by omega)
        have h9 := Fr.cell (Fr.of1 e2) h9 (by omega)
        have h10 := Fr.cell (Fr.of1 e2) h10 (by omega)
        have h11 := Fr.cell (Fr.of1 e2) h11 (by omega)
        have h12 := Fr.cell (Fr.of1 e2) h12 (by omega)
        have h13 := Fr.cell (Fr.of1 e2) h13 (by omega)
        refine a_aload_n S d_Mod_empty_20 rfl rfl ?_
        refine a_get S kc_Mod 6 (by decide) lf_Mod_20 h0 rfl d_Mod_empty_21 ?_
        refine a_iload_n S d_Mod_empty_24 rfl rfl ?_
        refine a_iconst S (v := 0) d_Mod_empty_25 (by decide) ?_
        refine a_iast S (i := 5 * t + i) h4 rfl (by omega) (by decide) d_Mod_empty_26 (fun w3 h4 e4 => ?_)
        have fr := fr.trans (Fr.sub (Fr.of1 e4) (by omega) (by omega))
        have h0 := Fr.cell (Fr.of1 e4) h0 (by omega)
        have h1 := Fr.cell (Fr.of1 e4) h1 (by omega)
        have h2 := Fr.cell (Fr.of1 e4) h2 (by omega)
        have h3 := Fr.cell (Fr.of1 e4) h3 (by omega)
        have h5 := Fr.cell (Fr.of1 e4) h5 (by omega)
        have h6 := Fr.cell (Fr.of1 e4) h6 (by omega)
        have h7 := Fr.cell (Fr.of1 e4) h7 (by omega)
        have h8 := Fr.cell (Fr.of1 e4) h8 (by omega)
        have h9 := Fr.cell (Fr.of1 e4) h9 (by omega)
        have h10 := Fr.cell (Fr.of1 e4) h10 (by omega)
        have h11 := Fr.cell (Fr.of1 e4) h11 (by omega)
        have h12 := Fr.cell (Fr.of1 e4) h12 (by omega)
        have h13 := Fr.cell (Fr.of1 e4) h13 (by omega)
        refine a_aload_n S d_Mod_empty_27 rfl rfl ?_
        refine a_get S kc_Mod 7 (by decide) lf_Mod_23 h0 rfl d_Mod_empty_28 ?_
        refine a_iload_n S d_Mod_empty_31 rfl rfl ?_
        refine a_iconst S (v := 0) d_Mod_empty_32 (by decide) ?_
        refine a_zast S (i := 5 * t + i) h5 rfl (by omega) (by decide) d_Mod_empty_33 (fun w5 h5 e6 => ?_)
        have fr := fr.trans (Fr.sub (Fr.of1 e6) (by omega) (by omega))
        have h0 := Fr.cell (Fr.of1 e6) h0 (by omega)
        have h1 := Fr.cell (Fr.of1 e6) h1 (by omega)
        have h2 := Fr.cell (Fr.of1 e6) h2 (by omega)
        have h3 := Fr.cell (Fr.of1 e6) h3 (by omega)
        have h4 := Fr.cell (Fr.of1 e6) h4 (by omega)
        have h6 := Fr.cell (Fr.of1 e6) h6 (by omega)
        have h7 := Fr.cell (Fr.of1 e6) h7 (by omega)
        have h8 := Fr.cell (Fr.of1 e6) h8 (by omega)
        have h9 := Fr.cell (Fr.of1 e6) h9 (by omega)
        have h10 := Fr.cell (Fr.of1 e6) h10 (by omega)
        have h11 := Fr.cell (Fr.of1 e6) h11 (by omega)
        have h12 := Fr.cell (Fr.of1 e6) h12 (by omega)
        have h13 := Fr.cell (Fr.of1 e6) h13 (by omega)
        refine a_aload_n S d_Mod_empty_34 rfl rfl ?_
        refine a_get S kc_Mod 8 (by decide) lf_Mod_27 h0 rfl d_Mod_empty_35 ?_
        refine a_iload_n S d_Mod_empty_38 rfl rfl ?_
        refine a_iconst S (v := 0) d_Mod_empty_39 (by decide) ?_
        refine a_iast S (i := 5 * t + i) h6 rfl (by omega) (by decide) d_Mod_empty_40 (fun w7 h6 e8 => ?_)
        have fr := fr.trans (Fr.sub (Fr.of1 e8) (by omega) (by omega))
        have h0 := Fr.cell (Fr.of1 e8) h0 (by omega)
        have h1 := Fr.cell (Fr.of1 e8) h1 (by omega)
        have h2 := Fr.cell (Fr.of1 e8) h2 (by omega)
        have h3 := Fr.cell (Fr.of1 e8) h3 (by omega)
        have h4 := Fr.cell (Fr.of1 e8) h4 (by omega)
        have h5 := Fr.cell (Fr.of1 e8) h5 (by omega)
        have h7 := Fr.cell (Fr.of1 e8) h7 (by omega)
        have h8 := Fr.cell (Fr.of1 e8) h8 (by omega)
        have h9 := Fr.cell (Fr.of1 e8) h9 (by omega)
        have h10 := Fr.cell (Fr.of1 e8) h10 (by omega)
        have h11 := Fr.cell (Fr.of1 e8) h11 (by omega)
        have h12 := Fr.cell (Fr.of1 e8) h12 (by omega)
        have h13 := Fr.cell (Fr.of1 e8) h13 (by omega)
        refine a_iinc S (v := nI (5 * t + i + 1)) d_Mod_empty_41 rfl (ni_add rfl (by decide)) (Nat.le_of_ble_eq_true rfl) (lv' := [(0, .ref b), (1, .int (nI t)), (2, .int (nI (5 * t + i + 1)))]) rfl ?_
        refine a_goto S (tgt := 4) d_Mod_empty_44 rfl ?_
        exact ih4 _ (by omega) (i + 1) w7 _ _ _ _ rfl (by omega) fr ⟨h0, h1, h2, h3, h4, h5, h6, h7, h8, h9, h10, h11, h12, h13⟩ (fun f hf => by
          by_cases e : f = i
          · subst e; exact VR.set
          · exact VR.ne (by omega) (hz f (by omega))) (fun p x hp h => VR.ne (by omega) (hq p x hp h)) (fun z => (hN z).upd _ _)
  exact loop4 _ 0 w va fo go si rfl (Nat.zero_le _) fr ⟨h0, h1, h2, h3, h4, h5, h6, h7, h8, h9, h10, h11, h12, h13⟩ (fun f hf => absurd hf (Nat.not_lt_zero f)) (fun p x _ h => h) id
set_option maxHeartbeats 400000 in
set_option maxRecDepth 100000 in
theorem c_Mod_copy (l : Launch) (D : kD) (b : Nat) (th : Int32) (fd : Nat) (sl : Bool) (ki fl : Nat → Int32) (va : Nat → Int64) (fo go si te : Nat → Int32) (kp : Nat) (ro : Nat → Int32) (rs : Nat) (ma : Nat → Int32) (sz : Nat) (en ms lw hw : Nat → Int32) (ls : Nat) (hz : Int32) (pt : Nat) (bd : Bool) (p q : Nat) (w : ww) (n : Nat) (hp : p ≤ 13) (hq : q ≤ 13) (hpq : p ≠ q) (hgo : NG go) (h : Mo D w b th fd sl ki fl va fo go si te kp ro rs ma sz en ms lw hw ls hz pt bd) : AM l D M_Mod_copy 0 0 0 [.ref b, .int (nI p), .int (nI q)] w n (fun v w' n' => ∃ (va' : Nat → Int64) (fo' go' si' te' : Nat → Int32), v = none ∧ n' = n ∧ Fr w w' b 14 ∧ Mo D w' b th fd sl ki fl va' fo' go' si' te' kp ro rs ma sz en ms lw hw ls hz pt bd ∧ Cpd va va' (5 * p) (5 * q) 5 ∧ Cpd fo fo' (5 * p) (5 * q) 5 ∧ Cpd go go' (5 * p) (5 * q) 5 ∧ Cpd si si' (5 * p) (5 * q) 5 ∧ Cpd te te' (50 * p) (50 * q) 50) := by
  refine AM.ofv (by decide +kernel) rfl (Nat.le_of_ble_eq_true rfl) (fun X A Q hin S RT => ?_)
  have S : FX X (D, A, 4, Q) prog_9_method_17_code "KeyCodecModel" 0 0 0 := S
  have RT : RTv X (D, A, 4, Q) prog_9_method_17_code 0 0 _ := RT
  obtain ⟨h0, h1, h2, h3, h4, h5, h6, h7, h8, h9, h10, h11, h12, h13⟩ := h
  refine a_lve (lv' := [(0, .ref b), (1, .int (nI p)), (2, .int (nI q))]) rfl ?_
  have fr : Fr w w b 14 := Fr.refl _ _ _
  refine a_iconst S (v := 0) d_Mod_copy_0 (by decide) ?_
  refine a_istore_n S d_Mod_copy_1 rfl (Nat.le_of_ble_eq_true rfl) (lv' := [(0, .ref b), (1, .int (nI p)), (2, .int (nI q)), (3, .int 0)]) rfl ?_
  have loop2 : ∀ (kk2 : Nat) (i : Nat) (w1 : ww) (va1 : Nat → Int64) (fo1 go1 si1 : Nat → Int32), 5 - i = kk2 → (i ≤ 5) → (Fr w w1 b 14) → (Mo D w1 b th fd sl ki fl va1 fo1 go1 si1 te kp ro rs ma sz en ms lw hw ls hz pt bd) → (Cpd va va1 (5 * p) (5 * q) i ∧ Cpd fo fo1 (5 * p) (5 * q) i ∧ Cpd go go1 (5 * p) (5 * q) i ∧ Cpd si si1 (5 * p) (5 * q) i) → AW X (D, A, 4, Q) 2 [(0, .ref b), (1, .int (nI p)), (2, .int (nI q)), (3, .int (nI i))] [] w1 n 0 0 := by
    intro kk2
    induction kk2 using Nat.strongRecOn with
    | ind kk2 ih2 =>
      intro i w1 va1 fo1 go1 si1 hk2 hi fr h hC
      obtain ⟨h0, h1, h2, h3, h4, h5, h6, h7, h8, h9, h10, h11, h12, h13⟩ := h
      refine a_iload_n S d_Mod_copy_2 rfl rfl ?_
      refine a_iconst S (v := 5) d_Mod_copy_3 (by decide) ?_
      refine a_icmp_ge S (tgt := 93) d_Mod_copy_4 rfl (fun h4_ => ?_) (fun h4_ => ?_)
      · have hi : i = 5 := Nat.le_antisymm hi ((nI_leI (by decide) (by omega)).mp h4_)
        rw [hi] at hC
        refine a_iconst S (v := 0) d_Mod_copy_93 (by decide) ?_
        refine a_istore_n S d_Mod_copy_94 rfl (Nat.le_of_ble_eq_true rfl) (lv' := [(0, .ref b), (1, .int (nI p)), (2, .int (nI q)), (3, .int 0)]) rfl ?_
        have loop95 : ∀ (kk95 : Nat) (i : Nat) (w2_ : ww) (te1 : Nat → Int32), 50 - i = kk95 → (i ≤ 50) → (Fr w w2_ b 14) → (Mo D w2_ b th fd sl ki fl va1 fo1 go1 si1 te1 kp ro rs ma sz en ms lw hw ls hz pt bd) → (Cpd te te1 (50 * p) (50 * q) i) → AW X (D, A, 4, Q) 95 [(0, .ref b), (1, .int (nI p)), (2, .int (nI q)), (3, .int (nI i))] [] w2_ n 0 0 := by
          intro kk95
          induction kk95 using Nat.strongRecOn with
          | ind kk95 ih95 =>
            intro i w2_ te1 hk95 hi fr h hT
            obtain ⟨h0, h1, h2, h3, h4, h5, h6, h7, h8, h9, h10, h11, h12, h13⟩ := h
            refine a_iload_n S d_Mod_copy_95 rfl rfl ?_
            refine a_bipush S (v := 50) d_Mod_copy_96 (by decide) ?_
            refine a_icmp_ge S (tgt := 129) d_Mod_copy_98 rfl (fun h98 => ?_) (fun h98 => ?_)
            · have hi : i = 50 := Nat.le_antisymm hi ((nI_leI (by decide) (by omega)).mp h98)
              rw [hi] at hT
              exact RT _ _ _ _ _ _ d_Mod_copy_129 (by omega) (by omega) ⟨va1, fo1, go1, si1, te1, rfl, rfl, fr, ⟨h0, h1, h2, h3, h4, h5, h6, h7, h8, h9, h10, h11, h12, h13⟩, hC.1, hC.2.1, hC.2.2.1, hC.2.2.2, hT⟩
            · have hi : i < 50 := Nat.not_le.mp fun z => h98 ((nI_leI (by decide) (by omega)).mpr z)
              refine a_aload_n S d_Mod_copy_101 rfl rfl ?_
              refine a_get S kc_Mod 9 (by decide) lf_Mod_30 h0 rfl d_Mod_copy_102 ?_
              refine a_bipush S (v := 50) d_Mod_copy_105 (by decide) ?_
              refine a_iload_n S d_Mod_copy_107 rfl rfl ?_
              refine a_imul S d_Mod_copy_108 ?_
              refine a_eqi (y := nI (50 * q)) (ni_mul rfl rfl) ?_
              refine a_iload_n S d_Mod_copy_109 rfl rfl ?_
              refine a_iadd S d_Mod_copy_110 ?_
              refine a_eqi (y := nI (50 * q + i)) (ni_add rfl rfl) ?_
              refine a_aload_n S d_Mod_copy_111 rfl rfl ?_
              refine a_get S kc_Mod 9 (by decide) lf_Mod_30 h0 rfl d_Mod_copy_112 ?_
              refine a_bipush S (v := 50) d_Mod_copy_115 (by decide) ?_
              refine a_iload_n S d_Mod_copy_117 rfl rfl ?_
              refine a_imul S d_Mod_copy_118 ?_
              refine a_eqi (y := nI (50 * p)) (ni_mul rfl rfl) ?_
              refine a_iload_n S d_Mod_copy_119 rfl rfl ?_
              refine a_iadd S d_Mod_copy_120 ?_
              refine a_eqi (y := nI (50 * p + i)) (ni_add rfl rfl) ?_
              refine a_iald S (i := 50 * p + i) h7 rfl (by omega) (by decide) d_Mod_copy_121 ?_
              refine a_iast S (i := 50 * q + i) h7 rfl (by omega) (by decide) d_Mod_copy_122 (fun w1 h7 e2 => ?_)
              have fr := fr.trans (Fr.sub (Fr.of1 e2) (by omega) (by omega))
              have h0 := Fr.cell (Fr.of1 e2) h0 (by omega)
              have h1 := Fr.cell (Fr.of1 e2) h1 (by omega)
              have h2 := Fr.cell (Fr.of1 e2) h2 (by omega)
              have h3 := Fr.cell (Fr.of1 e2) h3 (by omega)
              have h4 := Fr.cell (Fr.of1 e2) h4 (by omega)
              have h5 := Fr.cell (Fr.of1 e2) h5 (by omega)
              have h6 := Fr.cell (Fr.of1 e2) h6 (by omega)
              have h8 := Fr.cell (Fr.of1 e2) h8 (by omega)
              have h9 := Fr.cell (Fr.of1 e2) h9 (by omega)
              have h10 := Fr.cell (Fr.of1 e2) h10 (by omega)
              have h11 := Fr.cell (Fr.of1 e2) h11 (by omega)
              have h12 := Fr.cell (Fr.of1 e2) h12 (by omega)
              have h13 := Fr.cell (Fr.of1 e2) h13 (by omega)
              refine a_iinc S (v := nI (i + 1)) d_Mod_copy_123 rfl (ni_add rfl (by decide)) (Nat.le_of_ble_eq_true rfl) (lv' := [(0, .ref b), (1, .int (nI p)), (2, .int (nI q)), (3, .int (nI (i + 1)))]) rfl ?_
              refine a_goto S (tgt := 95) d_Mod_copy_126 rfl ?_
              exact ih95 _ (by omega) (i + 1) w1 _ rfl (by omega) fr ⟨h0, h1, h2, h3, h4, h5, h6, h7, h8, h9, h10, h11, h12, h13⟩ (hT.s (N := 50) (by omega) (by omega) pk_us (fun p_ h => pk_un h))
        exact loop95 _ 0 w1 te rfl (Nat.zero_le _) fr ⟨h0, h1, h2, h3, h4, h5, h6, h7, h8, h9, h10, h11, h12, h13⟩ (Cpd.z _ _ _)
      · have hi : i < 5 := Nat.not_le.mp fun z => h4_ ((nI_leI (by decide) (by omega)).mpr z)
        refine a_aload_n S d_Mod_copy_7 rfl rfl ?_
        refine a_get S kc_Mod 5 (by decide) lf_Mod_16 h0 rfl d_Mod_copy_8 ?_
        refine a_iconst S (v := 5) d_Mod_copy_11 (by decide) ?_
        refine a_iload_n S d_Mod_copy_12 rfl rfl ?_
        refine a_imul S d_Mod_copy_13 ?_
        refine a_eqi (y := nI (5 * q)) (ni_mul rfl rfl) ?_
        refine a_iload_n S d_Mod_copy_14 rfl rfl ?_
        refine a_iadd S d_Mod_copy_15 ?_
        refine a_eqi (y := nI (5 * q + i)) (ni_add rfl rfl) ?_
        refine a_aload_n S d_Mod_copy_16 rfl rfl ?_
        refine a_get S kc_Mod 5 (by decide) lf_Mod_16 h0 rfl d_Mod_copy_17 ?_
        refine a_iconst S (v := 5) d_Mod_copy_20 (by decide) ?_
        refine a_iload_n S d_Mod_copy_21 rfl rfl ?_
        refine a_imul S d_Mod_copy_22 ?_
        refine a_eqi (y := nI (5 * p)) (ni_mul rfl rfl) ?_
        refine a_iload_n S d_Mod_copy_23 rfl rfl ?_
        refine a_iadd S d_Mod_copy_24 ?_
        refine a_eqi (y := nI (5 * p + i)) (ni_add rfl rfl) ?_
        refine a_lald S (i := 5 * p + i) h3 rfl (by omega) (by decide) d_Mod_copy_25 ?_
        refine a_last S (i := 5 * q + i) h3 rfl (by omega) (by decide) d_Mod_copy_26 (fun w3 h3 e4 => ?_)
        have fr := fr.trans (Fr.sub (Fr.of1 e4) (by omega) (by omega))
        have h0 := Fr.cell (Fr.of1 e4) h0 (by omega)
        have h1 := Fr.cell (Fr.of1 e4) h1 (by omega)
        have h2 := Fr.cell (Fr.of1 e4) h2 (by omega)
        have h4 := Fr.cell (Fr.of1 e4) h4 (by omega)
        have h5 := Fr.cell (Fr.of1 e4) h5 (by omega)
        have h6 := Fr.cell (Fr.of1 e4) h6 (by omega)
        have h7 := Fr.cell (Fr.of1 e4) h7 (by omega)
        have h8 := Fr.cell (Fr.of1 e4) h8 (by omega)
        have h9 := Fr.cell (Fr.of1 e4) h9 (by omega)
        have h10 := Fr.cell (Fr.of1 e4) h10 (by omega)
        have h11 := Fr.cell (Fr.of1 e4) h11 (by omega)
        have h12 := Fr.cell (Fr.of1 e4) h12 (by omega)
        have h13 := Fr.cell (Fr.of1 e4) h13 (by omega)
        refine a_aload_n S d_Mod_copy_27 rfl rfl ?_
        refine a_get S kc_Mod 6 (by decide) lf_Mod_20 h0 rfl d_Mod_copy_28 ?_
        refine a_iconst S (v := 5) d_Mod_copy_31 (by decide) ?_
        refine a_iload_n S d_Mod_copy_32 rfl rfl ?_
        refine a_imul S d_Mod_copy_33 ?_
        refine a_eqi (y := nI (5 * q)) (ni_mul rfl rfl) ?_
        refine a_iload_n S d_Mod_copy_34 rfl rfl ?_
        refine a_iadd S d_Mod_copy_35 ?_
        refine a_eqi (y := nI (5 * q + i)) (ni_add rfl rfl) ?_
        refine a_aload_n S d_Mod_copy_36 rfl rfl ?_
        refine a_get S kc_Mod 6 (by decide) lf_Mod_20 h0 rfl d_Mod_copy_37 ?_
        refine a_iconst S (v := 5) d_Mod_copy_40 (by decide) ?_
        refine a_iload_n S d_Mod_copy_41 rfl rfl ?_
        refine a_imul S d_Mod_copy_42 ?_
        refine a_eqi (y := nI (5 * p)) (ni_mul rfl rfl) ?_
        refine a_iload_n S d_Mod_copy_43 rfl rfl ?_
        refine a_iadd S d_Mod_copy_44 ?_
        refine a_eqi (y := nI (5 * p + i)) (ni_add rfl rfl) ?_
        refine a_iald S (i := 5 * p + i) h4 rfl (by omega) (by decide) d_Mod_copy_45 ?_
        refine a_iast S (i := 5 * q + i) h4 rfl (by omega) (by decide) d_Mod_copy_46 (fun w5 h4 e6 => ?_)
        have fr := fr.trans (Fr.sub (Fr.of1 e6) (by omega) (by omega))
        have h0 := Fr.cell (Fr.of1 e6) h0 (by omega)
        have h1 := Fr.cell (Fr.of1 e6) h1 (by omega)
        have h2 := Fr.cell (Fr.of1 e6) h2 (by omega)
        have h3 := Fr.cell (Fr.of1 e6) h3 (by omega)
        have h5 := Fr.cell (Fr.of1 e6) h5 (by omega)
        have h6 := Fr.cell (Fr.of1 e6) h6 (by omega)
        have h7 := Fr.cell (Fr.of1 e6) h7 (by omega)
        have h8 := Fr.cell (Fr.of1 e6) h8 (by omega)
        have h9 := Fr.cell (Fr.of1 e6) h9 (by omega)
        have h10 := Fr.cell (Fr.of1 e6) h10 (by omega)
        have h11 := Fr.cell (Fr.of1 e6) h11 (by omega)
        have h12 := Fr.cell (Fr.of1 e6) h12 (by omega)
        have h13 := Fr.cell (Fr.of1 e6) h13 (by omega)
        refine a_aload_n S d_Mod_copy_47 rfl rfl ?_
        refine a_get S kc_Mod 7 (by decide) lf_Mod_23 h0 rfl d_Mod_copy_48 ?_
        refine a_iconst S (v := 5) d_Mod_copy_51 (by decide) ?_
        refine a_iload_n S d_Mod_copy_52 rfl rfl ?_
        refine a_imul S d_Mod_copy_53 ?_
        refine a_eqi (y := nI (5 * q)) (ni_mul rfl rfl) ?_
        refine a_iload_n S d_Mod_copy_54 rfl rfl ?_
        refine a_iadd S d_Mod_copy_55 ?_
        refine a_eqi (y := nI (5 * q + i)) (ni_add rfl rfl) ?_
        refine a_aload_n S d_Mod_copy_56 rfl rfl ?_
        refine a_get S kc_Mod 7 (by decide) lf_Mod_23 h0 rfl d_Mod_copy_57 ?_
        refine a_iconst S (v := 5) d_Mod_copy_60 (by decide) ?_
        refine a_iload_n S d_Mod_copy_61 rfl rfl ?_
        refine a_imul S d_Mod_copy_62 ?_
        refine a_eqi (y := nI (5 * p)) (ni_mul rfl rfl) ?_
        refine a_iload_n S d_Mod_copy_63 rfl rfl ?_
        refine a_iadd S d_Mod_copy_64 ?_
        refine a_eqi (y := nI (5 * p + i)) (ni_add rfl rfl) ?_
        refine a_zald S (i := 5 * p + i) h5 rfl (by omega) (by decide) d_Mod_copy_65 ?_
        refine a_zast S (i := 5 * q + i) h5 rfl (by omega) (by decide) d_Mod_copy_66 (fun w7 h5 e8 => ?_)
        have fr := fr.trans (Fr.sub (Fr.of1 e8) (by omega) (by omega))
        have h0 := Fr.cell (Fr.of1 e8) h0 (by omega)
        have h1 := Fr.cell (Fr.of1 e8) h1 (by omega)
        have h2 := Fr.cell (Fr.of1 e8) h2 (by omega)
        have h3 := Fr.cell (Fr.of1 e8) h3 (by omega)
        have h4 := Fr.cell (Fr.of1 e8) h4 (by omega)
        have h6 := Fr.cell (Fr.of1 e8) h6 (by omega)
        have h7 := Fr.cell (Fr.of1 e8) h7 (by omega)
        have h8 := Fr.cell (Fr.of1 e8) h8 (by omega)
        have h9 := Fr.cell (Fr.of1 e8) h9 (by omega)
        have h10 := Fr.cell (Fr.of1 e8) h10 (by omega)
        have h11 := Fr.cell (Fr.of1 e8) h11 (by omega)
        have h12 := Fr.cell (Fr.of1 e8) h12 (by omega)
        have h13 := Fr.cell (Fr.of1 e8) h13 (by omega)
        refine a_aload_n S d_Mod_copy_67 rfl rfl ?_
        refine a_get S kc_Mod 8 (by decide) lf_Mod_27 h0 rfl d_Mod_copy_68 ?_
        refine a_iconst S (v := 5) d_Mod_copy_71 (by decide) ?_
        refine a_iload_n S d_Mod_copy_72 rfl rfl ?_
        refine a_imul S d_Mod_copy_73 ?_
        refine a_eqi (y := nI (5 * q)) (ni_mul rfl rfl) ?_
        refine a_iload_n S d_Mod_copy_74 rfl rfl ?_
        refine a_iadd S d_Mod_copy_75 ?_
        refine a_eqi (y := nI (5 * q + i)) (ni_add rfl rfl) ?_
        refine a_aload_n S d_Mod_copy_76 rfl rfl ?_
        refine a_get S kc_Mod 8 (by decide) lf_Mod_27 h0 rfl d_Mod_copy_77 ?_
        refine a_iconst S (v := 5) d_Mod_copy_80 (by decide) ?_
        refine a_iload_n S d_Mod_copy_81 rfl rfl ?_
        refine a_imul S d_Mod_copy_82 ?_
        refine a_eqi (y := nI (5 * p)) (ni_mul rfl rfl) ?_
        refine a_iload_n S d_Mod_copy_83 rfl rfl ?_
        refine a_iadd S d_Mod_copy_84 ?_
        refine a_eqi (y := nI (5 * p + i)) (ni_add rfl rfl) ?_
        refine a_iald S (i := 5 * p + i) h6 rfl (by omega) (by decide) d_Mod_copy_85 ?_
        refine a_iast S (i := 5 * q + i) h6 rfl (by omega) (by decide) d_Mod_copy_86 (fun w9 h6 e10 => ?_)
        have fr := fr.trans (Fr.sub (Fr.of1 e10) (by omega) (by omega))
        have h0 := Fr.cell (Fr.of1 e10) h0 (by omega)
        have h1 := Fr.cell (Fr.of1 e10) h1 (by omega)
        have h2 := Fr.cell (Fr.of1 e10) h2 (by omega)
        have h3 := Fr.cell (Fr.of1 e10) h3 (by omega)
        have h4 := Fr.cell (Fr.of1 e10) h4 (by omega)
        have h5 := Fr.cell (Fr.of1 e10) h5 (by omega)
        have h7 := Fr.cell (Fr.of1 e10) h7 (by omega)
        have h8 := Fr.cell (Fr.of1 e10) h8 (by omega)
        have h9 := Fr.cell (Fr.of1 e10) h9 (by omega)
        have h10 := Fr.cell (Fr.of1 e10) h10 (by omega)
        have h11 := Fr.cell (Fr.of1 e10) h11 (by omega)
        have h12 := Fr.cell (Fr.of1 e10) h12 (by omega)
        have h13 := Fr.cell (Fr.of1 e10) h13 (by omega)
        refine a_iinc S (v := nI (i + 1)) d_Mod_copy_87 rfl (ni_add rfl (by decide)) (Nat.le_of_ble_eq_true rfl) (lv' := [(0, .ref b), (1, .int (nI p)), (2, .int (nI q)), (3, .int (nI (i + 1)))]) rfl ?_
        refine a_goto S (tgt := 2) d_Mod_copy_90 rfl ?_
        exact ih2 _ (by omega) (i + 1) w9 _ _ _ _ rfl (by omega) fr ⟨h0, h1, h2, h3, h4, h5, h6, h7, h8, h9, h10, h11, h12, h13⟩ ⟨hC.1.s (N := 5) (by omega) (by omega) updL_self (fun p_ h => updL_ne h), hC.2.1.s (N := 5) (by omega) (by omega) pk_us (fun p_ h => pk_un h), hC.2.2.1.s (N := 5) (by omega) (by omega) (pk_us.trans (by rw [hC.2.2.1.out (by omega)]; exact hgo _)) (fun p_ h => pk_un h), hC.2.2.2.s (N := 5) (by omega) (by omega) pk_us (fun p_ h => pk_un h)⟩
  exact loop2 _ 0 w va fo go si rfl (Nat.zero_le _) fr ⟨h0, h1, h2, h3, h4, h5, h6, h7, h8, h9, h10, h11, h12, h13⟩ ⟨Cpd.z _ _ _, Cpd.z _ _ _, Cpd.z _ _ _, Cpd.z _ _ _⟩
