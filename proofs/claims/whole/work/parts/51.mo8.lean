set_option maxHeartbeats 400000 in
set_option maxRecDepth 100000 in
theorem c_Mod_against1 (l : Launch) (D : kD) (b : Nat) (th : Int32) (fd : Nat) (sl : Bool) (ki fl : Nat → Int32) (va : Nat → Int64) (fo go si te : Nat → Int32) (kp : Nat) (ro : Nat → Int32) (rs : Nat) (ma : Nat → Int32) (sz : Nat) (en ms lw hw : Nat → Int32) (hz : Int32) (pt : Nat) (bd : Bool) (x y : List Nat) (w : ww) (n : Nat) (hx : ∀ b ∈ x, b < 256) (hy : ∀ b ∈ y, b < 256) (hx2 : x.length ≤ 200) (hy2 : y.length ≤ 200) (hsx : ms 0 = nI x.length) (htx : ∀ i, i < x.length → ma i = nI (x.getD i 0)) (hty : ∀ i, i < y.length → lw i = nI (y.getD i 0)) (h : Mo D w b th fd sl ki fl va fo go si te kp ro rs ma sz en ms lw hw y.length hz pt bd) : AM l D M_Mod_against 1 0 0 [.ref b, .int 1] w n (fun v w' n' => v = some (.int (Int32.ofInt (cmpB x y))) ∧ w' = w ∧ n' = n) := by
  refine AM.ofi (by decide +kernel) rfl (Nat.le_of_ble_eq_true rfl) (fun X A Q hin S RT => ?_)
  have S : FX X (D, A, 5, Q) prog_9_method_58_code "KeyCodecModel" 1 0 0 := S
  have RT : RTi X (D, A, 5, Q) prog_9_method_58_code 0 0 _ := RT
  obtain ⟨h0, h1, h2, h3, h4, h5, h6, h7, h8, h9, h10, h11, h12, h13⟩ := h
  refine a_lve (lv' := [(0, .ref b), (1, .int 1)]) rfl ?_
  have fr : Fr w w b 14 := Fr.refl _ _ _
  refine a_iload_n S d_Mod_against_0 rfl rfl ?_
  refine a_if_eq S (tgt := 11) d_Mod_against_1 rfl (fun hone => ?_) (fun hone => ?_)
  · exact absurd hone (by decide)
  · refine a_aload_n S d_Mod_against_4 rfl rfl ?_
    refine a_get S kc_Mod 19 (by decide) lf_Mod_211 h0 rfl d_Mod_against_5 ?_
    refine a_goto S (tgt := 15) d_Mod_against_8 rfl ?_
    refine a_istore_n S d_Mod_against_15 rfl (Nat.le_of_ble_eq_true rfl) (lv' := [(0, .ref b), (1, .int 1), (2, .int (nI y.length))]) rfl ?_
    refine a_iconst S (v := 0) d_Mod_against_16 (by decide) ?_
    refine a_istore_n S d_Mod_against_17 rfl (Nat.le_of_ble_eq_true rfl) (lv' := [(0, .ref b), (1, .int 1), (2, .int (nI y.length)), (3, .int 0)]) rfl ?_
    have loop18 : ∀ (kk18 : Nat) (i : Nat), x.length - i = kk18 → (i ≤ x.length) → (i ≤ y.length) → (cmpB x y = cmpB (x.drop i) (y.drop i)) → AW X (D, A, 5, Q) 18 [(0, .ref b), (1, .int 1), (2, .int (nI y.length)), (3, .int (nI i))] [] w n 0 0 := by
      intro kk18
      induction kk18 using Nat.strongRecOn with
      | ind kk18 ih18 =>
        intro i hk18 hi hi2 hs
        refine a_iload_n S d_Mod_against_18 rfl rfl ?_
        refine a_aload_n S d_Mod_against_19 rfl rfl ?_
        refine a_get S kc_Mod 16 (by decide) lf_Mod_42 h0 rfl d_Mod_against_20 ?_
        refine a_iconst S (v := 0) d_Mod_against_23 (by decide) ?_
        refine a_iald S (i := 0) h11 rfl (by omega) (by decide) d_Mod_against_24 ?_
        refine a_eqi hsx ?_
        refine a_icmp_ge S (tgt := 85) d_Mod_against_25 rfl (fun ha_ => ?_) (fun ha_ => ?_)
        · have hE : x.length ≤ i ∨ y.length ≤ i := Or.inl ((nI_leI (by omega) (by omega)).mp ha_)
          refine a_aload_n S d_Mod_against_85 rfl rfl ?_
          refine a_get S kc_Mod 16 (by decide) lf_Mod_42 h0 rfl d_Mod_against_86 ?_
          refine a_iconst S (v := 0) d_Mod_against_89 (by decide) ?_
          refine a_iald S (i := 0) h11 rfl (by omega) (by decide) d_Mod_against_90 ?_
          refine a_eqi hsx ?_
          refine a_i2l S d_Mod_against_91 ?_
          refine a_iload_n S d_Mod_against_92 rfl rfl ?_
          refine a_i2l S d_Mod_against_93 ?_
          refine a_callS S (rest := []) lg_Mod_184 (c_Mod_order X.2.1 D ((nI x.length).toInt64) ((nI y.length).toInt64) w n) (by decide) (by omega) (by omega) rfl (Nat.le_of_ble_eq_true rfl) d_Mod_against_94 (fun v1 w2 n3 p4 => ?_)
          obtain ⟨rfl, e5, e6⟩ := p4
          rw [e5, e6]
          refine a_st (st' := [.int (Int32.ofInt (ordI ((nI x.length).toInt64).toInt ((nI y.length).toInt64).toInt))]) rfl ?_
          exact RT _ _ _ _ _ _ _ d_Mod_against_97 (by omega) (by omega) ⟨by rw [od_e (by omega) (by omega) hi hi2 hE hs], rfl, rfl⟩
        · have h1_ : i < x.length := Nat.not_le.mp fun z => ha_ ((nI_leI (by omega) (by omega)).mpr z)
          refine a_iload_n S d_Mod_against_28 rfl rfl ?_
          refine a_iload_n S d_Mod_against_29 rfl rfl ?_
          refine a_icmp_ge S (tgt := 85) d_Mod_against_30 rfl (fun hb_ => ?_) (fun hb_ => ?_)
          · have hE : x.length ≤ i ∨ y.length ≤ i := Or.inr ((nI_leI (by omega) (by omega)).mp hb_)
            refine a_aload_n S d_Mod_against_85 rfl rfl ?_
            refine a_get S kc_Mod 16 (by decide) lf_Mod_42 h0 rfl d_Mod_against_86 ?_
            refine a_iconst S (v := 0) d_Mod_against_89 (by decide) ?_
            refine a_iald S (i := 0) h11 rfl (by omega) (by decide) d_Mod_against_90 ?_
            refine a_eqi hsx ?_
            refine a_i2l S d_Mod_against_91 ?_
            refine a_iload_n S d_Mod_against_92 rfl rfl ?_
            refine a_i2l S d_Mod_against_93 ?_
            refine a_callS S (rest := []) lg_Mod_184 (c_Mod_order X.2.1 D ((nI x.length).toInt64) ((nI y.length).toInt64) w n) (by decide) (by omega) (by omega) rfl (Nat.le_of_ble_eq_true rfl) d_Mod_against_94 (fun v7 w8 n9 p10 => ?_)
            obtain ⟨rfl, e11, e12⟩ := p10
            rw [e11, e12]
            refine a_st (st' := [.int (Int32.ofInt (ordI ((nI x.length).toInt64).toInt ((nI y.length).toInt64).toInt))]) rfl ?_
            exact RT _ _ _ _ _ _ _ d_Mod_against_97 (by omega) (by omega) ⟨by rw [od_e (by omega) (by omega) hi hi2 hE hs], rfl, rfl⟩
          · have h2_ : i < y.length := Nat.not_le.mp fun z => hb_ ((nI_leI (by omega) (by omega)).mpr z)
            have hbx := getD_lt hx i
            have hby := getD_lt hy i
            refine a_iload_n S d_Mod_against_33 rfl rfl ?_
            refine a_if_eq S (tgt := 46) d_Mod_against_34 rfl (fun h34 => ?_) (fun h34 => ?_)
            · exact absurd h34 (by decide)
            · refine a_aload_n S d_Mod_against_37 rfl rfl ?_
              refine a_get S kc_Mod 17 (by decide) lf_Mod_45 h0 rfl d_Mod_against_38 ?_
              refine a_iload_n S d_Mod_against_41 rfl rfl ?_
              refine a_iald S (i := i) h12 rfl (by omega) (by decide) d_Mod_against_42 ?_
              refine a_eqi (hty i h2_) ?_
              refine a_goto S (tgt := 52) d_Mod_against_43 rfl ?_
              refine a_istore S d_Mod_against_52 (Nat.le_of_ble_eq_true rfl) (lv' := [(0, .ref b), (1, .int 1), (2, .int (nI y.length)), (3, .int (nI i)), (4, .int (nI (y.getD i 0)))]) rfl ?_
              refine a_aload_n S d_Mod_against_54 rfl rfl ?_
              refine a_get S kc_Mod 13 (by decide) lf_Mod_36 h0 rfl d_Mod_against_55 ?_
              refine a_iload_n S d_Mod_against_58 rfl rfl ?_
              refine a_iald S (i := i) h9 rfl (by omega) (by decide) d_Mod_against_59 ?_
              refine a_eqi (htx i h1_) ?_
              refine a_iload S d_Mod_against_60 rfl ?_
              refine a_icmp_eq S (tgt := 79) d_Mod_against_62 rfl (fun hq_ => ?_) (fun hq_ => ?_)
              · have he_ : x.getD i 0 = y.getD i 0 := (nI_eq (by omega) (by omega)).mp hq_
                refine a_iinc S (v := nI (i + 1)) d_Mod_against_79 rfl (ni_add rfl (by decide)) (Nat.le_of_ble_eq_true rfl) (lv' := [(0, .ref b), (1, .int 1), (2, .int (nI y.length)), (3, .int (nI (i + 1))), (4, .int (nI (y.getD i 0)))]) rfl ?_
                refine a_goto S (tgt := 18) d_Mod_against_82 rfl ?_
                refine a_lv [0, 1, 2, 3] (lv' := [(0, .ref b), (1, .int 1), (2, .int (nI y.length)), (3, .int (nI (i + 1)))]) rfl ?_
                exact ih18 _ (by omega) (i + 1) rfl (by omega) (by omega) (by rw [hs, cm_s h1_ h2_ he_])
              · have he_ : ¬ x.getD i 0 = y.getD i 0 := fun z => hq_ (by rw [z])
                refine a_aload_n S d_Mod_against_65 rfl rfl ?_
                refine a_get S kc_Mod 13 (by decide) lf_Mod_36 h0 rfl d_Mod_against_66 ?_
                refine a_iload_n S d_Mod_against_69 rfl rfl ?_
                refine a_iald S (i := i) h9 rfl (by omega) (by decide) d_Mod_against_70 ?_
                refine a_eqi (htx i h1_) ?_
                refine a_i2l S d_Mod_against_71 ?_
                refine a_iload S d_Mod_against_72 rfl ?_
                refine a_i2l S d_Mod_against_74 ?_
                refine a_callS S (rest := []) lg_Mod_184 (c_Mod_order X.2.1 D ((nI (x.getD i 0)).toInt64) ((nI (y.getD i 0)).toInt64) w n) (by decide) (by omega) (by omega) rfl (Nat.le_of_ble_eq_true rfl) d_Mod_against_75 (fun v13 w14 n15 p16 => ?_)
                obtain ⟨rfl, e17, e18⟩ := p16
                rw [e17, e18]
                refine a_st (st' := [.int (Int32.ofInt (ordI ((nI (x.getD i 0)).toInt64).toInt ((nI (y.getD i 0)).toInt64).toInt))]) rfl ?_
                exact RT _ _ _ _ _ _ _ d_Mod_against_78 (by omega) (by omega) ⟨by rw [od_n hx hy h1_ h2_ he_ hs], rfl, rfl⟩
    exact loop18 _ 0 rfl (Nat.zero_le _) (Nat.zero_le _) rfl
set_option maxHeartbeats 400000 in
set_option maxRecDepth 100000 in
theorem c_Mod_against0 (l : Launch) (D : kD) (b : Nat) (th : Int32) (fd : Nat) (sl : Bool) (ki fl : Nat → Int32) (va : Nat → Int64) (fo go si te : Nat → Int32) (kp : Nat) (ro : Nat → Int32) (rs : Nat) (ma : Nat → Int32) (sz : Nat) (en ms lw hw : Nat → Int32) (ls : Nat) (pt : Nat) (bd : Bool) (x y : List Nat) (w : ww) (n : Nat) (hx : ∀ b ∈ x, b < 256) (hy : ∀ b ∈ y, b < 256) (hx2 : x.length ≤ 200) (hy2 : y.length ≤ 200) (hsx : ms 0 = nI x.length) (htx : ∀ i, i < x.length → ma i = nI (x.getD i 0)) (hty : ∀ i, i < y.length → hw i = nI (y.getD i 0)) (h : Mo D w b th fd sl ki fl va fo go si te kp ro rs ma sz en ms lw hw ls (nI y.length) pt bd) : AM l D M_Mod_against 1 0 0 [.ref b, .int 0] w n (fun v w' n' => v = some (.int (Int32.ofInt (cmpB x y))) ∧ w' = w ∧ n' = n) := by
  refine AM.ofi (by decide +kernel) rfl (Nat.le_of_ble_eq_true rfl) (fun X A Q hin S RT => ?_)
  have S : FX X (D, A, 5, Q) prog_9_method_58_code "KeyCodecModel" 1 0 0 := S
  have RT : RTi X (D, A, 5, Q) prog_9_method_58_code 0 0 _ := RT
  obtain ⟨h0, h1, h2, h3, h4, h5, h6, h7, h8, h9, h10, h11, h12, h13⟩ := h
  refine a_lve (lv' := [(0, .ref b), (1, .int 0)]) rfl ?_
  have fr : Fr w w b 14 := Fr.refl _ _ _
  refine a_iload_n S d_Mod_against_0 rfl rfl ?_
  refine a_if_eq S (tgt := 11) d_Mod_against_1 rfl (fun hone => ?_) (fun hone => ?_)
  · refine a_aload_n S d_Mod_against_11 rfl rfl ?_
    refine a_get S kc_Mod 20 (by decide) lf_Mod_51 h0 rfl d_Mod_against_12 ?_
    refine a_istore_n S d_Mod_against_15 rfl (Nat.le_of_ble_eq_true rfl) (lv' := [(0, .ref b), (1, .int 0), (2, .int (nI y.length))]) rfl ?_
    refine a_iconst S (v := 0) d_Mod_against_16 (by decide) ?_
    refine a_istore_n S d_Mod_against_17 rfl (Nat.le_of_ble_eq_true rfl) (lv' := [(0, .ref b), (1, .int 0), (2, .int (nI y.length)), (3, .int 0)]) rfl ?_
    have loop18 : ∀ (kk18 : Nat) (i : Nat), x.length - i = kk18 → (i ≤ x.length) → (i ≤ y.length) → (cmpB x y = cmpB (x.drop i) (y.drop i)) → AW X (D, A, 5, Q) 18 [(0, .ref b), (1, .int 0), (2, .int (nI y.length)), (3, .int (nI i))] [] w n 0 0 := by
      intro kk18
      induction kk18 using Nat.strongRecOn with
      | ind kk18 ih18 =>
        intro i hk18 hi hi2 hs
        refine a_iload_n S d_Mod_against_18 rfl rfl ?_
        refine a_aload_n S d_Mod_against_19 rfl rfl ?_
        refine a_get S kc_Mod 16 (by decide) lf_Mod_42 h0 rfl d_Mod_against_20 ?_
        refine a_iconst S (v := 0) d_Mod_against_23 (by decide) ?_
        refine a_iald S (i := 0) h11 rfl (by omega) (by decide) d_Mod_against_24 ?_
        refine a_eqi hsx ?_
        refine a_icmp_ge S (tgt := 85) d_Mod_against_25 rfl (fun ha_ => ?_) (fun ha_ => ?_)
        · have hE : x.length ≤ i ∨ y.length ≤ i := Or.inl ((nI_leI (by omega) (by omega)).mp ha_)
          refine a_aload_n S d_Mod_against_85 rfl rfl ?_
          refine a_get S kc_Mod 16 (by decide) lf_Mod_42 h0 rfl d_Mod_against_86 ?_
          refine a_iconst S (v := 0) d_Mod_against_89 (by decide) ?_
          refine a_iald S (i := 0) h11 rfl (by omega) (by decide) d_Mod_against_90 ?_
          refine a_eqi hsx ?_
          refine a_i2l S d_Mod_against_91 ?_
          refine a_iload_n S d_Mod_against_92 rfl rfl ?_
          refine a_i2l S d_Mod_against_93 ?_
          refine a_callS S (rest := []) lg_Mod_184 (c_Mod_order X.2.1 D ((nI x.length).toInt64) ((nI y.length).toInt64) w n) (by decide) (by omega) (by omega) rfl (Nat.le_of_ble_eq_true rfl) d_Mod_against_94 (fun v1 w2 n3 p4 => ?_)
          obtain ⟨rfl, e5, e6⟩ := p4
          rw [e5, e6]
          refine a_st (st' := [.int (Int32.ofInt (ordI ((nI x.length).toInt64).toInt ((nI y.length).toInt64).toInt))]) rfl ?_
          exact RT _ _ _ _ _ _ _ d_Mod_against_97 (by omega) (by omega) ⟨by rw [od_e (by omega) (by omega) hi hi2 hE hs], rfl, rfl⟩
        · have h1_ : i < x.length := Nat.not_le.mp fun z => ha_ ((nI_leI (by omega) (by omega)).mpr z)
          refine a_iload_n S d_Mod_against_28 rfl rfl ?_
          refine a_iload_n S d_Mod_against_29 rfl rfl ?_
          refine a_icmp_ge S (tgt := 85) d_Mod_against_30 rfl (fun hb_ => ?_) (fun hb_ => ?_)
          · have hE : x.length ≤ i ∨ y.length ≤ i := Or.inr ((nI_leI (by omega) (by omega)).mp hb_)
            refine a_aload_n S d_Mod_against_85 rfl rfl ?_
            refine a_get S kc_Mod 16 (by decide) lf_Mod_42 h0 rfl d_Mod_against_86 ?_
            refine a_iconst S (v := 0) d_Mod_against_89 (by decide) ?_
            refine a_iald S (i := 0) h11 rfl (by omega) (by decide) d_Mod_against_90 ?_
            refine a_eqi hsx ?_
            refine a_i2l S d_Mod_against_91 ?_
            refine a_iload_n S d_Mod_against_92 rfl rfl ?_
            refine a_i2l S d_Mod_against_93 ?_
            refine a_callS S (rest := []) lg_Mod_184 (c_Mod_order X.2.1 D ((nI x.length).toInt64) ((nI y.length).toInt64) w n) (by decide) (by omega) (by omega) rfl (Nat.le_of_ble_eq_true rfl) d_Mod_against_94 (fun v7 w8 n9 p10 => ?_)
            obtain ⟨rfl, e11, e12⟩ := p10
            rw [e11, e12]
            refine a_st (st' := [.int (Int32.ofInt (ordI ((nI x.length).toInt64).toInt ((nI y.length).toInt64).toInt))]) rfl ?_
            exact RT _ _ _ _ _ _ _ d_Mod_against_97 (by omega) (by omega) ⟨by rw [od_e (by omega) (by omega) hi hi2 hE hs], rfl, rfl⟩
          · have h2_ : i < y.length := Nat.not_le.mp fun z => hb_ ((nI_leI (by omega) (by omega)).mpr z)
            have hbx := getD_lt hx i
            have hby := getD_lt hy i
            refine a_iload_n S d_Mod_against_33 rfl rfl ?_
            refine a_if_eq S (tgt := 46) d_Mod_against_34 rfl (fun h34 => ?_) (fun h34 => ?_)
            · refine a_aload_n S d_Mod_against_46 rfl rfl ?_
              refine a_get S kc_Mod 18 (by decide) lf_Mod_48 h0 rfl d_Mod_against_47 ?_
              refine a_iload_n S d_Mod_against_50 rfl rfl ?_
              refine a_iald S (i := i) h13 rfl (by omega) (by decide) d_Mod_against_51 ?_
              refine a_eqi (hty i h2_) ?_
              refine a_istore S d_Mod_against_52 (Nat.le_of_ble_eq_true rfl) (lv' := [(0, .ref b), (1, .int 0), (2, .int (nI y.length)), (3, .int (nI i)), (4, .int (nI (y.getD i 0)))]) rfl ?_
              refine a_aload_n S d_Mod_against_54 rfl rfl ?_
              refine a_get S kc_Mod 13 (by decide) lf_Mod_36 h0 rfl d_Mod_against_55 ?_
              refine a_iload_n S d_Mod_against_58 rfl rfl ?_
              refine a_iald S (i := i) h9 rfl (by omega) (by decide) d_Mod_against_59 ?_
              refine a_eqi (htx i h1_) ?_
              refine a_iload S d_Mod_against_60 rfl ?_
              refine a_icmp_eq S (tgt := 79) d_Mod_against_62 rfl (fun hq_ => ?_) (fun hq_ => ?_)
              · have he_ : x.getD i 0 = y.getD i 0 := (nI_eq (by omega) (by omega)).mp hq_
                refine a_iinc S (v := nI (i + 1)) d_Mod_against_79 rfl (ni_add rfl (by decide)) (Nat.le_of_ble_eq_true rfl) (lv' := [(0, .ref b), (1, .int 0), (2, .int (nI y.length)), (3, .int (nI (i + 1))), (4, .int (nI (y.getD i 0)))]) rfl ?_
                refine a_goto S (tgt := 18) d_Mod_against_82 rfl ?_
                refine a_lv [0, 1, 2, 3] (lv' := [(0, .ref b), (1, .int 0), (2, .int (nI y.length)), (3, .int (nI (i + 1)))]) rfl ?_
                exact ih18 _ (by omega) (i + 1) rfl (by omega) (by omega) (by rw [hs, cm_s h1_ h2_ he_])
              · have he_ : ¬ x.getD i 0 = y.getD i 0 := fun z => hq_ (by rw [z])
                refine a_aload_n S d_Mod_against_65 rfl rfl ?_
                refine a_get S kc_Mod 13 (by decide) lf_Mod_36 h0 rfl d_Mod_against_66 ?_
                refine a_iload_n S d_Mod_against_69 rfl rfl ?_
                refine a_iald S (i := i) h9 rfl (by omega) (by decide) d_Mod_against_70 ?_
                refine a_eqi (htx i h1_) ?_
                refine a_i2l S d_Mod_against_71 ?_
                refine a_iload S d_Mod_against_72 rfl ?_
                refine a_i2l S d_Mod_against_74 ?_
                refine a_callS S (rest := []) lg_Mod_184 (c_Mod_order X.2.1 D ((nI (x.getD i 0)).toInt64) ((nI (y.getD i 0)).toInt64) w n) (by decide) (by omega) (by omega) rfl (Nat.le_of_ble_eq_true rfl) d_Mod_against_75 (fun v13 w14 n15 p16 => ?_)
                obtain ⟨rfl, e17, e18⟩ := p16
                rw [e17, e18]
                refine a_st (st' := [.int (Int32.ofInt (ordI ((nI (x.getD i 0)).toInt64).toInt ((nI (y.getD i 0)).toInt64).toInt))]) rfl ?_
                exact RT _ _ _ _ _ _ _ d_Mod_against_78 (by omega) (by omega) ⟨by rw [od_n hx hy h1_ h2_ he_ hs], rfl, rfl⟩
            · exact absurd (by decide) h34
    exact loop18 _ 0 rfl (Nat.zero_le _) (Nat.zero_le _) rfl
  · exact absurd (by decide) hone
set_option maxHeartbeats 400000 in
set_option maxRecDepth 100000 in
theorem c_Mod_within (l : Launch) (D : kD) (b : Nat) (th : Int32) (c : Nat) (s : Bool) (K F : Nat → Nat) (L : Nat → kV) (kr : List Nat) (m : Nat) (KT : Nat → Nat → kV) (lo hi : List Nat) (he : Bool) (i : Int32) (w : ww) (n : Nat) (hV : VI c s K F L m KT) (h : Mdl D w b th c s K F L kr m KT lo hi he) : AM l D M_Mod_within 4 0 0 [.ref b, .int i] w n (fun v w' n' => ((∃ t, t < m ∧ i = nI t ∧ v = some (.int (if wiB ((kyT K F KT c) t) lo hi he then 1 else 0))) ∨ ((∀ t, t < m → i = nI t → False) ∧ v = some (.int 0))) ∧ n' = n ∧ Fr w w' b 14 ∧ Mdl D w' b 0 c s K F L kr m KT lo hi he) := by
  refine AM.ofz (by decide +kernel) rfl (Nat.le_of_ble_eq_true rfl) (fun X A Q hin S RT => ?_)
  have S : FX X (D, A, 2, Q) prog_9_method_59_code "KeyCodecModel" 4 0 0 := S
  have RT : RTz X (D, A, 2, Q) prog_9_method_59_code 0 0 _ := RT
  obtain ⟨ki, fl, va, fo, go, si, te, ro, ma, sz, en, ms, lw, hw, pt, bd, h, hI, hG⟩ := h
  obtain ⟨h0, h1, h2, h3, h4, h5, h6, h7, h8, h9, h10, h11, h12, h13⟩ := h
  have hc5 := hI.1
  have hm12 := hI.2.1
  have hkr := hI.2.2.1
  have hlo := hI.2.2.2.1
  have hhi := hI.2.2.2.2.1
  have hkf := hI.2.2.2.2.2.1
  refine a_lve (lv' := [(0, .ref b), (1, .int i)]) rfl ?_
  have fr : Fr w w b 14 := Fr.refl _ _ _
  refine a_aload_n S d_Mod_within_0 rfl rfl ?_
  refine a_iconst S (v := 0) d_Mod_within_1 (by decide) ?_
  refine a_put S kc_Mod kt_Mod 0 (by decide) lf_Mod_55 rfl h0 rfl rfl (Nat.le_of_ble_eq_true rfl) d_Mod_within_2 (fun w1 h0 e2 => ?_)
  have h0 : w1 b = some (.inr (6, [.int 0, .int (nI c), .int (if s then 1 else 0), .ref (b + 1), .ref (b + 2), .ref (b + 3), .ref (b + 4), .ref (b + 5), .ref (b + 6), .ref (b + 7), .int (nI m), .ref (b + 8), .int (nI kr.length), .ref (b + 9), .int (nI sz), .ref (b + 10), .ref (b + 11), .ref (b + 12), .ref (b + 13), .int (nI lo.length), .int (if he then nI hi.length else -1), .int (nI pt), .int (if bd then 1 else 0)])) := h0
  have fr := fr.trans (Fr.sub (Fr.of1 e2) (by omega) (by omega))
  have h1 := Fr.cell (Fr.of1 e2) h1 (by omega)
  have h2 := Fr.cell (Fr.of1 e2) h2 (by omega)
  have h3 := Fr.cell (Fr.of1 e2) h3 (by omega)
  have h4 := Fr.cell (Fr.of1 e2) h4 (by omega)
  have h5 := Fr.cell (Fr.of1 e2) h5 (by omega)
  have h6 := Fr.cell (Fr.of1 e2) h6 (by omega)
  have h7 := Fr.cell (Fr.of1 e2) h7 (by omega)
  have h8 := Fr.cell (Fr.of1 e2) h8 (by omega)
  have h9 := Fr.cell (Fr.of1 e2) h9 (by omega)
  have h10 := Fr.cell (Fr.of1 e2) h10 (by omega)
  have h11 := Fr.cell (Fr.of1 e2) h11 (by omega)
  have h12 := Fr.cell (Fr.of1 e2) h12 (by omega)
  have h13 := Fr.cell (Fr.of1 e2) h13 (by omega)
  refine a_aload_n S d_Mod_within_5 rfl rfl ?_
  refine a_iload_n S d_Mod_within_6 rfl rfl ?_
  refine a_callV S (rest := []) lg_Mod_177 h0 (c_Mod_isKept X.2.1 D b 0 c s ki fl va fo go si te m ro kr.length ma sz en ms lw hw lo.length (if he then nI hi.length else -1) pt bd i w1 n  ⟨h0, h1, h2, h3, h4, h5, h6, h7, h8, h9, h10, h11, h12, h13⟩) (by decide) (by omega) (by omega) rfl (Nat.le_of_ble_eq_true rfl) d_Mod_within_7 (fun v3 w4 n5 p6 => ?_)
  obtain ⟨rfl, e7, e8⟩ := p6
  rw [e7, e8]
  refine a_st (st' := [.int (if usB true m i then 1 else 0)]) rfl ?_
  refine a_if_ne S (tgt := 15) d_Mod_within_10 rfl (fun hu_ => ?_) (fun hu_ => ?_)
  · obtain ⟨hs_t, t, ht, rfl⟩ := usB_ix (by omega) (bo_1 hu_)
    have ok_t := (hV.2 t ht).2
    have kl_t := keyB_l ok_t hc5
    refine a_aload_n S d_Mod_within_15 rfl rfl ?_
    refine a_iconst S (v := 0) d_Mod_within_16 (by decide) ?_
    refine a_iload_n S d_Mod_within_17 rfl rfl ?_
    refine a_iconst S (v := 1) d_Mod_within_18 (by decide) ?_
    refine a_iadd S d_Mod_within_19 ?_
    refine a_eqi (y := nI (t + 1)) (ni_add rfl rfl) ?_
    refine a_callV S (rest := []) lg_Mod_136 h0 (c_Mod_make X.2.1 D b 0 c s ki fl va fo go si te m ro kr.length ma sz en ms lw hw lo.length (if he then nI hi.length else -1) pt bd 0 (t + 1) K F (KT t) w1 n (by decide) (by omega) hc5 hkf (hI.v1 ht) ok_t ⟨h0, h1, h2, h3, h4, h5, h6, h7, h8, h9, h10, h11, h12, h13⟩) (by decide) (by omega) (by omega) rfl (Nat.le_of_ble_eq_true rfl) d_Mod_within_20 (fun v9 w10 n11 p12 => ?_)
    obtain ⟨en_15, rfl, e14, f13, ⟨h0, h1, h2, h3, h4, h5, h6, h7, h8, h9, h10, h11, h12, h13⟩, hE16⟩ := p12
    rw [e14]
    refine a_st (st' := []) rfl ?_
    have fr := fr.trans (Fr.sub f13 (by omega) (by omega))
    refine a_aload_n S d_Mod_within_23 rfl rfl ?_
    refine a_iconst S (v := 1) d_Mod_within_24 (by decide) ?_
    refine a_callV S (rest := []) lg_Mod_218 h0 (c_Mod_against1 X.2.1 D b 0 c s ki fl va fo go si te m ro kr.length (wrL ma (200 * 0) (keyB K F (KT t) c)) ((keyB K F (KT t) c).length) en_15 (upd ms 0 (nI (keyB K F (KT t) c).length)) lw hw (if he then nI hi.length else -1) pt bd (keyB K F (KT t) c) lo w10 n (keyB_lt ok_t) hI.2.2.2.2.2.2.2.2.2.2.1 (by omega) (by omega) pk_us (fun i hi => wr0 hi) hI.2.2.2.2.2.2.2.2.2.2.2.1 ⟨h0, h1, h2, h3, h4, h5, h6, h7, h8, h9, h10, h11, h12, h13⟩) (by decide) (by omega) (by omega) rfl (Nat.le_of_ble_eq_true rfl) d_Mod_within_25 (fun v17 w18 n19 p20 => ?_)
    obtain ⟨rfl, e21, e22⟩ := p20
    rw [e21, e22]
    refine a_st (st' := [.int (Int32.ofInt (cmpB (keyB K F (KT t) c) lo))]) rfl ?_
    refine a_if_lt S (tgt := 51) d_Mod_within_28 rfl (fun h28 => ?_) (fun h28 => ?_)
    · have hw_ : wiB ((kyT K F KT c) t) lo hi he = false := wi_1 h28
      refine a_iconst S (v := 0) d_Mod_within_51 (by decide) ?_
      exact RT _ _ _ _ _ _ _ d_Mod_within_52 rfl (by omega) (by omega) ⟨Or.inl ⟨t, ht, rfl, (by rw [hw_]; rfl)⟩, rfl, fr, ⟨_, _, _, _, _, _, _, _, _, _, _, _, _, _, _, _, ⟨h0, h1, h2, h3, h4, h5, h6, h7, h8, h9, h10, h11, h12, h13⟩, hI, hG⟩⟩
    · refine a_aload_n S d_Mod_within_31 rfl rfl ?_
      refine a_get S kc_Mod 20 (by decide) lf_Mod_51 h0 rfl d_Mod_within_32 ?_
      refine a_iconst S (v := (-1)) d_Mod_within_35 (by decide) ?_
      refine a_icmp_eq S (tgt := 47) d_Mod_within_36 rfl (fun h36 => ?_) (fun h36 => ?_)
      · have hw_ : wiB ((kyT K F KT c) t) lo hi he = true := wi_2 h28 (hz_no (by omega) h36)
        refine a_iconst S (v := 1) d_Mod_within_47 (by decide) ?_
        refine a_goto S (tgt := 52) d_Mod_within_48 rfl ?_
        exact RT _ _ _ _ _ _ _ d_Mod_within_52 rfl (by omega) (by omega) ⟨Or.inl ⟨t, ht, rfl, (by rw [hw_]; rfl)⟩, rfl, fr, ⟨_, _, _, _, _, _, _, _, _, _, _, _, _, _, _, _, ⟨h0, h1, h2, h3, h4, h5, h6, h7, h8, h9, h10, h11, h12, h13⟩, hI, hG⟩⟩
      · have hT : he = true := hz_yes h36
        subst hT
        have h0 : w10 b = some (.inr (6, [.int 0, .int (nI c), .int (if s then 1 else 0), .ref (b + 1), .ref (b + 2), .ref (b + 3), .ref (b + 4), .ref (b + 5), .ref (b + 6), .ref (b + 7), .int (nI m), .ref (b + 8), .int (nI kr.length), .ref (b + 9), .int (nI ((keyB K F (KT t) c).length)), .ref (b + 10), .ref (b + 11), .ref (b + 12), .ref (b + 13), .int (nI lo.length), .int (nI hi.length), .int (nI pt), .int (if bd then 1 else 0)])) := h0
        refine a_aload_n S d_Mod_within_39 rfl rfl ?_
        refine a_iconst S (v := 0) d_Mod_within_40 (by decide) ?_
        refine a_callV S (rest := []) lg_Mod_218 h0 (c_Mod_against0 X.2.1 D b 0 c s ki fl va fo go si te m ro kr.length (wrL ma (200 * 0) (keyB K F (KT t) c)) ((keyB K F (KT t) c).length) en_15 (upd ms 0 (nI (keyB K F (KT t) c).length)) lw hw lo.length pt bd (keyB K F (KT t) c) hi w10 n (keyB_lt ok_t) (hI.2.2.2.2.2.2.2.2.2.2.2.2 rfl).1 (by omega) (by omega) pk_us (fun i hi => wr0 hi) (hI.2.2.2.2.2.2.2.2.2.2.2.2 rfl).2 ⟨h0, h1, h2, h3, h4, h5, h6, h7, h8, h9, h10, h11, h12, h13⟩) (by decide) (by omega) (by omega) rfl (Nat.le_of_ble_eq_true rfl) d_Mod_within_41 (fun v23 w24 n25 p26 => ?_)
        obtain ⟨rfl, e27, e28⟩ := p26
        rw [e27, e28]
        refine a_st (st' := [.int (Int32.ofInt (cmpB (keyB K F (KT t) c) hi))]) rfl ?_
        refine a_if_ge S (tgt := 51) d_Mod_within_44 rfl (fun h44 => ?_) (fun h44 => ?_)
        · have hw_ : wiB ((kyT K F KT c) t) lo hi true = false := wi_4 rfl (k2_nlt h44)
          refine a_iconst S (v := 0) d_Mod_within_51 (by decide) ?_
          exact RT _ _ _ _ _ _ _ d_Mod_within_52 rfl (by omega) (by omega) ⟨Or.inl ⟨t, ht, rfl, (by rw [hw_]; rfl)⟩, rfl, fr, ⟨_, _, _, _, _, _, _, _, _, _, _, _, _, _, _, _, ⟨h0, h1, h2, h3, h4, h5, h6, h7, h8, h9, h10, h11, h12, h13⟩, hI, hG⟩⟩
        · have hw_ : wiB ((kyT K F KT c) t) lo hi true = true := wi_3 h28 (k2_lt h44)
          refine a_iconst S (v := 1) d_Mod_within_47 (by decide) ?_
          refine a_goto S (tgt := 52) d_Mod_within_48 rfl ?_
          exact RT _ _ _ _ _ _ _ d_Mod_within_52 rfl (by omega) (by omega) ⟨Or.inl ⟨t, ht, rfl, (by rw [hw_]; rfl)⟩, rfl, fr, ⟨_, _, _, _, _, _, _, _, _, _, _, _, _, _, _, _, ⟨h0, h1, h2, h3, h4, h5, h6, h7, h8, h9, h10, h11, h12, h13⟩, hI, hG⟩⟩
  · have hx : ∀ t, t < m → i = nI t → False := fun t ht e => usB_no (by omega) (bo_0 hu_) ht rfl e
    refine a_iconst S (v := 0) d_Mod_within_13 (by decide) ?_
    exact RT _ _ _ _ _ _ _ d_Mod_within_14 rfl (by omega) (by omega) ⟨Or.inr ⟨hx, rfl⟩, rfl, fr, ⟨_, _, _, _, _, _, _, _, _, _, _, _, _, _, _, _, ⟨h0, h1, h2, h3, h4, h5, h6, h7, h8, h9, h10, h11, h12, h13⟩, hI, hG⟩⟩
set_option maxHeartbeats 400000 in
set_option maxRecDepth 100000 in
theorem c_Mod_extend1 (l : Launch) (D : kD) (b : Nat) (th : Int32) (fd : Nat) (sl : Bool) (ki fl : Nat → Int32) (va : Nat → Int64) (fo go si te : Nat → Int32) (kp : Nat) (ro : Nat → Int32) (rs : Nat) (ma : Nat → Int32) (sz : Nat) (en ms lw hw : Nat → Int32) (ls : Nat) (hz : Int32) (pt : Nat) (bd : Bool) (p q : Nat) (z : List Nat) (w : ww) (n : Nat) (hq : q = p + z.length) (hp : q ≤ 200) (hl : ls + z.length ≤ 200) (hma : ∀ i, i < z.length → ma (p + i) = nI (z.getD i 0)) (h : Mo D w b th fd sl ki fl va fo go si te kp ro rs ma sz en ms lw hw ls hz pt bd) : AM l D M_Mod_extend 0 0 0 [.ref b, .int 1, .int (nI p), .int (nI q)] w n (fun v w' n' => v = none ∧ n' = n ∧ Fr w w' b 14 ∧ Mo D w' b th fd sl ki fl va fo go si te kp ro rs ma sz en ms (wrL lw ls z) hw (ls + z.length) hz pt bd) := by
  refine AM.ofv (by decide +kernel) rfl (Nat.le_of_ble_eq_true rfl) (fun X A Q hin S RT => ?_)
  have S : FX X (D, A, 5, Q) prog_9_method_55_code "KeyCodecModel" 0 0 0 := S
  have RT : RTv X (D, A, 5, Q) prog_9_method_55_code 0 0 _ := RT
  obtain ⟨h0, h1, h2, h3, h4, h5, h6, h7, h8, h9, h10, h11, h12, h13⟩ := h
  refine a_lve (lv' := [(0, .ref b), (1, .int 1), (2, .int (nI p)), (3, .int (nI q))]) rfl ?_
  have fr : Fr w w b 14 := Fr.refl _ _ _
  refine a_iload_n S d_Mod_extend_0 rfl rfl ?_
  refine a_istore S d_Mod_extend_1 (Nat.le_of_ble_eq_true rfl) (lv' := [(0, .ref b), (1, .int 1), (2, .int (nI p)), (3, .int (nI q)), (4, .int (nI p))]) rfl ?_
  have loop3 : ∀ (kk3 : Nat) (i : Nat) (w1 : ww), z.length - i = kk3 → (i ≤ z.length) → (Fr w w1 b 14) → (Mo D w1 b th fd sl ki fl va fo go si te kp ro rs ma sz en ms (wrL lw ls (z.take i)) hw (ls + i) hz pt bd) → AW X (D, A, 5, Q) 3 [(0, .ref b), (1, .int 1), (2, .int (nI p)), (3, .int (nI q)), (4, .int (nI (p + i)))] [] w1 n 0 0 := by
    intro kk3
    induction kk3 using Nat.strongRecOn with
    | ind kk3 ih3 =>
      intro i w1 hk3 hi fr h
      obtain ⟨h0, h1, h2, h3, h4, h5, h6, h7, h8, h9, h10, h11, h12, h13⟩ := h
      refine a_iload S d_Mod_extend_3 rfl ?_
      refine a_iload_n S d_Mod_extend_5 rfl rfl ?_
      refine a_icmp_ge S (tgt := 74) d_Mod_extend_6 rfl (fun h6_ => ?_) (fun h6_ => ?_)
      · have hi : i = z.length := by have := (nI_leI (by omega) (by omega)).mp h6_; omega
        exact RT _ _ _ _ _ _ d_Mod_extend_74 (by omega) (by omega) (by rw [hi, List.take_length] at h12; rw [hi] at h0; exact ⟨rfl, rfl, fr, h0, h1, h2, h3, h4, h5, h6, h7, h8, h9, h10, h11, h12, h13⟩)
      · have hi2 : ¬ q ≤ p + i := fun z => h6_ ((nI_leI (by omega) (by omega)).mpr z)
        have hi : i < z.length := by omega
        refine a_iload_n S d_Mod_extend_9 rfl rfl ?_
        refine a_if_eq S (tgt := 42) d_Mod_extend_10 rfl (fun h10_ => ?_) (fun h10_ => ?_)
        · exact absurd h10_ (by decide)
        · refine a_aload_n S d_Mod_extend_13 rfl rfl ?_
          refine a_get S kc_Mod 17 (by decide) lf_Mod_45 h0 rfl d_Mod_extend_14 ?_
          refine a_aload_n S d_Mod_extend_17 rfl rfl ?_
          refine a_get S kc_Mod 19 (by decide) lf_Mod_211 h0 rfl d_Mod_extend_18 ?_
          refine a_aload_n S d_Mod_extend_21 rfl rfl ?_
          refine a_get S kc_Mod 13 (by decide) lf_Mod_36 h0 rfl d_Mod_extend_22 ?_
          refine a_iload S d_Mod_extend_25 rfl ?_
          refine a_iald S (i := p + i) h9 rfl (by omega) (by decide) d_Mod_extend_27 ?_
          refine a_eqi (hma i hi) ?_
          refine a_iast S (i := (ls + i)) h12 rfl (by omega) (by decide) d_Mod_extend_28 (fun w1 h12 e2 => ?_)
          have fr := fr.trans (Fr.sub (Fr.of1 e2) (by omega) (by omega))
          have h0 := Fr.cell (Fr.of1 e2) h0 (by omega)
          have h1 := Fr.cell (Fr.of1 e2) h1 (by omega)
          have h2 := Fr.cell (Fr.of1 e2) h2 (by omega)
          have h3 := Fr.cell (Fr.of1 e2) h3 (by omega)
          have h4 := Fr.cell (Fr.of1 e2) h4 (by omega)
          have h5 := Fr.cell (Fr.of1 e2) h5 (by omega)
          have h6 := Fr.cell (Fr.of1 e2) h6 (by omega)
          have h7 := Fr.cell (Fr.of1 e2) h7 (by omega)
          have h8 := Fr.cell (Fr.of1 e2) h8 (by omega)
          have h9 := Fr.cell (Fr.of1 e2) h9 (by omega)
          have h10 := Fr.cell (Fr.of1 e2) h10 (by omega)
          have h11 := Fr.cell (Fr.of1 e2) h11 (by omega)
          have h13 := Fr.cell (Fr.of1 e2) h13 (by omega)
          refine a_aload_n S d_Mod_extend_29 rfl rfl ?_
          refine a_dup S d_Mod_extend_30 rfl ?_
          refine a_get S kc_Mod 19 (by decide) lf_Mod_211 h0 rfl d_Mod_extend_31 ?_
          refine a_iconst S (v := 1) d_Mod_extend_34 (by decide) ?_
          refine a_iadd S d_Mod_extend_35 ?_
          refine a_eqi (y := nI ((ls + i) + 1)) (ni_add rfl rfl) ?_
          refine a_put S kc_Mod kt_Mod 19 (by decide) lf_Mod_211 rfl h0 rfl rfl (Nat.le_of_ble_eq_true rfl) d_Mod_extend_36 (fun w3 h0 e4 => ?_)
          have h0 : w3 b = some (.inr (6, [.int th, .int (nI fd), .int (if sl then 1 else 0), .ref (b + 1), .ref (b + 2), .ref (b + 3), .ref (b + 4), .ref (b + 5), .ref (b + 6), .ref (b + 7), .int (nI kp), .ref (b + 8), .int (nI rs), .ref (b + 9), .int (nI sz), .ref (b + 10), .ref (b + 11), .ref (b + 12), .ref (b + 13), .int (nI ((ls + i) + 1)), .int hz, .int (nI pt), .int (if bd then 1 else 0)])) := h0
          have fr := fr.trans (Fr.sub (Fr.of1 e4) (by omega) (by omega))
          have h1 := Fr.cell (Fr.of1 e4) h1 (by omega)
          have h2 := Fr.cell (Fr.of1 e4) h2 (by omega)
          have h3 := Fr.cell (Fr.of1 e4) h3 (by omega)
          have h4 := Fr.cell (Fr.of1 e4) h4 (by omega)
          have h5 := Fr.cell (Fr.of1 e4) h5 (by omega)
          have h6 := Fr.cell (Fr.of1 e4) h6 (by omega)
          have h7 := Fr.cell (Fr.of1 e4) h7 (by omega)
          have h8 := Fr.cell (Fr.of1 e4) h8 (by omega)
          have h9 := Fr.cell (Fr.of1 e4) h9 (by omega)
          have h10 := Fr.cell (Fr.of1 e4) h10 (by omega)
          have h11 := Fr.cell (Fr.of1 e4) h11 (by omega)
          have h12 := Fr.cell (Fr.of1 e4) h12 (by omega)
          have h13 := Fr.cell (Fr.of1 e4) h13 (by omega)
          refine a_goto S (tgt := 68) d_Mod_extend_39 rfl ?_
          refine a_iinc S (v := nI (p + i + 1)) d_Mod_extend_68 rfl (ni_add rfl (by decide)) (Nat.le_of_ble_eq_true rfl) (lv' := [(0, .ref b), (1, .int 1), (2, .int (nI p)), (3, .int (nI q)), (4, .int (nI (p + i + 1)))]) rfl ?_
          refine a_goto S (tgt := 3) d_Mod_extend_71 rfl ?_
          exact ih3 _ (by omega) (i + 1) w3 rfl (by omega) fr (by rw [← ex_s hi]; exact ⟨h0, h1, h2, h3, h4, h5, h6, h7, h8, h9, h10, h11, h12, h13⟩)
  exact loop3 _ 0 w rfl (Nat.zero_le _) fr (by rw [List.take_zero, wrL_nil]; exact ⟨h0, h1, h2, h3, h4, h5, h6, h7, h8, h9, h10, h11, h12, h13⟩)
set_option maxHeartbeats 400000 in
set_option maxRecDepth 100000 in
theorem c_Mod_extend0 (l : Launch) (D : kD) (b : Nat) (th : Int32) (fd : Nat) (sl : Bool) (ki fl : Nat → Int32) (va : Nat → Int64) (fo go si te : Nat → Int32) (kp : Nat) (ro : Nat → Int32) (rs : Nat) (ma : Nat → Int32) (sz : Nat) (en ms lw hw : Nat → Int32) (ls : Nat) (pt : Nat) (bd : Bool) (hn : Nat) (p q : Nat) (z : List Nat) (w : ww) (n : Nat) (hq : q = p + z.length) (hp : q ≤ 200) (hl : hn + z.length ≤ 200) (hma : ∀ i, i < z.length → ma (p + i) = nI (z.getD i 0)) (h : Mo D w b th fd sl ki fl va fo go si te kp ro rs ma sz en ms lw hw ls (nI hn) pt bd) : AM l D M_Mod_extend 0 0 0 [.ref b, .int 0, .int (nI p), .int (nI q)] w n (fun v w' n' => v = none ∧ n' = n ∧ Fr w w' b 14 ∧ Mo D w' b th fd sl ki fl va fo go si te kp ro rs ma sz en ms lw (wrL hw hn z) ls (nI (hn + z.length)) pt bd) := by
  refine AM.ofv (by decide +kernel) rfl (Nat.le_of_ble_eq_true rfl) (fun X A Q hin S RT => ?_)
  have S : FX X (D, A, 5, Q) prog_9_method_55_code "KeyCodecModel" 0 0 0 := S
  have RT : RTv X (D, A, 5, Q) prog_9_method_55_code 0 0 _ := RT
  obtain ⟨h0, h1, h2, h3, h4, h5, h6, h7, h8, h9, h10, h11, h12, h13⟩ := h
  refine a_lve (lv' := [(0, .ref b), (1, .int 0), (2, .int (nI p)), (3, .int (nI q))]) rfl ?_
  have fr : Fr w w b 14 := Fr.refl _ _ _
  refine a_iload_n S d_Mod_extend_0 rfl rfl ?_
  refine a_istore S d_Mod_extend_1 (Nat.le_of_ble_eq_true rfl) (lv' := [(0, .ref b), (1, .int 0), (2, .int (nI p)), (3, .int (nI q)), (4, .int (nI p))]) rfl ?_
  have loop3 : ∀ (kk3 : Nat) (i : Nat) (w1 : ww), z.length - i = kk3 → (i ≤ z.length) → (Fr w w1 b 14) → (Mo D w1 b th fd sl ki fl va fo go si te kp ro rs ma sz en ms lw (wrL hw hn (z.take i)) ls (nI (hn + i)) pt bd) → AW X (D, A, 5, Q) 3 [(0, .ref b), (1, .int 0), (2, .int (nI p)), (3, .int (nI q)), (4, .int (nI (p + i)))] [] w1 n 0 0 := by
    intro kk3
    induction kk3 using Nat.strongRecOn with
    | ind kk3 ih3 =>
      intro i w1 hk3 hi fr h
      obtain ⟨h0, h1, h2, h3, h4, h5, h6, h7, h8, h9, h10, h11, h12, h13⟩ := h
      refine a_iload S d_Mod_extend_3 rfl ?_
      refine a_iload_n S d_Mod_extend_5 rfl rfl ?_
      refine a_icmp_ge S (tgt := 74) d_Mod_extend_6 rfl (fun h6_ => ?_) (fun h6_ => ?_)
      · have hi : i = z.length := by have := (nI_leI (by omega) (by omega)).mp h6_; omega
        exact RT _ _ _ _ _ _ d_Mod_extend_74 (by omega) (by omega) (by rw [hi, List.take_length] at h13; rw [hi] at h0; exact ⟨rfl, rfl, fr, h0, h1, h2, h3, h4, h5, h6, h7, h8, h9, h10, h11, h12, h13⟩)
      · have hi2 : ¬ q ≤ p + i := fun z => h6_ ((nI_leI (by omega) (by omega)).mpr z)
        have hi : i < z.length := by omega
        refine a_iload_n S d_Mod_extend_9 rfl rfl ?_
        refine a_if_eq S (tgt := 42) d_Mod_extend_10 rfl (fun h10_ => ?_) (fun h10_ => ?_)
        · refine a_aload_n S d_Mod_extend_42 rfl rfl ?_
          refine a_get S kc_Mod 18 (by decide) lf_Mod_48 h0 rfl d_Mod_extend_43 ?_
          refine a_aload_n S d_Mod_extend_46 rfl rfl ?_
          refine a_get S kc_Mod 20 (by decide) lf_Mod_51 h0 rfl d_Mod_extend_47 ?_
          refine a_aload_n S d_Mod_extend_50 rfl rfl ?_
          refine a_get S kc_Mod 13 (by decide) lf_Mod_36 h0 rfl d_Mod_extend_51 ?_
          refine a_iload S d_Mod_extend_54 rfl ?_
          refine a_iald S (i := p + i) h9 rfl (by omega) (by decide) d_Mod_extend_56 ?_
          refine a_eqi (hma i hi) ?_
          refine a_iast S (i := hn + i) h13 rfl (by omega) (by decide) d_Mod_extend_57 (fun w1 h13 e2 => ?_)
          have fr := fr.trans (Fr.sub (Fr.of1 e2) (by omega) (by omega))
          have h0 := Fr.cell (Fr.of1 e2) h0 (by omega)
          have h1 := Fr.cell (Fr.of1 e2) h1 (by omega)
          have h2 := Fr.cell (Fr.of1 e2) h2 (by omega)
          have h3 := Fr.cell (Fr.of1 e2) h3 (by omega)
          have h4 := Fr.cell (Fr.of1 e2) h4 (by omega)
          have h5 := Fr.cell (Fr.of1 e2) h5 (by omega)
          have h6 := Fr.cell (Fr.of1 e2) h6 (by omega)
          have h7 := Fr.cell (Fr.of1 e2) h7 (by omega)
          have h8 := Fr.cell (Fr.of1 e2) h8 (by omega)
          have h9 := Fr.cell (Fr.of1 e2) h9 (by omega)
          have h10 := Fr.cell (Fr.of1 e2) h10 (by omega)
          have h11 := Fr.cell (Fr.of1 e2) h11 (by omega)
          have h12 := Fr.cell (Fr.of1 e2) h12 (by omega)
          refine a_aload_n S d_Mod_extend_58 rfl rfl ?_
          refine a_dup S d_Mod_extend_59 rfl ?_
          refine a_get S kc_Mod 20 (by decide) lf_Mod_51 h0 rfl d_Mod_extend_60 ?_
          refine a_iconst S (v := 1) d_Mod_extend_63 (by decide) ?_
          refine a_iadd S d_Mod_extend_64 ?_
          refine a_eqi (y := nI (hn + i + 1)) (ni_add rfl rfl) ?_
          refine a_put S kc_Mod kt_Mod 20 (by decide) lf_Mod_51 rfl h0 rfl rfl (Nat.le_of_ble_eq_true rfl) d_Mod_extend_65 (fun w3 h0 e4 => ?_)
          have h0 : w3 b = some (.inr (6, [.int th, .int (nI fd), .int (if sl then 1 else 0), .ref (b + 1), .ref (b + 2), .ref (b + 3), .ref (b + 4), .ref (b + 5), .ref (b + 6), .ref (b + 7), .int (nI kp), .ref (b + 8), .int (nI rs), .ref (b + 9), .int (nI sz), .ref (b + 10), .ref (b + 11), .ref (b + 12), .ref (b + 13), .int (nI ls), .int (nI (hn + i + 1)), .int (nI pt), .int (if bd then 1 else 0)])) := h0
          have fr := fr.trans (Fr.sub (Fr.of1 e4) (by omega) (by omega))
          have h1 := Fr.cell (Fr.of1 e4) h1 (by omega)
          have h2 := Fr.cell (Fr.of1 e4) h2 (by omega)
          have h3 := Fr.cell (Fr.of1 e4) h3 (by omega)
          have h4 := Fr.cell (Fr.of1 e4) h4 (by omega)
          have h5 := Fr.cell (Fr.of1 e4) h5 (by omega)
          have h6 := Fr.cell (Fr.of1 e4) h6 (by omega)
          have h7 := Fr.cell (Fr.of1 e4) h7 (by omega)
          have h8 := Fr.cell (Fr.of1 e4) h8 (by omega)
          have h9 := Fr.cell (Fr.of1 e4) h9 (by omega)
          have h10 := Fr.cell (Fr.of1 e4) h10 (by omega)
          have h11 := Fr.cell (Fr.of1 e4) h11 (by omega)
          have h12 := Fr.cell (Fr.of1 e4) h12 (by omega)
          have h13 := Fr.cell (Fr.of1 e4) h13 (by omega)
          refine a_iinc S (v := nI (p + i + 1)) d_Mod_extend_68 rfl (ni_add rfl (by decide)) (Nat.le_of_ble_eq_true rfl) (lv' := [(0, .ref b), (1, .int 0), (2, .int (nI p)), (3, .int (nI q)), (4, .int (nI (p + i + 1)))]) rfl ?_
          refine a_goto S (tgt := 3) d_Mod_extend_71 rfl ?_
          exact ih3 _ (by omega) (i + 1) w3 rfl (by omega) fr (by rw [← ex_s hi]; exact ⟨h0, h1, h2, h3, h4, h5, h6, h7, h8, h9, h10, h11, h12, h13⟩)
        · exact absurd (by decide) h10_
  exact loop3 _ 0 w rfl (Nat.zero_le _) fr (by rw [List.take_zero, wrL_nil]; exact ⟨h0, h1, h2, h3, h4, h5, h6, h7, h8, h9, h10, h11, h12, h13⟩)
set_option maxHeartbeats 400000 in
set_option maxRecDepth 100000 in
theorem c_Mod_between (l : Launch) (D : kD) (b : Nat) (th : Int32) (c : Nat) (s : Bool) (K F : Nat → Nat) (L : Nat → kV) (kr : List Nat) (m : Nat) (KT : Nat → Nat → kV) (lo hi : List Nat) (he : Bool) (i x a1 a2 : Int32) (w : ww) (n : Nat) (hV : VI c s K F L m KT) (h : Mdl D w b th c s K F L kr m KT lo hi he) : AM l D M_Mod_between 4 0 0 [.ref b, .int i, .int x, .int a1, .int a2] w n (fun v w' n' => (∃ t q u y, t < m ∧ q < c ∧ u < m ∧ y < m ∧ i = nI t ∧ x = nI q ∧ a1 = nI u ∧ a2 = nI y ∧ v = some (.int 1) ∧ n' = n ∧ Fr w w' b 14 ∧ Mdl D w' b 0 c s K F L kr m KT ((fldB K F (KT t) q) ++ (encF (K q) (F q) (KT u q))) ((fldB K F (KT t) q) ++ (encF (K q) (F q) (KT y q))) true) ∨ ((∀ t q u y, t < m → q < c → u < m → y < m → i = nI t → x = nI q → a1 = nI u → a2 = nI y → False) ∧ v = some (.int 0) ∧ n' = n ∧ Fr w w' b 14 ∧ Mdl D w' b 0 c s K F L kr m KT lo hi he)) := by
  refine AM.ofz (by decide +kernel) rfl (Nat.le_of_ble_eq_true rfl) (fun X A Q hin S RT => ?_)
  have S : FX X (D, A, 5, Q) prog_9_method_56_code "KeyCodecModel" 4 0 0 := S
  have RT : RTz X (D, A, 5, Q) prog_9_method_56_code 0 0 _ := RT
  obtain ⟨ki, fl, va, fo, go, si, te, ro, ma, sz, en, ms, lw, hw, pt, bd, h, hI, hG⟩ := h
  obtain ⟨h0, h1, h2, h3, h4, h5, h6, h7, h8, h9, h10, h11, h12, h13⟩ := h
  have hc5 := hI.1
  have hm12 := hI.2.1
  have hkr := hI.2.2.1
  have hlo := hI.2.2.2.1
  have hhi := hI.2.2.2.2.1
  have hkf := hI.2.2.2.2.2.1
  refine a_lve (lv' := [(0, .ref b), (1, .int i), (2, .int x), (3, .int a1), (4, .int a2)]) rfl ?_
  have fr : Fr w w b 14 := Fr.refl _ _ _
  refine a_aload_n S d_Mod_between_0 rfl rfl ?_
  refine a_iconst S (v := 0) d_Mod_between_1 (by decide) ?_
  refine a_put S kc_Mod kt_Mod 0 (by decide) lf_Mod_55 rfl h0 rfl rfl (Nat.le_of_ble_eq_true rfl) d_Mod_between_2 (fun w1 h0 e2 => ?_)
  have h0 : w1 b = some (.inr (6, [.int 0, .int (nI c), .int (if s then 1 else 0), .ref (b + 1), .ref (b + 2), .ref (b + 3), .ref (b + 4), .ref (b + 5), .ref (b + 6), .ref (b + 7), .int (nI m), .ref (b + 8), .int (nI kr.length), .ref (b + 9), .int (nI sz), .ref (b + 10), .ref (b + 11), .ref (b + 12), .ref (b + 13), .int (nI lo.length), .int (if he then nI hi.length else -1), .int (nI pt), .int (if bd then 1 else 0)])) := h0
  have fr := fr.trans (Fr.sub (Fr.of1 e2) (by omega) (by omega))
  have h1 := Fr.cell (Fr.of1 e2) h1 (by omega)
  have h2 := Fr.cell (Fr.of1 e2) h2 (by omega)
  have h3 := Fr.cell (Fr.of1 e2) h3 (by omega)
  have h4 := Fr.cell (Fr.of1 e2) h4 (by omega)
  have h5 := Fr.cell (Fr.of1 e2) h5 (by omega)
  have h6 := Fr.cell (Fr.of1 e2) h6 (by omega)
  have h7 := Fr.cell (Fr.of1 e2) h7 (by omega)
  have h8 := Fr.cell (Fr.of1 e2) h8 (by omega)
  have h9 := Fr.cell (Fr.of1 e2) h9 (by omega)
  have h10 := Fr.cell (Fr.of1 e2) h10 (by omega)
  have h11 := Fr.cell (Fr.of1 e2) h11 (by omega)
  have h12 := Fr.cell (Fr.of1 e2) h12 (by omega)
  have h13 := Fr.cell (Fr.of1 e2) h13 (by omega)
  refine a_aload_n S d_Mod_between_5 rfl rfl ?_
  refine a_iload_n S d_Mod_between_6 rfl rfl ?_
  refine a_callV S (rest := []) lg_Mod_177 h0 (c_Mod_isKept X.2.1 D b 0 c s ki fl va fo go si te m ro kr.length ma sz en ms lw hw lo.length (if he then nI hi.length else -1) pt bd i w1 n  ⟨h0, h1, h2, h3, h4, h5, h6, h7, h8, h9, h10, h11, h12, h13⟩) (by decide) (by omega) (by omega) rfl (Nat.le_of_ble_eq_true rfl) d_Mod_between_7 (fun v3 w4 n5 p6 => ?_)
  obtain ⟨rfl, e7, e8⟩ := p6
  rw [e7, e8]
  refine a_st (st' := [.int (if usB true m i then 1 else 0)]) rfl ?_
  refine a_if_eq S (tgt := 42) d_Mod_between_10 rfl (fun hA_ => ?_) (fun hA_ => ?_)
  · have hx : ∀ t1 q1 u1 y1, t1 < m → q1 < c → u1 < m → y1 < m → i = nI t1 → x = nI q1 → a1 = nI u1 → a2 = nI y1 → False := fun t1 q1 u1 y1 ht1 hq1 hu1 hy1 e1_ e2_ e3_ e4_ => usB_no (by omega) (bo_0 hA_) ht1 rfl e1_
    refine a_iconst S (v := 0) d_Mod_between_42 (by decide) ?_
    exact RT _ _ _ _ _ _ _ d_Mod_between_43 rfl (by omega) (by omega) (Or.inr ⟨hx, rfl, rfl, fr, ⟨_, _, _, _, _, _, _, _, _, _, _, _, _, _, _, _, ⟨h0, h1, h2, h3, h4, h5, h6, h7, h8, h9, h10, h11, h12, h13⟩, hI, hG⟩⟩)
  · obtain ⟨hs_t, t, ht, rfl⟩ := usB_ix (by omega) (bo_1 hA_)
    have ok_t := (hV.2 t ht).2
    have kl_t := keyB_l ok_t hc5
    refine a_aload_n S d_Mod_between_13 rfl rfl ?_
    refine a_iload_n S d_Mod_between_14 rfl rfl ?_
    refine a_callV S (rest := []) lg_Mod_177 h0 (c_Mod_isKept X.2.1 D b 0 c s ki fl va fo go si te m ro kr.length ma sz en ms lw hw lo.length (if he then nI hi.length else -1) pt bd a1 w1 n  ⟨h0, h1, h2, h3, h4, h5, h6, h7, h8, h9, h10, h11, h12, h13⟩) (by decide) (by omega) (by omega) rfl (Nat.le_of_ble_eq_true rfl) d_Mod_between_15 (fun v9 w10 n11 p12 => ?_)
    obtain ⟨rfl, e13, e14⟩ := p12
    rw [e13, e14]
    refine a_st (st' := [.int (if usB true m a1 then 1 else 0)]) rfl ?_
    refine a_if_eq S (tgt := 42) d_Mod_between_18 rfl (fun h18 => ?_) (fun h18 => ?_)
    · have hx : ∀ t1 q1 u1 y1, t1 < m → q1 < c → u1 < m → y1 < m → nI t = nI t1 → x = nI q1 → a1 = nI u1 → a2 = nI y1 → False := fun t1 q1 u1 y1 ht1 hq1 hu1 hy1 e1_ e2_ e3_ e4_ => usB_no (by omega) (bo_0 h18) hu1 rfl e3_
      refine a_iconst S (v := 0) d_Mod_between_42 (by decide) ?_
      exact RT _ _ _ _ _ _ _ d_Mod_between_43 rfl (by omega) (by omega) (Or.inr ⟨hx, rfl, rfl, fr, ⟨_, _, _, _, _, _, _, _, _, _, _, _, _, _, _, _, ⟨h0, h1, h2, h3, h4, h5, h6, h7, h8, h9, h10, h11, h12, h13⟩, hI, hG⟩⟩)
    · obtain ⟨hs_u, u, hu, rfl⟩ := usB_ix (by omega) (bo_1 h18)
      have ok_u := (hV.2 u hu).2
      have kl_u := keyB_l ok_u hc5
      refine a_aload_n S d_Mod_between_21 rfl rfl ?_
      refine a_iload S d_Mod_between_22 rfl ?_
      refine a_callV S (rest := []) lg_Mod_177 h0 (c_Mod_isKept X.2.1 D b 0 c s ki fl va fo go si te m ro kr.length ma sz en ms lw hw lo.length (if he then nI hi.length else -1) pt bd a2 w1 n  ⟨h0, h1, h2, h3, h4, h5, h6, h7, h8, h9, h10, h11, h12, h13⟩) (by decide) (by omega) (by omega) rfl (Nat.le_of_ble_eq_true rfl) d_Mod_between_24 (fun v15 w16 n17 p18 => ?_)
      obtain ⟨rfl, e19, e20⟩ := p18
      rw [e19, e20]
      refine a_st (st' := [.int (if usB true m a2 then 1 else 0)]) rfl ?_
      refine a_if_eq S (tgt := 42) d_Mod_between_27 rfl (fun h27 => ?_) (fun h27 => ?_)
      · have hx : ∀ t1 q1 u1 y1, t1 < m → q1 < c → u1 < m → y1 < m → nI t = nI t1 → x = nI q1 → nI u = nI u1 → a2 = nI y1 → False := fun t1 q1 u1 y1 ht1 hq1 hu1 hy1 e1_ e2_ e3_ e4_ => usB_no (by omega) (bo_0 h27) hy1 rfl e4_
        refine a_iconst S (v := 0) d_Mod_between_42 (by decide) ?_
        exact RT _ _ _ _ _ _ _ d_Mod_between_43 rfl (by omega) (by omega) (Or.inr ⟨hx, rfl, rfl, fr, ⟨_, _, _, _, _, _, _, _, _, _, _, _, _, _, _, _, ⟨h0, h1, h2, h3, h4, h5, h6, h7, h8, h9, h10, h11, h12, h13⟩, hI, hG⟩⟩)
      · obtain ⟨hs_y, y, hy, rfl⟩ := usB_ix (by omega) (bo_1 h27)
        have ok_y := (hV.2 y hy).2
        have kl_y := keyB_l ok_y hc5
        refine a_iload_n S d_Mod_between_30 rfl rfl ?_
        refine a_if_lt S (tgt := 42) d_Mod_between_31 rfl (fun h31 => ?_) (fun h31 => ?_)
        · have hx : ∀ t1 q1 u1 y1, t1 < m → q1 < c → u1 < m → y1 < m → nI t = nI t1 → x = nI q1 → nI u = nI u1 → nI y = nI y1 → False := fun t1 q1 u1 y1 ht1 hq1 hu1 hy1 e1_ e2_ e3_ e4_ => by subst e2_; exact nI_pos (by omega) h31
          refine a_iconst S (v := 0) d_Mod_between_42 (by decide) ?_
          exact RT _ _ _ _ _ _ _ d_Mod_between_43 rfl (by omega) (by omega) (Or.inr ⟨hx, rfl, rfl, fr, ⟨_, _, _, _, _, _, _, _, _, _, _, _, _, _, _, _, ⟨h0, h1, h2, h3, h4, h5, h6, h7, h8, h9, h10, h11, h12, h13⟩, hI, hG⟩⟩)
        · refine a_iload_n S d_Mod_between_34 rfl rfl ?_
          refine a_aload_n S d_Mod_between_35 rfl rfl ?_
          refine a_get S kc_Mod 1 (by decide) lf_Mod_62 h0 rfl d_Mod_between_36 ?_
          refine a_icmp_lt S (tgt := 44) d_Mod_between_39 rfl (fun h39 => ?_) (fun h39 => ?_)
          · obtain ⟨q, hq, rfl⟩ := row_ix h31 (k2_nle h39) (by omega)
            have fl_t := fldB_len ok_t (show q ≤ c by omega)
            have bl_u := bt_len ok_t ok_u hq hc5
            have bl_y := bt_len ok_t ok_y hq hc5
            have fc_u := fldB_len ok_u (show q + 1 ≤ c from hq)
            have fc_y := fldB_len ok_y (show q + 1 ≤ c from hq)
            refine a_aload_n S d_Mod_between_44 rfl rfl ?_
            refine a_iconst S (v := 0) d_Mod_between_45 (by decide) ?_
            refine a_put S kc_Mod kt_Mod 19 (by decide) lf_Mod_211 rfl h0 rfl rfl (Nat.le_of_ble_eq_true rfl) d_Mod_between_46 (fun w21 h0 e22 => ?_)
            have h0 : w21 b = some (.inr (6, [.int 0, .int (nI c), .int (if s then 1 else 0), .ref (b + 1), .ref (b + 2), .ref (b + 3), .ref (b + 4), .ref (b + 5), .ref (b + 6), .ref (b + 7), .int (nI m), .ref (b + 8), .int (nI kr.length), .ref (b + 9), .int (nI sz), .ref (b + 10), .ref (b + 11), .ref (b + 12), .ref (b + 13), .int 0, .int (if he then nI hi.length else -1), .int (nI pt), .int (if bd then 1 else 0)])) := h0
            have fr := fr.trans (Fr.sub (Fr.of1 e22) (by omega) (by omega))
            have h1 := Fr.cell (Fr.of1 e22) h1 (by omega)
            have h2 := Fr.cell (Fr.of1 e22) h2 (by omega)
            have h3 := Fr.cell (Fr.of1 e22) h3 (by omega)
            have h4 := Fr.cell (Fr.of1 e22) h4 (by omega)
            have h5 := Fr.cell (Fr.of1 e22) h5 (by omega)
            have h6 := Fr.cell (Fr.of1 e22) h6 (by omega)
            have h7 := Fr.cell (Fr.of1 e22) h7 (by omega)
            have h8 := Fr.cell (Fr.of1 e22) h8 (by omega)
            have h9 := Fr.cell (Fr.of1 e22) h9 (by omega)
            have h10 := Fr.cell (Fr.of1 e22) h10 (by omega)
            have h11 := Fr.cell (Fr.of1 e22) h11 (by omega)
            have h12 := Fr.cell (Fr.of1 e22) h12 (by omega)
            have h13 := Fr.cell (Fr.of1 e22) h13 (by omega)
            refine a_aload_n S d_Mod_between_49 rfl rfl ?_
            refine a_iconst S (v := 0) d_Mod_between_50 (by decide) ?_
            refine a_put S kc_Mod kt_Mod 20 (by decide) lf_Mod_51 rfl h0 rfl rfl (Nat.le_of_ble_eq_true rfl) d_Mod_between_51 (fun w23 h0 e24 => ?_)
            have h0 : w23 b = some (.inr (6, [.int 0, .int (nI c), .int (if s then 1 else 0), .ref (b + 1), .ref (b + 2), .ref (b + 3), .ref (b + 4), .ref (b + 5), .ref (b + 6), .ref (b + 7), .int (nI m), .ref (b + 8), .int (nI kr.length), .ref (b + 9), .int (nI sz), .ref (b + 10), .ref (b + 11), .ref (b + 12), .ref (b + 13), .int 0, .int 0, .int (nI pt), .int (if bd then 1 else 0)])) := h0
            have fr := fr.trans (Fr.sub (Fr.of1 e24) (by omega) (by omega))
            have h1 := Fr.cell (Fr.of1 e24) h1 (by omega)
            have h2 := Fr.cell (Fr.of1 e24) h2 (by omega)
            have h3 := Fr.cell (Fr.of1 e24) h3 (by omega)
            have h4 := Fr.cell (Fr.of1 e24) h4 (by omega)
            have h5 := Fr.cell (Fr.of1 e24) h5 (by omega)
            have h6 := Fr.cell (Fr.of1 e24) h6 (by omega)
            have h7 := Fr.cell (Fr.of1 e24) h7 (by omega)
            have h8 := Fr.cell (Fr.of1 e24) h8 (by omega)
            have h9 := Fr.cell (Fr.of1 e24) h9 (by omega)
            have h10 := Fr.cell (Fr.of1 e24) h10 (by omega)
            have h11 := Fr.cell (Fr.of1 e24) h11 (by omega)
            have h12 := Fr.cell (Fr.of1 e24) h12 (by omega)
            have h13 := Fr.cell (Fr.of1 e24) h13 (by omega)
            refine a_aload_n S d_Mod_between_54 rfl rfl ?_
            refine a_iconst S (v := 0) d_Mod_between_55 (by decide) ?_
            refine a_iload_n S d_Mod_between_56 rfl rfl ?_
            refine a_iconst S (v := 1) d_Mod_between_57 (by decide) ?_
            refine a_iadd S d_Mod_between_58 ?_
            refine a_eqi (y := nI (t + 1)) (ni_add rfl rfl) ?_
            refine a_callV S (rest := []) lg_Mod_136 h0 (c_Mod_make X.2.1 D b 0 c s ki fl va fo go si te m ro kr.length ma sz en ms lw hw 0 0 pt bd 0 (t + 1) K F (KT t) w23 n (by decide) (by omega) hc5 hkf (hI.v1 ht) ok_t ⟨h0, h1, h2, h3, h4, h5, h6, h7, h8, h9, h10, h11, h12, h13⟩) (by decide) (by omega) (by omega) rfl (Nat.le_of_ble_eq_true rfl) d_Mod_between_59 (fun v25 w26 n27 p28 => ?_)
            obtain ⟨en_31, rfl, e30, f29, ⟨h0, h1, h2, h3, h4, h5, h6, h7, h8, h9, h10, h11, h12, h13⟩, hE1⟩ := p28
            rw [e30]
            refine a_st (st' := []) rfl ?_
            have fr := fr.trans (Fr.sub f29 (by omega) (by omega))
            refine a_aload_n S d_Mod_between_62 rfl rfl ?_
            refine a_iconst S (v := 1) d_Mod_between_63 (by decide) ?_
            refine a_iconst S (v := 0) d_Mod_between_64 (by decide) ?_
            refine a_aload_n S d_Mod_between_65 rfl rfl ?_
            refine a_get S kc_Mod 15 (by decide) lf_Mod_39 h0 rfl d_Mod_between_66 ?_
            refine a_iload_n S d_Mod_between_69 rfl rfl ?_
            refine a_iald S (i := q) h10 rfl (by omega) (by decide) d_Mod_between_70 ?_
            refine a_eqi (en0 hE1 (by omega)) ?_
            refine a_callV S (rest := []) lg_Mod_214 h0 (c_Mod_extend1 X.2.1 D b 0 c s ki fl va fo go si te m ro kr.length (wrL ma (200 * 0) (keyB K F (KT t) c)) ((keyB K F (KT t) c).length) en_31 (upd ms 0 (nI (keyB K F (KT t) c).length)) lw hw 0 0 pt bd 0 ((fldB K F (KT t) q).length) (fldB K F (KT t) q) w26 n (Nat.zero_add _).symm (by omega) (by omega) (fun i hi => by rw [Nat.zero_add]; exact kb_lo (by omega) hi) ⟨h0, h1, h2, h3, h4, h5, h6, h7, h8, h9, h10, h11, h12, h13⟩) (by decide) (by omega) (by omega) rfl (Nat.le_of_ble_eq_true rfl) d_Mod_between_71 (fun v32 w33 n34 p35 => ?_)
            obtain ⟨rfl, e37, f36, h0, h1, h2, h3, h4, h5, h6, h7, h8, h9, h10, h11, h12, h13⟩ := p35
            rw [e37]
            refine a_st (st' := []) rfl ?_
            have fr := fr.trans (Fr.sub f36 (by omega) (by omega))
            refine a_aload_n S d_Mod_between_74 rfl rfl ?_
            refine a_iconst S (v := 0) d_Mod_between_75 (by decide) ?_
            refine a_iconst S (v := 0) d_Mod_between_76 (by decide) ?_
            refine a_aload_n S d_Mod_between_77 rfl rfl ?_
            refine a_get S kc_Mod 15 (by decide) lf_Mod_39 h0 rfl d_Mod_between_78 ?_
            refine a_iload_n S d_Mod_between_81 rfl rfl ?_
            refine a_iald S (i := q) h10 rfl (by omega) (by decide) d_Mod_between_82 ?_
            refine a_eqi (en0 hE1 (by omega)) ?_
            refine a_callV S (rest := []) lg_Mod_214 h0 (c_Mod_extend0 X.2.1 D b 0 c s ki fl va fo go si te m ro kr.length (wrL ma (200 * 0) (keyB K F (KT t) c)) ((keyB K F (KT t) c).length) en_31 (upd ms 0 (nI (keyB K F (KT t) c).length)) (wrL lw 0 (fldB K F (KT t) q)) hw (0 + (fldB K F (KT t) q).length) pt bd 0 0 ((fldB K F (KT t) q).length) (fldB K F (KT t) q) w33 n (Nat.zero_add _).symm (by omega) (by omega) (fun i hi => by rw [Nat.zero_add]; exact kb_lo (by omega) hi) ⟨h0, h1, h2, h3, h4, h5, h6, h7, h8, h9, h10, h11, h12, h13⟩) (by decide) (by omega) (by omega) rfl (Nat.le_of_ble_eq_true rfl) d_Mod_between_83 (fun v38 w39 n40 p41 => ?_)
            obtain ⟨rfl, e43, f42, h0, h1, h2, h3, h4, h5, h6, h7, h8, h9, h10, h11, h12, h13⟩ := p41
            rw [e43]
            refine a_st (st' := []) rfl ?_
            have fr := fr.trans (Fr.sub f42 (by omega) (by omega))
            refine a_aload_n S d_Mod_between_86 rfl rfl ?_
            refine a_iconst S (v := 0) d_Mod_between_87 (by decide) ?_
            refine a_iload_n S d_Mod_between_88 rfl rfl ?_
            refine a_iconst S (v := 1) d_Mod_between_89 (by decide) ?_
            refine a_iadd S d_Mod_between_90 ?_
            refine a_eqi (y := nI (u + 1)) (ni_add rfl rfl) ?_
            refine a_callV S (rest := []) lg_Mod_136 h0 (c_Mod_make X.2.1 D b 0 c s ki fl va fo go si te m ro kr.length (wrL ma (200 * 0) (keyB K F (KT t) c)) ((keyB K F (KT t) c).length) en_31 (upd ms 0 (nI (keyB K F (KT t) c).length)) (wrL lw 0 (fldB K F (KT t) q)) (wrL hw 0 (fldB K F (KT t) q)) (0 + (fldB K F (KT t) q).length) (nI (0 + (fldB K F (KT t) q).length)) pt bd 0 (u + 1) K F (KT u) w39 n (by decide) (by omega) hc5 hkf (hI.v1 hu) ok_u ⟨h0, h1, h2, h3, h4, h5, h6, h7, h8, h9, h10, h11, h12, h13⟩) (by decide) (by omega) (by omega) rfl (Nat.le_of_ble_eq_true rfl) d_Mod_between_91 (fun v44 w45 n46 p47 => ?_)
            obtain ⟨en_50, rfl, e49, f48, ⟨h0, h1, h2, h3, h4, h5, h6, h7, h8, h9, h10, h11, h12, h13⟩, hE2⟩ := p47
            rw [e49]
            refine a_st (st' := []) rfl ?_
            have fr := fr.trans (Fr.sub f48 (by omega) (by omega))
            refine a_aload_n S d_Mod_between_94 rfl rfl ?_
            refine a_iconst S (v := 1) d_Mod_between_95 (by decide) ?_
            refine a_aload_n S d_Mod_between_96 rfl rfl ?_
            refine a_get S kc_Mod 15 (by decide) lf_Mod_39 h0 rfl d_Mod_between_97 ?_
            refine a_iload_n S d_Mod_between_100 rfl rfl ?_
            refine a_iald S (i := q) h10 rfl (by omega) (by decide) d_Mod_between_101 ?_
            refine a_eqi (en0 hE2 (by omega)) ?_
            refine a_aload_n S d_Mod_between_102 rfl rfl ?_
            refine a_get S kc_Mod 15 (by decide) lf_Mod_39 h0 rfl d_Mod_between_103 ?_
            refine a_iload_n S d_Mod_between_106 rfl rfl ?_
            refine a_iconst S (v := 1) d_Mod_between_107 (by decide) ?_
            refine a_iadd S d_Mod_between_108 ?_
            refine a_eqi (y := nI (q + 1)) (ni_add rfl rfl) ?_
            refine a_iald S (i := q + 1) h10 rfl (by omega) (by decide) d_Mod_between_109 ?_
            refine a_eqi (en0 hE2 (by omega)) ?_
            refine a_callV S (rest := []) lg_Mod_214 h0 (c_Mod_extend1 X.2.1 D b 0 c s ki fl va fo go si te m ro kr.length (wrL (wrL ma (200 * 0) (keyB K F (KT t) c)) (200 * 0) (keyB K F (KT u) c)) ((keyB K F (KT u) c).length) en_50 (upd (upd ms 0 (nI (keyB K F (KT t) c).length)) 0 (nI (keyB K F (KT u) c).length)) (wrL lw 0 (fldB K F (KT t) q)) (wrL hw 0 (fldB K F (KT t) q)) (0 + (fldB K F (KT t) q).length) (nI (0 + (fldB K F (KT t) q).length)) pt bd ((fldB K F (KT u) q).length) ((fldB K F (KT u) (q + 1)).length) (encF (K q) (F q) (KT u q)) w45 n (by rw [fldB, List.length_append]) (by omega) (by omega) (fun i hi => kb_mid hq hi) ⟨h0, h1, h2, h3, h4, h5, h6, h7, h8, h9, h10, h11, h12, h13⟩) (by decide) (by omega) (by omega) rfl (Nat.le_of_ble_eq_true rfl) d_Mod_between_110 (fun v51 w52 n53 p54 => ?_)
            obtain ⟨rfl, e56, f55, h0, h1, h2, h3, h4, h5, h6, h7, h8, h9, h10, h11, h12, h13⟩ := p54
            rw [e56]
            refine a_st (st' := []) rfl ?_
            have fr := fr.trans (Fr.sub f55 (by omega) (by omega))
            refine a_aload_n S d_Mod_between_113 rfl rfl ?_
            refine a_iconst S (v := 0) d_Mod_between_114 (by decide) ?_
            refine a_iload S d_Mod_between_115 rfl ?_
            refine a_iconst S (v := 1) d_Mod_between_117 (by decide) ?_
            refine a_iadd S d_Mod_between_118 ?_
            refine a_eqi (y := nI (y + 1)) (ni_add rfl rfl) ?_
            refine a_callV S (rest := []) lg_Mod_136 h0 (c_Mod_make X.2.1 D b 0 c s ki fl va fo go si te m ro kr.length (wrL (wrL ma (200 * 0) (keyB K F (KT t) c)) (200 * 0) (keyB K F (KT u) c)) ((keyB K F (KT u) c).length) en_50 (upd (upd ms 0 (nI (keyB K F (KT t) c).length)) 0 (nI (keyB K F (KT u) c).length)) (wrL (wrL lw 0 (fldB K F (KT t) q)) (0 + (fldB K F (KT t) q).length) (encF (K q) (F q) (KT u q))) (wrL hw 0 (fldB K F (KT t) q)) (0 + (fldB K F (KT t) q).length + (encF (K q) (F q) (KT u q)).length) (nI (0 + (fldB K F (KT t) q).length)) pt bd 0 (y + 1) K F (KT y) w52 n (by decide) (by omega) hc5 hkf (hI.v1 hy) ok_y ⟨h0, h1, h2, h3, h4, h5, h6, h7, h8, h9, h10, h11, h12, h13⟩) (by decide) (by omega) (by omega) rfl (Nat.le_of_ble_eq_true rfl) d_Mod_between_119 (fun v57 w58 n59 p60 => ?_)
            obtain ⟨en_63, rfl, e62, f61, ⟨h0, h1, h2, h3, h4, h5, h6, h7, h8, h9, h10, h11, h12, h13⟩, hE3⟩ := p60
            rw [e62]
            refine a_st (st' := []) rfl ?_
            have fr := fr.trans (Fr.sub f61 (by omega) (by omega))
            refine a_aload_n S d_Mod_between_122 rfl rfl ?_
            refine a_iconst S (v := 0) d_Mod_between_123 (by decide) ?_
            refine a_aload_n S d_Mod_between_124 rfl rfl ?_
            refine a_get S kc_Mod 15 (by decide) lf_Mod_39 h0 rfl d_Mod_between_125 ?_
            refine a_iload_n S d_Mod_between_128 rfl rfl ?_
            refine a_iald S (i := q) h10 rfl (by omega) (by decide) d_Mod_between_129 ?_
            refine a_eqi (en0 hE3 (by omega)) ?_
            refine a_aload_n S d_Mod_between_130 rfl rfl ?_
            refine a_get S kc_Mod 15 (by decide) lf_Mod_39 h0 rfl d_Mod_between_131 ?_
            refine a_iload_n S d_Mod_between_134 rfl rfl ?_
            refine a_iconst S (v := 1) d_Mod_between_135 (by decide) ?_
            refine a_iadd S d_Mod_between_136 ?_
            refine a_eqi (y := nI (q + 1)) (ni_add rfl rfl) ?_
            refine a_iald S (i := q + 1) h10 rfl (by omega) (by decide) d_Mod_between_137 ?_
            refine a_eqi (en0 hE3 (by omega)) ?_
            refine a_callV S (rest := []) lg_Mod_214 h0 (c_Mod_extend0 X.2.1 D b 0 c s ki fl va fo go si te m ro kr.length (wrL (wrL (wrL ma (200 * 0) (keyB K F (KT t) c)) (200 * 0) (keyB K F (KT u) c)) (200 * 0) (keyB K F (KT y) c)) ((keyB K F (KT y) c).length) en_63 (upd (upd (upd ms 0 (nI (keyB K F (KT t) c).length)) 0 (nI (keyB K F (KT u) c).length)) 0 (nI (keyB K F (KT y) c).length)) (wrL (wrL lw 0 (fldB K F (KT t) q)) (0 + (fldB K F (KT t) q).length) (encF (K q) (F q) (KT u q))) (wrL hw 0 (fldB K F (KT t) q)) (0 + (fldB K F (KT t) q).length + (encF (K q) (F q) (KT u q)).length) pt bd (0 + (fldB K F (KT t) q).length) ((fldB K F (KT y) q).length) ((fldB K F (KT y) (q + 1)).length) (encF (K q) (F q) (KT y q)) w58 n (by rw [fldB, List.length_append]) (by omega) (by omega) (fun i hi => kb_mid hq hi) ⟨h0, h1, h2, h3, h4, h5, h6, h7, h8, h9, h10, h11, h12, h13⟩) (by decide) (by omega) (by omega) rfl (Nat.le_of_ble_eq_true rfl) d_Mod_between_138 (fun v64 w65 n66 p67 => ?_)
            obtain ⟨rfl, e69, f68, h0, h1, h2, h3, h4, h5, h6, h7, h8, h9, h10, h11, h12, h13⟩ := p67
            rw [e69]
            refine a_st (st' := []) rfl ?_
            have fr := fr.trans (Fr.sub f68 (by omega) (by omega))
            refine a_iconst S (v := 1) d_Mod_between_141 (by decide) ?_
            exact RT _ _ _ _ _ _ _ d_Mod_between_142 rfl (by omega) (by omega) (Or.inl ⟨t, q, u, y, ht, hq, hu, hy, rfl, rfl, rfl, rfl, rfl, rfl, fr, Mdl.of ⟨h0, h1, h2, h3, h4, h5, h6, h7, h8, h9, h10, h11, h12, h13⟩ (hI.bd (by rw [List.length_append]; omega) (by rw [List.length_append]; omega) (bt_lt ok_t ok_u hq) (by rw [wrL_app]; exact ArrW) (fun _ => ⟨bt_lt ok_t ok_y hq, (by rw [wrL_app]; exact ArrW)⟩)) hG (by rw [List.length_append]; omega) (by rw [List.length_append, Nat.zero_add]; rfl)⟩)
          · have hx : ∀ t1 q1 u1 y1, t1 < m → q1 < c → u1 < m → y1 < m → nI t = nI t1 → x = nI q1 → nI u = nI u1 → nI y = nI y1 → False := fun t1 q1 u1 y1 ht1 hq1 hu1 hy1 e1_ e2_ e3_ e4_ => by subst e2_; exact h39 ((nI_ltI (by omega) (by omega)).mpr hq1)
            refine a_iconst S (v := 0) d_Mod_between_42 (by decide) ?_
            exact RT _ _ _ _ _ _ _ d_Mod_between_43 rfl (by omega) (by omega) (Or.inr ⟨hx, rfl, rfl, fr, ⟨_, _, _, _, _, _, _, _, _, _, _, _, _, _, _, _, ⟨h0, h1, h2, h3, h4, h5, h6, h7, h8, h9, h10, h11, h12, h13⟩, hI, hG⟩⟩)
