set_option maxHeartbeats 400000 in
set_option maxRecDepth 100000 in
theorem c_Mod_floor (l : Launch) (D : kD) (x y : Int64) (w : ww) (n : Nat) (h1 : -(10 : Int) ^ 15 ≤ x.toInt) (h2 : x.toInt ≤ 10 ^ 15) (hb : 0 < y.toInt) : AM l D M_Mod_floor 0 0 0 [.long x, .long y] w n (fun v w' n' => ∃ r : Int64, v = some (.long r) ∧ r.toInt = x.toInt / y.toInt ∧ w' = w ∧ n' = n) := by
  refine AM.ofl (by decide +kernel) rfl (Nat.le_of_ble_eq_true rfl) (fun X A Q hin S RT => ?_)
  have S : FX X (D, A, 4, Q) prog_9_method_43_code "KeyCodecModel" 0 0 0 := S
  have RT : RTl X (D, A, 4, Q) prog_9_method_43_code 0 0 _ := RT
  refine a_lve (lv' := [(0, .long x), (2, .long y)]) rfl ?_
  refine a_lload_n S d_Mod_floor_0 rfl rfl ?_
  refine a_lload_n S d_Mod_floor_1 rfl rfl ?_
  refine a_ldiv S d_Mod_floor_2 (y0 hb) ?_
  refine a_lload_n S d_Mod_floor_3 rfl rfl ?_
  refine a_lload_n S d_Mod_floor_4 rfl rfl ?_
  refine a_lrem S d_Mod_floor_5 (y0 hb) ?_
  refine a_lconst S (v := 0) d_Mod_floor_6 (by decide) ?_
  refine a_lcmp S d_Mod_floor_7 ?_
  refine a_if_ge S (tgt := 15) d_Mod_floor_8 rfl (fun h8 => ?_) (fun h8 => ?_)
  · refine a_lconst S (v := 0) d_Mod_floor_15 (by decide) ?_
    refine a_lsub S d_Mod_floor_16 ?_
    exact RT _ _ _ _ _ _ _ d_Mod_floor_17 (by omega) (by omega) ⟨_, rfl, (fl_0 h1 h2 hb h8), rfl, rfl⟩
  · refine a_lconst S (v := 1) d_Mod_floor_11 (by decide) ?_
    refine a_goto S (tgt := 16) d_Mod_floor_12 rfl ?_
    refine a_lsub S d_Mod_floor_16 ?_
    exact RT _ _ _ _ _ _ _ d_Mod_floor_17 (by omega) (by omega) ⟨_, rfl, (fl_1 h1 h2 hb (k2_lt h8)), rfl, rfl⟩
set_option maxHeartbeats 400000 in
set_option maxRecDepth 100000 in
theorem c_Mod_orderDecimals (l : Launch) (D : kD) (b : Nat) (th : Int32) (fd : Nat) (sl : Bool) (ki fl : Nat → Int32) (va : Nat → Int64) (fo go si te : Nat → Int32) (kp : Nat) (ro : Nat → Int32) (rs : Nat) (ma : Nat → Int32) (sz : Nat) (en ms lw hw : Nat → Int32) (ls : Nat) (hz : Int32) (pt : Nat) (bd : Bool) (p q s t : Nat) (Y Z : Int64) (w : ww) (n : Nat) (hp : p < 70) (hq : q < 70) (hs : s ≤ 9) (ht : t ≤ 9) (hfs : fo p = nI s) (hft : fo q = nI t) (hvp : va p = Y) (hvq : va q = Z) (a1 : -(10 : Int) ^ 15 ≤ Y.toInt) (a2 : Y.toInt ≤ 10 ^ 15) (b1 : -(10 : Int) ^ 15 ≤ Z.toInt) (b2 : Z.toInt ≤ 10 ^ 15) (h : Mo D w b th fd sl ki fl va fo go si te kp ro rs ma sz en ms lw hw ls hz pt bd) : AM l D M_Mod_orderDecimals 1 0 0 [.ref b, .int (nI p), .int (nI q)] w n (fun v w' n' => v = some (.int (Int32.ofInt (ordI (Y.toInt * 10 ^ t) (Z.toInt * 10 ^ s)))) ∧ w' = w ∧ n' = n) := by
  refine AM.ofi (by decide +kernel) rfl (Nat.le_of_ble_eq_true rfl) (fun X A Q hin S RT => ?_)
  have S : FX X (D, A, 11, Q) prog_9_method_44_code "KeyCodecModel" 1 0 0 := S
  have RT : RTi X (D, A, 11, Q) prog_9_method_44_code 0 0 _ := RT
  obtain ⟨h0, h1, h2, h3, h4, h5, h6, h7, h8, h9, h10, h11, h12, h13⟩ := h
  refine a_lve (lv' := [(0, .ref b), (1, .int (nI p)), (2, .int (nI q))]) rfl ?_
  have fr : Fr w w b 14 := Fr.refl _ _ _
  refine a_lconst S (v := 1) d_Mod_orderDecimals_0 (by decide) ?_
  refine a_lstore_n S d_Mod_orderDecimals_1 rfl (Nat.le_of_ble_eq_true rfl) (lv' := [(0, .ref b), (1, .int (nI p)), (2, .int (nI q)), (3, .long 1)]) rfl ?_
  refine a_lconst S (v := 1) d_Mod_orderDecimals_2 (by decide) ?_
  refine a_lstore S d_Mod_orderDecimals_3 (Nat.le_of_ble_eq_true rfl) (lv' := [(0, .ref b), (1, .int (nI p)), (2, .int (nI q)), (3, .long 1), (5, .long 1)]) rfl ?_
  refine a_iconst S (v := 0) d_Mod_orderDecimals_5 (by decide) ?_
  refine a_istore S d_Mod_orderDecimals_6 (Nat.le_of_ble_eq_true rfl) (lv' := [(0, .ref b), (1, .int (nI p)), (2, .int (nI q)), (3, .long 1), (5, .long 1), (7, .int 0)]) rfl ?_
  have loop8 : ∀ (kk8 : Nat) (i : Nat), s - i = kk8 → (i ≤ s) → AW X (D, A, 11, Q) 8 [(0, .ref b), (1, .int (nI p)), (2, .int (nI q)), (3, .long (lN (10 ^ i))), (5, .long 1), (7, .int (nI i))] [] w n 0 0 := by
    intro kk8
    induction kk8 using Nat.strongRecOn with
    | ind kk8 ih8 =>
      intro i hk8 hi
      refine a_iload S d_Mod_orderDecimals_8 rfl ?_
      refine a_aload_n S d_Mod_orderDecimals_10 rfl rfl ?_
      refine a_get S kc_Mod 6 (by decide) lf_Mod_20 h0 rfl d_Mod_orderDecimals_11 ?_
      refine a_iload_n S d_Mod_orderDecimals_14 rfl rfl ?_
      refine a_iald S (i := p) h4 rfl (by omega) (by decide) d_Mod_orderDecimals_15 ?_
      refine a_eqi hfs ?_
      refine a_icmp_ge S (tgt := 31) d_Mod_orderDecimals_16 rfl (fun h16 => ?_) (fun h16 => ?_)
      · have hi : i = s := Nat.le_antisymm hi ((nI_leI (by omega) (by omega)).mp h16)
        refine a_lve (lv' := [(0, .ref b), (1, .int (nI p)), (2, .int (nI q)), (3, .long (lN (10 ^ s))), (5, .long 1), (7, .int (nI i))]) (by rw [hi]) ?_
        refine a_iconst S (v := 0) d_Mod_orderDecimals_31 (by decide) ?_
        refine a_istore S d_Mod_orderDecimals_32 (Nat.le_of_ble_eq_true rfl) (lv' := [(0, .ref b), (1, .int (nI p)), (2, .int (nI q)), (3, .long (lN (10 ^ s))), (5, .long 1), (7, .int 0)]) rfl ?_
        have loop34 : ∀ (kk34 : Nat) (i : Nat), t - i = kk34 → (i ≤ t) → AW X (D, A, 11, Q) 34 [(0, .ref b), (1, .int (nI p)), (2, .int (nI q)), (3, .long (lN (10 ^ s))), (5, .long (lN (10 ^ i))), (7, .int (nI i))] [] w n 0 0 := by
          intro kk34
          induction kk34 using Nat.strongRecOn with
          | ind kk34 ih34 =>
            intro i hk34 hi
            refine a_iload S d_Mod_orderDecimals_34 rfl ?_
            refine a_aload_n S d_Mod_orderDecimals_36 rfl rfl ?_
            refine a_get S kc_Mod 6 (by decide) lf_Mod_20 h0 rfl d_Mod_orderDecimals_37 ?_
            refine a_iload_n S d_Mod_orderDecimals_40 rfl rfl ?_
            refine a_iald S (i := q) h4 rfl (by omega) (by decide) d_Mod_orderDecimals_41 ?_
            refine a_eqi hft ?_
            refine a_icmp_ge S (tgt := 59) d_Mod_orderDecimals_42 rfl (fun h42 => ?_) (fun h42 => ?_)
            · have hi : i = t := Nat.le_antisymm hi ((nI_leI (by omega) (by omega)).mp h42)
              refine a_lve (lv' := [(0, .ref b), (1, .int (nI p)), (2, .int (nI q)), (3, .long (lN (10 ^ s))), (5, .long (lN (10 ^ t))), (7, .int (nI i))]) (by rw [hi]) ?_
              refine a_aload_n S d_Mod_orderDecimals_59 rfl rfl ?_
              refine a_get S kc_Mod 5 (by decide) lf_Mod_16 h0 rfl d_Mod_orderDecimals_60 ?_
              refine a_iload_n S d_Mod_orderDecimals_63 rfl rfl ?_
              refine a_lald S (i := p) h3 rfl (by omega) (by decide) d_Mod_orderDecimals_64 ?_
              refine a_eql hvp ?_
              refine a_lload_n S d_Mod_orderDecimals_65 rfl rfl ?_
              refine a_callS S (rest := []) lg_Mod_180 (c_Mod_floor X.2.1 D Y (lN (10 ^ s)) w n a1 a2 (by rw [lN_T (p10_lt (by omega))]; have := p10_pos s; omega)) (by decide) (by omega) (by omega) rfl (Nat.le_of_ble_eq_true rfl) d_Mod_orderDecimals_66 (fun v1 w2 n3 p4 => ?_)
              obtain ⟨r1, rfl, hr1, e5, e6⟩ := p4
              rw [e5, e6]
              rw [lN_T (p10_lt (by omega))] at hr1
              refine a_st (st' := [.long r1]) rfl ?_
              refine a_lstore S d_Mod_orderDecimals_69 (Nat.le_of_ble_eq_true rfl) (lv' := [(0, .ref b), (1, .int (nI p)), (2, .int (nI q)), (3, .long (lN (10 ^ s))), (5, .long (lN (10 ^ t))), (7, .long r1)]) rfl ?_
              refine a_aload_n S d_Mod_orderDecimals_71 rfl rfl ?_
              refine a_get S kc_Mod 5 (by decide) lf_Mod_16 h0 rfl d_Mod_orderDecimals_72 ?_
              refine a_iload_n S d_Mod_orderDecimals_75 rfl rfl ?_
              refine a_lald S (i := q) h3 rfl (by omega) (by decide) d_Mod_orderDecimals_76 ?_
              refine a_eql hvq ?_
              refine a_lload S d_Mod_orderDecimals_77 rfl ?_
              refine a_callS S (rest := []) lg_Mod_180 (c_Mod_floor X.2.1 D Z (lN (10 ^ t)) w n b1 b2 (by rw [lN_T (p10_lt (by omega))]; have := p10_pos t; omega)) (by decide) (by omega) (by omega) rfl (Nat.le_of_ble_eq_true rfl) d_Mod_orderDecimals_79 (fun v7 w8 n9 p10 => ?_)
              obtain ⟨r2, rfl, hr2, e11, e12⟩ := p10
              rw [e11, e12]
              rw [lN_T (p10_lt (by omega))] at hr2
              refine a_st (st' := [.long r2]) rfl ?_
              refine a_lstore S d_Mod_orderDecimals_82 (Nat.le_of_ble_eq_true rfl) (lv' := [(0, .ref b), (1, .int (nI p)), (2, .int (nI q)), (3, .long (lN (10 ^ s))), (5, .long (lN (10 ^ t))), (7, .long r1), (9, .long r2)]) rfl ?_
              refine a_lload S d_Mod_orderDecimals_84 rfl ?_
              refine a_lload S d_Mod_orderDecimals_86 rfl ?_
              refine a_lcmp S d_Mod_orderDecimals_88 ?_
              refine a_if_eq S (tgt := 100) d_Mod_orderDecimals_89 rfl (fun h89 => ?_) (fun h89 => ?_)
              · refine a_aload_n S d_Mod_orderDecimals_100 rfl rfl ?_
                refine a_get S kc_Mod 5 (by decide) lf_Mod_16 h0 rfl d_Mod_orderDecimals_101 ?_
                refine a_iload_n S d_Mod_orderDecimals_104 rfl rfl ?_
                refine a_lald S (i := p) h3 rfl (by omega) (by decide) d_Mod_orderDecimals_105 ?_
                refine a_eql hvp ?_
                refine a_lload S d_Mod_orderDecimals_106 rfl ?_
                refine a_lload_n S d_Mod_orderDecimals_108 rfl rfl ?_
                refine a_lmul S d_Mod_orderDecimals_109 ?_
                refine a_lsub S d_Mod_orderDecimals_110 ?_
                refine a_ldc2 S (v := 1000000000) lK_Mod_188 d_Mod_orderDecimals_111 ?_
                refine a_lload_n S d_Mod_orderDecimals_114 rfl rfl ?_
                refine a_ldiv S d_Mod_orderDecimals_115 (lN_ne (p10_pos s) (p10_lt (by omega))) ?_
                refine a_eql (y := (lN (10 ^ (9 - s)))) (nine_d hs) ?_
                refine a_lmul S d_Mod_orderDecimals_116 ?_
                refine a_aload_n S d_Mod_orderDecimals_117 rfl rfl ?_
                refine a_get S kc_Mod 5 (by decide) lf_Mod_16 h0 rfl d_Mod_orderDecimals_118 ?_
                refine a_iload_n S d_Mod_orderDecimals_121 rfl rfl ?_
                refine a_lald S (i := q) h3 rfl (by omega) (by decide) d_Mod_orderDecimals_122 ?_
                refine a_eql hvq ?_
                refine a_lload S d_Mod_orderDecimals_123 rfl ?_
                refine a_lload S d_Mod_orderDecimals_125 rfl ?_
                refine a_lmul S d_Mod_orderDecimals_127 ?_
                refine a_lsub S d_Mod_orderDecimals_128 ?_
                refine a_ldc2 S (v := 1000000000) lK_Mod_188 d_Mod_orderDecimals_129 ?_
                refine a_lload S d_Mod_orderDecimals_132 rfl ?_
                refine a_ldiv S d_Mod_orderDecimals_134 (lN_ne (p10_pos t) (p10_lt (by omega))) ?_
                refine a_eql (y := (lN (10 ^ (9 - t)))) (nine_d ht) ?_
                refine a_lmul S d_Mod_orderDecimals_135 ?_
                refine a_callS S (rest := []) lg_Mod_184 (c_Mod_order X.2.1 D ((Y - (r1 * (lN (10 ^ s)))) * (lN (10 ^ (9 - s)))) ((Z - (r2 * (lN (10 ^ t)))) * (lN (10 ^ (9 - t)))) w n) (by decide) (by omega) (by omega) rfl (Nat.le_of_ble_eq_true rfl) d_Mod_orderDecimals_136 (fun v13 w14 n15 p16 => ?_)
                obtain ⟨rfl, e17, e18⟩ := p16
                rw [e17, e18]
                refine a_st (st' := [.int (Int32.ofInt (ordI ((Y - (r1 * (lN (10 ^ s)))) * (lN (10 ^ (9 - s)))).toInt ((Z - (r2 * (lN (10 ^ t)))) * (lN (10 ^ (9 - t)))).toInt))]) rfl ?_
                exact RT _ _ _ _ _ _ _ d_Mod_orderDecimals_139 (by omega) (by omega) ⟨by rw [od_2 hs ht a1 a2 b1 b2 hr1 hr2 h89], rfl, rfl⟩
              · refine a_lload S d_Mod_orderDecimals_92 rfl ?_
                refine a_lload S d_Mod_orderDecimals_94 rfl ?_
                refine a_callS S (rest := []) lg_Mod_184 (c_Mod_order X.2.1 D r1 r2 w n) (by decide) (by omega) (by omega) rfl (Nat.le_of_ble_eq_true rfl) d_Mod_orderDecimals_96 (fun v19 w20 n21 p22 => ?_)
                obtain ⟨rfl, e23, e24⟩ := p22
                rw [e23, e24]
                refine a_st (st' := [.int (Int32.ofInt (ordI r1.toInt r2.toInt))]) rfl ?_
                exact RT _ _ _ _ _ _ _ d_Mod_orderDecimals_99 (by omega) (by omega) ⟨by rw [od_1 hr1 hr2 h89], rfl, rfl⟩
            · have hi : i < t := Nat.not_le.mp fun z => h42 ((nI_leI (by omega) (by omega)).mpr z)
              refine a_lload S d_Mod_orderDecimals_45 rfl ?_
              refine a_ldc2 S (v := 10) lK_Mod_111 d_Mod_orderDecimals_47 ?_
              refine a_lmul S d_Mod_orderDecimals_50 ?_
              refine a_eql (y := (lN (10 ^ (i + 1)))) (by rw [Nat.pow_succ]; exact lN_mul _ _) ?_
              refine a_lstore S d_Mod_orderDecimals_51 (Nat.le_of_ble_eq_true rfl) (lv' := [(0, .ref b), (1, .int (nI p)), (2, .int (nI q)), (3, .long (lN (10 ^ s))), (5, .long (lN (10 ^ (i + 1)))), (7, .int (nI i))]) rfl ?_
              refine a_iinc S (v := nI (i + 1)) d_Mod_orderDecimals_53 rfl (ni_add rfl (by decide)) (Nat.le_of_ble_eq_true rfl) (lv' := [(0, .ref b), (1, .int (nI p)), (2, .int (nI q)), (3, .long (lN (10 ^ s))), (5, .long (lN (10 ^ (i + 1)))), (7, .int (nI (i + 1)))]) rfl ?_
              refine a_goto S (tgt := 34) d_Mod_orderDecimals_56 rfl ?_
              exact ih34 _ (by omega) (i + 1) rfl (by omega)
        exact loop34 _ 0 rfl (Nat.zero_le _)
      · have hi : i < s := Nat.not_le.mp fun z => h16 ((nI_leI (by omega) (by omega)).mpr z)
        refine a_lload_n S d_Mod_orderDecimals_19 rfl rfl ?_
        refine a_ldc2 S (v := 10) lK_Mod_111 d_Mod_orderDecimals_20 ?_
        refine a_lmul S d_Mod_orderDecimals_23 ?_
        refine a_eql (y := (lN (10 ^ (i + 1)))) (by rw [Nat.pow_succ]; exact lN_mul _ _) ?_
        refine a_lstore_n S d_Mod_orderDecimals_24 rfl (Nat.le_of_ble_eq_true rfl) (lv' := [(0, .ref b), (1, .int (nI p)), (2, .int (nI q)), (3, .long (lN (10 ^ (i + 1)))), (5, .long 1), (7, .int (nI i))]) rfl ?_
        refine a_iinc S (v := nI (i + 1)) d_Mod_orderDecimals_25 rfl (ni_add rfl (by decide)) (Nat.le_of_ble_eq_true rfl) (lv' := [(0, .ref b), (1, .int (nI p)), (2, .int (nI q)), (3, .long (lN (10 ^ (i + 1)))), (5, .long 1), (7, .int (nI (i + 1)))]) rfl ?_
        refine a_goto S (tgt := 8) d_Mod_orderDecimals_28 rfl ?_
        exact ih8 _ (by omega) (i + 1) rfl (by omega)
  exact loop8 _ 0 rfl (Nat.zero_le _)
set_option maxHeartbeats 400000 in
set_option maxRecDepth 100000 in
theorem c_Mod_orderField (l : Launch) (D : kD) (b : Nat) (th : Int32) (fd : Nat) (sl : Bool) (ki fl : Nat → Int32) (va : Nat → Int64) (fo go si te : Nat → Int32) (kp : Nat) (ro : Nat → Int32) (rs : Nat) (ma : Nat → Int32) (sz : Nat) (en ms lw hw : Nat → Int32) (ls : Nat) (hz : Int32) (pt : Nat) (bd : Bool) (f p q kd fg : Nat) (x y : kV) (w : ww) (n : Nat) (hf : f < 5) (hp : p < 70) (hq : q < 70) (hki : ki f = nI kd) (hfl : fl f = nI fg) (hk4 : kd < 4) (hf8 : fg < 8) (hvx : VR va fo go si te p x) (hvy : VR va fo go si te q y) (hox : okV kd fg x) (hoy : okV kd fg y) (h : Mo D w b th fd sl ki fl va fo go si te kp ro rs ma sz en ms lw hw ls hz pt bd) : AM l D M_Mod_orderField 2 0 0 [.ref b, .int (nI f), .int (nI p), .int (nI q)] w n (fun v w' n' => v = some (.int (Int32.ofInt (ordF kd fg x y))) ∧ w' = w ∧ n' = n) := by
  refine AM.ofi (by decide +kernel) rfl (Nat.le_of_ble_eq_true rfl) (fun X A Q hin S RT => ?_)
  have S : FX X (D, A, 5, Q) prog_9_method_46_code "KeyCodecModel" 2 0 0 := S
  have RT : RTi X (D, A, 5, Q) prog_9_method_46_code 0 0 _ := RT
  obtain ⟨h0, h1, h2, h3, h4, h5, h6, h7, h8, h9, h10, h11, h12, h13⟩ := h
  refine a_lve (lv' := [(0, .ref b), (1, .int (nI f)), (2, .int (nI p)), (3, .int (nI q))]) rfl ?_
  have fr : Fr w w b 14 := Fr.refl _ _ _
  refine a_aload_n S d_Mod_orderField_0 rfl rfl ?_
  refine a_get S kc_Mod 7 (by decide) lf_Mod_23 h0 rfl d_Mod_orderField_1 ?_
  refine a_iload_n S d_Mod_orderField_4 rfl rfl ?_
  refine a_zald S (i := p) h5 rfl hp (by decide) d_Mod_orderField_5 ?_
  refine a_eqi hvx.2.2.1 ?_
  refine a_if_ne S (tgt := 18) d_Mod_orderField_6 rfl (fun h6_ => ?_) (fun h6_ => ?_)
  · have hgx : x.1 = true := bo_1 h6_
    refine a_aload_n S d_Mod_orderField_18 rfl rfl ?_
    refine a_get S kc_Mod 7 (by decide) lf_Mod_23 h0 rfl d_Mod_orderField_19 ?_
    refine a_iload_n S d_Mod_orderField_22 rfl rfl ?_
    refine a_zald S (i := p) h5 rfl hp (by decide) d_Mod_orderField_23 ?_
    refine a_eqi hvx.2.2.1 ?_
    refine a_if_eq S (tgt := 31) d_Mod_orderField_24 rfl (fun h24 => ?_) (fun h24 => ?_)
    · have hc_ : x.1 = false := bo_0 h24
      rw [hgx] at hc_; cases hc_
    · refine a_iconst S (v := 0) d_Mod_orderField_27 (by decide) ?_
      refine a_goto S (tgt := 32) d_Mod_orderField_28 rfl ?_
      refine a_aload_n S d_Mod_orderField_32 rfl rfl ?_
      refine a_get S kc_Mod 7 (by decide) lf_Mod_23 h0 rfl d_Mod_orderField_33 ?_
      refine a_iload_n S d_Mod_orderField_36 rfl rfl ?_
      refine a_zald S (i := q) h5 rfl hq (by decide) d_Mod_orderField_37 ?_
      refine a_eqi hvy.2.2.1 ?_
      refine a_if_eq S (tgt := 45) d_Mod_orderField_38 rfl (fun h38 => ?_) (fun h38 => ?_)
      · have hgy : y.1 = false := bo_0 h38
        refine a_iconst S (v := 1) d_Mod_orderField_45 (by decide) ?_
        refine a_isub S d_Mod_orderField_46 ?_
        refine a_eqi (y := (-1)) (by decide) ?_
        refine a_istore S d_Mod_orderField_47 (Nat.le_of_ble_eq_true rfl) (lv' := [(0, .ref b), (1, .int (nI f)), (2, .int (nI p)), (3, .int (nI q)), (4, .int (-1))]) rfl ?_
        refine a_aload_n S d_Mod_orderField_49 rfl rfl ?_
        refine a_iload_n S d_Mod_orderField_50 rfl rfl ?_
        refine a_callV S (rest := []) lg_Mod_113 h0 (c_Mod_isLast X.2.1 D b th fd sl ki fl va fo go si te kp ro rs ma sz en ms lw hw ls hz pt bd f w n hf ⟨h0, h1, h2, h3, h4, h5, h6, h7, h8, h9, h10, h11, h12, h13⟩) (by decide) (by omega) (by omega) rfl (Nat.le_of_ble_eq_true rfl) d_Mod_orderField_51 (fun v1 w2 n3 p4 => ?_)
        obtain ⟨rfl, e5, e6⟩ := p4
        rw [e5, e6]
        refine a_st (st' := [.int (if fl f &&& 4 = 0 then 0 else 1)]) rfl ?_
        refine a_if_eq S (tgt := 64) d_Mod_orderField_54 rfl (fun h54 => ?_) (fun h54 => ?_)
        · rw [hfl] at h54
          have hL := (fLa_d fg hf8).1 (if01 h54)
          refine a_iload S d_Mod_orderField_64 rfl ?_
          exact RT _ _ _ _ _ _ _ d_Mod_orderField_66 (by omega) (by omega) ⟨by unfold ordF; rw [hgx, hgy, hL]; rfl, rfl, rfl⟩
        · rw [hfl] at h54
          have hL := (fLa_d fg hf8).2 (if01n h54)
          refine a_iconst S (v := 0) d_Mod_orderField_57 (by decide) ?_
          refine a_iload S d_Mod_orderField_58 rfl ?_
          refine a_isub S d_Mod_orderField_60 ?_
          refine a_eqi (y := 1) (by decide) ?_
          refine a_goto S (tgt := 66) d_Mod_orderField_61 rfl ?_
          exact RT _ _ _ _ _ _ _ d_Mod_orderField_66 (by omega) (by omega) ⟨by unfold ordF; rw [hgx, hgy, hL]; rfl, rfl, rfl⟩
      · have hgy : y.1 = true := bo_1 h38
        refine a_iconst S (v := 0) d_Mod_orderField_41 (by decide) ?_
        refine a_goto S (tgt := 46) d_Mod_orderField_42 rfl ?_
        refine a_isub S d_Mod_orderField_46 ?_
        refine a_eqi (y := 0) (by decide) ?_
        refine a_istore S d_Mod_orderField_47 (Nat.le_of_ble_eq_true rfl) (lv' := [(0, .ref b), (1, .int (nI f)), (2, .int (nI p)), (3, .int (nI q)), (4, .int 0)]) rfl ?_
        refine a_aload_n S d_Mod_orderField_49 rfl rfl ?_
        refine a_iload_n S d_Mod_orderField_50 rfl rfl ?_
        refine a_callV S (rest := []) lg_Mod_113 h0 (c_Mod_isLast X.2.1 D b th fd sl ki fl va fo go si te kp ro rs ma sz en ms lw hw ls hz pt bd f w n hf ⟨h0, h1, h2, h3, h4, h5, h6, h7, h8, h9, h10, h11, h12, h13⟩) (by decide) (by omega) (by omega) rfl (Nat.le_of_ble_eq_true rfl) d_Mod_orderField_51 (fun v7 w8 n9 p10 => ?_)
        obtain ⟨rfl, e11, e12⟩ := p10
        rw [e11, e12]
        refine a_st (st' := [.int (if fl f &&& 4 = 0 then 0 else 1)]) rfl ?_
        refine a_if_eq S (tgt := 64) d_Mod_orderField_54 rfl (fun h54 => ?_) (fun h54 => ?_)
        · rw [hfl] at h54
          have hL := (fLa_d fg hf8).1 (if01 h54)
          refine a_iload S d_Mod_orderField_64 rfl ?_
          exact RT _ _ _ _ _ _ _ d_Mod_orderField_66 (by omega) (by omega) ⟨by unfold ordF; rw [hgx, hgy, hL]; rfl, rfl, rfl⟩
        · rw [hfl] at h54
          have hL := (fLa_d fg hf8).2 (if01n h54)
          refine a_iconst S (v := 0) d_Mod_orderField_57 (by decide) ?_
          refine a_iload S d_Mod_orderField_58 rfl ?_
          refine a_isub S d_Mod_orderField_60 ?_
          refine a_eqi (y := 0) (by decide) ?_
          refine a_goto S (tgt := 66) d_Mod_orderField_61 rfl ?_
          exact RT _ _ _ _ _ _ _ d_Mod_orderField_66 (by omega) (by omega) ⟨by unfold ordF; rw [hgx, hgy, hL]; rfl, rfl, rfl⟩
  · have hgx : x.1 = false := bo_0 h6_
    refine a_aload_n S d_Mod_orderField_9 rfl rfl ?_
    refine a_get S kc_Mod 7 (by decide) lf_Mod_23 h0 rfl d_Mod_orderField_10 ?_
    refine a_iload_n S d_Mod_orderField_13 rfl rfl ?_
    refine a_zald S (i := q) h5 rfl hq (by decide) d_Mod_orderField_14 ?_
    refine a_eqi hvy.2.2.1 ?_
    refine a_if_eq S (tgt := 67) d_Mod_orderField_15 rfl (fun h15 => ?_) (fun h15 => ?_)
    · have hgy : y.1 = false := bo_0 h15
      refine a_aload_n S d_Mod_orderField_67 rfl rfl ?_
      refine a_get S kc_Mod 3 (by decide) lf_Mod_7 h0 rfl d_Mod_orderField_68 ?_
      refine a_iload_n S d_Mod_orderField_71 rfl rfl ?_
      refine a_iald S (i := f) h1 rfl (by omega) (by decide) d_Mod_orderField_72 ?_
      refine a_eqi hki ?_
      refine a_iconst S (v := 1) d_Mod_orderField_73 (by decide) ?_
      refine a_icmp_ne S (tgt := 86) d_Mod_orderField_74 rfl (fun h74 => ?_) (fun h74 => ?_)
      · have hk1 : ¬ kd = 1 := fun z => h74 (by rw [z]; rfl)
        refine a_aload_n S d_Mod_orderField_86 rfl rfl ?_
        refine a_get S kc_Mod 3 (by decide) lf_Mod_7 h0 rfl d_Mod_orderField_87 ?_
        refine a_iload_n S d_Mod_orderField_90 rfl rfl ?_
        refine a_iald S (i := f) h1 rfl (by omega) (by decide) d_Mod_orderField_91 ?_
        refine a_eqi hki ?_
        refine a_iconst S (v := 2) d_Mod_orderField_92 (by decide) ?_
        refine a_icmp_ne S (tgt := 105) d_Mod_orderField_93 rfl (fun h93 => ?_) (fun h93 => ?_)
        · have hk2 : ¬ kd = 2 := fun z => h93 (by rw [z]; rfl)
          refine a_aload_n S d_Mod_orderField_105 rfl rfl ?_
          refine a_get S kc_Mod 5 (by decide) lf_Mod_16 h0 rfl d_Mod_orderField_106 ?_
          refine a_iload_n S d_Mod_orderField_109 rfl rfl ?_
          refine a_lald S (i := p) h3 rfl (by omega) (by decide) d_Mod_orderField_110 ?_
          refine a_eql hvx.1 ?_
          refine a_aload_n S d_Mod_orderField_111 rfl rfl ?_
          refine a_get S kc_Mod 5 (by decide) lf_Mod_16 h0 rfl d_Mod_orderField_112 ?_
          refine a_iload_n S d_Mod_orderField_115 rfl rfl ?_
          refine a_lald S (i := q) h3 rfl (by omega) (by decide) d_Mod_orderField_116 ?_
          refine a_eql hvy.1 ?_
          refine a_callS S (rest := []) lg_Mod_184 (c_Mod_order X.2.1 D x.2.1 y.2.1 w n) (by decide) (by omega) (by omega) rfl (Nat.le_of_ble_eq_true rfl) d_Mod_orderField_117 (fun v13 w14 n15 p16 => ?_)
          obtain ⟨rfl, e17, e18⟩ := p16
          rw [e17, e18]
          refine a_st (st' := [.int (Int32.ofInt (ordI x.2.1.toInt y.2.1.toInt))]) rfl ?_
          refine a_eqi (y := (Int32.ofInt (ordV kd x y))) (by rw [ov_0 hk1 hk2]) ?_
          refine a_istore S d_Mod_orderField_120 (Nat.le_of_ble_eq_true rfl) (lv' := [(0, .ref b), (1, .int (nI f)), (2, .int (nI p)), (3, .int (nI q)), (4, .int (Int32.ofInt (ordV kd x y)))]) rfl ?_
          refine a_aload_n S d_Mod_orderField_122 rfl rfl ?_
          refine a_iload_n S d_Mod_orderField_123 rfl rfl ?_
          refine a_callV S (rest := []) lg_Mod_116 h0 (c_Mod_isDown X.2.1 D b th fd sl ki fl va fo go si te kp ro rs ma sz en ms lw hw ls hz pt bd f w n hf ⟨h0, h1, h2, h3, h4, h5, h6, h7, h8, h9, h10, h11, h12, h13⟩) (by decide) (by omega) (by omega) rfl (Nat.le_of_ble_eq_true rfl) d_Mod_orderField_124 (fun v19 w20 n21 p22 => ?_)
          obtain ⟨rfl, e23, e24⟩ := p22
          rw [e23, e24]
          refine a_st (st' := [.int (if fl f &&& 1 = 0 then 0 else 1)]) rfl ?_
          refine a_if_eq S (tgt := 137) d_Mod_orderField_127 rfl (fun h127 => ?_) (fun h127 => ?_)
          · rw [hfl] at h127
            have hD := (fDn_d fg hf8).1 (if01 h127)
            refine a_iload S d_Mod_orderField_137 rfl ?_
            exact RT _ _ _ _ _ _ _ d_Mod_orderField_139 (by omega) (by omega) ⟨by rw [of_n hgx hgy hD], rfl, rfl⟩
          · rw [hfl] at h127
            have hD := (fDn_d fg hf8).2 (if01n h127)
            refine a_iconst S (v := 0) d_Mod_orderField_130 (by decide) ?_
            refine a_iload S d_Mod_orderField_131 rfl ?_
            refine a_isub S d_Mod_orderField_133 ?_
            refine a_goto S (tgt := 139) d_Mod_orderField_134 rfl ?_
            exact RT _ _ _ _ _ _ _ d_Mod_orderField_139 (by omega) (by omega) ⟨by rw [of_d2 hgx hgy hD], rfl, rfl⟩
        · have hk2 : kd = 2 := (nI_eq (by omega) (by decide)).mp h93
          refine a_aload_n S d_Mod_orderField_96 rfl rfl ?_
          refine a_iload_n S d_Mod_orderField_97 rfl rfl ?_
          refine a_iload_n S d_Mod_orderField_98 rfl rfl ?_
          refine a_callV S (rest := []) lg_Mod_194 h0 (c_Mod_orderTexts X.2.1 D b th fd sl ki fl va fo go si te kp ro rs ma sz en ms lw hw ls hz pt bd p q x.2.2.2 y.2.2.2 w n hvx.2.2.2.2.2.1 hvy.2.2.2.2.2.1 hp hq hvx.2.2.2.2.1 hvy.2.2.2.2.1 hvx.2.2.2.1 hvy.2.2.2.1 hvx.2.2.2.2.2.2 hvy.2.2.2.2.2.2 ⟨h0, h1, h2, h3, h4, h5, h6, h7, h8, h9, h10, h11, h12, h13⟩) (by decide) (by omega) (by omega) rfl (Nat.le_of_ble_eq_true rfl) d_Mod_orderField_99 (fun v25 w26 n27 p28 => ?_)
          obtain ⟨rfl, e29, e30⟩ := p28
          rw [e29, e30]
          refine a_st (st' := [.int (Int32.ofInt (cmpB x.2.2.2 y.2.2.2))]) rfl ?_
          refine a_eqi (y := (Int32.ofInt (ordV kd x y))) (by rw [ov_2 hk2]) ?_
          refine a_goto S (tgt := 120) d_Mod_orderField_102 rfl ?_
          refine a_istore S d_Mod_orderField_120 (Nat.le_of_ble_eq_true rfl) (lv' := [(0, .ref b), (1, .int (nI f)), (2, .int (nI p)), (3, .int (nI q)), (4, .int (Int32.ofInt (ordV kd x y)))]) rfl ?_
          refine a_aload_n S d_Mod_orderField_122 rfl rfl ?_
          refine a_iload_n S d_Mod_orderField_123 rfl rfl ?_
          refine a_callV S (rest := []) lg_Mod_116 h0 (c_Mod_isDown X.2.1 D b th fd sl ki fl va fo go si te kp ro rs ma sz en ms lw hw ls hz pt bd f w n hf ⟨h0, h1, h2, h3, h4, h5, h6, h7, h8, h9, h10, h11, h12, h13⟩) (by decide) (by omega) (by omega) rfl (Nat.le_of_ble_eq_true rfl) d_Mod_orderField_124 (fun v31 w32 n33 p34 => ?_)
          obtain ⟨rfl, e35, e36⟩ := p34
          rw [e35, e36]
          refine a_st (st' := [.int (if fl f &&& 1 = 0 then 0 else 1)]) rfl ?_
          refine a_if_eq S (tgt := 137) d_Mod_orderField_127 rfl (fun h127 => ?_) (fun h127 => ?_)
          · rw [hfl] at h127
            have hD := (fDn_d fg hf8).1 (if01 h127)
            refine a_iload S d_Mod_orderField_137 rfl ?_
            exact RT _ _ _ _ _ _ _ d_Mod_orderField_139 (by omega) (by omega) ⟨by rw [of_n hgx hgy hD], rfl, rfl⟩
          · rw [hfl] at h127
            have hD := (fDn_d fg hf8).2 (if01n h127)
            refine a_iconst S (v := 0) d_Mod_orderField_130 (by decide) ?_
            refine a_iload S d_Mod_orderField_131 rfl ?_
            refine a_isub S d_Mod_orderField_133 ?_
            refine a_goto S (tgt := 139) d_Mod_orderField_134 rfl ?_
            exact RT _ _ _ _ _ _ _ d_Mod_orderField_139 (by omega) (by omega) ⟨by rw [of_d2 hgx hgy hD], rfl, rfl⟩
      · have hk1 : kd = 1 := (nI_eq (by omega) (by decide)).mp h74
        have nx := hox.2.2.2.1
        have ny := hoy.2.2.2.1
        rw [hk1] at nx ny
        have nx9 := nx.2.2.2
        have ny9 := ny.2.2.2
        refine a_aload_n S d_Mod_orderField_77 rfl rfl ?_
        refine a_iload_n S d_Mod_orderField_78 rfl rfl ?_
        refine a_iload_n S d_Mod_orderField_79 rfl rfl ?_
        refine a_callV S (rest := []) lg_Mod_190 h0 (c_Mod_orderDecimals X.2.1 D b th fd sl ki fl va fo go si te kp ro rs ma sz en ms lw hw ls hz pt bd p q x.2.2.1.toInt.toNat y.2.2.1.toInt.toNat x.2.1 y.2.1 w n hp hq (by omega) (by omega) (hvx.2.1.trans (nn_nI nx.2.2.1)) (hvy.2.1.trans (nn_nI ny.2.2.1)) hvx.1 hvy.1 nx.1 nx.2.1 ny.1 ny.2.1 ⟨h0, h1, h2, h3, h4, h5, h6, h7, h8, h9, h10, h11, h12, h13⟩) (by decide) (by omega) (by omega) rfl (Nat.le_of_ble_eq_true rfl) d_Mod_orderField_80 (fun v37 w38 n39 p40 => ?_)
        obtain ⟨rfl, e41, e42⟩ := p40
        rw [e41, e42]
        refine a_st (st' := [.int (Int32.ofInt (ordI (x.2.1.toInt * 10 ^ y.2.2.1.toInt.toNat) (y.2.1.toInt * 10 ^ x.2.2.1.toInt.toNat)))]) rfl ?_
        refine a_eqi (y := (Int32.ofInt (ordV kd x y))) (by rw [ov_1 hk1]) ?_
        refine a_goto S (tgt := 120) d_Mod_orderField_83 rfl ?_
        refine a_istore S d_Mod_orderField_120 (Nat.le_of_ble_eq_true rfl) (lv' := [(0, .ref b), (1, .int (nI f)), (2, .int (nI p)), (3, .int (nI q)), (4, .int (Int32.ofInt (ordV kd x y)))]) rfl ?_
        refine a_aload_n S d_Mod_orderField_122 rfl rfl ?_
        refine a_iload_n S d_Mod_orderField_123 rfl rfl ?_
        refine a_callV S (rest := []) lg_Mod_116 h0 (c_Mod_isDown X.2.1 D b th fd sl ki fl va fo go si te kp ro rs ma sz en ms lw hw ls hz pt bd f w n hf ⟨h0, h1, h2, h3, h4, h5, h6, h7, h8, h9, h10, h11, h12, h13⟩) (by decide) (by omega) (by omega) rfl (Nat.le_of_ble_eq_true rfl) d_Mod_orderField_124 (fun v43 w44 n45 p46 => ?_)
        obtain ⟨rfl, e47, e48⟩ := p46
        rw [e47, e48]
        refine a_st (st' := [.int (if fl f &&& 1 = 0 then 0 else 1)]) rfl ?_
        refine a_if_eq S (tgt := 137) d_Mod_orderField_127 rfl (fun h127 => ?_) (fun h127 => ?_)
        · rw [hfl] at h127
          have hD := (fDn_d fg hf8).1 (if01 h127)
          refine a_iload S d_Mod_orderField_137 rfl ?_
          exact RT _ _ _ _ _ _ _ d_Mod_orderField_139 (by omega) (by omega) ⟨by rw [of_n hgx hgy hD], rfl, rfl⟩
        · rw [hfl] at h127
          have hD := (fDn_d fg hf8).2 (if01n h127)
          refine a_iconst S (v := 0) d_Mod_orderField_130 (by decide) ?_
          refine a_iload S d_Mod_orderField_131 rfl ?_
          refine a_isub S d_Mod_orderField_133 ?_
          refine a_goto S (tgt := 139) d_Mod_orderField_134 rfl ?_
          exact RT _ _ _ _ _ _ _ d_Mod_orderField_139 (by omega) (by omega) ⟨by rw [of_d2 hgx hgy hD], rfl, rfl⟩
    · have hgy : y.1 = true := bo_1 h15
      refine a_aload_n S d_Mod_orderField_18 rfl rfl ?_
      refine a_get S kc_Mod 7 (by decide) lf_Mod_23 h0 rfl d_Mod_orderField_19 ?_
      refine a_iload_n S d_Mod_orderField_22 rfl rfl ?_
      refine a_zald S (i := p) h5 rfl hp (by decide) d_Mod_orderField_23 ?_
      refine a_eqi hvx.2.2.1 ?_
      refine a_if_eq S (tgt := 31) d_Mod_orderField_24 rfl (fun h24 => ?_) (fun h24 => ?_)
      · refine a_iconst S (v := 1) d_Mod_orderField_31 (by decide) ?_
        refine a_aload_n S d_Mod_orderField_32 rfl rfl ?_
        refine a_get S kc_Mod 7 (by decide) lf_Mod_23 h0 rfl d_Mod_orderField_33 ?_
        refine a_iload_n S d_Mod_orderField_36 rfl rfl ?_
        refine a_zald S (i := q) h5 rfl hq (by decide) d_Mod_orderField_37 ?_
        refine a_eqi hvy.2.2.1 ?_
        refine a_if_eq S (tgt := 45) d_Mod_orderField_38 rfl (fun h38 => ?_) (fun h38 => ?_)
        · have hc_ : y.1 = false := bo_0 h38
          rw [hgy] at hc_; cases hc_
        · refine a_iconst S (v := 0) d_Mod_orderField_41 (by decide) ?_
          refine a_goto S (tgt := 46) d_Mod_orderField_42 rfl ?_
          refine a_isub S d_Mod_orderField_46 ?_
          refine a_eqi (y := 1) (by decide) ?_
          refine a_istore S d_Mod_orderField_47 (Nat.le_of_ble_eq_true rfl) (lv' := [(0, .ref b), (1, .int (nI f)), (2, .int (nI p)), (3, .int (nI q)), (4, .int 1)]) rfl ?_
          refine a_aload_n S d_Mod_orderField_49 rfl rfl ?_
          refine a_iload_n S d_Mod_orderField_50 rfl rfl ?_
          refine a_callV S (rest := []) lg_Mod_113 h0 (c_Mod_isLast X.2.1 D b th fd sl ki fl va fo go si te kp ro rs ma sz en ms lw hw ls hz pt bd f w n hf ⟨h0, h1, h2, h3, h4, h5, h6, h7, h8, h9, h10, h11, h12, h13⟩) (by decide) (by omega) (by omega) rfl (Nat.le_of_ble_eq_true rfl) d_Mod_orderField_51 (fun v49 w50 n51 p52 => ?_)
          obtain ⟨rfl, e53, e54⟩ := p52
          rw [e53, e54]
          refine a_st (st' := [.int (if fl f &&& 4 = 0 then 0 else 1)]) rfl ?_
          refine a_if_eq S (tgt := 64) d_Mod_orderField_54 rfl (fun h54 => ?_) (fun h54 => ?_)
          · rw [hfl] at h54
            have hL := (fLa_d fg hf8).1 (if01 h54)
            refine a_iload S d_Mod_orderField_64 rfl ?_
            exact RT _ _ _ _ _ _ _ d_Mod_orderField_66 (by omega) (by omega) ⟨by unfold ordF; rw [hgx, hgy, hL]; rfl, rfl, rfl⟩
          · rw [hfl] at h54
            have hL := (fLa_d fg hf8).2 (if01n h54)
            refine a_iconst S (v := 0) d_Mod_orderField_57 (by decide) ?_
            refine a_iload S d_Mod_orderField_58 rfl ?_
            refine a_isub S d_Mod_orderField_60 ?_
            refine a_eqi (y := (-1)) (by decide) ?_
            refine a_goto S (tgt := 66) d_Mod_orderField_61 rfl ?_
            exact RT _ _ _ _ _ _ _ d_Mod_orderField_66 (by omega) (by omega) ⟨by unfold ordF; rw [hgx, hgy, hL]; rfl, rfl, rfl⟩
      · have hc_ : x.1 = true := bo_1 h24
        rw [hgx] at hc_; cases hc_
set_option maxHeartbeats 400000 in
set_option maxRecDepth 100000 in
theorem c_Mod_compare (l : Launch) (D : kD) (b : Nat) (th : Int32) (c : Nat) (s : Bool) (K F : Nat → Nat) (L : Nat → kV) (kr : List Nat) (m : Nat) (KT : Nat → Nat → kV) (lo hi : List Nat) (he : Bool) (i x : Int32) (w : ww) (n : Nat) (hV : VI c s K F L m KT) (h : Mdl D w b th c s K F L kr m KT lo hi he) : AM l D M_Mod_compare 3 0 0 [.ref b, .int i, .int x] w n (fun v w' n' => ((∃ t u, t < m ∧ u < m ∧ i = nI t ∧ x = nI u ∧ v = some (.int (Int32.ofInt (ordT K F (KT t) (KT u) c)))) ∨ ((∀ t u, t < m → u < m → i = nI t → x = nI u → False) ∧ v = some (.int (-2)))) ∧ n' = n ∧ Fr w w' b 14 ∧ Mdl D w' b 0 c s K F L kr m KT lo hi he) := by
  refine AM.ofi (by decide +kernel) rfl (Nat.le_of_ble_eq_true rfl) (fun X A Q hin S RT => ?_)
  have S : FX X (D, A, 5, Q) prog_9_method_47_code "KeyCodecModel" 3 0 0 := S
  have RT : RTi X (D, A, 5, Q) prog_9_method_47_code 0 0 _ := RT
  obtain ⟨ki, fl, va, fo, go, si, te, ro, ma, sz, en, ms, lw, hw, pt, bd, h, hI, hG⟩ := h
  obtain ⟨h0, h1, h2, h3, h4, h5, h6, h7, h8, h9, h10, h11, h12, h13⟩ := h
  have hc5 := hI.1
  have hm12 := hI.2.1
  have hkr := hI.2.2.1
  have hlo := hI.2.2.2.1
  have hhi := hI.2.2.2.2.1
  have hkf := hI.2.2.2.2.2.1
  refine a_lve (lv' := [(0, .ref b), (1, .int i), (2, .int x)]) rfl ?_
  have fr : Fr w w b 14 := Fr.refl _ _ _
  refine a_aload_n S d_Mod_compare_0 rfl rfl ?_
  refine a_iconst S (v := 0) d_Mod_compare_1 (by decide) ?_
  refine a_put S kc_Mod kt_Mod 0 (by decide) lf_Mod_55 rfl h0 rfl rfl (Nat.le_of_ble_eq_true rfl) d_Mod_compare_2 (fun w1 h0 e2 => ?_)
  have h0 : w1 b = some (.inr (6, [.int 0, .int (nI c), .int (if s then 1 else 0), .ref (b + 1), .ref (b + 2), .ref (b + 3), .ref (b + 4), .ref (b + 5), .ref (b + 6), .ref (b + 7), .int (nI m), .ref (b + 8), .int (nI kr.length), .ref (b + 9), .int (nI sz), .ref (b + 10), .ref (b + 11), .ref (b + 12), .ref (b + 13), .int (nI lo.length), .int (if he then nI hi.length else -1), .int (nI pt), .int (if bd then 1 else 0)])) := h0
  have fr := fr.trans (Fr.sub (Fr.of1 e2) (by omega) (by omega))
  have h1 := Fr.cell (Fr.of1 e2) h1 (by omega)
  have h2 := Fr.cell (Fr.of1 e2) h2 (by omega)
  have h3 := Fr.cell (Fr.of1 e2) h3 (by omega)
  have h4 := Fr.cell (Fr.of1 e2) h4 (by omega)
  have h5 := Fr.cell (Fr.of1 e2) h5 (by omega)
  have h6 := Fr.cell (Fr.of1 e2) h6 (by omega)
  have h7 := Fr.cell (Fr.of1 e2) h7 (by omega)
  have h8 := Fr.cell (Fr.of1 e2) h8 (by omega)
  have h9 := Fr.cell (Fr.of1 e2) h9 (by omega)
  have h10 := Fr.cell (Fr.of1 e2) h10 (by omega)
  have h11 := Fr.cell (Fr.of1 e2) h11 (by omega)
  have h12 := Fr.cell (Fr.of1 e2) h12 (by omega)
  have h13 := Fr.cell (Fr.of1 e2) h13 (by omega)
  refine a_aload_n S d_Mod_compare_5 rfl rfl ?_
  refine a_iload_n S d_Mod_compare_6 rfl rfl ?_
  refine a_callV S (rest := []) lg_Mod_177 h0 (c_Mod_isKept X.2.1 D b 0 c s ki fl va fo go si te m ro kr.length ma sz en ms lw hw lo.length (if he then nI hi.length else -1) pt bd i w1 n  ⟨h0, h1, h2, h3, h4, h5, h6, h7, h8, h9, h10, h11, h12, h13⟩) (by decide) (by omega) (by omega) rfl (Nat.le_of_ble_eq_true rfl) d_Mod_compare_7 (fun v3 w4 n5 p6 => ?_)
  obtain ⟨rfl, e7, e8⟩ := p6
  rw [e7, e8]
  refine a_st (st' := [.int (if usB true m i then 1 else 0)]) rfl ?_
  refine a_if_eq S (tgt := 21) d_Mod_compare_10 rfl (fun hu_ => ?_) (fun hu_ => ?_)
  · have hx : ∀ t u, t < m → u < m → i = nI t → x = nI u → False := fun t u ht hu e e2 => usB_no (by omega) (bo_0 hu_) ht rfl e
    refine a_bipush S (v := (-2)) d_Mod_compare_21 (by decide) ?_
    exact RT _ _ _ _ _ _ _ d_Mod_compare_23 (by omega) (by omega) ⟨Or.inr ⟨hx, rfl⟩, rfl, fr, ⟨_, _, _, _, _, _, _, _, _, _, _, _, _, _, _, _, ⟨h0, h1, h2, h3, h4, h5, h6, h7, h8, h9, h10, h11, h12, h13⟩, hI, hG⟩⟩
  · obtain ⟨hs_t, t, ht, rfl⟩ := usB_ix (by omega) (bo_1 hu_)
    have ok_t := (hV.2 t ht).2
    have kl_t := keyB_l ok_t hc5
    refine a_aload_n S d_Mod_compare_13 rfl rfl ?_
    refine a_iload_n S d_Mod_compare_14 rfl rfl ?_
    refine a_callV S (rest := []) lg_Mod_177 h0 (c_Mod_isKept X.2.1 D b 0 c s ki fl va fo go si te m ro kr.length ma sz en ms lw hw lo.length (if he then nI hi.length else -1) pt bd x w1 n  ⟨h0, h1, h2, h3, h4, h5, h6, h7, h8, h9, h10, h11, h12, h13⟩) (by decide) (by omega) (by omega) rfl (Nat.le_of_ble_eq_true rfl) d_Mod_compare_15 (fun v9 w10 n11 p12 => ?_)
    obtain ⟨rfl, e13, e14⟩ := p12
    rw [e13, e14]
    refine a_st (st' := [.int (if usB true m x then 1 else 0)]) rfl ?_
    refine a_if_ne S (tgt := 24) d_Mod_compare_18 rfl (fun h18 => ?_) (fun h18 => ?_)
    · obtain ⟨hs_u, u, hu, rfl⟩ := usB_ix (by omega) (bo_1 h18)
      have ok_u := (hV.2 u hu).2
      have kl_u := keyB_l ok_u hc5
      refine a_iconst S (v := 0) d_Mod_compare_24 (by decide) ?_
      refine a_istore_n S d_Mod_compare_25 rfl (Nat.le_of_ble_eq_true rfl) (lv' := [(0, .ref b), (1, .int (nI t)), (2, .int (nI u)), (3, .int 0)]) rfl ?_
      have loop26 : ∀ (kk26 : Nat) (g : Nat), c - g = kk26 → (g ≤ c) → (ordT K F (KT t) (KT u) g = 0) → AW X (D, A, 5, Q) 26 [(0, .ref b), (1, .int (nI t)), (2, .int (nI u)), (3, .int (nI g))] [] w1 n ((0 + 0) + 0) ((0 + 0) + 0) := by
        intro kk26
        induction kk26 using Nat.strongRecOn with
        | ind kk26 ih26 =>
          intro g hk26 hg hs
          refine a_iload_n S d_Mod_compare_26 rfl rfl ?_
          refine a_aload_n S d_Mod_compare_27 rfl rfl ?_
          refine a_get S kc_Mod 1 (by decide) lf_Mod_62 h0 rfl d_Mod_compare_28 ?_
          refine a_icmp_ge S (tgt := 69) d_Mod_compare_31 rfl (fun h31 => ?_) (fun h31 => ?_)
          · have hg : g = c := Nat.le_antisymm hg ((nI_leI (by omega) (by omega)).mp h31)
            refine a_iconst S (v := 0) d_Mod_compare_69 (by decide) ?_
            exact RT _ _ _ _ _ _ _ d_Mod_compare_70 (by omega) (by omega) ⟨Or.inl ⟨t, u, ht, hu, rfl, rfl, (by rw [← hg, hs]; rfl)⟩, rfl, fr, ⟨_, _, _, _, _, _, _, _, _, _, _, _, _, _, _, _, ⟨h0, h1, h2, h3, h4, h5, h6, h7, h8, h9, h10, h11, h12, h13⟩, hI, hG⟩⟩
          · have hg : g < c := Nat.not_le.mp fun z => h31 ((nI_leI (by omega) (by omega)).mpr z)
            have hk := hkf g hg
            refine a_aload_n S d_Mod_compare_34 rfl rfl ?_
            refine a_iload_n S d_Mod_compare_35 rfl rfl ?_
            refine a_iconst S (v := 5) d_Mod_compare_36 (by decide) ?_
            refine a_iload_n S d_Mod_compare_37 rfl rfl ?_
            refine a_imul S d_Mod_compare_38 ?_
            refine a_eqi (y := nI (5 * t)) (ni_mul rfl rfl) ?_
            refine a_iconst S (v := 5) d_Mod_compare_39 (by decide) ?_
            refine a_iadd S d_Mod_compare_40 ?_
            refine a_eqi (y := nI (5 * t + 5)) (ni_add rfl rfl) ?_
            refine a_iload_n S d_Mod_compare_41 rfl rfl ?_
            refine a_iadd S d_Mod_compare_42 ?_
            refine a_eqi (y := nI (5 * t + 5 + g)) (ni_add rfl rfl) ?_
            refine a_iconst S (v := 5) d_Mod_compare_43 (by decide) ?_
            refine a_iload_n S d_Mod_compare_44 rfl rfl ?_
            refine a_imul S d_Mod_compare_45 ?_
            refine a_eqi (y := nI (5 * u)) (ni_mul rfl rfl) ?_
            refine a_iconst S (v := 5) d_Mod_compare_46 (by decide) ?_
            refine a_iadd S d_Mod_compare_47 ?_
            refine a_eqi (y := nI (5 * u + 5)) (ni_add rfl rfl) ?_
            refine a_iload_n S d_Mod_compare_48 rfl rfl ?_
            refine a_iadd S d_Mod_compare_49 ?_
            refine a_eqi (y := nI (5 * u + 5 + g)) (ni_add rfl rfl) ?_
            refine a_callV S (rest := []) lg_Mod_197 h0 (c_Mod_orderField X.2.1 D b 0 c s ki fl va fo go si te m ro kr.length ma sz en ms lw hw lo.length (if he then nI hi.length else -1) pt bd g (5 * t + 5 + g) (5 * u + 5 + g) (K g) (F g) (KT t g) (KT u g) w1 n (by omega) (by omega) (by omega) hk.2.2.1 hk.2.2.2 hk.1 hk.2.1 (by have q := hI.v1 ht g hg; rw [show 5 * (t + 1) + g = 5 * t + 5 + g by omega] at q; exact q) (by have q := hI.v1 hu g hg; rw [show 5 * (u + 1) + g = 5 * u + 5 + g by omega] at q; exact q) (ok_t g hg) (ok_u g hg) ⟨h0, h1, h2, h3, h4, h5, h6, h7, h8, h9, h10, h11, h12, h13⟩) (by decide) (by omega) (by omega) rfl (Nat.le_of_ble_eq_true rfl) d_Mod_compare_50 (fun v15 w16 n17 p18 => ?_)
            obtain ⟨rfl, e19, e20⟩ := p18
            rw [e19, e20]
            refine a_st (st' := [.int (Int32.ofInt (ordF (K g) (F g) (KT t g) (KT u g)))]) rfl ?_
            refine a_istore S d_Mod_compare_53 (Nat.le_of_ble_eq_true rfl) (lv' := [(0, .ref b), (1, .int (nI t)), (2, .int (nI u)), (3, .int (nI g)), (4, .int (Int32.ofInt (ordF (K g) (F g) (KT t g) (KT u g))))]) rfl ?_
            refine a_iload S d_Mod_compare_55 rfl ?_
            refine a_if_eq S (tgt := 63) d_Mod_compare_57 rfl (fun h57 => ?_) (fun h57 => ?_)
            · refine a_iinc S (v := nI (g + 1)) d_Mod_compare_63 rfl (ni_add rfl (by decide)) (Nat.le_of_ble_eq_true rfl) (lv' := [(0, .ref b), (1, .int (nI t)), (2, .int (nI u)), (3, .int (nI (g + 1))), (4, .int (Int32.ofInt (ordF (K g) (F g) (KT t g) (KT u g))))]) rfl ?_
              refine a_goto S (tgt := 26) d_Mod_compare_66 rfl ?_
              refine a_lv [0, 1, 2, 3] (lv' := [(0, .ref b), (1, .int (nI t)), (2, .int (nI u)), (3, .int (nI (g + 1)))]) rfl ?_
              exact ih26 _ (by omega) (g + 1) rfl (by omega) (ordT_s hs (oF_0.mp h57))
            · refine a_iload S d_Mod_compare_60 rfl ?_
              exact RT _ _ _ _ _ _ _ d_Mod_compare_62 (by omega) (by omega) ⟨Or.inl ⟨t, u, ht, hu, rfl, rfl, (by rw [ordT_stop hs (fun z => h57 (oF_0.mpr z)) hg])⟩, rfl, fr, ⟨_, _, _, _, _, _, _, _, _, _, _, _, _, _, _, _, ⟨h0, h1, h2, h3, h4, h5, h6, h7, h8, h9, h10, h11, h12, h13⟩, hI, hG⟩⟩
      exact loop26 _ 0 rfl (Nat.zero_le _) rfl
    · have hx : ∀ t2 u, t2 < m → u < m → nI t = nI t2 → x = nI u → False := fun t2 u ht2 hu e e2 => usB_no (by omega) (bo_0 h18) hu rfl e2
      refine a_bipush S (v := (-2)) d_Mod_compare_21 (by decide) ?_
      exact RT _ _ _ _ _ _ _ d_Mod_compare_23 (by omega) (by omega) ⟨Or.inr ⟨hx, rfl⟩, rfl, fr, ⟨_, _, _, _, _, _, _, _, _, _, _, _, _, _, _, _, ⟨h0, h1, h2, h3, h4, h5, h6, h7, h8, h9, h10, h11, h12, h13⟩, hI, hG⟩⟩
