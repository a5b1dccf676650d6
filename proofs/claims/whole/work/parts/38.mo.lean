set_option maxHeartbeats 400000 in
set_option maxRecDepth 100000 in
theorem c_Mod_isDown (l : Launch) (D : kD) (b : Nat) (th : Int32) (fd : Nat) (sl : Bool) (ki fl : Nat → Int32) (va : Nat → Int64) (fo go si te : Nat → Int32) (kp : Nat) (ro : Nat → Int32) (rs : Nat) (ma : Nat → Int32) (sz : Nat) (en ms lw hw : Nat → Int32) (ls : Nat) (hz : Int32) (pt : Nat) (bd : Bool) (i : Nat) (w : ww) (n : Nat) (hi : i < 5) (h : Mo D w b th fd sl ki fl va fo go si te kp ro rs ma sz en ms lw hw ls hz pt bd) : AM l D M_Mod_isDown 0 0 0 [.ref b, .int (nI i)] w n (fun v w' n' => v = some (.int (if fl i &&& 1 = 0 then 0 else 1)) ∧ w' = w ∧ n' = n) := by
  refine AM.ofz (by decide +kernel) rfl (Nat.le_of_ble_eq_true rfl) (fun X A Q hin S RT => ?_)
  have S : FX X (D, A, 2, Q) prog_9_method_3_code "KeyCodecModel" 0 0 0 := S
  have RT : RTz X (D, A, 2, Q) prog_9_method_3_code 0 0 _ := RT
  obtain ⟨h0, h1, h2, h3, h4, h5, h6, h7, h8, h9, h10, h11, h12, h13⟩ := h
  refine a_lve (lv' := [(0, .ref b), (1, .int (nI i))]) rfl ?_
  have fr : Fr w w b 14 := Fr.refl _ _ _
  refine a_aload_n S d_Mod_isDown_0 rfl rfl ?_
  refine a_get S kc_Mod 4 (by decide) lf_Mod_13 h0 rfl d_Mod_isDown_1 ?_
  refine a_iload_n S d_Mod_isDown_4 rfl rfl ?_
  refine a_iald S (i := i) h2 rfl (by omega) (by decide) d_Mod_isDown_5 ?_
  refine a_iconst S (v := 1) d_Mod_isDown_6 (by decide) ?_
  refine a_iand S d_Mod_isDown_7 ?_
  refine a_if_eq S (tgt := 15) d_Mod_isDown_8 rfl (fun h8 => ?_) (fun h8 => ?_)
  · refine a_iconst S (v := 0) d_Mod_isDown_15 (by decide) ?_
    exact RT _ _ _ _ _ _ _ d_Mod_isDown_16 rfl (by omega) (by omega) ⟨by rw [if_pos h8], rfl, rfl⟩
  · refine a_iconst S (v := 1) d_Mod_isDown_11 (by decide) ?_
    refine a_goto S (tgt := 16) d_Mod_isDown_12 rfl ?_
    exact RT _ _ _ _ _ _ _ d_Mod_isDown_16 rfl (by omega) (by omega) ⟨by rw [if_neg h8], rfl, rfl⟩
set_option maxHeartbeats 400000 in
set_option maxRecDepth 100000 in
theorem c_Mod_isOptional (l : Launch) (D : kD) (b : Nat) (th : Int32) (fd : Nat) (sl : Bool) (ki fl : Nat → Int32) (va : Nat → Int64) (fo go si te : Nat → Int32) (kp : Nat) (ro : Nat → Int32) (rs : Nat) (ma : Nat → Int32) (sz : Nat) (en ms lw hw : Nat → Int32) (ls : Nat) (hz : Int32) (pt : Nat) (bd : Bool) (i : Nat) (w : ww) (n : Nat) (hi : i < 5) (h : Mo D w b th fd sl ki fl va fo go si te kp ro rs ma sz en ms lw hw ls hz pt bd) : AM l D M_Mod_isOptional 0 0 0 [.ref b, .int (nI i)] w n (fun v w' n' => v = some (.int (if fl i &&& 2 = 0 then 0 else 1)) ∧ w' = w ∧ n' = n) := by
  refine AM.ofz (by decide +kernel) rfl (Nat.le_of_ble_eq_true rfl) (fun X A Q hin S RT => ?_)
  have S : FX X (D, A, 2, Q) prog_9_method_4_code "KeyCodecModel" 0 0 0 := S
  have RT : RTz X (D, A, 2, Q) prog_9_method_4_code 0 0 _ := RT
  obtain ⟨h0, h1, h2, h3, h4, h5, h6, h7, h8, h9, h10, h11, h12, h13⟩ := h
  refine a_lve (lv' := [(0, .ref b), (1, .int (nI i))]) rfl ?_
  have fr : Fr w w b 14 := Fr.refl _ _ _
  refine a_aload_n S d_Mod_isOptional_0 rfl rfl ?_
  refine a_get S kc_Mod 4 (by decide) lf_Mod_13 h0 rfl d_Mod_isOptional_1 ?_
  refine a_iload_n S d_Mod_isOptional_4 rfl rfl ?_
  refine a_iald S (i := i) h2 rfl (by omega) (by decide) d_Mod_isOptional_5 ?_
  refine a_iconst S (v := 2) d_Mod_isOptional_6 (by decide) ?_
  refine a_iand S d_Mod_isOptional_7 ?_
  refine a_if_eq S (tgt := 15) d_Mod_isOptional_8 rfl (fun h8 => ?_) (fun h8 => ?_)
  · refine a_iconst S (v := 0) d_Mod_isOptional_15 (by decide) ?_
    exact RT _ _ _ _ _ _ _ d_Mod_isOptional_16 rfl (by omega) (by omega) ⟨by rw [if_pos h8], rfl, rfl⟩
  · refine a_iconst S (v := 1) d_Mod_isOptional_11 (by decide) ?_
    refine a_goto S (tgt := 16) d_Mod_isOptional_12 rfl ?_
    exact RT _ _ _ _ _ _ _ d_Mod_isOptional_16 rfl (by omega) (by omega) ⟨by rw [if_neg h8], rfl, rfl⟩
set_option maxHeartbeats 400000 in
set_option maxRecDepth 100000 in
theorem c_Mod_isLast (l : Launch) (D : kD) (b : Nat) (th : Int32) (fd : Nat) (sl : Bool) (ki fl : Nat → Int32) (va : Nat → Int64) (fo go si te : Nat → Int32) (kp : Nat) (ro : Nat → Int32) (rs : Nat) (ma : Nat → Int32) (sz : Nat) (en ms lw hw : Nat → Int32) (ls : Nat) (hz : Int32) (pt : Nat) (bd : Bool) (i : Nat) (w : ww) (n : Nat) (hi : i < 5) (h : Mo D w b th fd sl ki fl va fo go si te kp ro rs ma sz en ms lw hw ls hz pt bd) : AM l D M_Mod_isLast 0 0 0 [.ref b, .int (nI i)] w n (fun v w' n' => v = some (.int (if fl i &&& 4 = 0 then 0 else 1)) ∧ w' = w ∧ n' = n) := by
  refine AM.ofz (by decide +kernel) rfl (Nat.le_of_ble_eq_true rfl) (fun X A Q hin S RT => ?_)
  have S : FX X (D, A, 2, Q) prog_9_method_5_code "KeyCodecModel" 0 0 0 := S
  have RT : RTz X (D, A, 2, Q) prog_9_method_5_code 0 0 _ := RT
  obtain ⟨h0, h1, h2, h3, h4, h5, h6, h7, h8, h9, h10, h11, h12, h13⟩ := h
  refine a_lve (lv' := [(0, .ref b), (1, .int (nI i))]) rfl ?_
  have fr : Fr w w b 14 := Fr.refl _ _ _
  refine a_aload_n S d_Mod_isLast_0 rfl rfl ?_
  refine a_get S kc_Mod 4 (by decide) lf_Mod_13 h0 rfl d_Mod_isLast_1 ?_
  refine a_iload_n S d_Mod_isLast_4 rfl rfl ?_
  refine a_iald S (i := i) h2 rfl (by omega) (by decide) d_Mod_isLast_5 ?_
  refine a_iconst S (v := 4) d_Mod_isLast_6 (by decide) ?_
  refine a_iand S d_Mod_isLast_7 ?_
  refine a_if_eq S (tgt := 15) d_Mod_isLast_8 rfl (fun h8 => ?_) (fun h8 => ?_)
  · refine a_iconst S (v := 0) d_Mod_isLast_15 (by decide) ?_
    exact RT _ _ _ _ _ _ _ d_Mod_isLast_16 rfl (by omega) (by omega) ⟨by rw [if_pos h8], rfl, rfl⟩
  · refine a_iconst S (v := 1) d_Mod_isLast_11 (by decide) ?_
    refine a_goto S (tgt := 16) d_Mod_isLast_12 rfl ?_
    exact RT _ _ _ _ _ _ _ d_Mod_isLast_16 rfl (by omega) (by omega) ⟨by rw [if_neg h8], rfl, rfl⟩
set_option maxHeartbeats 400000 in
set_option maxRecDepth 100000 in
theorem c_Mod_isField (l : Launch) (D : kD) (b : Nat) (th : Int32) (fd : Nat) (sl : Bool) (ki fl : Nat → Int32) (va : Nat → Int64) (fo go si te : Nat → Int32) (kp : Nat) (ro : Nat → Int32) (rs : Nat) (ma : Nat → Int32) (sz : Nat) (en ms lw hw : Nat → Int32) (ls : Nat) (hz : Int32) (pt : Nat) (bd : Bool) (i : Int32) (w : ww) (n : Nat)  (h : Mo D w b th fd sl ki fl va fo go si te kp ro rs ma sz en ms lw hw ls hz pt bd) : AM l D M_Mod_isField 0 0 0 [.ref b, .int i] w n (fun v w' n' => v = some (.int (if usB sl fd i then 1 else 0)) ∧ w' = w ∧ n' = n) := by
  refine AM.ofz (by decide +kernel) rfl (Nat.le_of_ble_eq_true rfl) (fun X A Q hin S RT => ?_)
  have S : FX X (D, A, 2, Q) prog_9_method_10_code "KeyCodecModel" 0 0 0 := S
  have RT : RTz X (D, A, 2, Q) prog_9_method_10_code 0 0 _ := RT
  obtain ⟨h0, h1, h2, h3, h4, h5, h6, h7, h8, h9, h10, h11, h12, h13⟩ := h
  refine a_lve (lv' := [(0, .ref b), (1, .int i)]) rfl ?_
  have fr : Fr w w b 14 := Fr.refl _ _ _
  refine a_aload_n S d_Mod_isField_0 rfl rfl ?_
  refine a_get S kc_Mod 2 (by decide) lf_Mod_58 h0 rfl d_Mod_isField_1 ?_
  refine a_if_eq S (tgt := 23) d_Mod_isField_4 rfl (fun h4 => ?_) (fun h4 => ?_)
  · have hs0 : ¬ usB sl fd i = true := fun z => usB_s h4 z
    refine a_iconst S (v := 0) d_Mod_isField_23 (by decide) ?_
    exact RT _ _ _ _ _ _ _ d_Mod_isField_24 rfl (by omega) (by omega) ⟨by rw [usB_0 (fun z => hs0 z)], rfl, rfl⟩
  · have hs := bo_1 h4
    refine a_iload_n S d_Mod_isField_7 rfl rfl ?_
    refine a_if_lt S (tgt := 23) d_Mod_isField_8 rfl (fun h8 => ?_) (fun h8 => ?_)
    · have hs0 : ¬ usB sl fd i = true := fun z => usB_n h8 z
      refine a_iconst S (v := 0) d_Mod_isField_23 (by decide) ?_
      exact RT _ _ _ _ _ _ _ d_Mod_isField_24 rfl (by omega) (by omega) ⟨by rw [usB_0 (fun z => hs0 z)], rfl, rfl⟩
    · refine a_iload_n S d_Mod_isField_11 rfl rfl ?_
      refine a_aload_n S d_Mod_isField_12 rfl rfl ?_
      refine a_get S kc_Mod 1 (by decide) lf_Mod_62 h0 rfl d_Mod_isField_13 ?_
      refine a_icmp_ge S (tgt := 23) d_Mod_isField_16 rfl (fun h16 => ?_) (fun h16 => ?_)
      · have hs0 : ¬ usB sl fd i = true := fun z => usB_b h16 z
        refine a_iconst S (v := 0) d_Mod_isField_23 (by decide) ?_
        exact RT _ _ _ _ _ _ _ d_Mod_isField_24 rfl (by omega) (by omega) ⟨by rw [usB_0 (fun z => hs0 z)], rfl, rfl⟩
      · refine a_iconst S (v := 1) d_Mod_isField_19 (by decide) ?_
        refine a_goto S (tgt := 24) d_Mod_isField_20 rfl ?_
        exact RT _ _ _ _ _ _ _ d_Mod_isField_24 rfl (by omega) (by omega) ⟨by rw [usB_1 hs h8 h16], rfl, rfl⟩
set_option maxHeartbeats 400000 in
set_option maxRecDepth 100000 in
theorem c_Mod_isKept (l : Launch) (D : kD) (b : Nat) (th : Int32) (fd : Nat) (sl : Bool) (ki fl : Nat → Int32) (va : Nat → Int64) (fo go si te : Nat → Int32) (kp : Nat) (ro : Nat → Int32) (rs : Nat) (ma : Nat → Int32) (sz : Nat) (en ms lw hw : Nat → Int32) (ls : Nat) (hz : Int32) (pt : Nat) (bd : Bool) (i : Int32) (w : ww) (n : Nat)  (h : Mo D w b th fd sl ki fl va fo go si te kp ro rs ma sz en ms lw hw ls hz pt bd) : AM l D M_Mod_isKept 0 0 0 [.ref b, .int i] w n (fun v w' n' => v = some (.int (if usB true kp i then 1 else 0)) ∧ w' = w ∧ n' = n) := by
  refine AM.ofz (by decide +kernel) rfl (Nat.le_of_ble_eq_true rfl) (fun X A Q hin S RT => ?_)
  have S : FX X (D, A, 2, Q) prog_9_method_39_code "KeyCodecModel" 0 0 0 := S
  have RT : RTz X (D, A, 2, Q) prog_9_method_39_code 0 0 _ := RT
  obtain ⟨h0, h1, h2, h3, h4, h5, h6, h7, h8, h9, h10, h11, h12, h13⟩ := h
  refine a_lve (lv' := [(0, .ref b), (1, .int i)]) rfl ?_
  have fr : Fr w w b 14 := Fr.refl _ _ _
  refine a_iload_n S d_Mod_isKept_0 rfl rfl ?_
  refine a_if_lt S (tgt := 16) d_Mod_isKept_1 rfl (fun hn => ?_) (fun hn => ?_)
  · have hx : ¬ usB true kp i = true := fun z => usB_n hn z
    refine a_iconst S (v := 0) d_Mod_isKept_16 (by decide) ?_
    exact RT _ _ _ _ _ _ _ d_Mod_isKept_17 rfl (by omega) (by omega) ⟨by rw [usB_0 hx], rfl, rfl⟩
  · refine a_iload_n S d_Mod_isKept_4 rfl rfl ?_
    refine a_aload_n S d_Mod_isKept_5 rfl rfl ?_
    refine a_get S kc_Mod 10 (by decide) lf_Mod_69 h0 rfl d_Mod_isKept_6 ?_
    refine a_icmp_ge S (tgt := 16) d_Mod_isKept_9 rfl (fun h9 => ?_) (fun h9 => ?_)
    · have hx : ¬ usB true kp i = true := fun z => usB_b h9 z
      refine a_iconst S (v := 0) d_Mod_isKept_16 (by decide) ?_
      exact RT _ _ _ _ _ _ _ d_Mod_isKept_17 rfl (by omega) (by omega) ⟨by rw [usB_0 hx], rfl, rfl⟩
    · refine a_iconst S (v := 1) d_Mod_isKept_12 (by decide) ?_
      refine a_goto S (tgt := 17) d_Mod_isKept_13 rfl ?_
      exact RT _ _ _ _ _ _ _ d_Mod_isKept_17 rfl (by omega) (by omega) ⟨by rw [usB_1 rfl hn h9], rfl, rfl⟩
set_option maxHeartbeats 400000 in
set_option maxRecDepth 100000 in
theorem c_Mod_isValue (l : Launch) (D : kD) (kd : Nat) (z : Int64) (j : Int32) (w : ww) (n : Nat) (hk4 : kd < 4) : AM l D M_Mod_isValue 0 0 0 [.int (nI kd), .long z, .int j] w n (fun v w' n' => ∃ b : Bool, v = some (.int (if b then 1 else 0)) ∧ (b = true ↔ okN kd z j) ∧ w' = w ∧ n' = n) := by
  refine AM.ofz (by decide +kernel) rfl (Nat.le_of_ble_eq_true rfl) (fun X A Q hin S RT => ?_)
  have S : FX X (D, A, 4, Q) prog_9_method_11_code "KeyCodecModel" 0 0 0 := S
  have RT : RTz X (D, A, 4, Q) prog_9_method_11_code 0 0 _ := RT
  refine a_lve (lv' := [(0, .int (nI kd)), (1, .long z), (3, .int j)]) rfl ?_
  refine a_iload_n S d_Mod_isValue_0 rfl rfl ?_
  refine a_if_ne S (tgt := 14) d_Mod_isValue_1 rfl (fun h1 => ?_) (fun h1 => ?_)
  · have hk0 : ¬ kd = 0 := fun z => h1 (by rw [z]; rfl)
    refine a_iload_n S d_Mod_isValue_14 rfl rfl ?_
    refine a_iconst S (v := 1) d_Mod_isValue_15 (by decide) ?_
    refine a_icmp_ne S (tgt := 51) d_Mod_isValue_16 rfl (fun h16 => ?_) (fun h16 => ?_)
    · have hk1 : ¬ kd = 1 := fun z => h16 (by rw [z]; rfl)
      refine a_iload_n S d_Mod_isValue_51 rfl rfl ?_
      refine a_iconst S (v := 2) d_Mod_isValue_52 (by decide) ?_
      refine a_icmp_ne S (tgt := 72) d_Mod_isValue_53 rfl (fun h53 => ?_) (fun h53 => ?_)
      · have hk2 : ¬ kd = 2 := fun z => h53 (by rw [z]; rfl)
        have hk : kd = 3 := by omega
        refine a_lload_n S d_Mod_isValue_72 rfl rfl ?_
        refine a_ldc2 S (v := (-1099511627776)) lK_Mod_79 d_Mod_isValue_73 ?_
        refine a_lcmp S d_Mod_isValue_76 ?_
        refine a_if_lt S (tgt := 106) d_Mod_isValue_77 rfl (fun h77 => ?_) (fun h77 => ?_)
        · have hx : ¬ okN kd z j := fun q => by rw [hk] at q; exact alowN h77 q.1
          refine a_iconst S (v := 0) d_Mod_isValue_106 (by decide) ?_
          exact RT _ _ _ _ _ _ _ d_Mod_isValue_107 rfl (by omega) (by omega) ⟨false, rfl, ⟨fun q => absurd q (by decide), fun q => absurd q hx⟩, rfl, rfl⟩
        · refine a_lload_n S d_Mod_isValue_80 rfl rfl ?_
          refine a_ldc2 S (v := 1099511627776) lK_Mod_81 d_Mod_isValue_81 ?_
          refine a_lcmp S d_Mod_isValue_84 ?_
          refine a_if_gt S (tgt := 106) d_Mod_isValue_85 rfl (fun h85 => ?_) (fun h85 => ?_)
          · have hx : ¬ okN kd z j := fun q => by rw [hk] at q; exact ahiN h85 q.2.1
            refine a_iconst S (v := 0) d_Mod_isValue_106 (by decide) ?_
            exact RT _ _ _ _ _ _ _ d_Mod_isValue_107 rfl (by omega) (by omega) ⟨false, rfl, ⟨fun q => absurd q (by decide), fun q => absurd q hx⟩, rfl, rfl⟩
          · refine a_iload_n S d_Mod_isValue_88 rfl rfl ?_
            refine a_sipush S (v := (-900)) d_Mod_isValue_89 (by decide) ?_
            refine a_icmp_lt S (tgt := 106) d_Mod_isValue_92 rfl (fun h92 => ?_) (fun h92 => ?_)
            · have hx : ¬ okN kd z j := fun q => by rw [hk] at q; exact i32low h92 q.2.2.1
              refine a_iconst S (v := 0) d_Mod_isValue_106 (by decide) ?_
              exact RT _ _ _ _ _ _ _ d_Mod_isValue_107 rfl (by omega) (by omega) ⟨false, rfl, ⟨fun q => absurd q (by decide), fun q => absurd q hx⟩, rfl, rfl⟩
            · refine a_iload_n S d_Mod_isValue_95 rfl rfl ?_
              refine a_sipush S (v := 900) d_Mod_isValue_96 (by decide) ?_
              refine a_icmp_gt S (tgt := 106) d_Mod_isValue_99 rfl (fun h99 => ?_) (fun h99 => ?_)
              · have hx : ¬ okN kd z j := fun q => by rw [hk] at q; exact i32big h99 q.2.2.2
                refine a_iconst S (v := 0) d_Mod_isValue_106 (by decide) ?_
                exact RT _ _ _ _ _ _ _ d_Mod_isValue_107 rfl (by omega) (by omega) ⟨false, rfl, ⟨fun q => absurd q (by decide), fun q => absurd q hx⟩, rfl, rfl⟩
              · refine a_iconst S (v := 1) d_Mod_isValue_102 (by decide) ?_
                refine a_goto S (tgt := 107) d_Mod_isValue_103 rfl ?_
                exact RT _ _ _ _ _ _ _ d_Mod_isValue_107 rfl (by omega) (by omega) ⟨true, rfl, ⟨fun _ => by rw [hk]; exact ⟨alow h77, ahi h85, i32lo h92, i32sm h99⟩, fun _ => rfl⟩, rfl, rfl⟩
      · have hk : kd = 2 := (nI_eq (by omega) (by decide)).mp h53
        refine a_lload_n S d_Mod_isValue_56 rfl rfl ?_
        refine a_lconst S (v := 0) d_Mod_isValue_57 (by decide) ?_
        refine a_lcmp S d_Mod_isValue_58 ?_
        refine a_if_ne S (tgt := 70) d_Mod_isValue_59 rfl (fun h59 => ?_) (fun h59 => ?_)
        · have hx : ¬ okN kd z j := fun q => by rw [hk] at q; exact h59 (aeqN q.1)
          refine a_iconst S (v := 0) d_Mod_isValue_70 (by decide) ?_
          exact RT _ _ _ _ _ _ _ d_Mod_isValue_71 rfl (by omega) (by omega) ⟨false, rfl, ⟨fun q => absurd q (by decide), fun q => absurd q hx⟩, rfl, rfl⟩
        · refine a_iload_n S d_Mod_isValue_62 rfl rfl ?_
          refine a_if_ne S (tgt := 70) d_Mod_isValue_63 rfl (fun h63 => ?_) (fun h63 => ?_)
          · have hx : ¬ okN kd z j := fun q => by rw [hk] at q; exact h63 q.2
            refine a_iconst S (v := 0) d_Mod_isValue_70 (by decide) ?_
            exact RT _ _ _ _ _ _ _ d_Mod_isValue_71 rfl (by omega) (by omega) ⟨false, rfl, ⟨fun q => absurd q (by decide), fun q => absurd q hx⟩, rfl, rfl⟩
          · refine a_iconst S (v := 1) d_Mod_isValue_66 (by decide) ?_
            refine a_goto S (tgt := 71) d_Mod_isValue_67 rfl ?_
            exact RT _ _ _ _ _ _ _ d_Mod_isValue_71 rfl (by omega) (by omega) ⟨true, rfl, ⟨fun _ => by rw [hk]; exact ⟨aeq h59, h63⟩, fun _ => rfl⟩, rfl, rfl⟩
    · have hk : kd = 1 := (nI_eq (by omega) (by decide)).mp h16
      refine a_lload_n S d_Mod_isValue_19 rfl rfl ?_
      refine a_ldc2 S (v := (-1000000000000000)) lK_Mod_75 d_Mod_isValue_20 ?_
      refine a_lcmp S d_Mod_isValue_23 ?_
      refine a_if_lt S (tgt := 49) d_Mod_isValue_24 rfl (fun h24 => ?_) (fun h24 => ?_)
      · have hx : ¬ okN kd z j := fun q => by rw [hk] at q; exact alowN h24 q.1
        refine a_iconst S (v := 0) d_Mod_isValue_49 (by decide) ?_
        exact RT _ _ _ _ _ _ _ d_Mod_isValue_50 rfl (by omega) (by omega) ⟨false, rfl, ⟨fun q => absurd q (by decide), fun q => absurd q hx⟩, rfl, rfl⟩
      · refine a_lload_n S d_Mod_isValue_27 rfl rfl ?_
        refine a_ldc2 S (v := 1000000000000000) lK_Mod_77 d_Mod_isValue_28 ?_
        refine a_lcmp S d_Mod_isValue_31 ?_
        refine a_if_gt S (tgt := 49) d_Mod_isValue_32 rfl (fun h32 => ?_) (fun h32 => ?_)
        · have hx : ¬ okN kd z j := fun q => by rw [hk] at q; exact ahiN h32 q.2.1
          refine a_iconst S (v := 0) d_Mod_isValue_49 (by decide) ?_
          exact RT _ _ _ _ _ _ _ d_Mod_isValue_50 rfl (by omega) (by omega) ⟨false, rfl, ⟨fun q => absurd q (by decide), fun q => absurd q hx⟩, rfl, rfl⟩
        · refine a_iload_n S d_Mod_isValue_35 rfl rfl ?_
          refine a_if_lt S (tgt := 49) d_Mod_isValue_36 rfl (fun h36 => ?_) (fun h36 => ?_)
          · have hx : ¬ okN kd z j := fun q => by rw [hk] at q; exact i32neg h36 q.2.2.1
            refine a_iconst S (v := 0) d_Mod_isValue_49 (by decide) ?_
            exact RT _ _ _ _ _ _ _ d_Mod_isValue_50 rfl (by omega) (by omega) ⟨false, rfl, ⟨fun q => absurd q (by decide), fun q => absurd q hx⟩, rfl, rfl⟩
          · refine a_iload_n S d_Mod_isValue_39 rfl rfl ?_
            refine a_bipush S (v := 9) d_Mod_isValue_40 (by decide) ?_
            refine a_icmp_gt S (tgt := 49) d_Mod_isValue_42 rfl (fun h42 => ?_) (fun h42 => ?_)
            · have hx : ¬ okN kd z j := fun q => by rw [hk] at q; exact i32big h42 q.2.2.2
              refine a_iconst S (v := 0) d_Mod_isValue_49 (by decide) ?_
              exact RT _ _ _ _ _ _ _ d_Mod_isValue_50 rfl (by omega) (by omega) ⟨false, rfl, ⟨fun q => absurd q (by decide), fun q => absurd q hx⟩, rfl, rfl⟩
            · refine a_iconst S (v := 1) d_Mod_isValue_45 (by decide) ?_
              refine a_goto S (tgt := 50) d_Mod_isValue_46 rfl ?_
              exact RT _ _ _ _ _ _ _ d_Mod_isValue_50 rfl (by omega) (by omega) ⟨true, rfl, ⟨fun _ => by rw [hk]; exact ⟨alow h24, ahi h32, i32nn h36, i32sm h42⟩, fun _ => rfl⟩, rfl, rfl⟩
  · have hk : kd = 0 := (nI_eq (by omega) (by decide)).mp h1
    refine a_iload_n S d_Mod_isValue_4 rfl rfl ?_
    refine a_if_ne S (tgt := 12) d_Mod_isValue_5 rfl (fun h5 => ?_) (fun h5 => ?_)
    · have hx : ¬ okN kd z j := fun q => by rw [hk] at q; exact h5 q
      refine a_iconst S (v := 0) d_Mod_isValue_12 (by decide) ?_
      exact RT _ _ _ _ _ _ _ d_Mod_isValue_13 rfl (by omega) (by omega) ⟨false, rfl, ⟨fun q => absurd q (by decide), fun q => absurd q hx⟩, rfl, rfl⟩
    · refine a_iconst S (v := 1) d_Mod_isValue_8 (by decide) ?_
      refine a_goto S (tgt := 13) d_Mod_isValue_9 rfl ?_
      exact RT _ _ _ _ _ _ _ d_Mod_isValue_13 rfl (by omega) (by omega) ⟨true, rfl, ⟨fun _ => by rw [hk]; exact h5, fun _ => rfl⟩, rfl, rfl⟩
set_option maxHeartbeats 400000 in
set_option maxRecDepth 100000 in
theorem c_Mod_set (l : Launch) (D : kD) (b : Nat) (th : Int32) (fd : Nat) (sl : Bool) (ki fl : Nat → Int32) (va : Nat → Int64) (fo go si te : Nat → Int32) (kp : Nat) (ro : Nat → Int32) (rs : Nat) (ma : Nat → Int32) (sz : Nat) (en ms lw hw : Nat → Int32) (ls : Nat) (hz : Int32) (pt : Nat) (bd : Bool) (k : Nat) (z : Int64) (f : Int32) (w : ww) (n : Nat) (hk : k < 70) (h : Mo D w b th fd sl ki fl va fo go si te kp ro rs ma sz en ms lw hw ls hz pt bd) : AM l D M_Mod_set 0 0 0 [.ref b, .int (nI k), .long z, .int f] w n (fun v w' n' => v = none ∧ n' = n ∧ Fr w w' b 14 ∧ Mo D w' b th fd sl ki fl (vp_updL va k z) (upd fo k f) (upd go k (vp_nar .boolean 0)) (upd si k 0) te kp ro rs ma sz en ms lw hw ls hz pt bd) := by
  refine AM.ofv (by decide +kernel) rfl (Nat.le_of_ble_eq_true rfl) (fun X A Q hin S RT => ?_)
  have S : FX X (D, A, 5, Q) prog_9_method_12_code "KeyCodecModel" 0 0 0 := S
  have RT : RTv X (D, A, 5, Q) prog_9_method_12_code 0 0 _ := RT
  obtain ⟨h0, h1, h2, h3, h4, h5, h6, h7, h8, h9, h10, h11, h12, h13⟩ := h
  refine a_lve (lv' := [(0, .ref b), (1, .int (nI k)), (2, .long z), (4, .int f)]) rfl ?_
  have fr : Fr w w b 14 := Fr.refl _ _ _
  refine a_aload_n S d_Mod_set_0 rfl rfl ?_
  refine a_get S kc_Mod 5 (by decide) lf_Mod_16 h0 rfl d_Mod_set_1 ?_
  refine a_iload_n S d_Mod_set_4 rfl rfl ?_
  refine a_lload_n S d_Mod_set_5 rfl rfl ?_
  refine a_last S (i := k) h3 rfl (by omega) (by decide) d_Mod_set_6 (fun w1 h3 e2 => ?_)
  have fr := fr.trans (Fr.sub (Fr.of1 e2) (by omega) (by omega))
  have h0 := Fr.cell (Fr.of1 e2) h0 (by omega)
  have h1 := Fr.cell (Fr.of1 e2) h1 (by omega)
  have h2 := Fr.cell (Fr.of1 e2) h2 (by omega)
  have h4 := Fr.cell (Fr.of1 e2) h4 (by omega)
  have h5 := Fr.cell (Fr.of1 e2) h5 (by omega)
  have h6 := Fr.cell (Fr.of1 e2) h6 (by omega)
  have h7 := Fr.cell (Fr.of1 e2) h7 (by omega)
  have h8 := Fr.cell (Fr.of1 e2) h8 (by omega)
  have h9 := Fr.cell (Fr.of1 e2) h9 (by omega)
  have h10 := Fr.cell (Fr.of1 e2) h10 (by omega)
  have h11 := Fr.cell (Fr.of1 e2) h11 (by omega)
  have h12 := Fr.cell (Fr.of1 e2) h12 (by omega)
  have h13 := Fr.cell (Fr.of1 e2) h13 (by omega)
  refine a_aload_n S d_Mod_set_7 rfl rfl ?_
  refine a_get S kc_Mod 6 (by decide) lf_Mod_20 h0 rfl d_Mod_set_8 ?_
  refine a_iload_n S d_Mod_set_11 rfl rfl ?_
  refine a_iload S d_Mod_set_12 rfl ?_
  refine a_iast S (i := k) h4 rfl (by omega) (by decide) d_Mod_set_14 (fun w3 h4 e4 => ?_)
  have fr := fr.trans (Fr.sub (Fr.of1 e4) (by omega) (by omega))
  have h0 := Fr.cell (Fr.of1 e4) h0 (by omega)
  have h1 := Fr.cell (Fr.of1 e4) h1 (by omega)
  have h2 := Fr.cell (Fr.of1 e4) h2 (by omega)
  have h3 := Fr.cell (Fr.of1 e4) h3 (by omega)
  have h5 := Fr.cell (Fr.of1 e4) h5 (by omega)
  have h6 := Fr.cell (Fr.of1 e4) h6 (by omega)
  have h7 := Fr.cell (Fr.of1 e4) h7 (by omega)
  have h8 := Fr.cell (Fr.of1 e4) h8 (by omega)
  have h9 := Fr.cell (Fr.of1 e4) h9 (by omega)
  have h10 := Fr.cell (Fr.of1 e4) h10 (by omega)
  have h11 := Fr.cell (Fr.of1 e4) h11 (by omega)
  have h12 := Fr.cell (Fr.of1 e4) h12 (by omega)
  have h13 := Fr.cell (Fr.of1 e4) h13 (by omega)
  refine a_aload_n S d_Mod_set_15 rfl rfl ?_
  refine a_get S kc_Mod 7 (by decide) lf_Mod_23 h0 rfl d_Mod_set_16 ?_
  refine a_iload_n S d_Mod_set_19 rfl rfl ?_
  refine a_iconst S (v := 0) d_Mod_set_20 (by decide) ?_
  refine a_zast S (i := k) h5 rfl (by omega) (by decide) d_Mod_set_21 (fun w5 h5 e6 => ?_)
  have fr := fr.trans (Fr.sub (Fr.of1 e6) (by omega) (by omega))
  have h0 := Fr.cell (Fr.of1 e6) h0 (by omega)
  have h1 := Fr.cell (Fr.of1 e6) h1 (by omega)
  have h2 := Fr.cell (Fr.of1 e6) h2 (by omega)
  have h3 := Fr.cell (Fr.of1 e6) h3 (by omega)
  have h4 := Fr.cell (Fr.of1 e6) h4 (by omega)
  have h6 := Fr.cell (Fr.of1 e6) h6 (by omega)
  have h7 := Fr.cell (Fr.of1 e6) h7 (by omega)
  have h8 := Fr.cell (Fr.of1 e6) h8 (by omega)
  have h9 := Fr.cell (Fr.of1 e6) h9 (by omega)
  have h10 := Fr.cell (Fr.of1 e6) h10 (by omega)
  have h11 := Fr.cell (Fr.of1 e6) h11 (by omega)
  have h12 := Fr.cell (Fr.of1 e6) h12 (by omega)
  have h13 := Fr.cell (Fr.of1 e6) h13 (by omega)
  refine a_aload_n S d_Mod_set_22 rfl rfl ?_
  refine a_get S kc_Mod 8 (by decide) lf_Mod_27 h0 rfl d_Mod_set_23 ?_
  refine a_iload_n S d_Mod_set_26 rfl rfl ?_
  refine a_iconst S (v := 0) d_Mod_set_27 (by decide) ?_
  refine a_iast S (i := k) h6 rfl (by omega) (by decide) d_Mod_set_28 (fun w7 h6 e8 => ?_)
  have fr := fr.trans (Fr.sub (Fr.of1 e8) (by omega) (by omega))
  have h0 := Fr.cell (Fr.of1 e8) h0 (by omega)
  have h1 := Fr.cell (Fr.of1 e8) h1 (by omega)
  have h2 := Fr.cell (Fr.of1 e8) h2 (by omega)
  have h3 := Fr.cell (Fr.of1 e8) h3 (by omega)
  have h4 := Fr.cell (Fr.of1 e8) h4 (by omega)
  have h5 := Fr.cell (Fr.of1 e8) h5 (by omega)
  have h7 := Fr.cell (Fr.of1 e8) h7 (by omega)
  have h8 := Fr.cell (Fr.of1 e8) h8 (by omega)
  have h9 := Fr.cell (Fr.of1 e8) h9 (by omega)
  have h10 := Fr.cell (Fr.of1 e8) h10 (by omega)
  have h11 := Fr.cell (Fr.of1 e8) h11 (by omega)
  have h12 := Fr.cell (Fr.of1 e8) h12 (by omega)
  have h13 := Fr.cell (Fr.of1 e8) h13 (by omega)
  exact RT _ _ _ _ _ _ d_Mod_set_29 (by omega) (by omega) ⟨rfl, rfl, fr, h0, h1, h2, h3, h4, h5, h6, h7, h8, h9, h10, h11, h12, h13⟩
set_option maxHeartbeats 400000 in
set_option maxRecDepth 100000 in
theorem c_Mod_say (l : Launch) (D : kD) (b : Nat) (th : Int32) (fd : Nat) (sl : Bool) (ki fl : Nat → Int32) (va : Nat → Int64) (fo go si te : Nat → Int32) (kp : Nat) (ro : Nat → Int32) (rs : Nat) (ma : Nat → Int32) (en ms lw hw : Nat → Int32) (ls : Nat) (hz : Int32) (pt : Nat) (bd : Bool) (o : Nat) (l0 : List Nat) (x : Nat) (w : ww) (n : Nat) (ho : o < 2) (hz2 : l0.length < 200) (h : Mo D w b th fd sl ki fl va fo go si te kp ro rs (wrL ma (200 * o) l0) l0.length en ms lw hw ls hz pt bd) : AM l D M_Mod_say 0 0 0 [.ref b, .int (nI o), .int (nI x)] w n (fun v' w' n' => v' = none ∧ n' = n ∧ Fr w w' b 14 ∧ Mo D w' b th fd sl ki fl va fo go si te kp ro rs (wrL ma (200 * o) (l0 ++ [x])) ((l0 ++ [x]).length) en ms lw hw ls hz pt bd) := by
  refine AM.ofv (by decide +kernel) rfl (Nat.le_of_ble_eq_true rfl) (fun X A Q hin S RT => ?_)
  have S : FX X (D, A, 3, Q) prog_9_method_18_code "KeyCodecModel" 0 0 0 := S
  have RT : RTv X (D, A, 3, Q) prog_9_method_18_code 0 0 _ := RT
  obtain ⟨h0, h1, h2, h3, h4, h5, h6, h7, h8, h9, h10, h11, h12, h13⟩ := h
  refine a_lve (lv' := [(0, .ref b), (1, .int (nI o)), (2, .int (nI x))]) rfl ?_
  have fr : Fr w w b 14 := Fr.refl _ _ _
  refine a_aload_n S d_Mod_say_0 rfl rfl ?_
  refine a_get S kc_Mod 13 (by decide) lf_Mod_36 h0 rfl d_Mod_say_1 ?_
  refine a_sipush S (v := 200) d_Mod_say_4 (by decide) ?_
  refine a_iload_n S d_Mod_say_7 rfl rfl ?_
  refine a_imul S d_Mod_say_8 ?_
  refine a_aload_n S d_Mod_say_9 rfl rfl ?_
  refine a_get S kc_Mod 14 (by decide) lf_Mod_100 h0 rfl d_Mod_say_10 ?_
  refine a_iadd S d_Mod_say_13 ?_
  refine a_iload_n S d_Mod_say_14 rfl rfl ?_
  refine a_iast S (i := 200 * o + l0.length) h9 (ni_add (ni_mul rfl rfl) rfl) (by omega) (by decide) d_Mod_say_15 (fun w1 h9 e2 => ?_)
  have fr := fr.trans (Fr.sub (Fr.of1 e2) (by omega) (by omega))
  have h0 := Fr.cell (Fr.of1 e2) h0 (by omega)
  have h1 := Fr.cell (Fr.of1 e2) h1 (by omega)
  have h2 := Fr.cell (Fr.of1 e2) h2 (by omega)
  have h3 := Fr.cell (Fr.of1 e2) h3 (by omega)
  have h4 := Fr.cell (Fr.of1 e2) h4 (by omega)
  have h5 := Fr.cell (Fr.of1 e2) h5 (by omega)
  have h6 := Fr.cell (Fr.of1 e2) h6 (by omega)
  have h7 := Fr.cell (Fr.of1 e2) h7 (by omega)
  have h8 := Fr.cell (Fr.of1 e2) h8 (by omega)
  have h10 := Fr.cell (Fr.of1 e2) h10 (by omega)
  have h11 := Fr.cell (Fr.of1 e2) h11 (by omega)
  have h12 := Fr.cell (Fr.of1 e2) h12 (by omega)
  have h13 := Fr.cell (Fr.of1 e2) h13 (by omega)
  refine a_aload_n S d_Mod_say_16 rfl rfl ?_
  refine a_dup S d_Mod_say_17 rfl ?_
  refine a_get S kc_Mod 14 (by decide) lf_Mod_100 h0 rfl d_Mod_say_18 ?_
  refine a_iconst S (v := 1) d_Mod_say_21 (by decide) ?_
  refine a_iadd S d_Mod_say_22 ?_
  refine a_eqi (y := nI (l0.length + 1)) (ni_add rfl (by decide)) ?_
  refine a_put S kc_Mod kt_Mod 14 (by decide) lf_Mod_100 rfl h0 rfl rfl (Nat.le_of_ble_eq_true rfl) d_Mod_say_23 (fun w3 h0 e4 => ?_)
  have h0 : w3 b = some (.inr (6, [.int th, .int (nI fd), .int (if sl then 1 else 0), .ref (b + 1), .ref (b + 2), .ref (b + 3), .ref (b + 4), .ref (b + 5), .ref (b + 6), .ref (b + 7), .int (nI kp), .ref (b + 8), .int (nI rs), .ref (b + 9), .int (nI (l0.length + 1)), .ref (b + 10), .ref (b + 11), .ref (b + 12), .ref (b + 13), .int (nI ls), .int hz, .int (nI pt), .int (if bd then 1 else 0)])) := h0
  have fr := fr.trans (Fr.sub (Fr.of1 e4) (by omega) (by omega))
  have h1 := Fr.cell (Fr.of1 e4) h1 (by omega)
  have h2 := Fr.cell (Fr.of1 e4) h2 (by omega)
  have h3 := Fr.cell (Fr.of1 e4) h3 (by omega)
  have h4 := Fr.cell (Fr.of1 e4) h4 (by omega)
  have h5 := Fr.cell (Fr.of1 e4) h5 (by omega)
  have h6 := Fr.cell (Fr.of1 e4) h6 (by omega)
  have h7 := Fr.cell (Fr.of1 e4) h7 (by omega)
  have h8 := Fr.cell (Fr.of1 e4) h8 (by omega)
  have h9 := Fr.cell (Fr.of1 e4) h9 (by omega)
  have h10 := Fr.cell (Fr.of1 e4) h10 (by omega)
  have h11 := Fr.cell (Fr.of1 e4) h11 (by omega)
  have h12 := Fr.cell (Fr.of1 e4) h12 (by omega)
  have h13 := Fr.cell (Fr.of1 e4) h13 (by omega)
  exact RT _ _ _ _ _ _ d_Mod_say_26 (by omega) (by omega) (by rw [wrL_one, wrL_app] at h9; rw [List.length_append, List.length_singleton]; exact ⟨rfl, rfl, fr, h0, h1, h2, h3, h4, h5, h6, h7, h8, h9, h10, h11, h12, h13⟩)
set_option maxHeartbeats 400000 in
set_option maxRecDepth 100000 in
theorem c_Mod_sayText (l : Launch) (D : kD) (b : Nat) (th : Int32) (fd : Nat) (sl : Bool) (ki fl : Nat → Int32) (va : Nat → Int64) (fo go si te : Nat → Int32) (kp : Nat) (ro : Nat → Int32) (rs : Nat) (ma : Nat → Int32) (en ms lw hw : Nat → Int32) (ls : Nat) (hz : Int32) (pt : Nat) (bd : Bool) (o : Nat) (l0 : List Nat) (k : Nat) (x : List Nat) (t : Nat) (w : ww) (n : Nat) (ho : o < 2) (hk : k < 70) (ht : t = 0 ∨ t = 255) (hsi : si k = nI x.length) (hx10 : x.length ≤ 10) (hx : ∀ b ∈ x, b < 256) (hte : ∀ i, i < x.length → te (10 * k + i) = nI (x.getD i 0)) (hl : (l0 ++ (encT x).map (tnB t)).length ≤ 200) (h : Mo D w b th fd sl ki fl va fo go si te kp ro rs (wrL ma (200 * o) l0) l0.length en ms lw hw ls hz pt bd) : AM l D M_Mod_sayText 1 0 0 [.ref b, .int (nI o), .int (nI k), .int (nI t)] w n (fun v' w' n' => v' = none ∧ n' = n ∧ Fr w w' b 14 ∧ Mo D w' b th fd sl ki fl va fo go si te kp ro rs (wrL ma (200 * o) (l0 ++ ((encT x).map (tnB t)))) ((l0 ++ ((encT x).map (tnB t))).length) en ms lw hw ls hz pt bd) := by
  refine AM.ofv (by decide +kernel) rfl (Nat.le_of_ble_eq_true rfl) (fun X A Q hin S RT => ?_)
  have S : FX X (D, A, 6, Q) prog_9_method_20_code "KeyCodecModel" 1 0 0 := S
  have RT : RTv X (D, A, 6, Q) prog_9_method_20_code 0 0 _ := RT
  obtain ⟨h0, h1, h2, h3, h4, h5, h6, h7, h8, h9, h10, h11, h12, h13⟩ := h
  refine a_lve (lv' := [(0, .ref b), (1, .int (nI o)), (2, .int (nI k)), (3, .int (nI t))]) rfl ?_
  have fr : Fr w w b 14 := Fr.refl _ _ _
  refine a_iconst S (v := 0) d_Mod_sayText_0 (by decide) ?_
  refine a_istore S d_Mod_sayText_1 (Nat.le_of_ble_eq_true rfl) (lv' := [(0, .ref b), (1, .int (nI o)), (2, .int (nI k)), (3, .int (nI t)), (4, .int 0)]) rfl ?_
  have loop3 : ∀ (kk3 : Nat) (i : Nat) (w1 : ww) (l1 : List Nat), x.length - i = kk3 → (i ≤ x.length) → (Fr w w1 b 14) → (Mo D w1 b th fd sl ki fl va fo go si te kp ro rs (wrL ma (200 * o) l1) l1.length en ms lw hw ls hz pt bd) → (l1 ++ (encT (x.drop i)).map (tnB t) = l0 ++ (encT x).map (tnB t)) → AW X (D, A, 6, Q) 3 [(0, .ref b), (1, .int (nI o)), (2, .int (nI k)), (3, .int (nI t)), (4, .int (nI i))] [] w1 n 0 0 := by
    intro kk3
    induction kk3 using Nat.strongRecOn with
    | ind kk3 ih3 =>
      intro i w1 l1 hk3 hi fr h he
      obtain ⟨h0, h1, h2, h3, h4, h5, h6, h7, h8, h9, h10, h11, h12, h13⟩ := h
      have hl2 := tx_len he hl
      refine a_iload S d_Mod_sayText_3 rfl ?_
      refine a_aload_n S d_Mod_sayText_5 rfl rfl ?_
      refine a_get S kc_Mod 8 (by decide) lf_Mod_27 h0 rfl d_Mod_sayText_6 ?_
      refine a_iload_n S d_Mod_sayText_9 rfl rfl ?_
      refine a_iald S (i := k) h6 rfl (by omega) (by decide) d_Mod_sayText_10 ?_
      refine a_eqi hsi ?_
      refine a_icmp_ge S (tgt := 58) d_Mod_sayText_11 rfl (fun h11_ => ?_) (fun h11_ => ?_)
      · have hi : x.length ≤ i := (nI_leI (by omega) (by omega)).mp h11_
        refine a_aload_n S d_Mod_sayText_58 rfl rfl ?_
        refine a_iload_n S d_Mod_sayText_59 rfl rfl ?_
        refine a_iload_n S d_Mod_sayText_60 rfl rfl ?_
        refine a_eqi (y := nI (tnB t 0)) (tn0 ht) ?_
        refine a_callV S (rest := []) lg_Mod_105 h0 (c_Mod_say X.2.1 D b th fd sl ki fl va fo go si te kp ro rs ma en ms lw hw ls hz pt bd o l1 (tnB t 0) w1 n ho (by first | omega | (simp only [List.length_append, List.length_singleton]; omega)) ⟨h0, h1, h2, h3, h4, h5, h6, h7, h8, h9, h10, h11, h12, h13⟩) (by decide) (by omega) (by omega) rfl (Nat.le_of_ble_eq_true rfl) d_Mod_sayText_61 (fun v1 w2 n3 p4 => ?_)
        obtain ⟨rfl, e6, f5, h0, h1, h2, h3, h4, h5, h6, h7, h8, h9, h10, h11, h12, h13⟩ := p4
        rw [e6]
        refine a_st (st' := []) rfl ?_
        have fr := fr.trans (Fr.sub f5 (by omega) (by omega))
        refine a_aload_n S d_Mod_sayText_64 rfl rfl ?_
        refine a_iload_n S d_Mod_sayText_65 rfl rfl ?_
        refine a_iconst S (v := 1) d_Mod_sayText_66 (by decide) ?_
        refine a_iload_n S d_Mod_sayText_67 rfl rfl ?_
        refine a_ixor S d_Mod_sayText_68 ?_
        refine a_eqi (y := nI (tnB t 1)) (xor_tn ht (by decide)) ?_
        refine a_callV S (rest := []) lg_Mod_105 h0 (c_Mod_say X.2.1 D b th fd sl ki fl va fo go si te kp ro rs ma en ms lw hw ls hz pt bd o (l1 ++ [tnB t 0]) (tnB t 1) w2 n ho (by first | omega | (simp only [List.length_append, List.length_singleton]; omega)) ⟨h0, h1, h2, h3, h4, h5, h6, h7, h8, h9, h10, h11, h12, h13⟩) (by decide) (by omega) (by omega) rfl (Nat.le_of_ble_eq_true rfl) d_Mod_sayText_69 (fun v7 w8 n9 p10 => ?_)
        obtain ⟨rfl, e12, f11, h0, h1, h2, h3, h4, h5, h6, h7, h8, h9, h10, h11, h12, h13⟩ := p10
        rw [e12]
        refine a_st (st' := []) rfl ?_
        have fr := fr.trans (Fr.sub f11 (by omega) (by omega))
        exact RT _ _ _ _ _ _ d_Mod_sayText_72 (by omega) (by omega) (by rw [tx_e hi he] at h0 h9; exact ⟨rfl, rfl, fr, h0, h1, h2, h3, h4, h5, h6, h7, h8, h9, h10, h11, h12, h13⟩)
      · have hi : i < x.length := Nat.not_le.mp fun z => h11_ ((nI_leI (by omega) (by omega)).mpr z)
        have hb := getD_lt hx i
        refine a_aload_n S d_Mod_sayText_14 rfl rfl ?_
        refine a_get S kc_Mod 9 (by decide) lf_Mod_30 h0 rfl d_Mod_sayText_15 ?_
        refine a_bipush S (v := 10) d_Mod_sayText_18 (by decide) ?_
        refine a_iload_n S d_Mod_sayText_20 rfl rfl ?_
        refine a_imul S d_Mod_sayText_21 ?_
        refine a_iload S d_Mod_sayText_22 rfl ?_
        refine a_iadd S d_Mod_sayText_24 ?_
        refine a_iald S (i := 10 * k + i) h7 (ni_add (ni_mul rfl rfl) rfl) (by omega) (by decide) d_Mod_sayText_25 ?_
        refine a_eqi (hte i hi) ?_
        refine a_istore S d_Mod_sayText_26 (Nat.le_of_ble_eq_true rfl) (lv' := [(0, .ref b), (1, .int (nI o)), (2, .int (nI k)), (3, .int (nI t)), (4, .int (nI i)), (5, .int (nI (x.getD i 0)))]) rfl ?_
        refine a_aload_n S d_Mod_sayText_28 rfl rfl ?_
        refine a_iload_n S d_Mod_sayText_29 rfl rfl ?_
        refine a_iload S d_Mod_sayText_30 rfl ?_
        refine a_iload_n S d_Mod_sayText_32 rfl rfl ?_
        refine a_ixor S d_Mod_sayText_33 ?_
        refine a_eqi (y := nI (tnB t (x.getD i 0))) (xor_tn ht (by omega)) ?_
        refine a_callV S (rest := []) lg_Mod_105 h0 (c_Mod_say X.2.1 D b th fd sl ki fl va fo go si te kp ro rs ma en ms lw hw ls hz pt bd o l1 (tnB t (x.getD i 0)) w1 n ho (by first | omega | (simp only [List.length_append, List.length_singleton]; omega)) ⟨h0, h1, h2, h3, h4, h5, h6, h7, h8, h9, h10, h11, h12, h13⟩) (by decide) (by omega) (by omega) rfl (Nat.le_of_ble_eq_true rfl) d_Mod_sayText_34 (fun v13 w14 n15 p16 => ?_)
        obtain ⟨rfl, e18, f17, h0, h1, h2, h3, h4, h5, h6, h7, h8, h9, h10, h11, h12, h13⟩ := p16
        rw [e18]
        refine a_st (st' := []) rfl ?_
        have fr := fr.trans (Fr.sub f17 (by omega) (by omega))
        refine a_iload S d_Mod_sayText_37 rfl ?_
        refine a_if_ne S (tgt := 52) d_Mod_sayText_39 rfl (fun h39 => ?_) (fun h39 => ?_)
        · have hb0 : ¬ x.getD i 0 = 0 := fun z => h39 (by rw [z]; rfl)
          refine a_iinc S (v := nI (i + 1)) d_Mod_sayText_52 rfl (ni_add rfl (by decide)) (Nat.le_of_ble_eq_true rfl) (lv' := [(0, .ref b), (1, .int (nI o)), (2, .int (nI k)), (3, .int (nI t)), (4, .int (nI (i + 1))), (5, .int (nI (x.getD i 0)))]) rfl ?_
          refine a_goto S (tgt := 3) d_Mod_sayText_55 rfl ?_
          refine a_lv [0, 1, 2, 3, 4] (lv' := [(0, .ref b), (1, .int (nI o)), (2, .int (nI k)), (3, .int (nI t)), (4, .int (nI (i + 1)))]) rfl ?_
          exact ih3 _ (by omega) (i + 1) w14 (l1 ++ [tnB t (x.getD i 0)]) rfl (by omega) fr ⟨h0, h1, h2, h3, h4, h5, h6, h7, h8, h9, h10, h11, h12, h13⟩ (tx_nz hi hb0 he)
        · have hb0 : x.getD i 0 = 0 := (nI_eq (by omega) (by decide)).mp h39
          refine a_aload_n S d_Mod_sayText_42 rfl rfl ?_
          refine a_iload_n S d_Mod_sayText_43 rfl rfl ?_
          refine a_sipush S (v := 255) d_Mod_sayText_44 (by decide) ?_
          refine a_iload_n S d_Mod_sayText_47 rfl rfl ?_
          refine a_ixor S d_Mod_sayText_48 ?_
          refine a_eqi (y := nI (tnB t 255)) (xor_tn ht (by decide)) ?_
          refine a_callV S (rest := []) lg_Mod_105 h0 (c_Mod_say X.2.1 D b th fd sl ki fl va fo go si te kp ro rs ma en ms lw hw ls hz pt bd o (l1 ++ [tnB t (x.getD i 0)]) (tnB t 255) w14 n ho (by first | omega | (simp only [List.length_append, List.length_singleton]; omega)) ⟨h0, h1, h2, h3, h4, h5, h6, h7, h8, h9, h10, h11, h12, h13⟩) (by decide) (by omega) (by omega) rfl (Nat.le_of_ble_eq_true rfl) d_Mod_sayText_49 (fun v19 w20 n21 p22 => ?_)
          obtain ⟨rfl, e24, f23, h0, h1, h2, h3, h4, h5, h6, h7, h8, h9, h10, h11, h12, h13⟩ := p22
          rw [e24]
          refine a_st (st' := []) rfl ?_
          have fr := fr.trans (Fr.sub f23 (by omega) (by omega))
          refine a_iinc S (v := nI (i + 1)) d_Mod_sayText_52 rfl (ni_add rfl (by decide)) (Nat.le_of_ble_eq_true rfl) (lv' := [(0, .ref b), (1, .int (nI o)), (2, .int (nI k)), (3, .int (nI t)), (4, .int (nI (i + 1))), (5, .int (nI (x.getD i 0)))]) rfl ?_
          refine a_goto S (tgt := 3) d_Mod_sayText_55 rfl ?_
          refine a_lv [0, 1, 2, 3, 4] (lv' := [(0, .ref b), (1, .int (nI o)), (2, .int (nI k)), (3, .int (nI t)), (4, .int (nI (i + 1)))]) rfl ?_
          exact ih3 _ (by omega) (i + 1) w20 ((l1 ++ [tnB t (x.getD i 0)]) ++ [tnB t 255]) rfl (by omega) fr ⟨h0, h1, h2, h3, h4, h5, h6, h7, h8, h9, h10, h11, h12, h13⟩ (tx_z hi hb0 he)
  exact loop3 _ 0 w l0 rfl (Nat.zero_le _) fr ⟨h0, h1, h2, h3, h4, h5, h6, h7, h8, h9, h10, h11, h12, h13⟩ rfl
set_option maxHeartbeats 400000 in
set_option maxRecDepth 100000 in
theorem c_Mod_sayInt (l : Launch) (D : kD) (b : Nat) (th : Int32) (fd : Nat) (sl : Bool) (ki fl : Nat → Int32) (va : Nat → Int64) (fo go si te : Nat → Int32) (kp : Nat) (ro : Nat → Int32) (rs : Nat) (ma : Nat → Int32) (en ms lw hw : Nat → Int32) (ls : Nat) (hz : Int32) (pt : Nat) (bd : Bool) (o : Nat) (l0 : List Nat) (v : Int64) (t : Nat) (w : ww) (n : Nat) (ho : o < 2) (ht : t = 0 ∨ t = 255) (hl : (l0 ++ (encU (uL v)).map (tnB t)).length ≤ 200) (h : Mo D w b th fd sl ki fl va fo go si te kp ro rs (wrL ma (200 * o) l0) l0.length en ms lw hw ls hz pt bd) : AM l D M_Mod_sayInt 1 0 0 [.ref b, .int (nI o), .long v, .int (nI t)] w n (fun v' w' n' => v' = none ∧ n' = n ∧ Fr w w' b 14 ∧ Mo D w' b th fd sl ki fl va fo go si te kp ro rs (wrL ma (200 * o) (l0 ++ ((encU (uL v)).map (tnB t)))) ((l0 ++ ((encU (uL v)).map (tnB t))).length) en ms lw hw ls hz pt bd) := by
  refine AM.ofv (by decide +kernel) rfl (Nat.le_of_ble_eq_true rfl) (fun X A Q hin S RT => ?_)
  have S : FX X (D, A, 9, Q) prog_9_method_19_code "KeyCodecModel" 1 0 0 := S
  have RT : RTv X (D, A, 9, Q) prog_9_method_19_code 0 0 _ := RT
  obtain ⟨h0, h1, h2, h3, h4, h5, h6, h7, h8, h9, h10, h11, h12, h13⟩ := h
  refine a_lve (lv' := [(0, .ref b), (1, .int (nI o)), (2, .long v), (4, .int (nI t))]) rfl ?_
  have fr : Fr w w b 14 := Fr.refl _ _ _
  refine a_lload_n S d_Mod_sayInt_0 rfl rfl ?_
  refine a_lconst S (v := 0) d_Mod_sayInt_1 (by decide) ?_
  refine a_lcmp S d_Mod_sayInt_2 ?_
  refine a_if_ge S (tgt := 14) d_Mod_sayInt_3 rfl (fun h3_ => ?_) (fun h3_ => ?_)
  · have hu := ge0_u h3_
    have hR : uL v < 2 ^ 63 := hu
    refine a_lload_n S d_Mod_sayInt_14 rfl rfl ?_
    refine a_eql (y := lN (uL v)) (lN_uL _).symm ?_
    refine a_lstore S d_Mod_sayInt_15 (Nat.le_of_ble_eq_true rfl) (lv' := [(0, .ref b), (1, .int (nI o)), (2, .long v), (4, .int (nI t)), (5, .long (lN (uL v)))]) rfl ?_
    refine a_iconst S (v := 0) d_Mod_sayInt_17 (by decide) ?_
    refine a_istore S d_Mod_sayInt_18 (Nat.le_of_ble_eq_true rfl) (lv' := [(0, .ref b), (1, .int (nI o)), (2, .long v), (4, .int (nI t)), (5, .long (lN (uL v))), (7, .int 0)]) rfl ?_
    have loop20 : ∀ (kk20 : Nat) (r q : Nat), r = kk20 → (r < 2 ^ 63) → (q + nby r = nby (uL v)) → AW X (D, A, 9, Q) 20 [(0, .ref b), (1, .int (nI o)), (2, .long v), (4, .int (nI t)), (5, .long (lN r)), (7, .int (nI q))] [] w n 0 0 := by
      intro kk20
      induction kk20 using Nat.strongRecOn with
      | ind kk20 ih20 =>
        intro r q hk20 hr hq
        refine a_lload S d_Mod_sayInt_20 rfl ?_
        refine a_lconst S (v := 0) d_Mod_sayInt_22 (by decide) ?_
        refine a_lcmp S d_Mod_sayInt_23 ?_
        refine a_if_le S (tgt := 41) d_Mod_sayInt_24 rfl (fun h24 => ?_) (fun h24 => ?_)
        · have hr0 : r = 0 := (l_cmp_le0 hr).mp h24
          have hq : q = nby (uL v) := by rw [hr0, nby_0] at hq; exact hq
          have hq8 : q ≤ 8 := by rw [hq]; exact nby_8 (uL_lt _)
          refine a_aload_n S d_Mod_sayInt_41 rfl rfl ?_
          refine a_iload_n S d_Mod_sayInt_42 rfl rfl ?_
          refine a_lload_n S d_Mod_sayInt_43 rfl rfl ?_
          refine a_lconst S (v := 0) d_Mod_sayInt_44 (by decide) ?_
          refine a_lcmp S d_Mod_sayInt_45 ?_
          refine a_if_ge S (tgt := 57) d_Mod_sayInt_46 rfl (fun h46 => ?_) (fun h46 => ?_)
          · refine a_sipush S (v := 128) d_Mod_sayInt_57 (by decide) ?_
            refine a_iload S d_Mod_sayInt_60 rfl ?_
            refine a_iadd S d_Mod_sayInt_62 ?_
            refine a_eqi (y := nI (128 + q)) (ni_add rfl rfl) ?_
            refine a_iload S d_Mod_sayInt_63 rfl ?_
            refine a_ixor S d_Mod_sayInt_65 ?_
            refine a_eqi (y := nI (tnB t (128 + q))) (xor_tn ht (by omega)) ?_
            refine a_callV S (rest := []) lg_Mod_105 h0 (c_Mod_say X.2.1 D b th fd sl ki fl va fo go si te kp ro rs ma en ms lw hw ls hz pt bd o l0 (tnB t (128 + q)) w n ho (by have h := hl; have h2 := encU_c (uL v); rw [List.length_append, List.length_map] at h; omega) ⟨h0, h1, h2, h3, h4, h5, h6, h7, h8, h9, h10, h11, h12, h13⟩) (by decide) (by omega) (by omega) rfl (Nat.le_of_ble_eq_true rfl) d_Mod_sayInt_66 (fun v1 w2 n3 p4 => ?_)
            obtain ⟨rfl, e6, f5, h0, h1, h2, h3, h4, h5, h6, h7, h8, h9, h10, h11, h12, h13⟩ := p4
            rw [e6]
            refine a_st (st' := []) rfl ?_
            have fr := fr.trans (Fr.sub f5 (by omega) (by omega))
            refine a_iload S d_Mod_sayInt_69 rfl ?_
            refine a_iconst S (v := 1) d_Mod_sayInt_71 (by decide) ?_
            refine a_isub S d_Mod_sayInt_72 ?_
            refine a_istore S d_Mod_sayInt_73 (Nat.le_of_ble_eq_true rfl) (lv' := [(0, .ref b), (1, .int (nI o)), (2, .long v), (4, .int (nI t)), (5, .long (lN r)), (7, .int (nI q)), (8, .int (nI q - 1))]) rfl ?_
            have loop75 : ∀ (kk75 : Nat) (j : Nat) (w1 : ww) (l1 : List Nat), j = kk75 → (j ≤ 8) → (Fr w w1 b 14) → (Mo D w1 b th fd sl ki fl va fo go si te kp ro rs (wrL ma (200 * o) l1) l1.length en ms lw hw ls hz pt bd) → (l1 ++ (be j (uL v)).map (tnB t) = l0 ++ (encU (uL v)).map (tnB t)) → AW X (D, A, 9, Q) 75 [(0, .ref b), (1, .int (nI o)), (2, .long v), (4, .int (nI t)), (5, .long (lN r)), (7, .int (nI q)), (8, .int (nI j - 1))] [] w1 n (0 + 0) (0 + 0) := by
              intro kk75
              induction kk75 using Nat.strongRecOn with
              | ind kk75 ih75 =>
                intro j w1 l1 hk75 hj fr h he
                obtain ⟨h0, h1, h2, h3, h4, h5, h6, h7, h8, h9, h10, h11, h12, h13⟩ := h
                refine a_iload S d_Mod_sayInt_75 rfl ?_
                refine a_if_lt S (tgt := 106) d_Mod_sayInt_77 rfl (fun h77 => ?_) (fun h77 => ?_)
                · have hj0 : j = 0 := Nat.eq_zero_of_not_pos fun z => absurd h77 (k2_nlt (by obtain ⟨i, rfl⟩ : ∃ i, j = i + 1 := ⟨j - 1, by omega⟩; rw [nI_pred]; exact nI_pos' (by omega)))
                  subst hj0
                  rw [show l1 ++ (be 0 (uL v)).map (tnB t) = l1 from List.append_nil l1] at he
                  rw [he] at h0 h9
                  exact RT _ _ _ _ _ _ d_Mod_sayInt_106 (by omega) (by omega) ⟨rfl, rfl, fr, h0, h1, h2, h3, h4, h5, h6, h7, h8, h9, h10, h11, h12, h13⟩
                · obtain ⟨i, rfl⟩ : ∃ i, j = i + 1 := ⟨j - 1, by have : j ≠ 0 := (fun z => h77 (by subst z; decide)); omega⟩
                  have hl2 := nn_len he hl (by rw [List.length_map, be_len]; omega)
                  refine a_lve (lv' := [(0, .ref b), (1, .int (nI o)), (2, .long v), (4, .int (nI t)), (5, .long (lN r)), (7, .int (nI q)), (8, .int (nI i))]) (by rw [nI_pred]) ?_
                  refine a_aload_n S d_Mod_sayInt_80 rfl rfl ?_
                  refine a_iload_n S d_Mod_sayInt_81 rfl rfl ?_
                  refine a_lload_n S d_Mod_sayInt_82 rfl rfl ?_
                  refine a_bipush S (v := 8) d_Mod_sayInt_83 (by decide) ?_
                  refine a_iload S d_Mod_sayInt_85 rfl ?_
                  refine a_imul S d_Mod_sayInt_87 ?_
                  refine a_lshr S d_Mod_sayInt_88 rfl ?_
                  refine a_ldc2 S (v := 255) lK_Mod_109 d_Mod_sayInt_89 ?_
                  refine a_land S d_Mod_sayInt_92 ?_
                  refine a_l2i S d_Mod_sayInt_93 ?_
                  refine a_eqi (y := nI (uL v / 256 ^ i % 256)) (ars v (by omega)) ?_
                  refine a_iload S d_Mod_sayInt_94 rfl ?_
                  refine a_ixor S d_Mod_sayInt_96 ?_
                  refine a_eqi (y := nI (tnB t (uL v / 256 ^ i % 256))) (xor_tn ht (Nat.mod_lt _ (by decide))) ?_
                  refine a_callV S (rest := []) lg_Mod_105 h0 (c_Mod_say X.2.1 D b th fd sl ki fl va fo go si te kp ro rs ma en ms lw hw ls hz pt bd o l1 (tnB t (uL v / 256 ^ i % 256)) w1 n ho (by first | omega | (simp only [List.length_append, List.length_singleton]; omega)) ⟨h0, h1, h2, h3, h4, h5, h6, h7, h8, h9, h10, h11, h12, h13⟩) (by decide) (by omega) (by omega) rfl (Nat.le_of_ble_eq_true rfl) d_Mod_sayInt_97 (fun v7 w8 n9 p10 => ?_)
                  obtain ⟨rfl, e12, f11, h0, h1, h2, h3, h4, h5, h6, h7, h8, h9, h10, h11, h12, h13⟩ := p10
                  rw [e12]
                  refine a_st (st' := []) rfl ?_
                  have fr := fr.trans (Fr.sub f11 (by omega) (by omega))
                  refine a_iinc S (v := (nI i - 1)) d_Mod_sayInt_100 rfl (ni_m1 i) (Nat.le_of_ble_eq_true rfl) (lv' := [(0, .ref b), (1, .int (nI o)), (2, .long v), (4, .int (nI t)), (5, .long (lN r)), (7, .int (nI q)), (8, .int (nI i - 1))]) rfl ?_
                  refine a_goto S (tgt := 75) d_Mod_sayInt_103 rfl ?_
                  exact ih75 _ (by omega) i w8 (l1 ++ [tnB t (uL v / 256 ^ i % 256)]) rfl (by omega) fr ⟨h0, h1, h2, h3, h4, h5, h6, h7, h8, h9, h10, h11, h12, h13⟩ (sy_s he)
            exact loop75 _ q w2 (l0 ++ [tnB t (128 + q)]) rfl hq8 fr ⟨h0, h1, h2, h3, h4, h5, h6, h7, h8, h9, h10, h11, h12, h13⟩ (sy_pos hu hq)
          · exact absurd h3_ h46
        · have hr0 : ¬ r = 0 := fun z => h24 ((l_cmp_le0 hr).mpr z)
          refine a_lload S d_Mod_sayInt_27 rfl ?_
          refine a_ldc2 S (v := 256) lK_Mod_103 d_Mod_sayInt_29 ?_
          refine a_ldiv S d_Mod_sayInt_32 (by decide) ?_
          refine a_eql (y := (lN (r / 256))) (pk_lDiv hr (by decide) (by decide)) ?_
          refine a_lstore S d_Mod_sayInt_33 (Nat.le_of_ble_eq_true rfl) (lv' := [(0, .ref b), (1, .int (nI o)), (2, .long v), (4, .int (nI t)), (5, .long (lN (r / 256))), (7, .int (nI q))]) rfl ?_
          refine a_iinc S (v := nI (q + 1)) d_Mod_sayInt_35 rfl (ni_add rfl (by decide)) (Nat.le_of_ble_eq_true rfl) (lv' := [(0, .ref b), (1, .int (nI o)), (2, .long v), (4, .int (nI t)), (5, .long (lN (r / 256))), (7, .int (nI (q + 1)))]) rfl ?_
          refine a_goto S (tgt := 20) d_Mod_sayInt_38 rfl ?_
          exact ih20 _ (Nat.lt_of_lt_of_eq (Nat.div_lt_self (Nat.pos_of_ne_zero hr0) (by decide)) hk20) (r / 256) (q + 1) rfl (Nat.lt_of_le_of_lt (Nat.div_le_self _ _) hr) (by rw [nby_s hr0] at hq; omega)
    exact loop20 _ (uL v) 0 rfl hR (Nat.zero_add _)
  · have hu := lt0_u h3_
    have hR := uLm_lt hu
    refine a_ldc2 S (v := (-1)) lK_Mod_98 d_Mod_sayInt_6 ?_
    refine a_lload_n S d_Mod_sayInt_9 rfl rfl ?_
    refine a_lsub S d_Mod_sayInt_10 ?_
    refine a_goto S (tgt := 15) d_Mod_sayInt_11 rfl ?_
    refine a_eql (y := lN (uL (-1 - v))) (lN_uL _).symm ?_
    refine a_lstore S d_Mod_sayInt_15 (Nat.le_of_ble_eq_true rfl) (lv' := [(0, .ref b), (1, .int (nI o)), (2, .long v), (4, .int (nI t)), (5, .long (lN (uL (-1 - v))))]) rfl ?_
    refine a_iconst S (v := 0) d_Mod_sayInt_17 (by decide) ?_
    refine a_istore S d_Mod_sayInt_18 (Nat.le_of_ble_eq_true rfl) (lv' := [(0, .ref b), (1, .int (nI o)), (2, .long v), (4, .int (nI t)), (5, .long (lN (uL (-1 - v)))), (7, .int 0)]) rfl ?_
    have loop20 : ∀ (kk20 : Nat) (r q : Nat), r = kk20 → (r < 2 ^ 63) → (q + nby r = nby (uL (-1 - v))) → AW X (D, A, 9, Q) 20 [(0, .ref b), (1, .int (nI o)), (2, .long v), (4, .int (nI t)), (5, .long (lN r)), (7, .int (nI q))] [] w n 0 0 := by
      intro kk20
      induction kk20 using Nat.strongRecOn with
      | ind kk20 ih20 =>
        intro r q hk20 hr hq
        refine a_lload S d_Mod_sayInt_20 rfl ?_
        refine a_lconst S (v := 0) d_Mod_sayInt_22 (by decide) ?_
        refine a_lcmp S d_Mod_sayInt_23 ?_
        refine a_if_le S (tgt := 41) d_Mod_sayInt_24 rfl (fun h24 => ?_) (fun h24 => ?_)
        · have hr0 : r = 0 := (l_cmp_le0 hr).mp h24
          have hq : q = nby (uL (-1 - v)) := by rw [hr0, nby_0] at hq; exact hq
          have hq8 : q ≤ 8 := by rw [hq]; exact nby_8 (uL_lt _)
          refine a_aload_n S d_Mod_sayInt_41 rfl rfl ?_
          refine a_iload_n S d_Mod_sayInt_42 rfl rfl ?_
          refine a_lload_n S d_Mod_sayInt_43 rfl rfl ?_
          refine a_lconst S (v := 0) d_Mod_sayInt_44 (by decide) ?_
          refine a_lcmp S d_Mod_sayInt_45 ?_
          refine a_if_ge S (tgt := 57) d_Mod_sayInt_46 rfl (fun h46 => ?_) (fun h46 => ?_)
          · exact absurd h46 h3_
          · refine a_bipush S (v := 127) d_Mod_sayInt_49 (by decide) ?_
            refine a_iload S d_Mod_sayInt_51 rfl ?_
            refine a_isub S d_Mod_sayInt_53 ?_
            refine a_eqi (y := nI (127 - q)) (ni_sub rfl rfl (by omega)) ?_
            refine a_goto S (tgt := 63) d_Mod_sayInt_54 rfl ?_
            refine a_iload S d_Mod_sayInt_63 rfl ?_
            refine a_ixor S d_Mod_sayInt_65 ?_
            refine a_eqi (y := nI (tnB t (127 - q))) (xor_tn ht (by omega)) ?_
            refine a_callV S (rest := []) lg_Mod_105 h0 (c_Mod_say X.2.1 D b th fd sl ki fl va fo go si te kp ro rs ma en ms lw hw ls hz pt bd o l0 (tnB t (127 - q)) w n ho (by have h := hl; have h2 := encU_c (uL v); rw [List.length_append, List.length_map] at h; omega) ⟨h0, h1, h2, h3, h4, h5, h6, h7, h8, h9, h10, h11, h12, h13⟩) (by decide) (by omega) (by omega) rfl (Nat.le_of_ble_eq_true rfl) d_Mod_sayInt_66 (fun v13 w14 n15 p16 => ?_)
            obtain ⟨rfl, e18, f17, h0, h1, h2, h3, h4, h5, h6, h7, h8, h9, h10, h11, h12, h13⟩ := p16
            rw [e18]
            refine a_st (st' := []) rfl ?_
            have fr := fr.trans (Fr.sub f17 (by omega) (by omega))
            refine a_iload S d_Mod_sayInt_69 rfl ?_
            refine a_iconst S (v := 1) d_Mod_sayInt_71 (by decide) ?_
            refine a_isub S d_Mod_sayInt_72 ?_
            refine a_istore S d_Mod_sayInt_73 (Nat.le_of_ble_eq_true rfl) (lv' := [(0, .ref b), (1, .int (nI o)), (2, .long v), (4, .int (nI t)), (5, .long (lN r)), (7, .int (nI q)), (8, .int (nI q - 1))]) rfl ?_
            have loop75 : ∀ (kk75 : Nat) (j : Nat) (w1 : ww) (l1 : List Nat), j = kk75 → (j ≤ 8) → (Fr w w1 b 14) → (Mo D w1 b th fd sl ki fl va fo go si te kp ro rs (wrL ma (200 * o) l1) l1.length en ms lw hw ls hz pt bd) → (l1 ++ (be j (uL v)).map (tnB t) = l0 ++ (encU (uL v)).map (tnB t)) → AW X (D, A, 9, Q) 75 [(0, .ref b), (1, .int (nI o)), (2, .long v), (4, .int (nI t)), (5, .long (lN r)), (7, .int (nI q)), (8, .int (nI j - 1))] [] w1 n (0 + 0) (0 + 0) := by
              intro kk75
              induction kk75 using Nat.strongRecOn with
              | ind kk75 ih75 =>
                intro j w1 l1 hk75 hj fr h he
                obtain ⟨h0, h1, h2, h3, h4, h5, h6, h7, h8, h9, h10, h11, h12, h13⟩ := h
                refine a_iload S d_Mod_sayInt_75 rfl ?_
                refine a_if_lt S (tgt := 106) d_Mod_sayInt_77 rfl (fun h77 => ?_) (fun h77 => ?_)
                · have hj0 : j = 0 := Nat.eq_zero_of_not_pos fun z => absurd h77 (k2_nlt (by obtain ⟨i, rfl⟩ : ∃ i, j = i + 1 := ⟨j - 1, by omega⟩; rw [nI_pred]; exact nI_pos' (by omega)))
                  subst hj0
                  rw [show l1 ++ (be 0 (uL v)).map (tnB t) = l1 from List.append_nil l1] at he
                  rw [he] at h0 h9
                  exact RT _ _ _ _ _ _ d_Mod_sayInt_106 (by omega) (by omega) ⟨rfl, rfl, fr, h0, h1, h2, h3, h4, h5, h6, h7, h8, h9, h10, h11, h12, h13⟩
                · obtain ⟨i, rfl⟩ : ∃ i, j = i + 1 := ⟨j - 1, by have : j ≠ 0 := (fun z => h77 (by subst z; decide)); omega⟩
                  have hl2 := nn_len he hl (by rw [List.length_map, be_len]; omega)
                  refine a_lve (lv' := [(0, .ref b), (1, .int (nI o)), (2, .long v), (4, .int (nI t)), (5, .long (lN r)), (7, .int (nI q)), (8, .int (nI i))]) (by rw [nI_pred]) ?_
                  refine a_aload_n S d_Mod_sayInt_80 rfl rfl ?_
                  refine a_iload_n S d_Mod_sayInt_81 rfl rfl ?_
                  refine a_lload_n S d_Mod_sayInt_82 rfl rfl ?_
                  refine a_bipush S (v := 8) d_Mod_sayInt_83 (by decide) ?_
                  refine a_iload S d_Mod_sayInt_85 rfl ?_
                  refine a_imul S d_Mod_sayInt_87 ?_
                  refine a_lshr S d_Mod_sayInt_88 rfl ?_
                  refine a_ldc2 S (v := 255) lK_Mod_109 d_Mod_sayInt_89 ?_
                  refine a_land S d_Mod_sayInt_92 ?_
                  refine a_l2i S d_Mod_sayInt_93 ?_
                  refine a_eqi (y := nI (uL v / 256 ^ i % 256)) (ars v (by omega)) ?_
                  refine a_iload S d_Mod_sayInt_94 rfl ?_
                  refine a_ixor S d_Mod_sayInt_96 ?_
                  refine a_eqi (y := nI (tnB t (uL v / 256 ^ i % 256))) (xor_tn ht (Nat.mod_lt _ (by decide))) ?_
                  refine a_callV S (rest := []) lg_Mod_105 h0 (c_Mod_say X.2.1 D b th fd sl ki fl va fo go si te kp ro rs ma en ms lw hw ls hz pt bd o l1 (tnB t (uL v / 256 ^ i % 256)) w1 n ho (by first | omega | (simp only [List.length_append, List.length_singleton]; omega)) ⟨h0, h1, h2, h3, h4, h5, h6, h7, h8, h9, h10, h11, h12, h13⟩) (by decide) (by omega) (by omega) rfl (Nat.le_of_ble_eq_true rfl) d_Mod_sayInt_97 (fun v19 w20 n21 p22 => ?_)
                  obtain ⟨rfl, e24, f23, h0, h1, h2, h3, h4, h5, h6, h7, h8, h9, h10, h11, h12, h13⟩ := p22
                  rw [e24]
                  refine a_st (st' := []) rfl ?_
                  have fr := fr.trans (Fr.sub f23 (by omega) (by omega))
                  refine a_iinc S (v := (nI i - 1)) d_Mod_sayInt_100 rfl (ni_m1 i) (Nat.le_of_ble_eq_true rfl) (lv' := [(0, .ref b), (1, .int (nI o)), (2, .long v), (4, .int (nI t)), (5, .long (lN r)), (7, .int (nI q)), (8, .int (nI i - 1))]) rfl ?_
                  refine a_goto S (tgt := 75) d_Mod_sayInt_103 rfl ?_
                  exact ih75 _ (by omega) i w20 (l1 ++ [tnB t (uL v / 256 ^ i % 256)]) rfl (by omega) fr ⟨h0, h1, h2, h3, h4, h5, h6, h7, h8, h9, h10, h11, h12, h13⟩ (sy_s he)
            exact loop75 _ q w14 (l0 ++ [tnB t (127 - q)]) rfl hq8 fr ⟨h0, h1, h2, h3, h4, h5, h6, h7, h8, h9, h10, h11, h12, h13⟩ (sy_neg hu hq)
        · have hr0 : ¬ r = 0 := fun z => h24 ((l_cmp_le0 hr).mpr z)
          refine a_lload S d_Mod_sayInt_27 rfl ?_
          refine a_ldc2 S (v := 256) lK_Mod_103 d_Mod_sayInt_29 ?_
          refine a_ldiv S d_Mod_sayInt_32 (by decide) ?_
          refine a_eql (y := (lN (r / 256))) (pk_lDiv hr (by decide) (by decide)) ?_
          refine a_lstore S d_Mod_sayInt_33 (Nat.le_of_ble_eq_true rfl) (lv' := [(0, .ref b), (1, .int (nI o)), (2, .long v), (4, .int (nI t)), (5, .long (lN (r / 256))), (7, .int (nI q))]) rfl ?_
          refine a_iinc S (v := nI (q + 1)) d_Mod_sayInt_35 rfl (ni_add rfl (by decide)) (Nat.le_of_ble_eq_true rfl) (lv' := [(0, .ref b), (1, .int (nI o)), (2, .long v), (4, .int (nI t)), (5, .long (lN (r / 256))), (7, .int (nI (q + 1)))]) rfl ?_
          refine a_goto S (tgt := 20) d_Mod_sayInt_38 rfl ?_
          exact ih20 _ (Nat.lt_of_lt_of_eq (Nat.div_lt_self (Nat.pos_of_ne_zero hr0) (by decide)) hk20) (r / 256) (q + 1) rfl (Nat.lt_of_le_of_lt (Nat.div_le_self _ _) hr) (by rw [nby_s hr0] at hq; omega)
    exact loop20 _ (uL (-1 - v)) 0 rfl hR (Nat.zero_add _)
set_option maxHeartbeats 400000 in
set_option maxRecDepth 100000 in
theorem c_Mod_sayDecimal (l : Launch) (D : kD) (b : Nat) (th : Int32) (fd : Nat) (sl : Bool) (ki fl : Nat → Int32) (va : Nat → Int64) (fo go si te : Nat → Int32) (kp : Nat) (ro : Nat → Int32) (rs : Nat) (ma : Nat → Int32) (en ms lw hw : Nat → Int32) (ls : Nat) (hz : Int32) (pt : Nat) (bd : Bool) (o : Nat) (l0 : List Nat) (d : Int64) (s t : Nat) (w : ww) (n : Nat) (ho : o < 2) (hok : -(10 : Int) ^ 15 ≤ d.toInt ∧ d.toInt ≤ 10 ^ 15 ∧ s ≤ 9) (ht : t = 0 ∨ t = 255) (hl : (l0 ++ (encD d.toInt s).map (tnB t)).length ≤ 200) (h : Mo D w b th fd sl ki fl va fo go si te kp ro rs (wrL ma (200 * o) l0) l0.length en ms lw hw ls hz pt bd) : AM l D M_Mod_sayDecimal 1 0 0 [.ref b, .int (nI o), .long d, .int (nI s), .int (nI t)] w n (fun v' w' n' => v' = none ∧ n' = n ∧ Fr w w' b 14 ∧ Mo D w' b th fd sl ki fl va fo go si te kp ro rs (wrL ma (200 * o) (l0 ++ ((encD d.toInt s).map (tnB t)))) ((l0 ++ ((encD d.toInt s).map (tnB t))).length) en ms lw hw ls hz pt bd) := by
  refine AM.ofv (by decide +kernel) rfl (Nat.le_of_ble_eq_true rfl) (fun X A Q hin S RT => ?_)
  have S : FX X (D, A, 13, Q) prog_9_method_21_code "KeyCodecModel" 1 0 0 := S
  have RT : RTv X (D, A, 13, Q) prog_9_method_21_code 0 0 _ := RT
  obtain ⟨h0, h1, h2, h3, h4, h5, h6, h7, h8, h9, h10, h11, h12, h13⟩ := h
  refine a_lve (lv' := [(0, .ref b), (1, .int (nI o)), (2, .long d), (4, .int (nI s)), (5, .int (nI t))]) rfl ?_
  have fr : Fr w w b 14 := Fr.refl _ _ _
  refine a_lload_n S d_Mod_sayDecimal_0 rfl rfl ?_
  refine a_lconst S (v := 0) d_Mod_sayDecimal_1 (by decide) ?_
  refine a_lcmp S d_Mod_sayDecimal_2 ?_
  refine a_if_ne S (tgt := 16) d_Mod_sayDecimal_3 rfl (fun hz_ => ?_) (fun hz_ => ?_)
  · have hd0 := d_nz hz_
    refine a_lload_n S d_Mod_sayDecimal_16 rfl rfl ?_
    refine a_lconst S (v := 0) d_Mod_sayDecimal_17 (by decide) ?_
    refine a_lcmp S d_Mod_sayDecimal_18 ?_
    refine a_if_ge S (tgt := 28) d_Mod_sayDecimal_19 rfl (fun h3_ => ?_) (fun h3_ => ?_)
    · have hs_ := d_sgnp h3_ hz_
      refine a_iconst S (v := 0) d_Mod_sayDecimal_28 (by decide) ?_
      refine a_istore S d_Mod_sayDecimal_29 (Nat.le_of_ble_eq_true rfl) (lv' := [(0, .ref b), (1, .int (nI o)), (2, .long d), (4, .int (nI s)), (5, .int (nI t)), (6, .int 0)]) rfl ?_
      refine a_lload_n S d_Mod_sayDecimal_31 rfl rfl ?_
      refine a_lconst S (v := 0) d_Mod_sayDecimal_32 (by decide) ?_
      refine a_lcmp S d_Mod_sayDecimal_33 ?_
      refine a_if_ge S (tgt := 43) d_Mod_sayDecimal_34 rfl (fun h34 => ?_) (fun h34 => ?_)
      · refine a_lload_n S d_Mod_sayDecimal_43 rfl rfl ?_
        refine a_eql (y := lN d.toInt.natAbs) (dabs_p hok.1 hok.2.1 hs_) ?_
        refine a_lstore S d_Mod_sayDecimal_44 (Nat.le_of_ble_eq_true rfl) (lv' := [(0, .ref b), (1, .int (nI o)), (2, .long d), (4, .int (nI s)), (5, .int (nI t)), (6, .int 0), (7, .long (lN d.toInt.natAbs))]) rfl ?_
        refine a_iconst S (v := 0) d_Mod_sayDecimal_46 (by decide) ?_
        refine a_istore S d_Mod_sayDecimal_47 (Nat.le_of_ble_eq_true rfl) (lv' := [(0, .ref b), (1, .int (nI o)), (2, .long d), (4, .int (nI s)), (5, .int (nI t)), (6, .int 0), (7, .long (lN d.toInt.natAbs)), (9, .int 0)]) rfl ?_
        refine a_lload S d_Mod_sayDecimal_49 rfl ?_
        refine a_lstore S d_Mod_sayDecimal_51 (Nat.le_of_ble_eq_true rfl) (lv' := [(0, .ref b), (1, .int (nI o)), (2, .long d), (4, .int (nI s)), (5, .int (nI t)), (6, .int 0), (7, .long (lN d.toInt.natAbs)), (9, .int 0), (10, .long (lN d.toInt.natAbs))]) rfl ?_
        have loop53 : ∀ (kk53 : Nat) (r q : Nat), r = kk53 → (r < 2 ^ 63) → (q + plc r = plc d.toInt.natAbs) → AW X (D, A, 13, Q) 53 [(0, .ref b), (1, .int (nI o)), (2, .long d), (4, .int (nI s)), (5, .int (nI t)), (6, .int 0), (7, .long (lN d.toInt.natAbs)), (9, .int (nI q)), (10, .long (lN r))] [] w n 0 0 := by
          intro kk53
          induction kk53 using Nat.strongRecOn with
          | ind kk53 ih53 =>
            intro r q hk53 hr hq
            refine a_lload S d_Mod_sayDecimal_53 rfl ?_
            refine a_lconst S (v := 0) d_Mod_sayDecimal_55 (by decide) ?_
            refine a_lcmp S d_Mod_sayDecimal_56 ?_
            refine a_if_le S (tgt := 74) d_Mod_sayDecimal_57 rfl (fun h57 => ?_) (fun h57 => ?_)
            · have hr0 : r = 0 := (l_cmp_le0 hr).mp h57
              have hpP : q = plc d.toInt.natAbs := by rw [hr0, plc_0] at hq; exact hq
              have hq1 : 0 < q := by rw [hpP]; exact plc_pos (by omega)
              have hq16 : q ≤ 16 := by rw [hpP]; exact plc_le (Nat.lt_of_le_of_lt (show d.toInt.natAbs ≤ 10 ^ 15 by omega) (by decide))
              refine a_lconst S (v := 1) d_Mod_sayDecimal_74 (by decide) ?_
              refine a_lstore S d_Mod_sayDecimal_75 (Nat.le_of_ble_eq_true rfl) (lv' := [(0, .ref b), (1, .int (nI o)), (2, .long d), (4, .int (nI s)), (5, .int (nI t)), (6, .int 0), (7, .long (lN d.toInt.natAbs)), (9, .int (nI q)), (10, .long 1)]) rfl ?_
              refine a_iconst S (v := 1) d_Mod_sayDecimal_77 (by decide) ?_
              refine a_istore S d_Mod_sayDecimal_78 (Nat.le_of_ble_eq_true rfl) (lv' := [(0, .ref b), (1, .int (nI o)), (2, .long d), (4, .int (nI s)), (5, .int (nI t)), (6, .int 0), (7, .long (lN d.toInt.natAbs)), (9, .int (nI q)), (10, .long 1), (12, .int 1)]) rfl ?_
              have loop80 : ∀ (kk80 : Nat) (j : Nat), q - j = kk80 → (j + 1 ≤ q) → AW X (D, A, 13, Q) 80 [(0, .ref b), (1, .int (nI o)), (2, .long d), (4, .int (nI s)), (5, .int (nI t)), (6, .int 0), (7, .long (lN d.toInt.natAbs)), (9, .int (nI q)), (10, .long (lN (10 ^ j))), (12, .int (nI (j + 1)))] [] w n 0 0 := by
                intro kk80
                induction kk80 using Nat.strongRecOn with
                | ind kk80 ih80 =>
                  intro j hk80 hj
                  refine a_iload S d_Mod_sayDecimal_80 rfl ?_
                  refine a_iload S d_Mod_sayDecimal_82 rfl ?_
                  refine a_icmp_ge S (tgt := 101) d_Mod_sayDecimal_84 rfl (fun h84 => ?_) (fun h84 => ?_)
                  · have hj2 : q ≤ j + 1 := (nI_leI (by omega) (by omega)).mp h84
                    have hjP : j + 1 = plc d.toInt.natAbs := by omega
                    refine a_aload_n S d_Mod_sayDecimal_101 rfl rfl ?_
                    refine a_iload_n S d_Mod_sayDecimal_102 rfl rfl ?_
                    refine a_lload_n S d_Mod_sayDecimal_103 rfl rfl ?_
                    refine a_lconst S (v := 0) d_Mod_sayDecimal_104 (by decide) ?_
                    refine a_lcmp S d_Mod_sayDecimal_105 ?_
                    refine a_if_ge S (tgt := 113) d_Mod_sayDecimal_106 rfl (fun h106 => ?_) (fun h106 => ?_)
                    · refine a_iconst S (v := 3) d_Mod_sayDecimal_113 (by decide) ?_
                      refine a_iload S d_Mod_sayDecimal_114 rfl ?_
                      refine a_ixor S d_Mod_sayDecimal_116 ?_
                      refine a_eqi (y := nI (tnB t 3)) (xor_tn ht (by decide)) ?_
                      refine a_callV S (rest := []) lg_Mod_105 h0 (c_Mod_say X.2.1 D b th fd sl ki fl va fo go si te kp ro rs ma en ms lw hw ls hz pt bd o l0 (tnB t 3) w n ho (by have h := hl; have h2 := encD_c (d := d) (s := s) (by omega); rw [List.length_append, List.length_map] at h; first | omega | (simp only [List.length_append, List.length_singleton]; omega)) ⟨h0, h1, h2, h3, h4, h5, h6, h7, h8, h9, h10, h11, h12, h13⟩) (by decide) (by omega) (by omega) rfl (Nat.le_of_ble_eq_true rfl) d_Mod_sayDecimal_117 (fun v1 w2 n3 p4 => ?_)
                      obtain ⟨rfl, e6, f5, h0, h1, h2, h3, h4, h5, h6, h7, h8, h9, h10, h11, h12, h13⟩ := p4
                      rw [e6]
                      refine a_st (st' := []) rfl ?_
                      have fr := fr.trans (Fr.sub f5 (by omega) (by omega))
                      refine a_aload_n S d_Mod_sayDecimal_120 rfl rfl ?_
                      refine a_iload_n S d_Mod_sayDecimal_121 rfl rfl ?_
                      refine a_iload S d_Mod_sayDecimal_122 rfl ?_
                      refine a_iload S d_Mod_sayDecimal_124 rfl ?_
                      refine a_isub S d_Mod_sayDecimal_126 ?_
                      refine a_bipush S (v := 64) d_Mod_sayDecimal_127 (by decide) ?_
                      refine a_iadd S d_Mod_sayDecimal_129 ?_
                      refine a_eqi (y := nI (q + 64 - s)) (i_exp (by omega)) ?_
                      refine a_iload S d_Mod_sayDecimal_130 rfl ?_
                      refine a_ixor S d_Mod_sayDecimal_132 ?_
                      refine a_iload S d_Mod_sayDecimal_133 rfl ?_
                      refine a_ixor S d_Mod_sayDecimal_135 ?_
                      refine a_eqi (y := nI (tn2 0 t (q + 64 - s))) (xor_2 (Or.inl rfl) ht (by omega)) ?_
                      refine a_callV S (rest := []) lg_Mod_105 h0 (c_Mod_say X.2.1 D b th fd sl ki fl va fo go si te kp ro rs ma en ms lw hw ls hz pt bd o (l0 ++ [tnB t 3]) (tn2 0 t (q + 64 - s)) w2 n ho (by have h := hl; have h2 := encD_c (d := d) (s := s) (by omega); rw [List.length_append, List.length_map] at h; first | omega | (simp only [List.length_append, List.length_singleton]; omega)) ⟨h0, h1, h2, h3, h4, h5, h6, h7, h8, h9, h10, h11, h12, h13⟩) (by decide) (by omega) (by omega) rfl (Nat.le_of_ble_eq_true rfl) d_Mod_sayDecimal_136 (fun v7 w8 n9 p10 => ?_)
                      obtain ⟨rfl, e12, f11, h0, h1, h2, h3, h4, h5, h6, h7, h8, h9, h10, h11, h12, h13⟩ := p10
                      rw [e12]
                      refine a_st (st' := []) rfl ?_
                      have fr := fr.trans (Fr.sub f11 (by omega) (by omega))
                      have loop139 : ∀ (kk139 : Nat) (k u : Nat) (w1 : ww) (l1 : List Nat), k = kk139 → (k ≤ 16) → (u < 10 ^ k) → (Fr w w1 b 14) → (Mo D w1 b th fd sl ki fl va fo go si te kp ro rs (wrL ma (200 * o) l1) l1.length en ms lw hw ls hz pt bd) → (l1 ++ (dgl k u).map (tn2 0 t) = l0 ++ (encD d.toInt s).map (tnB t)) → AW X (D, A, 13, Q) 139 [(0, .ref b), (1, .int (nI o)), (2, .long d), (4, .int (nI s)), (5, .int (nI t)), (6, .int 0), (7, .long (lN u)), (9, .int (nI q)), (10, .long (lN (unK k))), (12, .int (nI (j + 1)))] [] w1 n ((0 + 0) + 0) ((0 + 0) + 0) := by
                        intro kk139
                        induction kk139 using Nat.strongRecOn with
                        | ind kk139 ih139 =>
                          intro k u w1 l1 hk139 hk hu fr h he
                          obtain ⟨h0, h1, h2, h3, h4, h5, h6, h7, h8, h9, h10, h11, h12, h13⟩ := h
                          have hu63 : u < 2 ^ 63 := Nat.lt_trans hu (p10_lt (by omega))
                          have hl2 := nn_len he hl (by rw [List.length_map]; exact dgl_pos _ _)
                          refine a_lload S d_Mod_sayDecimal_139 rfl ?_
                          refine a_lconst S (v := 0) d_Mod_sayDecimal_141 (by decide) ?_
                          refine a_lcmp S d_Mod_sayDecimal_142 ?_
                          refine a_if_le S (tgt := 183) d_Mod_sayDecimal_143 rfl (fun h143 => ?_) (fun h143 => ?_)
                          · have hu0 : u = 0 := (l_cmp_le0 hu63).mp h143
                            refine a_aload_n S d_Mod_sayDecimal_183 rfl rfl ?_
                            refine a_iload_n S d_Mod_sayDecimal_184 rfl rfl ?_
                            refine a_iload S d_Mod_sayDecimal_185 rfl ?_
                            refine a_iload S d_Mod_sayDecimal_187 rfl ?_
                            refine a_ixor S d_Mod_sayDecimal_189 ?_
                            refine a_eqi (y := nI (tn2 0 t 0)) (tn2_0 (Or.inl rfl) ht) ?_
                            refine a_callV S (rest := []) lg_Mod_105 h0 (c_Mod_say X.2.1 D b th fd sl ki fl va fo go si te kp ro rs ma en ms lw hw ls hz pt bd o l1 (tn2 0 t 0) w1 n ho (by first | omega | (simp only [List.length_append, List.length_singleton]; omega)) ⟨h0, h1, h2, h3, h4, h5, h6, h7, h8, h9, h10, h11, h12, h13⟩) (by decide) (by omega) (by omega) rfl (Nat.le_of_ble_eq_true rfl) d_Mod_sayDecimal_190 (fun v13 w14 n15 p16 => ?_)
                            obtain ⟨rfl, e18, f17, h0, h1, h2, h3, h4, h5, h6, h7, h8, h9, h10, h11, h12, h13⟩ := p16
                            rw [e18]
                            refine a_st (st' := []) rfl ?_
                            have fr := fr.trans (Fr.sub f17 (by omega) (by omega))
                            exact RT _ _ _ _ _ _ d_Mod_sayDecimal_193 (by omega) (by omega) (by rw [sd_e hu0 he] at h0 h9; exact ⟨rfl, rfl, fr, h0, h1, h2, h3, h4, h5, h6, h7, h8, h9, h10, h11, h12, h13⟩)
                          · have hu0 : ¬ u = 0 := fun z => h143 ((l_cmp_le0 hu63).mpr z)
                            obtain ⟨i, rfl⟩ : ∃ i, k = i + 1 := ⟨k - 1, by have : k ≠ 0 := (fun z => hu0 (by subst z; simp at hu; omega)); omega⟩
                            refine a_lve (lv' := [(0, .ref b), (1, .int (nI o)), (2, .long d), (4, .int (nI s)), (5, .int (nI t)), (6, .int 0), (7, .long (lN u)), (9, .int (nI q)), (10, .long (lN (10 ^ i))), (12, .int (nI (j + 1)))]) rfl ?_
                            refine a_aload_n S d_Mod_sayDecimal_146 rfl rfl ?_
                            refine a_iload_n S d_Mod_sayDecimal_147 rfl rfl ?_
                            refine a_lload S d_Mod_sayDecimal_148 rfl ?_
                            refine a_lload S d_Mod_sayDecimal_150 rfl ?_
                            refine a_ldiv S d_Mod_sayDecimal_152 (lN_ne (p10_pos i) (p10_lt (by omega))) ?_
                            refine a_eql (y := (lN (u / 10 ^ i))) (pk_lDiv hu63 (p10_pos i) (p10_lt (by omega))) ?_
                            refine a_l2i S d_Mod_sayDecimal_153 ?_
                            refine a_eqi (y := nI (u / 10 ^ i)) (lN_i _) ?_
                            refine a_iconst S (v := 1) d_Mod_sayDecimal_154 (by decide) ?_
                            refine a_iadd S d_Mod_sayDecimal_155 ?_
                            refine a_eqi (y := nI (u / 10 ^ i + 1)) (ni_add rfl rfl) ?_
                            refine a_iload S d_Mod_sayDecimal_156 rfl ?_
                            refine a_ixor S d_Mod_sayDecimal_158 ?_
                            refine a_iload S d_Mod_sayDecimal_159 rfl ?_
                            refine a_ixor S d_Mod_sayDecimal_161 ?_
                            refine a_eqi (y := nI (tn2 0 t (u / 10 ^ i + 1))) (xor_2 (Or.inl rfl) ht (by have := dg_lt hu; omega)) ?_
                            refine a_callV S (rest := []) lg_Mod_105 h0 (c_Mod_say X.2.1 D b th fd sl ki fl va fo go si te kp ro rs ma en ms lw hw ls hz pt bd o l1 (tn2 0 t (u / 10 ^ i + 1)) w1 n ho (by first | omega | (simp only [List.length_append, List.length_singleton]; omega)) ⟨h0, h1, h2, h3, h4, h5, h6, h7, h8, h9, h10, h11, h12, h13⟩) (by decide) (by omega) (by omega) rfl (Nat.le_of_ble_eq_true rfl) d_Mod_sayDecimal_162 (fun v19 w20 n21 p22 => ?_)
                            obtain ⟨rfl, e24, f23, h0, h1, h2, h3, h4, h5, h6, h7, h8, h9, h10, h11, h12, h13⟩ := p22
                            rw [e24]
                            refine a_st (st' := []) rfl ?_
                            have fr := fr.trans (Fr.sub f23 (by omega) (by omega))
                            refine a_lload S d_Mod_sayDecimal_165 rfl ?_
                            refine a_lload S d_Mod_sayDecimal_167 rfl ?_
                            refine a_lrem S d_Mod_sayDecimal_169 (lN_ne (p10_pos i) (p10_lt (by omega))) ?_
                            refine a_eql (y := (lN (u % 10 ^ i))) (pk_lRem hu63 (p10_pos i) (p10_lt (by omega))) ?_
                            refine a_lstore S d_Mod_sayDecimal_170 (Nat.le_of_ble_eq_true rfl) (lv' := [(0, .ref b), (1, .int (nI o)), (2, .long d), (4, .int (nI s)), (5, .int (nI t)), (6, .int 0), (7, .long (lN (u % 10 ^ i))), (9, .int (nI q)), (10, .long (lN (10 ^ i))), (12, .int (nI (j + 1)))]) rfl ?_
                            refine a_lload S d_Mod_sayDecimal_172 rfl ?_
                            refine a_ldc2 S (v := 10) lK_Mod_111 d_Mod_sayDecimal_174 ?_
                            refine a_ldiv S d_Mod_sayDecimal_177 (by decide) ?_
                            refine a_eql (y := (lN (unK i))) (by rw [← unK_d]; exact pk_lDiv (p10_lt (by omega)) (by decide) (by decide)) ?_
                            refine a_lstore S d_Mod_sayDecimal_178 (Nat.le_of_ble_eq_true rfl) (lv' := [(0, .ref b), (1, .int (nI o)), (2, .long d), (4, .int (nI s)), (5, .int (nI t)), (6, .int 0), (7, .long (lN (u % 10 ^ i))), (9, .int (nI q)), (10, .long (lN (unK i))), (12, .int (nI (j + 1)))]) rfl ?_
                            refine a_goto S (tgt := 139) d_Mod_sayDecimal_180 rfl ?_
                            exact ih139 _ (by omega) i (u % 10 ^ i) w20 (l1 ++ [tn2 0 t (u / 10 ^ i + 1)]) rfl (by omega) (Nat.mod_lt _ (p10_pos i)) fr ⟨h0, h1, h2, h3, h4, h5, h6, h7, h8, h9, h10, h11, h12, h13⟩ (sd_g hu0 he)
                      exact loop139 _ (j + 1) d.toInt.natAbs w8 ((l0 ++ [tnB t 3]) ++ [tn2 0 t (q + 64 - s)]) rfl (by omega) (by rw [hjP]; exact plc_lt _) fr ⟨h0, h1, h2, h3, h4, h5, h6, h7, h8, h9, h10, h11, h12, h13⟩ (sd_1 hpP hjP (ed_p hs_))
                    · exact absurd h3_ h106
                  · have hj2 : j + 1 < q := Nat.not_le.mp fun z => h84 ((nI_leI (by omega) (by omega)).mpr z)
                    refine a_lload S d_Mod_sayDecimal_87 rfl ?_
                    refine a_ldc2 S (v := 10) lK_Mod_111 d_Mod_sayDecimal_89 ?_
                    refine a_lmul S d_Mod_sayDecimal_92 ?_
                    refine a_eql (y := (lN (10 ^ (j + 1)))) (by rw [Nat.pow_succ]; exact lN_mul _ _) ?_
                    refine a_lstore S d_Mod_sayDecimal_93 (Nat.le_of_ble_eq_true rfl) (lv' := [(0, .ref b), (1, .int (nI o)), (2, .long d), (4, .int (nI s)), (5, .int (nI t)), (6, .int 0), (7, .long (lN d.toInt.natAbs)), (9, .int (nI q)), (10, .long (lN (10 ^ (j + 1)))), (12, .int (nI (j + 1)))]) rfl ?_
                    refine a_iinc S (v := nI (j + 1 + 1)) d_Mod_sayDecimal_95 rfl (ni_add rfl (by decide)) (Nat.le_of_ble_eq_true rfl) (lv' := [(0, .ref b), (1, .int (nI o)), (2, .long d), (4, .int (nI s)), (5, .int (nI t)), (6, .int 0), (7, .long (lN d.toInt.natAbs)), (9, .int (nI q)), (10, .long (lN (10 ^ (j + 1)))), (12, .int (nI (j + 1 + 1)))]) rfl ?_
                    refine a_goto S (tgt := 80) d_Mod_sayDecimal_98 rfl ?_
                    exact ih80 _ (by omega) (j + 1) rfl (by omega)
              exact loop80 _ 0 rfl (by omega)
            · have hr0 : ¬ r = 0 := fun z => h57 ((l_cmp_le0 hr).mpr z)
              refine a_iinc S (v := nI (q + 1)) d_Mod_sayDecimal_60 rfl (ni_add rfl (by decide)) (Nat.le_of_ble_eq_true rfl) (lv' := [(0, .ref b), (1, .int (nI o)), (2, .long d), (4, .int (nI s)), (5, .int (nI t)), (6, .int 0), (7, .long (lN d.toInt.natAbs)), (9, .int (nI (q + 1))), (10, .long (lN r))]) rfl ?_
              refine a_lload S d_Mod_sayDecimal_63 rfl ?_
              refine a_ldc2 S (v := 10) lK_Mod_111 d_Mod_sayDecimal_65 ?_
              refine a_ldiv S d_Mod_sayDecimal_68 (by decide) ?_
              refine a_eql (y := (lN (r / 10))) (pk_lDiv hr (by decide) (by decide)) ?_
              refine a_lstore S d_Mod_sayDecimal_69 (Nat.le_of_ble_eq_true rfl) (lv' := [(0, .ref b), (1, .int (nI o)), (2, .long d), (4, .int (nI s)), (5, .int (nI t)), (6, .int 0), (7, .long (lN d.toInt.natAbs)), (9, .int (nI (q + 1))), (10, .long (lN (r / 10)))]) rfl ?_
              refine a_goto S (tgt := 53) d_Mod_sayDecimal_71 rfl ?_
              exact ih53 _ (Nat.lt_of_lt_of_eq (Nat.div_lt_self (Nat.pos_of_ne_zero hr0) (by decide)) hk53) (r / 10) (q + 1) rfl (Nat.lt_of_le_of_lt (Nat.div_le_self _ _) hr) (by rw [plc_s hr0] at hq; omega)
        exact loop53 _ d.toInt.natAbs 0 rfl (by omega) (Nat.zero_add _)
      · exact absurd h3_ h34
    · have hs_ := d_sgnn h3_
      refine a_sipush S (v := 255) d_Mod_sayDecimal_22 (by decide) ?_
      refine a_goto S (tgt := 29) d_Mod_sayDecimal_25 rfl ?_
      refine a_istore S d_Mod_sayDecimal_29 (Nat.le_of_ble_eq_true rfl) (lv' := [(0, .ref b), (1, .int (nI o)), (2, .long d), (4, .int (nI s)), (5, .int (nI t)), (6, .int 255)]) rfl ?_
      refine a_lload_n S d_Mod_sayDecimal_31 rfl rfl ?_
      refine a_lconst S (v := 0) d_Mod_sayDecimal_32 (by decide) ?_
      refine a_lcmp S d_Mod_sayDecimal_33 ?_
      refine a_if_ge S (tgt := 43) d_Mod_sayDecimal_34 rfl (fun h34 => ?_) (fun h34 => ?_)
      · exact absurd h34 h3_
      · refine a_lconst S (v := 0) d_Mod_sayDecimal_37 (by decide) ?_
        refine a_lload_n S d_Mod_sayDecimal_38 rfl rfl ?_
        refine a_lsub S d_Mod_sayDecimal_39 ?_
        refine a_goto S (tgt := 44) d_Mod_sayDecimal_40 rfl ?_
        refine a_eql (y := lN d.toInt.natAbs) (dabs_n hok.1 hok.2.1 hs_) ?_
        refine a_lstore S d_Mod_sayDecimal_44 (Nat.le_of_ble_eq_true rfl) (lv' := [(0, .ref b), (1, .int (nI o)), (2, .long d), (4, .int (nI s)), (5, .int (nI t)), (6, .int 255), (7, .long (lN d.toInt.natAbs))]) rfl ?_
        refine a_iconst S (v := 0) d_Mod_sayDecimal_46 (by decide) ?_
        refine a_istore S d_Mod_sayDecimal_47 (Nat.le_of_ble_eq_true rfl) (lv' := [(0, .ref b), (1, .int (nI o)), (2, .long d), (4, .int (nI s)), (5, .int (nI t)), (6, .int 255), (7, .long (lN d.toInt.natAbs)), (9, .int 0)]) rfl ?_
        refine a_lload S d_Mod_sayDecimal_49 rfl ?_
        refine a_lstore S d_Mod_sayDecimal_51 (Nat.le_of_ble_eq_true rfl) (lv' := [(0, .ref b), (1, .int (nI o)), (2, .long d), (4, .int (nI s)), (5, .int (nI t)), (6, .int 255), (7, .long (lN d.toInt.natAbs)), (9, .int 0), (10, .long (lN d.toInt.natAbs))]) rfl ?_
        have loop53 : ∀ (kk53 : Nat) (r q : Nat), r = kk53 → (r < 2 ^ 63) → (q + plc r = plc d.toInt.natAbs) → AW X (D, A, 13, Q) 53 [(0, .ref b), (1, .int (nI o)), (2, .long d), (4, .int (nI s)), (5, .int (nI t)), (6, .int 255), (7, .long (lN d.toInt.natAbs)), (9, .int (nI q)), (10, .long (lN r))] [] w n 0 0 := by
          intro kk53
          induction kk53 using Nat.strongRecOn with
          | ind kk53 ih53 =>
            intro r q hk53 hr hq
            refine a_lload S d_Mod_sayDecimal_53 rfl ?_
            refine a_lconst S (v := 0) d_Mod_sayDecimal_55 (by decide) ?_
            refine a_lcmp S d_Mod_sayDecimal_56 ?_
            refine a_if_le S (tgt := 74) d_Mod_sayDecimal_57 rfl (fun h57 => ?_) (fun h57 => ?_)
            · have hr0 : r = 0 := (l_cmp_le0 hr).mp h57
              have hpP : q = plc d.toInt.natAbs := by rw [hr0, plc_0] at hq; exact hq
              have hq1 : 0 < q := by rw [hpP]; exact plc_pos (by omega)
              have hq16 : q ≤ 16 := by rw [hpP]; exact plc_le (Nat.lt_of_le_of_lt (show d.toInt.natAbs ≤ 10 ^ 15 by omega) (by decide))
              refine a_lconst S (v := 1) d_Mod_sayDecimal_74 (by decide) ?_
              refine a_lstore S d_Mod_sayDecimal_75 (Nat.le_of_ble_eq_true rfl) (lv' := [(0, .ref b), (1, .int (nI o)), (2, .long d), (4, .int (nI s)), (5, .int (nI t)), (6, .int 255), (7, .long (lN d.toInt.natAbs)), (9, .int (nI q)), (10, .long 1)]) rfl ?_
              refine a_iconst S (v := 1) d_Mod_sayDecimal_77 (by decide) ?_
              refine a_istore S d_Mod_sayDecimal_78 (Nat.le_of_ble_eq_true rfl) (lv' := [(0, .ref b), (1, .int (nI o)), (2, .long d), (4, .int (nI s)), (5, .int (nI t)), (6, .int 255), (7, .long (lN d.toInt.natAbs)), (9, .int (nI q)), (10, .long 1), (12, .int 1)]) rfl ?_
              have loop80 : ∀ (kk80 : Nat) (j : Nat), q - j = kk80 → (j + 1 ≤ q) → AW X (D, A, 13, Q) 80 [(0, .ref b), (1, .int (nI o)), (2, .long d), (4, .int (nI s)), (5, .int (nI t)), (6, .int 255), (7, .long (lN d.toInt.natAbs)), (9, .int (nI q)), (10, .long (lN (10 ^ j))), (12, .int (nI (j + 1)))] [] w n 0 0 := by
                intro kk80
                induction kk80 using Nat.strongRecOn with
                | ind kk80 ih80 =>
                  intro j hk80 hj
                  refine a_iload S d_Mod_sayDecimal_80 rfl ?_
                  refine a_iload S d_Mod_sayDecimal_82 rfl ?_
                  refine a_icmp_ge S (tgt := 101) d_Mod_sayDecimal_84 rfl (fun h84 => ?_) (fun h84 => ?_)
                  · have hj2 : q ≤ j + 1 := (nI_leI (by omega) (by omega)).mp h84
                    have hjP : j + 1 = plc d.toInt.natAbs := by omega
                    refine a_aload_n S d_Mod_sayDecimal_101 rfl rfl ?_
                    refine a_iload_n S d_Mod_sayDecimal_102 rfl rfl ?_
                    refine a_lload_n S d_Mod_sayDecimal_103 rfl rfl ?_
                    refine a_lconst S (v := 0) d_Mod_sayDecimal_104 (by decide) ?_
                    refine a_lcmp S d_Mod_sayDecimal_105 ?_
                    refine a_if_ge S (tgt := 113) d_Mod_sayDecimal_106 rfl (fun h106 => ?_) (fun h106 => ?_)
                    · exact absurd h106 h3_
                    · refine a_iconst S (v := 1) d_Mod_sayDecimal_109 (by decide) ?_
                      refine a_goto S (tgt := 114) d_Mod_sayDecimal_110 rfl ?_
                      refine a_iload S d_Mod_sayDecimal_114 rfl ?_
                      refine a_ixor S d_Mod_sayDecimal_116 ?_
                      refine a_eqi (y := nI (tnB t 1)) (xor_tn ht (by decide)) ?_
                      refine a_callV S (rest := []) lg_Mod_105 h0 (c_Mod_say X.2.1 D b th fd sl ki fl va fo go si te kp ro rs ma en ms lw hw ls hz pt bd o l0 (tnB t 1) w n ho (by have h := hl; have h2 := encD_c (d := d) (s := s) (by omega); rw [List.length_append, List.length_map] at h; first | omega | (simp only [List.length_append, List.length_singleton]; omega)) ⟨h0, h1, h2, h3, h4, h5, h6, h7, h8, h9, h10, h11, h12, h13⟩) (by decide) (by omega) (by omega) rfl (Nat.le_of_ble_eq_true rfl) d_Mod_sayDecimal_117 (fun v25 w26 n27 p28 => ?_)
                      obtain ⟨rfl, e30, f29, h0, h1, h2, h3, h4, h5, h6, h7, h8, h9, h10, h11, h12, h13⟩ := p28
                      rw [e30]
                      refine a_st (st' := []) rfl ?_
                      have fr := fr.trans (Fr.sub f29 (by omega) (by omega))
                      refine a_aload_n S d_Mod_sayDecimal_120 rfl rfl ?_
                      refine a_iload_n S d_Mod_sayDecimal_121 rfl rfl ?_
                      refine a_iload S d_Mod_sayDecimal_122 rfl ?_
                      refine a_iload S d_Mod_sayDecimal_124 rfl ?_
                      refine a_isub S d_Mod_sayDecimal_126 ?_
                      refine a_bipush S (v := 64) d_Mod_sayDecimal_127 (by decide) ?_
                      refine a_iadd S d_Mod_sayDecimal_129 ?_
                      refine a_eqi (y := nI (q + 64 - s)) (i_exp (by omega)) ?_
                      refine a_iload S d_Mod_sayDecimal_130 rfl ?_
                      refine a_ixor S d_Mod_sayDecimal_132 ?_
                      refine a_iload S d_Mod_sayDecimal_133 rfl ?_
                      refine a_ixor S d_Mod_sayDecimal_135 ?_
                      refine a_eqi (y := nI (tn2 255 t (q + 64 - s))) (xor_2 (Or.inr rfl) ht (by omega)) ?_
                      refine a_callV S (rest := []) lg_Mod_105 h0 (c_Mod_say X.2.1 D b th fd sl ki fl va fo go si te kp ro rs ma en ms lw hw ls hz pt bd o (l0 ++ [tnB t 1]) (tn2 255 t (q + 64 - s)) w26 n ho (by have h := hl; have h2 := encD_c (d := d) (s := s) (by omega); rw [List.length_append, List.length_map] at h; first | omega | (simp only [List.length_append, List.length_singleton]; omega)) ⟨h0, h1, h2, h3, h4, h5, h6, h7, h8, h9, h10, h11, h12, h13⟩) (by decide) (by omega) (by omega) rfl (Nat.le_of_ble_eq_true rfl) d_Mod_sayDecimal_136 (fun v31 w32 n33 p34 => ?_)
                      obtain ⟨rfl, e36, f35, h0, h1, h2, h3, h4, h5, h6, h7, h8, h9, h10, h11, h12, h13⟩ := p34
                      rw [e36]
                      refine a_st (st' := []) rfl ?_
                      have fr := fr.trans (Fr.sub f35 (by omega) (by omega))
                      have loop139 : ∀ (kk139 : Nat) (k u : Nat) (w1 : ww) (l1 : List Nat), k = kk139 → (k ≤ 16) → (u < 10 ^ k) → (Fr w w1 b 14) → (Mo D w1 b th fd sl ki fl va fo go si te kp ro rs (wrL ma (200 * o) l1) l1.length en ms lw hw ls hz pt bd) → (l1 ++ (dgl k u).map (tn2 255 t) = l0 ++ (encD d.toInt s).map (tnB t)) → AW X (D, A, 13, Q) 139 [(0, .ref b), (1, .int (nI o)), (2, .long d), (4, .int (nI s)), (5, .int (nI t)), (6, .int 255), (7, .long (lN u)), (9, .int (nI q)), (10, .long (lN (unK k))), (12, .int (nI (j + 1)))] [] w1 n ((0 + 0) + 0) ((0 + 0) + 0) := by
                        intro kk139
                        induction kk139 using Nat.strongRecOn with
                        | ind kk139 ih139 =>
                          intro k u w1 l1 hk139 hk hu fr h he
                          obtain ⟨h0, h1, h2, h3, h4, h5, h6, h7, h8, h9, h10, h11, h12, h13⟩ := h
                          have hu63 : u < 2 ^ 63 := Nat.lt_trans hu (p10_lt (by omega))
                          have hl2 := nn_len he hl (by rw [List.length_map]; exact dgl_pos _ _)
                          refine a_lload S d_Mod_sayDecimal_139 rfl ?_
                          refine a_lconst S (v := 0) d_Mod_sayDecimal_141 (by decide) ?_
                          refine a_lcmp S d_Mod_sayDecimal_142 ?_
                          refine a_if_le S (tgt := 183) d_Mod_sayDecimal_143 rfl (fun h143 => ?_) (fun h143 => ?_)
                          · have hu0 : u = 0 := (l_cmp_le0 hu63).mp h143
                            refine a_aload_n S d_Mod_sayDecimal_183 rfl rfl ?_
                            refine a_iload_n S d_Mod_sayDecimal_184 rfl rfl ?_
                            refine a_iload S d_Mod_sayDecimal_185 rfl ?_
                            refine a_iload S d_Mod_sayDecimal_187 rfl ?_
                            refine a_ixor S d_Mod_sayDecimal_189 ?_
                            refine a_eqi (y := nI (tn2 255 t 0)) (tn2_0 (Or.inr rfl) ht) ?_
                            refine a_callV S (rest := []) lg_Mod_105 h0 (c_Mod_say X.2.1 D b th fd sl ki fl va fo go si te kp ro rs ma en ms lw hw ls hz pt bd o l1 (tn2 255 t 0) w1 n ho (by first | omega | (simp only [List.length_append, List.length_singleton]; omega)) ⟨h0, h1, h2, h3, h4, h5, h6, h7, h8, h9, h10, h11, h12, h13⟩) (by decide) (by omega) (by omega) rfl (Nat.le_of_ble_eq_true rfl) d_Mod_sayDecimal_190 (fun v37 w38 n39 p40 => ?_)
                            obtain ⟨rfl, e42, f41, h0, h1, h2, h3, h4, h5, h6, h7, h8, h9, h10, h11, h12, h13⟩ := p40
                            rw [e42]
                            refine a_st (st' := []) rfl ?_
                            have fr := fr.trans (Fr.sub f41 (by omega) (by omega))
                            exact RT _ _ _ _ _ _ d_Mod_sayDecimal_193 (by omega) (by omega) (by rw [sd_e hu0 he] at h0 h9; exact ⟨rfl, rfl, fr, h0, h1, h2, h3, h4, h5, h6, h7, h8, h9, h10, h11, h12, h13⟩)
                          · have hu0 : ¬ u = 0 := fun z => h143 ((l_cmp_le0 hu63).mpr z)
                            obtain ⟨i, rfl⟩ : ∃ i, k = i + 1 := ⟨k - 1, by have : k ≠ 0 := (fun z => hu0 (by subst z; simp at hu; omega)); omega⟩
                            refine a_lve (lv' := [(0, .ref b), (1, .int (nI o)), (2, .long d), (4, .int (nI s)), (5, .int (nI t)), (6, .int 255), (7, .long (lN u)), (9, .int (nI q)), (10, .long (lN (10 ^ i))), (12, .int (nI (j + 1)))]) rfl ?_
                            refine a_aload_n S d_Mod_sayDecimal_146 rfl rfl ?_
                            refine a_iload_n S d_Mod_sayDecimal_147 rfl rfl ?_
                            refine a_lload S d_Mod_sayDecimal_148 rfl ?_
                            refine a_lload S d_Mod_sayDecimal_150 rfl ?_
                            refine a_ldiv S d_Mod_sayDecimal_152 (lN_ne (p10_pos i) (p10_lt (by omega))) ?_
                            refine a_eql (y := (lN (u / 10 ^ i))) (pk_lDiv hu63 (p10_pos i) (p10_lt (by omega))) ?_
                            refine a_l2i S d_Mod_sayDecimal_153 ?_
                            refine a_eqi (y := nI (u / 10 ^ i)) (lN_i _) ?_
                            refine a_iconst S (v := 1) d_Mod_sayDecimal_154 (by decide) ?_
                            refine a_iadd S d_Mod_sayDecimal_155 ?_
                            refine a_eqi (y := nI (u / 10 ^ i + 1)) (ni_add rfl rfl) ?_
                            refine a_iload S d_Mod_sayDecimal_156 rfl ?_
                            refine a_ixor S d_Mod_sayDecimal_158 ?_
                            refine a_iload S d_Mod_sayDecimal_159 rfl ?_
                            refine a_ixor S d_Mod_sayDecimal_161 ?_
                            refine a_eqi (y := nI (tn2 255 t (u / 10 ^ i + 1))) (xor_2 (Or.inr rfl) ht (by have := dg_lt hu; omega)) ?_
                            refine a_callV S (rest := []) lg_Mod_105 h0 (c_Mod_say X.2.1 D b th fd sl ki fl va fo go si te kp ro rs ma en ms lw hw ls hz pt bd o l1 (tn2 255 t (u / 10 ^ i + 1)) w1 n ho (by first | omega | (simp only [List.length_append, List.length_singleton]; omega)) ⟨h0, h1, h2, h3, h4, h5, h6, h7, h8, h9, h10, h11, h12, h13⟩) (by decide) (by omega) (by omega) rfl (Nat.le_of_ble_eq_true rfl) d_Mod_sayDecimal_162 (fun v43 w44 n45 p46 => ?_)
                            obtain ⟨rfl, e48, f47, h0, h1, h2, h3, h4, h5, h6, h7, h8, h9, h10, h11, h12, h13⟩ := p46
                            rw [e48]
                            refine a_st (st' := []) rfl ?_
                            have fr := fr.trans (Fr.sub f47 (by omega) (by omega))
                            refine a_lload S d_Mod_sayDecimal_165 rfl ?_
                            refine a_lload S d_Mod_sayDecimal_167 rfl ?_
                            refine a_lrem S d_Mod_sayDecimal_169 (lN_ne (p10_pos i) (p10_lt (by omega))) ?_
                            refine a_eql (y := (lN (u % 10 ^ i))) (pk_lRem hu63 (p10_pos i) (p10_lt (by omega))) ?_
                            refine a_lstore S d_Mod_sayDecimal_170 (Nat.le_of_ble_eq_true rfl) (lv' := [(0, .ref b), (1, .int (nI o)), (2, .long d), (4, .int (nI s)), (5, .int (nI t)), (6, .int 255), (7, .long (lN (u % 10 ^ i))), (9, .int (nI q)), (10, .long (lN (10 ^ i))), (12, .int (nI (j + 1)))]) rfl ?_
                            refine a_lload S d_Mod_sayDecimal_172 rfl ?_
                            refine a_ldc2 S (v := 10) lK_Mod_111 d_Mod_sayDecimal_174 ?_
                            refine a_ldiv S d_Mod_sayDecimal_177 (by decide) ?_
                            refine a_eql (y := (lN (unK i))) (by rw [← unK_d]; exact pk_lDiv (p10_lt (by omega)) (by decide) (by decide)) ?_
                            refine a_lstore S d_Mod_sayDecimal_178 (Nat.le_of_ble_eq_true rfl) (lv' := [(0, .ref b), (1, .int (nI o)), (2, .long d), (4, .int (nI s)), (5, .int (nI t)), (6, .int 255), (7, .long (lN (u % 10 ^ i))), (9, .int (nI q)), (10, .long (lN (unK i))), (12, .int (nI (j + 1)))]) rfl ?_
                            refine a_goto S (tgt := 139) d_Mod_sayDecimal_180 rfl ?_
                            exact ih139 _ (by omega) i (u % 10 ^ i) w44 (l1 ++ [tn2 255 t (u / 10 ^ i + 1)]) rfl (by omega) (Nat.mod_lt _ (p10_pos i)) fr ⟨h0, h1, h2, h3, h4, h5, h6, h7, h8, h9, h10, h11, h12, h13⟩ (sd_g hu0 he)
                      exact loop139 _ (j + 1) d.toInt.natAbs w32 ((l0 ++ [tnB t 1]) ++ [tn2 255 t (q + 64 - s)]) rfl (by omega) (by rw [hjP]; exact plc_lt _) fr ⟨h0, h1, h2, h3, h4, h5, h6, h7, h8, h9, h10, h11, h12, h13⟩ (sd_1 hpP hjP (ed_n hs_))
                  · have hj2 : j + 1 < q := Nat.not_le.mp fun z => h84 ((nI_leI (by omega) (by omega)).mpr z)
                    refine a_lload S d_Mod_sayDecimal_87 rfl ?_
                    refine a_ldc2 S (v := 10) lK_Mod_111 d_Mod_sayDecimal_89 ?_
                    refine a_lmul S d_Mod_sayDecimal_92 ?_
                    refine a_eql (y := (lN (10 ^ (j + 1)))) (by rw [Nat.pow_succ]; exact lN_mul _ _) ?_
                    refine a_lstore S d_Mod_sayDecimal_93 (Nat.le_of_ble_eq_true rfl) (lv' := [(0, .ref b), (1, .int (nI o)), (2, .long d), (4, .int (nI s)), (5, .int (nI t)), (6, .int 255), (7, .long (lN d.toInt.natAbs)), (9, .int (nI q)), (10, .long (lN (10 ^ (j + 1)))), (12, .int (nI (j + 1)))]) rfl ?_
                    refine a_iinc S (v := nI (j + 1 + 1)) d_Mod_sayDecimal_95 rfl (ni_add rfl (by decide)) (Nat.le_of_ble_eq_true rfl) (lv' := [(0, .ref b), (1, .int (nI o)), (2, .long d), (4, .int (nI s)), (5, .int (nI t)), (6, .int 255), (7, .long (lN d.toInt.natAbs)), (9, .int (nI q)), (10, .long (lN (10 ^ (j + 1)))), (12, .int (nI (j + 1 + 1)))]) rfl ?_
                    refine a_goto S (tgt := 80) d_Mod_sayDecimal_98 rfl ?_
                    exact ih80 _ (by omega) (j + 1) rfl (by omega)
              exact loop80 _ 0 rfl (by omega)
            · have hr0 : ¬ r = 0 := fun z => h57 ((l_cmp_le0 hr).mpr z)
              refine a_iinc S (v := nI (q + 1)) d_Mod_sayDecimal_60 rfl (ni_add rfl (by decide)) (Nat.le_of_ble_eq_true rfl) (lv' := [(0, .ref b), (1, .int (nI o)), (2, .long d), (4, .int (nI s)), (5, .int (nI t)), (6, .int 255), (7, .long (lN d.toInt.natAbs)), (9, .int (nI (q + 1))), (10, .long (lN r))]) rfl ?_
              refine a_lload S d_Mod_sayDecimal_63 rfl ?_
              refine a_ldc2 S (v := 10) lK_Mod_111 d_Mod_sayDecimal_65 ?_
              refine a_ldiv S d_Mod_sayDecimal_68 (by decide) ?_
              refine a_eql (y := (lN (r / 10))) (pk_lDiv hr (by decide) (by decide)) ?_
              refine a_lstore S d_Mod_sayDecimal_69 (Nat.le_of_ble_eq_true rfl) (lv' := [(0, .ref b), (1, .int (nI o)), (2, .long d), (4, .int (nI s)), (5, .int (nI t)), (6, .int 255), (7, .long (lN d.toInt.natAbs)), (9, .int (nI (q + 1))), (10, .long (lN (r / 10)))]) rfl ?_
              refine a_goto S (tgt := 53) d_Mod_sayDecimal_71 rfl ?_
              exact ih53 _ (Nat.lt_of_lt_of_eq (Nat.div_lt_self (Nat.pos_of_ne_zero hr0) (by decide)) hk53) (r / 10) (q + 1) rfl (Nat.lt_of_le_of_lt (Nat.div_le_self _ _) hr) (by rw [plc_s hr0] at hq; omega)
        exact loop53 _ d.toInt.natAbs 0 rfl (by omega) (Nat.zero_add _)
  · have hd0 := d_sgn0 hz_
    refine a_aload_n S d_Mod_sayDecimal_6 rfl rfl ?_
    refine a_iload_n S d_Mod_sayDecimal_7 rfl rfl ?_
    refine a_iconst S (v := 2) d_Mod_sayDecimal_8 (by decide) ?_
    refine a_iload S d_Mod_sayDecimal_9 rfl ?_
    refine a_ixor S d_Mod_sayDecimal_11 ?_
    refine a_eqi (y := nI (tnB t 2)) (xor_tn ht (by decide)) ?_
    refine a_callV S (rest := []) lg_Mod_105 h0 (c_Mod_say X.2.1 D b th fd sl ki fl va fo go si te kp ro rs ma en ms lw hw ls hz pt bd o l0 (tnB t 2) w n ho (by have h := hl; rw [← ed_0 hd0, List.length_append, List.length_singleton] at h; omega) ⟨h0, h1, h2, h3, h4, h5, h6, h7, h8, h9, h10, h11, h12, h13⟩) (by decide) (by omega) (by omega) rfl (Nat.le_of_ble_eq_true rfl) d_Mod_sayDecimal_12 (fun v49 w50 n51 p52 => ?_)
    obtain ⟨rfl, e54, f53, h0, h1, h2, h3, h4, h5, h6, h7, h8, h9, h10, h11, h12, h13⟩ := p52
    rw [e54]
    refine a_st (st' := []) rfl ?_
    have fr := fr.trans (Fr.sub f53 (by omega) (by omega))
    exact RT _ _ _ _ _ _ d_Mod_sayDecimal_15 (by omega) (by omega) (by rw [ed_0 (s := s) hd0] at h0 h9; exact ⟨rfl, rfl, fr, h0, h1, h2, h3, h4, h5, h6, h7, h8, h9, h10, h11, h12, h13⟩)
