set_option maxHeartbeats 400000 in
set_option maxRecDepth 100000 in
theorem c_Mod_isDown (l : Launch) (D : kD) (b : Nat) (th : Int32) (fd : Nat) (sl : Bool) (ki fl : Nat → Int32) (va : Nat → Int64) (fo go si te : Nat → Int32) (kp : Nat) (ro : Nat → Int32) (rs : Nat) (ma : Nat → Int32) (sz : Nat) (en ms lw hw : Nat → Int32) (ls : Nat) (hz : Int32) (pt : Nat) (bd : Bool) (i : Nat) (w : ww) (n : Nat) (hi : i < 5) (h : Mo D w b th fd sl ki fl va fo go si te kp ro rs ma sz en ms lw hw ls hz pt bd) : AM l D M_Mod_isDown 0 0 0 [.ref b, .int (nI i)] w n (fun v w' n' => v = some (.int (if fl i &&& 1 = 0 then 0 else 1)) ∧ w' = w ∧ n' = n) := by
  refine AM.ofz (by decide +kernel) rfl (Nat.le_of_ble_eq_true rfl) (fun X A Q hin S RT => ?_)
  have S : FX X (D, A, 2, Q) prog_9_method_3_code "KeyCodecModel" 0 0 0 := S
  have RT : RTz X (D, A, 2, Q) prog_9_method_3_code 0 0 _ := RT
  obtain ⟨h0, h1, h2, h3, h4, h5, h6, h7, h8, h9, h10, h11, h12, h13⟩ := h
  refine a_lve (lv' := [(0, .ref b), (1, .int (nI i))]) rfl ?_
  have fr : Fr w w b 14 := Fr.refl _ _ _
  refine a_aload_n S d_Mod_isDown_0 rfl rfl ?_
  refine a_get S kc_Mod 4 (by decide) lf_Mod_13 h0 rfl d_Mod_isDown_1 ?_
  refine a_iload_n S d_Mod_isDown_4 rfl rfl ?_
  refine a_iald S (i := i) h2 rfl (by omega) (by decide) d_Mod_isDown_5 ?_
  refine a_iconst S (v := 1) d_Mod_isDown_6 (by decide) ?_
  refine a_iand S d_Mod_isDown_7 ?_
  refine a_if_eq S (tgt := 15) d_Mod_isDown_8 rfl (fun h8 => ?_) (fun h8 => ?_)
  · refine a_iconst S (v := 0) d_Mod_isDown_15 (by decide) ?_
    exact RT _ _ _ _ _ _ _ d_Mod_isDown_16 rfl (by omega) (by omega) ⟨by rw [if_pos h8], rfl, rfl⟩
  · refine a_iconst S (v := 1) d_Mod_isDown_11 (by decide) ?_
    refine a_goto S (tgt := 16) d_Mod_isDown_12 rfl ?_
    exact RT _ _ _ _ _ _ _ d_Mod_isDown_16 rfl (by omega) (by omega) ⟨by rw [if_neg h8], rfl, rfl⟩
set_option maxHeartbeats 400000 in
set_option maxRecDepth 100000 in
theorem c_Mod_isOptional (l : Launch) (D : kD) (b : Nat) (th : Int32) (fd : Nat) (sl : Bool) (ki fl : Nat → Int32) (va : Nat → Int64) (fo go si te : Nat → Int32) (kp : Nat) (ro : Nat → Int32) (rs : Nat) (ma : Nat → Int32) (sz : Nat) (en ms lw hw : Nat → Int32) (ls : Nat) (hz : Int32) (pt : Nat) (bd : Bool) (i : Nat) (w : ww) (n : Nat) (hi : i < 5) (h : Mo D w b th fd sl ki fl va fo go si te kp ro rs ma sz en ms lw hw ls hz pt bd) : AM l D M_Mod_isOptional 0 0 0 [.ref b, .int (nI i)] w n (fun v w' n' => v = some (.int (if fl i &&& 2 = 0 then 0 else 1)) ∧ w' = w ∧ n' = n) := by
  refine AM.ofz (by decide +kernel) rfl (Nat.le_of_ble_eq_true rfl) (fun X A Q hin S RT => ?_)
  have S : FX X (D, A, 2, Q) prog_9_method_4_code "KeyCodecModel" 0 0 0 := S
  have RT : RTz X (D, A, 2, Q) prog_9_method_4_code 0 0 _ := RT
  obtain ⟨h0, h1, h2, h3, h4, h5, h6, h7, h8, h9, h10, h11, h12, h13⟩ := h
  refine a_lve (lv' := [(0, .ref b), (1, .int (nI i))]) rfl ?_
  have fr : Fr w w b 14 := Fr.refl _ _ _
  refine a_aload_n S d_Mod_isOptional_0 rfl rfl ?_
  refine a_get S kc_Mod 4 (by decide) lf_Mod_13 h0 rfl d_Mod_isOptional_1 ?_
  refine a_iload_n S d_Mod_isOptional_4 rfl rfl ?_
  refine a_iald S (i := i) h2 rfl (by omega) (by decide) d_Mod_isOptional_5 ?_
  refine a_iconst S (v := 2) d_Mod_isOptional_6 (by decide) ?_
  refine a_iand S d_Mod_isOptional_7 ?_
  refine a_if_eq S (tgt := 15) d_Mod_isOptional_8 rfl (fun h8 => ?_) (fun h8 => ?_)
  · refine a_iconst S (v := 0) d_Mod_isOptional_15 (by decide) ?_
    exact RT _ _ _ _ _ _ _ d_Mod_isOptional_16 rfl (by omega) (by omega) ⟨by rw [if_pos h8], rfl, rfl⟩
  · refine a_iconst S (v := 1) d_Mod_isOptional_11 (by decide) ?_
    refine a_goto S (tgt := 16) d_Mod_isOptional_12 rfl ?_
    exact RT _ _ _ _ _ _ _ d_Mod_isOptional_16 rfl (by omega) (by omega) ⟨by rw [if_neg h8], rfl, rfl⟩
set_option maxHeartbeats 400000 in
set_option maxRecDepth 100000 in
theorem c_Mod_isLast (l : Launch) (D : kD) (b : Nat) (th : Int32) (fd : Nat) (sl : Bool) (ki fl : Nat → Int32) (va : Nat → Int64) (fo go si te : Nat → Int32) (kp : Nat) (ro : Nat → Int32) (rs : Nat) (ma : Nat → Int32) (sz : Nat) (en ms lw hw : Nat → Int32) (ls : Nat) (hz : Int32) (pt : Nat) (bd : Bool) (i : Nat) (w : ww) (n : Nat) (hi : i < 5) (h : Mo D w b th fd sl ki fl va fo go si te kp ro rs ma sz en ms lw hw ls hz pt bd) : AM l D M_Mod_isLast 0 0 0 [.ref b, .int (nI i)] w n (fun v w' n' => v = some (.int (if fl i &&& 4 = 0 then 0 else 1)) ∧ w' = w ∧ n' = n) := by
  refine AM.ofz (by decide +kernel) rfl (Nat.le_of_ble_eq_true rfl) (fun X A Q hin S RT => ?_)
  have S : FX X (D, A, 2, Q) prog_9_method_5_code "KeyCodecModel" 0 0 0 := S
  have RT : RTz X (D, A, 2, Q) prog_9_method_5_code 0 0 _ := RT
  obtain ⟨h0, h1, h2, h3, h4, h5, h6, h7, h8, h9, h10, h11, h12, h13⟩ := h
  refine a_lve (lv' := [(0, .ref b), (1, .int (nI i))]) rfl ?_
  have fr : Fr w w b 14 := Fr.refl _ _ _
  refine a_aload_n S d_Mod_isLast_0 rfl rfl ?_
  refine a_get S kc_Mod 4 (by decide) lf_Mod_13 h0 rfl d_Mod_isLast_1 ?_
  refine a_iload_n S d_Mod_isLast_4 rfl rfl ?_
  refine a_iald S (i := i) h2 rfl (by omega) (by decide) d_Mod_isLast_5 ?_
  refine a_iconst S (v := 4) d_Mod_isLast_6 (by decide) ?_
  refine a_iand S d_Mod_isLast_7 ?_
  refine a_if_eq S (tgt := 15) d_Mod_isLast_8 rfl (fun h8 => ?_) (fun h8 => ?_)
  · refine a_iconst S (v := 0) d_Mod_isLast_15 (by decide) ?_
    exact RT _ _ _ _ _ _ _ d_Mod_isLast_16 rfl (by omega) (by omega) ⟨by rw [if_pos h8], rfl, rfl⟩
  · refine a_iconst S (v := 1) d_Mod_isLast_11 (by decide) ?_
    refine a_goto S (tgt := 16) d_Mod_isLast_12 rfl ?_
    exact RT _ _ _ _ _ _ _ d_Mod_isLast_16 rfl (by omega) (by omega) ⟨by rw [if_neg h8], rfl, rfl⟩
set_option maxHeartbeats 400000 in
set_option maxRecDepth 100000 in
theorem c_Mod_isField (l : Launch) (D : kD) (b : Nat) (th : Int32) (fd : Nat) (sl : Bool) (ki fl : Nat → Int32) (va : Nat → Int64) (fo go si te : Nat → Int32) (kp : Nat) (ro : Nat → Int32) (rs : Nat) (ma : Nat → Int32) (sz : Nat) (en ms lw hw : Nat → Int32) (ls : Nat) (hz : Int32) (pt : Nat) (bd : Bool) (i : Int32) (w : ww) (n : Nat)  (h : Mo D w b th fd sl ki fl va fo go si te kp ro rs ma sz en ms lw hw ls hz pt bd) : AM l D M_Mod_isField 0 0 0 [.ref b, .int i] w n (fun v w' n' => v = some (.int (if usB sl fd i then 1 else 0)) ∧ w' = w ∧ n' = n) := by
  refine AM.ofz (by decide +kernel) rfl (Nat.le_of_ble_eq_true rfl) (fun X A Q hin S RT => ?_)
  have S : FX X (D, A, 2, Q) prog_9_method_10_code "KeyCodecModel" 0 0 0 := S
  have RT : RTz X (D, A, 2, Q) prog_9_method_10_code 0 0 _ := RT
  obtain ⟨h0, h1, h2, h3, h4, h5, h6, h7, h8, h9, h10, h11, h12, h13⟩ := h
  refine a_lve (lv' := [(0, .ref b), (1, .int i)]) rfl ?_
  have fr : Fr w w b 14 := Fr.refl _ _ _
  refine a_aload_n S d_Mod_isField_0 rfl rfl ?_
  refine a_get S kc_Mod 2 (by decide) lf_Mod_58 h0 rfl d_Mod_isField_1 ?_
  refine a_if_eq S (tgt := 23) d_Mod_isField_4 rfl (fun h4 => ?_) (fun h4 => ?_)
  · have hs0 : ¬ usB sl fd i = true := fun z => usB_s h4 z
    refine a_iconst S (v := 0) d_Mod_isField_23 (by decide) ?_
    exact RT _ _ _ _ _ _ _ d_Mod_isField_24 rfl (by omega) (by omega) ⟨by rw [usB_0 (fun z => hs0 z)], rfl, rfl⟩
  · have hs := bo_1 h4
    refine a_iload_n S d_Mod_isField_7 rfl rfl ?_
    refine a_if_lt S (tgt := 23) d_Mod_isField_8 rfl (fun h8 => ?_) (fun h8 => ?_)
    · have hs0 : ¬ usB sl fd i = true := fun z => usB_n h8 z
      refine a_iconst S (v := 0) d_Mod_isField_23 (by decide) ?_
      exact RT _ _ _ _ _ _ _ d_Mod_isField_24 rfl (by omega) (by omega) ⟨by rw [usB_0 (fun z => hs0 z)], rfl, rfl⟩
    · refine a_iload_n S d_Mod_isField_11 rfl rfl ?_
      refine a_aload_n S d_Mod_isField_12 rfl rfl ?_
      refine a_get S kc_Mod 1 (by decide) lf_Mod_62 h0 rfl d_Mod_isField_13 ?_
      refine a_icmp_ge S (tgt := 23) d_Mod_isField_16 rfl (fun h16 => ?_) (fun h16 => ?_)
      · have hs0 : ¬ usB sl fd i = true := fun z => usB_b h16 z
        refine a_iconst S (v := 0) d_Mod_isField_23 (by decide) ?_
        exact RT _ _ _ _ _ _ _ d_Mod_isField_24 rfl (by omega) (by omega) ⟨by rw [usB_0 (fun z => hs0 z)], rfl, rfl⟩
      · refine a_iconst S (v := 1) d_Mod_isField_19 (by decide) ?_
        refine a_goto S (tgt := 24) d_Mod_isField_20 rfl ?_
        exact RT _ _ _ _ _ _ _ d_Mod_isField_24 rfl (by omega) (by omega) ⟨by rw [usB_1 hs h8 h16], rfl, rfl⟩
set_option maxHeartbeats 400000 in
set_option maxRecDepth 100000 in
theorem c_Mod_isKept (l : Launch) (D : kD) (b : Nat) (th : Int32) (fd : Nat) (sl : Bool) (ki fl : Nat → Int32) (va : Nat → Int64) (fo go si te : Nat → Int32) (kp : Nat) (ro : Nat → Int32) (rs : Nat) (ma : Nat → Int32) (sz : Nat) (en ms lw hw : Nat → Int32) (ls : Nat) (hz : Int32) (pt : Nat) (bd : Bool) (i : Int32) (w : ww) (n : Nat)  (h : Mo D w b th fd sl ki fl va fo go si te kp ro rs ma sz en ms lw hw ls hz pt bd) : AM l D M_Mod_isKept 0 0 0 [.ref b, .int i] w n (fun v w' n' => v = some (.int (if usB true kp i then 1 else 0)) ∧ w' = w ∧ n' = n) := by
  refine AM.ofz (by decide +kernel) rfl (Nat.le_of_ble_eq_true rfl) (fun X A Q hin S RT => ?_)
  have S : FX X (D, A, 2, Q) prog_9_method_39_code "KeyCodecModel" 0 0 0 := S
  have RT : RTz X (D, A, 2, Q) prog_9_method_39_code 0 0 _ := RT
  obtain ⟨h0, h1, h2, h3, h4, h5, h6, h7, h8, h9, h10, h11, h12, h13⟩ := h
  refine a_lve (lv' := [(0, .ref b), (1, .int i)]) rfl ?_
  have fr : Fr w w b 14 := Fr.refl _ _ _
  refine a_iload_n S d_Mod_isKept_0 rfl rfl ?_
  refine a_if_lt S (tgt := 16) d_Mod_isKept_1 rfl (fun hn => ?_) (fun hn => ?_)
  · have hx : ¬ usB true kp i = true := fun z => usB_n hn z
    refine a_iconst S (v := 0) d_Mod_isKept_16 (by decide) ?_
    exact RT _ _ _ _ _ _ _ d_Mod_isKept_17 rfl (by omega) (by omega) ⟨by rw [usB_0 hx], rfl, rfl⟩
  · refine a_iload_n S d_Mod_isKept_4 rfl rfl ?_
    refine a_aload_n S d_Mod_isKept_5 rfl rfl ?_
    refine a_get S kc_Mod 10 (by decide) lf_Mod_69 h0 rfl d_Mod_isKept_6 ?_
    refine a_icmp_ge S (tgt := 16) d_Mod_isKept_9 rfl (fun h9 => ?_) (fun h9 => ?_)
    · have hx : ¬ usB true kp i = true := fun z => usB_b h9 z
      refine a_iconst S (v := 0) d_Mod_isKept_16 (by decide) ?_
      exact RT _ _ _ _ _ _ _ d_Mod_isKept_17 rfl (by omega) (by omega) ⟨by rw [usB_0 hx], rfl, rfl⟩
    · refine a_iconst S (v := 1) d_Mod_isKept_12 (by decide) ?_
      refine a_goto S (tgt := 17) d_Mod_isKept_13 rfl ?_
      exact RT _ _ _ _ _ _ _ d_Mod_isKept_17 rfl (by omega) (by omega) ⟨by rw [usB_1 rfl hn h9], rfl, rfl⟩
set_option maxHeartbeats 400000 in
set_option maxRecDepth 100000 in
theorem c_Mod_isValue (l : Launch) (D : kD) (kd : Nat) (z : Int64) (j : Int32) (w : ww) (n : Nat) (hk4 : kd < 4) : AM l D M_Mod_isValue 0 0 0 [.int (nI kd), .long z, .int j] w n (fun v w' n' => ∃ b : Bool, v = some (.int (if b then 1 else 0)) ∧ (b = true ↔ okN kd z j) ∧ w' = w ∧ n' = n) := by
  refine AM.ofz (by decide +kernel) rfl (Nat.le_of_ble_eq_true rfl) (fun X A Q hin S RT => ?_)
  have S : FX X (D, A, 4, Q) prog_9_method_11_code "KeyCodecModel" 0 0 0 := S
  have RT : RTz X (D, A, 4, Q) prog_9_method_11_code 0 0 _ := RT
  refine a_lve (lv' := [(0, .int (nI kd)), (1, .long z), (3, .int j)]) rfl ?_
  refine a_iload_n S d_Mod_isValue_0 rfl rfl ?_
  refine a_if_ne S (tgt := 14) d_Mod_isValue_1 rfl (fun h1 => ?_) (fun h1 => ?_)
  · have hk0 : ¬ kd = 0 := fun z => h1 (by rw [z]; rfl)
    refine a_iload_n S d_Mod_isValue_14 rfl rfl ?_
    refine a_iconst S (v := 1) d_Mod_isValue_15 (by decide) ?_
    refine a_icmp_ne S (tgt := 51) d_Mod_isValue_16 rfl (fun h16 => ?_) (fun h16 => ?_)
    · have hk1 : ¬ kd = 1 := fun z => h16 (by rw [z]; rfl)
      refine a_iload_n S d_Mod_isValue_51 rfl rfl ?_
      refine a_iconst S (v := 2) d_Mod_isValue_52 (by decide) ?_
      refine a_icmp_ne S (tgt := 72) d_Mod_isValue_53 rfl (fun h53 => ?_) (fun h53 => ?_)
      · have hk2 : ¬ kd = 2 := fun z => h53 (by rw [z]; rfl)
        have hk : kd = 3 := by omega
        refine a_lload_n S d_Mod_isValue_72 rfl rfl ?_
        refine a_ldc2 S (v := (-1099511627776)) lK_Mod_79 d_Mod_isValue_73 ?_
        refine a_lcmp S d_Mod_isValue_76 ?_
        refine a_if_lt S (tgt := 106) d_Mod_isValue_77 rfl (fun h77 => ?_) (fun h77 => ?_)
        · have hx : ¬ okN kd z j := fun q => by rw [hk] at q; exact alowN h77 q.1
          refine a_iconst S (v := 0) d_Mod_isValue_106 (by decide) ?_
          exact RT _ _ _ _ _ _ _ d_Mod_isValue_107 rfl (by omega) (by omega) ⟨false, rfl, ⟨fun q => absurd q (by decide), fun q => absurd q hx⟩, rfl, rfl⟩
        · refine a_lload_n S d_Mod_isValue_80 rfl rfl ?_
          refine a_ldc2 S (v := 1099511627776) lK_Mod_81 d_Mod_isValue_81 ?_
          refine a_lcmp S d_Mod_isValue_84 ?_
          refine a_if_gt S (tgt := 106) d_Mod_isValue_85 rfl (fun h85 => ?_) (fun h85 => ?_)
          · have hx : ¬ okN kd z j := fun q => by rw [hk] at q; exact ahiN h85 q.2.1
            refine a_iconst S (v := 0) d_Mod_isValue_106 (by decide) ?_
            exact RT _ _ _ _ _ _ _ d_Mod_isValue_107 rfl (by omega) (by omega) ⟨false, rfl, ⟨fun q => absurd q (by decide), fun q => absurd q hx⟩, rfl, rfl⟩
          · refine a_iload_n S d_Mod_isValue_88 rfl rfl ?_
            refine a_sipush S (v := (-900)) d_Mod_isValue_89 (by decide) ?_
            refine a_icmp_lt S (tgt := 106) d_Mod_isValue_92 rfl (fun h92 => ?_) (fun h92 => ?_)
            · have hx : ¬ okN kd z j := fun q => by rw [hk] at q; exact i32low h92 q.2.2.1
              refine a_iconst S (v := 0) d_Mod_isValue_106 (by decide) ?_
              exact RT _ _ _ _ _ _ _ d_Mod_isValue_107 rfl (by omega) (by omega) ⟨false, rfl, ⟨fun q => absurd q (by decide), fun q => absurd q hx⟩, rfl, rfl⟩
            · refine a_iload_n S d_Mod_isValue_95 rfl rfl ?_
              refine a_sipush S (v := 900) d_Mod_isValue_96 (by decide) ?_
              refine a_icmp_gt S (tgt := 106) d_Mod_isValue_99 rfl (fun h99 => ?_) (fun h99 => ?_)
              · have hx : ¬ okN kd z j := fun q => by rw [hk] at q; exact i32big h99 q.2.2.2
                refine a_iconst S (v := 0) d_Mod_isValue_106 (by decide) ?_
                exact RT _ _ _ _ _ _ _ d_Mod_isValue_107 rfl (by omega) (by omega) ⟨false, rfl, ⟨fun q => absurd q (by decide), fun q => absurd q hx⟩, rfl, rfl⟩
              · refine a_iconst S (v := 1) d_Mod_isValue_102 (by decide) ?_
                refine a_goto S (tgt := 107) d_Mod_isValue_103 rfl ?_
                exact RT _ _ _ _ _ _ _ d_Mod_isValue_107 rfl (by omega) (by omega) ⟨true, rfl, ⟨fun _ => by rw [hk]; exact ⟨alow h77, ahi h85, i32lo h92, i32sm h99⟩, fun _ => rfl⟩, rfl, rfl⟩
      · have hk : kd = 2 := (nI_eq (by omega) (by decide)).mp h53
        refine a_lload_n S d_Mod_isValue_56 rfl rfl ?_
        refine a_lconst S (v := 0) d_Mod_isValue_57 (by decide) ?_
        refine a_lcmp S d_Mod_isValue_58 ?_
        refine a_if_ne S (tgt := 70) d_Mod_isValue_59 rfl (fun h59 => ?_) (fun h59 => ?_)
        · have hx : ¬ okN kd z j := fun q => by rw [hk] at q; exact h59 (aeqN q.1)
          refine a_iconst S (v := 0) d_Mod_isValue_70 (by decide) ?_
          exact RT _ _ _ _ _ _ _ d_Mod_isValue_71 rfl (by omega) (by omega) ⟨false, rfl, ⟨fun q => absurd q (by decide), fun q => absurd q hx⟩, rfl, rfl⟩
        · refine a_iload_n S d_Mod_isValue_62 rfl rfl ?_
          refine a_if_ne S (tgt := 70) d_Mod_isValue_63 rfl (fun h63 => ?_) (fun h63 => ?_)
          · have hx : ¬ okN kd z j := fun q => by rw [hk] at q; exact h63 q.2
            refine a_iconst S (v := 0) d_Mod_isValue_70 (by decide) ?_
            exact RT _ _ _ _ _ _ _ d_Mod_isValue_71 rfl (by omega) (by omega) ⟨false, rfl, ⟨fun q => absurd q (by decide), fun q => absurd q hx⟩, rfl, rfl⟩
          · refine a_iconst S (v := 1) d_Mod_isValue_66 (by decide) ?_
            refine a_goto S (tgt := 71) d_Mod_isValue_67 rfl ?_
            exact RT _ _ _ _ _ _ _ d_Mod_isValue_71 rfl (by omega) (by omega) ⟨true, rfl, ⟨fun _ => by rw [hk]; exact ⟨aeq h59, h63⟩, fun _ => rfl⟩, rfl, rfl⟩
    · have hk : kd = 1 := (nI_eq (by omega) (by decide)).mp h16
      refine a_lload_n S d_Mod_isValue_19 rfl rfl ?_
      refine a_ldc2 S (v := (-1000000000000000)) lK_Mod_75 d_Mod_isValue_20 ?_
      refine a_lcmp S d_Mod_isValue_23 ?_
      refine a_if_lt S (tgt := 49) d_Mod_isValue_24 rfl (fun h24 => ?_) (fun h24 => ?_)
      · have hx : ¬ okN kd z j := fun q => by rw [hk] at q; exact alowN h24 q.1
        refine a_iconst S (v := 0) d_Mod_isValue_49 (by decide) ?_
        exact RT _ _ _ _ _ _ _ d_Mod_isValue_50 rfl (by omega) (by omega) ⟨false, rfl, ⟨fun q => absurd q (by decide), fun q => absurd q hx⟩, rfl, rfl⟩
      · refine a_lload_n S d_Mod_isValue_27 rfl rfl ?_
        refine a_ldc2 S (v := 1000000000000000) lK_Mod_77 d_Mod_isValue_28 ?_
        refine a_lcmp S d_Mod_isValue_31 ?_
        refine a_if_gt S (tgt := 49) d_Mod_isValue_32 rfl (fun h32 => ?_) (fun h32 => ?_)
        · have hx : ¬ okN kd z j := fun q => by rw [hk] at q; exact ahiN h32 q.2.1
          refine a_iconst S (v := 0) d_Mod_isValue_49 (by decide) ?_
          exact RT _ _ _ _ _ _ _ d_Mod_isValue_50 rfl (by omega) (by omega) ⟨false, rfl, ⟨fun q => absurd q (by decide), fun q => absurd q hx⟩, rfl, rfl⟩
        · refine a_iload_n S d_Mod_isValue_35 rfl rfl ?_
          refine a_if_lt S (tgt := 49) d_Mod_isValue_36 rfl (fun h36 => ?_) (fun h36 => ?_)
          · have hx : ¬ okN kd z j := fun q => by rw [hk] at q; exact i32neg h36 q.2.2.1
            refine a_iconst S (v := 0) d_Mod_isValue_49 (by decide) ?_
            exact RT _ _ _ _ _ _ _ d_Mod_isValue_50 rfl (by omega) (by omega) ⟨false, rfl, ⟨fun q => absurd q (by decide), fun q => absurd q hx⟩, rfl, rfl⟩
          · refine a_iload_n S d_Mod_isValue_39 rfl rfl ?_
            refine a_bipush S (v := 9) d_Mod_isValue_40 (by decide) ?_
            refine a_icmp_gt S (tgt := 49) d_Mod_isValue_42 rfl (fun h42 => ?_) (fun h42 => ?_)
            · have hx : ¬ okN kd z j := fun q => by rw [hk] at q; exact i32big h42 q.2.2.2
              refine a_iconst S (v := 0) d_Mod_isValue_49 (by decide) ?_
              exact RT _ _ _ _ _ _ _ d_Mod_isValue_50 rfl (by omega) (by omega) ⟨false, rfl, ⟨fun q => absurd q (by decide), fun q => absurd q hx⟩, rfl, rfl⟩
            · refine a_iconst S (v := 1) d_Mod_isValue_45 (by decide) ?_
              refine a_goto S (tgt := 50) d_Mod_isValue_46 rfl ?_
              exact RT _ _ _ _ _ _ _ d_Mod_isValue_50 rfl (by omega) (by omega) ⟨true, rfl, ⟨fun _ => by rw [hk]; exact ⟨alow h24, ahi h32, i32nn h36, i32sm h42⟩, fun _ => rfl⟩, rfl, rfl⟩
  · have hk : kd = 0 := (nI_eq (by omega) (by decide)).mp h1
    refine a_iload_n S d_Mod_isValue_4 rfl rfl ?_
    refine a_if_ne S (tgt := 12) d_Mod_isValue_5 rfl (fun h5 => ?_) (fun h5 => ?_)
    · have hx : ¬ okN kd z j := fun q => by rw [hk] at q; exact h5 q
      refine a_iconst S (v := 0) d_Mod_isValue_12 (by decide) ?_
      exact RT _ _ _ _ _ _ _ d_Mod_isValue_13 rfl (by omega) (by omega) ⟨false, rfl, ⟨fun q => absurd q (by decide), fun q => absurd q hx⟩, rfl, rfl⟩
    · refine a_iconst S (v := 1) d_Mod_isValue_8 (by decide) ?_
      refine a_goto S (tgt := 13) d_Mod_isValue_9 rfl ?_
      exact RT _ _ _ _ _ _ _ d_Mod_isValue_13 rfl (by omega) (by omega) ⟨true, rfl, ⟨fun _ => by rw [hk]; exact h5, fun _ => rfl⟩, rfl, rfl⟩
set_option maxHeartbeats 400000 in
set_option maxRecDepth 100000 in
theorem c_Mod_set (l : Launch) (D : kD) (b : Nat) (th : Int32) (fd : Nat) (sl : Bool) (ki fl : Nat → Int32) (va : Nat → Int64) (fo go si te : Nat → Int32) (kp : Nat) (ro : Nat → Int32) (rs : Nat) (ma : Nat → Int32) (sz : Nat) (en ms lw hw : Nat → Int32) (ls : Nat) (hz : Int32) (pt : Nat) (bd : Bool) (k : Nat) (z : Int64) (f : Int32) (w : ww) (n : Nat) (hk : k < 70) (h : Mo D w b th fd sl ki fl va fo go si te kp ro rs ma sz en ms lw hw ls hz pt bd) : AM l D M_Mod_set 0 0 0 [.ref b, .int (nI k), .long z, .int f] w n (fun v w' n' => v = none ∧ n' = n ∧ Fr w w' b 14 ∧ Mo D w' b th fd sl ki fl (vp_updL va k z) (upd fo k f) (upd go k (vp_nar .boolean 0)) (upd si k 0) te kp ro rs ma sz en ms lw hw ls hz pt bd) := by
  refine AM.ofv (by decide +kernel) rfl (Nat.le_of_ble_eq_true rfl) (fun X A Q hin S RT => ?_)
  have S : FX X (D, A, 5, Q) prog_9_method_12_code "KeyCodecModel" 0 0 0 := S
  have RT : RTv X (D, A, 5, Q) prog_9_method_12_code 0 0 _ := RT
  obtain ⟨h0, h1, h2, h3, h4, h5, h6, h7, h8, h9, h10, h11, h12, h13⟩ := h
  refine a_lve (lv' := [(0, .ref b), (1, .int (nI k)), (2, .long z), (4, .int f)]) rfl ?_
  have fr : Fr w w b 14 := Fr.refl _ _ _
  refine a_aload_n S d_Mod_set_0 rfl rfl ?_
  refine a_get S kc_Mod 5 (by decide) lf_Mod_16 h0 rfl d_Mod_set_1 ?_
  refine a_iload_n S d_Mod_set_4 rfl rfl ?_
  refine a_lload_n S d_Mod_set_5 rfl rfl ?_
  refine a_last S (i := k) h3 rfl (by omega) (by decide) d_Mod_set_6 (fun w1 h3 e2 => ?_)
  have fr := fr.trans (Fr.sub (Fr.of1 e2) (by omega) (by omega))
  have h0 := Fr.cell (Fr.of1 e2) h0 (by omega)
  have h1 := Fr.cell (Fr.of1 e2) h1 (by omega)
  have h2 := Fr.cell (Fr.of1 e2) h2 (by omega)
  have h4 := Fr.cell (Fr.of1 e2) h4 (by omega)
  have h5 := Fr.cell (Fr.of1 e2) h5 (by omega)
  have h6 := Fr.cell (Fr.of1 e2) h6 (by omega)
  have h7 := Fr.cell (Fr.of1 e2) h7 (by omega)
  have h8 := Fr.cell (Fr.of1 e2) h8 (by omega)
  have h9 := Fr.cell (Fr.of1 e2) h9 (by omega)
  have h10 := Fr.cell (Fr.of1 e2) h10 (by omega)
  have h11 := Fr.cell (Fr.of1 e2) h11 (by omega)
  have h12 := Fr.cell (Fr.of1 e2) h12 (by omega)
  have h13 := Fr.cell (Fr.of1 e2) h13 (by omega)
  refine a_aload_n S d_Mod_set_7 rfl rfl ?_
  refine a_get S kc_Mod 6 (by decide) lf_Mod_20 h0 rfl d_Mod_set_8 ?_
  refine a_iload_n S d_Mod_set_11 rfl rfl ?_
  refine a_iload S d_Mod_set_12 rfl ?_
  refine a_iast S (i := k) h4 rfl (by omega) (by decide) d_Mod_set_14 (fun w3 h4 e4 => ?_)
  have fr := fr.trans (Fr.sub (Fr.of1 e4) (by omega) (by omega))
  have h0 := Fr.cell (Fr.of1 e4) h0 (by omega)
  have h1 := Fr.cell (Fr.of1 e4) h1 (by omega)
  have h2 := Fr.cell (Fr.of1 e4) h2 (by omega)
  have h3 := Fr.cell (Fr.of1 e4) h3 (by omega)
  have h5 := Fr.cell (Fr.of1 e4) h5 (by omega)
  have h6 := Fr.cell (Fr.of1 e4) h6 (by omega)
  have h7 := Fr.cell (Fr.of1 e4) h7 (by omega)
  have h8 := Fr.cell (Fr.of1 e4) h8 (by omega)
  have h9 := Fr.cell (Fr.of1 e4) h9 (by omega)
  have h10 := Fr.cell (Fr.of1 e4) h10 (by omega)
  have h11 := Fr.cell (Fr.of1 e4) h11 (by omega)
  have h12 := Fr.cell (Fr.of1 e4) h12 (by omega)
  have h13 := Fr.cell (Fr.of1 e4) h13 (by omega)
  refine a_aload_n S d_Mod_set_15 rfl rfl ?_
  refine a_get S kc_Mod 7 (by decide) lf_Mod_23 h0 rfl d_Mod_set_16 ?_
  refine a_iload_n S d_Mod_set_19 rfl rfl ?_
  refine a_iconst S (v := 0) d_Mod_set_20 (by decide) ?_
  refine a_zast S (i := k) h5 rfl (by omega) (by decide) d_Mod_set_21 (fun w5 h5 e6 => ?_)
  have fr := fr.trans (Fr.sub (Fr.of1 e6) (by omega) (by omega))
  have h0 := Fr.cell (Fr.of1 e6) h0 (by omega)
  have h1 := Fr.cell (Fr.of1 e6) h1 (by omega)
  have h2 := Fr.cell (Fr.of1 e6) h2 (by omega)
  have h3 := Fr.cell (Fr.of1 e6) h3 (by omega)
  have h4 := Fr.cell (Fr.of1 e6) h4 (by omega)
  have h6 := Fr.cell (Fr.of1 e6) h6 (by omega)
  have h7 := Fr.cell (Fr.of1 e6) h7 (by omega)
  have h8 := Fr.cell (Fr.of1 e6) h8 (by omega)
  have h9 := Fr.cell (Fr.of1 e6) h9 (by omega)
  have h10 := Fr.cell (Fr.of1 e6) h10 (by omega)
  have h11 := Fr.cell (Fr.of1 e6) h11 (by omega)
  have h12 := Fr.cell (Fr.of1 e6) h12 (by omega)
  have h13 := Fr.cell (Fr.of1 e6) h13 (by omega)
  refine a_aload_n S d_Mod_set_22 rfl rfl ?_
  refine a_get S kc_Mod 8 (by decide) lf_Mod_27 h0 rfl d_Mod_set_23 ?_
  refine a_iload_n S d_Mod_set_26 rfl rfl ?_
  refine a_iconst S (v := 0) d_Mod_set_27 (by decide) ?_
  refine a_iast S (i := k) h6 rfl (by omega) (by decide) d_Mod_set_28 (fun w7 h6 e8 => ?_)
  have fr := fr.trans (Fr.sub (Fr.of1 e8) (by omega) (by omega))
  have h0 := Fr.cell (Fr.of1 e8) h0 (by omega)
  have h1 := Fr.cell (Fr.of1 e8) h1 (by omega)
  have h2 := Fr.cell (Fr.of1 e8) h2 (by omega)
  have h3 := Fr.cell (Fr.of1 e8) h3 (by omega)
  have h4 := Fr.cell (Fr.of1 e8) h4 (by omega)
  have h5 := Fr.cell (Fr.of1 e8) h5 (by omega)
  have h7 := Fr.cell (Fr.of1 e8) h7 (by omega)
  have h8 := Fr.cell (Fr.of1 e8) h8 (by omega)
  have h9 := Fr.cell (Fr.of1 e8) h9 (by omega)
  have h10 := Fr.cell (Fr.of1 e8) h10 (by omega)
  have h11 := Fr.cell (Fr.of1 e8) h11 (by omega)
  have h12 := Fr.cell (Fr.of1 e8) h12 (by omega)
  have h13 := Fr.cell (Fr.of1 e8) h13 (by omega)
  exact RT _ _ _ _ _ _ d_Mod_set_29 (by omega) (by omega) ⟨rfl, rfl, fr, h0, h1, h2, h3, h4, h5, h6, h7, h8, h9, h10, h11, h12, h13⟩
set_option maxHeartbeats 400000 in
set_option maxRecDepth 100000 in
theorem c_Mod_say (l : Launch) (D : kD) (b : Nat) (th : Int32) (fd : Nat) (sl : Bool) (ki fl : Nat → Int32) (va : Nat → Int64) (fo go si te : Nat → Int32) (kp : Nat) (ro : Nat → Int32) (rs : Nat) (ma : Nat → Int32) (en ms lw hw : Nat → Int32) (ls : Nat) (hz : Int32) (pt : Nat) (bd : Bool) (o : Nat) (l0 : List Nat) (x : Nat) (w : ww) (n : Nat) (ho : o < 2) (hz2 : l0.length < 200) (h : Mo D w b th fd sl ki fl va fo go si te kp ro rs (wrL ma (200 * o) l0) l0.length en ms lw hw ls hz pt bd) : AM l D M_Mod_say 0 0 0 [.ref b, .int (nI o), .int (nI x)] w n (fun v w' n' => v = none ∧ n' = n ∧ Fr w w' b 14 ∧ Mo D w' b th fd sl ki fl va fo go si te kp ro rs (wrL ma (200 * o) (l0 ++ [x])) ((l0 ++ [x]).length) en ms lw hw ls hz pt bd) := by
  refine AM.ofv (by decide +kernel) rfl (Nat.le_of_ble_eq_true rfl) (fun X A Q hin S RT => ?_)
  have S : FX X (D, A, 3, Q) prog_9_method_18_code "KeyCodecModel" 0 0 0 := S
  have RT : RTv X (D, A, 3, Q) prog_9_method_18_code 0 0 _ := RT
  obtain ⟨h0, h1, h2, h3, h4, h5, h6, h7, h8, h9, h10, h11, h12, h13⟩ := h
  refine a_lve (lv' := [(0, .ref b), (1, .int (nI o)), (2, .int (nI x))]) rfl ?_
  have fr : Fr w w b 14 := Fr.refl _ _ _
  refine a_aload_n S d_Mod_say_0 rfl rfl ?_
  refine a_get S kc_Mod 13 (by decide) lf_Mod_36 h0 rfl d_Mod_say_1 ?_
  refine a_sipush S (v := 200) d_Mod_say_4 (by decide) ?_
  refine a_iload_n S d_Mod_say_7 rfl rfl ?_
  refine a_imul S d_Mod_say_8 ?_
  refine a_aload_n S d_Mod_say_9 rfl rfl ?_
  refine a_get S kc_Mod 14 (by decide) lf_Mod_100 h0 rfl d_Mod_say_10 ?_
  refine a_iadd S d_Mod_say_13 ?_
  refine a_iload_n S d_Mod_say_14 rfl rfl ?_
  refine a_iast S (i := 200 * o + l0.length) h9 (ni_add (ni_mul rfl rfl) rfl) (by omega) (by decide) d_Mod_say_15 (fun w1 h9 e2 => ?_)
  have fr := fr.trans (Fr.sub (Fr.of1 e2) (by omega) (by omega))
  have h0 := Fr.cell (Fr.of1 e2) h0 (by omega)
  have h1 := Fr.cell (Fr.of1 e2) h1 (by omega)
  have h2 := Fr.cell (Fr.of1 e2) h2 (by omega)
  have h3 := Fr.cell (Fr.of1 e2) h3 (by omega)
  have h4 := Fr.cell (Fr.of1 e2) h4 (by omega)
  have h5 := Fr.cell (Fr.of1 e2) h5 (by omega)
  have h6 := Fr.cell (Fr.of1 e2) h6 (by omega)
  have h7 := Fr.cell (Fr.of1 e2) h7 (by omega)
  have h8 := Fr.cell (Fr.of1 e2) h8 (by omega)
  have h10 := Fr.cell (Fr.of1 e2) h10 (by omega)
  have h11 := Fr.cell (Fr.of1 e2) h11 (by omega)
  have h12 := Fr.cell (Fr.of1 e2) h12 (by omega)
  have h13 := Fr.cell (Fr.of1 e2) h13 (by omega)
  refine a_aload_n S d_Mod_say_16 rfl rfl ?_
  refine a_dup S d_Mod_say_17 rfl ?_
  refine a_get S kc_Mod 14 (by decide) lf_Mod_100 h0 rfl d_Mod_say_18 ?_
  refine a_iconst S (v := 1) d_Mod_say_21 (by decide) ?_
  refine a_iadd S d_Mod_say_22 ?_
  refine a_eqi (y := nI (l0.length + 1)) (ni_add rfl (by decide)) ?_
  refine a_put S kc_Mod kt_Mod 14 (by decide) lf_Mod_100 rfl h0 rfl rfl (Nat.le_of_ble_eq_true rfl) d_Mod_say_23 (fun w3 h0 e4 => ?_)
  have h0 : w3 b = some (.inr (6, [.int th, .int (nI fd), .int (if sl then 1 else 0), .ref (b + 1), .ref (b + 2), .ref (b + 3), .ref (b + 4), .ref (b + 5), .ref (b + 6), .ref (b + 7), .int (nI kp), .ref (b + 8), .int (nI rs), .ref (b + 9), .int (nI (l0.length + 1)), .ref (b + 10), .ref (b + 11), .ref (b + 12), .ref (b + 13), .int (nI ls), .int hz, .int (nI pt), .int (if bd then 1 else 0)])) := h0
  have fr := fr.trans (Fr.sub (Fr.of1 e4) (by omega) (by omega))
  have h1 := Fr.cell (Fr.of1 e4) h1 (by omega)
  have h2 := Fr.cell (Fr.of1 e4) h2 (by omega)
  have h3 := Fr.cell (Fr.of1 e4) h3 (by omega)
  have h4 := Fr.cell (Fr.of1 e4) h4 (by omega)
  have h5 := Fr.cell (Fr.of1 e4) h5 (by omega)
  have h6 := Fr.cell (Fr.of1 e4) h6 (by omega)
  have h7 := Fr.cell (Fr.of1 e4) h7 (by omega)
  have h8 := Fr.cell (Fr.of1 e4) h8 (by omega)
  have h9 := Fr.cell (Fr.of1 e4) h9 (by omega)
  have h10 := Fr.cell (Fr.of1 e4) h10 (by omega)
  have h11 := Fr.cell (Fr.of1 e4) h11 (by omega)
  have h12 := Fr.cell (Fr.of1 e4) h12 (by omega)
  have h13 := Fr.cell (Fr.of1 e4) h13 (by omega)
  exact RT _ _ _ _ _ _ d_Mod_say_26 (by omega) (by omega) (by rw [wrL_one, wrL_app] at h9; rw [List.length_append, List.length_singleton]; exact ⟨rfl, rfl, fr, h0, h1, h2, h3, h4, h5, h6, h7, h8, h9, h10, h11, h12, h13⟩)
set_option maxHeartbeats 400000 in
set_option maxRecDepth 100000 in
theorem c_Mod_sayText (l : Launch) (D : kD) (b : Nat) (th : Int32) (fd : Nat) (sl : Bool) (ki fl : Nat → Int32) (va : Nat → Int64) (fo go si te : Nat → Int32) (kp : Nat) (ro : Nat → Int32) (rs : Nat) (ma : Nat → Int32) (en ms lw hw : Nat → Int32) (ls : Nat) (hz : Int32) (pt : Nat) (bd : Bool) (o : Nat) (l0 : List Nat) (k : Nat) (x : List Nat) (t : Nat) (w : ww) (n : Nat) (ho : o < 2) (hk : k < 70) (ht : t = 0 ∨ t = 255) (hsi : si k = nI x.length) (hx10 : x.length ≤ 10) (hx : ∀ b ∈ x, b < 256) (hte : ∀ i, i < x.length → te (10 * k + i) = nI (x.getD i 0)) (hl : (l0 ++ (encT x).map (tnB t)).length ≤ 200) (h : Mo D w b th fd sl ki fl va fo go si te kp ro rs (wrL ma (200 * o) l0) l0.length en ms lw hw ls hz pt bd) : AM l D M_Mod_sayText 1 0 0 [.ref b, .int (nI o), .int (nI k), .int (nI t)] w n (fun v w' n' => v = none ∧ n' = n ∧ Fr w w' b 14 ∧ Mo D w' b th fd sl ki fl va fo go si te kp ro rs (wrL ma (200 * o) (l0 ++ ((encT x).map (tnB t)))) ((l0 ++ ((encT x).map (tnB t))).length) en ms lw hw ls hz pt bd) := by
  refine AM.ofv (by decide +kernel) rfl (Nat.le_of_ble_eq_true rfl) (fun X A Q hin S RT => ?_)
  have S : FX X (D, A, 6, Q) prog_9_method_20_code "KeyCodecModel" 1 0 0 := S
  have RT : RTv X (D, A, 6, Q) prog_9_method_20_code 0 0 _ := RT
  obtain ⟨h0, h1, h2, h3, h4, h5, h6, h7, h8, h9, h10, h11, h12, h13⟩ := h
  refine a_lve (lv' := [(0, .ref b), (1, .int (nI o)), (2, .int (nI k)), (3, .int (nI t))]) rfl ?_
  have fr : Fr w w b 14 := Fr.refl _ _ _
  refine a_iconst S (v := 0) d_Mod_sayText_0 (by decide) ?_
  refine a_istore S d_Mod_sayText_1 (Nat.le_of_ble_eq_true rfl) (lv' := [(0, .ref b), (1, .int (nI o)), (2, .int (nI k)), (3, .int (nI t)), (4, .int 0)]) rfl ?_
  have loop3 : ∀ (kk3 : Nat) (i : Nat) (w1 : ww) (l1 : List Nat), x.length - i = kk3 → (i ≤ x.length) → (Fr w w1 b 14) → (Mo D w1 b th fd sl ki fl va fo go si te kp ro rs (wrL ma (200 * o) l1) l1.length en ms lw hw ls hz pt bd) → (l1 ++ (encT (x.drop i)).map (tnB t) = l0 ++ (encT x).map (tnB t)) → AW X (D, A, 6, Q) 3 [(0, .ref b), (1, .int (nI o)), (2, .int (nI k)), (3, .int (nI t)), (4, .int (nI i))] [] w1 n 0 0 := by
    intro kk3
    induction kk3 using Nat.strongRecOn with
    | ind kk3 ih3 =>
      intro i w1 l1 hk3 hi fr h he
      obtain ⟨h0, h1, h2, h3, h4, h5, h6, h7, h8, h9, h10, h11, h12, h13⟩ := h
      have hl2 := tx_len he hl
      refine a_iload S d_Mod_sayText_3 rfl ?_
      refine a_aload_n S d_Mod_sayText_5 rfl rfl ?_
      refine a_get S kc_Mod 8 (by decide) lf_Mod_27 h0 rfl d_Mod_sayText_6 ?_
      refine a_iload_n S d_Mod_sayText_9 rfl rfl ?_
      refine a_iald S (i := k) h6 rfl (by omega) (by decide) d_Mod_sayText_10 ?_
      refine a_eqi hsi ?_
      refine a_icmp_ge S (tgt := 58) d_Mod_sayText_11 rfl (fun h11_ => ?_) (fun h11_ => ?_)
      · have hi : x.length ≤ i := (nI_leI (by omega) (by omega)).mp h11_
        refine a_aload_n S d_Mod_sayText_58 rfl rfl ?_
        refine a_iload_n S d_Mod_sayText_59 rfl rfl ?_
        refine a_iload_n S d_Mod_sayText_60 rfl rfl ?_
        refine a_eqi (y := nI (tnB t 0)) (tn0 ht) ?_
        refine a_callV S (rest := []) lg_Mod_105 h0 (c_Mod_say X.2.1 D b th fd sl ki fl va fo go si te kp ro rs ma en ms lw hw ls hz pt bd o l1 (tnB t 0) w1 n ho (by first | omega | (simp only [List.length_append, List.length_singleton]; omega)) ⟨h0, h1, h2, h3, h4, h5, h6, h7, h8, h9, h10, h11, h12, h13⟩) (by decide) (by omega) (by omega) rfl (Nat.le_of_ble_eq_true rfl) d_Mod_sayText_61 (fun v1 w2 n3 p4 => ?_)
        obtain ⟨rfl, e6, f5, h0, h1, h2, h3, h4, h5, h6, h7, h8, h9, h10, h11, h12, h13⟩ := p4
        rw [e6]
        refine a_st (st' := []) rfl ?_
        have fr := fr.trans (Fr.sub f5 (by omega) (by omega))
        refine a_aload_n S d_Mod_sayText_64 rfl rfl ?_
        refine a_iload_n S d_Mod_sayText_65 rfl rfl ?_
        refine a_iconst S (v := 1) d_Mod_sayText_66 (by decide) ?_
        refine a_iload_n S d_Mod_sayText_67 rfl rfl ?_
        refine a_ixor S d_Mod_sayText_68 ?_
        refine a_eqi (y := nI (tnB t 1)) (xor_tn ht (by decide)) ?_
        refine a_callV S (rest := []) lg_Mod_105 h0 (c_Mod_say X.2.1 D b th fd sl ki fl va fo go si te kp ro rs ma en ms lw hw ls hz pt bd o (l1 ++ [tnB t 0]) (tnB t 1) w2 n ho (by first | omega | (simp only [List.length_append, List.length_singleton]; omega)) ⟨h0, h1, h2, h3, h4, h5, h6, h7, h8, h9, h10, h11, h12, h13⟩) (by decide) (by omega) (by omega) rfl (Nat.le_of_ble_eq_true rfl) d_Mod_sayText_69 (fun v7 w8 n9 p10 => ?_)
        obtain ⟨rfl, e12, f11, h0, h1, h2, h3, h4, h5, h6, h7, h8, h9, h10, h11, h12, h13⟩ := p10
        rw [e12]
        refine a_st (st' := []) rfl ?_
        have fr := fr.trans (Fr.sub f11 (by omega) (by omega))
        exact RT _ _ _ _ _ _ d_Mod_sayText_72 (by omega) (by omega) (by rw [tx_e hi he] at h0 h9; exact ⟨rfl, rfl, fr, h0, h1, h2, h3, h4, h5, h6, h7, h8, h9, h10, h11, h12, h13⟩)
      · have hi : i < x.length := Nat.not_le.mp fun z => h11_ ((nI_leI (by omega) (by omega)).mpr z)
        have hb := getD_lt hx i
        refine a_aload_n S d_Mod_sayText_14 rfl rfl ?_
        refine a_get S kc_Mod 9 (by decide) lf_Mod_30 h0 rfl d_Mod_sayText_15 ?_
        refine a_bipush S (v := 10) d_Mod_sayText_18 (by decide) ?_
        refine a_iload_n S d_Mod_sayText_20 rfl rfl ?_
        refine a_imul S d_Mod_sayText_21 ?_
        refine a_iload S d_Mod_sayText_22 rfl ?_
        refine a_iadd S d_Mod_sayText_24 ?_
        refine a_iald S (i := 10 * k + i) h7 (ni_add (ni_mul rfl rfl) rfl) (by omega) (by decide) d_Mod_sayText_25 ?_
        refine a_eqi (hte i hi) ?_
        refine a_istore S d_Mod_sayText_26 (Nat.le_of_ble_eq_true rfl) (lv' := [(0, .ref b), (1, .int (nI o)), (2, .int (nI k)), (3, .int (nI t)), (4, .int (nI i)), (5, .int (nI (x.getD i 0)))]) rfl ?_
        refine a_aload_n S d_Mod_sayText_28 rfl rfl ?_
        refine a_iload_n S d_Mod_sayText_29 rfl rfl ?_
        refine a_iload S d_Mod_sayText_30 rfl ?_
        refine a_iload_n S d_Mod_sayText_32 rfl rfl ?_
        refine a_ixor S d_Mod_sayText_33 ?_
        refine a_eqi (y := nI (tnB t (x.getD i 0))) (xor_tn ht (by omega)) ?_
        refine a_callV S (rest := []) lg_Mod_105 h0 (c_Mod_say X.2.1 D b th fd sl ki fl va fo go si te kp ro rs ma en ms lw hw ls hz pt bd o l1 (tnB t (x.getD i 0)) w1 n ho (by first | omega | (simp only [List.length_append, List.length_singleton]; omega)) ⟨h0, h1, h2, h3, h4, h5, h6, h7, h8, h9, h10, h11, h12, h13⟩) (by decide) (by omega) (by omega) rfl (Nat.le_of_ble_eq_true rfl) d_Mod_sayText_34 (fun v13 w14 n15 p16 => ?_)
        obtain ⟨rfl, e18, f17, h0, h1, h2, h3, h4, h5, h6, h7, h8, h9, h10, h11, h12, h13⟩ := p16
        rw [e18]
        refine a_st (st' := []) rfl ?_
        have fr := fr.trans (Fr.sub f17 (by omega) (by omega))
        refine a_iload S d_Mod_sayText_37 rfl ?_
        refine a_if_ne S (tgt := 52) d_Mod_sayText_39 rfl (fun h39 => ?_) (fun h39 => ?_)
        · have hb0 : ¬ x.getD i 0 = 0 := fun z => h39 (by rw [z]; rfl)
          refine a_iinc S (v := nI (i + 1)) d_Mod_sayText_52 rfl (ni_add rfl (by decide)) (Nat.le_of_ble_eq_true rfl) (lv' := [(0, .ref b), (1, .int (nI o)), (2, .int (nI k)), (3, .int (nI t)), (4, .int (nI (i + 1))), (5, .int (nI (x.getD i 0)))]) rfl ?_
          refine a_goto S (tgt := 3) d_Mod_sayText_55 rfl ?_
          refine a_lv [0, 1, 2, 3, 4] (lv' := [(0, .ref b), (1, .int (nI o)), (2, .int (nI k)), (3, .int (nI t)), (4, .int (nI (i + 1)))]) rfl ?_
          exact ih3 _ (by omega) (i + 1) w14 (l1 ++ [tnB t (x.getD i 0)]) rfl (by omega) fr ⟨h0, h1, h2, h3, h4, h5, h6, h7, h8, h9, h10, h11, h12, h13⟩ (tx_nz hi hb0 he)
        · have hb0 : x.getD i 0 = 0 := (nI_eq (by omega) (by decide)).mp h39
          refine a_aload_n S d_Mod_sayText_42 rfl rfl ?_
          refine a_iload_n S d_Mod_sayText_43 rfl rfl ?_
          refine a_sipush S (v := 255) d_Mod_sayText_44 (by decide) ?_
          refine a_iload_n S d_Mod_sayText_47 rfl rfl ?_
          refine a_ixor S d_Mod_sayText_48 ?_
          refine a_eqi (y := nI (tnB t 255)) (xor_tn ht (by decide)) ?_
          refine a_callV S (rest := []) lg_Mod_105 h0 (c_Mod_say X.2.1 D b th fd sl ki fl va fo go si te kp ro rs ma en ms lw hw ls hz pt bd o (l1 ++ [tnB t (x.getD i 0)]) (tnB t 255) w14 n ho (by first | omega | (simp only [List.length_append, List.length_singleton]; omega)) ⟨h0, h1, h2, h3, h4, h5, h6, h7, h8, h9, h10, h11, h12, h13⟩) (by decide) (by omega) (by omega) rfl (Nat.le_of_ble_eq_true rfl) d_Mod_sayText_49 (fun v19 w20 n21 p22 => ?_)
          obtain ⟨rfl, e24, f23, h0, h1, h2, h3, h4, h5, h6, h7, h8, h9, h10, h11, h12, h13⟩ := p22
          rw [e24]
          refine a_st (st' := []) rfl ?_
          have fr := fr.trans (Fr.sub f23 (by omega) (by omega))
          refine a_iinc S (v := nI (i + 1)) d_Mod_sayText_52 rfl (ni_add rfl (by decide)) (Nat.le_of_ble_eq_true rfl) (lv' := [(0, .ref b), (1, .int (nI o)), (2, .int (nI k)), (3, .int (nI t)), (4, .int (nI (i + 1))), (5, .int (nI (x.getD i 0)))]) rfl ?_
          refine a_goto S (tgt := 3) d_Mod_sayText_55 rfl ?_
          refine a_lv [0, 1, 2, 3, 4] (lv' := [(0, .ref b), (1, .int (nI o)), (2, .int (nI k)), (3, .int (nI t)), (4, .int (nI (i + 1)))]) rfl ?_
          exact ih3 _ (by omega) (i + 1) w20 ((l1 ++ [tnB t (x.getD i 0)]) ++ [tnB t 255]) rfl (by omega) fr ⟨h0, h1, h2, h3, h4, h5, h6, h7, h8, h9, h10, h11, h12, h13⟩ (tx_z hi hb0 he)
  exact loop3 _ 0 w l0 rfl (Nat.zero_le _) fr ⟨h0, h1, h2, h3, h4, h5, h6, h7, h8, h9, h10, h11, h12, h13⟩ rfl
