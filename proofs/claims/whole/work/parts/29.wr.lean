set_option maxHeartbeats 400000 in
set_option maxRecDepth 100000 in
theorem c_Writer_bytesNeeded (l : Launch) (D : kD) (v : Int64) (w : ww) (n : Nat)  : AM l D M_Writer_bytesNeeded 0 0 0 [.long v] w n (fun v' w' n' => v' = some (.int (nI (nby (uL v)))) ∧ w' = w ∧ n' = n) := by
  refine AM.ofi (by decide +kernel) rfl (Nat.le_of_ble_eq_true rfl) (fun X A Q hin S RT => ?_)
  have S : FX X (D, A, 3, Q) prog_3_method_6_code "KeyCodec$KeyWriter" 0 0 0 := S
  have RT : RTi X (D, A, 3, Q) prog_3_method_6_code 0 0 _ := RT
  refine a_lve (lv' := [(0, .long v)]) rfl ?_
  refine a_iconst S (v := 0) d_Writer_bytesNeeded_0 (by decide) ?_
  refine a_istore_n S d_Writer_bytesNeeded_1 rfl (Nat.le_of_ble_eq_true rfl) (lv' := [(0, .long v), (2, .int 0)]) rfl ?_
  have loop2 : ∀ (kk2 : Nat) (i : Nat), 8 - i = kk2 → (i ≤ nby (uL v)) → AW X (D, A, 3, Q) 2 [(0, .long v), (2, .int (nI i))] [] w n 0 0 := by
    intro kk2
    induction kk2 using Nat.strongRecOn with
    | ind kk2 ih2 =>
      intro i hk2 hi
      refine a_iload_n S d_Writer_bytesNeeded_2 rfl rfl ?_
      refine a_bipush S (v := 8) d_Writer_bytesNeeded_3 (by decide) ?_
      refine a_icmp_ge S (tgt := 25) d_Writer_bytesNeeded_5 rfl (fun h5 => ?_) (fun h5 => ?_)
      · have h5 : 8 ≤ i := (nI_leI (by decide) (by have := nby_8 (uL_lt v); omega)).mp h5
        have hi : i = nby (uL v) := by have := nby_8 (uL_lt v); omega
        refine a_iload_n S d_Writer_bytesNeeded_25 rfl rfl ?_
        exact RT _ _ _ _ _ _ _ d_Writer_bytesNeeded_26 (by omega) (by omega) ⟨by rw [hi], rfl, rfl⟩
      · have h5 : i < 8 := Nat.not_le.mp fun z => h5 ((nI_leI (by decide) (by have := nby_8 (uL_lt v); omega)).mpr z)
        refine a_lload_n S d_Writer_bytesNeeded_8 rfl rfl ?_
        refine a_bipush S (v := 8) d_Writer_bytesNeeded_9 (by decide) ?_
        refine a_iload_n S d_Writer_bytesNeeded_11 rfl rfl ?_
        refine a_imul S d_Writer_bytesNeeded_12 ?_
        refine a_lushr S d_Writer_bytesNeeded_13 rfl ?_
        refine a_lconst S (v := 0) d_Writer_bytesNeeded_14 (by decide) ?_
        refine a_lcmp S d_Writer_bytesNeeded_15 ?_
        refine a_if_eq S (tgt := 25) d_Writer_bytesNeeded_16 rfl (fun h16 => ?_) (fun h16 => ?_)
        · have hi : i = nby (uL v) := Nat.le_antisymm hi (nby_le (sh_eq h16 (by omega)))
          refine a_iload_n S d_Writer_bytesNeeded_25 rfl rfl ?_
          exact RT _ _ _ _ _ _ _ d_Writer_bytesNeeded_26 (by omega) (by omega) ⟨by rw [hi], rfl, rfl⟩
        · refine a_iinc S (v := nI (i + 1)) d_Writer_bytesNeeded_19 rfl (ni_add rfl (by decide)) (Nat.le_of_ble_eq_true rfl) (lv' := [(0, .long v), (2, .int (nI (i + 1)))]) rfl ?_
          refine a_goto S (tgt := 2) d_Writer_bytesNeeded_22 rfl ?_
          exact ih2 _ (by omega) (i + 1) rfl (nby_up hi (sh_ne h16 (by omega)))
  exact loop2 _ 0 rfl (Nat.zero_le _)
set_option maxHeartbeats 400000 in
set_option maxRecDepth 100000 in
theorem c_Writer_writeInt (l : Launch) (D : kD) (r : Nat) (l0 : List Nat) (v : Int64) (t : Nat) (w : ww) (n : Nat) (ht : t = 0 ∨ t = 255) (h : Row D w r l0) : AM l D M_Writer_writeInt 2 0 0 [.long v, .int (nI t), .ref r] w n (fun v' w' n' => v' = none ∧ n' = n ∧ Fr w w' r 2 ∧ Row D w' r (ap l0 ((encU (uL v)).map (tnB t)))) := by
  refine AM.ofv (by decide +kernel) rfl (Nat.le_of_ble_eq_true rfl) (fun X A Q hin S RT => ?_)
  have S : FX X (D, A, 5, Q) prog_3_method_5_code "KeyCodec$KeyWriter" 2 0 0 := S
  have RT : RTv X (D, A, 5, Q) prog_3_method_5_code 0 0 _ := RT
  refine a_lve (lv' := [(0, .long v), (2, .int (nI t)), (3, .ref r)]) rfl ?_
  have fr : Fr w w r 2 := Fr.refl _ _ _
  refine a_lload_n S d_Writer_writeInt_0 rfl rfl ?_
  refine a_lconst S (v := 0) d_Writer_writeInt_1 (by decide) ?_
  refine a_lcmp S d_Writer_writeInt_2 ?_
  refine a_if_ge S (tgt := 14) d_Writer_writeInt_3 rfl (fun h3 => ?_) (fun h3 => ?_)
  · refine a_lload_n S d_Writer_writeInt_14 rfl rfl ?_
    refine a_callS S (rest := []) lg_Writer_85 (c_Writer_bytesNeeded X.2.1 D v w n) (by decide) (by omega) (by omega) rfl (Nat.le_of_ble_eq_true rfl) d_Writer_writeInt_15 (fun v1 w2 n3 p4 => ?_)
    obtain ⟨rfl, e5, e6⟩ := p4
    rw [e5, e6]
    refine a_st (st' := [.int (nI (nby (uL v)))]) rfl ?_
    refine a_istore S d_Writer_writeInt_18 (Nat.le_of_ble_eq_true rfl) (lv' := [(0, .long v), (2, .int (nI t)), (3, .ref r), (4, .int (nI (nby (uL v))))]) rfl ?_
    refine a_aload_n S d_Writer_writeInt_20 rfl rfl ?_
    refine a_lload_n S d_Writer_writeInt_21 rfl rfl ?_
    refine a_lconst S (v := 0) d_Writer_writeInt_22 (by decide) ?_
    refine a_lcmp S d_Writer_writeInt_23 ?_
    refine a_if_ge S (tgt := 35) d_Writer_writeInt_24 rfl (fun h24 => ?_) (fun h24 => ?_)
    · refine a_sipush S (v := 128) d_Writer_writeInt_35 (by decide) ?_
      refine a_iload S d_Writer_writeInt_38 rfl ?_
      refine a_iadd S d_Writer_writeInt_40 ?_
      refine a_iload_n S d_Writer_writeInt_41 rfl rfl ?_
      refine a_ixor S d_Writer_writeInt_42 ?_
      refine a_callV S (rest := []) lg_Writer_53 h.cell (c_Row_append X.2.1 D r l0 ((128 + nI (nby (uL v))) ^^^ nI t) w n h) (by decide) (by omega) (by omega) rfl (Nat.le_of_ble_eq_true rfl) d_Writer_writeInt_43 (fun v7 w8 n9 p10 => ?_)
      obtain ⟨rfl, e12, f11, h⟩ := p10
      rw [e12]
      refine a_st (st' := []) rfl ?_
      have fr := fr.trans (Fr.sub f11 (by omega) (by omega))
      refine a_aload_n S d_Writer_writeInt_46 rfl rfl ?_
      refine a_iload S d_Writer_writeInt_47 rfl ?_
      refine a_lload_n S d_Writer_writeInt_49 rfl rfl ?_
      refine a_iload_n S d_Writer_writeInt_50 rfl rfl ?_
      refine a_callV S (rest := []) lg_Writer_89 h.cell (c_Row_appendLowest X.2.1 D r (ap l0 [by8 ((128 + nI (nby (uL v))) ^^^ nI t)]) (nby (uL v)) v t w8 n (nby_8 (uL_lt _)) ht h) (by decide) (by omega) (by omega) rfl (Nat.le_of_ble_eq_true rfl) d_Writer_writeInt_51 (fun v13 w14 n15 p16 => ?_)
      obtain ⟨rfl, e18, f17, h⟩ := p16
      rw [e18]
      refine a_st (st' := []) rfl ?_
      have fr := fr.trans (Fr.sub f17 (by omega) (by omega))
      exact RT _ _ _ _ _ _ d_Writer_writeInt_54 (by omega) (by omega) ⟨rfl, rfl, fr, (by rw [wi_pos ht (ge0_u h3)]; exact h)⟩
    · exact absurd h3 h24
  · refine a_ldc2 S (v := (-1)) lK_Writer_83 d_Writer_writeInt_6 ?_
    refine a_lload_n S d_Writer_writeInt_9 rfl rfl ?_
    refine a_lsub S d_Writer_writeInt_10 ?_
    refine a_goto S (tgt := 15) d_Writer_writeInt_11 rfl ?_
    refine a_callS S (rest := []) lg_Writer_85 (c_Writer_bytesNeeded X.2.1 D ((-1) - v) w n) (by decide) (by omega) (by omega) rfl (Nat.le_of_ble_eq_true rfl) d_Writer_writeInt_15 (fun v19 w20 n21 p22 => ?_)
    obtain ⟨rfl, e23, e24⟩ := p22
    rw [e23, e24]
    refine a_st (st' := [.int (nI (nby (uL ((-1) - v))))]) rfl ?_
    refine a_istore S d_Writer_writeInt_18 (Nat.le_of_ble_eq_true rfl) (lv' := [(0, .long v), (2, .int (nI t)), (3, .ref r), (4, .int (nI (nby (uL ((-1) - v)))))]) rfl ?_
    refine a_aload_n S d_Writer_writeInt_20 rfl rfl ?_
    refine a_lload_n S d_Writer_writeInt_21 rfl rfl ?_
    refine a_lconst S (v := 0) d_Writer_writeInt_22 (by decide) ?_
    refine a_lcmp S d_Writer_writeInt_23 ?_
    refine a_if_ge S (tgt := 35) d_Writer_writeInt_24 rfl (fun h24 => ?_) (fun h24 => ?_)
    · exact absurd h24 h3
    · refine a_bipush S (v := 127) d_Writer_writeInt_27 (by decide) ?_
      refine a_iload S d_Writer_writeInt_29 rfl ?_
      refine a_isub S d_Writer_writeInt_31 ?_
      refine a_goto S (tgt := 41) d_Writer_writeInt_32 rfl ?_
      refine a_eqi (y := nI (127 - nby (uL (-1 - v)))) (ni_sub rfl rfl (by have := nby_8 (uL_lt (-1 - v)); omega)) ?_
      refine a_iload_n S d_Writer_writeInt_41 rfl rfl ?_
      refine a_ixor S d_Writer_writeInt_42 ?_
      refine a_callV S (rest := []) lg_Writer_53 h.cell (c_Row_append X.2.1 D r l0 (nI (127 - nby (uL (-1 - v))) ^^^ nI t) w n h) (by decide) (by omega) (by omega) rfl (Nat.le_of_ble_eq_true rfl) d_Writer_writeInt_43 (fun v25 w26 n27 p28 => ?_)
      obtain ⟨rfl, e30, f29, h⟩ := p28
      rw [e30]
      refine a_st (st' := []) rfl ?_
      have fr := fr.trans (Fr.sub f29 (by omega) (by omega))
      refine a_aload_n S d_Writer_writeInt_46 rfl rfl ?_
      refine a_iload S d_Writer_writeInt_47 rfl ?_
      refine a_lload_n S d_Writer_writeInt_49 rfl rfl ?_
      refine a_iload_n S d_Writer_writeInt_50 rfl rfl ?_
      refine a_callV S (rest := []) lg_Writer_89 h.cell (c_Row_appendLowest X.2.1 D r (ap l0 [by8 (nI (127 - nby (uL (-1 - v))) ^^^ nI t)]) (nby (uL ((-1) - v))) v t w26 n (nby_8 (uL_lt _)) ht h) (by decide) (by omega) (by omega) rfl (Nat.le_of_ble_eq_true rfl) d_Writer_writeInt_51 (fun v31 w32 n33 p34 => ?_)
      obtain ⟨rfl, e36, f35, h⟩ := p34
      rw [e36]
      refine a_st (st' := []) rfl ?_
      have fr := fr.trans (Fr.sub f35 (by omega) (by omega))
      exact RT _ _ _ _ _ _ d_Writer_writeInt_54 (by omega) (by omega) ⟨rfl, rfl, fr, (by rw [wi_neg ht (lt0_u h3)]; exact h)⟩
set_option maxHeartbeats 400000 in
set_option maxRecDepth 100000 in
theorem c_Writer_writeText (l : Launch) (D : kD) (a r : Nat) (v0 : kV) (l0 : List Nat) (t : Nat) (w : ww) (n : Nat) (hd : a + 2 ≤ r ∨ r + 2 ≤ a) (ht : t = 0 ∨ t = 255) (hv : Val D w a v0) (h : Row D w r l0) : AM l D M_Writer_writeText 1 0 0 [.ref a, .int (nI t), .ref r] w n (fun v' w' n' => v' = none ∧ n' = n ∧ Fr w w' r 2 ∧ Row D w' r (ap l0 ((encT v0.2.2.2).map (tnB t)))) := by
  refine AM.ofv (by decide +kernel) rfl (Nat.le_of_ble_eq_true rfl) (fun X A Q hin S RT => ?_)
  have S : FX X (D, A, 4, Q) prog_3_method_7_code "KeyCodec$KeyWriter" 1 0 0 := S
  have RT : RTv X (D, A, 4, Q) prog_3_method_7_code 0 0 _ := RT
  obtain ⟨hlen, hby, f, h1, h2, hf⟩ := hv
  refine a_lve (lv' := [(0, .ref a), (1, .int (nI t)), (2, .ref r)]) rfl ?_
  have fr : Fr w w r 2 := Fr.refl _ _ _
  refine a_iconst S (v := 0) d_Writer_writeText_0 (by decide) ?_
  refine a_istore_n S d_Writer_writeText_1 rfl (Nat.le_of_ble_eq_true rfl) (lv' := [(0, .ref a), (1, .int (nI t)), (2, .ref r), (3, .int 0)]) rfl ?_
  have loop2 : ∀ (kk2 : Nat) (i : Nat) (w1 : ww) (l1 : List Nat), v0.2.2.2.length - i = kk2 → (i ≤ v0.2.2.2.length) → (Fr w w1 r 2) → (w1 a = some (.inr (2, [.int (if v0.1 then 1 else 0), .long v0.2.1, .int v0.2.2.1, .ref (a + 1), .int (nI v0.2.2.2.length)]))) → (w1 (a + 1) = some (.inl (D.2 0, 10, .inl f))) → (Row D w1 r l1) → (ap l1 ((encT (v0.2.2.2.drop i)).map (tnB t)) = ap l0 ((encT v0.2.2.2).map (tnB t))) → AW X (D, A, 4, Q) 2 [(0, .ref a), (1, .int (nI t)), (2, .ref r), (3, .int (nI i))] [] w1 n 0 0 := by
    intro kk2
    induction kk2 using Nat.strongRecOn with
    | ind kk2 ih2 =>
      intro i w1 l1 hk2 hi fr h1 h2 h he
      refine a_iload_n S d_Writer_writeText_2 rfl rfl ?_
      refine a_aload_n S d_Writer_writeText_3 rfl rfl ?_
      refine a_get S kc_Value 4 (by decide) lf_Writer_93 h1 rfl d_Writer_writeText_4 ?_
      refine a_icmp_ge S (tgt := 52) d_Writer_writeText_7 rfl (fun h7 => ?_) (fun h7 => ?_)
      · have hi : i = v0.2.2.2.length := Nat.le_antisymm hi ((nI_leI (by omega) (by omega)).mp h7)
        refine a_aload_n S d_Writer_writeText_52 rfl rfl ?_
        refine a_iconst S (v := 0) d_Writer_writeText_53 (by decide) ?_
        refine a_iload_n S d_Writer_writeText_54 rfl rfl ?_
        refine a_ixor S d_Writer_writeText_55 ?_
        refine a_callV S (rest := []) lg_Writer_53 h.cell (c_Row_append X.2.1 D r l1 (0 ^^^ nI t) w1 n h) (by decide) (by omega) (by omega) rfl (Nat.le_of_ble_eq_true rfl) d_Writer_writeText_56 (fun v1 w2 n3 p4 => ?_)
        obtain ⟨rfl, e6, f5, h⟩ := p4
        rw [e6]
        refine a_st (st' := []) rfl ?_
        have fr := fr.trans (Fr.sub f5 (by omega) (by omega))
        have h1 := Fr.cell f5 h1 (by omega)
        have h2 := Fr.cell f5 h2 (by omega)
        refine a_aload_n S d_Writer_writeText_59 rfl rfl ?_
        refine a_iconst S (v := 1) d_Writer_writeText_60 (by decide) ?_
        refine a_iload_n S d_Writer_writeText_61 rfl rfl ?_
        refine a_ixor S d_Writer_writeText_62 ?_
        refine a_callV S (rest := []) lg_Writer_53 h.cell (c_Row_append X.2.1 D r (ap l1 [by8 (0 ^^^ nI t)]) (1 ^^^ nI t) w2 n h) (by decide) (by omega) (by omega) rfl (Nat.le_of_ble_eq_true rfl) d_Writer_writeText_63 (fun v7 w8 n9 p10 => ?_)
        obtain ⟨rfl, e12, f11, h⟩ := p10
        rw [e12]
        refine a_st (st' := []) rfl ?_
        have fr := fr.trans (Fr.sub f11 (by omega) (by omega))
        have h1 := Fr.cell f11 h1 (by omega)
        have h2 := Fr.cell f11 h2 (by omega)
        exact RT _ _ _ _ _ _ d_Writer_writeText_66 (by omega) (by omega) ⟨rfl, rfl, fr, (by rw [← he, hi, List.drop_eq_nil_of_le (Nat.le_refl _), ← wt_e ht]; exact h)⟩
      · have hi : i < v0.2.2.2.length := Nat.not_le.mp fun z => h7 ((nI_leI (by omega) (by omega)).mpr z)
        refine a_iload_n S d_Writer_writeText_10 rfl rfl ?_
        refine a_bipush S (v := 10) d_Writer_writeText_11 (by decide) ?_
        refine a_icmp_ge S (tgt := 52) d_Writer_writeText_13 rfl (fun h13 => ?_) (fun h13 => ?_)
        · exact absurd (show 10 ≤ i from (nI_leI (by decide) (by omega)).mp h13) (by omega)
        · refine a_aload_n S d_Writer_writeText_16 rfl rfl ?_
          refine a_aload_n S d_Writer_writeText_17 rfl rfl ?_
          refine a_get S kc_Value 3 (by decide) lf_Writer_96 h1 rfl d_Writer_writeText_18 ?_
          refine a_iload_n S d_Writer_writeText_21 rfl rfl ?_
          refine a_iald S (i := i) h2 rfl (by omega) (by decide) d_Writer_writeText_22 ?_
          refine a_eqi (hf i hi) ?_
          refine a_iload_n S d_Writer_writeText_23 rfl rfl ?_
          refine a_ixor S d_Writer_writeText_24 ?_
          refine a_callV S (rest := []) lg_Writer_53 h.cell (c_Row_append X.2.1 D r l1 (nI (v0.2.2.2.getD i 0) ^^^ nI t) w1 n h) (by decide) (by omega) (by omega) rfl (Nat.le_of_ble_eq_true rfl) d_Writer_writeText_25 (fun v13 w14 n15 p16 => ?_)
          obtain ⟨rfl, e18, f17, h⟩ := p16
          rw [e18]
          refine a_st (st' := []) rfl ?_
          have fr := fr.trans (Fr.sub f17 (by omega) (by omega))
          have h1 := Fr.cell f17 h1 (by omega)
          have h2 := Fr.cell f17 h2 (by omega)
          refine a_aload_n S d_Writer_writeText_28 rfl rfl ?_
          refine a_get S kc_Value 3 (by decide) lf_Writer_96 h1 rfl d_Writer_writeText_29 ?_
          refine a_iload_n S d_Writer_writeText_32 rfl rfl ?_
          refine a_iald S (i := i) h2 rfl (by omega) (by decide) d_Writer_writeText_33 ?_
          refine a_eqi (hf i hi) ?_
          refine a_if_ne S (tgt := 46) d_Writer_writeText_34 rfl (fun h34 => ?_) (fun h34 => ?_)
          · have h34 : ¬ v0.2.2.2.getD i 0 = 0 := fun z => h34 (by rw [z]; rfl)
            refine a_iinc S (v := nI (i + 1)) d_Writer_writeText_46 rfl (ni_add rfl (by decide)) (Nat.le_of_ble_eq_true rfl) (lv' := [(0, .ref a), (1, .int (nI t)), (2, .ref r), (3, .int (nI (i + 1)))]) rfl ?_
            refine a_goto S (tgt := 2) d_Writer_writeText_49 rfl ?_
            exact ih2 _ (by omega) (i + 1) w14 _ rfl (by omega) fr h1 h2 h (by rw [wt_nz ht (getD_lt hby i) h34, ← dropD hi]; exact he)
          · have h34 : v0.2.2.2.getD i 0 = 0 := nI_byte (getD_lt hby i) (by decide) h34
            refine a_aload_n S d_Writer_writeText_37 rfl rfl ?_
            refine a_sipush S (v := 255) d_Writer_writeText_38 (by decide) ?_
            refine a_iload_n S d_Writer_writeText_41 rfl rfl ?_
            refine a_ixor S d_Writer_writeText_42 ?_
            refine a_callV S (rest := []) lg_Writer_53 h.cell (c_Row_append X.2.1 D r (ap l1 [by8 (nI (v0.2.2.2.getD i 0) ^^^ nI t)]) (255 ^^^ nI t) w14 n h) (by decide) (by omega) (by omega) rfl (Nat.le_of_ble_eq_true rfl) d_Writer_writeText_43 (fun v19 w20 n21 p22 => ?_)
            obtain ⟨rfl, e24, f23, h⟩ := p22
            rw [e24]
            refine a_st (st' := []) rfl ?_
            have fr := fr.trans (Fr.sub f23 (by omega) (by omega))
            have h1 := Fr.cell f23 h1 (by omega)
            have h2 := Fr.cell f23 h2 (by omega)
            refine a_iinc S (v := nI (i + 1)) d_Writer_writeText_46 rfl (ni_add rfl (by decide)) (Nat.le_of_ble_eq_true rfl) (lv' := [(0, .ref a), (1, .int (nI t)), (2, .ref r), (3, .int (nI (i + 1)))]) rfl ?_
            refine a_goto S (tgt := 2) d_Writer_writeText_49 rfl ?_
            exact ih2 _ (by omega) (i + 1) w20 _ rfl (by omega) fr h1 h2 h (by rw [wt_z ht h34, ← dropD hi]; exact he)
  exact loop2 _ 0 w l0 rfl (Nat.zero_le _) (Fr.refl _ _ _) h1 h2 h rfl
set_option maxHeartbeats 400000 in
set_option maxRecDepth 100000 in
theorem c_Writer_writeFraction (l : Launch) (D : kD) (r : Nat) (l0 : List Nat) (v s t : Nat) (w : ww) (n : Nat) (hv : v ≠ 0 ∧ v < 10 ^ 16 ∧ s ≤ 9) (ht : t = 0 ∨ t = 255) (h : Row D w r l0) : AM l D M_Writer_writeFraction 1 0 0 [.long (lN v), .int (nI s), .int (nI t), .ref r] w n (fun v' w' n' => v' = none ∧ n' = n ∧ Fr w w' r 2 ∧ Row D w' r (ap l0 ((encP v s).map (tnB t)))) := by
  refine AM.ofv (by decide +kernel) rfl (Nat.le_of_ble_eq_true rfl) (fun X A Q hin S RT => ?_)
  have S : FX X (D, A, 12, Q) prog_3_method_9_code "KeyCodec$KeyWriter" 1 0 0 := S
  have RT : RTv X (D, A, 12, Q) prog_3_method_9_code 0 0 _ := RT
  refine a_lve (lv' := [(0, .long (lN v)), (2, .int (nI s)), (3, .int (nI t)), (4, .ref r)]) rfl ?_
  have fr : Fr w w r 2 := Fr.refl _ _ _
  refine a_iconst S (v := 1) d_Writer_writeFraction_0 (by decide) ?_
  refine a_istore S d_Writer_writeFraction_1 (Nat.le_of_ble_eq_true rfl) (lv' := [(0, .long (lN v)), (2, .int (nI s)), (3, .int (nI t)), (4, .ref r), (5, .int 1)]) rfl ?_
  refine a_lconst S (v := 1) d_Writer_writeFraction_3 (by decide) ?_
  refine a_lstore S d_Writer_writeFraction_4 (Nat.le_of_ble_eq_true rfl) (lv' := [(0, .long (lN v)), (2, .int (nI s)), (3, .int (nI t)), (4, .ref r), (5, .int 1), (6, .long 1)]) rfl ?_
  have loop6 : ∀ (kk6 : Nat) (j : Nat), 15 - j = kk6 → (j ≤ 15) → (10 ^ j ≤ v) → AW X (D, A, 12, Q) 6 [(0, .long (lN v)), (2, .int (nI s)), (3, .int (nI t)), (4, .ref r), (5, .int (nI (j + 1))), (6, .long (lN (10 ^ j)))] [] w n 0 0 := by
    intro kk6
    induction kk6 using Nat.strongRecOn with
    | ind kk6 ih6 =>
      intro j hk6 hj hj2
      refine a_iload S d_Writer_writeFraction_6 rfl ?_
      refine a_bipush S (v := 16) d_Writer_writeFraction_8 (by decide) ?_
      refine a_icmp_ge S (tgt := 38) d_Writer_writeFraction_10 rfl (fun h10 => ?_) (fun h10 => ?_)
      · have h10 : 16 ≤ j + 1 := (nI_leI (by decide) (by omega)).mp h10
        have hj : j = 15 := by omega
        have hp : plc v = j + 1 := plc_is hj2 (by rw [hj]; exact hv.2.1)
        refine a_aload S d_Writer_writeFraction_38 rfl ?_
        refine a_iload S d_Writer_writeFraction_40 rfl ?_
        refine a_iload_n S d_Writer_writeFraction_42 rfl rfl ?_
        refine a_isub S d_Writer_writeFraction_43 ?_
        refine a_bipush S (v := 64) d_Writer_writeFraction_44 (by decide) ?_
        refine a_iadd S d_Writer_writeFraction_46 ?_
        refine a_iload_n S d_Writer_writeFraction_47 rfl rfl ?_
        refine a_ixor S d_Writer_writeFraction_48 ?_
        refine a_callV S (rest := []) lg_Writer_53 h.cell (c_Row_append X.2.1 D r l0 (((nI (j + 1) - nI s) + 64) ^^^ nI t) w n h) (by decide) (by omega) (by omega) rfl (Nat.le_of_ble_eq_true rfl) d_Writer_writeFraction_49 (fun v1 w2 n3 p4 => ?_)
        obtain ⟨rfl, e6, f5, h⟩ := p4
        rw [e6]
        refine a_st (st' := []) rfl ?_
        have fr := fr.trans (Fr.sub f5 (by omega) (by omega))
        refine a_lload_n S d_Writer_writeFraction_52 rfl rfl ?_
        refine a_lstore S d_Writer_writeFraction_53 (Nat.le_of_ble_eq_true rfl) (lv' := [(0, .long (lN v)), (2, .int (nI s)), (3, .int (nI t)), (4, .ref r), (5, .int (nI (j + 1))), (6, .long (lN (10 ^ j))), (8, .long (lN v))]) rfl ?_
        refine a_lload S d_Writer_writeFraction_55 rfl ?_
        refine a_lstore S d_Writer_writeFraction_57 (Nat.le_of_ble_eq_true rfl) (lv' := [(0, .long (lN v)), (2, .int (nI s)), (3, .int (nI t)), (4, .ref r), (5, .int (nI (j + 1))), (6, .long (lN (10 ^ j))), (8, .long (lN v)), (10, .long (lN (10 ^ j)))]) rfl ?_
        have loop59 : ∀ (kk59 : Nat) (k u : Nat) (w1 : ww) (l1 : List Nat), k = kk59 → (k ≤ 16) → (u < 10 ^ k) → (Fr w w1 r 2) → (Row D w1 r l1) → (ap l1 ((dgl k u).map (tnB t)) = ap l0 ((encP v s).map (tnB t))) → AW X (D, A, 12, Q) 59 [(0, .long (lN v)), (2, .int (nI s)), (3, .int (nI t)), (4, .ref r), (5, .int (nI (j + 1))), (6, .long (lN (10 ^ j))), (8, .long (lN u)), (10, .long (lN (unK k)))] [] w1 n (0 + 0) (0 + 0) := by
          intro kk59
          induction kk59 using Nat.strongRecOn with
          | ind kk59 ih59 =>
            intro k u w1 l1 hk59 hk hu fr h he
            have hu63 : u < 2 ^ 63 := Nat.lt_trans hu (p10_lt (by omega))
            refine a_lload S d_Writer_writeFraction_59 rfl ?_
            refine a_lconst S (v := 0) d_Writer_writeFraction_61 (by decide) ?_
            refine a_lcmp S d_Writer_writeFraction_62 ?_
            refine a_if_le S (tgt := 106) d_Writer_writeFraction_63 rfl (fun h63 => ?_) (fun h63 => ?_)
            · have hk0 := unK_z ((l_cmp_le0 (unK_lt (by omega))).mp h63)
              have hu0 : u = 0 := by subst hk0; simp at hu; omega
              refine a_aload S d_Writer_writeFraction_106 rfl ?_
              refine a_iconst S (v := 0) d_Writer_writeFraction_108 (by decide) ?_
              refine a_iload_n S d_Writer_writeFraction_109 rfl rfl ?_
              refine a_ixor S d_Writer_writeFraction_110 ?_
              refine a_callV S (rest := []) lg_Writer_53 h.cell (c_Row_append X.2.1 D r l1 (0 ^^^ nI t) w1 n h) (by decide) (by omega) (by omega) rfl (Nat.le_of_ble_eq_true rfl) d_Writer_writeFraction_111 (fun v7 w8 n9 p10 => ?_)
              obtain ⟨rfl, e12, f11, h⟩ := p10
              rw [e12]
              refine a_st (st' := []) rfl ?_
              have fr := fr.trans (Fr.sub f11 (by omega) (by omega))
              exact RT _ _ _ _ _ _ d_Writer_writeFraction_114 (by omega) (by omega) ⟨rfl, rfl, fr, (by rw [← he, hu0, ← wf_e ht]; exact h)⟩
            · have hk0 : ¬ unK k = 0 := fun z => h63 ((l_cmp_le0 (unK_lt (by omega))).mpr z)
              obtain ⟨i, rfl⟩ : ∃ i, k = i + 1 := ⟨k - 1, by have : k ≠ 0 := (fun z => hk0 (by rw [z]; rfl)); omega⟩
              refine a_lve (lv' := [(0, .long (lN v)), (2, .int (nI s)), (3, .int (nI t)), (4, .ref r), (5, .int (nI (j + 1))), (6, .long (lN (10 ^ j))), (8, .long (lN u)), (10, .long (lN (10 ^ i)))]) rfl ?_
              refine a_lload S d_Writer_writeFraction_66 rfl ?_
              refine a_lconst S (v := 0) d_Writer_writeFraction_68 (by decide) ?_
              refine a_lcmp S d_Writer_writeFraction_69 ?_
              refine a_if_le S (tgt := 106) d_Writer_writeFraction_70 rfl (fun h70 => ?_) (fun h70 => ?_)
              · have hu0 : u = 0 := (l_cmp_le0 hu63).mp h70
                refine a_aload S d_Writer_writeFraction_106 rfl ?_
                refine a_iconst S (v := 0) d_Writer_writeFraction_108 (by decide) ?_
                refine a_iload_n S d_Writer_writeFraction_109 rfl rfl ?_
                refine a_ixor S d_Writer_writeFraction_110 ?_
                refine a_callV S (rest := []) lg_Writer_53 h.cell (c_Row_append X.2.1 D r l1 (0 ^^^ nI t) w1 n h) (by decide) (by omega) (by omega) rfl (Nat.le_of_ble_eq_true rfl) d_Writer_writeFraction_111 (fun v13 w14 n15 p16 => ?_)
                obtain ⟨rfl, e18, f17, h⟩ := p16
                rw [e18]
                refine a_st (st' := []) rfl ?_
                have fr := fr.trans (Fr.sub f17 (by omega) (by omega))
                exact RT _ _ _ _ _ _ d_Writer_writeFraction_114 (by omega) (by omega) ⟨rfl, rfl, fr, (by rw [← he, hu0, ← wf_e ht]; exact h)⟩
              · have hu0 : ¬ u = 0 := fun z => h70 ((l_cmp_le0 hu63).mpr z)
                refine a_aload S d_Writer_writeFraction_73 rfl ?_
                refine a_lload S d_Writer_writeFraction_75 rfl ?_
                refine a_lload S d_Writer_writeFraction_77 rfl ?_
                refine a_ldiv S d_Writer_writeFraction_79 (lN_ne (p10_pos i) (p10_lt (by omega))) ?_
                refine a_eql (y := (lN (u / 10 ^ i))) (pk_lDiv hu63 (p10_pos i) (p10_lt (by omega))) ?_
                refine a_lconst S (v := 1) d_Writer_writeFraction_80 (by decide) ?_
                refine a_ladd S d_Writer_writeFraction_81 ?_
                refine a_eql (y := (lN (u / 10 ^ i + 1))) (lN_add _ _) ?_
                refine a_l2i S d_Writer_writeFraction_82 ?_
                refine a_eqi (y := nI (u / 10 ^ i + 1)) (lN_i _) ?_
                refine a_iload_n S d_Writer_writeFraction_83 rfl rfl ?_
                refine a_ixor S d_Writer_writeFraction_84 ?_
                refine a_callV S (rest := []) lg_Writer_53 h.cell (c_Row_append X.2.1 D r l1 (nI (u / 10 ^ i + 1) ^^^ nI t) w1 n h) (by decide) (by omega) (by omega) rfl (Nat.le_of_ble_eq_true rfl) d_Writer_writeFraction_85 (fun v19 w20 n21 p22 => ?_)
                obtain ⟨rfl, e24, f23, h⟩ := p22
                rw [e24]
                refine a_st (st' := []) rfl ?_
                have fr := fr.trans (Fr.sub f23 (by omega) (by omega))
                refine a_lload S d_Writer_writeFraction_88 rfl ?_
                refine a_lload S d_Writer_writeFraction_90 rfl ?_
                refine a_lrem S d_Writer_writeFraction_92 (lN_ne (p10_pos i) (p10_lt (by omega))) ?_
                refine a_eql (y := (lN (u % 10 ^ i))) (pk_lRem hu63 (p10_pos i) (p10_lt (by omega))) ?_
                refine a_lstore S d_Writer_writeFraction_93 (Nat.le_of_ble_eq_true rfl) (lv' := [(0, .long (lN v)), (2, .int (nI s)), (3, .int (nI t)), (4, .ref r), (5, .int (nI (j + 1))), (6, .long (lN (10 ^ j))), (8, .long (lN (u % 10 ^ i))), (10, .long (lN (10 ^ i)))]) rfl ?_
                refine a_lload S d_Writer_writeFraction_95 rfl ?_
                refine a_ldc2 S (v := 10) lK_Writer_108 d_Writer_writeFraction_97 ?_
                refine a_ldiv S d_Writer_writeFraction_100 (by decide) ?_
                refine a_eql (y := (lN (unK i))) (by rw [← unK_d]; exact pk_lDiv (p10_lt (by omega)) (by decide) (by decide)) ?_
                refine a_lstore S d_Writer_writeFraction_101 (Nat.le_of_ble_eq_true rfl) (lv' := [(0, .long (lN v)), (2, .int (nI s)), (3, .int (nI t)), (4, .ref r), (5, .int (nI (j + 1))), (6, .long (lN (10 ^ j))), (8, .long (lN (u % 10 ^ i))), (10, .long (lN (unK i)))]) rfl ?_
                refine a_goto S (tgt := 59) d_Writer_writeFraction_103 rfl ?_
                exact ih59 _ (by omega) i (u % 10 ^ i) w20 _ rfl (by omega) (Nat.mod_lt _ (p10_pos i)) fr h (by rw [wf_g ht hu hu0]; exact he)
        exact loop59 _ (j + 1) v w2 _ rfl (by omega) (by rw [← hp]; exact plc_lt v) fr h (wf_1 ht hv.2.2 hv.2.1 hp l0)
      · have h10 : j + 1 < 16 := Nat.not_le.mp fun z => h10 ((nI_leI (by decide) (by omega)).mpr z)
        refine a_lload_n S d_Writer_writeFraction_13 rfl rfl ?_
        refine a_lload S d_Writer_writeFraction_14 rfl ?_
        refine a_ldiv S d_Writer_writeFraction_16 (lN_ne (p10_pos j) (p10_lt (by omega))) ?_
        refine a_eql (y := (lN (v / 10 ^ j))) (pk_lDiv (by omega) (p10_pos j) (p10_lt (by omega))) ?_
        refine a_ldc2 S (v := 10) lK_Writer_108 d_Writer_writeFraction_17 ?_
        refine a_lcmp S d_Writer_writeFraction_20 ?_
        refine a_if_lt S (tgt := 38) d_Writer_writeFraction_21 rfl (fun h21 => ?_) (fun h21 => ?_)
        · have h21 : v / 10 ^ j < 10 := (l_cmp_lt (Nat.lt_of_le_of_lt (Nat.div_le_self _ _) (by omega)) (by decide)).mp h21
          have hp : plc v = j + 1 := plc_is hj2 (div_lt10 h21)
          refine a_aload S d_Writer_writeFraction_38 rfl ?_
          refine a_iload S d_Writer_writeFraction_40 rfl ?_
          refine a_iload_n S d_Writer_writeFraction_42 rfl rfl ?_
          refine a_isub S d_Writer_writeFraction_43 ?_
          refine a_bipush S (v := 64) d_Writer_writeFraction_44 (by decide) ?_
          refine a_iadd S d_Writer_writeFraction_46 ?_
          refine a_iload_n S d_Writer_writeFraction_47 rfl rfl ?_
          refine a_ixor S d_Writer_writeFraction_48 ?_
          refine a_callV S (rest := []) lg_Writer_53 h.cell (c_Row_append X.2.1 D r l0 (((nI (j + 1) - nI s) + 64) ^^^ nI t) w n h) (by decide) (by omega) (by omega) rfl (Nat.le_of_ble_eq_true rfl) d_Writer_writeFraction_49 (fun v25 w26 n27 p28 => ?_)
          obtain ⟨rfl, e30, f29, h⟩ := p28
          rw [e30]
          refine a_st (st' := []) rfl ?_
          have fr := fr.trans (Fr.sub f29 (by omega) (by omega))
          refine a_lload_n S d_Writer_writeFraction_52 rfl rfl ?_
          refine a_lstore S d_Writer_writeFraction_53 (Nat.le_of_ble_eq_true rfl) (lv' := [(0, .long (lN v)), (2, .int (nI s)), (3, .int (nI t)), (4, .ref r), (5, .int (nI (j + 1))), (6, .long (lN (10 ^ j))), (8, .long (lN v))]) rfl ?_
          refine a_lload S d_Writer_writeFraction_55 rfl ?_
          refine a_lstore S d_Writer_writeFraction_57 (Nat.le_of_ble_eq_true rfl) (lv' := [(0, .long (lN v)), (2, .int (nI s)), (3, .int (nI t)), (4, .ref r), (5, .int (nI (j + 1))), (6, .long (lN (10 ^ j))), (8, .long (lN v)), (10, .long (lN (10 ^ j)))]) rfl ?_
          have loop59 : ∀ (kk59 : Nat) (k u : Nat) (w1 : ww) (l1 : List Nat), k = kk59 → (k ≤ 16) → (u < 10 ^ k) → (Fr w w1 r 2) → (Row D w1 r l1) → (ap l1 ((dgl k u).map (tnB t)) = ap l0 ((encP v s).map (tnB t))) → AW X (D, A, 12, Q) 59 [(0, .long (lN v)), (2, .int (nI s)), (3, .int (nI t)), (4, .ref r), (5, .int (nI (j + 1))), (6, .long (lN (10 ^ j))), (8, .long (lN u)), (10, .long (lN (unK k)))] [] w1 n (0 + 0) (0 + 0) := by
            intro kk59
            induction kk59 using Nat.strongRecOn with
            | ind kk59 ih59 =>
              intro k u w1 l1 hk59 hk hu fr h he
              have hu63 : u < 2 ^ 63 := Nat.lt_trans hu (p10_lt (by omega))
              refine a_lload S d_Writer_writeFraction_59 rfl ?_
              refine a_lconst S (v := 0) d_Writer_writeFraction_61 (by decide) ?_
              refine a_lcmp S d_Writer_writeFraction_62 ?_
              refine a_if_le S (tgt := 106) d_Writer_writeFraction_63 rfl (fun h63 => ?_) (fun h63 => ?_)
              · have hk0 := unK_z ((l_cmp_le0 (unK_lt (by omega))).mp h63)
                have hu0 : u = 0 := by subst hk0; simp at hu; omega
                refine a_aload S d_Writer_writeFraction_106 rfl ?_
                refine a_iconst S (v := 0) d_Writer_writeFraction_108 (by decide) ?_
                refine a_iload_n S d_Writer_writeFraction_109 rfl rfl ?_
                refine a_ixor S d_Writer_writeFraction_110 ?_
                refine a_callV S (rest := []) lg_Writer_53 h.cell (c_Row_append X.2.1 D r l1 (0 ^^^ nI t) w1 n h) (by decide) (by omega) (by omega) rfl (Nat.le_of_ble_eq_true rfl) d_Writer_writeFraction_111 (fun v31 w32 n33 p34 => ?_)
                obtain ⟨rfl, e36, f35, h⟩ := p34
                rw [e36]
                refine a_st (st' := []) rfl ?_
                have fr := fr.trans (Fr.sub f35 (by omega) (by omega))
                exact RT _ _ _ _ _ _ d_Writer_writeFraction_114 (by omega) (by omega) ⟨rfl, rfl, fr, (by rw [← he, hu0, ← wf_e ht]; exact h)⟩
              · have hk0 : ¬ unK k = 0 := fun z => h63 ((l_cmp_le0 (unK_lt (by omega))).mpr z)
                obtain ⟨i, rfl⟩ : ∃ i, k = i + 1 := ⟨k - 1, by have : k ≠ 0 := (fun z => hk0 (by rw [z]; rfl)); omega⟩
                refine a_lve (lv' := [(0, .long (lN v)), (2, .int (nI s)), (3, .int (nI t)), (4, .ref r), (5, .int (nI (j + 1))), (6, .long (lN (10 ^ j))), (8, .long (lN u)), (10, .long (lN (10 ^ i)))]) rfl ?_
                refine a_lload S d_Writer_writeFraction_66 rfl ?_
                refine a_lconst S (v := 0) d_Writer_writeFraction_68 (by decide) ?_
                refine a_lcmp S d_Writer_writeFraction_69 ?_
                refine a_if_le S (tgt := 106) d_Writer_writeFraction_70 rfl (fun h70 => ?_) (fun h70 => ?_)
                · have hu0 : u = 0 := (l_cmp_le0 hu63).mp h70
                  refine a_aload S d_Writer_writeFraction_106 rfl ?_
                  refine a_iconst S (v := 0) d_Writer_writeFraction_108 (by decide) ?_
                  refine a_iload_n S d_Writer_writeFraction_109 rfl rfl ?_
                  refine a_ixor S d_Writer_writeFraction_110 ?_
                  refine a_callV S (rest := []) lg_Writer_53 h.cell (c_Row_append X.2.1 D r l1 (0 ^^^ nI t) w1 n h) (by decide) (by omega) (by omega) rfl (Nat.le_of_ble_eq_true rfl) d_Writer_writeFraction_111 (fun v37 w38 n39 p40 => ?_)
                  obtain ⟨rfl, e42, f41, h⟩ := p40
                  rw [e42]
                  refine a_st (st' := []) rfl ?_
                  have fr := fr.trans (Fr.sub f41 (by omega) (by omega))
                  exact RT _ _ _ _ _ _ d_Writer_writeFraction_114 (by omega) (by omega) ⟨rfl, rfl, fr, (by rw [← he, hu0, ← wf_e ht]; exact h)⟩
                · have hu0 : ¬ u = 0 := fun z => h70 ((l_cmp_le0 hu63).mpr z)
                  refine a_aload S d_Writer_writeFraction_73 rfl ?_
                  refine a_lload S d_Writer_writeFraction_75 rfl ?_
                  refine a_lload S d_Writer_writeFraction_77 rfl ?_
                  refine a_ldiv S d_Writer_writeFraction_79 (lN_ne (p10_pos i) (p10_lt (by omega))) ?_
                  refine a_eql (y := (lN (u / 10 ^ i))) (pk_lDiv hu63 (p10_pos i) (p10_lt (by omega))) ?_
                  refine a_lconst S (v := 1) d_Writer_writeFraction_80 (by decide) ?_
                  refine a_ladd S d_Writer_writeFraction_81 ?_
                  refine a_eql (y := (lN (u / 10 ^ i + 1))) (lN_add _ _) ?_
                  refine a_l2i S d_Writer_writeFraction_82 ?_
                  refine a_eqi (y := nI (u / 10 ^ i + 1)) (lN_i _) ?_
                  refine a_iload_n S d_Writer_writeFraction_83 rfl rfl ?_
                  refine a_ixor S d_Writer_writeFraction_84 ?_
                  refine a_callV S (rest := []) lg_Writer_53 h.cell (c_Row_append X.2.1 D r l1 (nI (u / 10 ^ i + 1) ^^^ nI t) w1 n h) (by decide) (by omega) (by omega) rfl (Nat.le_of_ble_eq_true rfl) d_Writer_writeFraction_85 (fun v43 w44 n45 p46 => ?_)
                  obtain ⟨rfl, e48, f47, h⟩ := p46
                  rw [e48]
                  refine a_st (st' := []) rfl ?_
                  have fr := fr.trans (Fr.sub f47 (by omega) (by omega))
                  refine a_lload S d_Writer_writeFraction_88 rfl ?_
                  refine a_lload S d_Writer_writeFraction_90 rfl ?_
                  refine a_lrem S d_Writer_writeFraction_92 (lN_ne (p10_pos i) (p10_lt (by omega))) ?_
                  refine a_eql (y := (lN (u % 10 ^ i))) (pk_lRem hu63 (p10_pos i) (p10_lt (by omega))) ?_
                  refine a_lstore S d_Writer_writeFraction_93 (Nat.le_of_ble_eq_true rfl) (lv' := [(0, .long (lN v)), (2, .int (nI s)), (3, .int (nI t)), (4, .ref r), (5, .int (nI (j + 1))), (6, .long (lN (10 ^ j))), (8, .long (lN (u % 10 ^ i))), (10, .long (lN (10 ^ i)))]) rfl ?_
                  refine a_lload S d_Writer_writeFraction_95 rfl ?_
                  refine a_ldc2 S (v := 10) lK_Writer_108 d_Writer_writeFraction_97 ?_
                  refine a_ldiv S d_Writer_writeFraction_100 (by decide) ?_
                  refine a_eql (y := (lN (unK i))) (by rw [← unK_d]; exact pk_lDiv (p10_lt (by omega)) (by decide) (by decide)) ?_
                  refine a_lstore S d_Writer_writeFraction_101 (Nat.le_of_ble_eq_true rfl) (lv' := [(0, .long (lN v)), (2, .int (nI s)), (3, .int (nI t)), (4, .ref r), (5, .int (nI (j + 1))), (6, .long (lN (10 ^ j))), (8, .long (lN (u % 10 ^ i))), (10, .long (lN (unK i)))]) rfl ?_
                  refine a_goto S (tgt := 59) d_Writer_writeFraction_103 rfl ?_
                  exact ih59 _ (by omega) i (u % 10 ^ i) w44 _ rfl (by omega) (Nat.mod_lt _ (p10_pos i)) fr h (by rw [wf_g ht hu hu0]; exact he)
          exact loop59 _ (j + 1) v w26 _ rfl (by omega) (by rw [← hp]; exact plc_lt v) fr h (wf_1 ht hv.2.2 hv.2.1 hp l0)
        · have h21 : ¬ v / 10 ^ j < 10 := fun z => h21 ((l_cmp_lt (Nat.lt_of_le_of_lt (Nat.div_le_self _ _) (by omega)) (by decide)).mpr z)
          refine a_lload S d_Writer_writeFraction_24 rfl ?_
          refine a_ldc2 S (v := 10) lK_Writer_108 d_Writer_writeFraction_26 ?_
          refine a_lmul S d_Writer_writeFraction_29 ?_
          refine a_eql (y := (lN (10 ^ (j + 1)))) (by rw [Nat.pow_succ]; exact lN_mul _ _) ?_
          refine a_lstore S d_Writer_writeFraction_30 (Nat.le_of_ble_eq_true rfl) (lv' := [(0, .long (lN v)), (2, .int (nI s)), (3, .int (nI t)), (4, .ref r), (5, .int (nI (j + 1))), (6, .long (lN (10 ^ (j + 1))))]) rfl ?_
          refine a_iinc S (v := nI (j + 1 + 1)) d_Writer_writeFraction_32 rfl (ni_add rfl (by decide)) (Nat.le_of_ble_eq_true rfl) (lv' := [(0, .long (lN v)), (2, .int (nI s)), (3, .int (nI t)), (4, .ref r), (5, .int (nI (j + 1 + 1))), (6, .long (lN (10 ^ (j + 1))))]) rfl ?_
          refine a_goto S (tgt := 6) d_Writer_writeFraction_35 rfl ?_
          exact ih6 _ (by omega) (j + 1) rfl (by omega) (div_ge10 h21)
  exact loop6 _ 0 rfl (Nat.zero_le _) (by have := hv.1; simp; omega)
set_option maxHeartbeats 400000 in
set_option maxRecDepth 100000 in
theorem c_Writer_writeDecimal (l : Launch) (D : kD) (r : Nat) (l0 : List Nat) (d : Int64) (s t : Nat) (w : ww) (n : Nat) (hok : -(10 : Int) ^ 15 ≤ d.toInt ∧ d.toInt ≤ 10 ^ 15 ∧ s ≤ 9) (ht : t = 0 ∨ t = 255) (h : Row D w r l0) : AM l D M_Writer_writeDecimal 2 0 0 [.long d, .int (nI s), .int (nI t), .ref r] w n (fun v' w' n' => v' = none ∧ n' = n ∧ Fr w w' r 2 ∧ Row D w' r (ap l0 ((encD d.toInt s).map (tnB t)))) := by
  refine AM.ofv (by decide +kernel) rfl (Nat.le_of_ble_eq_true rfl) (fun X A Q hin S RT => ?_)
  have S : FX X (D, A, 5, Q) prog_3_method_8_code "KeyCodec$KeyWriter" 2 0 0 := S
  have RT : RTv X (D, A, 5, Q) prog_3_method_8_code 0 0 _ := RT
  refine a_lve (lv' := [(0, .long d), (2, .int (nI s)), (3, .int (nI t)), (4, .ref r)]) rfl ?_
  have fr : Fr w w r 2 := Fr.refl _ _ _
  refine a_lload_n S d_Writer_writeDecimal_0 rfl rfl ?_
  refine a_lconst S (v := 0) d_Writer_writeDecimal_1 (by decide) ?_
  refine a_lcmp S d_Writer_writeDecimal_2 ?_
  refine a_if_ne S (tgt := 15) d_Writer_writeDecimal_3 rfl (fun h3 => ?_) (fun h3 => ?_)
  · refine a_aload S d_Writer_writeDecimal_15 rfl ?_
    refine a_lload_n S d_Writer_writeDecimal_17 rfl rfl ?_
    refine a_lconst S (v := 0) d_Writer_writeDecimal_18 (by decide) ?_
    refine a_lcmp S d_Writer_writeDecimal_19 ?_
    refine a_if_ge S (tgt := 27) d_Writer_writeDecimal_20 rfl (fun h20 => ?_) (fun h20 => ?_)
    · refine a_iconst S (v := 3) d_Writer_writeDecimal_27 (by decide) ?_
      refine a_iload_n S d_Writer_writeDecimal_28 rfl rfl ?_
      refine a_ixor S d_Writer_writeDecimal_29 ?_
      refine a_callV S (rest := []) lg_Writer_53 h.cell (c_Row_append X.2.1 D r l0 (3 ^^^ nI t) w n h) (by decide) (by omega) (by omega) rfl (Nat.le_of_ble_eq_true rfl) d_Writer_writeDecimal_30 (fun v1 w2 n3 p4 => ?_)
      obtain ⟨rfl, e6, f5, h⟩ := p4
      rw [e6]
      refine a_st (st' := []) rfl ?_
      have fr := fr.trans (Fr.sub f5 (by omega) (by omega))
      refine a_lload_n S d_Writer_writeDecimal_33 rfl rfl ?_
      refine a_mabsl S lm_Writer_99 ts_abs1 ts_math ts_abs2 (by decide) (by omega) (by omega) (Nat.le_of_ble_eq_true rfl) d_Writer_writeDecimal_34 ?_
      refine a_eql (y := (lN d.toInt.natAbs)) (abs_lN hok.1 hok.2.1) ?_
      refine a_iload_n S d_Writer_writeDecimal_37 rfl rfl ?_
      refine a_lload_n S d_Writer_writeDecimal_38 rfl rfl ?_
      refine a_lconst S (v := 0) d_Writer_writeDecimal_39 (by decide) ?_
      refine a_lcmp S d_Writer_writeDecimal_40 ?_
      refine a_if_ge S (tgt := 52) d_Writer_writeDecimal_41 rfl (fun h41 => ?_) (fun h41 => ?_)
      · refine a_iload_n S d_Writer_writeDecimal_52 rfl rfl ?_
        refine a_aload S d_Writer_writeDecimal_53 rfl ?_
        refine a_callS S (rest := []) lg_Writer_105 (c_Writer_writeFraction X.2.1 D r (ap l0 [by8 (3 ^^^ nI t)]) d.toInt.natAbs s t w2 n ⟨by have := d_nz h3; omega, by omega, hok.2.2⟩ (by omega) h) (by decide) (by omega) (by omega) rfl (Nat.le_of_ble_eq_true rfl) d_Writer_writeDecimal_55 (fun v7 w8 n9 p10 => ?_)
        obtain ⟨rfl, e12, f11, h⟩ := p10
        rw [e12]
        refine a_st (st' := []) rfl ?_
        have fr := fr.trans (Fr.sub f11 (by omega) (by omega))
        exact RT _ _ _ _ _ _ d_Writer_writeDecimal_58 (by omega) (by omega) ⟨rfl, rfl, fr, (by rw [← wd_p ht (d_sgnp h20 h3)]; exact h)⟩
      · exact absurd h20 h41
    · refine a_iconst S (v := 1) d_Writer_writeDecimal_23 (by decide) ?_
      refine a_goto S (tgt := 28) d_Writer_writeDecimal_24 rfl ?_
      refine a_iload_n S d_Writer_writeDecimal_28 rfl rfl ?_
      refine a_ixor S d_Writer_writeDecimal_29 ?_
      refine a_callV S (rest := []) lg_Writer_53 h.cell (c_Row_append X.2.1 D r l0 (1 ^^^ nI t) w n h) (by decide) (by omega) (by omega) rfl (Nat.le_of_ble_eq_true rfl) d_Writer_writeDecimal_30 (fun v13 w14 n15 p16 => ?_)
      obtain ⟨rfl, e18, f17, h⟩ := p16
      rw [e18]
      refine a_st (st' := []) rfl ?_
      have fr := fr.trans (Fr.sub f17 (by omega) (by omega))
      refine a_lload_n S d_Writer_writeDecimal_33 rfl rfl ?_
      refine a_mabsl S lm_Writer_99 ts_abs1 ts_math ts_abs2 (by decide) (by omega) (by omega) (Nat.le_of_ble_eq_true rfl) d_Writer_writeDecimal_34 ?_
      refine a_eql (y := (lN d.toInt.natAbs)) (abs_lN hok.1 hok.2.1) ?_
      refine a_iload_n S d_Writer_writeDecimal_37 rfl rfl ?_
      refine a_lload_n S d_Writer_writeDecimal_38 rfl rfl ?_
      refine a_lconst S (v := 0) d_Writer_writeDecimal_39 (by decide) ?_
      refine a_lcmp S d_Writer_writeDecimal_40 ?_
      refine a_if_ge S (tgt := 52) d_Writer_writeDecimal_41 rfl (fun h41 => ?_) (fun h41 => ?_)
      · exact absurd h41 h20
      · refine a_iload_n S d_Writer_writeDecimal_44 rfl rfl ?_
        refine a_sipush S (v := 255) d_Writer_writeDecimal_45 (by decide) ?_
        refine a_ixor S d_Writer_writeDecimal_48 ?_
        refine a_eqi (y := nI (255 - t)) (tn_x ht) ?_
        refine a_goto S (tgt := 53) d_Writer_writeDecimal_49 rfl ?_
        refine a_aload S d_Writer_writeDecimal_53 rfl ?_
        refine a_callS S (rest := []) lg_Writer_105 (c_Writer_writeFraction X.2.1 D r (ap l0 [by8 (1 ^^^ nI t)]) d.toInt.natAbs s (255 - t) w14 n ⟨by have := d_nz h3; omega, by omega, hok.2.2⟩ (by omega) h) (by decide) (by omega) (by omega) rfl (Nat.le_of_ble_eq_true rfl) d_Writer_writeDecimal_55 (fun v19 w20 n21 p22 => ?_)
        obtain ⟨rfl, e24, f23, h⟩ := p22
        rw [e24]
        refine a_st (st' := []) rfl ?_
        have fr := fr.trans (Fr.sub f23 (by omega) (by omega))
        exact RT _ _ _ _ _ _ d_Writer_writeDecimal_58 (by omega) (by omega) ⟨rfl, rfl, fr, (by rw [← wd_n ht (d_sgnn h20) hok.1]; exact h)⟩
  · have h3 : lg_cmp d 0 = 0 := h3
    refine a_aload S d_Writer_writeDecimal_6 rfl ?_
    refine a_iconst S (v := 2) d_Writer_writeDecimal_8 (by decide) ?_
    refine a_iload_n S d_Writer_writeDecimal_9 rfl rfl ?_
    refine a_ixor S d_Writer_writeDecimal_10 ?_
    refine a_callV S (rest := []) lg_Writer_53 h.cell (c_Row_append X.2.1 D r l0 (2 ^^^ nI t) w n h) (by decide) (by omega) (by omega) rfl (Nat.le_of_ble_eq_true rfl) d_Writer_writeDecimal_11 (fun v25 w26 n27 p28 => ?_)
    obtain ⟨rfl, e30, f29, h⟩ := p28
    rw [e30]
    refine a_st (st' := []) rfl ?_
    have fr := fr.trans (Fr.sub f29 (by omega) (by omega))
    exact RT _ _ _ _ _ _ d_Writer_writeDecimal_14 (by omega) (by omega) ⟨rfl, rfl, fr, (by rw [← wd_0 ht (d_sgn0 h3)]; exact h)⟩
set_option maxHeartbeats 400000 in
set_option maxRecDepth 100000 in
theorem c_Writer_writeField (l : Launch) (D : kD) (a b r c : Nat) (s : Bool) (K F : Nat → Nat) (T : Nat → kV) (l0 : List Nat) (i : Nat) (w : ww) (n : Nat) (hd1 : a + 3 ≤ r ∨ r + 2 ≤ a) (hd2 : b + 12 ≤ r ∨ r + 2 ≤ b) (hi : i < c) (hok : okV (K i) (F i) (T i)) (hs : Sch D w a c s K F) (hT : Tup D w b T) (h : Row D w r l0) : AM l D M_Writer_writeField 3 0 0 [.ref a, .ref b, .int (nI i), .ref r] w n (fun v' w' n' => v' = none ∧ n' = n ∧ Fr w w' r 2 ∧ Row D w' r (ap l0 (encF (K i) (F i) (T i)))) := by
  refine AM.ofv (by decide +kernel) rfl (Nat.le_of_ble_eq_true rfl) (fun X A Q hin S RT => ?_)
  have S : FX X (D, A, 6, Q) prog_3_method_4_code "KeyCodec$KeyWriter" 3 0 0 := S
  have RT : RTv X (D, A, 6, Q) prog_3_method_4_code 0 0 _ := RT
  obtain ⟨⟨tf, t1, t2, t3⟩, tvs⟩ := hT
  obtain ⟨hc, hkf, sf, sg, s1, s2, s3, sfg⟩ := hs
  have hs : Sch D w a c s K F := ⟨hc, hkf, sf, sg, s1, s2, s3, sfg⟩
  have hv := tvs i (by omega)
  have vc := hv.cell
  refine a_lve (lv' := [(0, .ref a), (1, .ref b), (2, .int (nI i)), (3, .ref r)]) rfl ?_
  have fr : Fr w w r 2 := Fr.refl _ _ _
  refine a_aload_n S d_Writer_writeField_0 rfl rfl ?_
  refine a_get S kc_Tuple 0 (by decide) lf_Writer_33 t1 rfl d_Writer_writeField_1 ?_
  refine a_iload_n S d_Writer_writeField_4 rfl rfl ?_
  refine a_aald S (i := i) (q := b + 2 + 2 * i) rfl t2 rfl (by omega) (by decide) (t3 i (by omega)) d_Writer_writeField_5 ?_
  refine a_astore S d_Writer_writeField_6 (Nat.le_of_ble_eq_true rfl) (lv' := [(0, .ref a), (1, .ref b), (2, .int (nI i)), (3, .ref r), (4, .ref (b + 2 + 2 * i))]) rfl ?_
  refine a_aload_n S d_Writer_writeField_8 rfl rfl ?_
  refine a_iload_n S d_Writer_writeField_9 rfl rfl ?_
  refine a_iconst S (v := 2) d_Writer_writeField_10 (by decide) ?_
  refine a_callV S (rest := []) lg_Writer_39 s1 (c_Schema_has X.2.1 D a c s K F i 2 w n (by omega) hs) (by decide) (by omega) (by omega) rfl (Nat.le_of_ble_eq_true rfl) d_Writer_writeField_11 (fun v1 w2 n3 p4 => ?_)
  obtain ⟨rfl, e5, e6⟩ := p4
  rw [e5, e6]
  refine a_st (st' := [.int (if nI (F i) &&& 2 = 0 then 0 else 1)]) rfl ?_
  refine a_if_eq S (tgt := 38) d_Writer_writeField_14 rfl (fun h14 => ?_) (fun h14 => ?_)
  · have ho : fOp (F i) = false := fOp_0 (hkf i hi).2 h14
    refine a_aload S d_Writer_writeField_38 rfl ?_
    refine a_get S kc_Value 0 (by decide) lf_Writer_43 vc rfl d_Writer_writeField_40 ?_
    refine a_if_eq S (tgt := 47) d_Writer_writeField_43 rfl (fun h43 => ?_) (fun h43 => ?_)
    · have hm2 : (T i).1 = false := bo_0 h43
      have hm := hm2
      refine a_aload_n S d_Writer_writeField_47 rfl rfl ?_
      refine a_iload_n S d_Writer_writeField_48 rfl rfl ?_
      refine a_callV S (rest := []) lg_Writer_57 s1 (c_Schema_turnOf X.2.1 D a c s K F i w n (by omega) hs) (by decide) (by omega) (by omega) rfl (Nat.le_of_ble_eq_true rfl) d_Writer_writeField_49 (fun v7 w8 n9 p10 => ?_)
      obtain ⟨rfl, e11, e12⟩ := p10
      rw [e11, e12]
      refine a_st (st' := [.int (nI (tnF (F i)))]) rfl ?_
      refine a_istore S d_Writer_writeField_52 (Nat.le_of_ble_eq_true rfl) (lv' := [(0, .ref a), (1, .ref b), (2, .int (nI i)), (3, .ref r), (4, .ref (b + 2 + 2 * i)), (5, .int (nI (tnF (F i))))]) rfl ?_
      refine a_aload_n S d_Writer_writeField_54 rfl rfl ?_
      refine a_get S kc_Schema 0 (by decide) lf_Writer_60 s1 rfl d_Writer_writeField_55 ?_
      refine a_iload_n S d_Writer_writeField_58 rfl rfl ?_
      refine a_iald S (i := i) s2 rfl (by omega) (by decide) d_Writer_writeField_59 ?_
      refine a_eqi ((sfg i hi).1) ?_
      rcases (show K i = 0 ∨ K i = 1 ∨ K i = 2 ∨ K i = 3 by have := (hkf i hi).1; omega) with hk | hk | hk | hk
      · refine a_eqi (y := 0) (by rw [hk]; rfl) ?_
        refine a_lsw S (tgt := 118) d_Writer_writeField_60 (by decide) rfl rfl ?_
        refine a_aload S d_Writer_writeField_118 rfl ?_
        refine a_get S kc_Value 1 (by decide) lf_Writer_64 vc rfl d_Writer_writeField_120 ?_
        refine a_iload S d_Writer_writeField_123 rfl ?_
        refine a_aload_n S d_Writer_writeField_125 rfl rfl ?_
        refine a_callS S (rest := []) lg_Writer_79 (c_Writer_writeInt X.2.1 D r l0 ((T i).2.1) (tnF (F i)) w n (tnF_01 _) h) (by decide) (by omega) (by omega) rfl (Nat.le_of_ble_eq_true rfl) d_Writer_writeField_126 (fun v13 w14 n15 p16 => ?_)
        obtain ⟨rfl, e18, f17, h⟩ := p16
        rw [e18]
        refine a_st (st' := []) rfl ?_
        have fr := fr.trans (Fr.sub f17 (by omega) (by omega))
        have t1 := Fr.cell f17 t1 (by omega)
        have t2 := Fr.cell f17 t2 (by omega)
        have vc := Fr.cell f17 vc (by omega)
        have s1 := Fr.cell f17 s1 (by omega)
        have s2 := Fr.cell f17 s2 (by omega)
        have s3 := Fr.cell f17 s3 (by omega)
        have hs := Sch.fr f17 hs (by omega)
        have hv := Val.fr f17 hv (by omega)
        exact RT _ _ _ _ _ _ d_Writer_writeField_129 (by omega) (by omega) ⟨rfl, rfl, fr, (by rw [← we_n ho hm, hk, ev_0]; exact h)⟩
      · refine a_eqi (y := 1) (by rw [hk]; rfl) ?_
        refine a_lsw S (tgt := 88) d_Writer_writeField_60 (by decide) rfl rfl ?_
        refine a_aload S d_Writer_writeField_88 rfl ?_
        refine a_get S kc_Value 1 (by decide) lf_Writer_64 vc rfl d_Writer_writeField_90 ?_
        refine a_aload S d_Writer_writeField_93 rfl ?_
        refine a_get S kc_Value 2 (by decide) lf_Writer_68 vc rfl d_Writer_writeField_95 ?_
        refine a_eqi (y := nI ((T i).2.2.1.toInt.toNat)) (nn_nI (by have h4 := hok.2.2.2.1; rw [hk] at h4; exact h4.2.2.1)) ?_
        refine a_iload S d_Writer_writeField_98 rfl ?_
        refine a_aload_n S d_Writer_writeField_100 rfl rfl ?_
        refine a_callS S (rest := []) lg_Writer_71 (c_Writer_writeDecimal X.2.1 D r l0 ((T i).2.1) ((T i).2.2.1.toInt.toNat) (tnF (F i)) w n (by have h4 := hok.2.2.2.1; rw [hk] at h4; exact ⟨h4.1, h4.2.1, by have := h4.2.2.2; omega⟩) (tnF_01 _) h) (by decide) (by omega) (by omega) rfl (Nat.le_of_ble_eq_true rfl) d_Writer_writeField_101 (fun v19 w20 n21 p22 => ?_)
        obtain ⟨rfl, e24, f23, h⟩ := p22
        rw [e24]
        refine a_st (st' := []) rfl ?_
        have fr := fr.trans (Fr.sub f23 (by omega) (by omega))
        have t1 := Fr.cell f23 t1 (by omega)
        have t2 := Fr.cell f23 t2 (by omega)
        have vc := Fr.cell f23 vc (by omega)
        have s1 := Fr.cell f23 s1 (by omega)
        have s2 := Fr.cell f23 s2 (by omega)
        have s3 := Fr.cell f23 s3 (by omega)
        have hs := Sch.fr f23 hs (by omega)
        have hv := Val.fr f23 hv (by omega)
        refine a_goto S (tgt := 129) d_Writer_writeField_104 rfl ?_
        exact RT _ _ _ _ _ _ d_Writer_writeField_129 (by omega) (by omega) ⟨rfl, rfl, fr, (by rw [← we_n ho hm, hk, ev_1]; exact h)⟩
      · refine a_eqi (y := 2) (by rw [hk]; rfl) ?_
        refine a_lsw S (tgt := 107) d_Writer_writeField_60 (by decide) rfl rfl ?_
        refine a_aload S d_Writer_writeField_107 rfl ?_
        refine a_iload S d_Writer_writeField_109 rfl ?_
        refine a_aload_n S d_Writer_writeField_111 rfl rfl ?_
        refine a_callS S (rest := []) lg_Writer_75 (c_Writer_writeText X.2.1 D (b + 2 + 2 * i) r (T i) l0 (tnF (F i)) w n (by omega) (tnF_01 _) hv h) (by decide) (by omega) (by omega) rfl (Nat.le_of_ble_eq_true rfl) d_Writer_writeField_112 (fun v25 w26 n27 p28 => ?_)
        obtain ⟨rfl, e30, f29, h⟩ := p28
        rw [e30]
        refine a_st (st' := []) rfl ?_
        have fr := fr.trans (Fr.sub f29 (by omega) (by omega))
        have t1 := Fr.cell f29 t1 (by omega)
        have t2 := Fr.cell f29 t2 (by omega)
        have vc := Fr.cell f29 vc (by omega)
        have s1 := Fr.cell f29 s1 (by omega)
        have s2 := Fr.cell f29 s2 (by omega)
        have s3 := Fr.cell f29 s3 (by omega)
        have hs := Sch.fr f29 hs (by omega)
        have hv := Val.fr f29 hv (by omega)
        refine a_goto S (tgt := 129) d_Writer_writeField_115 rfl ?_
        exact RT _ _ _ _ _ _ d_Writer_writeField_129 (by omega) (by omega) ⟨rfl, rfl, fr, (by rw [← we_n ho hm, hk, ev_2]; exact h)⟩
      · refine a_eqi (y := 3) (by rw [hk]; rfl) ?_
        refine a_lsw S (tgt := 118) d_Writer_writeField_60 (by decide) rfl rfl ?_
        refine a_aload S d_Writer_writeField_118 rfl ?_
        refine a_get S kc_Value 1 (by decide) lf_Writer_64 vc rfl d_Writer_writeField_120 ?_
        refine a_iload S d_Writer_writeField_123 rfl ?_
        refine a_aload_n S d_Writer_writeField_125 rfl rfl ?_
        refine a_callS S (rest := []) lg_Writer_79 (c_Writer_writeInt X.2.1 D r l0 ((T i).2.1) (tnF (F i)) w n (tnF_01 _) h) (by decide) (by omega) (by omega) rfl (Nat.le_of_ble_eq_true rfl) d_Writer_writeField_126 (fun v31 w32 n33 p34 => ?_)
        obtain ⟨rfl, e36, f35, h⟩ := p34
        rw [e36]
        refine a_st (st' := []) rfl ?_
        have fr := fr.trans (Fr.sub f35 (by omega) (by omega))
        have t1 := Fr.cell f35 t1 (by omega)
        have t2 := Fr.cell f35 t2 (by omega)
        have vc := Fr.cell f35 vc (by omega)
        have s1 := Fr.cell f35 s1 (by omega)
        have s2 := Fr.cell f35 s2 (by omega)
        have s3 := Fr.cell f35 s3 (by omega)
        have hs := Sch.fr f35 hs (by omega)
        have hv := Val.fr f35 hv (by omega)
        exact RT _ _ _ _ _ _ d_Writer_writeField_129 (by omega) (by omega) ⟨rfl, rfl, fr, (by rw [← we_n ho hm, hk, ev_3]; exact h)⟩
    · have hm2 : (T i).1 = true := bo_1 h43
      rw [(hok.2.2.1 hm2).1] at ho; cases ho
  · have ho : fOp (F i) = true := fOp_1 (hkf i hi).2 h14
    refine a_aload_n S d_Writer_writeField_17 rfl rfl ?_
    refine a_aload S d_Writer_writeField_18 rfl ?_
    refine a_get S kc_Value 0 (by decide) lf_Writer_43 vc rfl d_Writer_writeField_20 ?_
    refine a_if_eq S (tgt := 34) d_Writer_writeField_23 rfl (fun h23 => ?_) (fun h23 => ?_)
    · have hm : (T i).1 = false := bo_0 h23
      refine a_iconst S (v := 1) d_Writer_writeField_34 (by decide) ?_
      refine a_callV S (rest := []) lg_Writer_53 h.cell (c_Row_append X.2.1 D r l0 1 w n h) (by decide) (by omega) (by omega) rfl (Nat.le_of_ble_eq_true rfl) d_Writer_writeField_35 (fun v37 w38 n39 p40 => ?_)
      obtain ⟨rfl, e42, f41, h⟩ := p40
      rw [e42]
      refine a_st (st' := []) rfl ?_
      have fr := fr.trans (Fr.sub f41 (by omega) (by omega))
      have t1 := Fr.cell f41 t1 (by omega)
      have t2 := Fr.cell f41 t2 (by omega)
      have vc := Fr.cell f41 vc (by omega)
      have s1 := Fr.cell f41 s1 (by omega)
      have s2 := Fr.cell f41 s2 (by omega)
      have s3 := Fr.cell f41 s3 (by omega)
      have hs := Sch.fr f41 hs (by omega)
      have hv := Val.fr f41 hv (by omega)
      refine a_aload S d_Writer_writeField_38 rfl ?_
      refine a_get S kc_Value 0 (by decide) lf_Writer_43 vc rfl d_Writer_writeField_40 ?_
      refine a_if_eq S (tgt := 47) d_Writer_writeField_43 rfl (fun h43 => ?_) (fun h43 => ?_)
      · have hm2 : (T i).1 = false := bo_0 h43
        refine a_aload_n S d_Writer_writeField_47 rfl rfl ?_
        refine a_iload_n S d_Writer_writeField_48 rfl rfl ?_
        refine a_callV S (rest := []) lg_Writer_57 s1 (c_Schema_turnOf X.2.1 D a c s K F i w38 n (by omega) hs) (by decide) (by omega) (by omega) rfl (Nat.le_of_ble_eq_true rfl) d_Writer_writeField_49 (fun v43 w44 n45 p46 => ?_)
        obtain ⟨rfl, e47, e48⟩ := p46
        rw [e47, e48]
        refine a_st (st' := [.int (nI (tnF (F i)))]) rfl ?_
        refine a_istore S d_Writer_writeField_52 (Nat.le_of_ble_eq_true rfl) (lv' := [(0, .ref a), (1, .ref b), (2, .int (nI i)), (3, .ref r), (4, .ref (b + 2 + 2 * i)), (5, .int (nI (tnF (F i))))]) rfl ?_
        refine a_aload_n S d_Writer_writeField_54 rfl rfl ?_
        refine a_get S kc_Schema 0 (by decide) lf_Writer_60 s1 rfl d_Writer_writeField_55 ?_
        refine a_iload_n S d_Writer_writeField_58 rfl rfl ?_
        refine a_iald S (i := i) s2 rfl (by omega) (by decide) d_Writer_writeField_59 ?_
        refine a_eqi ((sfg i hi).1) ?_
        rcases (show K i = 0 ∨ K i = 1 ∨ K i = 2 ∨ K i = 3 by have := (hkf i hi).1; omega) with hk | hk | hk | hk
        · refine a_eqi (y := 0) (by rw [hk]; rfl) ?_
          refine a_lsw S (tgt := 118) d_Writer_writeField_60 (by decide) rfl rfl ?_
          refine a_aload S d_Writer_writeField_118 rfl ?_
          refine a_get S kc_Value 1 (by decide) lf_Writer_64 vc rfl d_Writer_writeField_120 ?_
          refine a_iload S d_Writer_writeField_123 rfl ?_
          refine a_aload_n S d_Writer_writeField_125 rfl rfl ?_
          refine a_callS S (rest := []) lg_Writer_79 (c_Writer_writeInt X.2.1 D r (ap l0 [by8 1]) ((T i).2.1) (tnF (F i)) w38 n (tnF_01 _) h) (by decide) (by omega) (by omega) rfl (Nat.le_of_ble_eq_true rfl) d_Writer_writeField_126 (fun v49 w50 n51 p52 => ?_)
          obtain ⟨rfl, e54, f53, h⟩ := p52
          rw [e54]
          refine a_st (st' := []) rfl ?_
          have fr := fr.trans (Fr.sub f53 (by omega) (by omega))
          have t1 := Fr.cell f53 t1 (by omega)
          have t2 := Fr.cell f53 t2 (by omega)
          have vc := Fr.cell f53 vc (by omega)
          have s1 := Fr.cell f53 s1 (by omega)
          have s2 := Fr.cell f53 s2 (by omega)
          have s3 := Fr.cell f53 s3 (by omega)
          have hs := Sch.fr f53 hs (by omega)
          have hv := Val.fr f53 hv (by omega)
          exact RT _ _ _ _ _ _ d_Writer_writeField_129 (by omega) (by omega) ⟨rfl, rfl, fr, (by rw [← we_o ho hm, hk, ev_0]; exact h)⟩
        · refine a_eqi (y := 1) (by rw [hk]; rfl) ?_
          refine a_lsw S (tgt := 88) d_Writer_writeField_60 (by decide) rfl rfl ?_
          refine a_aload S d_Writer_writeField_88 rfl ?_
          refine a_get S kc_Value 1 (by decide) lf_Writer_64 vc rfl d_Writer_writeField_90 ?_
          refine a_aload S d_Writer_writeField_93 rfl ?_
          refine a_get S kc_Value 2 (by decide) lf_Writer_68 vc rfl d_Writer_writeField_95 ?_
          refine a_eqi (y := nI ((T i).2.2.1.toInt.toNat)) (nn_nI (by have h4 := hok.2.2.2.1; rw [hk] at h4; exact h4.2.2.1)) ?_
          refine a_iload S d_Writer_writeField_98 rfl ?_
          refine a_aload_n S d_Writer_writeField_100 rfl rfl ?_
          refine a_callS S (rest := []) lg_Writer_71 (c_Writer_writeDecimal X.2.1 D r (ap l0 [by8 1]) ((T i).2.1) ((T i).2.2.1.toInt.toNat) (tnF (F i)) w38 n (by have h4 := hok.2.2.2.1; rw [hk] at h4; exact ⟨h4.1, h4.2.1, by have := h4.2.2.2; omega⟩) (tnF_01 _) h) (by decide) (by omega) (by omega) rfl (Nat.le_of_ble_eq_true rfl) d_Writer_writeField_101 (fun v55 w56 n57 p58 => ?_)
          obtain ⟨rfl, e60, f59, h⟩ := p58
          rw [e60]
          refine a_st (st' := []) rfl ?_
          have fr := fr.trans (Fr.sub f59 (by omega) (by omega))
          have t1 := Fr.cell f59 t1 (by omega)
          have t2 := Fr.cell f59 t2 (by omega)
          have vc := Fr.cell f59 vc (by omega)
          have s1 := Fr.cell f59 s1 (by omega)
          have s2 := Fr.cell f59 s2 (by omega)
          have s3 := Fr.cell f59 s3 (by omega)
          have hs := Sch.fr f59 hs (by omega)
          have hv := Val.fr f59 hv (by omega)
          refine a_goto S (tgt := 129) d_Writer_writeField_104 rfl ?_
          exact RT _ _ _ _ _ _ d_Writer_writeField_129 (by omega) (by omega) ⟨rfl, rfl, fr, (by rw [← we_o ho hm, hk, ev_1]; exact h)⟩
        · refine a_eqi (y := 2) (by rw [hk]; rfl) ?_
          refine a_lsw S (tgt := 107) d_Writer_writeField_60 (by decide) rfl rfl ?_
          refine a_aload S d_Writer_writeField_107 rfl ?_
          refine a_iload S d_Writer_writeField_109 rfl ?_
          refine a_aload_n S d_Writer_writeField_111 rfl rfl ?_
          refine a_callS S (rest := []) lg_Writer_75 (c_Writer_writeText X.2.1 D (b + 2 + 2 * i) r (T i) (ap l0 [by8 1]) (tnF (F i)) w38 n (by omega) (tnF_01 _) hv h) (by decide) (by omega) (by omega) rfl (Nat.le_of_ble_eq_true rfl) d_Writer_writeField_112 (fun v61 w62 n63 p64 => ?_)
          obtain ⟨rfl, e66, f65, h⟩ := p64
          rw [e66]
          refine a_st (st' := []) rfl ?_
          have fr := fr.trans (Fr.sub f65 (by omega) (by omega))
          have t1 := Fr.cell f65 t1 (by omega)
          have t2 := Fr.cell f65 t2 (by omega)
          have vc := Fr.cell f65 vc (by omega)
          have s1 := Fr.cell f65 s1 (by omega)
          have s2 := Fr.cell f65 s2 (by omega)
          have s3 := Fr.cell f65 s3 (by omega)
          have hs := Sch.fr f65 hs (by omega)
          have hv := Val.fr f65 hv (by omega)
          refine a_goto S (tgt := 129) d_Writer_writeField_115 rfl ?_
          exact RT _ _ _ _ _ _ d_Writer_writeField_129 (by omega) (by omega) ⟨rfl, rfl, fr, (by rw [← we_o ho hm, hk, ev_2]; exact h)⟩
        · refine a_eqi (y := 3) (by rw [hk]; rfl) ?_
          refine a_lsw S (tgt := 118) d_Writer_writeField_60 (by decide) rfl rfl ?_
          refine a_aload S d_Writer_writeField_118 rfl ?_
          refine a_get S kc_Value 1 (by decide) lf_Writer_64 vc rfl d_Writer_writeField_120 ?_
          refine a_iload S d_Writer_writeField_123 rfl ?_
          refine a_aload_n S d_Writer_writeField_125 rfl rfl ?_
          refine a_callS S (rest := []) lg_Writer_79 (c_Writer_writeInt X.2.1 D r (ap l0 [by8 1]) ((T i).2.1) (tnF (F i)) w38 n (tnF_01 _) h) (by decide) (by omega) (by omega) rfl (Nat.le_of_ble_eq_true rfl) d_Writer_writeField_126 (fun v67 w68 n69 p70 => ?_)
          obtain ⟨rfl, e72, f71, h⟩ := p70
          rw [e72]
          refine a_st (st' := []) rfl ?_
          have fr := fr.trans (Fr.sub f71 (by omega) (by omega))
          have t1 := Fr.cell f71 t1 (by omega)
          have t2 := Fr.cell f71 t2 (by omega)
          have vc := Fr.cell f71 vc (by omega)
          have s1 := Fr.cell f71 s1 (by omega)
          have s2 := Fr.cell f71 s2 (by omega)
          have s3 := Fr.cell f71 s3 (by omega)
          have hs := Sch.fr f71 hs (by omega)
          have hv := Val.fr f71 hv (by omega)
          exact RT _ _ _ _ _ _ d_Writer_writeField_129 (by omega) (by omega) ⟨rfl, rfl, fr, (by rw [← we_o ho hm, hk, ev_3]; exact h)⟩
      · have hm2 : (T i).1 = true := bo_1 h43
        rw [hm] at hm2; cases hm2
    · have hm : (T i).1 = true := bo_1 h23
      refine a_aload_n S d_Writer_writeField_26 rfl rfl ?_
      refine a_iload_n S d_Writer_writeField_27 rfl rfl ?_
      refine a_callV S (rest := [_]) lg_Writer_49 s1 (c_Schema_absentMark X.2.1 D a c s K F i w n (by omega) hs) (by decide) (by omega) (by omega) rfl (Nat.le_of_ble_eq_true rfl) d_Writer_writeField_28 (fun v73 w74 n75 p76 => ?_)
      obtain ⟨rfl, e77, e78⟩ := p76
      rw [e77, e78]
      refine a_st (st' := [.int (nI (mkA (F i))), .ref r]) rfl ?_
      refine a_goto S (tgt := 35) d_Writer_writeField_31 rfl ?_
      refine a_callV S (rest := []) lg_Writer_53 h.cell (c_Row_append X.2.1 D r l0 (nI (mkA (F i))) w n h) (by decide) (by omega) (by omega) rfl (Nat.le_of_ble_eq_true rfl) d_Writer_writeField_35 (fun v79 w80 n81 p82 => ?_)
      obtain ⟨rfl, e84, f83, h⟩ := p82
      rw [e84]
      refine a_st (st' := []) rfl ?_
      have fr := fr.trans (Fr.sub f83 (by omega) (by omega))
      have t1 := Fr.cell f83 t1 (by omega)
      have t2 := Fr.cell f83 t2 (by omega)
      have vc := Fr.cell f83 vc (by omega)
      have s1 := Fr.cell f83 s1 (by omega)
      have s2 := Fr.cell f83 s2 (by omega)
      have s3 := Fr.cell f83 s3 (by omega)
      have hs := Sch.fr f83 hs (by omega)
      have hv := Val.fr f83 hv (by omega)
      refine a_aload S d_Writer_writeField_38 rfl ?_
      refine a_get S kc_Value 0 (by decide) lf_Writer_43 vc rfl d_Writer_writeField_40 ?_
      refine a_if_eq S (tgt := 47) d_Writer_writeField_43 rfl (fun h43 => ?_) (fun h43 => ?_)
      · have hm2 : (T i).1 = false := bo_0 h43
        rw [hm] at hm2; cases hm2
      · have hm2 : (T i).1 = true := bo_1 h43
        exact RT _ _ _ _ _ _ d_Writer_writeField_46 (by omega) (by omega) ⟨rfl, rfl, fr, (by rw [← we_m ho hm]; exact h)⟩
set_option maxHeartbeats 400000 in
set_option maxRecDepth 100000 in
theorem c_Writer_writeFields (l : Launch) (D : kD) (a b r c : Nat) (s : Bool) (K F : Nat → Nat) (T : Nat → kV) (l0 : List Nat) (k : Nat) (w : ww) (n : Nat) (hd1 : a + 3 ≤ r ∨ r + 2 ≤ a) (hd2 : b + 12 ≤ r ∨ r + 2 ≤ b) (hk : k ≤ c) (hok : okT K F T k) (hs : Sch D w a c s K F) (hT : Tup D w b T) (h : Row D w r l0) : AM l D M_Writer_writeFields 4 0 0 [.ref a, .ref b, .int (nI k), .ref r] w n (fun v' w' n' => v' = none ∧ n' = n ∧ Fr w w' r 2 ∧ Row D w' r (ap l0 (fldB K F T k))) := by
  refine AM.ofv (by decide +kernel) rfl (Nat.le_of_ble_eq_true rfl) (fun X A Q hin S RT => ?_)
  have S : FX X (D, A, 5, Q) prog_3_method_3_code "KeyCodec$KeyWriter" 4 0 0 := S
  have RT : RTv X (D, A, 5, Q) prog_3_method_3_code 0 0 _ := RT
  have hc5 := hs.1
  refine a_lve (lv' := [(0, .ref a), (1, .ref b), (2, .int (nI k)), (3, .ref r)]) rfl ?_
  have fr : Fr w w r 2 := Fr.refl _ _ _
  refine a_iconst S (v := 0) d_Writer_writeFields_0 (by decide) ?_
  refine a_istore S d_Writer_writeFields_1 (Nat.le_of_ble_eq_true rfl) (lv' := [(0, .ref a), (1, .ref b), (2, .int (nI k)), (3, .ref r), (4, .int 0)]) rfl ?_
  have loop3 : ∀ (kk3 : Nat) (i : Nat) (w1 : ww), k - i = kk3 → (i ≤ k) → (Fr w w1 r 2) → (Sch D w1 a c s K F) → (Tup D w1 b T) → (Row D w1 r (ap l0 (fldB K F T i))) → AW X (D, A, 5, Q) 3 [(0, .ref a), (1, .ref b), (2, .int (nI k)), (3, .ref r), (4, .int (nI i))] [] w1 n 0 0 := by
    intro kk3
    induction kk3 using Nat.strongRecOn with
    | ind kk3 ih3 =>
      intro i w1 hk3 hi fr hs hT h
      have s1 := hs.cell
      have hc5 := hs.1
      refine a_iload S d_Writer_writeFields_3 rfl ?_
      refine a_iload_n S d_Writer_writeFields_5 rfl rfl ?_
      refine a_icmp_ge S (tgt := 32) d_Writer_writeFields_6 rfl (fun h6 => ?_) (fun h6 => ?_)
      · have hi : i = k := Nat.le_antisymm hi ((nI_leI (by omega) (by omega)).mp h6)
        exact RT _ _ _ _ _ _ d_Writer_writeFields_32 (by omega) (by omega) ⟨rfl, rfl, fr, (by rw [← hi]; exact h)⟩
      · have hi : i < k := Nat.not_le.mp fun z => h6 ((nI_leI (by omega) (by omega)).mpr z)
        refine a_iload S d_Writer_writeFields_9 rfl ?_
        refine a_aload_n S d_Writer_writeFields_11 rfl rfl ?_
        refine a_get S kc_Schema 2 (by decide) lf_Writer_14 s1 rfl d_Writer_writeFields_12 ?_
        refine a_icmp_ge S (tgt := 32) d_Writer_writeFields_15 rfl (fun h15 => ?_) (fun h15 => ?_)
        · exact absurd ((nI_leI (by omega) (by omega)).mp h15) (by omega)
        · refine a_aload_n S d_Writer_writeFields_18 rfl rfl ?_
          refine a_aload_n S d_Writer_writeFields_19 rfl rfl ?_
          refine a_iload S d_Writer_writeFields_20 rfl ?_
          refine a_aload_n S d_Writer_writeFields_22 rfl rfl ?_
          refine a_callS S (rest := []) lg_Writer_30 (c_Writer_writeField X.2.1 D a b r c s K F T (ap l0 (fldB K F T i)) i w1 n (by omega) (by omega) (by omega) (hok i hi) hs hT h) (by decide) (by omega) (by omega) rfl (Nat.le_of_ble_eq_true rfl) d_Writer_writeFields_23 (fun v1 w2 n3 p4 => ?_)
          obtain ⟨rfl, e6, f5, h⟩ := p4
          rw [e6]
          refine a_st (st' := []) rfl ?_
          have fr := fr.trans (Fr.sub f5 (by omega) (by omega))
          have s1 := Fr.cell f5 s1 (by omega)
          have hs := Sch.fr f5 hs (by omega)
          have hT := Tup.fr f5 hT (by omega)
          refine a_iinc S (v := nI (i + 1)) d_Writer_writeFields_26 rfl (ni_add rfl (by decide)) (Nat.le_of_ble_eq_true rfl) (lv' := [(0, .ref a), (1, .ref b), (2, .int (nI k)), (3, .ref r), (4, .int (nI (i + 1)))]) rfl ?_
          refine a_goto S (tgt := 3) d_Writer_writeFields_29 rfl ?_
          exact ih3 _ (by omega) (i + 1) w2 rfl (by omega) fr hs hT (by rw [fldB, ← ap_ap]; exact h)
  exact loop3 _ 0 w rfl (Nat.zero_le _) (Fr.refl _ _ _) hs hT (by rw [fldB, ap_nil h.1]; exact h)
set_option maxHeartbeats 400000 in
set_option maxRecDepth 100000 in
theorem c_Writer_writeTail (l : Launch) (D : kD) (a b r c : Nat) (s : Bool) (K F : Nat → Nat) (T : Nat → kV) (l0 : List Nat) (w : ww) (n : Nat) (hd1 : a + 3 ≤ r ∨ r + 2 ≤ a) (hd2 : b + 12 ≤ r ∨ r + 2 ≤ b) (hok : okT K F T c) (hs : Sch D w a c s K F) (hT : Tup D w b T) (h : Row D w r l0) : AM l D M_Writer_writeTail 2 0 0 [.ref a, .ref b, .ref r] w n (fun v' w' n' => v' = none ∧ n' = n ∧ Fr w w' r 2 ∧ Row D w' r (ap l0 (tlB K T c))) := by
  refine AM.ofv (by decide +kernel) rfl (Nat.le_of_ble_eq_true rfl) (fun X A Q hin S RT => ?_)
  have S : FX X (D, A, 5, Q) prog_3_method_10_code "KeyCodec$KeyWriter" 2 0 0 := S
  have RT : RTv X (D, A, 5, Q) prog_3_method_10_code 0 0 _ := RT
  have hc5 := hs.1
  refine a_lve (lv' := [(0, .ref a), (1, .ref b), (2, .ref r)]) rfl ?_
  have fr : Fr w w r 2 := Fr.refl _ _ _
  refine a_iconst S (v := 0) d_Writer_writeTail_0 (by decide) ?_
  refine a_istore_n S d_Writer_writeTail_1 rfl (Nat.le_of_ble_eq_true rfl) (lv' := [(0, .ref a), (1, .ref b), (2, .ref r), (3, .int 0)]) rfl ?_
  have loop2 : ∀ (kk2 : Nat) (i : Nat) (w1 : ww), c - i = kk2 → (i ≤ c) → (Fr w w1 r 2) → (Sch D w1 a c s K F) → (Tup D w1 b T) → (Row D w1 r (ap l0 (tlB K T i))) → AW X (D, A, 5, Q) 2 [(0, .ref a), (1, .ref b), (2, .ref r), (3, .int (nI i))] [] w1 n 0 0 := by
    intro kk2
    induction kk2 using Nat.strongRecOn with
    | ind kk2 ih2 =>
      intro i w1 hk2 hi fr hs hT h
      have s1 := hs.cell
      have hc5 := hs.1
      refine a_iload_n S d_Writer_writeTail_2 rfl rfl ?_
      refine a_aload_n S d_Writer_writeTail_3 rfl rfl ?_
      refine a_get S kc_Schema 2 (by decide) lf_Writer_14 s1 rfl d_Writer_writeTail_4 ?_
      refine a_icmp_ge S (tgt := 83) d_Writer_writeTail_7 rfl (fun h7 => ?_) (fun h7 => ?_)
      · have hi : i = c := Nat.le_antisymm hi ((nI_leI (by omega) (by omega)).mp h7)
        exact RT _ _ _ _ _ _ d_Writer_writeTail_83 (by omega) (by omega) ⟨rfl, rfl, fr, (by rw [← hi]; exact h)⟩
      · have hi : i < c := Nat.not_le.mp fun z => h7 ((nI_leI (by omega) (by omega)).mpr z)
        obtain ⟨⟨tf, t1, t2, t3⟩, tvs⟩ := hT
        have hT : Tup D w1 b T := ⟨⟨tf, t1, t2, t3⟩, tvs⟩
        obtain ⟨hc, hkf, sf, sg, s1, s2, s3, sfg⟩ := hs
        have hs : Sch D w1 a c s K F := ⟨hc, hkf, sf, sg, s1, s2, s3, sfg⟩
        have vc := (tvs i (by omega)).cell
        have hok := hok i hi
        refine a_aload_n S d_Writer_writeTail_10 rfl rfl ?_
        refine a_get S kc_Tuple 0 (by decide) lf_Writer_33 t1 rfl d_Writer_writeTail_11 ?_
        refine a_iload_n S d_Writer_writeTail_14 rfl rfl ?_
        refine a_aald S (i := i) (q := b + 2 + 2 * i) rfl t2 rfl (by omega) (by decide) (t3 i (by omega)) d_Writer_writeTail_15 ?_
        refine a_astore S d_Writer_writeTail_16 (Nat.le_of_ble_eq_true rfl) (lv' := [(0, .ref a), (1, .ref b), (2, .ref r), (3, .int (nI i)), (4, .ref (b + 2 + 2 * i))]) rfl ?_
        refine a_aload S d_Writer_writeTail_18 rfl ?_
        refine a_get S kc_Value 0 (by decide) lf_Writer_43 vc rfl d_Writer_writeTail_20 ?_
        refine a_if_eq S (tgt := 29) d_Writer_writeTail_23 rfl (fun h23 => ?_) (fun h23 => ?_)
        · have hm : (T i).1 = false := bo_0 h23
          refine a_aload_n S d_Writer_writeTail_29 rfl rfl ?_
          refine a_get S kc_Schema 0 (by decide) lf_Writer_60 s1 rfl d_Writer_writeTail_30 ?_
          refine a_iload_n S d_Writer_writeTail_33 rfl rfl ?_
          refine a_iald S (i := i) s2 rfl (by omega) (by decide) d_Writer_writeTail_34 ?_
          refine a_eqi ((sfg i hi).1) ?_
          refine a_iconst S (v := 1) d_Writer_writeTail_35 (by decide) ?_
          refine a_icmp_ne S (tgt := 51) d_Writer_writeTail_36 rfl (fun h36 => ?_) (fun h36 => ?_)
          · have h36 : ¬ K i = 1 := fun z => h36 (by rw [z]; rfl)
            refine a_aload_n S d_Writer_writeTail_51 rfl rfl ?_
            refine a_get S kc_Schema 0 (by decide) lf_Writer_60 s1 rfl d_Writer_writeTail_52 ?_
            refine a_iload_n S d_Writer_writeTail_55 rfl rfl ?_
            refine a_iald S (i := i) s2 rfl (by omega) (by decide) d_Writer_writeTail_56 ?_
            refine a_eqi ((sfg i hi).1) ?_
            refine a_iconst S (v := 3) d_Writer_writeTail_57 (by decide) ?_
            refine a_icmp_ne S (tgt := 77) d_Writer_writeTail_58 rfl (fun h58 => ?_) (fun h58 => ?_)
            · have h58 : ¬ K i = 3 := fun z => h58 (by rw [z]; rfl)
              refine a_iinc S (v := nI (i + 1)) d_Writer_writeTail_77 rfl (ni_add rfl (by decide)) (Nat.le_of_ble_eq_true rfl) (lv' := [(0, .ref a), (1, .ref b), (2, .ref r), (3, .int (nI (i + 1))), (4, .ref (b + 2 + 2 * i))]) rfl ?_
              refine a_goto S (tgt := 2) d_Writer_writeTail_80 rfl ?_
              refine a_lv [0, 1, 2, 3] (lv' := [(0, .ref a), (1, .ref b), (2, .ref r), (3, .int (nI (i + 1)))]) rfl ?_
              exact ih2 _ (by omega) (i + 1) w1 rfl (by omega) fr hs hT (by rw [tlB]; rcases (show K i = 0 ∨ K i = 2 by have := (hkf i hi).1; omega) with e | e; rw [e, tl_0, List.append_nil]; exact h; rw [e, tl_2, List.append_nil]; exact h)
            · have h58 : K i = 3 := (nI_eq (by have := (hkf i hi).1; omega) (by decide)).mp h58
              refine a_aload_n S d_Writer_writeTail_61 rfl rfl ?_
              refine a_iconst S (v := 2) d_Writer_writeTail_62 (by decide) ?_
              refine a_aload S d_Writer_writeTail_63 rfl ?_
              refine a_get S kc_Value 2 (by decide) lf_Writer_68 vc rfl d_Writer_writeTail_65 ?_
              refine a_sipush S (v := 1000) d_Writer_writeTail_68 (by decide) ?_
              refine a_iadd S d_Writer_writeTail_71 ?_
              refine a_i2l S d_Writer_writeTail_72 ?_
              refine a_iconst S (v := 0) d_Writer_writeTail_73 (by decide) ?_
              refine a_callV S (rest := []) lg_Writer_89 h.cell (c_Row_appendLowest X.2.1 D r (ap l0 (tlB K T i)) 2 (((T i).2.2.1 + 1000).toInt64) 0 w1 n (by omega) (Or.inl rfl) h) (by decide) (by omega) (by omega) rfl (Nat.le_of_ble_eq_true rfl) d_Writer_writeTail_74 (fun v1 w2 n3 p4 => ?_)
              obtain ⟨rfl, e6, f5, h⟩ := p4
              rw [e6]
              refine a_st (st' := []) rfl ?_
              have fr := fr.trans (Fr.sub f5 (by omega) (by omega))
              have t1 := Fr.cell f5 t1 (by omega)
              have t2 := Fr.cell f5 t2 (by omega)
              have vc := Fr.cell f5 vc (by omega)
              have s1 := Fr.cell f5 s1 (by omega)
              have s2 := Fr.cell f5 s2 (by omega)
              have s3 := Fr.cell f5 s3 (by omega)
              have hs := Sch.fr f5 hs (by omega)
              have hT := Tup.fr f5 hT (by omega)
              refine a_iinc S (v := nI (i + 1)) d_Writer_writeTail_77 rfl (ni_add rfl (by decide)) (Nat.le_of_ble_eq_true rfl) (lv' := [(0, .ref a), (1, .ref b), (2, .ref r), (3, .int (nI (i + 1))), (4, .ref (b + 2 + 2 * i))]) rfl ?_
              refine a_goto S (tgt := 2) d_Writer_writeTail_80 rfl ?_
              refine a_lv [0, 1, 2, 3] (lv' := [(0, .ref a), (1, .ref b), (2, .ref r), (3, .int (nI (i + 1)))]) rfl ?_
              exact ih2 _ (by omega) (i + 1) w2 rfl (by omega) fr hs hT (by rw [tlB, h58, ← tl_3 hm (by have h4 := hok.2.2.2.1; rw [h58] at h4; exact h4.2.2.1) (by have h4 := hok.2.2.2.1; rw [h58] at h4; exact h4.2.2.2), ← ap_ap]; exact h)
          · have h36 : K i = 1 := (nI_eq (by have := (hkf i hi).1; omega) (by decide)).mp h36
            refine a_aload_n S d_Writer_writeTail_39 rfl rfl ?_
            refine a_aload S d_Writer_writeTail_40 rfl ?_
            refine a_get S kc_Value 2 (by decide) lf_Writer_68 vc rfl d_Writer_writeTail_42 ?_
            refine a_callV S (rest := []) lg_Writer_53 h.cell (c_Row_append X.2.1 D r (ap l0 (tlB K T i)) ((T i).2.2.1) w1 n h) (by decide) (by omega) (by omega) rfl (Nat.le_of_ble_eq_true rfl) d_Writer_writeTail_45 (fun v7 w8 n9 p10 => ?_)
            obtain ⟨rfl, e12, f11, h⟩ := p10
            rw [e12]
            refine a_st (st' := []) rfl ?_
            have fr := fr.trans (Fr.sub f11 (by omega) (by omega))
            have t1 := Fr.cell f11 t1 (by omega)
            have t2 := Fr.cell f11 t2 (by omega)
            have vc := Fr.cell f11 vc (by omega)
            have s1 := Fr.cell f11 s1 (by omega)
            have s2 := Fr.cell f11 s2 (by omega)
            have s3 := Fr.cell f11 s3 (by omega)
            have hs := Sch.fr f11 hs (by omega)
            have hT := Tup.fr f11 hT (by omega)
            refine a_goto S (tgt := 77) d_Writer_writeTail_48 rfl ?_
            refine a_iinc S (v := nI (i + 1)) d_Writer_writeTail_77 rfl (ni_add rfl (by decide)) (Nat.le_of_ble_eq_true rfl) (lv' := [(0, .ref a), (1, .ref b), (2, .ref r), (3, .int (nI (i + 1))), (4, .ref (b + 2 + 2 * i))]) rfl ?_
            refine a_goto S (tgt := 2) d_Writer_writeTail_80 rfl ?_
            refine a_lv [0, 1, 2, 3] (lv' := [(0, .ref a), (1, .ref b), (2, .ref r), (3, .int (nI (i + 1)))]) rfl ?_
            exact ih2 _ (by omega) (i + 1) w8 rfl (by omega) fr hs hT (by rw [tlB, h36, ← tl_1 hm (by have h4 := hok.2.2.2.1; rw [h36] at h4; exact h4.2.2.1) (by have h4 := hok.2.2.2.1; rw [h36] at h4; exact h4.2.2.2), ← ap_ap]; exact h)
        · have hm : (T i).1 = true := bo_1 h23
          refine a_goto S (tgt := 77) d_Writer_writeTail_26 rfl ?_
          refine a_iinc S (v := nI (i + 1)) d_Writer_writeTail_77 rfl (ni_add rfl (by decide)) (Nat.le_of_ble_eq_true rfl) (lv' := [(0, .ref a), (1, .ref b), (2, .ref r), (3, .int (nI (i + 1))), (4, .ref (b + 2 + 2 * i))]) rfl ?_
          refine a_goto S (tgt := 2) d_Writer_writeTail_80 rfl ?_
          refine a_lv [0, 1, 2, 3] (lv' := [(0, .ref a), (1, .ref b), (2, .ref r), (3, .int (nI (i + 1)))]) rfl ?_
          exact ih2 _ (by omega) (i + 1) w1 rfl (by omega) fr hs hT (by rw [tlB, tl_m hm, List.append_nil]; exact h)
  exact loop2 _ 0 w rfl (Nat.zero_le _) (Fr.refl _ _ _) hs hT (by rw [tlB, ap_nil h.1]; exact h)
set_option maxHeartbeats 400000 in
set_option maxRecDepth 100000 in
theorem c_Writer_writeKey (l : Launch) (D : kD) (a b r c : Nat) (s : Bool) (K F : Nat → Nat) (T : Nat → kV) (l0 : List Nat) (w : ww) (n : Nat) (hd1 : a + 3 ≤ r ∨ r + 2 ≤ a) (hd2 : b + 12 ≤ r ∨ r + 2 ≤ b) (hok : okT K F T c) (hs : Sch D w a c s K F) (hT : Tup D w b T) (h : Row D w r l0) : AM l D M_Writer_writeKey 5 0 0 [.ref a, .ref b, .ref r] w n (fun v' w' n' => v' = none ∧ n' = n ∧ Fr w w' r 2 ∧ Row D w' r (keyB K F T c)) := by
  refine AM.ofv (by decide +kernel) rfl (Nat.le_of_ble_eq_true rfl) (fun X A Q hin S RT => ?_)
  have S : FX X (D, A, 3, Q) prog_3_method_2_code "KeyCodec$KeyWriter" 5 0 0 := S
  have RT : RTv X (D, A, 3, Q) prog_3_method_2_code 0 0 _ := RT
  have hc5 := hs.1
  have s1 := hs.cell
  refine a_lve (lv' := [(0, .ref a), (1, .ref b), (2, .ref r)]) rfl ?_
  have fr : Fr w w r 2 := Fr.refl _ _ _
  refine a_aload_n S d_Writer_writeKey_0 rfl rfl ?_
  refine a_callV S (rest := []) lg_Writer_9 h.cell (c_Row_empty X.2.1 D r l0 w n h) (by decide) (by omega) (by omega) rfl (Nat.le_of_ble_eq_true rfl) d_Writer_writeKey_1 (fun v1 w2 n3 p4 => ?_)
  obtain ⟨rfl, e6, f5, h⟩ := p4
  rw [e6]
  refine a_st (st' := []) rfl ?_
  have fr := fr.trans (Fr.sub f5 (by omega) (by omega))
  have s1 := Fr.cell f5 s1 (by omega)
  have hs := Sch.fr f5 hs (by omega)
  have hT := Tup.fr f5 hT (by omega)
  refine a_aload_n S d_Writer_writeKey_4 rfl rfl ?_
  refine a_aload_n S d_Writer_writeKey_5 rfl rfl ?_
  refine a_aload_n S d_Writer_writeKey_6 rfl rfl ?_
  refine a_get S kc_Schema 2 (by decide) lf_Writer_14 s1 rfl d_Writer_writeKey_7 ?_
  refine a_aload_n S d_Writer_writeKey_10 rfl rfl ?_
  refine a_callS S (rest := []) lg_Writer_20 (c_Writer_writeFields X.2.1 D a b r c s K F T ([]) c w2 n (by omega) (by omega) (Nat.le_refl _) hok hs hT h) (by decide) (by omega) (by omega) rfl (Nat.le_of_ble_eq_true rfl) d_Writer_writeKey_11 (fun v7 w8 n9 p10 => ?_)
  obtain ⟨rfl, e12, f11, h⟩ := p10
  rw [e12]
  refine a_st (st' := []) rfl ?_
  have fr := fr.trans (Fr.sub f11 (by omega) (by omega))
  have s1 := Fr.cell f11 s1 (by omega)
  have hs := Sch.fr f11 hs (by omega)
  have hT := Tup.fr f11 hT (by omega)
  refine a_aload_n S d_Writer_writeKey_14 rfl rfl ?_
  refine a_aload_n S d_Writer_writeKey_15 rfl rfl ?_
  refine a_aload_n S d_Writer_writeKey_16 rfl rfl ?_
  refine a_callS S (rest := []) lg_Writer_26 (c_Writer_writeTail X.2.1 D a b r c s K F T (ap ([]) (fldB K F T c)) w8 n (by omega) (by omega) hok hs hT h) (by decide) (by omega) (by omega) rfl (Nat.le_of_ble_eq_true rfl) d_Writer_writeKey_17 (fun v13 w14 n15 p16 => ?_)
  obtain ⟨rfl, e18, f17, h⟩ := p16
  rw [e18]
  refine a_st (st' := []) rfl ?_
  have fr := fr.trans (Fr.sub f17 (by omega) (by omega))
  have s1 := Fr.cell f17 s1 (by omega)
  have hs := Sch.fr f17 hs (by omega)
  have hT := Tup.fr f17 hT (by omega)
  exact RT _ _ _ _ _ _ d_Writer_writeKey_20 (by omega) (by omega) ⟨rfl, rfl, fr, (by rw [← key_ap hc5 hok]; exact h)⟩
