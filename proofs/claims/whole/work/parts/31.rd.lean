set_option maxHeartbeats 400000 in
set_option maxRecDepth 100000 in
theorem c_Reader_init (l : Launch) (D : kD) (a sa ra : Nat) (w : ww) (r1 : w a = some (.inr (5, [.null, .null, .int 0, .int 0, .null]))) : AM l D M_Reader_init 1 1 5 [.ref a, .ref sa, .ref ra] w (a + 1) (fun v w' n' => v = none ∧ n' = a + 2 ∧ Fr w w' a 2 ∧ Rd D w' a sa ra 0 0 (fun _ => 0)) := by
  refine AM.ofv (by decide +kernel) rfl (Nat.le_of_ble_eq_true rfl) (fun X A Q hin S RT => ?_)
  have S : FX X (D, A, 3, Q) prog_2_method_1_code "KeyCodec$KeyReader" 1 1 5 := S
  have RT : RTv X (D, A, 3, Q) prog_2_method_1_code 1 5 _ := RT
  refine a_lve (lv' := [(0, .ref a), (1, .ref sa), (2, .ref ra)]) rfl ?_
  have fr : Fr w w a 2 := Fr.refl _ _ _
  refine a_aload_n S d_Reader_init_0 rfl rfl ?_
  refine a_objInit S lo_Reader_3 ts_oi1 ts_oi2 (by decide) (Nat.le_of_ble_eq_true rfl) d_Reader_init_1 ?_
  refine a_aload_n S d_Reader_init_4 rfl rfl ?_
  refine a_iconst S (v := 0) d_Reader_init_5 (by decide) ?_
  refine a_put S kc_Reader kt_Reader 2 (by decide) lf_Reader_9 rfl r1 rfl rfl (Nat.le_of_ble_eq_true rfl) d_Reader_init_6 (fun w1 r1 e2 => ?_)
  have r1 : w1 a = some (.inr (5, [.null, .null, .int 0, .int 0, .null])) := r1
  have fr := fr.trans (Fr.sub (Fr.of1 e2) (by omega) (by omega))
  refine a_aload_n S d_Reader_init_9 rfl rfl ?_
  refine a_iconst S (v := 0) d_Reader_init_10 (by decide) ?_
  refine a_put S kc_Reader kt_Reader 3 (by decide) lf_Reader_15 rfl r1 rfl rfl (Nat.le_of_ble_eq_true rfl) d_Reader_init_11 (fun w3 r1 e4 => ?_)
  have r1 : w3 a = some (.inr (5, [.null, .null, .int 0, .int 0, .null])) := r1
  have fr := fr.trans (Fr.sub (Fr.of1 e4) (by omega) (by omega))
  refine a_aload_n S d_Reader_init_14 rfl rfl ?_
  refine a_iconst S (v := 5) d_Reader_init_15 (by decide) ?_
  refine a_newa S (at0 := .int) (ty := .int) (t0 := 0) (N := 5) (a0 := (5, .inl (fun _ => 0))) rfl rfl (fun _ _ h => h) ar_int (fun _ => rfl) rfl (by decide) (by decide) (by omega) (by omega) d_Reader_init_16 (fun w5 hn7 e6 => ?_)
  have fr := fr.trans (Fr.sub (Fr.of1 e6) (by omega) (by omega))
  have r1 := Fr.cell (Fr.of1 e6) r1 (by omega)
  refine a_putF S hin kc_Reader kt_Reader 4 (by decide) lf_Reader_18 rfl rfl r1 rfl rfl (Nat.le_of_ble_eq_true rfl) d_Reader_init_18 (fun w8 r1 e9 => ?_)
  have r1 : w8 a = some (.inr (5, [.null, .null, .int 0, .int 0, .ref (a + 1)])) := r1
  have fr := fr.trans (Fr.sub (Fr.of1 e9) (by omega) (by omega))
  have hn7 := Fr.cell (Fr.of1 e9) hn7 (by omega)
  refine a_aload_n S d_Reader_init_21 rfl rfl ?_
  refine a_aload_n S d_Reader_init_22 rfl rfl ?_
  refine a_putF S hin kc_Reader kt_Reader 0 (by decide) lf_Reader_22 rfl rfl r1 rfl rfl (Nat.le_of_ble_eq_true rfl) d_Reader_init_23 (fun w10 r1 e11 => ?_)
  have r1 : w10 a = some (.inr (5, [.ref sa, .null, .int 0, .int 0, .ref (a + 1)])) := r1
  have fr := fr.trans (Fr.sub (Fr.of1 e11) (by omega) (by omega))
  have hn7 := Fr.cell (Fr.of1 e11) hn7 (by omega)
  refine a_aload_n S d_Reader_init_26 rfl rfl ?_
  refine a_aload_n S d_Reader_init_27 rfl rfl ?_
  refine a_putF S hin kc_Reader kt_Reader 1 (by decide) lf_Reader_26 rfl rfl r1 rfl rfl (Nat.le_of_ble_eq_true rfl) d_Reader_init_28 (fun w12 r1 e13 => ?_)
  have r1 : w12 a = some (.inr (5, [.ref sa, .ref ra, .int 0, .int 0, .ref (a + 1)])) := r1
  have fr := fr.trans (Fr.sub (Fr.of1 e13) (by omega) (by omega))
  have hn7 := Fr.cell (Fr.of1 e13) hn7 (by omega)
  exact RT _ _ _ _ _ _ d_Reader_init_31 (by omega) (by omega) ⟨rfl, rfl, fr, r1, hn7⟩
set_option maxHeartbeats 400000 in
set_option maxRecDepth 100000 in
theorem c_Reader_next (l : Launch) (D : kD) (a sa ra p t : Nat) (pw : Nat → Int32) (l0 : List Nat) (w : ww) (n : Nat) (hd : a + 2 ≤ ra ∨ ra + 2 ≤ a) (hp0 : p ≤ l0.length) (ht : t = 0 ∨ t = 255) (hl : Row D w ra l0) (hr : Rd D w a sa ra p t pw) : AM l D M_Reader_next 1 0 0 [.ref a] w n (fun v w' n' => n' = n ∧ Fr w w' a 2 ∧ ((p < l0.length ∧ v = some (.int (nI (tnB t (l0.getD p 0)))) ∧ Rd D w' a sa ra (p + 1) t pw) ∨ (l0.length ≤ p ∧ v = some (.int (-1)) ∧ Rd D w' a sa ra p t pw))) := by
  refine AM.ofi (by decide +kernel) rfl (Nat.le_of_ble_eq_true rfl) (fun X A Q hin S RT => ?_)
  have S : FX X (D, A, 2, Q) prog_2_method_3_code "KeyCodec$KeyReader" 1 0 0 := S
  have RT : RTi X (D, A, 2, Q) prog_2_method_3_code 0 0 _ := RT
  have hl0 := hl
  obtain ⟨r1, r2⟩ := hr
  refine a_lve (lv' := [(0, .ref a)]) rfl ?_
  have fr : Fr w w a 2 := Fr.refl _ _ _
  refine a_aload_n S d_Reader_next_0 rfl rfl ?_
  refine a_get S kc_Reader 1 (by decide) lf_Reader_26 r1 rfl d_Reader_next_1 ?_
  refine a_aload_n S d_Reader_next_4 rfl rfl ?_
  refine a_get S kc_Reader 2 (by decide) lf_Reader_9 r1 rfl d_Reader_next_5 ?_
  refine a_callV S (rest := []) lg_Reader_57 hl.cell (c_Row_byteAt X.2.1 D ra l0 (nI p) w n hl) (by decide) (by omega) (by omega) rfl (Nat.le_of_ble_eq_true rfl) d_Reader_next_8 (fun v1 w2 n3 p4 => ?_)
  obtain ⟨rfl, e5, e6⟩ := p4
  rw [e5, e6]
  refine a_st (st' := [.int (atB l0 (nI p))]) rfl ?_
  rcases Nat.lt_or_ge p l0.length with hp | hp
  · refine a_eqi (y := nI (l0.getD p 0)) (atB_in hp (by have := hl.1; omega)) ?_
    refine a_istore_n S d_Reader_next_11 rfl (Nat.le_of_ble_eq_true rfl) (lv' := [(0, .ref a), (1, .int (nI (l0.getD p 0)))]) rfl ?_
    refine a_iload_n S d_Reader_next_12 rfl rfl ?_
    refine a_iconst S (v := (-1)) d_Reader_next_13 (by decide) ?_
    refine a_icmp_ne S (tgt := 19) d_Reader_next_14 rfl (fun h14 => ?_) (fun h14 => ?_)
    · refine a_aload_n S d_Reader_next_19 rfl rfl ?_
      refine a_dup S d_Reader_next_20 rfl ?_
      refine a_get S kc_Reader 2 (by decide) lf_Reader_9 r1 rfl d_Reader_next_21 ?_
      refine a_iconst S (v := 1) d_Reader_next_24 (by decide) ?_
      refine a_iadd S d_Reader_next_25 ?_
      refine a_put S kc_Reader kt_Reader 2 (by decide) lf_Reader_9 rfl r1 rfl rfl (Nat.le_of_ble_eq_true rfl) d_Reader_next_26 (fun w7 r1 e8 => ?_)
      have r1 : w7 a = some (.inr (5, [.ref sa, .ref ra, .int (nI p + 1), .int (nI t), .ref (a + 1)])) := r1
      have fr := fr.trans (Fr.sub (Fr.of1 e8) (by omega) (by omega))
      have r2 := Fr.cell (Fr.of1 e8) r2 (by omega)
      have hl := Row.fr (Fr.of1 e8) hl (by omega)
      refine a_iload_n S d_Reader_next_29 rfl rfl ?_
      refine a_aload_n S d_Reader_next_30 rfl rfl ?_
      refine a_get S kc_Reader 3 (by decide) lf_Reader_15 r1 rfl d_Reader_next_31 ?_
      refine a_ixor S d_Reader_next_34 ?_
      refine a_eqi (y := nI (tnB t (l0.getD p 0))) (xor_tn ht (getD_lt hl0.2.1 p)) ?_
      exact RT _ _ _ _ _ _ _ d_Reader_next_35 (by omega) (by omega) ⟨rfl, fr, Or.inl ⟨hp, rfl, (by rw [nI_succ]; exact r1), r2⟩⟩
    · exact absurd h14 (nI_m1 (getD_lt hl.2.1 p))
  · refine a_eqi (y := (-1)) (atB_out hp (by have := hl.1; omega)) ?_
    refine a_istore_n S d_Reader_next_11 rfl (Nat.le_of_ble_eq_true rfl) (lv' := [(0, .ref a), (1, .int (-1))]) rfl ?_
    refine a_iload_n S d_Reader_next_12 rfl rfl ?_
    refine a_iconst S (v := (-1)) d_Reader_next_13 (by decide) ?_
    refine a_icmp_ne S (tgt := 19) d_Reader_next_14 rfl (fun h14 => ?_) (fun h14 => ?_)
    · exact absurd (by decide) h14
    · refine a_iconst S (v := (-1)) d_Reader_next_17 (by decide) ?_
      exact RT _ _ _ _ _ _ _ d_Reader_next_18 (by omega) (by omega) ⟨rfl, fr, Or.inr ⟨hp, rfl, r1, r2⟩⟩
set_option maxHeartbeats 400000 in
set_option maxRecDepth 100000 in
theorem c_Reader_readInt (l : Launch) (D : kD) (va : Nat) (v0 : kV) (a sa ra p t : Nat) (pw : Nat → Int32) (l0 : List Nat) (w : ww) (n : Nat) (hd1 : a + 2 ≤ ra ∨ ra + 2 ≤ a) (hd2 : a + 2 ≤ va ∨ va + 2 ≤ a) (hd3 : va + 2 ≤ ra ∨ ra + 2 ≤ va) (hp0 : p ≤ l0.length) (ht : t = 0 ∨ t = 255) (hl : Row D w ra l0) (hr : Rd D w a sa ra p t pw) (hv : Val D w va v0) : AM l D M_Reader_readInt 2 0 0 [.ref a, .ref va] w n (fun v w' n' => ∃ (ok : Bool) (p1 : Nat) (v1 : kV), v = some (.int (if ok then 1 else 0)) ∧ n' = n ∧ Fr2 w w' a 2 va 2 ∧ Rd D w' a sa ra p1 t pw ∧ p1 ≤ l0.length ∧ Val D w' va v1 ∧ (ok = true → ∃ Nn : Nat, rdI t (l0.drop p) = some (Nn, l0.drop p1) ∧ v1 = (false, lN Nn, 0, [])) ∧ (ok = false → rdI t (l0.drop p) = none)) := by
  refine AM.ofz (by decide +kernel) rfl (Nat.le_of_ble_eq_true rfl) (fun X A Q hin S RT => ?_)
  have S : FX X (D, A, 9, Q) prog_2_method_5_code "KeyCodec$KeyReader" 2 0 0 := S
  have RT : RTz X (D, A, 9, Q) prog_2_method_5_code 0 0 _ := RT
  refine a_lve (lv' := [(0, .ref a), (1, .ref va)]) rfl ?_
  have fr : Fr2 w w a 2 va 2 := fun _ _ _ => rfl
  refine a_aload_n S d_Reader_readInt_0 rfl rfl ?_
  refine a_callV S (rest := []) lg_Reader_67 hr.cell (c_Reader_next X.2.1 D a sa ra p t pw l0 w n (by omega) (by omega) ht hl hr) (by decide) (by omega) (by omega) rfl (Nat.le_of_ble_eq_true rfl) d_Reader_readInt_1 (fun v1 w2 n3 p4 => ?_)
  obtain ⟨e6, f5, hq6⟩ := p4
  rw [e6]
  rcases hq6 with ⟨hq6, rfl, hr⟩ | ⟨hq6, rfl, hr⟩
  · refine a_st (st' := [.int (nI (tnB t (l0.getD p 0)))]) rfl ?_
    have fr : Fr2 w w2 a 2 va 2 := fun q h1 h2 => (f5 q (by omega)).trans (fr q h1 h2)
    have hl := Row.fr f5 hl (by omega)
    have hv := Val.fr f5 hv (by omega)
    refine a_istore_n S d_Reader_readInt_4 rfl (Nat.le_of_ble_eq_true rfl) (lv' := [(0, .ref a), (1, .ref va), (2, .int (nI (tnB t (l0.getD p 0))))]) rfl ?_
    refine a_iload_n S d_Reader_readInt_5 rfl rfl ?_
    refine a_bipush S (v := 127) d_Reader_readInt_6 (by decide) ?_
    refine a_icmp_gt S (tgt := 15) d_Reader_readInt_8 rfl (fun h8 => ?_) (fun h8 => ?_)
    · have h8 : ¬ tnB t (l0.getD p 0) ≤ 127 := Nat.not_le.mpr ((nI_ltI (by decide) (by have := tnB_lt (t := t) (getD_lt hl.2.1 p); omega)).mp h8)
      refine a_iconst S (v := 0) d_Reader_readInt_15 (by decide) ?_
      refine a_istore_n S d_Reader_readInt_16 rfl (Nat.le_of_ble_eq_true rfl) (lv' := [(0, .ref a), (1, .ref va), (2, .int (nI (tnB t (l0.getD p 0)))), (3, .int 0)]) rfl ?_
      refine a_iload_n S d_Reader_readInt_17 rfl rfl ?_
      refine a_if_eq S (tgt := 28) d_Reader_readInt_18 rfl (fun h18 => ?_) (fun h18 => ?_)
      · refine a_iload_n S d_Reader_readInt_28 rfl rfl ?_
        refine a_sipush S (v := 128) d_Reader_readInt_29 (by decide) ?_
        refine a_isub S d_Reader_readInt_32 ?_
        refine a_eqi (y := nI (tnB t (l0.getD p 0) - 128)) (ni_sub rfl rfl (by omega)) ?_
        refine a_istore S d_Reader_readInt_33 (Nat.le_of_ble_eq_true rfl) (lv' := [(0, .ref a), (1, .ref va), (2, .int (nI (tnB t (l0.getD p 0)))), (3, .int 0), (4, .int (nI (tnB t (l0.getD p 0) - 128)))]) rfl ?_
        refine a_iload_n S d_Reader_readInt_35 rfl rfl ?_
        refine a_iconst S (v := (-1)) d_Reader_readInt_36 (by decide) ?_
        refine a_icmp_eq S (tgt := 47) d_Reader_readInt_37 rfl (fun h37 => ?_) (fun h37 => ?_)
        · exact absurd h37 (nI_m1 (tnB_lt (getD_lt hl.2.1 p)))
        · refine a_iload S d_Reader_readInt_40 rfl ?_
          refine a_bipush S (v := 8) d_Reader_readInt_42 (by decide) ?_
          refine a_icmp_le S (tgt := 49) d_Reader_readInt_44 rfl (fun h44 => ?_) (fun h44 => ?_)
          · have h44 : ¬ 8 < (tnB t (l0.getD p 0) - 128) := Nat.not_lt.mpr ((nI_leI (by have := tnB_lt (t := t) (getD_lt hl.2.1 p); omega) (by decide)).mp h44)
            refine a_iload_n S d_Reader_readInt_49 rfl rfl ?_
            refine a_if_eq S (tgt := 59) d_Reader_readInt_50 rfl (fun h50 => ?_) (fun h50 => ?_)
            · refine a_lconst S (v := 0) d_Reader_readInt_59 (by decide) ?_
              refine a_eql (y := lN (0)) (by decide) ?_
              refine a_lstore S d_Reader_readInt_60 (Nat.le_of_ble_eq_true rfl) (lv' := [(0, .ref a), (1, .ref va), (2, .int (nI (tnB t (l0.getD p 0)))), (3, .int 0), (4, .int (nI (tnB t (l0.getD p 0) - 128))), (5, .long (lN (0)))]) rfl ?_
              refine a_iconst S (v := 0) d_Reader_readInt_62 (by decide) ?_
              refine a_istore S d_Reader_readInt_63 (Nat.le_of_ble_eq_true rfl) (lv' := [(0, .ref a), (1, .ref va), (2, .int (nI (tnB t (l0.getD p 0)))), (3, .int 0), (4, .int (nI (tnB t (l0.getD p 0) - 128))), (5, .long (lN (0))), (7, .int 0)]) rfl ?_
              have loop65 : ∀ (kk65 : Nat) (i Nn p1 : Nat) (w1 : ww), (tnB t (l0.getD p 0) - 128) - i = kk65 → (i ≤ (tnB t (l0.getD p 0) - 128)) → (p1 ≤ l0.length) → (Fr2 w w1 a 2 va 2) → (Row D w1 ra l0) → (Rd D w1 a sa ra p1 t pw) → (Val D w1 va v0) → (rdI t (l0.drop p) = rdBs t ((tnB t (l0.getD p 0) - 128) - i) Nn (l0.drop p1)) → AW X (D, A, 9, Q) 65 [(0, .ref a), (1, .ref va), (2, .int (nI (tnB t (l0.getD p 0)))), (3, .int 0), (4, .int (nI (tnB t (l0.getD p 0) - 128))), (5, .long (lN Nn)), (7, .int (nI i))] [] w1 n (0 + 0) (0 + 0) := by
                intro kk65
                induction kk65 using Nat.strongRecOn with
                | ind kk65 ih65 =>
                  intro i Nn p1 w1 hk65 hi hp1 fr hl hr hv he
                  refine a_iload S d_Reader_readInt_65 rfl ?_
                  refine a_iload S d_Reader_readInt_67 rfl ?_
                  refine a_icmp_ge S (tgt := 103) d_Reader_readInt_69 rfl (fun h69 => ?_) (fun h69 => ?_)
                  · have hi : i = (tnB t (l0.getD p 0) - 128) := Nat.le_antisymm hi ((nI_leI (by have := tnB_lt (t := t) (getD_lt hl.2.1 p); omega) (by have := tnB_lt (t := t) (getD_lt hl.2.1 p); omega)).mp h69)
                    refine a_aload_n S d_Reader_readInt_103 rfl rfl ?_
                    refine a_lload S d_Reader_readInt_104 rfl ?_
                    refine a_iconst S (v := 0) d_Reader_readInt_106 (by decide) ?_
                    refine a_callV S (rest := []) lg_Reader_95 hv.cell (c_Value_become X.2.1 D va v0 (lN Nn) 0 w1 n hv) (by decide) (by omega) (by omega) rfl (Nat.le_of_ble_eq_true rfl) d_Reader_readInt_107 (fun v7 w8 n9 p10 => ?_)
                    obtain ⟨rfl, e12, f11, hv⟩ := p10
                    rw [e12]
                    refine a_st (st' := []) rfl ?_
                    have fr : Fr2 w w8 a 2 va 2 := fun q h1 h2 => (f11 q (by omega)).trans (fr q h1 h2)
                    have hl := Row.fr f11 hl (by omega)
                    have hr := Rd.fr f11 hr (by omega)
                    refine a_iconst S (v := 1) d_Reader_readInt_110 (by decide) ?_
                    exact RT _ _ _ _ _ _ _ d_Reader_readInt_111 rfl (by omega) (by omega) ⟨true, p1, _, rfl, rfl, fr, hr, hp1, hv, (fun _ => ⟨Nn, by rw [he, hi, Nat.sub_self]; rfl, rfl⟩), (fun z => by cases z)⟩
                  · have hi : i < (tnB t (l0.getD p 0) - 128) := Nat.not_le.mp fun z => h69 ((nI_leI (by have := tnB_lt (t := t) (getD_lt hl.2.1 p); omega) (by have := tnB_lt (t := t) (getD_lt hl.2.1 p); omega)).mpr z)
                    refine a_aload_n S d_Reader_readInt_72 rfl rfl ?_
                    refine a_callV S (rest := []) lg_Reader_67 hr.cell (c_Reader_next X.2.1 D a sa ra p1 t pw l0 w1 n (by omega) (by omega) ht hl hr) (by decide) (by omega) (by omega) rfl (Nat.le_of_ble_eq_true rfl) d_Reader_readInt_73 (fun v13 w14 n15 p16 => ?_)
                    obtain ⟨e18, f17, hq18⟩ := p16
                    rw [e18]
                    rcases hq18 with ⟨hq18, rfl, hr⟩ | ⟨hq18, rfl, hr⟩
                    · refine a_st (st' := [.int (nI (tnB t (l0.getD p1 0)))]) rfl ?_
                      have fr : Fr2 w w14 a 2 va 2 := fun q h1 h2 => (f17 q (by omega)).trans (fr q h1 h2)
                      have hl := Row.fr f17 hl (by omega)
                      have hv := Val.fr f17 hv (by omega)
                      refine a_istore S d_Reader_readInt_76 (Nat.le_of_ble_eq_true rfl) (lv' := [(0, .ref a), (1, .ref va), (2, .int (nI (tnB t (l0.getD p 0)))), (3, .int 0), (4, .int (nI (tnB t (l0.getD p 0) - 128))), (5, .long (lN Nn)), (7, .int (nI i)), (8, .int (nI (tnB t (l0.getD p1 0))))]) rfl ?_
                      refine a_iload S d_Reader_readInt_78 rfl ?_
                      refine a_iconst S (v := (-1)) d_Reader_readInt_80 (by decide) ?_
                      refine a_icmp_ne S (tgt := 86) d_Reader_readInt_81 rfl (fun h81 => ?_) (fun h81 => ?_)
                      · refine a_lload S d_Reader_readInt_86 rfl ?_
                        refine a_bipush S (v := 8) d_Reader_readInt_88 (by decide) ?_
                        refine a_lshl S d_Reader_readInt_90 rfl ?_
                        refine a_iload S d_Reader_readInt_91 rfl ?_
                        refine a_i2l S d_Reader_readInt_93 ?_
                        refine a_lor S d_Reader_readInt_94 ?_
                        refine a_eql (y := (lN (Nn * 256 + tnB t (l0.getD p1 0)))) (l_shor (tnB_lt (getD_lt hl.2.1 p1))) ?_
                        refine a_lstore S d_Reader_readInt_95 (Nat.le_of_ble_eq_true rfl) (lv' := [(0, .ref a), (1, .ref va), (2, .int (nI (tnB t (l0.getD p 0)))), (3, .int 0), (4, .int (nI (tnB t (l0.getD p 0) - 128))), (5, .long (lN (Nn * 256 + tnB t (l0.getD p1 0)))), (7, .int (nI i)), (8, .int (nI (tnB t (l0.getD p1 0))))]) rfl ?_
                        refine a_iinc S (v := nI (i + 1)) d_Reader_readInt_97 rfl (ni_add rfl (by decide)) (Nat.le_of_ble_eq_true rfl) (lv' := [(0, .ref a), (1, .ref va), (2, .int (nI (tnB t (l0.getD p 0)))), (3, .int 0), (4, .int (nI (tnB t (l0.getD p 0) - 128))), (5, .long (lN (Nn * 256 + tnB t (l0.getD p1 0)))), (7, .int (nI (i + 1))), (8, .int (nI (tnB t (l0.getD p1 0))))]) rfl ?_
                        refine a_goto S (tgt := 65) d_Reader_readInt_100 rfl ?_
                        refine a_lv [0, 1, 2, 3, 4, 5, 6] (lv' := [(0, .ref a), (1, .ref va), (2, .int (nI (tnB t (l0.getD p 0)))), (3, .int 0), (4, .int (nI (tnB t (l0.getD p 0) - 128))), (5, .long (lN (Nn * 256 + tnB t (l0.getD p1 0)))), (7, .int (nI (i + 1)))]) rfl ?_
                        exact ih65 _ (by omega) (i + 1) (Nn * 256 + tnB t (l0.getD p1 0)) (p1 + 1) w14 rfl (by omega) (by omega) fr hl hr hv (by rw [he, rdBs_s hi hq18])
                      · exact absurd h81 (nI_m1 (tnB_lt (getD_lt hl.2.1 p1)))
                    · refine a_st (st' := [.int (-1)]) rfl ?_
                      have fr : Fr2 w w14 a 2 va 2 := fun q h1 h2 => (f17 q (by omega)).trans (fr q h1 h2)
                      have hl := Row.fr f17 hl (by omega)
                      have hv := Val.fr f17 hv (by omega)
                      refine a_istore S d_Reader_readInt_76 (Nat.le_of_ble_eq_true rfl) (lv' := [(0, .ref a), (1, .ref va), (2, .int (nI (tnB t (l0.getD p 0)))), (3, .int 0), (4, .int (nI (tnB t (l0.getD p 0) - 128))), (5, .long (lN Nn)), (7, .int (nI i)), (8, .int (-1))]) rfl ?_
                      refine a_iload S d_Reader_readInt_78 rfl ?_
                      refine a_iconst S (v := (-1)) d_Reader_readInt_80 (by decide) ?_
                      refine a_icmp_ne S (tgt := 86) d_Reader_readInt_81 rfl (fun h81 => ?_) (fun h81 => ?_)
                      · exact absurd (by decide) h81
                      · refine a_iconst S (v := 0) d_Reader_readInt_84 (by decide) ?_
                        exact RT _ _ _ _ _ _ _ d_Reader_readInt_85 rfl (by omega) (by omega) ⟨false, p1, v0, rfl, rfl, fr, hr, hp1, hv, (fun z => by cases z), (fun _ => by rw [he]; exact rdBs_nil (by omega) hq18)⟩
              exact loop65 _ 0 0 (p + 1) w2 rfl (Nat.zero_le _) (by omega) fr hl hr hv (rdI_pos hq6 h8 h44)
            · exact absurd (by decide) h50
          · have h44 : 8 < (tnB t (l0.getD p 0) - 128) := Nat.not_le.mp fun z => h44 ((nI_leI (by have := tnB_lt (t := t) (getD_lt hl.2.1 p); omega) (by decide)).mpr z)
            refine a_iconst S (v := 0) d_Reader_readInt_47 (by decide) ?_
            exact RT _ _ _ _ _ _ _ d_Reader_readInt_48 rfl (by omega) (by omega) ⟨false, p + 1, v0, rfl, rfl, fr, hr, (by omega), hv, (fun z => by cases z), (fun _ => rdI_bp hq6 h8 h44)⟩
      · exact absurd (by decide) h18
    · have h8 : tnB t (l0.getD p 0) ≤ 127 := Nat.not_lt.mp fun z => h8 ((nI_ltI (by decide) (by have := tnB_lt (t := t) (getD_lt hl.2.1 p); omega)).mpr z)
      refine a_iconst S (v := 1) d_Reader_readInt_11 (by decide) ?_
      refine a_goto S (tgt := 16) d_Reader_readInt_12 rfl ?_
      refine a_istore_n S d_Reader_readInt_16 rfl (Nat.le_of_ble_eq_true rfl) (lv' := [(0, .ref a), (1, .ref va), (2, .int (nI (tnB t (l0.getD p 0)))), (3, .int 1)]) rfl ?_
      refine a_iload_n S d_Reader_readInt_17 rfl rfl ?_
      refine a_if_eq S (tgt := 28) d_Reader_readInt_18 rfl (fun h18 => ?_) (fun h18 => ?_)
      · exact absurd h18 (by decide)
      · refine a_bipush S (v := 127) d_Reader_readInt_21 (by decide) ?_
        refine a_iload_n S d_Reader_readInt_23 rfl rfl ?_
        refine a_isub S d_Reader_readInt_24 ?_
        refine a_eqi (y := nI (127 - tnB t (l0.getD p 0))) (ni_sub rfl rfl h8) ?_
        refine a_goto S (tgt := 33) d_Reader_readInt_25 rfl ?_
        refine a_istore S d_Reader_readInt_33 (Nat.le_of_ble_eq_true rfl) (lv' := [(0, .ref a), (1, .ref va), (2, .int (nI (tnB t (l0.getD p 0)))), (3, .int 1), (4, .int (nI (127 - tnB t (l0.getD p 0))))]) rfl ?_
        refine a_iload_n S d_Reader_readInt_35 rfl rfl ?_
        refine a_iconst S (v := (-1)) d_Reader_readInt_36 (by decide) ?_
        refine a_icmp_eq S (tgt := 47) d_Reader_readInt_37 rfl (fun h37 => ?_) (fun h37 => ?_)
        · exact absurd h37 (nI_m1 (tnB_lt (getD_lt hl.2.1 p)))
        · refine a_iload S d_Reader_readInt_40 rfl ?_
          refine a_bipush S (v := 8) d_Reader_readInt_42 (by decide) ?_
          refine a_icmp_le S (tgt := 49) d_Reader_readInt_44 rfl (fun h44 => ?_) (fun h44 => ?_)
          · have h44 : ¬ 8 < (127 - tnB t (l0.getD p 0)) := Nat.not_lt.mpr ((nI_leI (by have := tnB_lt (t := t) (getD_lt hl.2.1 p); omega) (by decide)).mp h44)
            refine a_iload_n S d_Reader_readInt_49 rfl rfl ?_
            refine a_if_eq S (tgt := 59) d_Reader_readInt_50 rfl (fun h50 => ?_) (fun h50 => ?_)
            · exact absurd h50 (by decide)
            · refine a_ldc2 S (v := (-1)) lK_Reader_93 d_Reader_readInt_53 ?_
              refine a_goto S (tgt := 60) d_Reader_readInt_56 rfl ?_
              refine a_eql (y := lN (2 ^ 64 - 1)) (by decide) ?_
              refine a_lstore S d_Reader_readInt_60 (Nat.le_of_ble_eq_true rfl) (lv' := [(0, .ref a), (1, .ref va), (2, .int (nI (tnB t (l0.getD p 0)))), (3, .int 1), (4, .int (nI (127 - tnB t (l0.getD p 0)))), (5, .long (lN (2 ^ 64 - 1)))]) rfl ?_
              refine a_iconst S (v := 0) d_Reader_readInt_62 (by decide) ?_
              refine a_istore S d_Reader_readInt_63 (Nat.le_of_ble_eq_true rfl) (lv' := [(0, .ref a), (1, .ref va), (2, .int (nI (tnB t (l0.getD p 0)))), (3, .int 1), (4, .int (nI (127 - tnB t (l0.getD p 0)))), (5, .long (lN (2 ^ 64 - 1))), (7, .int 0)]) rfl ?_
              have loop65 : ∀ (kk65 : Nat) (i Nn p1 : Nat) (w1 : ww), (127 - tnB t (l0.getD p 0)) - i = kk65 → (i ≤ (127 - tnB t (l0.getD p 0))) → (p1 ≤ l0.length) → (Fr2 w w1 a 2 va 2) → (Row D w1 ra l0) → (Rd D w1 a sa ra p1 t pw) → (Val D w1 va v0) → (rdI t (l0.drop p) = rdBs t ((127 - tnB t (l0.getD p 0)) - i) Nn (l0.drop p1)) → AW X (D, A, 9, Q) 65 [(0, .ref a), (1, .ref va), (2, .int (nI (tnB t (l0.getD p 0)))), (3, .int 1), (4, .int (nI (127 - tnB t (l0.getD p 0)))), (5, .long (lN Nn)), (7, .int (nI i))] [] w1 n (0 + 0) (0 + 0) := by
                intro kk65
                induction kk65 using Nat.strongRecOn with
                | ind kk65 ih65 =>
                  intro i Nn p1 w1 hk65 hi hp1 fr hl hr hv he
                  refine a_iload S d_Reader_readInt_65 rfl ?_
                  refine a_iload S d_Reader_readInt_67 rfl ?_
                  refine a_icmp_ge S (tgt := 103) d_Reader_readInt_69 rfl (fun h69 => ?_) (fun h69 => ?_)
                  · have hi : i = (127 - tnB t (l0.getD p 0)) := Nat.le_antisymm hi ((nI_leI (by have := tnB_lt (t := t) (getD_lt hl.2.1 p); omega) (by have := tnB_lt (t := t) (getD_lt hl.2.1 p); omega)).mp h69)
                    refine a_aload_n S d_Reader_readInt_103 rfl rfl ?_
                    refine a_lload S d_Reader_readInt_104 rfl ?_
                    refine a_iconst S (v := 0) d_Reader_readInt_106 (by decide) ?_
                    refine a_callV S (rest := []) lg_Reader_95 hv.cell (c_Value_become X.2.1 D va v0 (lN Nn) 0 w1 n hv) (by decide) (by omega) (by omega) rfl (Nat.le_of_ble_eq_true rfl) d_Reader_readInt_107 (fun v19 w20 n21 p22 => ?_)
                    obtain ⟨rfl, e24, f23, hv⟩ := p22
                    rw [e24]
                    refine a_st (st' := []) rfl ?_
                    have fr : Fr2 w w20 a 2 va 2 := fun q h1 h2 => (f23 q (by omega)).trans (fr q h1 h2)
                    have hl := Row.fr f23 hl (by omega)
                    have hr := Rd.fr f23 hr (by omega)
                    refine a_iconst S (v := 1) d_Reader_readInt_110 (by decide) ?_
                    exact RT _ _ _ _ _ _ _ d_Reader_readInt_111 rfl (by omega) (by omega) ⟨true, p1, _, rfl, rfl, fr, hr, hp1, hv, (fun _ => ⟨Nn, by rw [he, hi, Nat.sub_self]; rfl, rfl⟩), (fun z => by cases z)⟩
                  · have hi : i < (127 - tnB t (l0.getD p 0)) := Nat.not_le.mp fun z => h69 ((nI_leI (by have := tnB_lt (t := t) (getD_lt hl.2.1 p); omega) (by have := tnB_lt (t := t) (getD_lt hl.2.1 p); omega)).mpr z)
                    refine a_aload_n S d_Reader_readInt_72 rfl rfl ?_
                    refine a_callV S (rest := []) lg_Reader_67 hr.cell (c_Reader_next X.2.1 D a sa ra p1 t pw l0 w1 n (by omega) (by omega) ht hl hr) (by decide) (by omega) (by omega) rfl (Nat.le_of_ble_eq_true rfl) d_Reader_readInt_73 (fun v25 w26 n27 p28 => ?_)
                    obtain ⟨e30, f29, hq30⟩ := p28
                    rw [e30]
                    rcases hq30 with ⟨hq30, rfl, hr⟩ | ⟨hq30, rfl, hr⟩
                    · refine a_st (st' := [.int (nI (tnB t (l0.getD p1 0)))]) rfl ?_
                      have fr : Fr2 w w26 a 2 va 2 := fun q h1 h2 => (f29 q (by omega)).trans (fr q h1 h2)
                      have hl := Row.fr f29 hl (by omega)
                      have hv := Val.fr f29 hv (by omega)
                      refine a_istore S d_Reader_readInt_76 (Nat.le_of_ble_eq_true rfl) (lv' := [(0, .ref a), (1, .ref va), (2, .int (nI (tnB t (l0.getD p 0)))), (3, .int 1), (4, .int (nI (127 - tnB t (l0.getD p 0)))), (5, .long (lN Nn)), (7, .int (nI i)), (8, .int (nI (tnB t (l0.getD p1 0))))]) rfl ?_
                      refine a_iload S d_Reader_readInt_78 rfl ?_
                      refine a_iconst S (v := (-1)) d_Reader_readInt_80 (by decide) ?_
                      refine a_icmp_ne S (tgt := 86) d_Reader_readInt_81 rfl (fun h81 => ?_) (fun h81 => ?_)
                      · refine a_lload S d_Reader_readInt_86 rfl ?_
                        refine a_bipush S (v := 8) d_Reader_readInt_88 (by decide) ?_
                        refine a_lshl S d_Reader_readInt_90 rfl ?_
                        refine a_iload S d_Reader_readInt_91 rfl ?_
                        refine a_i2l S d_Reader_readInt_93 ?_
                        refine a_lor S d_Reader_readInt_94 ?_
                        refine a_eql (y := (lN (Nn * 256 + tnB t (l0.getD p1 0)))) (l_shor (tnB_lt (getD_lt hl.2.1 p1))) ?_
                        refine a_lstore S d_Reader_readInt_95 (Nat.le_of_ble_eq_true rfl) (lv' := [(0, .ref a), (1, .ref va), (2, .int (nI (tnB t (l0.getD p 0)))), (3, .int 1), (4, .int (nI (127 - tnB t (l0.getD p 0)))), (5, .long (lN (Nn * 256 + tnB t (l0.getD p1 0)))), (7, .int (nI i)), (8, .int (nI (tnB t (l0.getD p1 0))))]) rfl ?_
                        refine a_iinc S (v := nI (i + 1)) d_Reader_readInt_97 rfl (ni_add rfl (by decide)) (Nat.le_of_ble_eq_true rfl) (lv' := [(0, .ref a), (1, .ref va), (2, .int (nI (tnB t (l0.getD p 0)))), (3, .int 1), (4, .int (nI (127 - tnB t (l0.getD p 0)))), (5, .long (lN (Nn * 256 + tnB t (l0.getD p1 0)))), (7, .int (nI (i + 1))), (8, .int (nI (tnB t (l0.getD p1 0))))]) rfl ?_
                        refine a_goto S (tgt := 65) d_Reader_readInt_100 rfl ?_
                        refine a_lv [0, 1, 2, 3, 4, 5, 6] (lv' := [(0, .ref a), (1, .ref va), (2, .int (nI (tnB t (l0.getD p 0)))), (3, .int 1), (4, .int (nI (127 - tnB t (l0.getD p 0)))), (5, .long (lN (Nn * 256 + tnB t (l0.getD p1 0)))), (7, .int (nI (i + 1)))]) rfl ?_
                        exact ih65 _ (by omega) (i + 1) (Nn * 256 + tnB t (l0.getD p1 0)) (p1 + 1) w26 rfl (by omega) (by omega) fr hl hr hv (by rw [he, rdBs_s hi hq30])
                      · exact absurd h81 (nI_m1 (tnB_lt (getD_lt hl.2.1 p1)))
                    · refine a_st (st' := [.int (-1)]) rfl ?_
                      have fr : Fr2 w w26 a 2 va 2 := fun q h1 h2 => (f29 q (by omega)).trans (fr q h1 h2)
                      have hl := Row.fr f29 hl (by omega)
                      have hv := Val.fr f29 hv (by omega)
                      refine a_istore S d_Reader_readInt_76 (Nat.le_of_ble_eq_true rfl) (lv' := [(0, .ref a), (1, .ref va), (2, .int (nI (tnB t (l0.getD p 0)))), (3, .int 1), (4, .int (nI (127 - tnB t (l0.getD p 0)))), (5, .long (lN Nn)), (7, .int (nI i)), (8, .int (-1))]) rfl ?_
                      refine a_iload S d_Reader_readInt_78 rfl ?_
                      refine a_iconst S (v := (-1)) d_Reader_readInt_80 (by decide) ?_
                      refine a_icmp_ne S (tgt := 86) d_Reader_readInt_81 rfl (fun h81 => ?_) (fun h81 => ?_)
                      · exact absurd (by decide) h81
                      · refine a_iconst S (v := 0) d_Reader_readInt_84 (by decide) ?_
                        exact RT _ _ _ _ _ _ _ d_Reader_readInt_85 rfl (by omega) (by omega) ⟨false, p1, v0, rfl, rfl, fr, hr, hp1, hv, (fun z => by cases z), (fun _ => by rw [he]; exact rdBs_nil (by omega) hq30)⟩
              exact loop65 _ 0 (2 ^ 64 - 1) (p + 1) w2 rfl (Nat.zero_le _) (by omega) fr hl hr hv (rdI_neg hq6 h8 h44)
          · have h44 : 8 < (127 - tnB t (l0.getD p 0)) := Nat.not_le.mp fun z => h44 ((nI_leI (by have := tnB_lt (t := t) (getD_lt hl.2.1 p); omega) (by decide)).mpr z)
            refine a_iconst S (v := 0) d_Reader_readInt_47 (by decide) ?_
            exact RT _ _ _ _ _ _ _ d_Reader_readInt_48 rfl (by omega) (by omega) ⟨false, p + 1, v0, rfl, rfl, fr, hr, (by omega), hv, (fun z => by cases z), (fun _ => rdI_bn hq6 h8 h44)⟩
  · refine a_st (st' := [.int (-1)]) rfl ?_
    have fr : Fr2 w w2 a 2 va 2 := fun q h1 h2 => (f5 q (by omega)).trans (fr q h1 h2)
    have hl := Row.fr f5 hl (by omega)
    have hv := Val.fr f5 hv (by omega)
    refine a_istore_n S d_Reader_readInt_4 rfl (Nat.le_of_ble_eq_true rfl) (lv' := [(0, .ref a), (1, .ref va), (2, .int (-1))]) rfl ?_
    refine a_iload_n S d_Reader_readInt_5 rfl rfl ?_
    refine a_bipush S (v := 127) d_Reader_readInt_6 (by decide) ?_
    refine a_icmp_gt S (tgt := 15) d_Reader_readInt_8 rfl (fun h8 => ?_) (fun h8 => ?_)
    · exact absurd h8 (by decide)
    · refine a_iconst S (v := 1) d_Reader_readInt_11 (by decide) ?_
      refine a_goto S (tgt := 16) d_Reader_readInt_12 rfl ?_
      refine a_istore_n S d_Reader_readInt_16 rfl (Nat.le_of_ble_eq_true rfl) (lv' := [(0, .ref a), (1, .ref va), (2, .int (-1)), (3, .int 1)]) rfl ?_
      refine a_iload_n S d_Reader_readInt_17 rfl rfl ?_
      refine a_if_eq S (tgt := 28) d_Reader_readInt_18 rfl (fun h18 => ?_) (fun h18 => ?_)
      · exact absurd h18 (by decide)
      · refine a_bipush S (v := 127) d_Reader_readInt_21 (by decide) ?_
        refine a_iload_n S d_Reader_readInt_23 rfl rfl ?_
        refine a_isub S d_Reader_readInt_24 ?_
        refine a_eqi (y := 128) (by decide) ?_
        refine a_goto S (tgt := 33) d_Reader_readInt_25 rfl ?_
        refine a_istore S d_Reader_readInt_33 (Nat.le_of_ble_eq_true rfl) (lv' := [(0, .ref a), (1, .ref va), (2, .int (-1)), (3, .int 1), (4, .int 128)]) rfl ?_
        refine a_iload_n S d_Reader_readInt_35 rfl rfl ?_
        refine a_iconst S (v := (-1)) d_Reader_readInt_36 (by decide) ?_
        refine a_icmp_eq S (tgt := 47) d_Reader_readInt_37 rfl (fun h37 => ?_) (fun h37 => ?_)
        · refine a_iconst S (v := 0) d_Reader_readInt_47 (by decide) ?_
          exact RT _ _ _ _ _ _ _ d_Reader_readInt_48 rfl (by omega) (by omega) ⟨false, p, v0, rfl, rfl, fr, hr, (by omega), hv, (fun z => by cases z), (fun _ => rdI_nil hq6)⟩
        · exact absurd (by decide) h37
set_option maxHeartbeats 400000 in
set_option maxRecDepth 100000 in
theorem c_Reader_readText (l : Launch) (D : kD) (va : Nat) (v0 : kV) (a sa ra p t : Nat) (pw : Nat → Int32) (l0 : List Nat) (w : ww) (n : Nat) (hd1 : a + 2 ≤ ra ∨ ra + 2 ≤ a) (hd2 : a + 2 ≤ va ∨ va + 2 ≤ a) (hd3 : va + 2 ≤ ra ∨ ra + 2 ≤ va) (hp0 : p ≤ l0.length) (ht : t = 0 ∨ t = 255) (hl : Row D w ra l0) (hr : Rd D w a sa ra p t pw) (hv : Val D w va v0) : AM l D M_Reader_readText 2 0 0 [.ref a, .ref va] w n (fun v w' n' => ∃ (ok : Bool) (p1 : Nat) (v1 : kV), v = some (.int (if ok then 1 else 0)) ∧ n' = n ∧ Fr2 w w' a 2 va 2 ∧ Rd D w' a sa ra p1 t pw ∧ p1 ≤ l0.length ∧ Val D w' va v1 ∧ (ok = true → ∃ x : List Nat, rdT t 11 [] (l0.drop p) = some (x, l0.drop p1) ∧ v1 = (false, 0, 0, x)) ∧ (ok = false → rdT t 11 [] (l0.drop p) = none)) := by
  refine AM.ofz (by decide +kernel) rfl (Nat.le_of_ble_eq_true rfl) (fun X A Q hin S RT => ?_)
  have S : FX X (D, A, 5, Q) prog_2_method_6_code "KeyCodec$KeyReader" 2 0 0 := S
  have RT : RTz X (D, A, 5, Q) prog_2_method_6_code 0 0 _ := RT
  refine a_lve (lv' := [(0, .ref a), (1, .ref va)]) rfl ?_
  have fr : Fr2 w w a 2 va 2 := fun _ _ _ => rfl
  refine a_aload_n S d_Reader_readText_0 rfl rfl ?_
  refine a_lconst S (v := 0) d_Reader_readText_1 (by decide) ?_
  refine a_iconst S (v := 0) d_Reader_readText_2 (by decide) ?_
  refine a_callV S (rest := []) lg_Reader_95 hv.cell (c_Value_become X.2.1 D va v0 0 0 w n hv) (by decide) (by omega) (by omega) rfl (Nat.le_of_ble_eq_true rfl) d_Reader_readText_3 (fun v1 w2 n3 p4 => ?_)
  obtain ⟨rfl, e6, f5, hv⟩ := p4
  rw [e6]
  refine a_st (st' := []) rfl ?_
  have fr : Fr2 w w2 a 2 va 2 := fun q h1 h2 => (f5 q (by omega)).trans (fr q h1 h2)
  have hl := Row.fr f5 hl (by omega)
  have hr := Rd.fr f5 hr (by omega)
  refine a_iconst S (v := 0) d_Reader_readText_6 (by decide) ?_
  refine a_istore_n S d_Reader_readText_7 rfl (Nat.le_of_ble_eq_true rfl) (lv' := [(0, .ref a), (1, .ref va), (2, .int 0)]) rfl ?_
  have loop8 : ∀ (kk8 : Nat) (i p1 : Nat) (w1 : ww) (x : List Nat), 11 - i = kk8 → (x.length = i) → (p1 ≤ l0.length) → (Fr2 w w1 a 2 va 2) → (Row D w1 ra l0) → (Rd D w1 a sa ra p1 t pw) → (Val D w1 va (false, 0, 0, x)) → (rdT t 11 [] (l0.drop p) = rdT t (11 - i) x (l0.drop p1)) → AW X (D, A, 5, Q) 8 [(0, .ref a), (1, .ref va), (2, .int (nI i))] [] w1 n (0 + 0) (0 + 0) := by
    intro kk8
    induction kk8 using Nat.strongRecOn with
    | ind kk8 ih8 =>
      intro i p1 w1 x hk8 hxi hp1 fr hl hr hv he
      have hx10 : x.length ≤ 10 := hv.1
      refine a_iload_n S d_Reader_readText_8 rfl rfl ?_
      refine a_bipush S (v := 10) d_Reader_readText_9 (by decide) ?_
      refine a_icmp_gt S (tgt := 72) d_Reader_readText_11 rfl (fun h11 => ?_) (fun h11 => ?_)
      · exact absurd (show 10 < i from (nI_ltI (by decide) (by omega)).mp h11) (by omega)
      · 
        refine a_aload_n S d_Reader_readText_14 rfl rfl ?_
        refine a_callV S (rest := []) lg_Reader_67 hr.cell (c_Reader_next X.2.1 D a sa ra p1 t pw l0 w1 n (by omega) (by omega) ht hl hr) (by decide) (by omega) (by omega) rfl (Nat.le_of_ble_eq_true rfl) d_Reader_readText_15 (fun v7 w8 n9 p10 => ?_)
        obtain ⟨e12, f11, hq12⟩ := p10
        rw [e12]
        rcases hq12 with ⟨hq12, rfl, hr⟩ | ⟨hq12, rfl, hr⟩
        · refine a_st (st' := [.int (nI (tnB t (l0.getD p1 0)))]) rfl ?_
          have fr : Fr2 w w8 a 2 va 2 := fun q h1 h2 => (f11 q (by omega)).trans (fr q h1 h2)
          have hl := Row.fr f11 hl (by omega)
          have hv := Val.fr f11 hv (by omega)
          refine a_istore_n S d_Reader_readText_18 rfl (Nat.le_of_ble_eq_true rfl) (lv' := [(0, .ref a), (1, .ref va), (2, .int (nI i)), (3, .int (nI (tnB t (l0.getD p1 0))))]) rfl ?_
          refine a_iload_n S d_Reader_readText_19 rfl rfl ?_
          refine a_iconst S (v := (-1)) d_Reader_readText_20 (by decide) ?_
          refine a_icmp_ne S (tgt := 26) d_Reader_readText_21 rfl (fun h21 => ?_) (fun h21 => ?_)
          · refine a_iload_n S d_Reader_readText_26 rfl rfl ?_
            refine a_if_ne S (tgt := 56) d_Reader_readText_27 rfl (fun h27 => ?_) (fun h27 => ?_)
            · have h27 : ¬ tnB t (l0.getD p1 0) = 0 := fun z => h27 (by rw [z]; rfl)
              refine a_aload_n S d_Reader_readText_56 rfl rfl ?_
              refine a_iload_n S d_Reader_readText_57 rfl rfl ?_
              refine a_callV S (rest := []) lg_Reader_99 hv.cell (c_Value_append X.2.1 D va (false, 0, 0, x) (nI (tnB t (l0.getD p1 0))) w8 n hv) (by decide) (by omega) (by omega) rfl (Nat.le_of_ble_eq_true rfl) d_Reader_readText_58 (fun v13 w14 n15 p16 => ?_)
              rcases Nat.lt_or_ge x.length 10 with hx | hx
              · simp only [hx, if_true] at p16
                obtain ⟨rfl, e18, f17, hv⟩ := p16
                rw [e18]
                refine a_st (st' := [.int 1]) rfl ?_
                rw [by8_nI (tnB_lt (getD_lt hl.2.1 p1))] at hv
                have fr : Fr2 w w14 a 2 va 2 := fun q h1 h2 => (f17 q (by omega)).trans (fr q h1 h2)
                have hl := Row.fr f17 hl (by omega)
                have hr := Rd.fr f17 hr (by omega)
                refine a_if_ne S (tgt := 66) d_Reader_readText_61 rfl (fun h61 => ?_) (fun h61 => ?_)
                · refine a_iinc S (v := nI (i + 1)) d_Reader_readText_66 rfl (ni_add rfl (by decide)) (Nat.le_of_ble_eq_true rfl) (lv' := [(0, .ref a), (1, .ref va), (2, .int (nI (i + 1))), (3, .int (nI (tnB t (l0.getD p1 0))))]) rfl ?_
                  refine a_goto S (tgt := 8) d_Reader_readText_69 rfl ?_
                  refine a_lv [0, 1, 2] (lv' := [(0, .ref a), (1, .ref va), (2, .int (nI (i + 1)))]) rfl ?_
                  exact ih8 _ (by omega) (i + 1) (p1 + 1) w14 (x ++ [tnB t (l0.getD p1 0)]) rfl (by rw [List.length_append, hxi]; rfl) (by omega) fr hl hr hv (by rw [he, show 11 - i = (11 - (i + 1)) + 1 by omega, rT_b hq12 h27 hx])
                · exact absurd h61 (by decide)
              · have hx : ¬ x.length < 10 := Nat.not_lt.mpr hx
                simp only [hx, if_false] at p16
                obtain ⟨rfl, e20, f19, hv⟩ := p16
                rw [e20]
                refine a_st (st' := [.int 0]) rfl ?_
                have fr : Fr2 w w14 a 2 va 2 := fun q h1 h2 => (f19 q (by omega)).trans (fr q h1 h2)
                have hl := Row.fr f19 hl (by omega)
                have hr := Rd.fr f19 hr (by omega)
                refine a_if_ne S (tgt := 66) d_Reader_readText_61 rfl (fun h61 => ?_) (fun h61 => ?_)
                · exact absurd (by decide) h61
                · refine a_iconst S (v := 0) d_Reader_readText_64 (by decide) ?_
                  exact RT _ _ _ _ _ _ _ d_Reader_readText_65 rfl (by omega) (by omega) ⟨false, p1 + 1, _, rfl, rfl, fr, hr, (by omega), hv, (fun z => by cases z), (fun _ => by rw [he, show 11 - i = (10 - i) + 1 by omega]; exact rT_bf hq12 h27 hx)⟩
            · have h27 : tnB t (l0.getD p1 0) = 0 := nI_byte (tnB_lt (getD_lt hl.2.1 p1)) (by decide) h27
              refine a_aload_n S d_Reader_readText_30 rfl rfl ?_
              refine a_callV S (rest := []) lg_Reader_67 hr.cell (c_Reader_next X.2.1 D a sa ra (p1 + 1) t pw l0 w8 n (by omega) (by omega) ht hl hr) (by decide) (by omega) (by omega) rfl (Nat.le_of_ble_eq_true rfl) d_Reader_readText_31 (fun v21 w22 n23 p24 => ?_)
              obtain ⟨e26, f25, hq26⟩ := p24
              rw [e26]
              rcases hq26 with ⟨hq26, rfl, hr⟩ | ⟨hq26, rfl, hr⟩
              · refine a_st (st' := [.int (nI (tnB t (l0.getD (p1 + 1) 0)))]) rfl ?_
                have fr : Fr2 w w22 a 2 va 2 := fun q h1 h2 => (f25 q (by omega)).trans (fr q h1 h2)
                have hl := Row.fr f25 hl (by omega)
                have hv := Val.fr f25 hv (by omega)
                refine a_istore S d_Reader_readText_34 (Nat.le_of_ble_eq_true rfl) (lv' := [(0, .ref a), (1, .ref va), (2, .int (nI i)), (3, .int (nI (tnB t (l0.getD p1 0)))), (4, .int (nI (tnB t (l0.getD (p1 + 1) 0))))]) rfl ?_
                refine a_iload S d_Reader_readText_36 rfl ?_
                refine a_sipush S (v := 255) d_Reader_readText_38 (by decide) ?_
                refine a_icmp_eq S (tgt := 56) d_Reader_readText_41 rfl (fun h41 => ?_) (fun h41 => ?_)
                · have h41 : tnB t (l0.getD (p1 + 1) 0) = 255 := nI_byte (tnB_lt (getD_lt hl.2.1 (p1 + 1))) (by decide) h41
                  refine a_aload_n S d_Reader_readText_56 rfl rfl ?_
                  refine a_iload_n S d_Reader_readText_57 rfl rfl ?_
                  refine a_callV S (rest := []) lg_Reader_99 hv.cell (c_Value_append X.2.1 D va (false, 0, 0, x) (nI (tnB t (l0.getD p1 0))) w22 n hv) (by decide) (by omega) (by omega) rfl (Nat.le_of_ble_eq_true rfl) d_Reader_readText_58 (fun v27 w28 n29 p30 => ?_)
                  rcases Nat.lt_or_ge x.length 10 with hx | hx
                  · simp only [hx, if_true] at p30
                    obtain ⟨rfl, e32, f31, hv⟩ := p30
                    rw [e32]
                    refine a_st (st' := [.int 1]) rfl ?_
                    rw [by8_nI (tnB_lt (getD_lt hl.2.1 p1))] at hv
                    have fr : Fr2 w w28 a 2 va 2 := fun q h1 h2 => (f31 q (by omega)).trans (fr q h1 h2)
                    have hl := Row.fr f31 hl (by omega)
                    have hr := Rd.fr f31 hr (by omega)
                    refine a_if_ne S (tgt := 66) d_Reader_readText_61 rfl (fun h61 => ?_) (fun h61 => ?_)
                    · refine a_iinc S (v := nI (i + 1)) d_Reader_readText_66 rfl (ni_add rfl (by decide)) (Nat.le_of_ble_eq_true rfl) (lv' := [(0, .ref a), (1, .ref va), (2, .int (nI (i + 1))), (3, .int (nI (tnB t (l0.getD p1 0)))), (4, .int (nI (tnB t (l0.getD (p1 + 1) 0))))]) rfl ?_
                      refine a_goto S (tgt := 8) d_Reader_readText_69 rfl ?_
                      refine a_lv [0, 1, 2] (lv' := [(0, .ref a), (1, .ref va), (2, .int (nI (i + 1)))]) rfl ?_
                      exact ih8 _ (by omega) (i + 1) (p1 + 1 + 1) w28 (x ++ [tnB t (l0.getD p1 0)]) rfl (by rw [List.length_append, hxi]; rfl) (by omega) fr hl hr hv (by rw [he, show 11 - i = (11 - (i + 1)) + 1 by omega, rT_z hq12 h27 hq26 h41 hx, h27])
                    · exact absurd h61 (by decide)
                  · have hx : ¬ x.length < 10 := Nat.not_lt.mpr hx
                    simp only [hx, if_false] at p30
                    obtain ⟨rfl, e34, f33, hv⟩ := p30
                    rw [e34]
                    refine a_st (st' := [.int 0]) rfl ?_
                    have fr : Fr2 w w28 a 2 va 2 := fun q h1 h2 => (f33 q (by omega)).trans (fr q h1 h2)
                    have hl := Row.fr f33 hl (by omega)
                    have hr := Rd.fr f33 hr (by omega)
                    refine a_if_ne S (tgt := 66) d_Reader_readText_61 rfl (fun h61 => ?_) (fun h61 => ?_)
                    · exact absurd (by decide) h61
                    · refine a_iconst S (v := 0) d_Reader_readText_64 (by decide) ?_
                      exact RT _ _ _ _ _ _ _ d_Reader_readText_65 rfl (by omega) (by omega) ⟨false, p1 + 1 + 1, _, rfl, rfl, fr, hr, (by omega), hv, (fun z => by cases z), (fun _ => by rw [he, show 11 - i = (10 - i) + 1 by omega]; exact rT_zf hq12 h27 hq26 h41 hx)⟩
                · have h41 : ¬ tnB t (l0.getD (p1 + 1) 0) = 255 := fun z => h41 (by rw [z]; rfl)
                  refine a_iload S d_Reader_readText_44 rfl ?_
                  refine a_iconst S (v := 1) d_Reader_readText_46 (by decide) ?_
                  refine a_icmp_ne S (tgt := 54) d_Reader_readText_47 rfl (fun h47 => ?_) (fun h47 => ?_)
                  · have h47 : ¬ tnB t (l0.getD (p1 + 1) 0) = 1 := fun z => h47 (by rw [z]; rfl)
                    refine a_iconst S (v := 0) d_Reader_readText_54 (by decide) ?_
                    exact RT _ _ _ _ _ _ _ d_Reader_readText_55 rfl (by omega) (by omega) ⟨false, p1 + 1 + 1, _, rfl, rfl, fr, hr, (by omega), hv, (fun z => by cases z), (fun _ => by rw [he, show 11 - i = (10 - i) + 1 by omega]; exact rT_zn hq12 h27 hq26 h41 h47)⟩
                  · have h47 : tnB t (l0.getD (p1 + 1) 0) = 1 := nI_byte (tnB_lt (getD_lt hl.2.1 (p1 + 1))) (by decide) h47
                    refine a_iconst S (v := 1) d_Reader_readText_50 (by decide) ?_
                    refine a_goto S (tgt := 55) d_Reader_readText_51 rfl ?_
                    exact RT _ _ _ _ _ _ _ d_Reader_readText_55 rfl (by omega) (by omega) ⟨true, p1 + 1 + 1, _, rfl, rfl, fr, hr, (by omega), hv, (fun _ => ⟨x, by rw [he, show 11 - i = (10 - i) + 1 by omega]; exact rT_z1 hq12 h27 hq26 h41 h47, rfl⟩), (fun z => by cases z)⟩
              · refine a_st (st' := [.int (-1)]) rfl ?_
                have fr : Fr2 w w22 a 2 va 2 := fun q h1 h2 => (f25 q (by omega)).trans (fr q h1 h2)
                have hl := Row.fr f25 hl (by omega)
                have hv := Val.fr f25 hv (by omega)
                refine a_istore S d_Reader_readText_34 (Nat.le_of_ble_eq_true rfl) (lv' := [(0, .ref a), (1, .ref va), (2, .int (nI i)), (3, .int (nI (tnB t (l0.getD p1 0)))), (4, .int (-1))]) rfl ?_
                refine a_iload S d_Reader_readText_36 rfl ?_
                refine a_sipush S (v := 255) d_Reader_readText_38 (by decide) ?_
                refine a_icmp_eq S (tgt := 56) d_Reader_readText_41 rfl (fun h41 => ?_) (fun h41 => ?_)
                · exact absurd h41 (by decide)
                · refine a_iload S d_Reader_readText_44 rfl ?_
                  refine a_iconst S (v := 1) d_Reader_readText_46 (by decide) ?_
                  refine a_icmp_ne S (tgt := 54) d_Reader_readText_47 rfl (fun h47 => ?_) (fun h47 => ?_)
                  · refine a_iconst S (v := 0) d_Reader_readText_54 (by decide) ?_
                    exact RT _ _ _ _ _ _ _ d_Reader_readText_55 rfl (by omega) (by omega) ⟨false, p1 + 1, _, rfl, rfl, fr, hr, (by omega), hv, (fun z => by cases z), (fun _ => by rw [he, show 11 - i = (10 - i) + 1 by omega]; exact rT_ze hq12 h27 hq26)⟩
                  · exact absurd h47 (by decide)
          · exact absurd h21 (nI_m1 (tnB_lt (getD_lt hl.2.1 p1)))
        · refine a_st (st' := [.int (-1)]) rfl ?_
          have fr : Fr2 w w8 a 2 va 2 := fun q h1 h2 => (f11 q (by omega)).trans (fr q h1 h2)
          have hl := Row.fr f11 hl (by omega)
          have hv := Val.fr f11 hv (by omega)
          refine a_istore_n S d_Reader_readText_18 rfl (Nat.le_of_ble_eq_true rfl) (lv' := [(0, .ref a), (1, .ref va), (2, .int (nI i)), (3, .int (-1))]) rfl ?_
          refine a_iload_n S d_Reader_readText_19 rfl rfl ?_
          refine a_iconst S (v := (-1)) d_Reader_readText_20 (by decide) ?_
          refine a_icmp_ne S (tgt := 26) d_Reader_readText_21 rfl (fun h21 => ?_) (fun h21 => ?_)
          · exact absurd (by decide) h21
          · refine a_iconst S (v := 0) d_Reader_readText_24 (by decide) ?_
            exact RT _ _ _ _ _ _ _ d_Reader_readText_25 rfl (by omega) (by omega) ⟨false, p1, _, rfl, rfl, fr, hr, hp1, hv, (fun z => by cases z), (fun _ => by rw [he]; exact rT_nil hq12)⟩
  exact loop8 _ 0 p w2 ([]) rfl rfl hp0 fr hl hr hv rfl
set_option maxHeartbeats 400000 in
set_option maxRecDepth 100000 in
theorem c_Reader_readFraction (l : Launch) (D : kD) (va fi : Nat) (sg : Int32) (v0 : kV) (a sa ra p t : Nat) (pw : Nat → Int32) (l0 : List Nat) (w : ww) (n : Nat) (hfi : fi < 5) (hd1 : a + 2 ≤ ra ∨ ra + 2 ≤ a) (hd2 : a + 2 ≤ va ∨ va + 2 ≤ a) (hd3 : va + 2 ≤ ra ∨ ra + 2 ≤ va) (hp0 : p ≤ l0.length) (ht : t = 0 ∨ t = 255) (hl : Row D w ra l0) (hr : Rd D w a sa ra p t pw) (hv : Val D w va v0) : AM l D M_Reader_readFraction 2 0 0 [.ref a, .int (nI fi), .int sg, .ref va] w n (fun v w' n' => ∃ (ok : Bool) (p1 : Nat) (v1 : kV) (pw1 : Nat → Int32), v = some (.int (if ok then 1 else 0)) ∧ n' = n ∧ Fr2 w w' a 2 va 2 ∧ Rd D w' a sa ra p1 t pw1 ∧ p1 ≤ l0.length ∧ Val D w' va v1 ∧ (∀ j, j ≠ fi → pw1 j = pw j) ∧ (ok = true → ∃ (d : Int64) (e : Int32), rdFr t sg (l0.drop p) = some (d, e, l0.drop p1) ∧ v1 = (false, d, 0, []) ∧ pw1 fi = e) ∧ (ok = false → rdFr t sg (l0.drop p) = none)) := by
  refine AM.ofz (by decide +kernel) rfl (Nat.le_of_ble_eq_true rfl) (fun X A Q hin S RT => ?_)
  have S : FX X (D, A, 9, Q) prog_2_method_8_code "KeyCodec$KeyReader" 2 0 0 := S
  have RT : RTz X (D, A, 9, Q) prog_2_method_8_code 0 0 _ := RT
  refine a_lve (lv' := [(0, .ref a), (1, .int (nI fi)), (2, .int sg), (3, .ref va)]) rfl ?_
  have fr : Fr2 w w a 2 va 2 := fun _ _ _ => rfl
  refine a_aload_n S d_Reader_readFraction_0 rfl rfl ?_
  refine a_callV S (rest := []) lg_Reader_67 hr.cell (c_Reader_next X.2.1 D a sa ra p t pw l0 w n (by omega) (by omega) ht hl hr) (by decide) (by omega) (by omega) rfl (Nat.le_of_ble_eq_true rfl) d_Reader_readFraction_1 (fun v1 w2 n3 p4 => ?_)
  obtain ⟨e6, f5, hq6⟩ := p4
  rw [e6]
  rcases hq6 with ⟨hq6, rfl, hr⟩ | ⟨hq6, rfl, hr⟩
  · refine a_st (st' := [.int (nI (tnB t (l0.getD p 0)))]) rfl ?_
    have fr : Fr2 w w2 a 2 va 2 := fun q h1 h2 => (f5 q (by omega)).trans (fr q h1 h2)
    have hl := Row.fr f5 hl (by omega)
    have hv := Val.fr f5 hv (by omega)
    refine a_istore S d_Reader_readFraction_4 (Nat.le_of_ble_eq_true rfl) (lv' := [(0, .ref a), (1, .int (nI fi)), (2, .int sg), (3, .ref va), (4, .int (nI (tnB t (l0.getD p 0))))]) rfl ?_
    refine a_iload S d_Reader_readFraction_6 rfl ?_
    refine a_iconst S (v := (-1)) d_Reader_readFraction_8 (by decide) ?_
    refine a_icmp_ne S (tgt := 14) d_Reader_readFraction_9 rfl (fun h9 => ?_) (fun h9 => ?_)
    · refine a_lconst S (v := 0) d_Reader_readFraction_14 (by decide) ?_
      refine a_lstore S d_Reader_readFraction_15 (Nat.le_of_ble_eq_true rfl) (lv' := [(0, .ref a), (1, .int (nI fi)), (2, .int sg), (3, .ref va), (4, .int (nI (tnB t (l0.getD p 0)))), (5, .long 0)]) rfl ?_
      refine a_lve (lv' := [(0, .ref a), (1, .int (nI fi)), (2, .int sg), (3, .ref va), (4, .int (nI (tnB t (l0.getD p 0)))), (5, .long (lN 0))]) rfl ?_
      refine a_iconst S (v := 0) d_Reader_readFraction_17 (by decide) ?_
      refine a_istore S d_Reader_readFraction_18 (Nat.le_of_ble_eq_true rfl) (lv' := [(0, .ref a), (1, .int (nI fi)), (2, .int sg), (3, .ref va), (4, .int (nI (tnB t (l0.getD p 0)))), (5, .long (lN 0)), (7, .int 0)]) rfl ?_
      have loop20 : ∀ (kk20 : Nat) (i q p1 : Nat) (w1 : ww), 17 - i = kk20 → (i ≤ 17) → (p1 ≤ l0.length) → (Fr2 w w1 a 2 va 2) → (Row D w1 ra l0) → (Rd D w1 a sa ra p1 t pw) → (Val D w1 va v0) → ((i ≤ 16 ∧ rdG t 16 0 0 (l0.drop (p + 1)) = rdG t (16 - i) i q (l0.drop p1)) ∨ (i = 17 ∧ rdG t 16 0 0 (l0.drop (p + 1)) = none)) → AW X (D, A, 9, Q) 20 [(0, .ref a), (1, .int (nI fi)), (2, .int sg), (3, .ref va), (4, .int (nI (tnB t (l0.getD p 0)))), (5, .long (lN q)), (7, .int (nI i))] [] w1 n (0 + 0) (0 + 0) := by
        intro kk20
        induction kk20 using Nat.strongRecOn with
        | ind kk20 ih20 =>
          intro i q p1 w1 hk20 hi17 hp1 fr hl hr hv he
          refine a_iload S d_Reader_readFraction_20 rfl ?_
          refine a_bipush S (v := 16) d_Reader_readFraction_22 (by decide) ?_
          refine a_icmp_gt S (tgt := 98) d_Reader_readFraction_24 rfl (fun h24 => ?_) (fun h24 => ?_)
          · have h24 : 16 < i := (nI_ltI (by decide) (by omega)).mp h24
            have he : rdG t 16 0 0 (l0.drop (p + 1)) = none := by rcases he with he | he; omega; exact he.2
            refine a_iconst S (v := 0) d_Reader_readFraction_98 (by decide) ?_
            exact RT _ _ _ _ _ _ _ d_Reader_readFraction_99 rfl (by omega) (by omega) ⟨false, p1, v0, pw, rfl, rfl, fr, hr, (by omega), hv, (fun _ _ => rfl), (fun z => by cases z), (fun _ => rF_none hq6 he)⟩
          · have h24 : ¬ 16 < i := fun z => h24 ((nI_ltI (by decide) (by omega)).mpr z)
            have he : rdG t 16 0 0 (l0.drop (p + 1)) = rdG t (16 - i) i q (l0.drop p1) := by rcases he with he | he; exact he.2; omega
            refine a_aload_n S d_Reader_readFraction_27 rfl rfl ?_
            refine a_callV S (rest := []) lg_Reader_67 hr.cell (c_Reader_next X.2.1 D a sa ra p1 t pw l0 w1 n (by omega) (by omega) ht hl hr) (by decide) (by omega) (by omega) rfl (Nat.le_of_ble_eq_true rfl) d_Reader_readFraction_28 (fun v7 w8 n9 p10 => ?_)
            obtain ⟨e12, f11, hq12⟩ := p10
            rw [e12]
            rcases hq12 with ⟨hq12, rfl, hr⟩ | ⟨hq12, rfl, hr⟩
            · refine a_st (st' := [.int (nI (tnB t (l0.getD p1 0)))]) rfl ?_
              have fr : Fr2 w w8 a 2 va 2 := fun q h1 h2 => (f11 q (by omega)).trans (fr q h1 h2)
              have hl := Row.fr f11 hl (by omega)
              have hv := Val.fr f11 hv (by omega)
              refine a_istore S d_Reader_readFraction_31 (Nat.le_of_ble_eq_true rfl) (lv' := [(0, .ref a), (1, .int (nI fi)), (2, .int sg), (3, .ref va), (4, .int (nI (tnB t (l0.getD p 0)))), (5, .long (lN q)), (7, .int (nI i)), (8, .int (nI (tnB t (l0.getD p1 0))))]) rfl ?_
              refine a_iload S d_Reader_readFraction_33 rfl ?_
              refine a_if_lt S (tgt := 45) d_Reader_readFraction_35 rfl (fun h35 => ?_) (fun h35 => ?_)
              · exact absurd h35 (nI_pos (Nat.lt_trans (tnB_lt (getD_lt hl.2.1 p1)) (by decide)))
              · refine a_iload S d_Reader_readFraction_38 rfl ?_
                refine a_bipush S (v := 10) d_Reader_readFraction_40 (by decide) ?_
                refine a_icmp_le S (tgt := 47) d_Reader_readFraction_42 rfl (fun h42 => ?_) (fun h42 => ?_)
                · have h42 : ¬ 10 < tnB t (l0.getD p1 0) := Nat.not_lt.mpr ((nI_leI (by have := (tnB_lt (t := t) (getD_lt hl.2.1 p1)); omega) (by decide)).mp h42)
                  refine a_iload S d_Reader_readFraction_47 rfl ?_
                  refine a_if_ne S (tgt := 78) d_Reader_readFraction_49 rfl (fun h49 => ?_) (fun h49 => ?_)
                  · have h49 : ¬ tnB t (l0.getD p1 0) = 0 := fun z => h49 (by rw [z]; rfl)
                    refine a_lload S d_Reader_readFraction_78 rfl ?_
                    refine a_ldc2 S (v := 10) lK_Reader_107 d_Reader_readFraction_80 ?_
                    refine a_lmul S d_Reader_readFraction_83 ?_
                    refine a_iload S d_Reader_readFraction_84 rfl ?_
                    refine a_i2l S d_Reader_readFraction_86 ?_
                    refine a_ladd S d_Reader_readFraction_87 ?_
                    refine a_lconst S (v := 1) d_Reader_readFraction_88 (by decide) ?_
                    refine a_lsub S d_Reader_readFraction_89 ?_
                    refine a_eql (y := (lN (q * 10 + (tnB t (l0.getD p1 0) - 1)))) (l_dig h49 (tnB_lt (t := t) (getD_lt hl.2.1 p1))) ?_
                    refine a_lstore S d_Reader_readFraction_90 (Nat.le_of_ble_eq_true rfl) (lv' := [(0, .ref a), (1, .int (nI fi)), (2, .int sg), (3, .ref va), (4, .int (nI (tnB t (l0.getD p 0)))), (5, .long (lN (q * 10 + (tnB t (l0.getD p1 0) - 1)))), (7, .int (nI i)), (8, .int (nI (tnB t (l0.getD p1 0))))]) rfl ?_
                    refine a_iinc S (v := nI (i + 1)) d_Reader_readFraction_92 rfl (ni_add rfl (by decide)) (Nat.le_of_ble_eq_true rfl) (lv' := [(0, .ref a), (1, .int (nI fi)), (2, .int sg), (3, .ref va), (4, .int (nI (tnB t (l0.getD p 0)))), (5, .long (lN (q * 10 + (tnB t (l0.getD p1 0) - 1)))), (7, .int (nI (i + 1))), (8, .int (nI (tnB t (l0.getD p1 0))))]) rfl ?_
                    refine a_goto S (tgt := 20) d_Reader_readFraction_95 rfl ?_
                    refine a_lv [0, 1, 2, 3, 4, 5, 6] (lv' := [(0, .ref a), (1, .int (nI fi)), (2, .int sg), (3, .ref va), (4, .int (nI (tnB t (l0.getD p 0)))), (5, .long (lN (q * 10 + (tnB t (l0.getD p1 0) - 1)))), (7, .int (nI (i + 1)))]) rfl ?_
                    exact ih20 _ (by omega) (i + 1) (q * 10 + (tnB t (l0.getD p1 0) - 1)) (p1 + 1) w8 rfl (by omega) (by omega) fr hl hr hv (by rcases Nat.lt_or_ge i 16 with hi | hi; exact Or.inl ⟨by omega, by rw [he, show 16 - i = (16 - (i + 1)) + 1 by omega, rG_s hq12 h49 h42]⟩; exact Or.inr ⟨by omega, by rw [he, show 16 - i = 0 by omega, rG_e hq12 h49]⟩)
                  · have h49 : tnB t (l0.getD p1 0) = 0 := nI_byte (tnB_lt (t := t) (getD_lt hl.2.1 p1)) (by decide) h49
                    obtain ⟨r1, r2⟩ := hr
                    refine a_aload_n S d_Reader_readFraction_52 rfl rfl ?_
                    refine a_get S kc_Reader 4 (by decide) lf_Reader_18 r1 rfl d_Reader_readFraction_53 ?_
                    refine a_iload_n S d_Reader_readFraction_56 rfl rfl ?_
                    refine a_iload S d_Reader_readFraction_57 rfl ?_
                    refine a_bipush S (v := 64) d_Reader_readFraction_59 (by decide) ?_
                    refine a_isub S d_Reader_readFraction_61 ?_
                    refine a_iload S d_Reader_readFraction_62 rfl ?_
                    refine a_isub S d_Reader_readFraction_64 ?_
                    refine a_iast S (i := fi) r2 rfl (by omega) (by decide) d_Reader_readFraction_65 (fun w13 r2 e14 => ?_)
                    have fr : Fr2 w w13 a 2 va 2 := fun q h1 h2 => ((Fr.of1 e14) q (by omega)).trans (fr q h1 h2)
                    have r1 := Fr.cell (Fr.of1 e14) r1 (by omega)
                    have hl := Row.fr (Fr.of1 e14) hl (by omega)
                    have hv := Val.fr (Fr.of1 e14) hv (by omega)
                    have hr : Rd D w13 a sa ra (p1 + 1) t (upd pw fi ((nI (tnB t (l0.getD p 0)) - 64) - nI i)) := ⟨r1, r2⟩
                    refine a_aload_n S d_Reader_readFraction_66 rfl rfl ?_
                    refine a_iload_n S d_Reader_readFraction_67 rfl rfl ?_
                    refine a_i2l S d_Reader_readFraction_68 ?_
                    refine a_lload S d_Reader_readFraction_69 rfl ?_
                    refine a_lmul S d_Reader_readFraction_71 ?_
                    refine a_iconst S (v := 0) d_Reader_readFraction_72 (by decide) ?_
                    refine a_callV S (rest := []) lg_Reader_95 hv.cell (c_Value_become X.2.1 D va v0 (sg.toInt64 * (lN q)) 0 w13 n hv) (by decide) (by omega) (by omega) rfl (Nat.le_of_ble_eq_true rfl) d_Reader_readFraction_73 (fun v15 w16 n17 p18 => ?_)
                    obtain ⟨rfl, e20, f19, hv⟩ := p18
                    rw [e20]
                    refine a_st (st' := []) rfl ?_
                    have fr : Fr2 w w16 a 2 va 2 := fun q h1 h2 => (f19 q (by omega)).trans (fr q h1 h2)
                    have hl := Row.fr f19 hl (by omega)
                    have hr := Rd.fr f19 hr (by omega)
                    refine a_iconst S (v := 1) d_Reader_readFraction_76 (by decide) ?_
                    exact RT _ _ _ _ _ _ _ d_Reader_readFraction_77 rfl (by omega) (by omega) ⟨true, p1 + 1, _, _, rfl, rfl, fr, hr, (by omega), hv, (fun j hj => pk_un hj), (fun _ => ⟨_, _, rF_some hq6 (by rw [he]; exact rG_0 hq12 h49), rfl, pk_us⟩), (fun z => by cases z)⟩
                · have h42 : 10 < tnB t (l0.getD p1 0) := Nat.not_le.mp fun z => h42 ((nI_leI (by have := (tnB_lt (t := t) (getD_lt hl.2.1 p1)); omega) (by decide)).mpr z)
                  refine a_iconst S (v := 0) d_Reader_readFraction_45 (by decide) ?_
                  exact RT _ _ _ _ _ _ _ d_Reader_readFraction_46 rfl (by omega) (by omega) ⟨false, p1 + 1, v0, pw, rfl, rfl, fr, hr, (by omega), hv, (fun _ _ => rfl), (fun z => by cases z), (fun _ => rF_none hq6 (by rw [he]; exact rG_big hq12 (by omega) h42))⟩
            · refine a_st (st' := [.int (-1)]) rfl ?_
              have fr : Fr2 w w8 a 2 va 2 := fun q h1 h2 => (f11 q (by omega)).trans (fr q h1 h2)
              have hl := Row.fr f11 hl (by omega)
              have hv := Val.fr f11 hv (by omega)
              refine a_istore S d_Reader_readFraction_31 (Nat.le_of_ble_eq_true rfl) (lv' := [(0, .ref a), (1, .int (nI fi)), (2, .int sg), (3, .ref va), (4, .int (nI (tnB t (l0.getD p 0)))), (5, .long (lN q)), (7, .int (nI i)), (8, .int (-1))]) rfl ?_
              refine a_iload S d_Reader_readFraction_33 rfl ?_
              refine a_if_lt S (tgt := 45) d_Reader_readFraction_35 rfl (fun h35 => ?_) (fun h35 => ?_)
              · refine a_iconst S (v := 0) d_Reader_readFraction_45 (by decide) ?_
                exact RT _ _ _ _ _ _ _ d_Reader_readFraction_46 rfl (by omega) (by omega) ⟨false, p1, v0, pw, rfl, rfl, fr, hr, (by omega), hv, (fun _ _ => rfl), (fun z => by cases z), (fun _ => rF_none hq6 (by rw [he]; exact rG_nil hq12))⟩
              · exact absurd (by decide) h35
      exact loop20 _ 0 0 (p + 1) w2 rfl (Nat.zero_le _) (by omega) fr hl hr hv (Or.inl ⟨Nat.zero_le _, rfl⟩)
    · exact absurd h9 (nI_m1 (tnB_lt (getD_lt hl.2.1 p)))
  · refine a_st (st' := [.int (-1)]) rfl ?_
    have fr : Fr2 w w2 a 2 va 2 := fun q h1 h2 => (f5 q (by omega)).trans (fr q h1 h2)
    have hl := Row.fr f5 hl (by omega)
    have hv := Val.fr f5 hv (by omega)
    refine a_istore S d_Reader_readFraction_4 (Nat.le_of_ble_eq_true rfl) (lv' := [(0, .ref a), (1, .int (nI fi)), (2, .int sg), (3, .ref va), (4, .int (-1))]) rfl ?_
    refine a_iload S d_Reader_readFraction_6 rfl ?_
    refine a_iconst S (v := (-1)) d_Reader_readFraction_8 (by decide) ?_
    refine a_icmp_ne S (tgt := 14) d_Reader_readFraction_9 rfl (fun h9 => ?_) (fun h9 => ?_)
    · exact absurd (by decide) h9
    · refine a_iconst S (v := 0) d_Reader_readFraction_12 (by decide) ?_
      exact RT _ _ _ _ _ _ _ d_Reader_readFraction_13 rfl (by omega) (by omega) ⟨false, p, v0, pw, rfl, rfl, fr, hr, (by omega), hv, (fun _ _ => rfl), (fun z => by cases z), (fun _ => rF_nil hq6)⟩
set_option maxHeartbeats 400000 in
set_option maxRecDepth 100000 in
theorem c_Reader_readDecimal (l : Launch) (D : kD) (va fi : Nat) (v0 : kV) (a sa ra p t : Nat) (pw : Nat → Int32) (l0 : List Nat) (w : ww) (n : Nat) (hfi : fi < 5) (hd1 : a + 2 ≤ ra ∨ ra + 2 ≤ a) (hd2 : a + 2 ≤ va ∨ va + 2 ≤ a) (hd3 : va + 2 ≤ ra ∨ ra + 2 ≤ va) (hp0 : p ≤ l0.length) (ht : t = 0 ∨ t = 255) (hl : Row D w ra l0) (hr : Rd D w a sa ra p t pw) (hv : Val D w va v0) : AM l D M_Reader_readDecimal 3 0 0 [.ref a, .int (nI fi), .ref va] w n (fun v w' n' => ∃ (ok : Bool) (p1 : Nat) (v1 : kV) (pw1 : Nat → Int32) (t1 : Nat), (t1 = 0 ∨ t1 = 255) ∧ v = some (.int (if ok then 1 else 0)) ∧ n' = n ∧ Fr2 w w' a 2 va 2 ∧ Rd D w' a sa ra p1 t1 pw1 ∧ p1 ≤ l0.length ∧ Val D w' va v1 ∧ (∀ j, j ≠ fi → pw1 j = pw j) ∧ (ok = true → ∃ (d : Int64) (e : Int32), rdD t (l0.drop p) = some (d, e, l0.drop p1) ∧ v1 = (false, d, 0, []) ∧ pw1 fi = e) ∧ (ok = false → rdD t (l0.drop p) = none)) := by
  refine AM.ofz (by decide +kernel) rfl (Nat.le_of_ble_eq_true rfl) (fun X A Q hin S RT => ?_)
  have S : FX X (D, A, 4, Q) prog_2_method_7_code "KeyCodec$KeyReader" 3 0 0 := S
  have RT : RTz X (D, A, 4, Q) prog_2_method_7_code 0 0 _ := RT
  refine a_lve (lv' := [(0, .ref a), (1, .int (nI fi)), (2, .ref va)]) rfl ?_
  have fr : Fr2 w w a 2 va 2 := fun _ _ _ => rfl
  obtain ⟨r1, r2⟩ := hr
  refine a_aload_n S d_Reader_readDecimal_0 rfl rfl ?_
  refine a_get S kc_Reader 4 (by decide) lf_Reader_18 r1 rfl d_Reader_readDecimal_1 ?_
  refine a_iload_n S d_Reader_readDecimal_4 rfl rfl ?_
  refine a_iconst S (v := 0) d_Reader_readDecimal_5 (by decide) ?_
  refine a_iast S (i := fi) r2 rfl (by omega) (by decide) d_Reader_readDecimal_6 (fun w1 r2 e2 => ?_)
  have fr : Fr2 w w1 a 2 va 2 := fun q h1 h2 => ((Fr.of1 e2) q (by omega)).trans (fr q h1 h2)
  have r1 := Fr.cell (Fr.of1 e2) r1 (by omega)
  have hl := Row.fr (Fr.of1 e2) hl (by omega)
  have hv := Val.fr (Fr.of1 e2) hv (by omega)
  have hr : Rd D w1 a sa ra p t (upd pw fi 0) := ⟨r1, r2⟩
  refine a_aload_n S d_Reader_readDecimal_7 rfl rfl ?_
  refine a_lconst S (v := 0) d_Reader_readDecimal_8 (by decide) ?_
  refine a_iconst S (v := 0) d_Reader_readDecimal_9 (by decide) ?_
  refine a_callV S (rest := []) lg_Reader_95 hv.cell (c_Value_become X.2.1 D va v0 0 0 w1 n hv) (by decide) (by omega) (by omega) rfl (Nat.le_of_ble_eq_true rfl) d_Reader_readDecimal_10 (fun v3 w4 n5 p6 => ?_)
  obtain ⟨rfl, e8, f7, hv⟩ := p6
  rw [e8]
  refine a_st (st' := []) rfl ?_
  have fr : Fr2 w w4 a 2 va 2 := fun q h1 h2 => (f7 q (by omega)).trans (fr q h1 h2)
  have hl := Row.fr f7 hl (by omega)
  have hr := Rd.fr f7 hr (by omega)
  refine a_aload_n S d_Reader_readDecimal_13 rfl rfl ?_
  refine a_callV S (rest := []) lg_Reader_67 hr.cell (c_Reader_next X.2.1 D a sa ra p t (upd pw fi 0) l0 w4 n (by omega) (by omega) ht hl hr) (by decide) (by omega) (by omega) rfl (Nat.le_of_ble_eq_true rfl) d_Reader_readDecimal_14 (fun v9 w10 n11 p12 => ?_)
  obtain ⟨e14, f13, hq14⟩ := p12
  rw [e14]
  rcases hq14 with ⟨hq14, rfl, hr⟩ | ⟨hq14, rfl, hr⟩
  · refine a_st (st' := [.int (nI (tnB t (l0.getD p 0)))]) rfl ?_
    have fr : Fr2 w w10 a 2 va 2 := fun q h1 h2 => (f13 q (by omega)).trans (fr q h1 h2)
    have hl := Row.fr f13 hl (by omega)
    have hv := Val.fr f13 hv (by omega)
    refine a_istore_n S d_Reader_readDecimal_17 rfl (Nat.le_of_ble_eq_true rfl) (lv' := [(0, .ref a), (1, .int (nI fi)), (2, .ref va), (3, .int (nI (tnB t (l0.getD p 0))))]) rfl ?_
    refine a_iload_n S d_Reader_readDecimal_18 rfl rfl ?_
    refine a_iconst S (v := 2) d_Reader_readDecimal_19 (by decide) ?_
    refine a_icmp_ne S (tgt := 25) d_Reader_readDecimal_20 rfl (fun h20 => ?_) (fun h20 => ?_)
    · have h20 : ¬ tnB t (l0.getD p 0) = 2 := fun z => h20 (by rw [z]; rfl)
      refine a_iload_n S d_Reader_readDecimal_25 rfl rfl ?_
      refine a_iconst S (v := 1) d_Reader_readDecimal_26 (by decide) ?_
      refine a_icmp_eq S (tgt := 37) d_Reader_readDecimal_27 rfl (fun h27 => ?_) (fun h27 => ?_)
      · have h27 : tnB t (l0.getD p 0) = 1 := nI_byte (tnB_lt (t := t) (getD_lt hl.2.1 p)) (by decide) h27
        refine a_iload_n S d_Reader_readDecimal_37 rfl rfl ?_
        refine a_iconst S (v := 3) d_Reader_readDecimal_38 (by decide) ?_
        refine a_icmp_ne S (tgt := 50) d_Reader_readDecimal_39 rfl (fun h39 => ?_) (fun h39 => ?_)
        · obtain ⟨r1, r2⟩ := hr
          refine a_aload_n S d_Reader_readDecimal_50 rfl rfl ?_
          refine a_dup S d_Reader_readDecimal_51 rfl ?_
          refine a_get S kc_Reader 3 (by decide) lf_Reader_15 r1 rfl d_Reader_readDecimal_52 ?_
          refine a_sipush S (v := 255) d_Reader_readDecimal_55 (by decide) ?_
          refine a_ixor S d_Reader_readDecimal_58 ?_
          refine a_eqi (y := nI (255 - t)) (tn_x ht) ?_
          refine a_put S kc_Reader kt_Reader 3 (by decide) lf_Reader_15 rfl r1 rfl rfl (Nat.le_of_ble_eq_true rfl) d_Reader_readDecimal_59 (fun w15 r1 e16 => ?_)
          have r1 : w15 a = some (.inr (5, [.ref sa, .ref ra, .int (nI (p + 1)), .int (nI (255 - t)), .ref (a + 1)])) := r1
          have fr : Fr2 w w15 a 2 va 2 := fun q h1 h2 => ((Fr.of1 e16) q (by omega)).trans (fr q h1 h2)
          have r2 := Fr.cell (Fr.of1 e16) r2 (by omega)
          have hl := Row.fr (Fr.of1 e16) hl (by omega)
          have hv := Val.fr (Fr.of1 e16) hv (by omega)
          have hr : Rd D w15 a sa ra (p + 1) (255 - t) (upd pw fi 0) := ⟨r1, r2⟩
          refine a_aload_n S d_Reader_readDecimal_62 rfl rfl ?_
          refine a_iload_n S d_Reader_readDecimal_63 rfl rfl ?_
          refine a_iconst S (v := (-1)) d_Reader_readDecimal_64 (by decide) ?_
          refine a_aload_n S d_Reader_readDecimal_65 rfl rfl ?_
          refine a_callV S (rest := []) lg_Reader_103 hr.cell (c_Reader_readFraction X.2.1 D va fi (-1) (false, 0, 0, []) a sa ra (p + 1) (255 - t) (upd pw fi 0) l0 w15 n (by omega) (by omega) (by omega) (by omega) (by omega) (by omega) hl hr hv) (by decide) (by omega) (by omega) rfl (Nat.le_of_ble_eq_true rfl) d_Reader_readDecimal_66 (fun v17 w18 n19 p20 => ?_)
          obtain ⟨ok, p1, v1, pw1, rfl, e22, f21, hr, hp1, hv, hpw, hok, hno⟩ := p20
          rw [e22]
          refine a_st (st' := [.int (if ok then 1 else 0)]) rfl ?_
          have fr : Fr2 w w18 a 2 va 2 := fun q h1 h2 => (f21 q (by omega) (by omega)).trans (fr q h1 h2)
          have hl := Row.mv (fun q h1 h2 => f21 q (by omega) (by omega)) hl
          exact RT _ _ _ _ _ _ _ d_Reader_readDecimal_69 (bo_nar ok) (by omega) (by omega) ⟨ok, p1, v1, pw1, 255 - t, (by omega), rfl, rfl, fr, hr, hp1, hv, (fun j hj => (hpw j hj).trans (pk_un hj)), (fun z => by obtain ⟨d, e, g1, g2, g3⟩ := hok z; exact ⟨d, e, by rw [rD_1 hq14 h27]; exact g1, g2, g3⟩), (fun z => by rw [rD_1 hq14 h27]; exact hno z)⟩
        · exact absurd (nI_byte (tnB_lt (t := t) (getD_lt hl.2.1 p)) (by decide) h39 : tnB t (l0.getD p 0) = 3) (by omega)
      · have h27 : ¬ tnB t (l0.getD p 0) = 1 := fun z => h27 (by rw [z]; rfl)
        refine a_iload_n S d_Reader_readDecimal_30 rfl rfl ?_
        refine a_iconst S (v := 3) d_Reader_readDecimal_31 (by decide) ?_
        refine a_icmp_eq S (tgt := 37) d_Reader_readDecimal_32 rfl (fun h32 => ?_) (fun h32 => ?_)
        · have h32 : tnB t (l0.getD p 0) = 3 := nI_byte (tnB_lt (t := t) (getD_lt hl.2.1 p)) (by decide) h32
          refine a_iload_n S d_Reader_readDecimal_37 rfl rfl ?_
          refine a_iconst S (v := 3) d_Reader_readDecimal_38 (by decide) ?_
          refine a_icmp_ne S (tgt := 50) d_Reader_readDecimal_39 rfl (fun h39 => ?_) (fun h39 => ?_)
          · exact absurd (by rw [h32]; rfl) h39
          · refine a_aload_n S d_Reader_readDecimal_42 rfl rfl ?_
            refine a_iload_n S d_Reader_readDecimal_43 rfl rfl ?_
            refine a_iconst S (v := 1) d_Reader_readDecimal_44 (by decide) ?_
            refine a_aload_n S d_Reader_readDecimal_45 rfl rfl ?_
            refine a_callV S (rest := []) lg_Reader_103 hr.cell (c_Reader_readFraction X.2.1 D va fi 1 (false, 0, 0, []) a sa ra (p + 1) t (upd pw fi 0) l0 w10 n (by omega) (by omega) (by omega) (by omega) (by omega) ht hl hr hv) (by decide) (by omega) (by omega) rfl (Nat.le_of_ble_eq_true rfl) d_Reader_readDecimal_46 (fun v23 w24 n25 p26 => ?_)
            obtain ⟨ok, p1, v1, pw1, rfl, e28, f27, hr, hp1, hv, hpw, hok, hno⟩ := p26
            rw [e28]
            refine a_st (st' := [.int (if ok then 1 else 0)]) rfl ?_
            have fr : Fr2 w w24 a 2 va 2 := fun q h1 h2 => (f27 q (by omega) (by omega)).trans (fr q h1 h2)
            have hl := Row.mv (fun q h1 h2 => f27 q (by omega) (by omega)) hl
            exact RT _ _ _ _ _ _ _ d_Reader_readDecimal_49 (bo_nar ok) (by omega) (by omega) ⟨ok, p1, v1, pw1, t, ht, rfl, rfl, fr, hr, hp1, hv, (fun j hj => (hpw j hj).trans (pk_un hj)), (fun z => by obtain ⟨d, e, g1, g2, g3⟩ := hok z; exact ⟨d, e, by rw [rD_3 hq14 h32]; exact g1, g2, g3⟩), (fun z => by rw [rD_3 hq14 h32]; exact hno z)⟩
        · have h32 : ¬ tnB t (l0.getD p 0) = 3 := fun z => h32 (by rw [z]; rfl)
          refine a_iconst S (v := 0) d_Reader_readDecimal_35 (by decide) ?_
          exact RT _ _ _ _ _ _ _ d_Reader_readDecimal_36 rfl (by omega) (by omega) ⟨false, p + 1, _, _, t, ht, rfl, rfl, fr, hr, (by omega), hv, (fun j hj => pk_un hj), (fun z => by cases z), (fun _ => rD_n hq14 h20 h27 h32)⟩
    · have h20 : tnB t (l0.getD p 0) = 2 := nI_byte (tnB_lt (t := t) (getD_lt hl.2.1 p)) (by decide) h20
      refine a_iconst S (v := 1) d_Reader_readDecimal_23 (by decide) ?_
      exact RT _ _ _ _ _ _ _ d_Reader_readDecimal_24 rfl (by omega) (by omega) ⟨true, p + 1, _, _, t, ht, rfl, rfl, fr, hr, (by omega), hv, (fun j hj => pk_un hj), (fun _ => ⟨0, 0, rD_2 hq14 h20, rfl, pk_us⟩), (fun z => by cases z)⟩
  · refine a_st (st' := [.int (-1)]) rfl ?_
    have fr : Fr2 w w10 a 2 va 2 := fun q h1 h2 => (f13 q (by omega)).trans (fr q h1 h2)
    have hl := Row.fr f13 hl (by omega)
    have hv := Val.fr f13 hv (by omega)
    refine a_istore_n S d_Reader_readDecimal_17 rfl (Nat.le_of_ble_eq_true rfl) (lv' := [(0, .ref a), (1, .int (nI fi)), (2, .ref va), (3, .int (-1))]) rfl ?_
    refine a_iload_n S d_Reader_readDecimal_18 rfl rfl ?_
    refine a_iconst S (v := 2) d_Reader_readDecimal_19 (by decide) ?_
    refine a_icmp_ne S (tgt := 25) d_Reader_readDecimal_20 rfl (fun h20 => ?_) (fun h20 => ?_)
    · refine a_iload_n S d_Reader_readDecimal_25 rfl rfl ?_
      refine a_iconst S (v := 1) d_Reader_readDecimal_26 (by decide) ?_
      refine a_icmp_eq S (tgt := 37) d_Reader_readDecimal_27 rfl (fun h27 => ?_) (fun h27 => ?_)
      · exact absurd h27 (by decide)
      · refine a_iload_n S d_Reader_readDecimal_30 rfl rfl ?_
        refine a_iconst S (v := 3) d_Reader_readDecimal_31 (by decide) ?_
        refine a_icmp_eq S (tgt := 37) d_Reader_readDecimal_32 rfl (fun h32 => ?_) (fun h32 => ?_)
        · exact absurd h32 (by decide)
        · refine a_iconst S (v := 0) d_Reader_readDecimal_35 (by decide) ?_
          exact RT _ _ _ _ _ _ _ d_Reader_readDecimal_36 rfl (by omega) (by omega) ⟨false, p, _, _, t, ht, rfl, rfl, fr, hr, (by omega), hv, (fun j hj => pk_un hj), (fun z => by cases z), (fun _ => rD_nil hq14)⟩
    · exact absurd h20 (by decide)
set_option maxHeartbeats 400000 in
set_option maxRecDepth 100000 in
theorem c_Reader_readScale (l : Launch) (D : kD) (va fi c : Nat) (s : Bool) (K F : Nat → Nat) (v0 : kV) (a sa ra p : Nat) (pw : Nat → Int32) (l0 : List Nat) (w : ww) (n : Nat) (hd1 : a + 2 ≤ ra ∨ ra + 2 ≤ a) (hd2 : a + 2 ≤ va ∨ va + 2 ≤ a) (hd3 : va + 2 ≤ ra ∨ ra + 2 ≤ va) (hd4 : sa + 3 ≤ a ∨ a + 2 ≤ sa) (hd5 : sa + 3 ≤ va ∨ va + 2 ≤ sa) (hfi : fi < c) (hp0 : p ≤ l0.length) (hs : Sch D w sa c s K F) (hl : Row D w ra l0) (hr : Rd D w a sa ra p 0 pw) (hv : Val D w va v0) : AM l D M_Reader_readScale 2 0 0 [.ref a, .int (nI fi), .ref va] w n (fun v w' n' => ∃ (ok : Bool) (p1 : Nat) (v1 : kV), v = some (.int (if ok then 1 else 0)) ∧ n' = n ∧ Fr2 w w' a 2 va 2 ∧ Rd D w' a sa ra p1 0 pw ∧ p1 ≤ l0.length ∧ Val D w' va v1 ∧ (ok = true → ∃ (z : Int64) (f : Int32), v1 = (false, z, f, []) ∧ okN (K fi) z f) ∧ ScC l0 p (K fi) (pw fi) v0.2.1 ok p1 v1) := by
  refine AM.ofz (by decide +kernel) rfl (Nat.le_of_ble_eq_true rfl) (fun X A Q hin S RT => ?_)
  have S : FX X (D, A, 8, Q) prog_2_method_10_code "KeyCodec$KeyReader" 2 0 0 := S
  have RT : RTz X (D, A, 8, Q) prog_2_method_10_code 0 0 _ := RT
  have ht : (0 : Nat) = 0 ∨ (0 : Nat) = 255 := Or.inl rfl
  have hc5 := hs.1
  refine a_lve (lv' := [(0, .ref a), (1, .int (nI fi)), (2, .ref va)]) rfl ?_
  have fr : Fr2 w w a 2 va 2 := fun _ _ _ => rfl
  refine a_aload_n S d_Reader_readScale_0 rfl rfl ?_
  refine a_callV S (rest := []) lg_Reader_67 hr.cell (c_Reader_next X.2.1 D a sa ra p 0 pw l0 w n (by omega) (by omega) ht hl hr) (by decide) (by omega) (by omega) rfl (Nat.le_of_ble_eq_true rfl) d_Reader_readScale_1 (fun v1 w2 n3 p4 => ?_)
  obtain ⟨e6, f5, hq6⟩ := p4
  rw [e6]
  rcases hq6 with ⟨hq6, rfl, hr⟩ | ⟨hq6, rfl, hr⟩
  · refine a_st (st' := [.int (nI (tnB 0 (l0.getD p 0)))]) rfl ?_
    have fr : Fr2 w w2 a 2 va 2 := fun q h1 h2 => (f5 q (by omega)).trans (fr q h1 h2)
    have hl := Row.fr f5 hl (by omega)
    have hv := Val.fr f5 hv (by omega)
    have hs := Sch.fr f5 hs (by omega)
    refine a_istore_n S d_Reader_readScale_4 rfl (Nat.le_of_ble_eq_true rfl) (lv' := [(0, .ref a), (1, .int (nI fi)), (2, .ref va), (3, .int (nI (tnB 0 (l0.getD p 0))))]) rfl ?_
    obtain ⟨r1, r2⟩ := hr
    refine a_aload_n S d_Reader_readScale_5 rfl rfl ?_
    refine a_get S kc_Reader 4 (by decide) lf_Reader_18 r1 rfl d_Reader_readScale_6 ?_
    refine a_iload_n S d_Reader_readScale_9 rfl rfl ?_
    refine a_iald S (i := fi) r2 rfl (by omega) (by decide) d_Reader_readScale_10 ?_
    have hr : Rd D w2 a sa ra (p + 1) 0 pw := ⟨r1, r2⟩
    refine a_iload_n S d_Reader_readScale_11 rfl rfl ?_
    refine a_iadd S d_Reader_readScale_12 ?_
    refine a_istore S d_Reader_readScale_13 (Nat.le_of_ble_eq_true rfl) (lv' := [(0, .ref a), (1, .int (nI fi)), (2, .ref va), (3, .int (nI (tnB 0 (l0.getD p 0)))), (4, .int (pw fi + nI (tnB 0 (l0.getD p 0))))]) rfl ?_
    refine a_iload_n S d_Reader_readScale_15 rfl rfl ?_
    refine a_iconst S (v := (-1)) d_Reader_readScale_16 (by decide) ?_
    refine a_icmp_eq S (tgt := 25) d_Reader_readScale_17 rfl (fun h17 => ?_) (fun h17 => ?_)
    · exact absurd h17 (nI_m1 (tnB_lt (getD_lt hl.2.1 p)))
    · refine a_iload S d_Reader_readScale_20 rfl ?_
      refine a_if_ge S (tgt := 27) d_Reader_readScale_22 rfl (fun h22 => ?_) (fun h22 => ?_)
      · obtain ⟨z, hz, ez⟩ := nI_of (k2_nlt h22)
        refine a_lve (lv' := [(0, .ref a), (1, .int (nI fi)), (2, .ref va), (3, .int (nI (tnB 0 (l0.getD p 0)))), (4, .int (nI z))]) (by rw [ez]) ?_
        have vc := hv.cell
        refine a_aload_n S d_Reader_readScale_27 rfl rfl ?_
        refine a_get S kc_Value 1 (by decide) lf_Reader_115 vc rfl d_Reader_readScale_28 ?_
        refine a_lstore S d_Reader_readScale_31 (Nat.le_of_ble_eq_true rfl) (lv' := [(0, .ref a), (1, .int (nI fi)), (2, .ref va), (3, .int (nI (tnB 0 (l0.getD p 0)))), (4, .int (nI z)), (5, .long v0.2.1)]) rfl ?_
        refine a_iconst S (v := 0) d_Reader_readScale_33 (by decide) ?_
        refine a_istore S d_Reader_readScale_34 (Nat.le_of_ble_eq_true rfl) (lv' := [(0, .ref a), (1, .int (nI fi)), (2, .ref va), (3, .int (nI (tnB 0 (l0.getD p 0)))), (4, .int (nI z)), (5, .long v0.2.1), (7, .int 0)]) rfl ?_
        have loop36 : ∀ (kk36 : Nat) (i : Nat) (m : Int64), z - i = kk36 → (i ≤ z) → (∀ dv : Int, v0.2.1.toInt * 10 ^ z = dv → -(10 : Int) ^ 15 ≤ dv → dv ≤ 10 ^ 15 → m.toInt = v0.2.1.toInt * 10 ^ i) → AW X (D, A, 8, Q) 36 [(0, .ref a), (1, .int (nI fi)), (2, .ref va), (3, .int (nI (tnB 0 (l0.getD p 0)))), (4, .int (nI z)), (5, .long m), (7, .int (nI i))] [] w2 n (0 + 0) (0 + 0) := by
          intro kk36
          induction kk36 using Nat.strongRecOn with
          | ind kk36 ih36 =>
            intro i m hk36 hi hm
            refine a_iload S d_Reader_readScale_36 rfl ?_
            refine a_iload S d_Reader_readScale_38 rfl ?_
            refine a_icmp_ge S (tgt := 71) d_Reader_readScale_40 rfl (fun h40 => ?_) (fun h40 => ?_)
            · have hi : i = z := Nat.le_antisymm hi ((nI_leI (by omega) (by omega)).mp h40)
              subst hi
              refine a_aload_n S d_Reader_readScale_71 rfl rfl ?_
              refine a_lload S d_Reader_readScale_72 rfl ?_
              refine a_iload_n S d_Reader_readScale_74 rfl rfl ?_
              refine a_callV S (rest := []) lg_Reader_95 hv.cell (c_Value_become X.2.1 D va v0 m (nI (tnB 0 (l0.getD p 0))) w2 n hv) (by decide) (by omega) (by omega) rfl (Nat.le_of_ble_eq_true rfl) d_Reader_readScale_75 (fun v7 w8 n9 p10 => ?_)
              obtain ⟨rfl, e12, f11, hv⟩ := p10
              rw [e12]
              refine a_st (st' := []) rfl ?_
              have fr : Fr2 w w8 a 2 va 2 := fun q h1 h2 => (f11 q (by omega)).trans (fr q h1 h2)
              have hl := Row.fr f11 hl (by omega)
              have hs := Sch.fr f11 hs (by omega)
              have hr := Rd.fr f11 hr (by omega)
              obtain ⟨r1, r2⟩ := hr
              refine a_aload_n S d_Reader_readScale_78 rfl rfl ?_
              refine a_get S kc_Reader 0 (by decide) lf_Reader_22 r1 rfl d_Reader_readScale_79 ?_
              have hr : Rd D w8 a sa ra (p + 1) 0 pw := ⟨r1, r2⟩
              refine a_iload_n S d_Reader_readScale_82 rfl rfl ?_
              refine a_lload S d_Reader_readScale_83 rfl ?_
              refine a_iload_n S d_Reader_readScale_85 rfl rfl ?_
              refine a_callV S (rest := []) lg_Reader_127 hs.cell (c_Schema_allows X.2.1 D sa c s K F fi m (nI (tnB 0 (l0.getD p 0))) w8 n (by omega) hs) (by decide) (by omega) (by omega) rfl (Nat.le_of_ble_eq_true rfl) d_Reader_readScale_86 (fun v13 w14 n15 p16 => ?_)
              obtain ⟨b, rfl, hb, e17, e18⟩ := p16
              rw [e17, e18]
              refine a_st (st' := [.int (if b then 1 else 0)]) rfl ?_
              exact RT _ _ _ _ _ _ _ d_Reader_readScale_89 (bo_nar b) (by omega) (by omega) ⟨b, p + 1, _, rfl, rfl, fr, hr, (by omega), hv, (fun q => ⟨_, _, rfl, hb.mp q⟩), ScC.fin hz ez hm hb⟩
            · have hi : i < z := Nat.not_le.mp fun q => h40 ((nI_leI (by omega) (by omega)).mpr q)
              refine a_lload S d_Reader_readScale_43 rfl ?_
              refine a_mabsl S lm_Reader_119 ts_abs1 ts_math ts_abs2 (by decide) (by omega) (by omega) (Nat.le_of_ble_eq_true rfl) d_Reader_readScale_45 ?_
              refine a_ldc2 S (v := 1000000000000000) lK_Reader_125 d_Reader_readScale_48 ?_
              refine a_lcmp S d_Reader_readScale_51 ?_
              refine a_if_le S (tgt := 57) d_Reader_readScale_52 rfl (fun h52 => ?_) (fun h52 => ?_)
              · refine a_lload S d_Reader_readScale_57 rfl ?_
                refine a_ldc2 S (v := 10) lK_Reader_107 d_Reader_readScale_59 ?_
                refine a_lmul S d_Reader_readScale_62 ?_
                refine a_eql (y := m * 10) rfl ?_
                refine a_lstore S d_Reader_readScale_63 (Nat.le_of_ble_eq_true rfl) (lv' := [(0, .ref a), (1, .int (nI fi)), (2, .ref va), (3, .int (nI (tnB 0 (l0.getD p 0)))), (4, .int (nI z)), (5, .long (m * 10)), (7, .int (nI i))]) rfl ?_
                refine a_iinc S (v := nI (i + 1)) d_Reader_readScale_65 rfl (ni_add rfl (by decide)) (Nat.le_of_ble_eq_true rfl) (lv' := [(0, .ref a), (1, .int (nI fi)), (2, .ref va), (3, .int (nI (tnB 0 (l0.getD p 0)))), (4, .int (nI z)), (5, .long (m * 10)), (7, .int (nI (i + 1)))]) rfl ?_
                refine a_goto S (tgt := 36) d_Reader_readScale_68 rfl ?_
                exact ih36 _ (by omega) (i + 1) (m * 10) rfl (by omega) (fun dv e1 e2 e3 => by rw [← e1] at e2 e3; have := sc_mono (show i + 1 ≤ z by omega) e2 e3; exact sc_mul (hm _ rfl e2 e3) this.1 this.2)
              · refine a_iconst S (v := 0) d_Reader_readScale_55 (by decide) ?_
                exact RT _ _ _ _ _ _ _ d_Reader_readScale_56 rfl (by omega) (by omega) ⟨false, p + 1, v0, rfl, rfl, fr, hr, (by omega), hv, (fun q => by cases q), ScC.lim hz ez (by omega) hm h52⟩
        exact loop36 _ 0 v0.2.1 rfl (Nat.zero_le _) (fun dv _ _ _ => by simp)
      · refine a_iconst S (v := 0) d_Reader_readScale_25 (by decide) ?_
        exact RT _ _ _ _ _ _ _ d_Reader_readScale_26 rfl (by omega) (by omega) ⟨false, p + 1, v0, rfl, rfl, fr, hr, (by omega), hv, (fun q => by cases q), ScC.neg h22⟩
  · refine a_st (st' := [.int (-1)]) rfl ?_
    have fr : Fr2 w w2 a 2 va 2 := fun q h1 h2 => (f5 q (by omega)).trans (fr q h1 h2)
    have hl := Row.fr f5 hl (by omega)
    have hv := Val.fr f5 hv (by omega)
    have hs := Sch.fr f5 hs (by omega)
    refine a_istore_n S d_Reader_readScale_4 rfl (Nat.le_of_ble_eq_true rfl) (lv' := [(0, .ref a), (1, .int (nI fi)), (2, .ref va), (3, .int (-1))]) rfl ?_
    obtain ⟨r1, r2⟩ := hr
    refine a_aload_n S d_Reader_readScale_5 rfl rfl ?_
    refine a_get S kc_Reader 4 (by decide) lf_Reader_18 r1 rfl d_Reader_readScale_6 ?_
    refine a_iload_n S d_Reader_readScale_9 rfl rfl ?_
    refine a_iald S (i := fi) r2 rfl (by omega) (by decide) d_Reader_readScale_10 ?_
    have hr : Rd D w2 a sa ra p 0 pw := ⟨r1, r2⟩
    refine a_iload_n S d_Reader_readScale_11 rfl rfl ?_
    refine a_iadd S d_Reader_readScale_12 ?_
    refine a_istore S d_Reader_readScale_13 (Nat.le_of_ble_eq_true rfl) (lv' := [(0, .ref a), (1, .int (nI fi)), (2, .ref va), (3, .int (-1)), (4, .int (pw fi + (-1)))]) rfl ?_
    refine a_iload_n S d_Reader_readScale_15 rfl rfl ?_
    refine a_iconst S (v := (-1)) d_Reader_readScale_16 (by decide) ?_
    refine a_icmp_eq S (tgt := 25) d_Reader_readScale_17 rfl (fun h17 => ?_) (fun h17 => ?_)
    · refine a_iconst S (v := 0) d_Reader_readScale_25 (by decide) ?_
      exact RT _ _ _ _ _ _ _ d_Reader_readScale_26 rfl (by omega) (by omega) ⟨false, p, v0, rfl, rfl, fr, hr, (by omega), hv, (fun q => by cases q), ScC.nil hq6⟩
    · exact absurd (by decide) h17
set_option maxHeartbeats 400000 in
set_option maxRecDepth 100000 in
theorem c_Reader_readOffset (l : Launch) (D : kD) (va fi c : Nat) (s : Bool) (K F : Nat → Nat) (v0 : kV) (a sa ra p : Nat) (pw : Nat → Int32) (l0 : List Nat) (w : ww) (n : Nat) (hd1 : a + 2 ≤ ra ∨ ra + 2 ≤ a) (hd2 : a + 2 ≤ va ∨ va + 2 ≤ a) (hd3 : va + 2 ≤ ra ∨ ra + 2 ≤ va) (hd4 : sa + 3 ≤ a ∨ a + 2 ≤ sa) (hd5 : sa + 3 ≤ va ∨ va + 2 ≤ sa) (hfi : fi < c) (hp0 : p ≤ l0.length) (hs : Sch D w sa c s K F) (hl : Row D w ra l0) (hr : Rd D w a sa ra p 0 pw) (hv : Val D w va v0) : AM l D M_Reader_readOffset 2 0 0 [.ref a, .int (nI fi), .ref va] w n (fun v w' n' => ∃ (ok : Bool) (p1 : Nat) (v1 : kV), v = some (.int (if ok then 1 else 0)) ∧ n' = n ∧ Fr2 w w' a 2 va 2 ∧ Rd D w' a sa ra p1 0 pw ∧ p1 ≤ l0.length ∧ Val D w' va v1 ∧ (ok = true → ∃ (f : Int32), v1 = (false, v0.2.1, f, []) ∧ okN (K fi) v0.2.1 f) ∧ OfC l0 p (K fi) v0.2.1 ok p1 v1) := by
  refine AM.ofz (by decide +kernel) rfl (Nat.le_of_ble_eq_true rfl) (fun X A Q hin S RT => ?_)
  have S : FX X (D, A, 5, Q) prog_2_method_11_code "KeyCodec$KeyReader" 2 0 0 := S
  have RT : RTz X (D, A, 5, Q) prog_2_method_11_code 0 0 _ := RT
  have ht : (0 : Nat) = 0 ∨ (0 : Nat) = 255 := Or.inl rfl
  have hc5 := hs.1
  refine a_lve (lv' := [(0, .ref a), (1, .int (nI fi)), (2, .ref va)]) rfl ?_
  have fr : Fr2 w w a 2 va 2 := fun _ _ _ => rfl
  refine a_aload_n S d_Reader_readOffset_0 rfl rfl ?_
  refine a_callV S (rest := []) lg_Reader_67 hr.cell (c_Reader_next X.2.1 D a sa ra p 0 pw l0 w n (by omega) (by omega) ht hl hr) (by decide) (by omega) (by omega) rfl (Nat.le_of_ble_eq_true rfl) d_Reader_readOffset_1 (fun v1 w2 n3 p4 => ?_)
  obtain ⟨e6, f5, hq6⟩ := p4
  rw [e6]
  rcases hq6 with ⟨hq6, rfl, hr⟩ | ⟨hq6, rfl, hr⟩
  · refine a_st (st' := [.int (nI (tnB 0 (l0.getD p 0)))]) rfl ?_
    have fr : Fr2 w w2 a 2 va 2 := fun q h1 h2 => (f5 q (by omega)).trans (fr q h1 h2)
    have hl := Row.fr f5 hl (by omega)
    have hv := Val.fr f5 hv (by omega)
    have hs := Sch.fr f5 hs (by omega)
    refine a_istore_n S d_Reader_readOffset_4 rfl (Nat.le_of_ble_eq_true rfl) (lv' := [(0, .ref a), (1, .int (nI fi)), (2, .ref va), (3, .int (nI (tnB 0 (l0.getD p 0))))]) rfl ?_
    refine a_aload_n S d_Reader_readOffset_5 rfl rfl ?_
    refine a_callV S (rest := []) lg_Reader_67 hr.cell (c_Reader_next X.2.1 D a sa ra (p + 1) 0 pw l0 w2 n (by omega) (by omega) ht hl hr) (by decide) (by omega) (by omega) rfl (Nat.le_of_ble_eq_true rfl) d_Reader_readOffset_6 (fun v7 w8 n9 p10 => ?_)
    obtain ⟨e12, f11, hq12⟩ := p10
    rw [e12]
    rcases hq12 with ⟨hq12, rfl, hr⟩ | ⟨hq12, rfl, hr⟩
    · refine a_st (st' := [.int (nI (tnB 0 (l0.getD (p + 1) 0)))]) rfl ?_
      have fr : Fr2 w w8 a 2 va 2 := fun q h1 h2 => (f11 q (by omega)).trans (fr q h1 h2)
      have hl := Row.fr f11 hl (by omega)
      have hv := Val.fr f11 hv (by omega)
      have hs := Sch.fr f11 hs (by omega)
      refine a_istore S d_Reader_readOffset_9 (Nat.le_of_ble_eq_true rfl) (lv' := [(0, .ref a), (1, .int (nI fi)), (2, .ref va), (3, .int (nI (tnB 0 (l0.getD p 0)))), (4, .int (nI (tnB 0 (l0.getD (p + 1) 0))))]) rfl ?_
      refine a_iload_n S d_Reader_readOffset_11 rfl rfl ?_
      refine a_iconst S (v := (-1)) d_Reader_readOffset_12 (by decide) ?_
      refine a_icmp_eq S (tgt := 22) d_Reader_readOffset_13 rfl (fun h13 => ?_) (fun h13 => ?_)
      · exact absurd h13 (nI_m1 (tnB_lt (getD_lt hl.2.1 p)))
      · refine a_iload S d_Reader_readOffset_16 rfl ?_
        refine a_iconst S (v := (-1)) d_Reader_readOffset_18 (by decide) ?_
        refine a_icmp_ne S (tgt := 24) d_Reader_readOffset_19 rfl (fun h19 => ?_) (fun h19 => ?_)
        · have vc := hv.cell
          refine a_aload_n S d_Reader_readOffset_24 rfl rfl ?_
          refine a_aload_n S d_Reader_readOffset_25 rfl rfl ?_
          refine a_get S kc_Value 1 (by decide) lf_Reader_115 vc rfl d_Reader_readOffset_26 ?_
          refine a_iload_n S d_Reader_readOffset_29 rfl rfl ?_
          refine a_sipush S (v := 256) d_Reader_readOffset_30 (by decide) ?_
          refine a_imul S d_Reader_readOffset_33 ?_
          refine a_iload S d_Reader_readOffset_34 rfl ?_
          refine a_iadd S d_Reader_readOffset_36 ?_
          refine a_sipush S (v := 1000) d_Reader_readOffset_37 (by decide) ?_
          refine a_isub S d_Reader_readOffset_40 ?_
          refine a_eqi (y := (nI (tnB 0 (l0.getD p 0)) * 256 + nI (tnB 0 (l0.getD (p + 1) 0)) - 1000)) rfl ?_
          refine a_callV S (rest := []) lg_Reader_95 hv.cell (c_Value_become X.2.1 D va v0 v0.2.1 (nI (tnB 0 (l0.getD p 0)) * 256 + nI (tnB 0 (l0.getD (p + 1) 0)) - 1000) w8 n hv) (by decide) (by omega) (by omega) rfl (Nat.le_of_ble_eq_true rfl) d_Reader_readOffset_41 (fun v13 w14 n15 p16 => ?_)
          obtain ⟨rfl, e18, f17, hv⟩ := p16
          rw [e18]
          refine a_st (st' := []) rfl ?_
          have fr : Fr2 w w14 a 2 va 2 := fun q h1 h2 => (f17 q (by omega)).trans (fr q h1 h2)
          have hl := Row.fr f17 hl (by omega)
          have hr := Rd.fr f17 hr (by omega)
          have hs := Sch.fr f17 hs (by omega)
          obtain ⟨r1, r2⟩ := hr
          have vc := hv.cell
          refine a_aload_n S d_Reader_readOffset_44 rfl rfl ?_
          refine a_get S kc_Reader 0 (by decide) lf_Reader_22 r1 rfl d_Reader_readOffset_45 ?_
          have hr : Rd D w14 a sa ra (p + 1 + 1) 0 pw := ⟨r1, r2⟩
          refine a_iload_n S d_Reader_readOffset_48 rfl rfl ?_
          refine a_aload_n S d_Reader_readOffset_49 rfl rfl ?_
          refine a_get S kc_Value 1 (by decide) lf_Reader_115 vc rfl d_Reader_readOffset_50 ?_
          refine a_aload_n S d_Reader_readOffset_53 rfl rfl ?_
          refine a_get S kc_Value 2 (by decide) lf_Reader_131 vc rfl d_Reader_readOffset_54 ?_
          refine a_callV S (rest := []) lg_Reader_127 hs.cell (c_Schema_allows X.2.1 D sa c s K F fi ((false, v0.2.1, (nI (tnB 0 (l0.getD p 0)) * 256 + nI (tnB 0 (l0.getD (p + 1) 0)) - 1000), ([] : List Nat)).2.1) ((false, v0.2.1, (nI (tnB 0 (l0.getD p 0)) * 256 + nI (tnB 0 (l0.getD (p + 1) 0)) - 1000), ([] : List Nat)).2.2.1) w14 n (by omega) hs) (by decide) (by omega) (by omega) rfl (Nat.le_of_ble_eq_true rfl) d_Reader_readOffset_57 (fun v19 w20 n21 p22 => ?_)
          obtain ⟨b, rfl, hb, e23, e24⟩ := p22
          rw [e23, e24]
          refine a_st (st' := [.int (if b then 1 else 0)]) rfl ?_
          exact RT _ _ _ _ _ _ _ d_Reader_readOffset_60 (bo_nar b) (by omega) (by omega) ⟨b, p + 1 + 1, _, rfl, rfl, fr, hr, (by omega), hv, (fun q => ⟨_, rfl, hb.mp q⟩), OfC.fin hb⟩
        · exact absurd h19 (nI_m1 (tnB_lt (getD_lt hl.2.1 (p + 1))))
    · refine a_st (st' := [.int (-1)]) rfl ?_
      have fr : Fr2 w w8 a 2 va 2 := fun q h1 h2 => (f11 q (by omega)).trans (fr q h1 h2)
      have hl := Row.fr f11 hl (by omega)
      have hv := Val.fr f11 hv (by omega)
      have hs := Sch.fr f11 hs (by omega)
      refine a_istore S d_Reader_readOffset_9 (Nat.le_of_ble_eq_true rfl) (lv' := [(0, .ref a), (1, .int (nI fi)), (2, .ref va), (3, .int (nI (tnB 0 (l0.getD p 0)))), (4, .int (-1))]) rfl ?_
      refine a_iload_n S d_Reader_readOffset_11 rfl rfl ?_
      refine a_iconst S (v := (-1)) d_Reader_readOffset_12 (by decide) ?_
      refine a_icmp_eq S (tgt := 22) d_Reader_readOffset_13 rfl (fun h13 => ?_) (fun h13 => ?_)
      · exact absurd h13 (nI_m1 (tnB_lt (getD_lt hl.2.1 p)))
      · refine a_iload S d_Reader_readOffset_16 rfl ?_
        refine a_iconst S (v := (-1)) d_Reader_readOffset_18 (by decide) ?_
        refine a_icmp_ne S (tgt := 24) d_Reader_readOffset_19 rfl (fun h19 => ?_) (fun h19 => ?_)
        · exact absurd (by decide) h19
        · refine a_iconst S (v := 0) d_Reader_readOffset_22 (by decide) ?_
          exact RT _ _ _ _ _ _ _ d_Reader_readOffset_23 rfl (by omega) (by omega) ⟨false, p + 1, v0, rfl, rfl, fr, hr, (by omega), hv, (fun q => by cases q), OfC.nil (by omega)⟩
  · refine a_st (st' := [.int (-1)]) rfl ?_
    have fr : Fr2 w w2 a 2 va 2 := fun q h1 h2 => (f5 q (by omega)).trans (fr q h1 h2)
    have hl := Row.fr f5 hl (by omega)
    have hv := Val.fr f5 hv (by omega)
    have hs := Sch.fr f5 hs (by omega)
    refine a_istore_n S d_Reader_readOffset_4 rfl (Nat.le_of_ble_eq_true rfl) (lv' := [(0, .ref a), (1, .int (nI fi)), (2, .ref va), (3, .int (-1))]) rfl ?_
    refine a_aload_n S d_Reader_readOffset_5 rfl rfl ?_
    refine a_callV S (rest := []) lg_Reader_67 hr.cell (c_Reader_next X.2.1 D a sa ra p 0 pw l0 w2 n (by omega) (by omega) ht hl hr) (by decide) (by omega) (by omega) rfl (Nat.le_of_ble_eq_true rfl) d_Reader_readOffset_6 (fun v25 w26 n27 p28 => ?_)
    obtain ⟨e30, f29, hq30⟩ := p28
    rw [e30]
    rcases hq30 with ⟨hq30, rfl, hr⟩ | ⟨hq30, rfl, hr⟩
    · refine a_st (st' := [.int (nI (tnB 0 (l0.getD p 0)))]) rfl ?_
      have fr : Fr2 w w26 a 2 va 2 := fun q h1 h2 => (f29 q (by omega)).trans (fr q h1 h2)
      have hl := Row.fr f29 hl (by omega)
      have hv := Val.fr f29 hv (by omega)
      have hs := Sch.fr f29 hs (by omega)
      refine a_istore S d_Reader_readOffset_9 (Nat.le_of_ble_eq_true rfl) (lv' := [(0, .ref a), (1, .int (nI fi)), (2, .ref va), (3, .int (-1)), (4, .int (nI (tnB 0 (l0.getD p 0))))]) rfl ?_
      refine a_iload_n S d_Reader_readOffset_11 rfl rfl ?_
      refine a_iconst S (v := (-1)) d_Reader_readOffset_12 (by decide) ?_
      refine a_icmp_eq S (tgt := 22) d_Reader_readOffset_13 rfl (fun h13 => ?_) (fun h13 => ?_)
      · refine a_iconst S (v := 0) d_Reader_readOffset_22 (by decide) ?_
        exact RT _ _ _ _ _ _ _ d_Reader_readOffset_23 rfl (by omega) (by omega) ⟨false, p + 1, v0, rfl, rfl, fr, hr, (by omega), hv, (fun q => by cases q), OfC.nil (by omega)⟩
      · exact absurd (by decide) h13
    · refine a_st (st' := [.int (-1)]) rfl ?_
      have fr : Fr2 w w26 a 2 va 2 := fun q h1 h2 => (f29 q (by omega)).trans (fr q h1 h2)
      have hl := Row.fr f29 hl (by omega)
      have hv := Val.fr f29 hv (by omega)
      have hs := Sch.fr f29 hs (by omega)
      refine a_istore S d_Reader_readOffset_9 (Nat.le_of_ble_eq_true rfl) (lv' := [(0, .ref a), (1, .int (nI fi)), (2, .ref va), (3, .int (-1)), (4, .int (-1))]) rfl ?_
      refine a_iload_n S d_Reader_readOffset_11 rfl rfl ?_
      refine a_iconst S (v := (-1)) d_Reader_readOffset_12 (by decide) ?_
      refine a_icmp_eq S (tgt := 22) d_Reader_readOffset_13 rfl (fun h13 => ?_) (fun h13 => ?_)
      · refine a_iconst S (v := 0) d_Reader_readOffset_22 (by decide) ?_
        exact RT _ _ _ _ _ _ _ d_Reader_readOffset_23 rfl (by omega) (by omega) ⟨false, p, v0, rfl, rfl, fr, hr, (by omega), hv, (fun q => by cases q), OfC.nil (by omega)⟩
      · exact absurd (by decide) h13
set_option maxHeartbeats 400000 in
set_option maxRecDepth 100000 in
theorem c_Reader_readForm (l : Launch) (D : kD) (va fi c : Nat) (s : Bool) (K F : Nat → Nat) (v0 : kV) (a sa ra p : Nat) (pw : Nat → Int32) (l0 : List Nat) (w : ww) (n : Nat) (hd1 : a + 2 ≤ ra ∨ ra + 2 ≤ a) (hd2 : a + 2 ≤ va ∨ va + 2 ≤ a) (hd3 : va + 2 ≤ ra ∨ ra + 2 ≤ va) (hd4 : sa + 3 ≤ a ∨ a + 2 ≤ sa) (hd5 : sa + 3 ≤ va ∨ va + 2 ≤ sa) (hfi : fi < c) (hp0 : p ≤ l0.length) (hs : Sch D w sa c s K F) (hl : Row D w ra l0) (hr : Rd D w a sa ra p 0 pw) (hv : Val D w va v0) : AM l D M_Reader_readForm 3 0 0 [.ref a, .int (nI fi), .ref va] w n (fun v w' n' => ∃ (ok : Bool) (p1 : Nat) (v1 : kV), v = some (.int (if ok then 1 else 0)) ∧ n' = n ∧ Fr2 w w' a 2 va 2 ∧ Rd D w' a sa ra p1 0 pw ∧ p1 ≤ l0.length ∧ Val D w' va v1 ∧ FmC l0 p (K fi) (F fi) (pw fi) v0 ok p1 v1) := by
  refine AM.ofz (by decide +kernel) rfl (Nat.le_of_ble_eq_true rfl) (fun X A Q hin S RT => ?_)
  have S : FX X (D, A, 3, Q) prog_2_method_9_code "KeyCodec$KeyReader" 3 0 0 := S
  have RT : RTz X (D, A, 3, Q) prog_2_method_9_code 0 0 _ := RT
  have ht : (0 : Nat) = 0 ∨ (0 : Nat) = 255 := Or.inl rfl
  have hc5 := hs.1
  refine a_lve (lv' := [(0, .ref a), (1, .int (nI fi)), (2, .ref va)]) rfl ?_
  have fr : Fr2 w w a 2 va 2 := fun _ _ _ => rfl
  have r1 := hr.cell
  obtain ⟨hc, hkf, sf, sg, s1, s2, s3, sfg⟩ := hs
  have hs : Sch D w sa c s K F := ⟨hc, hkf, sf, sg, s1, s2, s3, sfg⟩
  refine a_aload_n S d_Reader_readForm_0 rfl rfl ?_
  refine a_get S kc_Reader 0 (by decide) lf_Reader_22 r1 rfl d_Reader_readForm_1 ?_
  refine a_get S kc_Schema 0 (by decide) lf_Reader_80 s1 rfl d_Reader_readForm_4 ?_
  refine a_iload_n S d_Reader_readForm_7 rfl rfl ?_
  refine a_iald S (i := fi) s2 rfl (by omega) (by decide) d_Reader_readForm_8 ?_
  refine a_eqi ((sfg fi hfi).1) ?_
  refine a_iconst S (v := 1) d_Reader_readForm_9 (by decide) ?_
  refine a_icmp_ne S (tgt := 20) d_Reader_readForm_10 rfl (fun h10 => ?_) (fun h10 => ?_)
  · have h10 : ¬ K fi = 1 := fun z => h10 (by rw [z]; rfl)
    refine a_aload_n S d_Reader_readForm_20 rfl rfl ?_
    refine a_get S kc_Reader 0 (by decide) lf_Reader_22 r1 rfl d_Reader_readForm_21 ?_
    refine a_get S kc_Schema 0 (by decide) lf_Reader_80 s1 rfl d_Reader_readForm_24 ?_
    refine a_iload_n S d_Reader_readForm_27 rfl rfl ?_
    refine a_iald S (i := fi) s2 rfl (by omega) (by decide) d_Reader_readForm_28 ?_
    refine a_eqi ((sfg fi hfi).1) ?_
    refine a_iconst S (v := 3) d_Reader_readForm_29 (by decide) ?_
    refine a_icmp_ne S (tgt := 40) d_Reader_readForm_30 rfl (fun h30 => ?_) (fun h30 => ?_)
    · have h30 : ¬ K fi = 3 := fun z => h30 (by rw [z]; rfl)
      refine a_iconst S (v := 1) d_Reader_readForm_40 (by decide) ?_
      exact RT _ _ _ _ _ _ _ d_Reader_readForm_41 rfl (by omega) (by omega) ⟨true, p, v0, rfl, rfl, fr, hr, hp0, hv, FmC.els (hkf fi hfi).1 h10 h30⟩
    · have h30 : K fi = 3 := (nI_eq (by have := (hkf fi hfi).1; omega) (by decide)).mp h30
      refine a_aload_n S d_Reader_readForm_33 rfl rfl ?_
      refine a_iload_n S d_Reader_readForm_34 rfl rfl ?_
      refine a_aload_n S d_Reader_readForm_35 rfl rfl ?_
      refine a_callV S (rest := []) lg_Reader_112 hr.cell (c_Reader_readOffset X.2.1 D va fi c s K F v0 a sa ra p pw l0 w n (by omega) (by omega) (by omega) (by omega) (by omega) (by omega) (by omega) hs hl hr hv) (by decide) (by omega) (by omega) rfl (Nat.le_of_ble_eq_true rfl) d_Reader_readForm_36 (fun v1 w2 n3 p4 => ?_)
      obtain ⟨ok, p1, v1, rfl, e6, f5, hr, hp1, hv, hok, hC⟩ := p4
      rw [e6]
      refine a_st (st' := [.int (if ok then 1 else 0)]) rfl ?_
      have fr : Fr2 w w2 a 2 va 2 := fun q h1 h2 => (f5 q (by omega) (by omega)).trans (fr q h1 h2)
      have hl := Row.mv (fun q h1 h2 => f5 q (by omega) (by omega)) hl
      have hs := Sch.mv (fun q h1 h2 => f5 q (by omega) (by omega)) hs
      exact RT _ _ _ _ _ _ _ d_Reader_readForm_39 (bo_nar ok) (by omega) (by omega) ⟨ok, p1, v1, rfl, rfl, fr, hr, hp1, hv, (by rw [h30] at hok hC ⊢; exact FmC.off hok hC)⟩
  · have h10 : K fi = 1 := (nI_eq (by have := (hkf fi hfi).1; omega) (by decide)).mp h10
    refine a_aload_n S d_Reader_readForm_13 rfl rfl ?_
    refine a_iload_n S d_Reader_readForm_14 rfl rfl ?_
    refine a_aload_n S d_Reader_readForm_15 rfl rfl ?_
    refine a_callV S (rest := []) lg_Reader_109 hr.cell (c_Reader_readScale X.2.1 D va fi c s K F v0 a sa ra p pw l0 w n (by omega) (by omega) (by omega) (by omega) (by omega) (by omega) (by omega) hs hl hr hv) (by decide) (by omega) (by omega) rfl (Nat.le_of_ble_eq_true rfl) d_Reader_readForm_16 (fun v7 w8 n9 p10 => ?_)
    obtain ⟨ok, p1, v1, rfl, e12, f11, hr, hp1, hv, hok, hC⟩ := p10
    rw [e12]
    refine a_st (st' := [.int (if ok then 1 else 0)]) rfl ?_
    have fr : Fr2 w w8 a 2 va 2 := fun q h1 h2 => (f11 q (by omega) (by omega)).trans (fr q h1 h2)
    have hl := Row.mv (fun q h1 h2 => f11 q (by omega) (by omega)) hl
    have hs := Sch.mv (fun q h1 h2 => f11 q (by omega) (by omega)) hs
    exact RT _ _ _ _ _ _ _ d_Reader_readForm_19 (bo_nar ok) (by omega) (by omega) ⟨ok, p1, v1, rfl, rfl, fr, hr, hp1, hv, (by rw [h10] at hok hC ⊢; exact FmC.scale hok hC)⟩
set_option maxHeartbeats 400000 in
set_option maxRecDepth 100000 in
theorem c_Reader_readField (l : Launch) (D : kD) (va fi c : Nat) (s : Bool) (K F : Nat → Nat) (v0 : kV) (a sa ra p t : Nat) (pw : Nat → Int32) (l0 : List Nat) (w : ww) (n : Nat) (hd1 : a + 2 ≤ ra ∨ ra + 2 ≤ a) (hd2 : a + 2 ≤ va ∨ va + 2 ≤ a) (hd3 : va + 2 ≤ ra ∨ ra + 2 ≤ va) (hd4 : sa + 3 ≤ a ∨ a + 2 ≤ sa) (hd5 : sa + 3 ≤ va ∨ va + 2 ≤ sa) (hfi : fi < c) (hp0 : p ≤ l0.length) (ht : t = 0 ∨ t = 255) (hs : Sch D w sa c s K F) (hl : Row D w ra l0) (hr : Rd D w a sa ra p t pw) (hv : Val D w va v0) : AM l D M_Reader_readField 4 0 0 [.ref a, .int (nI fi), .ref va] w n (fun v w' n' => ∃ (ok : Bool) (p1 : Nat) (v1 : kV) (pw1 : Nat → Int32) (t1 : Nat), (t1 = 0 ∨ t1 = 255) ∧ v = some (.int (if ok then 1 else 0)) ∧ n' = n ∧ Fr2 w w' a 2 va 2 ∧ Rd D w' a sa ra p1 t1 pw1 ∧ p1 ≤ l0.length ∧ Val D w' va v1 ∧ (∀ j, j ≠ fi → pw1 j = pw j) ∧ FdC l0 p (K fi) (F fi) ok p1 v1 (pw1 fi)) := by
  refine AM.ofz (by decide +kernel) rfl (Nat.le_of_ble_eq_true rfl) (fun X A Q hin S RT => ?_)
  have S : FX X (D, A, 4, Q) prog_2_method_4_code "KeyCodec$KeyReader" 4 0 0 := S
  have RT : RTz X (D, A, 4, Q) prog_2_method_4_code 0 0 _ := RT
  have hc5 := hs.1
  refine a_lve (lv' := [(0, .ref a), (1, .int (nI fi)), (2, .ref va)]) rfl ?_
  have fr : Fr2 w w a 2 va 2 := fun _ _ _ => rfl
  have r1 := hr.cell
  refine a_aload_n S d_Reader_readField_0 rfl rfl ?_
  refine a_get S kc_Reader 0 (by decide) lf_Reader_22 r1 rfl d_Reader_readField_1 ?_
  refine a_iload_n S d_Reader_readField_4 rfl rfl ?_
  refine a_iconst S (v := 2) d_Reader_readField_5 (by decide) ?_
  refine a_callV S (rest := []) lg_Reader_63 hs.cell (c_Schema_has X.2.1 D sa c s K F fi 2 w n (by omega) hs) (by decide) (by omega) (by omega) rfl (Nat.le_of_ble_eq_true rfl) d_Reader_readField_6 (fun v1 w2 n3 p4 => ?_)
  obtain ⟨rfl, e5, e6⟩ := p4
  rw [e5, e6]
  refine a_st (st' := [.int (if nI (F fi) &&& 2 = 0 then 0 else 1)]) rfl ?_
  refine a_if_eq S (tgt := 47) d_Reader_readField_9 rfl (fun h9 => ?_) (fun h9 => ?_)
  · have ho : fOp (F fi) = false := fOp_0 (hs.2.1 fi hfi).2 h9
    have hpos : PosC l0 p (K fi) (F fi) (p) := PosC.n ho
    obtain ⟨r1, r2⟩ := hr
    refine a_aload_n S d_Reader_readField_47 rfl rfl ?_
    refine a_aload_n S d_Reader_readField_48 rfl rfl ?_
    refine a_get S kc_Reader 0 (by decide) lf_Reader_22 r1 rfl d_Reader_readField_49 ?_
    refine a_iload_n S d_Reader_readField_52 rfl rfl ?_
    refine a_callV S (rest := [_]) lg_Reader_77 hs.cell (c_Schema_turnOf X.2.1 D sa c s K F fi w n (by omega) hs) (by decide) (by omega) (by omega) rfl (Nat.le_of_ble_eq_true rfl) d_Reader_readField_53 (fun v7 w8 n9 p10 => ?_)
    obtain ⟨rfl, e11, e12⟩ := p10
    rw [e11, e12]
    refine a_st (st' := [.int (nI (tnF (F fi))), .ref a]) rfl ?_
    refine a_put S kc_Reader kt_Reader 3 (by decide) lf_Reader_15 rfl r1 rfl rfl (Nat.le_of_ble_eq_true rfl) d_Reader_readField_56 (fun w13 r1 e14 => ?_)
    have r1 : w13 a = some (.inr (5, [.ref sa, .ref ra, .int (nI p), .int (nI (tnF (F fi))), .ref (a + 1)])) := r1
    have fr : Fr2 w w13 a 2 va 2 := fun q h1 h2 => ((Fr.of1 e14) q (by omega)).trans (fr q h1 h2)
    have r2 := Fr.cell (Fr.of1 e14) r2 (by omega)
    have hl := Row.fr (Fr.of1 e14) hl (by omega)
    have hv := Val.fr (Fr.of1 e14) hv (by omega)
    have hs := Sch.fr (Fr.of1 e14) hs (by omega)
    have hr : Rd D w13 a sa ra p (tnF (F fi)) pw := ⟨r1, r2⟩
    have r1 := hr.cell
    obtain ⟨hc, hkf, sf, sg, s1, s2, s3, sfg⟩ := hs
    have hs : Sch D w13 sa c s K F := ⟨hc, hkf, sf, sg, s1, s2, s3, sfg⟩
    refine a_aload_n S d_Reader_readField_59 rfl rfl ?_
    refine a_get S kc_Reader 0 (by decide) lf_Reader_22 r1 rfl d_Reader_readField_60 ?_
    refine a_get S kc_Schema 0 (by decide) lf_Reader_80 s1 rfl d_Reader_readField_63 ?_
    refine a_iload_n S d_Reader_readField_66 rfl rfl ?_
    refine a_iald S (i := fi) s2 rfl (by omega) (by decide) d_Reader_readField_67 ?_
    refine a_eqi ((sfg fi hfi).1) ?_
    rcases (show K fi = 0 ∨ K fi = 1 ∨ K fi = 2 ∨ K fi = 3 by have := (hkf fi hfi).1; omega) with hk | hk | hk | hk
    · refine a_eqi (y := 0) (by rw [hk]; rfl) ?_
      refine a_lsw S (tgt := 109) d_Reader_readField_68 (by decide) rfl rfl ?_
      refine a_aload_n S d_Reader_readField_109 rfl rfl ?_
      refine a_aload_n S d_Reader_readField_110 rfl rfl ?_
      refine a_callV S (rest := []) lg_Reader_90 hr.cell (c_Reader_readInt X.2.1 D va v0 a sa ra p (tnF (F fi)) pw l0 w13 n (by omega) (by omega) (by omega) (by omega) (tnF_01 _) hl hr hv) (by decide) (by omega) (by omega) rfl (Nat.le_of_ble_eq_true rfl) d_Reader_readField_111 (fun v15 w16 n17 p18 => ?_)
      obtain ⟨ok, p1, v1, rfl, e20, f19, hr, hp1, hv, hok, hno⟩ := p18
      rw [e20]
      refine a_st (st' := [.int (if ok then 1 else 0)]) rfl ?_
      have fr : Fr2 w w16 a 2 va 2 := fun q h1 h2 => (f19 q (by omega) (by omega)).trans (fr q h1 h2)
      have hl := Row.mv (fun q h1 h2 => f19 q (by omega) (by omega)) hl
      have hs := Sch.mv (fun q h1 h2 => f19 q (by omega) (by omega)) hs
      exact RT _ _ _ _ _ _ _ d_Reader_readField_114 (bo_nar ok) (by omega) (by omega) ⟨ok, p1, v1, pw, (tnF (F fi)), (tnF_01 _), rfl, rfl, fr, hr, hp1, hv, (fun _ _ => rfl), (FdC.int (by omega) hpos hok hno)⟩
    · refine a_eqi (y := 1) (by rw [hk]; rfl) ?_
      refine a_lsw S (tgt := 96) d_Reader_readField_68 (by decide) rfl rfl ?_
      refine a_aload_n S d_Reader_readField_96 rfl rfl ?_
      refine a_iload_n S d_Reader_readField_97 rfl rfl ?_
      refine a_aload_n S d_Reader_readField_98 rfl rfl ?_
      refine a_callV S (rest := []) lg_Reader_83 hr.cell (c_Reader_readDecimal X.2.1 D va fi v0 a sa ra p (tnF (F fi)) pw l0 w13 n (by omega) (by omega) (by omega) (by omega) (by omega) (tnF_01 _) hl hr hv) (by decide) (by omega) (by omega) rfl (Nat.le_of_ble_eq_true rfl) d_Reader_readField_99 (fun v21 w22 n23 p24 => ?_)
      obtain ⟨ok, p1, v1, pw1, t1, ht1, rfl, e26, f25, hr, hp1, hv, hpw, hok, hno⟩ := p24
      rw [e26]
      refine a_st (st' := [.int (if ok then 1 else 0)]) rfl ?_
      have fr : Fr2 w w22 a 2 va 2 := fun q h1 h2 => (f25 q (by omega) (by omega)).trans (fr q h1 h2)
      have hl := Row.mv (fun q h1 h2 => f25 q (by omega) (by omega)) hl
      have hs := Sch.mv (fun q h1 h2 => f25 q (by omega) (by omega)) hs
      exact RT _ _ _ _ _ _ _ d_Reader_readField_102 (bo_nar ok) (by omega) (by omega) ⟨ok, p1, v1, pw1, t1, ht1, rfl, rfl, fr, hr, hp1, hv, hpw, (by rw [hk] at hpos ⊢; exact FdC.dec hpos (fun q => by obtain ⟨d, e, g1, g2, g3⟩ := hok q; exact ⟨d, e, g1, g2, g3⟩) hno)⟩
    · refine a_eqi (y := 2) (by rw [hk]; rfl) ?_
      refine a_lsw S (tgt := 103) d_Reader_readField_68 (by decide) rfl rfl ?_
      refine a_aload_n S d_Reader_readField_103 rfl rfl ?_
      refine a_aload_n S d_Reader_readField_104 rfl rfl ?_
      refine a_callV S (rest := []) lg_Reader_86 hr.cell (c_Reader_readText X.2.1 D va v0 a sa ra p (tnF (F fi)) pw l0 w13 n (by omega) (by omega) (by omega) (by omega) (tnF_01 _) hl hr hv) (by decide) (by omega) (by omega) rfl (Nat.le_of_ble_eq_true rfl) d_Reader_readField_105 (fun v27 w28 n29 p30 => ?_)
      obtain ⟨ok, p1, v1, rfl, e32, f31, hr, hp1, hv, hok, hno⟩ := p30
      rw [e32]
      refine a_st (st' := [.int (if ok then 1 else 0)]) rfl ?_
      have fr : Fr2 w w28 a 2 va 2 := fun q h1 h2 => (f31 q (by omega) (by omega)).trans (fr q h1 h2)
      have hl := Row.mv (fun q h1 h2 => f31 q (by omega) (by omega)) hl
      have hs := Sch.mv (fun q h1 h2 => f31 q (by omega) (by omega)) hs
      exact RT _ _ _ _ _ _ _ d_Reader_readField_108 (bo_nar ok) (by omega) (by omega) ⟨ok, p1, v1, pw, (tnF (F fi)), (tnF_01 _), rfl, rfl, fr, hr, hp1, hv, (fun _ _ => rfl), (by rw [hk] at hpos ⊢; exact FdC.text (fun x q => by subst q; exact ⟨hv.1, hv.2.1⟩) hpos hok hno)⟩
    · refine a_eqi (y := 3) (by rw [hk]; rfl) ?_
      refine a_lsw S (tgt := 109) d_Reader_readField_68 (by decide) rfl rfl ?_
      refine a_aload_n S d_Reader_readField_109 rfl rfl ?_
      refine a_aload_n S d_Reader_readField_110 rfl rfl ?_
      refine a_callV S (rest := []) lg_Reader_90 hr.cell (c_Reader_readInt X.2.1 D va v0 a sa ra p (tnF (F fi)) pw l0 w13 n (by omega) (by omega) (by omega) (by omega) (tnF_01 _) hl hr hv) (by decide) (by omega) (by omega) rfl (Nat.le_of_ble_eq_true rfl) d_Reader_readField_111 (fun v33 w34 n35 p36 => ?_)
      obtain ⟨ok, p1, v1, rfl, e38, f37, hr, hp1, hv, hok, hno⟩ := p36
      rw [e38]
      refine a_st (st' := [.int (if ok then 1 else 0)]) rfl ?_
      have fr : Fr2 w w34 a 2 va 2 := fun q h1 h2 => (f37 q (by omega) (by omega)).trans (fr q h1 h2)
      have hl := Row.mv (fun q h1 h2 => f37 q (by omega) (by omega)) hl
      have hs := Sch.mv (fun q h1 h2 => f37 q (by omega) (by omega)) hs
      exact RT _ _ _ _ _ _ _ d_Reader_readField_114 (bo_nar ok) (by omega) (by omega) ⟨ok, p1, v1, pw, (tnF (F fi)), (tnF_01 _), rfl, rfl, fr, hr, hp1, hv, (fun _ _ => rfl), (FdC.int (by omega) hpos hok hno)⟩
  · have ho : fOp (F fi) = true := fOp_1 (hs.2.1 fi hfi).2 h9
    obtain ⟨r1, r2⟩ := hr
    refine a_aload_n S d_Reader_readField_12 rfl rfl ?_
    refine a_iconst S (v := 0) d_Reader_readField_13 (by decide) ?_
    refine a_put S kc_Reader kt_Reader 3 (by decide) lf_Reader_15 rfl r1 rfl rfl (Nat.le_of_ble_eq_true rfl) d_Reader_readField_14 (fun w39 r1 e40 => ?_)
    have r1 : w39 a = some (.inr (5, [.ref sa, .ref ra, .int (nI p), .int 0, .ref (a + 1)])) := r1
    have fr : Fr2 w w39 a 2 va 2 := fun q h1 h2 => ((Fr.of1 e40) q (by omega)).trans (fr q h1 h2)
    have r2 := Fr.cell (Fr.of1 e40) r2 (by omega)
    have hl := Row.fr (Fr.of1 e40) hl (by omega)
    have hv := Val.fr (Fr.of1 e40) hv (by omega)
    have hs := Sch.fr (Fr.of1 e40) hs (by omega)
    have hr : Rd D w39 a sa ra p 0 pw := ⟨r1, r2⟩
    refine a_aload_n S d_Reader_readField_17 rfl rfl ?_
    refine a_callV S (rest := []) lg_Reader_67 hr.cell (c_Reader_next X.2.1 D a sa ra p 0 pw l0 w39 n (by omega) (by omega) (Or.inl rfl) hl hr) (by decide) (by omega) (by omega) rfl (Nat.le_of_ble_eq_true rfl) d_Reader_readField_18 (fun v41 w42 n43 p44 => ?_)
    obtain ⟨e46, f45, hq46⟩ := p44
    rw [e46]
    rcases hq46 with ⟨hq46, rfl, hr⟩ | ⟨hq46, rfl, hr⟩
    · refine a_st (st' := [.int (nI (tnB 0 (l0.getD p 0)))]) rfl ?_
      have fr : Fr2 w w42 a 2 va 2 := fun q h1 h2 => (f45 q (by omega)).trans (fr q h1 h2)
      have hl := Row.fr f45 hl (by omega)
      have hv := Val.fr f45 hv (by omega)
      have hs := Sch.fr f45 hs (by omega)
      refine a_istore_n S d_Reader_readField_21 rfl (Nat.le_of_ble_eq_true rfl) (lv' := [(0, .ref a), (1, .int (nI fi)), (2, .ref va), (3, .int (nI (tnB 0 (l0.getD p 0))))]) rfl ?_
      have r1 := hr.cell
      refine a_iload_n S d_Reader_readField_22 rfl rfl ?_
      refine a_aload_n S d_Reader_readField_23 rfl rfl ?_
      refine a_get S kc_Reader 0 (by decide) lf_Reader_22 r1 rfl d_Reader_readField_24 ?_
      refine a_iload_n S d_Reader_readField_27 rfl rfl ?_
      refine a_callV S (rest := [_]) lg_Reader_71 hs.cell (c_Schema_absentMark X.2.1 D sa c s K F fi w42 n (by omega) hs) (by decide) (by omega) (by omega) rfl (Nat.le_of_ble_eq_true rfl) d_Reader_readField_28 (fun v47 w48 n49 p50 => ?_)
      obtain ⟨rfl, e51, e52⟩ := p50
      rw [e51, e52]
      refine a_st (st' := [.int (nI (mkA (F fi))), .int (nI (tnB 0 (l0.getD p 0)))]) rfl ?_
      refine a_icmp_ne S (tgt := 40) d_Reader_readField_31 rfl (fun h31 => ?_) (fun h31 => ?_)
      · have h31 : ¬ tnB 0 (l0.getD p 0) = mkA (F fi) := fun z => h31 (by rw [z])
        refine a_iload_n S d_Reader_readField_40 rfl rfl ?_
        refine a_iconst S (v := 1) d_Reader_readField_41 (by decide) ?_
        refine a_icmp_eq S (tgt := 47) d_Reader_readField_42 rfl (fun h42 => ?_) (fun h42 => ?_)
        · have h42 : tnB 0 (l0.getD p 0) = 1 := nI_byte (tnB_lt (t := 0) (getD_lt hl.2.1 p)) (by decide) h42
          have hpos : PosC l0 p (K fi) (F fi) (p + 1) := PosC.o ho h42
          obtain ⟨r1, r2⟩ := hr
          refine a_aload_n S d_Reader_readField_47 rfl rfl ?_
          refine a_aload_n S d_Reader_readField_48 rfl rfl ?_
          refine a_get S kc_Reader 0 (by decide) lf_Reader_22 r1 rfl d_Reader_readField_49 ?_
          refine a_iload_n S d_Reader_readField_52 rfl rfl ?_
          refine a_callV S (rest := [_]) lg_Reader_77 hs.cell (c_Schema_turnOf X.2.1 D sa c s K F fi w42 n (by omega) hs) (by decide) (by omega) (by omega) rfl (Nat.le_of_ble_eq_true rfl) d_Reader_readField_53 (fun v53 w54 n55 p56 => ?_)
          obtain ⟨rfl, e57, e58⟩ := p56
          rw [e57, e58]
          refine a_st (st' := [.int (nI (tnF (F fi))), .ref a]) rfl ?_
          refine a_put S kc_Reader kt_Reader 3 (by decide) lf_Reader_15 rfl r1 rfl rfl (Nat.le_of_ble_eq_true rfl) d_Reader_readField_56 (fun w59 r1 e60 => ?_)
          have r1 : w59 a = some (.inr (5, [.ref sa, .ref ra, .int (nI (p + 1)), .int (nI (tnF (F fi))), .ref (a + 1)])) := r1
          have fr : Fr2 w w59 a 2 va 2 := fun q h1 h2 => ((Fr.of1 e60) q (by omega)).trans (fr q h1 h2)
          have r2 := Fr.cell (Fr.of1 e60) r2 (by omega)
          have hl := Row.fr (Fr.of1 e60) hl (by omega)
          have hv := Val.fr (Fr.of1 e60) hv (by omega)
          have hs := Sch.fr (Fr.of1 e60) hs (by omega)
          have hr : Rd D w59 a sa ra (p + 1) (tnF (F fi)) pw := ⟨r1, r2⟩
          have r1 := hr.cell
          obtain ⟨hc, hkf, sf, sg, s1, s2, s3, sfg⟩ := hs
          have hs : Sch D w59 sa c s K F := ⟨hc, hkf, sf, sg, s1, s2, s3, sfg⟩
          refine a_aload_n S d_Reader_readField_59 rfl rfl ?_
          refine a_get S kc_Reader 0 (by decide) lf_Reader_22 r1 rfl d_Reader_readField_60 ?_
          refine a_get S kc_Schema 0 (by decide) lf_Reader_80 s1 rfl d_Reader_readField_63 ?_
          refine a_iload_n S d_Reader_readField_66 rfl rfl ?_
          refine a_iald S (i := fi) s2 rfl (by omega) (by decide) d_Reader_readField_67 ?_
          refine a_eqi ((sfg fi hfi).1) ?_
          rcases (show K fi = 0 ∨ K fi = 1 ∨ K fi = 2 ∨ K fi = 3 by have := (hkf fi hfi).1; omega) with hk | hk | hk | hk
          · refine a_eqi (y := 0) (by rw [hk]; rfl) ?_
            refine a_lsw S (tgt := 109) d_Reader_readField_68 (by decide) rfl rfl ?_
            refine a_aload_n S d_Reader_readField_109 rfl rfl ?_
            refine a_aload_n S d_Reader_readField_110 rfl rfl ?_
            refine a_callV S (rest := []) lg_Reader_90 hr.cell (c_Reader_readInt X.2.1 D va v0 a sa ra (p + 1) (tnF (F fi)) pw l0 w59 n (by omega) (by omega) (by omega) (by omega) (tnF_01 _) hl hr hv) (by decide) (by omega) (by omega) rfl (Nat.le_of_ble_eq_true rfl) d_Reader_readField_111 (fun v61 w62 n63 p64 => ?_)
            obtain ⟨ok, p1, v1, rfl, e66, f65, hr, hp1, hv, hok, hno⟩ := p64
            rw [e66]
            refine a_st (st' := [.int (if ok then 1 else 0)]) rfl ?_
            have fr : Fr2 w w62 a 2 va 2 := fun q h1 h2 => (f65 q (by omega) (by omega)).trans (fr q h1 h2)
            have hl := Row.mv (fun q h1 h2 => f65 q (by omega) (by omega)) hl
            have hs := Sch.mv (fun q h1 h2 => f65 q (by omega) (by omega)) hs
            exact RT _ _ _ _ _ _ _ d_Reader_readField_114 (bo_nar ok) (by omega) (by omega) ⟨ok, p1, v1, pw, (tnF (F fi)), (tnF_01 _), rfl, rfl, fr, hr, hp1, hv, (fun _ _ => rfl), (FdC.int (by omega) hpos hok hno)⟩
          · refine a_eqi (y := 1) (by rw [hk]; rfl) ?_
            refine a_lsw S (tgt := 96) d_Reader_readField_68 (by decide) rfl rfl ?_
            refine a_aload_n S d_Reader_readField_96 rfl rfl ?_
            refine a_iload_n S d_Reader_readField_97 rfl rfl ?_
            refine a_aload_n S d_Reader_readField_98 rfl rfl ?_
            refine a_callV S (rest := []) lg_Reader_83 hr.cell (c_Reader_readDecimal X.2.1 D va fi v0 a sa ra (p + 1) (tnF (F fi)) pw l0 w59 n (by omega) (by omega) (by omega) (by omega) (by omega) (tnF_01 _) hl hr hv) (by decide) (by omega) (by omega) rfl (Nat.le_of_ble_eq_true rfl) d_Reader_readField_99 (fun v67 w68 n69 p70 => ?_)
            obtain ⟨ok, p1, v1, pw1, t1, ht1, rfl, e72, f71, hr, hp1, hv, hpw, hok, hno⟩ := p70
            rw [e72]
            refine a_st (st' := [.int (if ok then 1 else 0)]) rfl ?_
            have fr : Fr2 w w68 a 2 va 2 := fun q h1 h2 => (f71 q (by omega) (by omega)).trans (fr q h1 h2)
            have hl := Row.mv (fun q h1 h2 => f71 q (by omega) (by omega)) hl
            have hs := Sch.mv (fun q h1 h2 => f71 q (by omega) (by omega)) hs
            exact RT _ _ _ _ _ _ _ d_Reader_readField_102 (bo_nar ok) (by omega) (by omega) ⟨ok, p1, v1, pw1, t1, ht1, rfl, rfl, fr, hr, hp1, hv, hpw, (by rw [hk] at hpos ⊢; exact FdC.dec hpos (fun q => by obtain ⟨d, e, g1, g2, g3⟩ := hok q; exact ⟨d, e, g1, g2, g3⟩) hno)⟩
          · refine a_eqi (y := 2) (by rw [hk]; rfl) ?_
            refine a_lsw S (tgt := 103) d_Reader_readField_68 (by decide) rfl rfl ?_
            refine a_aload_n S d_Reader_readField_103 rfl rfl ?_
            refine a_aload_n S d_Reader_readField_104 rfl rfl ?_
            refine a_callV S (rest := []) lg_Reader_86 hr.cell (c_Reader_readText X.2.1 D va v0 a sa ra (p + 1) (tnF (F fi)) pw l0 w59 n (by omega) (by omega) (by omega) (by omega) (tnF_01 _) hl hr hv) (by decide) (by omega) (by omega) rfl (Nat.le_of_ble_eq_true rfl) d_Reader_readField_105 (fun v73 w74 n75 p76 => ?_)
            obtain ⟨ok, p1, v1, rfl, e78, f77, hr, hp1, hv, hok, hno⟩ := p76
            rw [e78]
            refine a_st (st' := [.int (if ok then 1 else 0)]) rfl ?_
            have fr : Fr2 w w74 a 2 va 2 := fun q h1 h2 => (f77 q (by omega) (by omega)).trans (fr q h1 h2)
            have hl := Row.mv (fun q h1 h2 => f77 q (by omega) (by omega)) hl
            have hs := Sch.mv (fun q h1 h2 => f77 q (by omega) (by omega)) hs
            exact RT _ _ _ _ _ _ _ d_Reader_readField_108 (bo_nar ok) (by omega) (by omega) ⟨ok, p1, v1, pw, (tnF (F fi)), (tnF_01 _), rfl, rfl, fr, hr, hp1, hv, (fun _ _ => rfl), (by rw [hk] at hpos ⊢; exact FdC.text (fun x q => by subst q; exact ⟨hv.1, hv.2.1⟩) hpos hok hno)⟩
          · refine a_eqi (y := 3) (by rw [hk]; rfl) ?_
            refine a_lsw S (tgt := 109) d_Reader_readField_68 (by decide) rfl rfl ?_
            refine a_aload_n S d_Reader_readField_109 rfl rfl ?_
            refine a_aload_n S d_Reader_readField_110 rfl rfl ?_
            refine a_callV S (rest := []) lg_Reader_90 hr.cell (c_Reader_readInt X.2.1 D va v0 a sa ra (p + 1) (tnF (F fi)) pw l0 w59 n (by omega) (by omega) (by omega) (by omega) (tnF_01 _) hl hr hv) (by decide) (by omega) (by omega) rfl (Nat.le_of_ble_eq_true rfl) d_Reader_readField_111 (fun v79 w80 n81 p82 => ?_)
            obtain ⟨ok, p1, v1, rfl, e84, f83, hr, hp1, hv, hok, hno⟩ := p82
            rw [e84]
            refine a_st (st' := [.int (if ok then 1 else 0)]) rfl ?_
            have fr : Fr2 w w80 a 2 va 2 := fun q h1 h2 => (f83 q (by omega) (by omega)).trans (fr q h1 h2)
            have hl := Row.mv (fun q h1 h2 => f83 q (by omega) (by omega)) hl
            have hs := Sch.mv (fun q h1 h2 => f83 q (by omega) (by omega)) hs
            exact RT _ _ _ _ _ _ _ d_Reader_readField_114 (bo_nar ok) (by omega) (by omega) ⟨ok, p1, v1, pw, (tnF (F fi)), (tnF_01 _), rfl, rfl, fr, hr, hp1, hv, (fun _ _ => rfl), (FdC.int (by omega) hpos hok hno)⟩
        · have h42 : ¬ tnB 0 (l0.getD p 0) = 1 := fun z => h42 (by rw [z]; rfl)
          refine a_iconst S (v := 0) d_Reader_readField_45 (by decide) ?_
          exact RT _ _ _ _ _ _ _ d_Reader_readField_46 rfl (by omega) (by omega) ⟨false, p + 1, _, pw, 0, Or.inl rfl, rfl, rfl, fr, hr, (by omega), hv, (fun _ _ => rfl), FdC.bad ho h31 h42⟩
      · have h31 : tnB 0 (l0.getD p 0) = mkA (F fi) := nI_byte (tnB_lt (t := 0) (getD_lt hl.2.1 p)) (by unfold mkA; split <;> decide) h31
        refine a_aload_n S d_Reader_readField_34 rfl rfl ?_
        refine a_callV S (rest := []) lg_Reader_74 hv.cell (c_Value_vanish X.2.1 D va v0 w42 n hv) (by decide) (by omega) (by omega) rfl (Nat.le_of_ble_eq_true rfl) d_Reader_readField_35 (fun v85 w86 n87 p88 => ?_)
        obtain ⟨rfl, e90, f89, hv⟩ := p88
        rw [e90]
        refine a_st (st' := []) rfl ?_
        have fr : Fr2 w w86 a 2 va 2 := fun q h1 h2 => (f89 q (by omega)).trans (fr q h1 h2)
        have hl := Row.fr f89 hl (by omega)
        have hs := Sch.fr f89 hs (by omega)
        have hr := Rd.fr f89 hr (by omega)
        refine a_iconst S (v := 1) d_Reader_readField_38 (by decide) ?_
        exact RT _ _ _ _ _ _ _ d_Reader_readField_39 rfl (by omega) (by omega) ⟨true, p + 1, _, pw, 0, Or.inl rfl, rfl, rfl, fr, hr, (by omega), hv, (fun _ _ => rfl), FdC.miss ho h31⟩
    · refine a_st (st' := [.int (-1)]) rfl ?_
      have fr : Fr2 w w42 a 2 va 2 := fun q h1 h2 => (f45 q (by omega)).trans (fr q h1 h2)
      have hl := Row.fr f45 hl (by omega)
      have hv := Val.fr f45 hv (by omega)
      have hs := Sch.fr f45 hs (by omega)
      refine a_istore_n S d_Reader_readField_21 rfl (Nat.le_of_ble_eq_true rfl) (lv' := [(0, .ref a), (1, .int (nI fi)), (2, .ref va), (3, .int (-1))]) rfl ?_
      have r1 := hr.cell
      refine a_iload_n S d_Reader_readField_22 rfl rfl ?_
      refine a_aload_n S d_Reader_readField_23 rfl rfl ?_
      refine a_get S kc_Reader 0 (by decide) lf_Reader_22 r1 rfl d_Reader_readField_24 ?_
      refine a_iload_n S d_Reader_readField_27 rfl rfl ?_
      refine a_callV S (rest := [_]) lg_Reader_71 hs.cell (c_Schema_absentMark X.2.1 D sa c s K F fi w42 n (by omega) hs) (by decide) (by omega) (by omega) rfl (Nat.le_of_ble_eq_true rfl) d_Reader_readField_28 (fun v91 w92 n93 p94 => ?_)
      obtain ⟨rfl, e95, e96⟩ := p94
      rw [e95, e96]
      refine a_st (st' := [.int (nI (mkA (F fi))), .int (-1)]) rfl ?_
      refine a_icmp_ne S (tgt := 40) d_Reader_readField_31 rfl (fun h31 => ?_) (fun h31 => ?_)
      · refine a_iload_n S d_Reader_readField_40 rfl rfl ?_
        refine a_iconst S (v := 1) d_Reader_readField_41 (by decide) ?_
        refine a_icmp_eq S (tgt := 47) d_Reader_readField_42 rfl (fun h42 => ?_) (fun h42 => ?_)
        · exact absurd h42 (by decide)
        · refine a_iconst S (v := 0) d_Reader_readField_45 (by decide) ?_
          exact RT _ _ _ _ _ _ _ d_Reader_readField_46 rfl (by omega) (by omega) ⟨false, p, _, pw, 0, Or.inl rfl, rfl, rfl, fr, hr, (by omega), hv, (fun _ _ => rfl), FdC.nil ho hq46⟩
      · exact absurd h31.symm (nI_m1 (show mkA (F fi) < 256 from (by unfold mkA; split <;> decide)))
