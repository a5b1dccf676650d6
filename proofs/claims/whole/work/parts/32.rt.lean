set_option maxHeartbeats 400000 in
set_option maxRecDepth 100000 in
theorem c_Reader_readTuple (l : Launch) (D : kD) (ta c : Nat) (s : Bool) (K F : Nat → Nat) (T0 : Nat → kV) (a sa ra : Nat) (pw : Nat → Int32) (l0 : List Nat) (w : ww) (n : Nat) (hd1 : a + 2 ≤ ra ∨ ra + 2 ≤ a) (hd2 : a + 2 ≤ ta ∨ ta + 12 ≤ a) (hd3 : ta + 12 ≤ ra ∨ ra + 2 ≤ ta) (hd4 : sa + 3 ≤ a ∨ a + 2 ≤ sa) (hd5 : sa + 3 ≤ ta ∨ ta + 12 ≤ sa) (hs : Sch D w sa c s K F) (hl : Row D w ra l0) (hr : Rd D w a sa ra 0 0 pw) (hT : Tup D w ta T0) : AM l D M_Reader_readTuple 5 0 0 [.ref a, .ref ta] w n (fun v w' n' => ∃ (ok : Bool) (T1 : Nat → kV), v = some (.int (if ok then 1 else 0)) ∧ n' = n ∧ Fr2 w w' a 2 ta 12 ∧ Tup D w' ta T1 ∧ (ok = true → okT K F T1 c) ∧ ∀ T : Nat → kV, okT K F T c → l0 = keyB K F T c → ok = true ∧ ∀ j, j < c → T1 j = T j) := by
  refine AM.ofz (by decide +kernel) rfl (Nat.le_of_ble_eq_true rfl) (fun X A Q hin S RT => ?_)
  have S : FX X (D, A, 3, Q) prog_2_method_2_code "KeyCodec$KeyReader" 5 0 0 := S
  have RT : RTz X (D, A, 3, Q) prog_2_method_2_code 0 0 _ := RT
  have hc5 := hs.1
  refine a_lve (lv' := [(0, .ref a), (1, .ref ta)]) rfl ?_
  have fr : Fr2 w w a 2 ta 12 := fun _ _ _ => rfl
  refine a_aload_n S d_Reader_readTuple_0 rfl rfl ?_
  refine a_callV S (rest := []) lg_Reader_30 hT.cell (c_Tuple_reset X.2.1 D ta T0 w n hT) (by decide) (by omega) (by omega) rfl (Nat.le_of_ble_eq_true rfl) d_Reader_readTuple_1 (fun v1 w2 n3 p4 => ?_)
  obtain ⟨rfl, e6, f5, hT⟩ := p4
  rw [e6]
  refine a_st (st' := []) rfl ?_
  have fr : Fr2 w w2 a 2 ta 12 := fun q h1 h2 => (f5 q (by omega)).trans (fr q h1 h2)
  have hl := Row.fr f5 hl (by omega)
  have hr := Rd.fr f5 hr (by omega)
  have hs := Sch.fr f5 hs (by omega)
  refine a_iconst S (v := 0) d_Reader_readTuple_4 (by decide) ?_
  refine a_istore_n S d_Reader_readTuple_5 rfl (Nat.le_of_ble_eq_true rfl) (lv' := [(0, .ref a), (1, .ref ta), (2, .int 0)]) rfl ?_
  have loop6 : ∀ (kk6 : Nat) (i p1 t1 : Nat) (w1 : ww) (T1 : Nat → kV) (pw1 : Nat → Int32), c - i = kk6 → (i ≤ c) → (p1 ≤ l0.length) → (Fr2 w w1 a 2 ta 12) → (Sch D w1 sa c s K F) → (Row D w1 ra l0) → (t1 = 0 ∨ t1 = 255) → (Rd D w1 a sa ra p1 t1 pw1) → (Tup D w1 ta T1) → (∀ j, j < i → P1 (K j) (F j) (T1 j)) → (RC1 l0 K F c i p1 T1 pw1) → AW X (D, A, 3, Q) 6 [(0, .ref a), (1, .ref ta), (2, .int (nI i))] [] w1 n (0 + 0) (0 + 0) := by
    intro kk6
    induction kk6 using Nat.strongRecOn with
    | ind kk6 ih6 =>
      intro i p1 t1 w1 T1 pw1 hk6 hi hp1 fr hs hl ht1 hr hT hP hC
      refine a_iload_n S d_Reader_readTuple_6 rfl rfl ?_
      have r1 := hr.cell
      have s1 := hs.cell
      refine a_aload_n S d_Reader_readTuple_7 rfl rfl ?_
      refine a_get S kc_Reader 0 (by decide) lf_Reader_22 r1 rfl d_Reader_readTuple_8 ?_
      refine a_get S kc_Schema 2 (by decide) lf_Reader_35 s1 rfl d_Reader_readTuple_11 ?_
      refine a_icmp_ge S (tgt := 39) d_Reader_readTuple_14 rfl (fun h14 => ?_) (fun h14 => ?_)
      · have hi : i = c := Nat.le_antisymm hi ((nI_leI (by omega) (by omega)).mp h14)
        rw [hi] at hC hP
        obtain ⟨r1, r2⟩ := hr
        refine a_aload_n S d_Reader_readTuple_39 rfl rfl ?_
        refine a_iconst S (v := 0) d_Reader_readTuple_40 (by decide) ?_
        refine a_put S kc_Reader kt_Reader 3 (by decide) lf_Reader_15 rfl r1 rfl rfl (Nat.le_of_ble_eq_true rfl) d_Reader_readTuple_41 (fun w7 r1 e8 => ?_)
        have r1 : w7 a = some (.inr (5, [.ref sa, .ref ra, .int (nI p1), .int 0, .ref (a + 1)])) := r1
        have fr : Fr2 w w7 a 2 ta 12 := fun q h1 h2 => ((Fr.of1 e8) q (by omega)).trans (fr q h1 h2)
        have r2 := Fr.cell (Fr.of1 e8) r2 (by omega)
        have hl := Row.fr (Fr.of1 e8) hl (by omega)
        have hT := Tup.fr (Fr.of1 e8) hT (by omega)
        have hs := Sch.fr (Fr.of1 e8) hs (by omega)
        have hr : Rd D w7 a sa ra p1 0 pw1 := ⟨r1, r2⟩
        refine a_iconst S (v := 0) d_Reader_readTuple_44 (by decide) ?_
        refine a_istore_n S d_Reader_readTuple_45 rfl (Nat.le_of_ble_eq_true rfl) (lv' := [(0, .ref a), (1, .ref ta), (2, .int 0)]) rfl ?_
        have loop46 : ∀ (kk46 : Nat) (i p1 : Nat) (w1 : ww) (T1 : Nat → kV), c - i = kk46 → (i ≤ c) → (p1 ≤ l0.length) → (Fr2 w w1 a 2 ta 12) → (Sch D w1 sa c s K F) → (Row D w1 ra l0) → (Rd D w1 a sa ra p1 0 pw1) → (Tup D w1 ta T1) → (∀ j, j < i → okV (K j) (F j) (T1 j)) → (∀ j, i ≤ j → j < c → P1 (K j) (F j) (T1 j)) → (RC2 l0 K F c i p1 T1 pw1) → AW X (D, A, 3, Q) 46 [(0, .ref a), (1, .ref ta), (2, .int (nI i))] [] w1 n (0 + 0) (0 + 0) := by
          intro kk46
          induction kk46 using Nat.strongRecOn with
          | ind kk46 ih46 =>
            intro i p1 w1 T1 hk46 hi hp1 fr hs hl hr hT hO hP hC
            refine a_iload_n S d_Reader_readTuple_46 rfl rfl ?_
            have r1 := hr.cell
            have s1 := hs.cell
            refine a_aload_n S d_Reader_readTuple_47 rfl rfl ?_
            refine a_get S kc_Reader 0 (by decide) lf_Reader_22 r1 rfl d_Reader_readTuple_48 ?_
            refine a_get S kc_Schema 2 (by decide) lf_Reader_35 s1 rfl d_Reader_readTuple_51 ?_
            refine a_icmp_ge S (tgt := 91) d_Reader_readTuple_54 rfl (fun h54 => ?_) (fun h54 => ?_)
            · have hi : i = c := Nat.le_antisymm hi ((nI_leI (by omega) (by omega)).mp h54)
              rw [hi] at hC hO
              refine a_iconst S (v := 1) d_Reader_readTuple_91 (by decide) ?_
              exact RT _ _ _ _ _ _ _ d_Reader_readTuple_92 rfl (by omega) (by omega) ⟨true, T1, rfl, rfl, fr, hT, (fun _ => hO), (fun T g1 g2 => ⟨rfl, (hC T g1 g2).2.1⟩)⟩
            · have hi : i < c := Nat.not_le.mp fun z => h54 ((nI_leI (by omega) (by omega)).mpr z)
              obtain ⟨⟨tf, t1_, t2_, t3_⟩, tvs⟩ := hT
              have hT : Tup D w1 ta T1 := ⟨⟨tf, t1_, t2_, t3_⟩, tvs⟩
              have hv := tvs i (by omega)
              have vc := hv.cell
              refine a_aload_n S d_Reader_readTuple_57 rfl rfl ?_
              refine a_get S kc_Tuple 0 (by decide) lf_Reader_40 t1_ rfl d_Reader_readTuple_58 ?_
              refine a_iload_n S d_Reader_readTuple_61 rfl rfl ?_
              refine a_aald S (i := i) (q := ta + 2 + 2 * i) rfl t2_ rfl (by omega) (by decide) (t3_ i (by omega)) d_Reader_readTuple_62 ?_
              refine a_get S kc_Value 0 (by decide) lf_Reader_48 vc rfl d_Reader_readTuple_63 ?_
              refine a_if_ne S (tgt := 85) d_Reader_readTuple_66 rfl (fun h66 => ?_) (fun h66 => ?_)
              · have hm : (T1 i).1 = true := bo_1 h66
                refine a_iinc S (v := nI (i + 1)) d_Reader_readTuple_85 rfl (ni_add rfl (by decide)) (Nat.le_of_ble_eq_true rfl) (lv' := [(0, .ref a), (1, .ref ta), (2, .int (nI (i + 1)))]) rfl ?_
                refine a_goto S (tgt := 46) d_Reader_readTuple_88 rfl ?_
                exact ih46 _ (by omega) (i + 1) p1 w1 T1 rfl (by omega) hp1 fr hs hl hr hT (fun j hj => by
          by_cases e : j = i
          · subst e; exact okV_m (hP j (Nat.le_refl _) hi) hm
          · exact hO j (by omega)) (fun j hj hj2 => hP j (by omega) hj2) (RC2.m hi hC hm)
              · have hm : (T1 i).1 = false := bo_0 h66
                refine a_aload_n S d_Reader_readTuple_69 rfl rfl ?_
                refine a_iload_n S d_Reader_readTuple_70 rfl rfl ?_
                refine a_aload_n S d_Reader_readTuple_71 rfl rfl ?_
                refine a_get S kc_Tuple 0 (by decide) lf_Reader_40 t1_ rfl d_Reader_readTuple_72 ?_
                refine a_iload_n S d_Reader_readTuple_75 rfl rfl ?_
                refine a_aald S (i := i) (q := ta + 2 + 2 * i) rfl t2_ rfl (by omega) (by decide) (t3_ i (by omega)) d_Reader_readTuple_76 ?_
                refine a_callV S (rest := []) lg_Reader_54 hr.cell (c_Reader_readForm X.2.1 D (ta + 2 + 2 * i) i c s K F (T1 i) a sa ra p1 pw1 l0 w1 n (by omega) (by omega) (by omega) (by omega) (by omega) hi hp1 hs hl hr hv) (by decide) (by omega) (by omega) rfl (Nat.le_of_ble_eq_true rfl) d_Reader_readTuple_77 (fun v9 w10 n11 p12 => ?_)
                obtain ⟨ok, p2, v1, rfl, e14, f13, hr, hp2, hv, hF⟩ := p12
                rw [e14]
                refine a_st (st' := [.int (if ok then 1 else 0)]) rfl ?_
                have hT := Tup.put2 hT (by omega) f13 (by omega) hv
                have fr : Fr2 w w10 a 2 ta 12 := fun q h1 h2 => (f13 q (by omega) (by omega)).trans (fr q h1 h2)
                have hl := Row.mv (fun q h1 h2 => f13 q (by omega) (by omega)) hl
                have hs := Sch.mv (fun q h1 h2 => f13 q (by omega) (by omega)) hs
                refine a_if_ne S (tgt := 85) d_Reader_readTuple_80 rfl (fun h80 => ?_) (fun h80 => ?_)
                · have hok := bo_1 h80
                  subst hok
                  refine a_iinc S (v := nI (i + 1)) d_Reader_readTuple_85 rfl (ni_add rfl (by decide)) (Nat.le_of_ble_eq_true rfl) (lv' := [(0, .ref a), (1, .ref ta), (2, .int (nI (i + 1)))]) rfl ?_
                  refine a_goto S (tgt := 46) d_Reader_readTuple_88 rfl ?_
                  exact ih46 _ (by omega) (i + 1) p2 w10 _ rfl (by omega) hp2 fr hs hl hr hT (fun j hj => by
          by_cases e : j = i
          · subst e; rw [va_up_self]; exact hF.1 rfl (hP j (Nat.le_refl _) hi) hm
          · rw [va_up_ne _ _ e]; exact hO j (by omega)) (fun j hj hj2 => by rw [va_up_ne _ _ (by omega)]; exact hP j (by omega) hj2) (RC2.s hi hC hm hF)
                · have hok := bo_0 h80
                  subst hok
                  refine a_iconst S (v := 0) d_Reader_readTuple_83 (by decide) ?_
                  exact RT _ _ _ _ _ _ _ d_Reader_readTuple_84 rfl (by omega) (by omega) ⟨false, _, rfl, rfl, fr, hT, (fun z => by cases z), (fun T g1 g2 => (RC2.f hi hC hm hF T g1 g2).elim)⟩
        exact loop46 _ 0 p1 w7 T1 rfl (Nat.zero_le _) hp1 fr hs hl hr hT (fun j hj => absurd hj (Nat.not_lt_zero j)) (fun j _ hj => hP j hj) (RC2.z hC)
      · have hi : i < c := Nat.not_le.mp fun z => h14 ((nI_leI (by omega) (by omega)).mpr z)
        obtain ⟨⟨tf, t1_, t2_, t3_⟩, tvs⟩ := hT
        have hT : Tup D w1 ta T1 := ⟨⟨tf, t1_, t2_, t3_⟩, tvs⟩
        have hv := tvs i (by omega)
        have vc := hv.cell
        refine a_aload_n S d_Reader_readTuple_17 rfl rfl ?_
        refine a_iload_n S d_Reader_readTuple_18 rfl rfl ?_
        refine a_aload_n S d_Reader_readTuple_19 rfl rfl ?_
        refine a_get S kc_Tuple 0 (by decide) lf_Reader_40 t1_ rfl d_Reader_readTuple_20 ?_
        refine a_iload_n S d_Reader_readTuple_23 rfl rfl ?_
        refine a_aald S (i := i) (q := ta + 2 + 2 * i) rfl t2_ rfl (by omega) (by decide) (t3_ i (by omega)) d_Reader_readTuple_24 ?_
        refine a_callV S (rest := []) lg_Reader_44 hr.cell (c_Reader_readField X.2.1 D (ta + 2 + 2 * i) i c s K F (T1 i) a sa ra p1 t1 pw1 l0 w1 n (by omega) (by omega) (by omega) (by omega) (by omega) hi hp1 ht1 hs hl hr hv) (by decide) (by omega) (by omega) rfl (Nat.le_of_ble_eq_true rfl) d_Reader_readTuple_25 (fun v15 w16 n17 p18 => ?_)
        obtain ⟨ok, p2, v1, pw2, t2, ht2, rfl, e20, f19, hr, hp2, hv, hpw, hF⟩ := p18
        rw [e20]
        refine a_st (st' := [.int (if ok then 1 else 0)]) rfl ?_
        have hT := Tup.put2 hT (by omega) f19 (by omega) hv
        have fr : Fr2 w w16 a 2 ta 12 := fun q h1 h2 => (f19 q (by omega) (by omega)).trans (fr q h1 h2)
        have hl := Row.mv (fun q h1 h2 => f19 q (by omega) (by omega)) hl
        have hs := Sch.mv (fun q h1 h2 => f19 q (by omega) (by omega)) hs
        refine a_if_ne S (tgt := 33) d_Reader_readTuple_28 rfl (fun h28 => ?_) (fun h28 => ?_)
        · have hok := bo_1 h28
          subst hok
          refine a_iinc S (v := nI (i + 1)) d_Reader_readTuple_33 rfl (ni_add rfl (by decide)) (Nat.le_of_ble_eq_true rfl) (lv' := [(0, .ref a), (1, .ref ta), (2, .int (nI (i + 1)))]) rfl ?_
          refine a_goto S (tgt := 6) d_Reader_readTuple_36 rfl ?_
          exact ih6 _ (by omega) (i + 1) p2 t2 w16 _ _ rfl (by omega) hp2 fr hs hl ht2 hr hT (fun j hj => by
          by_cases e : j = i
          · subst e; rw [va_up_self]; exact hF.1 rfl
          · rw [va_up_ne _ _ e]; exact hP j (by omega)) (RC1.s hi hC hF hpw)
        · have hok := bo_0 h28
          subst hok
          refine a_iconst S (v := 0) d_Reader_readTuple_31 (by decide) ?_
          exact RT _ _ _ _ _ _ _ d_Reader_readTuple_32 rfl (by omega) (by omega) ⟨false, _, rfl, rfl, fr, hT, (fun z => by cases z), (fun T g1 g2 => (RC1.f hi hC hF T g1 g2).elim)⟩
  exact loop6 _ 0 0 0 w2 _ _ rfl (Nat.zero_le _) (Nat.zero_le _) fr hs hl (Or.inl rfl) hr hT (fun j hj => absurd hj (Nat.not_lt_zero j)) RC1.z
