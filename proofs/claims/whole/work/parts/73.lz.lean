theorem kNM_ok : ∀ q ∈ kNM, Cond.methodLinkNest q.1 q.2.1 q.2.2.1 q.2.2.2 ∈ tables_1 := List.forall_mem_cons.mpr ⟨List.mem_of_getElem? (i := 27) (by decide +kernel), List.forall_mem_cons.mpr ⟨List.mem_of_getElem? (i := 61) (by decide +kernel), List.forall_mem_cons.mpr ⟨List.mem_of_getElem? (i := 102) (by decide +kernel), fun _ h => absurd h List.not_mem_nil⟩⟩⟩
theorem kAO_Value : Cond.arrayOver (.object "KeyCodec$Value") ∈ tables_1 := List.mem_of_getElem? (i := 59) (by decide +kernel)
theorem kAO_Tuple : Cond.arrayOver (.object "KeyCodec$Tuple") ∈ tables_1 := List.mem_of_getElem? (i := 114) (by decide +kernel)
theorem kAO_Row : Cond.arrayOver (.object "KeyCodec$Row") ∈ tables_1 := List.mem_of_getElem? (i := 115) (by decide +kernel)
theorem kSt_63 : Cond.stringRef "KeyCodec" 63 "no such kind or flags" ∈ tables_1 := List.mem_of_getElem? (i := 428) (by decide +kernel)
theorem kSt_76 : Cond.stringRef "KeyCodec" 76 "the schema takes no field more" ∈ tables_1 := List.mem_of_getElem? (i := 464) (by decide +kernel)
theorem kSt_140 : Cond.stringRef "KeyCodec" 140 "the schema is open" ∈ tables_1 := List.mem_of_getElem? (i := 482) (by decide +kernel)
theorem kSt_170 : Cond.stringRef "KeyCodec" 170 "no tuple has this key" ∈ tables_1 := List.mem_of_getElem? (i := 573) (by decide +kernel)
theorem kSt_175 : Cond.stringRef "KeyCodec" 175 "the schema is open, or no tuple more can be kept" ∈ tables_1 := List.mem_of_getElem? (i := 581) (by decide +kernel)
theorem kLy_u : Cond.laysStatic "java/lang/Throwable" "UNASSIGNED_STACK" "[Ljava/lang/StackTraceElement;" ∈ tables_1 := List.mem_of_getElem? (i := 415) (by decide +kernel)
theorem kLy_s : Cond.laysStatic "java/lang/Throwable" "SUPPRESSED_SENTINEL" "Ljava/util/List;" ∈ tables_1 := List.mem_of_getElem? (i := 417) (by decide +kernel)
theorem kDl_RuntimeException : Cond.declares ⟨"java/lang/RuntimeException", "<init>", "(Ljava/lang/String;)V"⟩ ∈ tables_1 := List.mem_of_getElem? (i := 392) (by decide +kernel)
theorem kDl_Exception : Cond.declares ⟨"java/lang/Exception", "<init>", "(Ljava/lang/String;)V"⟩ ∈ tables_1 := List.mem_of_getElem? (i := 394) (by decide +kernel)
theorem kDl_Throwable : Cond.declares ⟨"java/lang/Throwable", "<init>", "(Ljava/lang/String;)V"⟩ ∈ tables_1 := List.mem_of_getElem? (i := 396) (by decide +kernel)
theorem kCs_iae : Cond.castable "java/lang/IllegalArgumentException" "java/lang/IllegalArgumentException" ∈ tables_1 := List.mem_of_getElem? (i := 390) (by decide +kernel)
theorem kCs_ise : Cond.castable "java/lang/IllegalStateException" "java/lang/IllegalStateException" ∈ tables_1 := List.mem_of_getElem? (i := 457) (by decide +kernel)
theorem kIt : Cond.initialized "java/lang/Throwable" ∈ tables_1 := List.mem_of_getElem? (i := 7) (by decide +kernel)
theorem law_D {s : State} {args : Array Value} (hts : ∀ z ∈ kTs, z.before args s = true) (hv : va_AO "KeyCodec$Value" s) (ht : va_AO "KeyCodec$Tuple" s) (hr : va_AO "KeyCodec$Row" s) : ∃ D : kD, va_K D.1 kcl (ktys D) s := by
  obtain ⟨c0, i0, k0⟩ := u_known hts kw_Kc (hts _ in_Kc)
  obtain ⟨c1, i1, k1⟩ := u_known hts kw_Row (hts _ in_Row)
  obtain ⟨c2, i2, k2⟩ := u_known hts kw_Value (hts _ in_Value)
  obtain ⟨c3, i3, k3⟩ := u_known hts kw_Tuple (hts _ in_Tuple)
  obtain ⟨c4, i4, k4⟩ := u_known hts kw_Schema (hts _ in_Schema)
  obtain ⟨c5, i5, k5⟩ := u_known hts kw_Reader (hts _ in_Reader)
  obtain ⟨c6, i6, k6⟩ := u_known hts kw_Mod (hts _ in_Mod)
  obtain ⟨a0, b0, m0, p0, q0, r0⟩ := Cond.arrayClass_spec (hts _ ar_int)
  obtain ⟨a1, b1, m1, p1, q1, r1⟩ := Cond.arrayClass_spec (hts _ ar_long)
  obtain ⟨a2, b2, m2, p2, q2, r2⟩ := Cond.arrayClass_spec (hts _ ar_boolean)
  obtain ⟨m3, a3, b3, n3, -, q3, r3, p3⟩ := Cond.arrayOver_spec hv
  obtain ⟨m4, a4, b4, n4, -, q4, r4, p4⟩ := Cond.arrayOver_spec ht
  obtain ⟨m5, a5, b5, n5, -, q5, r5, p5⟩ := Cond.arrayOver_spec hr
  refine ⟨((fun k => match k with | 0 => c0 | 1 => c1 | 2 => c2 | 3 => c3 | 4 => c4 | 5 => c5 | _ => c6, fun k => match k with | 0 => i0 | 1 => i1 | 2 => i2 | 3 => i3 | 4 => i4 | 5 => i5 | _ => i6), fun k => match k with | 0 => a0 | 1 => a1 | 2 => a2 | 3 => a3 | 4 => a4 | _ => a5), fun c q hq => ?_, fun k q hk => ?_⟩
  · rcases c with _ | _ | _ | _ | _ | _ | _ | c
    · cases hq; exact k0
    · cases hq; exact k1
    · cases hq; exact k2
    · cases hq; exact k3
    · cases hq; exact k4
    · cases hq; exact k5
    · cases hq; exact k6
    · simp [kcl] at hq
  · rcases k with _ | _ | _ | _ | _ | _ | k
    · cases hk; exact ⟨fun n z => ⟨fun k h => (by cases h), b0, q0, m0, r0⟩, p0⟩
    · cases hk; exact ⟨fun n z => ⟨fun k h => (by cases h), b1, q1, m1, r1⟩, p1⟩
    · cases hk; exact ⟨fun n z => ⟨fun k h => (by cases h), b2, q2, m2, r2⟩, p2⟩
    · cases hk; exact ⟨fun n z => ⟨fun k h => (by cases h), b3, q3, m3, r3⟩, b3, m3, q3, r3, n3, p3⟩
    · cases hk; exact ⟨fun n z => ⟨fun k h => (by cases h), b4, q4, m4, r4⟩, b4, m4, q4, r4, n4, p4⟩
    · cases hk; exact ⟨fun n z => ⟨fun k h => (by cases h), b5, q5, m5, r5⟩, b5, m5, q5, r5, n5, p5⟩
    · simp [ktys] at hk
theorem ref_ev {args : Array Value} {s : State} {t : Term} (h : (Cond.isRef t).before args s = true) : ∃ u : RefV, t.eval args s none [] s = some u.v := by
  cases hv : t.eval args s none [] s with
  | none => simp [Cond.before, Cond.holds, Cond.value, hv] at h
  | some v =>
    simp only [Cond.before, Cond.holds, Cond.value, hv, Option.map_some] at h
    cases v <;> first | exact ⟨⟨_, rfl⟩, rfl⟩ | simp at h
theorem ls_ev {args : Array Value} {s : State} {A : Nat → Prop} {nm d : String} (hl : (Cond.laysStatic "java/lang/Throwable" nm d).before args s = true) (hA : ∀ a : Nat, a < s.heap.size → ¬ A a) : kLs s A nm d := by
  obtain ⟨c, k, i, f, a, cell, h1, h2, h3, h4, h5, h6, h7, h8, h9⟩ := Cond.laysStatic_spec hl
  exact ⟨c, k, i, f, a, cell, h1, h2, h3, h4, h5, h6, h7, h8, h9, hA a (Array.getElem?_eq_some_iff.mp h5).1⟩
theorem ca_ev {args : Array Value} {s : State} {x : String} (h : (Cond.castable x x).before args s = true) : kCa s x := by
  obtain ⟨c, t, h1, h2, h3⟩ := Cond.castable_spec h
  cases h1.symm.trans h2
  exact ⟨c, h1, h3⟩
theorem st_ev {args : Array Value} {s : State} {k : Nat} {t : String} {cur : Nat} (hc : s.vm.findClass "KeyCodec" = some cur) (h : (Cond.stringRef "KeyCodec" k t).before args s = true) : ∃ a, vk_R "KeyCodec" k t a s := by
  obtain ⟨_, _, _, a, _, _, _, _, _, hev⟩ := Cond.stringRef_spec hc h
  exact ⟨a, vk_R.of h hev⟩
theorem law_S {s : State} {args : Array Value} (hts : ∀ z ∈ tables_1, z.before args s = true) (hk : ∀ z ∈ kTs, z.before args s = true) (hg : (Jvm.Cond.and given_1 narrow_1).before args s = true) : kS s (fun q => s.heap.size ≤ q) := by
  have hs := flat_of_before _ hg
  have hA : ∀ a : Nat, a < s.heap.size → ¬ (fun q => s.heap.size ≤ q) a := fun a ha => Nat.not_le.mpr ha
  obtain ⟨u1, v1⟩ := ref_ev (hs (.isRef (.static "java/lang/Throwable" "UNASSIGNED_STACK" "[Ljava/lang/StackTraceElement;")) (by decide +kernel))
  obtain ⟨u2, v2⟩ := ref_ev (hs (.isRef (.static "java/lang/Throwable" "SUPPRESSED_SENTINEL" "Ljava/util/List;")) (by decide +kernel))
  obtain ⟨cK, _, hcK, _⟩ := Cond.instantiable_spec (hk _ in_Kc)
  refine ⟨⟨u1, va_Zof (hts _ kLy_u) (hts _ kIt) v1 hA⟩, ⟨u2, va_Zof (hts _ kLy_s) (hts _ kIt) v2 hA⟩, ?_, kNo.of_ (hs (.not (.castable "java/lang/IllegalStateException" "java/lang/IllegalArgumentException")) (by decide +kernel)), kNo.of_ (hs (.not (.castable "java/lang/IllegalArgumentException" "java/lang/IllegalStateException")) (by decide +kernel)), ls_ev (hts _ kLy_u) hA, ls_ev (hts _ kLy_s) hA, ?_, ca_ev (hts _ kCs_iae), ca_ev (hts _ kCs_ise)⟩
  · exact List.forall_mem_cons.mpr ⟨st_ev hcK (hts _ kSt_63), List.forall_mem_cons.mpr ⟨st_ev hcK (hts _ kSt_76), List.forall_mem_cons.mpr ⟨st_ev hcK (hts _ kSt_140), List.forall_mem_cons.mpr ⟨st_ev hcK (hts _ kSt_170), List.forall_mem_cons.mpr ⟨st_ev hcK (hts _ kSt_175), fun _ h => absurd h List.not_mem_nil⟩⟩⟩⟩⟩
  · exact List.forall_mem_cons.mpr ⟨Cond.declares_spec (hts _ kDl_RuntimeException), List.forall_mem_cons.mpr ⟨Cond.declares_spec (hts _ kDl_Exception), List.forall_mem_cons.mpr ⟨Cond.declares_spec (hts _ kDl_Throwable), fun _ h => absurd h List.not_mem_nil⟩⟩⟩
set_option maxHeartbeats 1000000 in
set_option maxRecDepth 100000 in
theorem law_run {X : MX} {Y : kY} (S : FX X Y code "KeyCodecLaw" 9 601024 7293034) (hY : Y.2.2.1 = 7) (Zs : kS X.2.2.2.2.1 Y.2.1) (hfX : X.2.1.flags = pinnedFlags ++ [noTraceFlag]) (b N : Nat) (xs : Nat → Int32) (hX : SCR X Y b N xs) (hN : N ≤ 2560) (a : Nat) (RT : ∀ (pc : Nat) (lv : List (Nat × Value)) (w : ww) (n k j : Nat), decode code pc = .ok (.ireturn, 1) → k ≤ 601024 → j ≤ 7293034 → AW X Y pc lv [.int 1] w n k j) : AW X Y 0 [(0, .ref b)] [] (fun _ => none) a 0 0 := by
  obtain ⟨D, A, nL, Q⟩ := Y
  have hY : nL = 7 := hY
  subst hY
  refine a_new S kc_Kc kt_Kc lc_Law_8 in_Kc ii_Kc (fs := [.null, .null, .null, .null, .null, .null, .null, .null, .int 0, .null, .null, .int 0]) df_Kc (by omega) (by omega) d_Law_law_0 (fun w1 hn3 e2 => ?_)
  refine a_dup S d_Law_law_3 rfl ?_
  refine a_callI S (rest := [_]) lg_Law_28 (c_Kc_init X.2.1 D a w1 hn3) (by decide) (by omega) (by omega) rfl (Nat.le_of_ble_eq_true rfl) d_Law_law_4 (fun v4 w5 n6 p7 => ?_)
  obtain ⟨rfl, en1, f1, hC⟩ := p7
  rw [en1]
  refine a_st (st' := [.ref a]) rfl ?_
  refine a_astore_n S d_Law_law_7 rfl (Nat.le_of_ble_eq_true rfl) (lv' := [(0, .ref b), (1, .ref a)]) rfl ?_
  refine a_new S kc_Mod kt_Mod lc_Law_29 in_Mod ii_Mod (fs := [.int 0, .int 0, .int 0, .null, .null, .null, .null, .null, .null, .null, .int 0, .null, .int 0, .null, .int 0, .null, .null, .null, .null, .int 0, .int 0, .int 0, .int 0]) df_Mod (by omega) (by omega) d_Law_law_8 (fun w8 hn10 e9 => ?_)
  have hC := Cod.fr (Fr.of1 e9) hC (by omega)
  refine a_dup S d_Law_law_11 rfl ?_
  refine a_callI S (rest := [_]) lg_Law_31 (c_Mod_init X.2.1 D (a + 208) w8 hn10) (by decide) (by omega) (by omega) rfl (Nat.le_of_ble_eq_true rfl) d_Law_law_12 (fun v11 w12 n13 p14 => ?_)
  obtain ⟨rfl, en2, f2, hM⟩ := p14
  rw [en2]
  refine a_eqn (n2 := a + 222) (by omega) ?_
  refine a_st (st' := [.ref (a + 208)]) rfl ?_
  have hC := Cod.fr f2 hC (by omega)
  refine a_astore_n S d_Law_law_15 rfl (Nat.le_of_ble_eq_true rfl) (lv' := [(0, .ref b), (1, .ref a), (2, .ref (a + 208))]) rfl ?_
  refine a_iconst S (v := 1) d_Law_law_16 (by decide) ?_
  refine a_newa S (at0 := .long) (ty := .long) (t0 := 1) (N := 1) (a0 := (1, .inr (.inl (fun _ => 0)))) rfl rfl (fun _ _ h => h) ar_long (fun _ => rfl) rfl (by decide) (by decide) (by omega) (by omega) d_Law_law_17 (fun w15 hn17 e16 => ?_)
  have hC := Cod.fr (Fr.of1 e16) hC (by omega)
  have hM := Mdl.fr (Fr.of1 e16) hM (by omega)
  refine a_astore_n S d_Law_law_19 rfl (Nat.le_of_ble_eq_true rfl) (lv' := [(0, .ref b), (1, .ref a), (2, .ref (a + 208)), (3, .ref (a + 222))]) rfl ?_
  refine a_iconst S (v := 0) d_Law_law_20 (by decide) ?_
  refine a_istore S d_Law_law_21 (Nat.le_of_ble_eq_true rfl) (lv' := [(0, .ref b), (1, .ref a), (2, .ref (a + 208)), (3, .ref (a + 222)), (4, .int 0)]) rfl ?_
  have loop23 : ∀ (kk23 : Nat) (i : Nat) (c : Nat) (s : Bool) (K F : Nat → Nat) (L : Nat → kV) (kr : List Nat) (m : Nat) (KT : Nat → Nat → kV) (lo hi : List Nat) (he : Bool) (th : Int32) (g0 : Nat → Int64) (w1 : ww) (n1 : Nat), N - i = kk23 → (i ≤ N) → (LI D w1 n1 a g0 th c s K F L kr m KT lo hi he) → AW X (D, A, 7, Q) 23 [(0, .ref b), (1, .ref a), (2, .ref (a + 208)), (3, .ref (a + 222)), (4, .int (nI i))] [] w1 n1 (300 + i) (6000 + 4 * i) := by
    intro kk23
    induction kk23 using Nat.strongRecOn with
    | ind kk23 ih23 =>
      intro i c s K F L kr m KT lo hi he th g0 w1 n1 hk23 hiN hL
      refine a_iload S d_Law_law_23 rfl ?_
      refine a_aload_n S d_Law_law_25 rfl rfl ?_
      refine a_slen S hX d_Law_law_26 ?_
      refine a_iconst S (v := 5) d_Law_law_27 (by decide) ?_
      refine a_isub S d_Law_law_28 ?_
      refine a_icmp_gt S (tgt := 989) d_Law_law_29 rfl (fun h29 => ?_) (fun h29 => ?_)
      · refine a_iconst S (v := 1) d_Law_law_989 (by decide) ?_
        exact RT _ _ _ _ _ _ d_Law_law_990 (by omega) (by omega)
      · have hi5 : i + 5 ≤ N := sc_end hN (by omega) h29
        refine a_aload_n S d_Law_law_32 rfl rfl ?_
        refine a_iload S d_Law_law_33 rfl ?_
        refine a_sld S (i := i) hX rfl (by omega) d_Law_law_35 ?_
        refine a_bipush S (v := 31) d_Law_law_36 (by decide) ?_
        refine a_iand S d_Law_law_38 ?_
        obtain ⟨k, hk, ek⟩ := sw32 (xs i)
        refine a_eqi (y := nI k) ek ?_
        have NX : LQ X (D, A, 7, Q) b a i := by
          intro c_ s_ K_ F_ L_ kr_ m_ KT_ lo_ hi_ he_ th_ g0_ w_ n_ k_ j_ hL_ hk_ hj_
          refine a_iinc S (v := nI (i + 5)) d_Law_law_983 rfl (ni_add rfl rfl) (Nat.le_of_ble_eq_true rfl) (lv' := [(0, .ref b), (1, .ref a), (2, .ref (a + 208)), (3, .ref (a + 222)), (4, .int (nI (i + 5)))]) rfl ?_
          refine a_goto S (tgt := 23) d_Law_law_986 rfl ?_
          refine a_wid (c2 := 300 + (i + 5)) (s2 := 6000 + 4 * (i + 5)) (by omega) (by omega) ?_
          exact ih23 _ (by omega) (i + 5) c_ s_ K_ F_ L_ kr_ m_ KT_ lo_ hi_ he_ th_ g0_ w_ n_ rfl (by omega) hL_
        rcases (show k = 0 ∨ k = 1 ∨ k = 2 ∨ k = 3 ∨ k = 4 ∨ k = 5 ∨ k = 6 ∨ k = 7 ∨ k = 8 ∨ k = 9 ∨ k = 10 ∨ k = 11 ∨ k = 12 ∨ k = 13 ∨ k = 14 ∨ k = 15 ∨ k = 16 ∨ k = 17 ∨ k = 18 ∨ k = 19 ∨ k = 20 ∨ k = 21 ∨ k = 22 ∨ 22 < k by omega) with rfl | rfl | rfl | rfl | rfl | rfl | rfl | rfl | rfl | rfl | rfl | rfl | rfl | rfl | rfl | rfl | rfl | rfl | rfl | rfl | rfl | rfl | rfl | hk22
        · refine a_eqi (y := 0) rfl ?_
          refine a_tswIn S (tgt := 144) d_Law_law_39 (by decide) (by decide) rfl rfl ?_
          exact op_field S rfl Zs hfX b a N i xs hX hN hi5 NX c s K F L kr m KT lo hi he th g0 w1 n1 hL
        · refine a_eqi (y := 1) rfl ?_
          refine a_tswIn S (tgt := 212) d_Law_law_39 (by decide) (by decide) rfl rfl ?_
          exact op_seal S rfl Zs hfX b a N i xs hX hN hi5 NX c s K F L kr m KT lo hi he th g0 w1 n1 hL
        · refine a_eqi (y := 2) rfl ?_
          refine a_tswIn S (tgt := 225) d_Law_law_39 (by decide) (by decide) rfl rfl ?_
          exact op_clear S rfl Zs hfX b a N i xs hX hN hi5 NX c s K F L kr m KT lo hi he th g0 w1 n1 hL
        · refine a_eqi (y := 3) rfl ?_
          refine a_tswIn S (tgt := 236) d_Law_law_39 (by decide) (by decide) rfl rfl ?_
          exact op_put S rfl Zs hfX b a N i xs hX hN hi5 NX c s K F L kr m KT lo hi he th g0 w1 n1 hL
        · refine a_eqi (y := 4) rfl ?_
          refine a_tswIn S (tgt := 317) d_Law_law_39 (by decide) (by decide) rfl rfl ?_
          exact op_text S rfl Zs hfX b a N i xs hX hN hi5 NX c s K F L kr m KT lo hi he th g0 w1 n1 hL
        · refine a_eqi (y := 5) rfl ?_
          refine a_tswIn S (tgt := 354) d_Law_law_39 (by decide) (by decide) rfl rfl ?_
          exact op_absent S rfl Zs hfX b a N i xs hX hN hi5 NX c s K F L kr m KT lo hi he th g0 w1 n1 hL
        · refine a_eqi (y := 6) rfl ?_
          refine a_tswIn S (tgt := 379) d_Law_law_39 (by decide) (by decide) rfl rfl ?_
          exact op_get S rfl Zs hfX b a N i xs hX hN hi5 NX c s K F L kr m KT lo hi he th g0 w1 n1 hL
        · refine a_eqi (y := 7) rfl ?_
          refine a_tswIn S (tgt := 417) d_Law_law_39 (by decide) (by decide) rfl rfl ?_
          exact op_encode S rfl Zs hfX b a N i xs hX hN hi5 NX c s K F L kr m KT lo hi he th g0 w1 n1 hL
        · refine a_eqi (y := 8) rfl ?_
          refine a_tswIn S (tgt := 461) d_Law_law_39 (by decide) (by decide) rfl rfl ?_
          exact op_load S rfl Zs hfX b a N i xs hX hN hi5 NX c s K F L kr m KT lo hi he th g0 w1 n1 hL
        · refine a_eqi (y := 9) rfl ?_
          refine a_tswIn S (tgt := 530) d_Law_law_39 (by decide) (by decide) rfl rfl ?_
          exact op_clearKey S rfl Zs hfX b a N i xs hX hN hi5 NX c s K F L kr m KT lo hi he th g0 w1 n1 hL
        · refine a_eqi (y := 10) rfl ?_
          refine a_tswIn S (tgt := 541) d_Law_law_39 (by decide) (by decide) rfl rfl ?_
          exact op_key S rfl Zs hfX b a N i xs hX hN hi5 NX c s K F L kr m KT lo hi he th g0 w1 n1 hL
        · refine a_eqi (y := 11) rfl ?_
          refine a_tswIn S (tgt := 566) d_Law_law_39 (by decide) (by decide) rfl rfl ?_
          exact op_decode S rfl Zs hfX b a N i xs hX hN hi5 NX c s K F L kr m KT lo hi he th g0 w1 n1 hL
        · refine a_eqi (y := 12) rfl ?_
          refine a_tswIn S (tgt := 617) d_Law_law_39 (by decide) (by decide) rfl rfl ?_
          exact op_keep S rfl Zs hfX b a N i xs hX hN hi5 NX c s K F L kr m KT lo hi he th g0 w1 n1 hL
        · refine a_eqi (y := 13) rfl ?_
          refine a_tswIn S (tgt := 661) d_Law_law_39 (by decide) (by decide) rfl rfl ?_
          exact op_take S rfl Zs hfX b a N i xs hX hN hi5 NX c s K F L kr m KT lo hi he th g0 w1 n1 hL
        · refine a_eqi (y := 14) rfl ?_
          refine a_tswIn S (tgt := 686) d_Law_law_39 (by decide) (by decide) rfl rfl ?_
          exact op_kept S rfl Zs hfX b a N i xs hX hN hi5 NX c s K F L kr m KT lo hi he th g0 w1 n1 hL
        · refine a_eqi (y := 15) rfl ?_
          refine a_tswIn S (tgt := 699) d_Law_law_39 (by decide) (by decide) rfl rfl ?_
          exact op_compare S rfl Zs hfX b a N i xs hX hN hi5 NX c s K F L kr m KT lo hi he th g0 w1 n1 hL
        · refine a_eqi (y := 16) rfl ?_
          refine a_tswIn S (tgt := 736) d_Law_law_39 (by decide) (by decide) rfl rfl ?_
          exact op_compareKeys S rfl Zs hfX b a N i xs hX hN hi5 NX c s K F L kr m KT lo hi he th g0 w1 n1 hL
        · refine a_eqi (y := 17) rfl ?_
          refine a_tswIn S (tgt := 773) d_Law_law_39 (by decide) (by decide) rfl rfl ?_
          exact op_rank S rfl Zs hfX b a N i xs hX hN hi5 NX c s K F L kr m KT lo hi he th g0 w1 n1 hL
        · refine a_eqi (y := 18) rfl ?_
          refine a_tswIn S (tgt := 798) d_Law_law_39 (by decide) (by decide) rfl rfl ?_
          exact op_shared S rfl Zs hfX b a N i xs hX hN hi5 NX c s K F L kr m KT lo hi he th g0 w1 n1 hL
        · refine a_eqi (y := 19) rfl ?_
          refine a_tswIn S (tgt := 823) d_Law_law_39 (by decide) (by decide) rfl rfl ?_
          exact op_bounds S rfl Zs hfX b a N i xs hX hN hi5 NX c s K F L kr m KT lo hi he th g0 w1 n1 hL
        · refine a_eqi (y := 20) rfl ?_
          refine a_tswIn S (tgt := 860) d_Law_law_39 (by decide) (by decide) rfl rfl ?_
          exact op_between S rfl Zs hfX b a N i xs hX hN hi5 NX c s K F L kr m KT lo hi he th g0 w1 n1 hL
        · refine a_eqi (y := 21) rfl ?_
          refine a_tswIn S (tgt := 921) d_Law_law_39 (by decide) (by decide) rfl rfl ?_
          exact op_bound S rfl Zs hfX b a N i xs hX hN hi5 NX c s K F L kr m KT lo hi he th g0 w1 n1 hL
        · refine a_eqi (y := 22) rfl ?_
          refine a_tswIn S (tgt := 958) d_Law_law_39 (by decide) (by decide) rfl rfl ?_
          exact op_within S rfl Zs hfX b a N i xs hX hN hi5 NX c s K F L kr m KT lo hi he th g0 w1 n1 hL
        · refine a_tswOut S (tgt := 983) d_Law_law_39 (Or.inr (by rw [nI_toInt (by omega)]; omega)) rfl ?_
          exact NX c s K F L kr m KT lo hi he th g0 w1 n1 _ _ hL (by omega) (by omega)
  refine a_eqn (n2 := a + 223) (by omega) ?_
  refine a_wid (c2 := 300 + 0) (s2 := 6000 + 4 * 0) (by omega) (by omega) ?_
  exact loop23 _ 0 0 false (fun _ => 0) (fun _ => 0) (fun _ => (false, 0, 0, [])) ([]) 0 (fun _ _ => (false, 0, 0, [])) ([]) ([]) false 0 (fun _ => 0) w15 (a + 223) rfl (Nat.zero_le _) ⟨hC, hM, hn17, Nat.le_refl _⟩
