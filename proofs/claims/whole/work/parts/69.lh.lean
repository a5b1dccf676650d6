set_option maxHeartbeats 400000 in
set_option maxRecDepth 100000 in
theorem h_field0 (l : Launch) (D : kD) (b c : Nat) (s : Bool) (K F : Nat → Nat) (L : Nat → kV) (kr : List Nat) (m : Nat) (KT : Nat → Nat → kV) (lo hi : List Nat) (he : Bool) (u : Nat) (g0 : Nat → Int64) (kd fg : Nat) (w : ww) (n : Nat) (hf : l.flags = pinnedFlags ++ [noTraceFlag]) (hkd : kd < 4) (hfg : fg < 8) (hs0 : s = false) (hc0 : c < 5) (hu : u < b ∨ b + 208 ≤ u) (h1 : w u = some (.inl (D.2 1, 1, .inr (.inl g0)))) (h : Cod D w b c s K F L kr m KT lo hi he) : AH l D M_Law_field [(0, 10, 13, 13), (0, 10, 17, 15)] 7 0 0 [.ref b, .int (nI kd), .int (nI fg), .ref u] w n (fun v w' n' => v = some (.int 0) ∧ n' = n ∧ (∀ q, q < n → (q < b ∨ b + 208 ≤ q) → q ≠ u → w' q = w q) ∧ ∃ g1 : Nat → Int64, w' u = some (.inl (D.2 1, 1, .inr (.inl g1))) ∧ g1 0 = (nI c).toInt64 ∧ Cod D w' b (c + 1) s (va_up K c kd) (va_up F c fg) L kr m KT lo hi he) := by
  refine AH.of_ hf (by decide +kernel) rfl (Nat.le_of_ble_eq_true rfl) (fun X A Q S Zs hfX htab RT => ?_)
  have S : FX X (D, A, 5, Q) method_3_code "KeyCodecLaw" 7 0 0 := S
  have RT : RTi X (D, A, 5, Q) method_3_code 0 0 _ := RT
  refine a_dom (fun hdom => ?_)
  have hun := hdom _ _ h1
  refine a_lve (lv' := [(0, .ref b), (1, .int (nI kd)), (2, .int (nI fg)), (3, .ref u)]) rfl ?_
  refine a_aload_n S d_Law_field_0 rfl rfl ?_
  refine a_iconst S (v := 0) d_Law_field_1 (by decide) ?_
  refine a_aload_n S d_Law_field_2 rfl rfl ?_
  refine a_iload_n S d_Law_field_3 rfl rfl ?_
  refine a_iload_n S d_Law_field_4 rfl rfl ?_
  refine a_callV S (rest := [_, _]) lg_Law_7 h.cell (c_Kc_field X.2.1 D b c s K F L kr m KT lo hi he kd fg w n hkd hfg hs0 hc0 h) (by decide) (by omega) (by omega) rfl (Nat.le_of_ble_eq_true rfl) d_Law_field_5 (fun v1 w2 n3 p4 => ?_)
  obtain ⟨rfl, e6, f5, h⟩ := p4
  rw [e6]
  refine a_st (st' := [.int (nI c), .int 0, .ref u]) rfl ?_
  have h1 := Fr.cell f5 h1 (by omega)
  refine a_i2l S d_Law_field_8 ?_
  refine a_last S (i := 0) h1 rfl (by omega) (by decide) d_Law_field_9 (fun w7 h1 e8 => ?_)
  have h := h.mv (fun q z1 z2 => e8 q (by omega))
  refine a_goto S (tgt := 21) d_Law_field_10 rfl ?_
  refine a_iconst S (v := 0) d_Law_field_21 (by decide) ?_
  exact RT _ _ _ _ _ _ _ d_Law_field_22 (by omega) (by omega) ⟨rfl, rfl, (fun q z1 z2 z3 => (e8 q z3).trans (f5 q z2)), _, h1, updL_self, h⟩
set_option maxHeartbeats 400000 in
set_option maxRecDepth 100000 in
theorem h_field1 (l : Launch) (D : kD) (b c : Nat) (s : Bool) (K F : Nat → Nat) (L : Nat → kV) (kr : List Nat) (m : Nat) (KT : Nat → Nat → kV) (lo hi : List Nat) (he : Bool) (u : Nat) (g0 : Nat → Int64) (x y : Int32) (w : ww) (n : Nat) (hf : l.flags = pinnedFlags ++ [noTraceFlag]) (hx : ∀ kd fg, kd < 4 → fg < 8 → x = nI kd → y = nI fg → False) (hu : u < b ∨ b + 208 ≤ u) (h1 : w u = some (.inl (D.2 1, 1, .inr (.inl g0)))) (h : Cod D w b c s K F L kr m KT lo hi he) : AH l D M_Law_field [(0, 10, 13, 13), (0, 10, 17, 15)] 7 1 6 [.ref b, .int x, .int y, .ref u] w n (fun v w' n' => v = some (.int 1) ∧ w' = w ∧ n' = n + 1) := by
  refine AH.of_ hf (by decide +kernel) rfl (Nat.le_of_ble_eq_true rfl) (fun X A Q S Zs hfX htab RT => ?_)
  have S : FX X (D, A, 5, Q) method_3_code "KeyCodecLaw" 7 1 6 := S
  have RT : RTi X (D, A, 5, Q) method_3_code 1 6 _ := RT
  refine a_dom (fun hdom => ?_)
  have hun := hdom _ _ h1
  refine a_lve (lv' := [(0, .ref b), (1, .int x), (2, .int y), (3, .ref u)]) rfl ?_
  refine a_aload_n S d_Law_field_0 rfl rfl ?_
  refine a_iconst S (v := 0) d_Law_field_1 (by decide) ?_
  refine a_aload_n S d_Law_field_2 rfl rfl ?_
  refine a_iload_n S d_Law_field_3 rfl rfl ?_
  refine a_iload_n S d_Law_field_4 rfl rfl ?_
  refine a_callVT S Zs (rest := [_, _]) lg_Law_7 h.cell (t_Kc_field1 X.2.1 D b c s K F L kr m KT lo hi he x y w n hfX hx h) (by decide) (by decide) (by decide) rfl (Nat.le_of_ble_eq_true rfl) d_Law_field_5 (pre := []) (x := ⟨0, 10, 13, 13⟩) (rst := [⟨0, 10, 17, 15⟩]) htab (fun y hy => by cases hy) (by decide) (by decide) ol_Law_iae (Or.inl rfl) (fun q w2 n2 hp => ?_)
  refine a_astore S d_Law_field_13 (Nat.le_of_ble_eq_true rfl) (lv' := [(0, .ref b), (1, .int x), (2, .int y), (3, .ref u), (4, .ref q)]) rfl ?_
  refine a_iconst S (v := 1) d_Law_field_15 (by decide) ?_
  exact RT _ _ _ _ _ _ _ d_Law_field_16 (by omega) (by omega) ⟨rfl, hp.1, hp.2⟩
set_option maxHeartbeats 400000 in
set_option maxRecDepth 100000 in
theorem h_field2 (l : Launch) (D : kD) (b c : Nat) (s : Bool) (K F : Nat → Nat) (L : Nat → kV) (kr : List Nat) (m : Nat) (KT : Nat → Nat → kV) (lo hi : List Nat) (he : Bool) (u : Nat) (g0 : Nat → Int64) (kd fg : Nat) (w : ww) (n : Nat) (hf : l.flags = pinnedFlags ++ [noTraceFlag]) (hkd : kd < 4) (hfg : fg < 8) (hn : ¬ (s = false ∧ c < 5)) (hu : u < b ∨ b + 208 ≤ u) (h1 : w u = some (.inl (D.2 1, 1, .inr (.inl g0)))) (h : Cod D w b c s K F L kr m KT lo hi he) : AH l D M_Law_field [(0, 10, 13, 13), (0, 10, 17, 15)] 7 1 6 [.ref b, .int (nI kd), .int (nI fg), .ref u] w n (fun v w' n' => v = some (.int 2) ∧ w' = w ∧ n' = n + 1) := by
  refine AH.of_ hf (by decide +kernel) rfl (Nat.le_of_ble_eq_true rfl) (fun X A Q S Zs hfX htab RT => ?_)
  have S : FX X (D, A, 5, Q) method_3_code "KeyCodecLaw" 7 1 6 := S
  have RT : RTi X (D, A, 5, Q) method_3_code 1 6 _ := RT
  refine a_dom (fun hdom => ?_)
  have hun := hdom _ _ h1
  refine a_lve (lv' := [(0, .ref b), (1, .int (nI kd)), (2, .int (nI fg)), (3, .ref u)]) rfl ?_
  refine a_aload_n S d_Law_field_0 rfl rfl ?_
  refine a_iconst S (v := 0) d_Law_field_1 (by decide) ?_
  refine a_aload_n S d_Law_field_2 rfl rfl ?_
  refine a_iload_n S d_Law_field_3 rfl rfl ?_
  refine a_iload_n S d_Law_field_4 rfl rfl ?_
  refine a_callVT S Zs (rest := [_, _]) lg_Law_7 h.cell (t_Kc_field2 X.2.1 D b c s K F L kr m KT lo hi he kd fg w n hfX hkd hfg hn h) (by decide) (by decide) (by decide) rfl (Nat.le_of_ble_eq_true rfl) d_Law_field_5 (pre := [⟨0, 10, 13, 13⟩]) (x := ⟨0, 10, 17, 15⟩) (rst := []) htab (fun y hy => by rw [List.mem_singleton.mp hy]; exact ⟨by decide, by decide, "java/lang/IllegalArgumentException", ol_Law_iae, Zs.2.2.2.1⟩) (by decide) (by decide) ol_Law_ise (Or.inr rfl) (fun q w2 n2 hp => ?_)
  refine a_astore S d_Law_field_17 (Nat.le_of_ble_eq_true rfl) (lv' := [(0, .ref b), (1, .int (nI kd)), (2, .int (nI fg)), (3, .ref u), (4, .ref q)]) rfl ?_
  refine a_iconst S (v := 2) d_Law_field_19 (by decide) ?_
  exact RT _ _ _ _ _ _ _ d_Law_field_20 (by omega) (by omega) ⟨rfl, hp.1, hp.2⟩
set_option maxHeartbeats 400000 in
set_option maxRecDepth 100000 in
theorem h_encode0 (l : Launch) (D : kD) (b c : Nat) (s : Bool) (K F : Nat → Nat) (L : Nat → kV) (kr : List Nat) (m : Nat) (KT : Nat → Nat → kV) (lo hi : List Nat) (he : Bool) (u : Nat) (g0 : Nat → Int64)  (w : ww) (n : Nat) (hf : l.flags = pinnedFlags ++ [noTraceFlag]) (hs0 : s = true) (hu : u < b ∨ b + 208 ≤ u) (h1 : w u = some (.inl (D.2 1, 1, .inr (.inl g0)))) (h : Cod D w b c s K F L kr m KT lo hi he) : AH l D M_Law_encode [(0, 8, 11, 15)] 7 0 0 [.ref b, .ref u] w n (fun v w' n' => v = some (.int 0) ∧ n' = n ∧ (∀ q, q < n → (q < b ∨ b + 208 ≤ q) → q ≠ u → w' q = w q) ∧ ∃ g1 : Nat → Int64, w' u = some (.inl (D.2 1, 1, .inr (.inl g1))) ∧ g1 0 = (nI (keyB K F L c).length).toInt64 ∧ Cod D w' b c s K F L (keyB K F L c) m KT lo hi he) := by
  refine AH.of_ hf (by decide +kernel) rfl (Nat.le_of_ble_eq_true rfl) (fun X A Q S Zs hfX htab RT => ?_)
  have S : FX X (D, A, 3, Q) method_4_code "KeyCodecLaw" 7 0 0 := S
  have RT : RTi X (D, A, 3, Q) method_4_code 0 0 _ := RT
  refine a_dom (fun hdom => ?_)
  have hun := hdom _ _ h1
  refine a_lve (lv' := [(0, .ref b), (1, .ref u)]) rfl ?_
  refine a_aload_n S d_Law_encode_0 rfl rfl ?_
  refine a_iconst S (v := 0) d_Law_encode_1 (by decide) ?_
  refine a_aload_n S d_Law_encode_2 rfl rfl ?_
  refine a_callV S (rest := [_, _]) lg_Law_17 h.cell (c_Kc_encode X.2.1 D b c s K F L kr m KT lo hi he w n hs0 h) (by decide) (by omega) (by omega) rfl (Nat.le_of_ble_eq_true rfl) d_Law_encode_3 (fun v1 w2 n3 p4 => ?_)
  obtain ⟨rfl, e6, f5, h⟩ := p4
  rw [e6]
  refine a_st (st' := [.int (nI ((keyB K F L c).length)), .int 0, .ref u]) rfl ?_
  have h1 := Fr.cell f5 h1 (by omega)
  refine a_i2l S d_Law_encode_6 ?_
  refine a_last S (i := 0) h1 rfl (by omega) (by decide) d_Law_encode_7 (fun w7 h1 e8 => ?_)
  have h := h.mv (fun q z1 z2 => e8 q (by omega))
  refine a_goto S (tgt := 14) d_Law_encode_8 rfl ?_
  refine a_iconst S (v := 0) d_Law_encode_14 (by decide) ?_
  exact RT _ _ _ _ _ _ _ d_Law_encode_15 (by omega) (by omega) ⟨rfl, rfl, (fun q z1 z2 z3 => (e8 q z3).trans (f5 q z2)), _, h1, updL_self, h⟩
set_option maxHeartbeats 400000 in
set_option maxRecDepth 100000 in
theorem h_encode1 (l : Launch) (D : kD) (b c : Nat) (s : Bool) (K F : Nat → Nat) (L : Nat → kV) (kr : List Nat) (m : Nat) (KT : Nat → Nat → kV) (lo hi : List Nat) (he : Bool) (u : Nat) (g0 : Nat → Int64)  (w : ww) (n : Nat) (hf : l.flags = pinnedFlags ++ [noTraceFlag]) (hs0 : s = false) (hu : u < b ∨ b + 208 ≤ u) (h1 : w u = some (.inl (D.2 1, 1, .inr (.inl g0)))) (h : Cod D w b c s K F L kr m KT lo hi he) : AH l D M_Law_encode [(0, 8, 11, 15)] 7 1 6 [.ref b, .ref u] w n (fun v w' n' => v = some (.int 1) ∧ w' = w ∧ n' = n + 1) := by
  refine AH.of_ hf (by decide +kernel) rfl (Nat.le_of_ble_eq_true rfl) (fun X A Q S Zs hfX htab RT => ?_)
  have S : FX X (D, A, 3, Q) method_4_code "KeyCodecLaw" 7 1 6 := S
  have RT : RTi X (D, A, 3, Q) method_4_code 1 6 _ := RT
  refine a_dom (fun hdom => ?_)
  have hun := hdom _ _ h1
  refine a_lve (lv' := [(0, .ref b), (1, .ref u)]) rfl ?_
  refine a_aload_n S d_Law_encode_0 rfl rfl ?_
  refine a_iconst S (v := 0) d_Law_encode_1 (by decide) ?_
  refine a_aload_n S d_Law_encode_2 rfl rfl ?_
  refine a_callVT S Zs (rest := [_, _]) lg_Law_17 h.cell (t_Kc_encode X.2.1 D b c s K F L kr m KT lo hi he w n hfX hs0 h) (by decide) (by decide) (by decide) rfl (Nat.le_of_ble_eq_true rfl) d_Law_encode_3 (pre := []) (x := ⟨0, 8, 11, 15⟩) (rst := []) htab (fun y hy => by cases hy) (by decide) (by decide) ol_Law_ise (Or.inr rfl) (fun q w2 n2 hp => ?_)
  refine a_astore_n S d_Law_encode_11 rfl (Nat.le_of_ble_eq_true rfl) (lv' := [(0, .ref b), (1, .ref u), (2, .ref q)]) rfl ?_
  refine a_iconst S (v := 1) d_Law_encode_12 (by decide) ?_
  exact RT _ _ _ _ _ _ _ d_Law_encode_13 (by omega) (by omega) ⟨rfl, hp.1, hp.2⟩
set_option maxHeartbeats 400000 in
set_option maxRecDepth 100000 in
theorem h_keep0 (l : Launch) (D : kD) (b c : Nat) (s : Bool) (K F : Nat → Nat) (L : Nat → kV) (kr : List Nat) (m : Nat) (KT : Nat → Nat → kV) (lo hi : List Nat) (he : Bool) (u : Nat) (g0 : Nat → Int64)  (w : ww) (n : Nat) (hf : l.flags = pinnedFlags ++ [noTraceFlag]) (hs0 : s = true) (hm0 : m < 12) (hu : u < b ∨ b + 208 ≤ u) (h1 : w u = some (.inl (D.2 1, 1, .inr (.inl g0)))) (h : Cod D w b c s K F L kr m KT lo hi he) : AH l D M_Law_keep [(0, 8, 11, 15)] 7 0 0 [.ref b, .ref u] w n (fun v w' n' => v = some (.int 0) ∧ n' = n ∧ (∀ q, q < n → (q < b ∨ b + 208 ≤ q) → q ≠ u → w' q = w q) ∧ ∃ g1 : Nat → Int64, w' u = some (.inl (D.2 1, 1, .inr (.inl g1))) ∧ g1 0 = (nI m).toInt64 ∧ Cod D w' b c s K F L kr (m + 1) (va_up KT m L) lo hi he) := by
  refine AH.of_ hf (by decide +kernel) rfl (Nat.le_of_ble_eq_true rfl) (fun X A Q S Zs hfX htab RT => ?_)
  have S : FX X (D, A, 3, Q) method_6_code "KeyCodecLaw" 7 0 0 := S
  have RT : RTi X (D, A, 3, Q) method_6_code 0 0 _ := RT
  refine a_dom (fun hdom => ?_)
  have hun := hdom _ _ h1
  refine a_lve (lv' := [(0, .ref b), (1, .ref u)]) rfl ?_
  refine a_aload_n S d_Law_keep_0 rfl rfl ?_
  refine a_iconst S (v := 0) d_Law_keep_1 (by decide) ?_
  refine a_aload_n S d_Law_keep_2 rfl rfl ?_
  refine a_callV S (rest := [_, _]) lg_Law_25 h.cell (c_Kc_keep X.2.1 D b c s K F L kr m KT lo hi he w n hs0 hm0 h) (by decide) (by omega) (by omega) rfl (Nat.le_of_ble_eq_true rfl) d_Law_keep_3 (fun v1 w2 n3 p4 => ?_)
  obtain ⟨rfl, e6, f5, h⟩ := p4
  rw [e6]
  refine a_st (st' := [.int (nI m), .int 0, .ref u]) rfl ?_
  have h1 := Fr.cell f5 h1 (by omega)
  refine a_i2l S d_Law_keep_6 ?_
  refine a_last S (i := 0) h1 rfl (by omega) (by decide) d_Law_keep_7 (fun w7 h1 e8 => ?_)
  have h := h.mv (fun q z1 z2 => e8 q (by omega))
  refine a_goto S (tgt := 14) d_Law_keep_8 rfl ?_
  refine a_iconst S (v := 0) d_Law_keep_14 (by decide) ?_
  exact RT _ _ _ _ _ _ _ d_Law_keep_15 (by omega) (by omega) ⟨rfl, rfl, (fun q z1 z2 z3 => (e8 q z3).trans (f5 q z2)), _, h1, updL_self, h⟩
set_option maxHeartbeats 400000 in
set_option maxRecDepth 100000 in
theorem h_keep1 (l : Launch) (D : kD) (b c : Nat) (s : Bool) (K F : Nat → Nat) (L : Nat → kV) (kr : List Nat) (m : Nat) (KT : Nat → Nat → kV) (lo hi : List Nat) (he : Bool) (u : Nat) (g0 : Nat → Int64)  (w : ww) (n : Nat) (hf : l.flags = pinnedFlags ++ [noTraceFlag]) (hn : ¬ (s = true ∧ m < 12)) (hu : u < b ∨ b + 208 ≤ u) (h1 : w u = some (.inl (D.2 1, 1, .inr (.inl g0)))) (h : Cod D w b c s K F L kr m KT lo hi he) : AH l D M_Law_keep [(0, 8, 11, 15)] 7 1 6 [.ref b, .ref u] w n (fun v w' n' => v = some (.int 1) ∧ w' = w ∧ n' = n + 1) := by
  refine AH.of_ hf (by decide +kernel) rfl (Nat.le_of_ble_eq_true rfl) (fun X A Q S Zs hfX htab RT => ?_)
  have S : FX X (D, A, 3, Q) method_6_code "KeyCodecLaw" 7 1 6 := S
  have RT : RTi X (D, A, 3, Q) method_6_code 1 6 _ := RT
  refine a_dom (fun hdom => ?_)
  have hun := hdom _ _ h1
  refine a_lve (lv' := [(0, .ref b), (1, .ref u)]) rfl ?_
  refine a_aload_n S d_Law_keep_0 rfl rfl ?_
  refine a_iconst S (v := 0) d_Law_keep_1 (by decide) ?_
  refine a_aload_n S d_Law_keep_2 rfl rfl ?_
  refine a_callVT S Zs (rest := [_, _]) lg_Law_25 h.cell (t_Kc_keep X.2.1 D b c s K F L kr m KT lo hi he w n hfX hn h) (by decide) (by decide) (by decide) rfl (Nat.le_of_ble_eq_true rfl) d_Law_keep_3 (pre := []) (x := ⟨0, 8, 11, 15⟩) (rst := []) htab (fun y hy => by cases hy) (by decide) (by decide) ol_Law_ise (Or.inr rfl) (fun q w2 n2 hp => ?_)
  refine a_astore_n S d_Law_keep_11 rfl (Nat.le_of_ble_eq_true rfl) (lv' := [(0, .ref b), (1, .ref u), (2, .ref q)]) rfl ?_
  refine a_iconst S (v := 1) d_Law_keep_12 (by decide) ?_
  exact RT _ _ _ _ _ _ _ d_Law_keep_13 (by omega) (by omega) ⟨rfl, hp.1, hp.2⟩
set_option maxHeartbeats 400000 in
set_option maxRecDepth 100000 in
theorem h_decode0 (l : Launch) (D : kD) (b c : Nat) (s : Bool) (K F : Nat → Nat) (L : Nat → kV) (kr : List Nat) (m : Nat) (KT : Nat → Nat → kV) (lo hi : List Nat) (he : Bool) (u : Nat) (g0 : Nat → Int64) (T : Nat → kV) (w : ww) (n : Nat) (hf : l.flags = pinnedFlags ++ [noTraceFlag]) (hs0 : s = true) (hT : okT K F T c) (hkT : kr = keyB K F T c) (hu : u < b ∨ b + 208 ≤ u) (h1 : w u = some (.inl (D.2 1, 1, .inr (.inl g0)))) (h : Cod D w b c s K F L kr m KT lo hi he) : AH l D M_Law_decode [(0, 15, 18, 15), (0, 15, 21, 13)] 7 2 10 [.ref b, .ref u] w n (fun v w' n' => v = some (.int 0) ∧ n' = n + 2 ∧ (∀ q, q < n → (q < b ∨ b + 208 ≤ q) → q ≠ u → w' q = w q) ∧ ∃ g1 : Nat → Int64, w' u = some (.inl (D.2 1, 1, .inr (.inl g1))) ∧ g1 0 = 1 ∧ ∃ T1 : Nat → kV, (∀ j, j < c → T1 j = T j) ∧ Cod D w' b c s K F T1 kr m KT lo hi he) := by
  refine AH.of_ hf (by decide +kernel) rfl (Nat.le_of_ble_eq_true rfl) (fun X A Q S Zs hfX htab RT => ?_)
  have S : FX X (D, A, 3, Q) method_5_code "KeyCodecLaw" 7 2 10 := S
  have RT : RTi X (D, A, 3, Q) method_5_code 2 10 _ := RT
  refine a_dom (fun hdom => ?_)
  have hun := hdom _ _ h1
  refine a_lve (lv' := [(0, .ref b), (1, .ref u)]) rfl ?_
  refine a_aload_n S d_Law_decode_0 rfl rfl ?_
  refine a_iconst S (v := 0) d_Law_decode_1 (by decide) ?_
  refine a_aload_n S d_Law_decode_2 rfl rfl ?_
  refine a_callV S (rest := [_, _]) lg_Law_21 h.cell (c_Kc_decode X.2.1 D b c s K F L kr m KT lo hi he T w n hs0 hT hkT h) (by decide) (by omega) (by omega) rfl (Nat.le_of_ble_eq_true rfl) d_Law_decode_3 (fun v1 w2 n3 p4 => ?_)
  obtain ⟨T1, hT1, rfl, e6, f5, h⟩ := p4
  rw [e6]
  refine a_st (st' := [.int 1, .int 0, .ref u]) rfl ?_
  have h1 := (f5 _ (by omega) (by omega)).trans h1
  refine a_if_eq S (tgt := 13) d_Law_decode_6 rfl (fun h6 => ?_) (fun h6 => ?_)
  · exact absurd h6 (by decide)
  · refine a_lconst S (v := 1) d_Law_decode_9 (by decide) ?_
    refine a_goto S (tgt := 14) d_Law_decode_10 rfl ?_
    refine a_last S (i := 0) h1 rfl (by omega) (by decide) d_Law_decode_14 (fun w7 h1 e8 => ?_)
    have h := h.mv (fun q z1 z2 => e8 q (by omega))
    refine a_goto S (tgt := 24) d_Law_decode_15 rfl ?_
    refine a_iconst S (v := 0) d_Law_decode_24 (by decide) ?_
    exact RT _ _ _ _ _ _ _ d_Law_decode_25 (by omega) (by omega) ⟨rfl, rfl, (fun q z1 z2 z3 => (e8 q z3).trans (f5 q z2 (Or.inl z1))), _, h1, updL_self, T1, hT1, h⟩
set_option maxHeartbeats 400000 in
set_option maxRecDepth 100000 in
theorem h_decode1 (l : Launch) (D : kD) (b c : Nat) (s : Bool) (K F : Nat → Nat) (L : Nat → kV) (kr : List Nat) (m : Nat) (KT : Nat → Nat → kV) (lo hi : List Nat) (he : Bool) (u : Nat) (g0 : Nat → Int64)  (w : ww) (n : Nat) (hf : l.flags = pinnedFlags ++ [noTraceFlag]) (hs0 : s = false) (hu : u < b ∨ b + 208 ≤ u) (h1 : w u = some (.inl (D.2 1, 1, .inr (.inl g0)))) (h : Cod D w b c s K F L kr m KT lo hi he) : AH l D M_Law_decode [(0, 15, 18, 15), (0, 15, 21, 13)] 7 1 6 [.ref b, .ref u] w n (fun v w' n' => v = some (.int 1) ∧ w' = w ∧ n' = n + 1) := by
  refine AH.of_ hf (by decide +kernel) rfl (Nat.le_of_ble_eq_true rfl) (fun X A Q S Zs hfX htab RT => ?_)
  have S : FX X (D, A, 3, Q) method_5_code "KeyCodecLaw" 7 1 6 := S
  have RT : RTi X (D, A, 3, Q) method_5_code 1 6 _ := RT
  refine a_dom (fun hdom => ?_)
  have hun := hdom _ _ h1
  refine a_lve (lv' := [(0, .ref b), (1, .ref u)]) rfl ?_
  refine a_aload_n S d_Law_decode_0 rfl rfl ?_
  refine a_iconst S (v := 0) d_Law_decode_1 (by decide) ?_
  refine a_aload_n S d_Law_decode_2 rfl rfl ?_
  refine a_callVT S Zs (rest := [_, _]) lg_Law_21 h.cell (t_Kc_decode1 X.2.1 D b c s K F L kr m KT lo hi he w n hfX hs0 h) (by decide) (by decide) (by decide) rfl (Nat.le_of_ble_eq_true rfl) d_Law_decode_3 (pre := []) (x := ⟨0, 15, 18, 15⟩) (rst := [⟨0, 15, 21, 13⟩]) htab (fun y hy => by cases hy) (by decide) (by decide) ol_Law_ise (Or.inr rfl) (fun q w2 n2 hp => ?_)
  refine a_astore_n S d_Law_decode_18 rfl (Nat.le_of_ble_eq_true rfl) (lv' := [(0, .ref b), (1, .ref u), (2, .ref q)]) rfl ?_
  refine a_iconst S (v := 1) d_Law_decode_19 (by decide) ?_
  exact RT _ _ _ _ _ _ _ d_Law_decode_20 (by omega) (by omega) ⟨rfl, hp.1, hp.2⟩
set_option maxHeartbeats 400000 in
set_option maxRecDepth 100000 in
theorem h_decode2 (l : Launch) (D : kD) (b c : Nat) (s : Bool) (K F : Nat → Nat) (L : Nat → kV) (kr : List Nat) (m : Nat) (KT : Nat → Nat → kV) (lo hi : List Nat) (he : Bool) (u : Nat) (g0 : Nat → Int64)  (w : ww) (n : Nat) (hf : l.flags = pinnedFlags ++ [noTraceFlag]) (hs0 : s = true) (hno : ∀ T : Nat → kV, okT K F T c → ¬ kr = keyB K F T c) (hu : u < b ∨ b + 208 ≤ u) (h1 : w u = some (.inl (D.2 1, 1, .inr (.inl g0)))) (h : Cod D w b c s K F L kr m KT lo hi he) : AH l D M_Law_decode [(0, 15, 18, 15), (0, 15, 21, 13)] 7 3 16 [.ref b, .ref u] w n (fun v w' n' => v = some (.int 2) ∧ n' = n + 3 ∧ (∀ q, q < n → (q < b ∨ b + 208 ≤ q) → q ≠ u → w' q = w q) ∧ w' u = some (.inl (D.2 1, 1, .inr (.inl g0))) ∧ Cod D w' b c s K F L kr m KT lo hi he) := by
  refine AH.of_ hf (by decide +kernel) rfl (Nat.le_of_ble_eq_true rfl) (fun X A Q S Zs hfX htab RT => ?_)
  have S : FX X (D, A, 3, Q) method_5_code "KeyCodecLaw" 7 3 16 := S
  have RT : RTi X (D, A, 3, Q) method_5_code 3 16 _ := RT
  refine a_dom (fun hdom => ?_)
  have hun := hdom _ _ h1
  refine a_lve (lv' := [(0, .ref b), (1, .ref u)]) rfl ?_
  refine a_aload_n S d_Law_decode_0 rfl rfl ?_
  refine a_iconst S (v := 0) d_Law_decode_1 (by decide) ?_
  refine a_aload_n S d_Law_decode_2 rfl rfl ?_
  refine a_callVT S Zs (rest := [_, _]) lg_Law_21 h.cell (t_Kc_decode2 X.2.1 D b c s K F L kr m KT lo hi he w n hfX hs0 hno h) (by decide) (by decide) (by decide) rfl (Nat.le_of_ble_eq_true rfl) d_Law_decode_3 (pre := [⟨0, 15, 18, 15⟩]) (x := ⟨0, 15, 21, 13⟩) (rst := []) htab (fun y hy => by rw [List.mem_singleton.mp hy]; exact ⟨by decide, by decide, "java/lang/IllegalStateException", ol_Law_ise, Zs.2.2.2.2.1⟩) (by decide) (by decide) ol_Law_iae (Or.inl rfl) (fun q w2 n2 hp => ?_)
  refine a_astore_n S d_Law_decode_21 rfl (Nat.le_of_ble_eq_true rfl) (lv' := [(0, .ref b), (1, .ref u), (2, .ref q)]) rfl ?_
  refine a_iconst S (v := 2) d_Law_decode_22 (by decide) ?_
  exact RT _ _ _ _ _ _ _ d_Law_decode_23 (by omega) (by omega) ⟨rfl, hp.1, (fun q z1 z2 _ => hp.2.1 q z2 (Or.inl z1)), (hp.2.1 u hu (Or.inl hun)).trans h1, hp.2.2⟩
