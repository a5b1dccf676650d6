/-! orders of bytes step by step; what the arrays mean when a value changes -/
theorem ord32 {a b : Int64} : (lg_cmp a b < 0 → ordI a.toInt b.toInt = -1) ∧ (0 < lg_cmp a b → ordI a.toInt b.toInt = 1) ∧ (lg_cmp a b = 0 → ordI a.toInt b.toInt = 0) := by
  refine ⟨fun h => ?_, fun h => ?_, fun h => ?_⟩
  · have := Int64.lt_iff_toInt_lt.mp ((lg_cmp_lt a b).mp h)
    unfold ordI; rw [if_pos this]
  · have := Int64.lt_iff_toInt_lt.mp ((lg_cmp_gt a b).mp h)
    unfold ordI; rw [if_neg (by omega), if_pos this]
  · rw [(lg_cmp_eq a b).mp h]; unfold ordI; rw [if_neg (by omega), if_neg (by omega)]
theorem lg_tri2 {x : Int32} (h1 : 0 ≤ x) (h2 : x ≤ 0) : x = 0 := Int32.le_antisymm h2 h1
theorem i2lT {p : Nat} (h : p < 2 ^ 31) : (nI p).toInt64.toInt = (p : Int) := by rw [Int32.toInt_toInt64, nI_toInt h]
theorem cm_s {x y : List Nat} {i : Nat} (h1 : i < x.length) (h2 : i < y.length) (e : x.getD i 0 = y.getD i 0) : cmpB (x.drop i) (y.drop i) = cmpB (x.drop (i + 1)) (y.drop (i + 1)) := by
  rw [dropD h1, dropD h2, cmpB, e, if_neg (by omega), if_neg (by omega)]
theorem cm_n {x y : List Nat} {i : Nat} (h1 : i < x.length) (h2 : i < y.length) (e : ¬ x.getD i 0 = y.getD i 0) : cmpB (x.drop i) (y.drop i) = ordI (x.getD i 0 : Nat) (y.getD i 0 : Nat) := by
  rw [dropD h1, dropD h2, cmpB]
  unfold ordI
  by_cases h : x.getD i 0 < y.getD i 0
  · rw [if_pos h, if_pos (by omega)]
  · rw [if_neg h, if_pos (by omega), if_neg (by omega), if_pos (by omega)]
theorem cm_e {x y : List Nat} {i : Nat} (h1 : i ≤ x.length) (h2 : i ≤ y.length) (e : x.length ≤ i ∨ y.length ≤ i) : cmpB (x.drop i) (y.drop i) = ordI (x.length : Nat) (y.length : Nat) := by
  unfold ordI
  by_cases hx : x.length ≤ i
  · rw [List.drop_eq_nil_of_le hx]
    by_cases hy : y.length ≤ i
    · rw [List.drop_eq_nil_of_le hy, if_neg (by omega), if_neg (by omega), cmpB]
    · rw [dropD (by omega), cmpB, if_pos (by omega)]
  · rw [List.drop_eq_nil_of_le (as := y) (show y.length ≤ i by omega), dropD (l := x) (show i < x.length by omega), cmpB, if_neg (by omega), if_pos (by omega)]
theorem od_n {x y : List Nat} {i : Nat} (hx : ∀ b ∈ x, b < 256) (hy : ∀ b ∈ y, b < 256) (h1 : i < x.length) (h2 : i < y.length) (e : ¬ x.getD i 0 = y.getD i 0) (hs : cmpB x y = cmpB (x.drop i) (y.drop i)) : Int32.ofInt (ordI (nI (x.getD i 0)).toInt64.toInt (nI (y.getD i 0)).toInt64.toInt) = Int32.ofInt (cmpB x y) := by
  have := getD_lt hx i
  have := getD_lt hy i
  rw [hs, cm_n h1 h2 e, i2lT (by omega), i2lT (by omega)]
theorem od_e {x y : List Nat} {i : Nat} (hx : x.length ≤ 200) (hy : y.length ≤ 200) (h1 : i ≤ x.length) (h2 : i ≤ y.length) (e : x.length ≤ i ∨ y.length ≤ i) (hs : cmpB x y = cmpB (x.drop i) (y.drop i)) : Int32.ofInt (ordI (nI x.length).toInt64.toInt (nI y.length).toInt64.toInt) = Int32.ofInt (cmpB x y) := by
  rw [hs, cm_e h1 h2 e, i2lT (by omega), i2lT (by omega)]
def VI (c : Nat) (s : Bool) (K F : Nat → Nat) (L : Nat → kV) (m : Nat) (KT : Nat → Nat → kV) : Prop := (s = true → okT K F L c) ∧ ∀ i, i < m → s = true ∧ okT K F (KT i) c
theorem MI.upL {c : Nat} {s : Bool} {K F : Nat → Nat} {L : Nat → kV} {kr : List Nat} {m : Nat} {KT : Nat → Nat → kV} {lo hi : List Nat} {he : Bool} {ki fl : Nat → Int32} {va va' : Nat → Int64} {fo go si te ro lw hw fo' go' si' te' : Nat → Int32} {j : Nat} {v : kV} (h : MI c s K F L kr m KT lo hi he ki fl va fo go si te ro lw hw) (hj : j < c) (hv : VR va' fo' go' si' te' j v) (ho : ∀ p x, p ≠ j → VR va fo go si te p x → VR va' fo' go' si' te' p x) : MI c s K F (va_up L j v) kr m KT lo hi he ki fl va' fo' go' si' te' ro lw hw := by
  obtain ⟨g1, g2, g3, g4, g5, g6, g7, g8, g9⟩ := h
  refine ⟨g1, g2, g3, g4, g5, g6, fun hs f hf => ?_, fun t ht f hf => ho _ _ (by omega) (g8 t ht f hf), g9⟩
  have e : 5 * 0 + f = f := by omega
  have q := g7 hs f hf
  rw [e] at q ⊢
  by_cases e2 : f = j
  · subst e2; rw [va_up_self]; exact hv
  · rw [va_up_ne _ _ e2]; exact ho _ _ e2 q
theorem MI.v0 {c : Nat} {s : Bool} {K F : Nat → Nat} {L : Nat → kV} {kr : List Nat} {m : Nat} {KT : Nat → Nat → kV} {lo hi : List Nat} {he : Bool} {ki fl : Nat → Int32} {va : Nat → Int64} {fo go si te ro lw hw : Nat → Int32} (h : MI c s K F L kr m KT lo hi he ki fl va fo go si te ro lw hw) (hs : s = true) {j : Nat} (hj : j < c) : VR va fo go si te j (L j) := by
  have := h.2.2.2.2.2.2.1 hs j hj
  rw [show 5 * 0 + j = j by omega] at this
  exact this
theorem VR.tx {va : Nat → Int64} {fo go si te : Nat → Int32} {k : Nat} {v : kV} {x : Int32} (h : VR va fo go si te k v) (hm : v.1 = false) (hl : v.2.2.2.length < 10) : VR va fo go (upd si k (nI (v.2.2.2.length + 1))) (upd te (10 * k + v.2.2.2.length) (nI (by8 x))) k (false, v.2.1, v.2.2.1, v.2.2.2 ++ [by8 x]) := by
  obtain ⟨g1, g2, g3, g4, g5, g6, g7⟩ := h
  refine ⟨g1, g2, by rw [g3, hm], ?_, ?_, ?_, ?_⟩
  · rw [pk_us]; show _ = nI (v.2.2.2 ++ [by8 x]).length; rw [List.length_append]; rfl
  · show (v.2.2.2 ++ [by8 x]).length ≤ 10; rw [List.length_append]; exact hl
  · intro b hb
    rcases List.mem_append.mp hb with hb | hb
    · exact g6 b hb
    · rw [List.mem_singleton.mp hb]; exact by8_lt x
  · intro i hi
    have hi : i < (v.2.2.2 ++ [by8 x]).length := hi
    rw [List.length_append, List.length_singleton] at hi
    show _ = nI ((v.2.2.2 ++ [by8 x]).getD i 0)
    by_cases e : i = v.2.2.2.length
    · subst e; rw [pk_us, List.getD_eq_getElem?_getD, List.getElem?_append_right (Nat.le_refl _), Nat.sub_self]; rfl
    · rw [pk_un (by omega), g7 i (by omega), List.getD_eq_getElem?_getD, List.getD_eq_getElem?_getD, List.getElem?_append_left (by omega)]
theorem VR.tne {va : Nat → Int64} {fo go si te : Nat → Int32} {k p n : Nat} {v : kV} {x y : Int32} (hn : n < 10) (e : p ≠ k) (h : VR va fo go si te p v) : VR va fo go (upd si k x) (upd te (10 * k + n) y) p v := by
  obtain ⟨g1, g2, g3, g4, g5, g6, g7⟩ := h
  refine ⟨g1, g2, g3, by rw [pk_un e]; exact g4, g5, g6, fun i hi => ?_⟩
  rw [pk_un (by omega)]
  exact g7 i hi
theorem VR.gone {va : Nat → Int64} {fo go si te : Nat → Int32} {k : Nat} : VR (vp_updL va k 0) (upd fo k 0) (upd (upd go k (vp_nar .boolean 0)) k (vp_nar .boolean 1)) (upd si k 0) te k (true, 0, 0, []) := by
  refine ⟨updL_self, pk_us, (pk_us (f := upd go k (vp_nar .boolean 0))).trans rfl, pk_us, Nat.zero_le 10, fun b h => (by cases h), fun i hi => absurd hi (Nat.not_lt_zero i)⟩
theorem VR.gne {va : Nat → Int64} {fo go si te : Nat → Int32} {k p : Nat} {v : kV} {x : Int32} (e : p ≠ k) (h : VR va fo go si te p v) : VR va fo (upd go k x) si te p v := by
  unfold VR
  rw [pk_un e]
  exact h
theorem MI.em {c : Nat} {s s' : Bool} {K F : Nat → Nat} {L : Nat → kV} {kr : List Nat} {m : Nat} {KT : Nat → Nat → kV} {lo hi : List Nat} {he : Bool} {ki fl : Nat → Int32} {va va' : Nat → Int64} {fo go si te ro lw hw fo' go' si' : Nat → Int32} (h : MI c s K F L kr m KT lo hi he ki fl va fo go si te ro lw hw) (hv : ∀ f, f < 5 → VR va' fo' go' si' te (5 * 0 + f) (false, 0, 0, [])) (ho : ∀ p x, (p < 5 * 0 ∨ 5 * 0 + 5 ≤ p) → VR va fo go si te p x → VR va' fo' go' si' te p x) : MI c s' K F (fun _ => (false, 0, 0, [])) kr m KT lo hi he ki fl va' fo' go' si' te ro lw hw := by
  obtain ⟨g1, g2, g3, g4, g5, g6, g7, g8, g9⟩ := h
  exact ⟨g1, g2, g3, g4, g5, g6, fun hs f hf => hv f (by omega), fun t ht f hf => ho _ _ (by omega) (g8 t ht f hf), g9⟩
def NG (go : Nat → Int32) : Prop := ∀ k, vp_nar .boolean (go k) = go k
theorem nar2 (x : Int32) : vp_nar .boolean (vp_nar .boolean x) = vp_nar .boolean x := by
  show (x &&& 1) &&& 1 = x &&& 1
  rw [Int32.and_assoc]
  rfl
theorem NG.upd {go : Nat → Int32} (h : NG go) (k : Nat) (x : Int32) : NG (upd go k (vp_nar .boolean x)) := by
  intro p
  by_cases e : p = k
  · subst e; rw [pk_us]; exact nar2 x
  · rw [pk_un e]; exact h p
theorem NG.cpd {go go' : Nat → Int32} {s d i : Nat} (h : NG go) (hc : Cpd go go' s d i) : NG go' := by
  intro p
  rw [hc p]
  split
  · exact h _
  · exact h _
