/-! the model's fields read -/
def P2 (k fl : Nat) (v : kV) : Prop := (v.1 = true → fOp fl = true ∧ v = (true, 0, 0, [])) ∧ (v.1 = false → (k = 2 → v.2.1 = 0 ∧ v.2.2.1 = 0) ∧ (k ≠ 2 → v.2.2.2 = []))
def Q2 (k : Nat) (v v1 : kV) : Prop := if v.1 = true then v1 = v else if k = 1 then ∃ (d : Int64) (e : Int32) (z : Nat), v1 = (false, d, e, []) ∧ d.toInt * 10 ^ z = v.2.1.toInt ∧ e + v.2.2.1 = nI z ∧ z ≤ 16 else if k = 3 then v1 = (false, v.2.1, 0, []) else v1 = v
def FdM (l0 : List Nat) (p k fl : Nat) (b1 : Bool) (p1 : Nat) (v1 : kV) : Prop := P2 k fl v1 ∧ ∀ (v : kV) (rest : List Nat), okV k fl v → l0.drop p = encF k fl v ++ rest → b1 = false ∧ l0.drop p1 = rest ∧ Q2 k v v1
theorem P2.m {k fl : Nat} (ho : fOp fl = true) : P2 k fl (true, 0, 0, []) := ⟨fun _ => ⟨ho, rfl⟩, (fun q => by cases q)⟩
theorem P2.e0 {k fl : Nat} : P2 k fl (false, 0, 0, []) := ⟨(fun q => by cases q), fun _ => ⟨fun _ => ⟨rfl, rfl⟩, fun _ => rfl⟩⟩
theorem Q2.m {k : Nat} {v v1 : kV} (h : Q2 k v v1) (hm : v1.1 = true) : v1 = v := by
  unfold Q2 at h
  by_cases h1 : v.1 = true
  · rw [if_pos h1] at h; exact h
  · rw [if_neg h1] at h
    by_cases h2 : k = 1
    · rw [if_pos h2] at h
      obtain ⟨d, e, z, rfl, -⟩ := h
      cases hm
    · rw [if_neg h2] at h
      by_cases h3 : k = 3
      · rw [if_pos h3] at h; rw [h] at hm; cases hm
      · rw [if_neg h3] at h; exact h
theorem Q2.p {k : Nat} {v v1 : kV} (h : Q2 k v v1) (hm : v1.1 = false) : v.1 = false := by
  rcases bo_cases v with h1 | h1
  · unfold Q2 at h
    rw [if_pos h1] at h
    rw [h, h1] at hm
    cases hm
  · exact h1
theorem Q2.k {k : Nat} {v v1 : kV} (h : Q2 k v v1) (h1 : ¬ k = 1) (h3 : ¬ k = 3) : v1 = v := by
  unfold Q2 at h
  rw [if_neg h1, if_neg h3] at h
  split at h <;> exact h
theorem Q2.d {v v1 : kV} (h : Q2 1 v v1) (hm : v.1 = false) : ∃ (d : Int64) (e : Int32) (z : Nat), v1 = (false, d, e, []) ∧ d.toInt * 10 ^ z = v.2.1.toInt ∧ e + v.2.2.1 = nI z ∧ z ≤ 16 := by
  unfold Q2 at h
  rw [if_neg (by rw [hm]; decide), if_pos rfl] at h
  exact h
theorem Q2.o {v v1 : kV} (h : Q2 3 v v1) (hm : v.1 = false) : v1 = (false, v.2.1, 0, []) := by
  unfold Q2 at h
  rw [if_neg (by rw [hm]; decide), if_neg (by decide), if_pos rfl] at h
  exact h
theorem FdM.nil {l0 : List Nat} {p k fl p1 : Nat} {b1 : Bool} (ho : fOp fl = true) (h : p = l0.length) : FdM l0 p k fl b1 p1 (true, 0, 0, []) := ⟨P2.m ho, fun v rest hok g => by
  have := ((FdC.nil (k := k) (p1 := p1) (v1 := v) (e := 0) ho (Nat.le_of_eq h.symm)).2 v rest hok g).1
  cases this⟩
theorem FdM.bad {l0 : List Nat} {p k fl p1 : Nat} {b1 : Bool} (ho : fOp fl = true) (hx : ¬ tnB 0 (l0.getD p 0) = mkA fl) (hx1 : ¬ tnB 0 (l0.getD p 0) = 1) : FdM l0 p k fl b1 p1 (true, 0, 0, []) := ⟨P2.m ho, fun v rest hok g => by
  have := ((FdC.bad (k := k) (p1 := p1) (v1 := v) (e := 0) ho hx hx1).2 v rest hok g).1
  cases this⟩
theorem FdM.miss {l0 : List Nat} {p k fl : Nat} (ho : fOp fl = true) (hx : tnB 0 (l0.getD p 0) = mkA fl) : FdM l0 p k fl false (p + 1) (true, 0, 0, []) := ⟨P2.m ho, fun v rest hok g => by
  obtain ⟨-, h2, h3⟩ := (FdC.miss (k := k) (e := 0) ho hx).2 v rest hok g
  have h4 := h3.m rfl
  refine ⟨rfl, h2, ?_⟩
  unfold Q2
  rw [if_pos (by rw [← h4])]
  exact h4⟩
theorem FdM.int {l0 : List Nat} {p k fl p' p1 : Nat} {b1 : Bool} {r : Int64} (hk : k = 0 ∨ k = 3) (hp : PosC l0 p k fl p') (h : ∀ Nn rest, false = false → rdI (tnF fl) (l0.drop p') = some (Nn, rest) → r = lN Nn ∧ b1 = false ∧ l0.drop p1 = rest) : FdM l0 p k fl b1 p1 (false, r, 0, []) := by
  refine ⟨⟨(fun q => by cases q), fun _ => ⟨(fun q => by omega), fun _ => rfl⟩⟩, fun v rest hok g => ?_⟩
  obtain ⟨hm, e1⟩ := hp v rest hok g
  obtain ⟨Nn, e2, e3⟩ := q_int hk hm hok e1
  obtain ⟨g1, g2, g3⟩ := h Nn rest rfl e2
  refine ⟨g2, g3, ?_⟩
  unfold Q2
  rw [if_neg (by rw [hm]; decide), if_neg (by omega), g1, e3]
  rcases hk with rfl | rfl
  · rw [if_neg (by decide)]
    exact (v_eq hm hok.2.2.2.1 (hok.2.2.2.2 (by decide))).symm
  · rw [if_pos rfl]
theorem FdM.text {l0 : List Nat} {p k fl p' p1 : Nat} {b1 : Bool} {x : List Nat} (hk : k = 2) (hp : PosC l0 p k fl p') (h1 : b1 = true → rdT (tnF fl) 11 [] (l0.drop p') = none) (h2 : b1 = false → rdT (tnF fl) 11 [] (l0.drop p') = some (x, l0.drop p1)) : FdM l0 p k fl b1 p1 (false, 0, 0, x) := by
  subst hk
  refine ⟨⟨(fun q => by cases q), fun _ => ⟨fun _ => ⟨rfl, rfl⟩, fun q => absurd rfl q⟩⟩, fun v rest hok g => ?_⟩
  obtain ⟨hm, e1⟩ := hp v rest hok g
  have e2 := q_text hok e1
  cases b1 with
  | true => rw [h1 rfl] at e2; cases e2
  | false =>
    rw [h2 rfl] at e2
    have e5 := Prod.mk.inj (Option.some.inj e2)
    refine ⟨rfl, e5.2, ?_⟩
    unfold Q2
    rw [if_neg (by rw [hm]; decide), if_neg (by decide), if_neg (by decide), e5.1]
    have h4 : v.2.1 = 0 ∧ v.2.2.1 = 0 := hok.2.2.2.1
    obtain ⟨m, b, c, d⟩ := v
    have hm : m = false := hm
    have h5 : b = 0 := h4.1
    have h6 : c = 0 := h4.2
    rw [hm, h5, h6]
theorem FdM.dec {l0 : List Nat} {p k fl p' p1 : Nat} {b1 : Bool} {d : Int64} {e : Int32} (hk : k = 1) (hp : PosC l0 p k fl p') (h : ∀ d0 e0 rest, rdD (tnF fl) (l0.drop p') = some (d0, e0, rest) → b1 = false ∧ d = d0 ∧ e = e0 ∧ l0.drop p1 = rest) : FdM l0 p k fl b1 p1 (false, d, e, []) := by
  subst hk
  refine ⟨⟨(fun q => by cases q), fun _ => ⟨(fun q => by cases q), fun _ => rfl⟩⟩, fun v rest hok g => ?_⟩
  obtain ⟨hm, e1⟩ := hp v rest hok g
  obtain ⟨d', e', z, e2, e3, e4, e5⟩ := q_dec (tnF_01 fl) hok e1
  obtain ⟨g1, rfl, rfl, g4⟩ := h d' e' rest e2
  refine ⟨g1, g4, ?_⟩
  unfold Q2
  rw [if_neg (by rw [hm]; decide), if_pos rfl]
  exact ⟨d, e, z, rfl, e3, e4, e5⟩
/-- only one place has changed -/
def SX (va : Nat → Int64) (fo go si te : Nat → Int32) (va1 : Nat → Int64) (fo1 go1 si1 te1 : Nat → Int32) (k : Nat) : Prop := ∀ p, p ≠ k → va1 p = va p ∧ fo1 p = fo p ∧ go1 p = go p ∧ si1 p = si p ∧ ∀ i, i < 10 → te1 (10 * p + i) = te (10 * p + i)
theorem VR.sx {va : Nat → Int64} {fo go si te : Nat → Int32} {va1 : Nat → Int64} {fo1 go1 si1 te1 : Nat → Int32} {k p : Nat} {v : kV} (h : SX va fo go si te va1 fo1 go1 si1 te1 k) (hp : p ≠ k) (hv : VR va fo go si te p v) : VR va1 fo1 go1 si1 te1 p v := by
  obtain ⟨s1, s2, s3, s4, s5⟩ := h p hp
  obtain ⟨g1, g2, g3, g4, g5, g6, g7⟩ := hv
  exact ⟨s1.trans g1, s2.trans g2, s3.trans g3, s4.trans g4, g5, g6, fun i hi => (s5 i (by omega)).trans (g7 i hi)⟩
theorem SX.id {va : Nat → Int64} {fo go si te : Nat → Int32} {k : Nat} : SX va fo go si te va fo go si te k := fun _ _ => ⟨rfl, rfl, rfl, rfl, fun _ _ => rfl⟩
theorem SX.trans {va : Nat → Int64} {fo go si te : Nat → Int32} {va1 : Nat → Int64} {fo1 go1 si1 te1 : Nat → Int32} {va2 : Nat → Int64} {fo2 go2 si2 te2 : Nat → Int32} {k : Nat} (h1 : SX va fo go si te va1 fo1 go1 si1 te1 k) (h2 : SX va1 fo1 go1 si1 te1 va2 fo2 go2 si2 te2 k) : SX va fo go si te va2 fo2 go2 si2 te2 k := fun p hp => by
  obtain ⟨s1, s2, s3, s4, s5⟩ := h1 p hp
  obtain ⟨g1, g2, g3, g4, g5⟩ := h2 p hp
  exact ⟨g1.trans s1, g2.trans s2, g3.trans s3, g4.trans s4, fun i hi => (g5 i hi).trans (s5 i hi)⟩
theorem SX.go {va : Nat → Int64} {fo go si te : Nat → Int32} {k : Nat} {x : Int32} : SX va fo go si te va fo (upd go k x) si te k := fun _ hp => ⟨rfl, rfl, pk_un hp, rfl, fun _ _ => rfl⟩
theorem SX.va {va : Nat → Int64} {fo go si te : Nat → Int32} {k : Nat} {x : Int64} : SX va fo go si te (vp_updL va k x) fo go si te k := fun _ hp => ⟨updL_ne hp, rfl, rfl, rfl, fun _ _ => rfl⟩
theorem DX.sx {va va1 : Nat → Int64} {fo fo1 go si te : Nat → Int32} {k : Nat} {d : Int64} {e : Int32} (h : DX va va1 fo fo1 k d e) : SX va fo go si te va1 fo1 go si te k := fun p hp => ⟨h.2.2.1 p hp, h.2.2.2 p hp, rfl, rfl, fun _ _ => rfl⟩
theorem TX.sx {va : Nat → Int64} {fo go si te si1 te1 : Nat → Int32} {k : Nat} {x : List Nat} (h : TX si te si1 te1 k x) : SX va fo go si te va fo go si1 te1 k := fun p hp => ⟨rfl, rfl, rfl, h.2.2.2.2.1 p hp, fun i hi => h.2.2.2.2.2 _ (by omega)⟩
theorem VR.g1 {va : Nat → Int64} {fo go si te : Nat → Int32} {k : Nat} (h : VR va fo go si te k (false, 0, 0, [])) : VR va fo (upd go k (vp_nar .boolean 1)) si te k (true, 0, 0, []) := ⟨h.1, h.2.1, pk_us.trans rfl, h.2.2.2.1, h.2.2.2.2.1, h.2.2.2.2.2.1, h.2.2.2.2.2.2⟩
theorem VR.g0 {va : Nat → Int64} {fo go si te : Nat → Int32} {k : Nat} (h : VR va fo go si te k (false, 0, 0, [])) : VR va fo (upd go k (vp_nar .boolean 0)) si te k (false, 0, 0, []) := ⟨h.1, h.2.1, pk_us.trans rfl, h.2.2.2.1, h.2.2.2.2.1, h.2.2.2.2.2.1, h.2.2.2.2.2.2⟩
theorem VR.dx {va va1 : Nat → Int64} {fo fo1 go si te : Nat → Int32} {k : Nat} {d : Int64} {e : Int32} {v : kV} (h : VR va fo go si te k v) (hd : DX va va1 fo fo1 k d e) : VR va1 fo1 go si te k (v.1, d, e, v.2.2.2) := ⟨hd.1, hd.2.1, h.2.2.1, h.2.2.2.1, h.2.2.2.2.1, h.2.2.2.2.2.1, h.2.2.2.2.2.2⟩
theorem VR.txx {va : Nat → Int64} {fo go si te si1 te1 : Nat → Int32} {k : Nat} {x : List Nat} {v : kV} (h : VR va fo go si te k v) (hd : TX si te si1 te1 k x) : VR va fo go si1 te1 k (v.1, v.2.1, v.2.2.1, x) := ⟨h.1, h.2.1, h.2.2.1, hd.2.2.1, hd.1, hd.2.1, hd.2.2.2.1⟩
theorem VR.vx {va : Nat → Int64} {fo go si te : Nat → Int32} {k : Nat} {x : Int64} {v : kV} (h : VR va fo go si te k v) : VR (vp_updL va k x) fo go si te k (v.1, x, v.2.2.1, v.2.2.2) := ⟨updL_self, h.2.1, h.2.2.1, h.2.2.2.1, h.2.2.2.2.1, h.2.2.2.2.2.1, h.2.2.2.2.2.2⟩
theorem VR.fx {va : Nat → Int64} {fo go si te : Nat → Int32} {k : Nat} {x : Int32} {v : kV} (h : VR va fo go si te k v) : VR va (upd fo k x) go si te k (v.1, v.2.1, x, v.2.2.2) := ⟨h.1, pk_us, h.2.2.1, h.2.2.2.1, h.2.2.2.2.1, h.2.2.2.2.2.1, h.2.2.2.2.2.2⟩
/-- fields so far, tails so far -/
def RM1 (l0 : List Nat) (K F : Nat → Nat) (c i p1 : Nat) (T1 : Nat → kV) (b1 : Bool) : Prop := ∀ T : Nat → kV, okT K F T c → l0 = keyB K F T c → b1 = false ∧ l0.drop p1 = fldS K F T (c - i) i ++ tlB K T c ∧ ∀ j, j < i → Q2 (K j) (T j) (T1 j)
def RM2 (l0 : List Nat) (K F : Nat → Nat) (c i p1 : Nat) (T1 : Nat → kV) (b1 : Bool) : Prop := ∀ T : Nat → kV, okT K F T c → l0 = keyB K F T c → b1 = false ∧ l0.drop p1 = tlS K T (c - i) i ∧ (∀ j, j < i → T1 j = T j) ∧ ∀ j, i ≤ j → j < c → Q2 (K j) (T j) (T1 j)
theorem RM1.z {l0 : List Nat} {K F : Nat → Nat} {c : Nat} {T1 : Nat → kV} : RM1 l0 K F c 0 0 T1 false := fun T _ e => by
  refine ⟨rfl, ?_, fun j hj => absurd hj (Nat.not_lt_zero j)⟩
  have := fldB_S K F T c 0
  rw [Nat.zero_add] at this
  rw [List.drop_zero, e, Nat.sub_zero]
  unfold keyB
  rw [← this]
  rfl
theorem RM1.s {l0 : List Nat} {K F : Nat → Nat} {c i p1 p2 : Nat} {T1 : Nat → kV} {b1 b2 : Bool} {v : kV} (hi : i < c) (h : RM1 l0 K F c i p1 T1 b1) (hf : FdM l0 p1 (K i) (F i) b2 p2 v) : RM1 l0 K F c (i + 1) p2 (va_up T1 i v) b2 := fun T hok e => by
  obtain ⟨-, h1, h2⟩ := h T hok e
  rw [show c - i = (c - (i + 1)) + 1 by omega, fldS, List.append_assoc] at h1
  obtain ⟨g1, h3, h4⟩ := hf.2 (T i) _ (hok i hi) h1
  refine ⟨g1, h3, fun j hj => ?_⟩
  by_cases ej : j = i
  · subst ej; rw [va_up_self]; exact h4
  · rw [va_up_ne _ _ ej]
    exact h2 j (by omega)
theorem RM2.z {l0 : List Nat} {K F : Nat → Nat} {c i p1 : Nat} {T1 : Nat → kV} {b1 : Bool} (h : RM1 l0 K F c i p1 T1 b1) (he : i = c ∨ b1 = true) : RM2 l0 K F c 0 p1 T1 b1 := fun T hok e => by
  obtain ⟨h0, h1, h2⟩ := h T hok e
  rcases he with rfl | he
  · refine ⟨h0, ?_, fun j hj => absurd hj (Nat.not_lt_zero j), fun j _ hj => h2 j hj⟩
    have := tlB_S K T i 0
    rw [Nat.zero_add] at this
    rw [h1, Nat.sub_self, Nat.sub_zero, ← this]
    rfl
  · rw [he] at h0; cases h0
section
variable {l0 : List Nat} {K F : Nat → Nat} {c i p1 : Nat} {T1 : Nat → kV} {b1 : Bool}
theorem RM2.e (h : RM2 l0 K F c i p1 T1 b1) (he : i = c ∨ b1 = true) (hp : p1 ≤ l0.length) : ∀ T : Nat → kV, okT K F T c → l0 = keyB K F T c → b1 = false ∧ p1 = l0.length ∧ ∀ j, j < c → T1 j = T j := fun T hok e => by
  obtain ⟨h0, h1, h2, -⟩ := h T hok e
  rcases he with rfl | he
  · rw [Nat.sub_self, tlS] at h1
    have := congrArg List.length h1
    rw [List.length_drop, List.length_nil] at this
    exact ⟨h0, by omega, h2⟩
  · rw [he] at h0; cases h0
theorem RM2.up (h : RM2 l0 K F c i p1 T1 b1) (hi : i < c) {p2 : Nat} {v : kV} {b2 : Bool} (hs : ∀ (T : kV) (rest : List Nat), okV (K i) (F i) T → Q2 (K i) T (T1 i) → l0.drop p1 = tlF (K i) T ++ rest → b2 = false ∧ l0.drop p2 = rest ∧ v = T) : RM2 l0 K F c (i + 1) p2 (va_up T1 i v) b2 := fun T hok e => by
  obtain ⟨h0, h1, h2, h3⟩ := h T hok e
  rw [show c - i = (c - (i + 1)) + 1 by omega, tlS] at h1
  obtain ⟨g1, g2, g3⟩ := hs (T i) _ (hok i hi) (h3 i (Nat.le_refl _) hi) h1
  refine ⟨g1, g2, fun j hj => ?_, fun j hj hj2 => ?_⟩
  · by_cases ej : j = i
    · subst ej; rw [va_up_self]; exact g3
    · rw [va_up_ne _ _ ej]; exact h2 j (by omega)
  · rw [va_up_ne _ _ (by omega)]
    exact h3 j (by omega) hj2
theorem va_up_id (T : Nat → kV) (i : Nat) : va_up T i (T i) = T := by
  funext j
  by_cases e : j = i
  · subst e; exact va_up_self _ _ _
  · exact va_up_ne _ _ e
theorem RM2.m (h : RM2 l0 K F c i p1 T1 false) (hi : i < c) (hm : (T1 i).1 = true) : RM2 l0 K F c (i + 1) p1 T1 false := by
  have := h.up hi (p2 := p1) (v := T1 i) (b2 := false) (fun T rest hok hq e => by
    have h4 := hq.m hm
    rw [tl_m (by rw [← h4]; exact hm), List.nil_append] at e
    exact ⟨rfl, e, h4⟩)
  rw [va_up_id] at this
  exact this
theorem RM2.k (h : RM2 l0 K F c i p1 T1 false) (hi : i < c) (hk4 : K i < 4) (hk1 : ¬ K i = 1) (hk3 : ¬ K i = 3) : RM2 l0 K F c (i + 1) p1 T1 false := by
  have := h.up hi (p2 := p1) (v := T1 i) (b2 := false) (fun T rest hok hq e => by
    have e0 : tlF (K i) T = [] := by rcases (show K i = 0 ∨ K i = 2 by omega) with g | g <;> rw [g]; exact tl_0; exact tl_2
    rw [e0, List.nil_append] at e
    exact ⟨rfl, e, hq.k hk1 hk3⟩)
  rw [va_up_id] at this
  exact this
theorem tl1e {v : kV} (hm : v.1 = false) : tlF 1 v = [v.2.2.1.toInt.toNat] := by unfold tlF; rw [hm]; rfl
theorem tl3e {v : kV} (hm : v.1 = false) : tlF 3 v = be 2 (v.2.2.1.toInt + 1000).toNat := by unfold tlF; rw [hm]; rfl
theorem RM2.n1 (h : RM2 l0 K F c i p1 T1 false) (hi : i < c) (hk : K i = 1) (hm : (T1 i).1 = false) (hp : p1 = l0.length) {p2 : Nat} {v : kV} : RM2 l0 K F c (i + 1) p2 (va_up T1 i v) true := h.up hi (fun T rest hok hq e => by
  rw [hk, tl1e (hq.p hm), List.drop_eq_nil_of_le (by omega)] at e
  cases e)
theorem RM2.bb1 (h : RM2 l0 K F c i p1 T1 false) (hi : i < c) (hk : K i = 1) (hm : (T1 i).1 = false) (hp : p1 < l0.length) (hn : (T1 i).2.2.1 + nI (tnB 0 (l0.getD p1 0)) < 0) {p2 : Nat} {v : kV} : RM2 l0 K F c (i + 1) p2 (va_up T1 i v) true := h.up hi (fun T rest hok hq e => by
  have hm2 := hq.p hm
  rw [hk] at e hq hok
  rw [tl1e hm2] at e
  obtain ⟨g1, g2, g3⟩ := dcons e
  obtain ⟨d, e', z, q1, q2, q3, q4⟩ := hq.d hm2
  have h4 : -(10 : Int) ^ 15 ≤ T.2.1.toInt ∧ T.2.1.toInt ≤ 10 ^ 15 ∧ 0 ≤ T.2.2.1.toInt ∧ T.2.2.1.toInt ≤ 9 := hok.2.2.2.1
  rw [tnB0, ← g2, ← nn_nI h4.2.2.1, q1] at hn
  rw [show (false, d, e', ([] : List Nat)).2.2.1 = e' from rfl, q3] at hn
  exact absurd hn (nI_pos (by omega)))
theorem RM2.s1 (h : RM2 l0 K F c i p1 T1 false) (hi : i < c) (hk : K i = 1) (hm : (T1 i).1 = false) (hp : p1 < l0.length) {r : Int64} (hr : ∀ z : Nat, (T1 i).2.2.1 + nI (tnB 0 (l0.getD p1 0)) = nI z → z < 2 ^ 31 → ∀ dv : Int, (T1 i).2.1.toInt * 10 ^ z = dv → -(10 : Int) ^ 15 ≤ dv → dv ≤ 10 ^ 15 → r.toInt = dv) (hx : (T1 i).2.2.2 = []) : RM2 l0 K F c (i + 1) (p1 + 1) (va_up T1 i ((T1 i).1, r, nI (tnB 0 (l0.getD p1 0)), (T1 i).2.2.2)) false := h.up hi (fun T rest hok hq e => by
  have hm2 := hq.p hm
  rw [hk] at e hq hok
  rw [tl1e hm2] at e
  obtain ⟨g1, g2, g3⟩ := dcons e
  obtain ⟨d, e', z, q1, q2, q3, q4⟩ := hq.d hm2
  have h4 : -(10 : Int) ^ 15 ≤ T.2.1.toInt ∧ T.2.1.toInt ≤ 10 ^ 15 ∧ 0 ≤ T.2.2.1.toInt ∧ T.2.2.1.toInt ≤ 9 := hok.2.2.2.1
  have en := nn_nI h4.2.2.1
  rw [tnB0, ← g2, ← en] at hr ⊢
  have h5 := hr z (by rw [q1]; exact q3) (by omega) T.2.1.toInt (by rw [q1]; exact q2) h4.1 h4.2.1
  have h6 : r = T.2.1 := Int64.toInt_inj.mp h5
  refine ⟨rfl, g3.symm, ?_⟩
  rw [hm, h6, hx]
  obtain ⟨m, b, cc, d'⟩ := T
  have h7 : d' = [] := hok.2.2.2.2 (by decide)
  have h8 : m = false := hm2
  rw [h7, h8])
theorem RM2.n3 (h : RM2 l0 K F c i p1 T1 false) (hi : i < c) (hk : K i = 3) (hm : (T1 i).1 = false) (hp : l0.length ≤ p1 + 1) {p2 : Nat} {v : kV} : RM2 l0 K F c (i + 1) p2 (va_up T1 i v) true := h.up hi (fun T rest hok hq e => by
  have := congrArg List.length e
  rw [hk, tl3e (hq.p hm), be2, List.length_drop] at this
  simp only [List.length_cons] at this
  omega)
theorem RM2.s3 (h : RM2 l0 K F c i p1 T1 false) (hi : i < c) (hk : K i = 3) (hm : (T1 i).1 = false) (hp : p1 + 1 < l0.length) (hx : (T1 i).2.2.2 = []) {f : Int32} (hf : f = nI (tnB 0 (l0.getD p1 0)) * 256 + nI (tnB 0 (l0.getD (p1 + 1) 0)) - 1000) : RM2 l0 K F c (i + 1) (p1 + 1 + 1) (va_up T1 i ((T1 i).1, (T1 i).2.1, f, (T1 i).2.2.2)) false := h.up hi (fun T rest hok hq e => by
  have hm2 := hq.p hm
  rw [hk] at e hq hok
  rw [tl3e hm2] at e
  have q1 := hq.o hm2
  have h4 : -(2 : Int) ^ 40 ≤ T.2.1.toInt ∧ T.2.1.toInt ≤ 2 ^ 40 ∧ -900 ≤ T.2.2.1.toInt ∧ T.2.2.1.toInt ≤ 900 := hok.2.2.2.1
  have hO : OfC l0 p1 3 T.2.1 (@decide _ (Classical.propDecidable (okN 3 T.2.1 (nI (tnB 0 (l0.getD p1 0)) * 256 + nI (tnB 0 (l0.getD (p1 + 1) 0)) - 1000)))) (p1 + 1 + 1) _ := OfC.fin (@decide_eq_true_iff _ (Classical.propDecidable _))
  obtain ⟨-, g2, g3⟩ := hO T.2.2.1 rest e h4.2.2.1 h4.2.2.2 hok.2.2.2.1
  have g4 : nI (tnB 0 (l0.getD p1 0)) * 256 + nI (tnB 0 (l0.getD (p1 + 1) 0)) - 1000 = T.2.2.1 := congrArg (fun q : kV => q.2.2.1) g3
  refine ⟨rfl, g2, ?_⟩
  rw [hf, g4, q1]
  obtain ⟨m, b, cc, d'⟩ := T
  have h7 : d' = [] := hok.2.2.2.2 (by decide)
  have h8 : m = false := hm2
  rw [h7, h8])
end
theorem okT_of {K F : Nat → Nat} {c u : Nat} {T : Nat → kV} {va : Nat → Int64} {fo go si te : Nat → Int32} (hV : TR va fo go si te u c T) (hP : ∀ j, j < c → P2 (K j) (F j) (T j)) (hN : ∀ i, i < c → (T i).1 = false → ¬ K i = 2 → okN (K i) (T i).2.1 (T i).2.2.1) : okT K F T c := fun i hi => by
  have g := hV i hi
  rcases bo_cases (T i) with hm | hm
  · have p := (hP i hi).1 hm
    have := okV_m (k := K i) (fl := F i) (v := T i) ⟨fun _ => p, (fun q => by rw [hm] at q; cases q)⟩ hm
    exact this
  · have p := (hP i hi).2 hm
    refine ⟨g.2.2.2.2.1, g.2.2.2.2.2.1, (fun q => by rw [hm] at q; cases q), ?_, p.2⟩
    by_cases h2 : K i = 2
    · rw [h2]; exact p.1 h2
    · exact hN i hi hm h2
theorem f3 (x y : Nat) : nI (256 * x + y) - 1000 = nI x * 256 + nI y - 1000 := by
  have e : nI x * 256 + nI y = nI (x * 256 + y) := ni_add (ni_mul rfl rfl) rfl
  rw [e, Nat.mul_comm]
theorem TR.up {va va1 : Nat → Int64} {fo go si te fo1 : Nat → Int32} {u c g : Nat} {T : Nat → kV} {v : kV} (h : TR va fo go si te u c T) (hv : VR va1 fo1 go si te (5 * u + g) v) (hne : ∀ p, p ≠ 5 * u + g → va1 p = va p ∧ fo1 p = fo p) : TR va1 fo1 go si te u c (va_up T g v) := fun j hj => by
  by_cases e : j = g
  · subst e; rw [va_up_self]; exact hv
  · rw [va_up_ne _ _ e]
    obtain ⟨g1, g2, g3⟩ := h j hj
    have := hne (5 * u + j) (by omega)
    exact ⟨this.1.trans g1, this.2.trans g2, g3⟩
theorem P2.up {K F : Nat → Nat} {c g : Nat} {T : Nat → kV} (h : ∀ j, j < c → P2 (K j) (F j) (T j)) (hg : g < c) (hm : (T g).1 = false) (hk : K g ≠ 2) (z : Int64) (f : Int32) : ∀ j, j < c → P2 (K j) (F j) (va_up T g ((T g).1, z, f, (T g).2.2.2) j) := fun j hj => by
  by_cases e : j = g
  · subst e
    rw [va_up_self]
    exact ⟨(fun q => by rw [show ((T j).1, z, f, (T j).2.2.2).1 = (T j).1 from rfl, hm] at q; cases q), fun _ => ⟨fun q => absurd q hk, fun _ => ((h j hj).2 hm).2 hk⟩⟩
  · rw [va_up_ne _ _ e]; exact h j hj
