/-! forms and fields read -/
def FmC (l0 : List Nat) (p k fl : Nat) (pe : Int32) (v0 : kV) (ok : Bool) (p1 : Nat) (v1 : kV) : Prop := (ok = true → P1 k fl v0 → v0.1 = false → okV k fl v1) ∧ ∀ (v : kV) (rest : List Nat), okV k fl v → v.1 = false → Q1 k v v0 pe → l0.drop p = tlF k v ++ rest → ok = true ∧ l0.drop p1 = rest ∧ v1 = v
theorem ok_of {k fl : Nat} {z : Int64} {f : Int32} (h : okN k z f) : okV k fl (false, z, f, []) := ⟨Nat.zero_le _, (fun b hb => by cases hb), (fun q => by cases q), h, fun _ => rfl⟩
theorem FmC.scale {l0 : List Nat} {p fl : Nat} {pe : Int32} {v0 : kV} {ok : Bool} {p1 : Nat} {v1 : kV} (h1 : ok = true → ∃ (z : Int64) (f : Int32), v1 = (false, z, f, []) ∧ okN 1 z f) (h2 : ScC l0 p 1 pe v0.2.1 ok p1 v1) : FmC l0 p 1 fl pe v0 ok p1 v1 := by
  refine ⟨fun h _ _ => ?_, fun v rest hok hm hq e => ?_⟩
  · obtain ⟨z, f, rfl, h3⟩ := h1 h
    exact ok_of h3
  · unfold Q1 at hq
    rw [if_neg (by rw [hm]; decide), if_pos rfl] at hq
    obtain ⟨d, z, rfl, g1, g2, g3⟩ := hq
    have h4 : -(10 : Int) ^ 15 ≤ v.2.1.toInt ∧ v.2.1.toInt ≤ 10 ^ 15 ∧ 0 ≤ v.2.2.1.toInt ∧ v.2.2.1.toInt ≤ 9 := hok.2.2.2.1
    have e0 : tlF 1 v = [v.2.2.1.toInt.toNat] := by unfold tlF; rw [hm]; rfl
    rw [e0] at e
    have en := nn_nI h4.2.2.1
    obtain ⟨q1, q2, q3⟩ := h2 _ rest z v.2.1 e (by rw [← en]; exact g2) g3 g1 (by rw [← en]; exact hok.2.2.2.1) h4.1 h4.2.1
    refine ⟨q1, q2, ?_⟩
    rw [q3, ← en]
    obtain ⟨m, b, c, d'⟩ := v
    have h5 : d' = [] := hok.2.2.2.2 (by decide)
    have hm : m = false := hm
    rw [h5, hm]
theorem FmC.off {l0 : List Nat} {p fl : Nat} {pe : Int32} {v0 : kV} {ok : Bool} {p1 : Nat} {v1 : kV} (h1 : ok = true → ∃ (f : Int32), v1 = (false, v0.2.1, f, []) ∧ okN 3 v0.2.1 f) (h2 : OfC l0 p 3 v0.2.1 ok p1 v1) : FmC l0 p 3 fl pe v0 ok p1 v1 := by
  refine ⟨fun h _ _ => ?_, fun v rest hok hm hq e => ?_⟩
  · obtain ⟨f, rfl, h3⟩ := h1 h
    exact ok_of h3
  · unfold Q1 at hq
    rw [if_neg (by rw [hm]; decide), if_neg (by decide), if_pos rfl] at hq
    subst hq
    have h4 : -(2 : Int) ^ 40 ≤ v.2.1.toInt ∧ v.2.1.toInt ≤ 2 ^ 40 ∧ -900 ≤ v.2.2.1.toInt ∧ v.2.2.1.toInt ≤ 900 := hok.2.2.2.1
    have e0 : tlF 3 v = be 2 (v.2.2.1.toInt + 1000).toNat := by unfold tlF; rw [hm]; rfl
    rw [e0] at e
    obtain ⟨q1, q2, q3⟩ := h2 v.2.2.1 rest e h4.2.2.1 h4.2.2.2 hok.2.2.2.1
    refine ⟨q1, q2, ?_⟩
    rw [q3]
    obtain ⟨m, b, c, d'⟩ := v
    have h5 : d' = [] := hok.2.2.2.2 (by decide)
    have hm : m = false := hm
    rw [h5, hm]
theorem FmC.els {l0 : List Nat} {p k fl : Nat} {pe : Int32} {v0 : kV} (hk4 : k < 4) (hk1 : ¬ k = 1) (hk3 : ¬ k = 3) : FmC l0 p k fl pe v0 true p v0 := by
  refine ⟨fun _ hp hm => ?_, fun v rest hok hm hq e => ?_⟩
  · have h := hp.2 hm
    refine ⟨h.2.1, h.2.2.1, (fun q => by rw [hm] at q; cases q), ?_, h.2.2.2.2⟩
    unfold okN
    rcases (show k = 0 ∨ k = 2 by omega) with rfl | rfl
    · exact h.1
    · exact ⟨h.2.2.2.1 rfl, h.1⟩
  · unfold Q1 at hq
    rw [if_neg (by rw [hm]; decide), if_neg hk1, if_neg hk3] at hq
    have e0 : tlF k v = [] := by rcases (show k = 0 ∨ k = 2 by omega) with rfl | rfl; exact tl_0; exact tl_2
    rw [e0] at e
    exact ⟨rfl, e, hq⟩
def FdC (l0 : List Nat) (p k fl : Nat) (ok : Bool) (p1 : Nat) (v1 : kV) (e : Int32) : Prop := (ok = true → P1 k fl v1) ∧ ∀ (v : kV) (rest : List Nat), okV k fl v → l0.drop p = encF k fl v ++ rest → ok = true ∧ l0.drop p1 = rest ∧ Q1 k v v1 e
def PosC (l0 : List Nat) (p k fl p' : Nat) : Prop := ∀ (v : kV) (rest : List Nat), okV k fl v → l0.drop p = encF k fl v ++ rest → v.1 = false ∧ l0.drop p' = (encV k v).map (tnB (tnF fl)) ++ rest
theorem bo_cases (v : kV) : v.1 = true ∨ v.1 = false := by cases v.1 <;> simp
theorem PosC.n {l0 : List Nat} {p k fl : Nat} (ho : fOp fl = false) : PosC l0 p k fl p := fun v rest hok e => by
  rcases bo_cases v with h | h
  · have := (hok.2.2.1 h).1
    rw [ho] at this
    cases this
  · rw [encF_n h ho] at e
    exact ⟨h, e⟩
theorem PosC.o {l0 : List Nat} {p k fl : Nat} (ho : fOp fl = true) (hx : tnB 0 (l0.getD p 0) = 1) : PosC l0 p k fl (p + 1) := fun v rest hok e => by
  rw [tnB0] at hx
  rcases bo_cases v with h | h
  · rw [encF_m h ho] at e
    obtain ⟨g1, g2, g3⟩ := dcons e
    exact absurd (g2.trans hx) (mk_ne1 fl)
  · rw [encF_o h ho] at e
    obtain ⟨g1, g2, g3⟩ := dcons e
    exact ⟨h, g3.symm⟩
theorem FdC.nil {l0 : List Nat} {p k fl p1 : Nat} {v1 : kV} {e : Int32} (ho : fOp fl = true) (h : l0.length ≤ p) : FdC l0 p k fl false p1 v1 e := ⟨(fun q => by cases q), fun v rest hok g => by
  rw [List.drop_eq_nil_of_le h] at g
  rcases bo_cases v with hm | hm
  · rw [encF_m hm ho] at g; cases g
  · rw [encF_o hm ho] at g; cases g⟩
theorem FdC.miss {l0 : List Nat} {p k fl : Nat} {e : Int32} (ho : fOp fl = true) (hx : tnB 0 (l0.getD p 0) = mkA fl) : FdC l0 p k fl true (p + 1) (true, 0, 0, []) e := ⟨fun _ => ⟨fun _ => ⟨ho, rfl⟩, (fun q => by cases q)⟩, fun v rest hok g => by
  rw [tnB0] at hx
  rcases bo_cases v with hm | hm
  · rw [encF_m hm ho] at g
    obtain ⟨g1, g2, g3⟩ := dcons g
    refine ⟨rfl, g3.symm, ?_⟩
    unfold Q1
    rw [if_pos hm, v_miss hok hm]
  · rw [encF_o hm ho] at g
    obtain ⟨g1, g2, g3⟩ := dcons g
    exact absurd (hx.symm.trans g2.symm) (mk_ne1 fl)⟩
theorem FdC.bad {l0 : List Nat} {p k fl p1 : Nat} {v1 : kV} {e : Int32} (ho : fOp fl = true) (hx : ¬ tnB 0 (l0.getD p 0) = mkA fl) (hx1 : ¬ tnB 0 (l0.getD p 0) = 1) : FdC l0 p k fl false p1 v1 e := ⟨(fun q => by cases q), fun v rest hok g => by
  rw [tnB0] at hx hx1
  rcases bo_cases v with hm | hm
  · rw [encF_m hm ho] at g
    obtain ⟨g1, g2, g3⟩ := dcons g
    exact absurd g2.symm hx
  · rw [encF_o hm ho] at g
    obtain ⟨g1, g2, g3⟩ := dcons g
    exact absurd g2.symm hx1⟩
theorem FdC.int {l0 : List Nat} {p k fl p' p1 : Nat} {ok : Bool} {v1 : kV} {e : Int32} (hk : k = 0 ∨ k = 3) (hp : PosC l0 p k fl p') (h1 : ok = true → ∃ Nn : Nat, rdI (tnF fl) (l0.drop p') = some (Nn, l0.drop p1) ∧ v1 = (false, lN Nn, 0, [])) (h2 : ok = false → rdI (tnF fl) (l0.drop p') = none) : FdC l0 p k fl ok p1 v1 e := by
  refine ⟨fun h => ?_, fun v rest hok g => ?_⟩
  · obtain ⟨Nn, -, rfl⟩ := h1 h
    exact ⟨(fun q => by cases q), fun _ => ⟨rfl, Nat.zero_le _, (fun b hb => by cases hb), (fun q => by omega), fun _ => rfl⟩⟩
  · obtain ⟨hm, e1⟩ := hp v rest hok g
    obtain ⟨Nn, e2, e3⟩ := q_int hk hm hok e1
    cases ok with
    | false => rw [h2 rfl] at e2; cases e2
    | true =>
      obtain ⟨N2, e4, rfl⟩ := h1 rfl
      rw [e4] at e2
      have e5 := Prod.mk.inj (Option.some.inj e2)
      refine ⟨rfl, e5.2, ?_⟩
      unfold Q1
      rw [if_neg (by rw [hm]; decide), if_neg (by omega), e5.1, e3]
      rcases hk with rfl | rfl
      · rw [if_neg (by decide)]
        exact (v_eq hm hok.2.2.2.1 (hok.2.2.2.2 (by decide))).symm
      · rw [if_pos rfl]
theorem FdC.text {l0 : List Nat} {p fl p' p1 : Nat} {ok : Bool} {v1 : kV} {e : Int32} (hb : ∀ x : List Nat, v1 = (false, 0, 0, x) → x.length ≤ 10 ∧ ∀ b ∈ x, b < 256) (hp : PosC l0 p 2 fl p') (h1 : ok = true → ∃ x : List Nat, rdT (tnF fl) 11 [] (l0.drop p') = some (x, l0.drop p1) ∧ v1 = (false, 0, 0, x)) (h2 : ok = false → rdT (tnF fl) 11 [] (l0.drop p') = none) : FdC l0 p 2 fl ok p1 v1 e := by
  refine ⟨fun h => ?_, fun v rest hok g => ?_⟩
  · obtain ⟨x, -, rfl⟩ := h1 h
    have := hb x rfl
    exact ⟨(fun q => by cases q), fun _ => ⟨rfl, this.1, this.2, (fun _ => rfl), fun q => absurd rfl q⟩⟩
  · obtain ⟨hm, e1⟩ := hp v rest hok g
    have e2 := q_text hok e1
    cases ok with
    | false => rw [h2 rfl] at e2; cases e2
    | true =>
      obtain ⟨x, e4, rfl⟩ := h1 rfl
      rw [e4] at e2
      have e5 := Prod.mk.inj (Option.some.inj e2)
      refine ⟨rfl, e5.2, ?_⟩
      unfold Q1
      rw [if_neg (by rw [hm]; decide), if_neg (by decide), if_neg (by decide), e5.1]
      have h4 : v.2.1 = 0 ∧ v.2.2.1 = 0 := hok.2.2.2.1
      obtain ⟨m, b, c, d⟩ := v
      have hm : m = false := hm
      have h5 : b = 0 := h4.1
      have h6 : c = 0 := h4.2
      rw [hm, h5, h6]
theorem FdC.dec {l0 : List Nat} {p fl p' p1 : Nat} {ok : Bool} {v1 : kV} {e : Int32} (hp : PosC l0 p 1 fl p') (h1 : ok = true → ∃ (d : Int64) (e' : Int32), rdD (tnF fl) (l0.drop p') = some (d, e', l0.drop p1) ∧ v1 = (false, d, 0, []) ∧ e = e') (h2 : ok = false → rdD (tnF fl) (l0.drop p') = none) : FdC l0 p 1 fl ok p1 v1 e := by
  refine ⟨fun h => ?_, fun v rest hok g => ?_⟩
  · obtain ⟨d, e', -, rfl, -⟩ := h1 h
    exact ⟨(fun q => by cases q), fun _ => ⟨rfl, Nat.zero_le _, (fun b hb => by cases hb), (fun q => by cases q), fun _ => rfl⟩⟩
  · obtain ⟨hm, e1⟩ := hp v rest hok g
    obtain ⟨d, e', z, e2, e3, e4, e5⟩ := q_dec (tnF_01 fl) hok e1
    cases ok with
    | false => rw [h2 rfl] at e2; cases e2
    | true =>
      obtain ⟨d2, e6, e7, rfl, e8⟩ := h1 rfl
      rw [e7] at e2
      have e9 := Prod.mk.inj (Option.some.inj e2)
      have e10 := Prod.mk.inj e9.2
      refine ⟨rfl, e10.2, ?_⟩
      unfold Q1
      rw [if_neg (by rw [hm]; decide), if_pos rfl]
      exact ⟨d2, z, rfl, by rw [e9.1]; exact e3, by rw [e8, e10.1]; exact e4, e5⟩
