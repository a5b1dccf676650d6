/-! reading what was made; looking values up -/
theorem wr0 {f : Nat → Int32} {l : List Nat} {i : Nat} (h : i < l.length) : wrL f (200 * 0) l i = nI (l.getD i 0) := by
  have e := wrL_in (f := f) (q := 200 * 0) h
  rw [show 200 * 0 + i = i by omega] at e
  exact e
theorem om_1 {f : Nat → Int32} {l r : List Nat} {i : Nat} (hl : l.length ≤ 200) (h : i < l.length) : wrL (wrL f (200 * 0) l) (200 * 1) r i = nI (l.getD i 0) := by
  rw [wrL_out (by omega), wr0 h]
theorem om_2 {f : Nat → Int32} {r : List Nat} {i : Nat} (h : i < r.length) : wrL f (200 * 1) r (200 + i) = nI (r.getD i 0) := by
  have e := wrL_in (f := f) (q := 200 * 1) h
  rw [show 200 * 1 + i = 200 + i by omega] at e
  exact e
theorem keyB_lt {K F : Nat → Nat} {T : Nat → kV} {c : Nat} (h : okT K F T c) : ∀ b ∈ keyB K F T c, b < 256 := by
  intro b hb
  rcases List.mem_append.mp hb with hb | hb
  · exact fldB_lt h b hb
  · exact tlB_lt h b hb
theorem keyB_l {K F : Nat → Nat} {T : Nat → kV} {c : Nat} (h : okT K F T c) (hc : c ≤ 5) : (keyB K F T c).length ≤ 115 := by
  have := keyB_len h
  unfold keyB
  rw [List.length_append]
  omega
theorem us01 {f : Nat → Int32} {a b : Int32} : upd (upd f 0 a) 1 b 0 = a := by rw [pk_un (by decide), pk_us]
theorem gt_1 {k : Nat} {v : kV} : gtV k v 1 = (if k = 2 then (nI v.2.2.2.length).toInt64 else v.2.1) := rfl
theorem gt_2 {k : Nat} {v : kV} : gtV k v 2 = v.2.2.1.toInt64 := rfl
theorem gt_0 {k : Nat} {v : kV} : gtV k v 0 = (if v.1 then 1 else 0) := rfl
theorem x12 {x : Int32} (h0 : ¬ x < 0) (h1 : ¬ x = 0) (h2 : x ≤ 2) : x = 1 ∨ x = 2 := by
  rcases gt_cases h0 with h | h | h | h
  · exact absurd h h1
  · exact Or.inl h
  · exact Or.inr h
  · exact absurd h2 (Int32.not_le.mpr h)
theorem x3 {x : Int32} {n : Nat} (h2 : 2 < x) (hn : n ≤ 10) (h : ¬ nI n ≤ x - 3) : ∃ q, q < n ∧ x = nI (q + 3) := by
  have e : x = (x - 3) + 3 := by rw [Int32.sub_add_cancel]
  have h2' := Int32.lt_iff_toInt_lt.mp h2
  have hx := Int32.toInt_lt x
  have e3 : (x - 3).toInt = x.toInt - 3 := by
    rw [Int32.toInt_sub]
    have t3 : (3 : Int32).toInt = 3 := by decide
    have t2 : (2 : Int32).toInt = 2 := by decide
    rw [t3, Int.bmod_eq_of_le (by simp; omega) (by simp; omega)]
  have h0 : ¬ x - 3 < 0 := fun z => by
    have := Int32.lt_iff_toInt_lt.mp z
    have t0 : (0 : Int32).toInt = 0 := by decide
    have t2 : (2 : Int32).toInt = 2 := by decide
    omega
  obtain ⟨q, hq, e2⟩ := row_ix h0 h (by omega)
  refine ⟨q, hq, ?_⟩
  rw [e, e2, ← nI_add]
  rfl
theorem x3s (q : Nat) : nI (q + 3) - 3 = nI q := ni_sub (b := 3) rfl rfl (by omega)
theorem x3b {q n : Nat} {l : List Nat} (hl : l.length = n) (h : q < n) (hn : n ≤ 10) : atB l (nI (q + 3) - 3) = nI (l.getD q 0) := by rw [x3s, atB_in (by omega) (by omega)]
theorem atB_nil (i : Int32) : atB [] i = -1 := by
  unfold atB
  rw [if_neg]
  rintro ⟨h1, h2⟩
  exact absurd (Int32.lt_of_le_of_lt h1 h2) (by decide)
