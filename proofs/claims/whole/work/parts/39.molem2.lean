/-! saying fields, tails, keys -/
theorem ef_m {k fl : Nat} {v : kV} (ho : fOp fl = true) (hm : v.1 = true) : encF k fl v = [mkA fl] := by unfold encF; rw [if_pos ho, hm]; rfl
theorem ef_o {k fl g : Nat} {v : kV} (ho : fOp fl = true) (hm : v.1 = false) (hg : tnF fl = g) (l : List Nat) : l ++ encF k fl v = (l ++ [1]) ++ (encV k v).map (tnB g) := by
  rw [encF_o hm ho, hg, List.append_assoc]
  rfl
theorem ef_n {k fl g : Nat} {v : kV} (ho : fOp fl = false) (hm : v.1 = false) (hg : tnF fl = g) (l : List Nat) : l ++ encF k fl v = l ++ (encV k v).map (tnB g) := by rw [encF_n hm ho, hg]
theorem tlB_len2 (K : Nat → Nat) (T : Nat → kV) : ∀ i : Nat, (tlB K T i).length ≤ 2 * i
  | 0 => Nat.le_refl _
  | i + 1 => by
    have h := tlB_len2 K T i
    have h2 : (tlF (K i) (T i)).length ≤ 2 := by
      unfold tlF
      split
      · simp
      · split
        · simp
        · split
          · rw [be_len]; exact Nat.le_refl _
          · simp
    rw [tlB, List.length_append]
    omega
theorem tf_1 {v : kV} (hm : v.1 = false) : tlF 1 v = [v.2.2.1.toInt.toNat] := by unfold tlF; rw [hm]; rfl
theorem of_e {y : Int32} (h0 : -900 ≤ y.toInt) (h9 : y.toInt ≤ 900) : 1000 + y = nI (y.toInt + 1000).toNat := by
  have e1 : (1000 + y).toInt = y.toInt + 1000 := by
    rw [Int32.toInt_add]
    have : (1000 : Int32).toInt = 1000 := by decide
    rw [this, Int.bmod_eq_of_le (by simp; omega) (by simp; omega)]
    omega
  have := nn_nI (f := 1000 + y) (by omega)
  rw [this, e1]
theorem of_d {y : Int32} (h0 : -900 ≤ y.toInt) (h9 : y.toInt ≤ 900) : (1000 + y) / 256 = nI ((y.toInt + 1000).toNat / 256) := by
  rw [of_e h0 h9]
  exact pk_div (by omega) (by decide) (by decide)
theorem of_r {y : Int32} (h0 : -900 ≤ y.toInt) (h9 : y.toInt ≤ 900) : 1000 + y - (1000 + y) / 256 * 256 = nI ((y.toInt + 1000).toNat % 256) := by
  rw [of_e h0 h9]
  exact pk_rem (by omega) (by decide) (by decide)
theorem tf_3 {v : kV} (hm : v.1 = false) (h0 : -900 ≤ v.2.2.1.toInt) (h9 : v.2.2.1.toInt ≤ 900) : tlF 3 v = [(v.2.2.1.toInt + 1000).toNat / 256] ++ [(v.2.2.1.toInt + 1000).toNat % 256] := by
  unfold tlF
  rw [hm]
  show [_, _] = [_, _]
  have h1 : (v.2.2.1.toInt + 1000).toNat / 256 ^ 1 % 256 = (v.2.2.1.toInt + 1000).toNat / 256 := by
    rw [Nat.pow_one]
    omega
  have h2 : (v.2.2.1.toInt + 1000).toNat / 256 ^ 0 % 256 = (v.2.2.1.toInt + 1000).toNat % 256 := by
    rw [Nat.pow_zero, Nat.div_one]
  rw [h1, h2]
/-- the lengths of the first fields, where ends are kept -/
def EnR (K F : Nat → Nat) (T : Nat → kV) (o i : Nat) (e0 e1 : Nat → Int32) : Prop := (∀ j, j ≤ i → e1 (6 * o + j) = nI (fldB K F T j).length) ∧ ∀ p, (p < 6 * o ∨ 6 * o + 6 ≤ p) → e1 p = e0 p
theorem EnR.s {K F : Nat → Nat} {T : Nat → kV} {o i : Nat} {e0 e1 : Nat → Int32} (h : EnR K F T o i e0 e1) (hi : i < 5) : EnR K F T o (i + 1) e0 (upd e1 (6 * o + i + 1) (nI (fldB K F T (i + 1)).length)) := by
  refine ⟨fun j hj => ?_, fun p hp => ?_⟩
  · by_cases e : j = i + 1
    · subst e; rw [show 6 * o + (i + 1) = 6 * o + i + 1 by omega, pk_us]
    · rw [pk_un (by omega)]; exact h.1 j (by omega)
  · rw [pk_un (by omega)]; exact h.2 p hp
theorem EnR.z {K F : Nat → Nat} {T : Nat → kV} {o : Nat} {e0 : Nat → Int32} : EnR K F T o 0 e0 (upd e0 (6 * o) 0) := by
  refine ⟨fun j hj => ?_, fun p hp => ?_⟩
  · rw [show 6 * o + j = 6 * o by omega, pk_us, show j = 0 by omega]; rfl
  · rw [pk_un (by omega)]
