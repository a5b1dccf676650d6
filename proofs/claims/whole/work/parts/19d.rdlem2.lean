/-! what is read is what was written -/
theorem i_pow {k z s : Nat} (hz : z ≤ k) (hs : s ≤ 64) : nI (k + 64 - s) - 64 - nI (k - z) + nI s = nI z := by
  have e1 : nI (k + 64 - s) + nI s = nI (k + 64) := by rw [nI_add, show k + 64 - s + s = k + 64 by omega]
  rw [Int32.sub_eq_add_neg, Int32.sub_eq_add_neg, Int32.add_assoc, Int32.add_assoc, Int32.add_comm, Int32.add_assoc]
  have e2 : (-nI (k - z) + nI s + nI (k + 64 - s)) = nI (k + 64) - nI (k - z) := by
    rw [Int32.add_assoc, Int32.add_comm (nI s), e1, Int32.add_comm, ← Int32.sub_eq_add_neg]
  rw [e2, pk_sub (by omega), Int32.add_comm, ← Int32.sub_eq_add_neg, show (64 : Int32) = nI 64 from rfl, pk_sub (by omega)]
  congr 1
  omega
theorem rdFr_enc {t v s : Nat} {sg : Int32} (hv : v ≠ 0) (hv2 : v < 10 ^ 16) (hs : s ≤ 9) (rest : List Nat) : ∃ q z : Nat, rdFr t sg ((encP v s).map (tnB t) ++ rest) = some (sg.toInt64 * lN q, nI (plc v + 64 - s) - 64 - nI (plc v - z), rest) ∧ q * 10 ^ z = v ∧ z ≤ plc v := by
  have h16 := plc_le hv2
  have hz := zer_le (plc v) v
  obtain ⟨q, h1, h2⟩ := rdG_dgl (t := t) (plc v) 16 0 0 v rest (plc_lt v) (by omega)
  refine ⟨q, zer (plc v) v, ?_, by rw [h2]; omega, hz⟩
  unfold encP
  rw [List.map_cons, List.cons_append, rdFr, h1]
  simp only [Nat.zero_add]
  rw [tnB_inv (by omega)]
theorem rdD_enc {t s : Nat} {v : Int} (ht : t = 0 ∨ t = 255) (h1 : -(10 : Int) ^ 15 ≤ v) (h2 : v ≤ 10 ^ 15) (hs : s ≤ 9) (rest : List Nat) : ∃ (d : Int64) (e : Int32) (z : Nat), rdD t ((encD v s).map (tnB t) ++ rest) = some (d, e, rest) ∧ d.toInt * 10 ^ z = v ∧ e + nI s = nI z ∧ z ≤ 16 := by
  unfold encD
  by_cases h0 : v = 0
  · subst h0
    refine ⟨0, 0, s, ?_, by simp, by simp, by omega⟩
    rw [if_pos rfl]
    simp only [List.map_cons, List.map_nil, List.cons_append, List.nil_append, rdD]
    rw [tnB_inv (by decide), if_pos rfl]
  · rw [if_neg h0]
    by_cases hp : 0 < v
    · rw [if_pos hp, List.map_cons, List.cons_append, rdD, tnB_inv (by decide), if_neg (by decide), if_neg (by decide), if_pos rfl]
      have h16 := plc_le (u := v.toNat) (n := 16) (by omega)
      obtain ⟨q, z, e1, e2, e3⟩ := rdFr_enc (t := t) (v := v.toNat) (s := s) (sg := 1) (by omega) (by omega) hs rest
      have hq : q ≤ v.toNat := by rw [← e2]; exact Nat.le_mul_of_pos_right q (p10_pos z)
      refine ⟨_, _, z, e1, ?_, i_pow e3 (by omega), by omega⟩
      have e4 : (1 : Int32).toInt64 * lN q = lN q := by
        rw [show (1 : Int32).toInt64 = lN 1 from rfl, lN_mul, Nat.one_mul]
      rw [e4, lN_T (by omega)]
      have : ((q * 10 ^ z : Nat) : Int) = v := by rw [e2]; omega
      rw [← this, Int.natCast_mul, Int.natCast_pow]
      rfl
    · rw [if_neg hp, List.map_cons, List.cons_append, rdD, tnB_inv (by decide), if_neg (by decide), if_pos rfl, tn_255 ht (encP_lt (by omega))]
      have h16 := plc_le (u := (-v).toNat) (n := 16) (by omega)
      obtain ⟨q, z, e1, e2, e3⟩ := rdFr_enc (t := 255 - t) (v := (-v).toNat) (s := s) (sg := -1) (by omega) (by omega) hs rest
      have hq : q ≤ (-v).toNat := by rw [← e2]; exact Nat.le_mul_of_pos_right q (p10_pos z)
      refine ⟨_, _, z, e1, ?_, i_pow e3 (by omega), by omega⟩
      have e4 : ((-1 : Int32).toInt64 * lN q).toInt = -(q : Int) := by
        rw [show (-1 : Int32).toInt64 = -1 by decide, ← Int64.neg_eq_neg_one_mul, Int64.toInt_neg, lN_T (by omega), m64 (by omega) (by omega)]
      rw [e4]
      have : ((q * 10 ^ z : Nat) : Int) = -v := by rw [e2]; omega
      rw [Int.natCast_mul, Int.natCast_pow] at this
      rw [Int.neg_mul]
      have e5 : ((10 : Nat) : Int) ^ z = (10 : Int) ^ z := rfl
      rw [e5] at this
      omega
/-- as far as the fields are read, without forms -/
def P1 (k fl : Nat) (v : kV) : Prop := (v.1 = true → fOp fl = true ∧ v = (true, 0, 0, [])) ∧ (v.1 = false → v.2.2.1 = 0 ∧ v.2.2.2.length ≤ 10 ∧ (∀ b ∈ v.2.2.2, b < 256) ∧ (k = 2 → v.2.1 = 0) ∧ (k ≠ 2 → v.2.2.2 = []))
def Q1 (k : Nat) (v v1 : kV) (e : Int32) : Prop := if v.1 = true then v1 = v else if k = 1 then ∃ (d : Int64) (z : Nat), v1 = (false, d, 0, []) ∧ d.toInt * 10 ^ z = v.2.1.toInt ∧ e + v.2.2.1 = nI z ∧ z ≤ 16 else if k = 3 then v1 = (false, v.2.1, 0, []) else v1 = v
theorem dcons {l rest : List Nat} {p x : Nat} (h : l.drop p = x :: rest) : p < l.length ∧ x = l.getD p 0 ∧ rest = l.drop (p + 1) := by
  have hp : p < l.length := Nat.not_le.mp fun z => by rw [List.drop_eq_nil_of_le z] at h; cases h
  rw [dropD hp] at h
  exact ⟨hp, (List.cons.inj h).1.symm, (List.cons.inj h).2.symm⟩
/-- the mark of an optional field, and what is behind it -/
theorem encF_m {k fl : Nat} {v : kV} (h : v.1 = true) (ho : fOp fl = true) : encF k fl v = [mkA fl] := by unfold encF; rw [if_pos ho, if_pos h, if_pos h]; rfl
theorem encF_o {k fl : Nat} {v : kV} (h : v.1 = false) (ho : fOp fl = true) : encF k fl v = 1 :: (encV k v).map (tnB (tnF fl)) := by unfold encF; rw [if_pos ho, h]; rfl
theorem encF_n {k fl : Nat} {v : kV} (h : v.1 = false) (ho : fOp fl = false) : encF k fl v = (encV k v).map (tnB (tnF fl)) := by unfold encF; rw [ho, h]; rfl
theorem mk_ne1 (fl : Nat) : mkA fl ≠ 1 := by unfold mkA; split <;> decide
/-- an INT or an INSTANT read -/
theorem q_int {k fl t : Nat} {v : kV} {l : List Nat} {p : Nat} {rest : List Nat} (hk : k = 0 ∨ k = 3) (hm : v.1 = false) (hok : okV k fl v) (h : l.drop p = (encV k v).map (tnB t) ++ rest) : ∃ N, rdI t (l.drop p) = some (N, rest) ∧ lN N = v.2.1 := by
  have e : encV k v = encU (uL v.2.1) := by rcases hk with rfl | rfl <;> rfl
  rw [h, e]
  obtain ⟨N, h1, h2⟩ := rdI_enc (t := t) (uL_lt v.2.1) rest
  refine ⟨N, h1, ?_⟩
  rw [← lN_uL v.2.1]
  exact lN_mod (by rw [h2, Nat.mod_eq_of_lt (uL_lt _)])
theorem q_text {fl t : Nat} {v : kV} {l : List Nat} {p : Nat} {rest : List Nat} (hok : okV 2 fl v) (h : l.drop p = (encV 2 v).map (tnB t) ++ rest) : rdT t 11 [] (l.drop p) = some (v.2.2.2, rest) := by
  rw [h, ev_2]
  have := rdT_enc (t := t) v.2.2.2 [] rest 11 hok.2.1 (by have := hok.1; simp; omega) (by have := hok.1; omega)
  simpa using this
theorem q_dec {fl t : Nat} {v : kV} {l : List Nat} {p : Nat} {rest : List Nat} (ht : t = 0 ∨ t = 255) (hok : okV 1 fl v) (h : l.drop p = (encV 1 v).map (tnB t) ++ rest) : ∃ (d : Int64) (e : Int32) (z : Nat), rdD t (l.drop p) = some (d, e, rest) ∧ d.toInt * 10 ^ z = v.2.1.toInt ∧ e + v.2.2.1 = nI z ∧ z ≤ 16 := by
  have h4 := hok.2.2.2.1
  have h4 : -(10 : Int) ^ 15 ≤ v.2.1.toInt ∧ v.2.1.toInt ≤ 10 ^ 15 ∧ 0 ≤ v.2.2.1.toInt ∧ v.2.2.1.toInt ≤ 9 := h4
  rw [h, ev_1]
  obtain ⟨d, e, z, h1, h2, h3, h5⟩ := rdD_enc ht h4.1 h4.2.1 (s := v.2.2.1.toInt.toNat) (by omega) rest
  exact ⟨d, e, z, h1, h2, by rw [← nn_nI h4.2.2.1] at h3; exact h3, h5⟩
theorem v_eq {v : kV} (h1 : v.1 = false) (h2 : v.2.2.1 = 0) (h3 : v.2.2.2 = []) : v = (false, v.2.1, 0, []) := by
  obtain ⟨a, b, c, d⟩ := v
  simp at h1 h2 h3
  rw [h1, h2, h3]
theorem v_miss {k fl : Nat} {v : kV} (hok : okV k fl v) (h : v.1 = true) : v = (true, 0, 0, []) := by
  obtain ⟨a, b, c, d⟩ := v
  have := hok.2.2.1 h
  simp at this h
  rw [h, this.2.1, this.2.2.1, this.2.2.2]
