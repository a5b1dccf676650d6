/-! decimals in order: whole parts, then the rest -/
theorem td_abs (a b : Int) : (a.tdiv b).natAbs ≤ a.natAbs := by
  rw [Int.natAbs_tdiv]
  exact Nat.div_le_self _ _
theorem l_div {a b : Int64} (h1 : -(10 : Int) ^ 15 ≤ a.toInt) (h2 : a.toInt ≤ 10 ^ 15) : (a / b).toInt = a.toInt.tdiv b.toInt := by
  have := td_abs a.toInt b.toInt
  rw [Int64.toInt_div]
  exact m64 (by omega) (by omega)
theorem l_mul {a b : Int64} (h1 : -(2 : Int) ^ 62 ≤ a.toInt * b.toInt) (h2 : a.toInt * b.toInt ≤ 2 ^ 62) : (a * b).toInt = a.toInt * b.toInt := by
  rw [Int64.toInt_mul]
  exact m64 (by omega) (by omega)
theorem l_sub {a b : Int64} (h1 : -(2 : Int) ^ 62 ≤ a.toInt - b.toInt) (h2 : a.toInt - b.toInt ≤ 2 ^ 62) : (a - b).toInt = a.toInt - b.toInt := by
  rw [Int64.toInt_sub]
  exact m64 (by omega) (by omega)
theorem fl_uniq {a b z : Int} (hb : 0 < b) (h1 : z * b ≤ a) (h2 : a < (z + 1) * b) : a / b = z := by
  have e1 := (Int.le_ediv_iff_mul_le hb).mpr h1
  have e2 := (Int.ediv_lt_iff_lt_mul hb).mpr h2
  omega
theorem fl_rem {a b : Int64} (h1 : -(10 : Int) ^ 15 ≤ a.toInt) (h2 : a.toInt ≤ 10 ^ 15) : (a - a / b * b).toInt = a.toInt.tmod b.toInt := by
  have e := Int.tmod_add_mul_tdiv a.toInt b.toInt
  have d := l_div (b := b) h1 h2
  have hm : (a.toInt.tmod b.toInt).natAbs ≤ a.toInt.natAbs := by
    rw [Int.natAbs_tmod]
    exact Nat.mod_le _ _
  have c : (a / b * b).toInt = a.toInt.tdiv b.toInt * b.toInt := by
    rw [← d]
    refine l_mul ?_ ?_ <;> rw [d, Int.mul_comm] <;> omega
  rw [l_sub (by rw [c, Int.mul_comm]; omega) (by rw [c, Int.mul_comm]; omega), c, Int.mul_comm]
  omega
theorem fl_1 {a b : Int64} (h1 : -(10 : Int) ^ 15 ≤ a.toInt) (h2 : a.toInt ≤ 10 ^ 15) (hb : 0 < b.toInt) (h : lg_cmp (a - a / b * b) 0 < 0) : (a / b - 1).toInt = a.toInt / b.toInt := by
  have hr : (a - a / b * b).toInt < 0 := Int64.lt_iff_toInt_lt.mp ((lg_cmp_lt _ _).mp h)
  rw [fl_rem h1 h2] at hr
  have e := Int.tmod_add_mul_tdiv a.toInt b.toInt
  have d := l_div (b := b) h1 h2
  have t := td_abs a.toInt b.toInt
  have hl := Int.lt_tmod_of_pos a.toInt hb
  have one : (1 : Int64).toInt = 1 := by decide
  rw [l_sub (by rw [d, one]; omega) (by rw [d, one]; omega), d, one]
  refine (fl_uniq hb ?_ ?_).symm
  · rw [Int.sub_mul, Int.mul_comm]; omega
  · rw [show a.toInt.tdiv b.toInt - 1 + 1 = a.toInt.tdiv b.toInt by omega, Int.mul_comm]; omega
theorem fl_0 {a b : Int64} (h1 : -(10 : Int) ^ 15 ≤ a.toInt) (h2 : a.toInt ≤ 10 ^ 15) (hb : 0 < b.toInt) (h : 0 ≤ lg_cmp (a - a / b * b) 0) : (a / b - 0).toInt = a.toInt / b.toInt := by
  have hr : ¬ (a - a / b * b).toInt < 0 := fun z => absurd ((lg_cmp_lt _ _).mpr (Int64.lt_iff_toInt_lt.mpr z)) (k2_nlt h)
  rw [fl_rem h1 h2] at hr
  have e := Int.tmod_add_mul_tdiv a.toInt b.toInt
  have d := l_div (b := b) h1 h2
  have hl := Int.tmod_lt_of_pos a.toInt hb
  rw [Int64.sub_zero, d]
  refine (fl_uniq hb ?_ ?_).symm
  · rw [Int.mul_comm]; omega
  · rw [Int.add_mul, Int.mul_comm]; omega
theorem ordI_mulp {a b c : Int} (hc : 0 < c) : ordI (a * c) (b * c) = ordI a b := by
  unfold ordI
  by_cases h : a < b
  · rw [if_pos h, if_pos (Int.mul_lt_mul_of_pos_right h hc)]
  · rw [if_neg h, if_neg (fun z => h (Int.lt_of_mul_lt_mul_right z (Int.le_of_lt hc)))]
    by_cases h2 : b < a
    · rw [if_pos h2, if_pos (Int.mul_lt_mul_of_pos_right h2 hc)]
    · rw [if_neg h2, if_neg (fun z => h2 (Int.lt_of_mul_lt_mul_right z (Int.le_of_lt hc)))]
theorem od_lt {a b P Q : Int} (hP : 0 < P) (hQ : 0 < Q) (h : a / P < b / Q) : a * Q < b * P := by
  have h1 := Int.lt_ediv_add_one_mul_self a hP
  have h2 : (b / Q) * Q ≤ b := Int.ediv_mul_le b (by omega)
  have h3 : a * Q < (a / P + 1) * P * Q := Int.mul_lt_mul_of_pos_right h1 hQ
  have h4 : (a / P + 1) * P * Q ≤ (b / Q) * P * Q := Int.mul_le_mul_of_nonneg_right (Int.mul_le_mul_of_nonneg_right (by omega) (Int.le_of_lt hP)) (Int.le_of_lt hQ)
  have h5 : (b / Q) * P * Q = (b / Q) * Q * P := by rw [Int.mul_assoc, Int.mul_comm P Q, ← Int.mul_assoc]
  have h6 : (b / Q) * Q * P ≤ b * P := Int.mul_le_mul_of_nonneg_right h2 (Int.le_of_lt hP)
  omega
theorem od_ne {a b P Q : Int} (hP : 0 < P) (hQ : 0 < Q) (h : ¬ a / P = b / Q) : ordI (a / P) (b / Q) = ordI (a * Q) (b * P) := by
  unfold ordI
  by_cases h1 : a / P < b / Q
  · rw [if_pos h1, if_pos (od_lt hP hQ h1)]
  · have h2 : b / Q < a / P := by omega
    have h3 := od_lt hQ hP h2
    rw [if_neg h1, if_pos h2, if_neg (by omega), if_pos h3]
theorem od_sub {x y z : Int} : ordI (x - z) (y - z) = ordI x y := by
  unfold ordI
  by_cases h : x < y
  · rw [if_pos h, if_pos (by omega)]
  · by_cases h2 : y < x
    · rw [if_neg h, if_pos h2, if_neg (by omega), if_pos (by omega)]
    · rw [if_neg h, if_neg h2, if_neg (by omega), if_neg (by omega)]
theorem od_eq {a b P Q U V N : Int} (hP : 0 < P) (hQ : 0 < Q) (hN : 0 < N) (hU : P * U = N) (hV : Q * V = N) (h : a / P = b / Q) : ordI ((a - a / P * P) * U) ((b - b / Q * Q) * V) = ordI (a * Q) (b * P) := by
  rw [← ordI_mulp (c := P * Q) (Int.mul_pos hP hQ)]
  have e1 : (a - a / P * P) * U * (P * Q) = (a * Q - a / P * (P * Q)) * N := by
    rw [← hU]
    calc (a - a / P * P) * U * (P * Q) = ((a - a / P * P) * Q) * (P * U) := by
          rw [Int.mul_assoc, Int.mul_assoc, show U * (P * Q) = Q * (P * U) by rw [← Int.mul_assoc, Int.mul_comm U P, Int.mul_comm]]
      _ = (a * Q - a / P * (P * Q)) * (P * U) := by rw [Int.sub_mul, Int.mul_assoc]
  have e2 : (b - b / Q * Q) * V * (P * Q) = (b * P - b / Q * (P * Q)) * N := by
    rw [← hV]
    calc (b - b / Q * Q) * V * (P * Q) = ((b - b / Q * Q) * P) * (Q * V) := by
          rw [Int.mul_assoc, Int.mul_assoc, show V * (P * Q) = P * (Q * V) by rw [Int.mul_comm Q V, ← Int.mul_assoc, ← Int.mul_assoc, Int.mul_comm V P]]
      _ = (b * P - b / Q * (P * Q)) * (Q * V) := by rw [Int.sub_mul, Int.mul_assoc, Int.mul_comm Q P]
  rw [e1, e2, ordI_mulp hN, h, od_sub]
theorem dv {X r : Int64} {P U : Nat} (hP : 0 < P) (hU : P * U = 10 ^ 9) (h1 : -(10 : Int) ^ 15 ≤ X.toInt) (h2 : X.toInt ≤ 10 ^ 15) (hr : r.toInt = X.toInt / (P : Int)) : ((X - r * lN P) * lN U).toInt = (X.toInt - X.toInt / (P : Int) * (P : Int)) * (U : Int) := by
  have hU0 : 0 < U := Nat.pos_of_ne_zero fun z => by rw [z] at hU; simp at hU
  have hPl : P ≤ 10 ^ 9 := by rw [← hU]; exact Nat.le_mul_of_pos_right P hU0
  have hUl : U ≤ 10 ^ 9 := by rw [← hU]; exact Nat.le_mul_of_pos_left U hP
  have tP : (lN P).toInt = (P : Int) := lN_T (by omega)
  have tU : (lN U).toInt = (U : Int) := lN_T (by omega)
  have e := Int.emod_add_mul_ediv X.toInt (P : Int)
  have e0 := Int.emod_nonneg X.toInt (show (P : Int) ≠ 0 by omega)
  have e1 := Int.emod_lt_of_pos X.toInt (show (0 : Int) < (P : Int) by omega)
  have c : (r * lN P).toInt = X.toInt / (P : Int) * (P : Int) := by
    rw [← hr, ← tP]
    refine l_mul ?_ ?_ <;> rw [hr, tP, Int.mul_comm] <;> omega
  have d : (X - r * lN P).toInt = X.toInt - X.toInt / (P : Int) * (P : Int) := by
    rw [← c]
    refine l_sub ?_ ?_ <;> rw [c, Int.mul_comm] <;> omega
  have m : X.toInt - X.toInt / (P : Int) * (P : Int) = X.toInt % (P : Int) := by rw [Int.mul_comm]; omega
  have b1 : 0 ≤ X.toInt % (P : Int) * (U : Int) := Int.mul_nonneg e0 (by omega)
  have b2 : X.toInt % (P : Int) * (U : Int) ≤ (P : Int) * (U : Int) := Int.mul_le_mul_of_nonneg_right (Int.le_of_lt e1) (by omega)
  have b3 : (P : Int) * (U : Int) = 10 ^ 9 := by rw [← Int.natCast_mul, hU]; rfl
  rw [← d, ← tU]
  refine l_mul ?_ ?_ <;> rw [d, tU, m] <;> omega
theorem y0 {y : Int64} (h : 0 < y.toInt) : ¬ y = 0 := fun z => by rw [z] at h; exact absurd h (by decide)
theorem p10_U {s : Nat} (h : s ≤ 9) : 10 ^ s * 10 ^ (9 - s) = 10 ^ 9 := by rw [← Nat.pow_add]; congr 1; omega
theorem p10_D {s : Nat} (h : s ≤ 9) : 10 ^ 9 / 10 ^ s = 10 ^ (9 - s) := Nat.pow_div h (by decide)
theorem cp (s : Nat) : ((10 ^ s : Nat) : Int) = (10 : Int) ^ s := by rw [Int.natCast_pow]; rfl
theorem od_1 {X Y r1 r2 : Int64} {s t : Nat} (h1 : r1.toInt = X.toInt / ((10 ^ s : Nat) : Int)) (h2 : r2.toInt = Y.toInt / ((10 ^ t : Nat) : Int)) (h : ¬ lg_cmp r1 r2 = 0) : ordI r1.toInt r2.toInt = ordI (X.toInt * 10 ^ t) (Y.toInt * 10 ^ s) := by
  have hp := p10_pos s
  have hq := p10_pos t
  rw [h1, h2, od_ne (by omega) (by omega) (fun z => h ((lg_cmp_eq r1 r2).mpr (Int64.toInt_inj.mp (by rw [h1, h2, z])))), cp, cp]
theorem od_2 {X Y r1 r2 : Int64} {s t : Nat} (hs : s ≤ 9) (ht : t ≤ 9) (a1 : -(10 : Int) ^ 15 ≤ X.toInt) (a2 : X.toInt ≤ 10 ^ 15) (b1 : -(10 : Int) ^ 15 ≤ Y.toInt) (b2 : Y.toInt ≤ 10 ^ 15) (h1 : r1.toInt = X.toInt / ((10 ^ s : Nat) : Int)) (h2 : r2.toInt = Y.toInt / ((10 ^ t : Nat) : Int)) (h : lg_cmp r1 r2 = 0) : ordI ((X - r1 * lN (10 ^ s)) * lN (10 ^ (9 - s))).toInt ((Y - r2 * lN (10 ^ t)) * lN (10 ^ (9 - t))).toInt = ordI (X.toInt * 10 ^ t) (Y.toInt * 10 ^ s) := by
  have hp := p10_pos s
  have hq := p10_pos t
  have e : r1.toInt = r2.toInt := by rw [(lg_cmp_eq r1 r2).mp h]
  rw [dv hp (p10_U hs) a1 a2 h1, dv hq (p10_U ht) b1 b2 h2, od_eq (N := 10 ^ 9) (by omega) (by omega) (by decide) (by rw [← Int.natCast_mul, p10_U hs]; rfl) (by rw [← Int.natCast_mul, p10_U ht]; rfl) (by rw [← h1, ← h2, e]), cp, cp]
theorem nine_d {s : Nat} (hs : s ≤ 9) : (1000000000 : Int64) / lN (10 ^ s) = lN (10 ^ (9 - s)) := by
  have e : (1000000000 : Int64) = lN (10 ^ 9) := by decide
  rw [e, pk_lDiv (by decide) (p10_pos s) (p10_lt (by omega)), p10_D hs]
theorem fLa_d : ∀ fl, fl < 8 → (nI fl &&& 4 = 0 → fLa fl = false) ∧ (¬ nI fl &&& 4 = 0 → fLa fl = true) := by decide
theorem fDn_d : ∀ fl, fl < 8 → (nI fl &&& 1 = 0 → fDn fl = false) ∧ (¬ nI fl &&& 1 = 0 → fDn fl = true) := by decide
theorem ordI_val (a b : Int) : ordI a b = -1 ∨ ordI a b = 0 ∨ ordI a b = 1 := by
  unfold ordI
  split
  · exact Or.inl rfl
  · split
    · exact Or.inr (Or.inr rfl)
    · exact Or.inr (Or.inl rfl)
theorem ordV_val (k : Nat) (a b : kV) : ordV k a b = -1 ∨ ordV k a b = 0 ∨ ordV k a b = 1 := by
  unfold ordV
  split
  · exact ordI_val _ _
  · split
    · exact cmpB_val _ _
    · exact ordI_val _ _
theorem ov_1 {k : Nat} {a b : kV} (h : k = 1) : ordV k a b = ordI (a.2.1.toInt * 10 ^ b.2.2.1.toInt.toNat) (b.2.1.toInt * 10 ^ a.2.2.1.toInt.toNat) := by unfold ordV; rw [if_pos h]
theorem ov_2 {k : Nat} {a b : kV} (h : k = 2) : ordV k a b = cmpB a.2.2.2 b.2.2.2 := by unfold ordV; rw [if_neg (by omega), if_pos h]
theorem ov_0 {k : Nat} {a b : kV} (h : ¬ k = 1) (h2 : ¬ k = 2) : ordV k a b = ordI a.2.1.toInt b.2.1.toInt := by unfold ordV; rw [if_neg h, if_neg h2]
theorem of_n {k fl : Nat} {a b : kV} (ha : a.1 = false) (hb : b.1 = false) (hd : fDn fl = false) : ordF k fl a b = ordV k a b := by
  unfold ordF
  rw [if_neg (by rw [ha, hb]; decide), hd]
  exact if_neg (by decide)
theorem of_d2 {k fl : Nat} {a b : kV} (ha : a.1 = false) (hb : b.1 = false) (hd : fDn fl = true) : 0 - Int32.ofInt (ordV k a b) = Int32.ofInt (ordF k fl a b) := by
  have e : ordF k fl a b = 0 - ordV k a b := by
    unfold ordF
    rw [if_neg (by rw [ha, hb]; decide), hd]
    exact if_pos rfl
  rw [e]
  rcases ordV_val k a b with h | h | h <;> rw [h] <;> decide
theorem ordF_val (k fl : Nat) (a b : kV) : ordF k fl a b = -1 ∨ ordF k fl a b = 0 ∨ ordF k fl a b = 1 := by
  unfold ordF
  split
  · cases a.1 <;> cases b.1 <;> cases fLa fl <;> simp
  · have := ordV_val k a b
    split <;> omega
theorem oF_0 {k fl : Nat} {a b : kV} : Int32.ofInt (ordF k fl a b) = 0 ↔ ordF k fl a b = 0 := by
  rcases ordF_val k fl a b with h | h | h <;> rw [h] <;> decide
theorem ordT_stop {K F : Nat → Nat} {a b : Nat → kV} {i : Nat} (h0 : ordT K F a b i = 0) (h : ¬ ordF (K i) (F i) (a i) (b i) = 0) : ∀ {c : Nat}, i < c → ordT K F a b c = ordF (K i) (F i) (a i) (b i)
  | 0, hc => absurd hc (Nat.not_lt_zero i)
  | c + 1, hc => by
    by_cases e : i = c
    · subst e; rw [ordT, if_pos h0]
    · have q := ordT_stop h0 h (c := c) (by omega)
      rw [ordT, q, if_neg h]
theorem ordT_s {K F : Nat → Nat} {a b : Nat → kV} {i : Nat} (h0 : ordT K F a b i = 0) (h : ordF (K i) (F i) (a i) (b i) = 0) : ordT K F a b (i + 1) = 0 := by rw [ordT, if_pos h0, h]
