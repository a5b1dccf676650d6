/-! PURE: decimals: digits, places, their rows, their order -/
theorem p10_pos (n : Nat) : 0 < 10 ^ n := Nat.pow_pos (by decide)
theorem ordN_mul {a b c : Nat} (h : 0 < c) : ordN (a * c) (b * c) = ordN a b := by
  unfold ordN
  have e1 : (a * c < b * c) = (a < b) := propext (Nat.mul_lt_mul_right h)
  have e2 : (b * c < a * c) = (b < a) := propext (Nat.mul_lt_mul_right h)
  simp only [e1, e2]
theorem ordN_self (a : Nat) : ordN a a = 0 := by simp [ordN]
theorem ordN_lt {a b : Nat} (h : a < b) : ordN a b = -1 := by simp [ordN, h]
theorem ordN_gt {a b : Nat} (h : b < a) : ordN a b = 1 := by
  have h2 : ¬ a < b := by omega
  simp [ordN, h, h2]
/-- two-stage comparison: quotients first, then remainders (both below the same bound) -/
theorem ordN_split {q1 q2 r1 r2 P u v : Nat} (hu : u = P * q1 + r1) (hv : v = P * q2 + r2) (h1 : r1 < P) (h2 : r2 < P) : (if ordN q1 q2 = 0 then ordN r1 r2 else ordN q1 q2) = ordN u v := by
  subst hu
  subst hv
  by_cases h3 : q1 < q2
  · have : P * (q1 + 1) ≤ P * q2 := Nat.mul_le_mul_left P h3
    rw [Nat.mul_add] at this
    rw [ordN_lt h3, ordN_lt (show P * q1 + r1 < P * q2 + r2 by omega)]
    rfl
  · by_cases h4 : q2 < q1
    · have : P * (q2 + 1) ≤ P * q1 := Nat.mul_le_mul_left P h4
      rw [Nat.mul_add] at this
      rw [ordN_gt h4, ordN_gt (show P * q2 + r2 < P * q1 + r1 by omega)]
      rfl
    · have : q1 = q2 := by omega
      subst this
      rw [ordN_self, if_pos rfl]
      unfold ordN
      have e1 : (P * q1 + r1 < P * q1 + r2) = (r1 < r2) := propext ⟨fun _ => by omega, fun _ => by omega⟩
      have e2 : (P * q1 + r2 < P * q1 + r1) = (r2 < r1) := propext ⟨fun _ => by omega, fun _ => by omega⟩
      simp only [e1, e2]
/-- the digits of v < 10^k from the highest place on, each one more than it is, up to the last that isn't 0, then 0 -/
def dgl : Nat → Nat → List Nat
  | 0, _ => [0]
  | k + 1, v => if v = 0 then [0] else (v / 10 ^ k + 1) :: dgl k (v % 10 ^ k)
theorem dgl_0 (k : Nat) : dgl k 0 = [0] := by cases k <;> simp [dgl]
theorem dgl_s {k v : Nat} (h : v ≠ 0) : dgl (k + 1) v = (v / 10 ^ k + 1) :: dgl k (v % 10 ^ k) := by simp [dgl, h]
theorem dgl_lt : ∀ (k v : Nat), v < 10 ^ k → ∀ b ∈ dgl k v, b < 11
  | 0, _, _, b, h => by simp [dgl] at h; omega
  | k + 1, v, hv, b, h => by
    by_cases h0 : v = 0
    · subst h0; rw [dgl_0] at h; simp at h; omega
    · rw [dgl_s h0] at h
      have hp := p10_pos k
      have hd : v / 10 ^ k < 10 := (Nat.div_lt_iff_lt_mul hp).mpr (by rw [Nat.pow_succ] at hv; rw [Nat.mul_comm]; exact hv)
      rcases List.mem_cons.mp h with h | h
      · omega
      · exact dgl_lt k _ (Nat.mod_lt _ hp) b h
theorem dgl_len : ∀ (k v : Nat), (dgl k v).length ≤ k + 1
  | 0, _ => by simp [dgl]
  | k + 1, v => by
    by_cases h0 : v = 0
    · subst h0; rw [dgl_0]; simp
    · rw [dgl_s h0]
      have := dgl_len k (v % 10 ^ k)
      simp only [List.length_cons]
      omega
theorem dgl_df : ∀ (k1 k2 v1 v2 : Nat), v1 < 10 ^ k1 → v2 < 10 ^ k2 → Df (ordN (v1 * 10 ^ k2) (v2 * 10 ^ k1)) (dgl k1 v1) (dgl k2 v2) := by
  intro k1
  induction k1 with
  | zero =>
    intro k2 v1 v2 h1 h2
    have h0 : v1 = 0 := by simp at h1; omega
    subst h0
    rw [dgl_0]
    by_cases h3 : v2 = 0
    · subst h3; rw [dgl_0]; simp [ordN_self]; exact Df.rfl' _
    · cases k2 with
      | zero => simp at h2; omega
      | succ j =>
        rw [dgl_s h3]
        rw [ordN_lt (by simp; omega)]
        exact Df.lt (Nat.succ_pos _) _ _
  | succ i ih =>
    intro k2 v1 v2 h1 h2
    by_cases h0 : v1 = 0
    · subst h0
      rw [dgl_0]
      by_cases h3 : v2 = 0
      · subst h3; rw [dgl_0]; simp [ordN_self]; exact Df.rfl' _
      · cases k2 with
        | zero => simp at h2; omega
        | succ j =>
          rw [dgl_s h3]
          have := Nat.mul_pos (Nat.pos_of_ne_zero h3) (p10_pos (i + 1))
          rw [ordN_lt (by omega)]
          exact Df.lt (Nat.succ_pos _) _ _
    · rw [dgl_s h0]
      by_cases h3 : v2 = 0
      · subst h3
        rw [dgl_0]
        have := Nat.mul_pos (Nat.pos_of_ne_zero h0) (p10_pos k2)
        rw [ordN_gt (by omega)]
        exact Df.gt (Nat.succ_pos _) _ _
      · cases k2 with
        | zero => simp at h2; omega
        | succ j =>
          rw [dgl_s h3]
          have hi := p10_pos i
          have hj := p10_pos j
          have h := Df.cons2 (v1 / 10 ^ i + 1) (v2 / 10 ^ j + 1) (ih j (v1 % 10 ^ i) (v2 % 10 ^ j) (Nat.mod_lt _ hi) (Nat.mod_lt _ hj))
          have d1 := Nat.div_add_mod v1 (10 ^ i)
          have d2 := Nat.div_add_mod v2 (10 ^ j)
          have m1 := Nat.mod_lt v1 hi
          have m2 := Nat.mod_lt v2 hj
          have e : (if ordN (v1 / 10 ^ i + 1) (v2 / 10 ^ j + 1) = 0 then ordN (v1 % 10 ^ i * 10 ^ j) (v2 % 10 ^ j * 10 ^ i) else ordN (v1 / 10 ^ i + 1) (v2 / 10 ^ j + 1)) = ordN (v1 * 10 ^ (j + 1)) (v2 * 10 ^ (i + 1)) := by
            rw [Nat.pow_succ 10 j, Nat.pow_succ 10 i, ← Nat.mul_assoc, ← Nat.mul_assoc, ordN_mul (by decide)]
            generalize v1 / 10 ^ i = q1 at *
            generalize v2 / 10 ^ j = q2 at *
            generalize v1 % 10 ^ i = r1 at *
            generalize v2 % 10 ^ j = r2 at *
            generalize 10 ^ i = P at *
            generalize 10 ^ j = Q at *
            have e1 : ordN (q1 + 1) (q2 + 1) = ordN q1 q2 := by
              unfold ordN
              simp only [Nat.add_lt_add_iff_right]
            rw [e1]
            refine ordN_split (P := P * Q) ?_ ?_ ?_ ?_
            · rw [← d1, Nat.add_mul, Nat.mul_right_comm]
            · rw [← d2, Nat.add_mul, Nat.mul_right_comm, Nat.mul_comm Q P]
            · exact Nat.mul_lt_mul_of_pos_right m1 hj
            · rw [Nat.mul_comm P Q]; exact Nat.mul_lt_mul_of_pos_right m2 hi
          rw [e] at h
          exact h
/-- how many places a number has -/
def plc (v : Nat) : Nat := if v = 0 then 0 else plc (v / 10) + 1
termination_by v
decreasing_by exact Nat.div_lt_self (by omega) (by decide)
theorem plc_0 : plc 0 = 0 := by unfold plc; rfl
theorem plc_s {u : Nat} (h : u ≠ 0) : plc u = plc (u / 10) + 1 := by rw [plc]; simp [h]
theorem plc_lt (u : Nat) : u < 10 ^ plc u := by
  induction u using Nat.strongRecOn with
  | ind u ih =>
    by_cases h : u = 0
    · subst h; rw [plc_0]; decide
    · rw [plc_s h, Nat.pow_succ]
      have := ih (u / 10) (Nat.div_lt_self (by omega) (by decide))
      omega
theorem plc_ge {u n : Nat} (h : plc u = n + 1) : 10 ^ n ≤ u := by
  induction u using Nat.strongRecOn generalizing n with
  | ind u ih =>
    by_cases h0 : u = 0
    · subst h0; rw [plc_0] at h; cases h
    · rw [plc_s h0] at h
      have h1 : plc (u / 10) = n := by omega
      cases n with
      | zero => simp; omega
      | succ m =>
        have := ih (u / 10) (Nat.div_lt_self (by omega) (by decide)) h1
        rw [Nat.pow_succ]
        omega
theorem plc_le {u n : Nat} (h : u < 10 ^ n) : plc u ≤ n := by
  cases hk : plc u with
  | zero => omega
  | succ k =>
    have := plc_ge hk
    have h2 : 10 ^ k < 10 ^ n := Nat.lt_of_le_of_lt this h
    have := (Nat.pow_lt_pow_iff_right (a := 10) (by decide)).mp h2
    omega
theorem plc_pos {u : Nat} (h : u ≠ 0) : 0 < plc u := by rw [plc_s h]; omega
/-- a fraction above 0: exponent, digits -/
def encP (v s : Nat) : List Nat := (plc v + 64 - s) :: dgl (plc v) v
theorem encP_lt {v s : Nat} (hv : v < 10 ^ 16) : ∀ b ∈ encP v s, b < 256 := by
  intro b hb
  have := plc_le hv
  rcases List.mem_cons.mp hb with h | h
  · omega
  · have := dgl_lt _ _ (plc_lt v) b h
    omega
theorem encP_len {v s : Nat} (hv : v < 10 ^ 16) : (encP v s).length ≤ 18 := by
  have := plc_le hv
  have := dgl_len (plc v) v
  simp only [encP, List.length_cons]
  omega
theorem encP_df {v1 v2 s1 s2 : Nat} (h1 : v1 ≠ 0) (h2 : v2 ≠ 0) (hs1 : s1 ≤ 64) (hs2 : s2 ≤ 64) : Df (ordN (v1 * 10 ^ s2) (v2 * 10 ^ s1)) (encP v1 s1) (encP v2 s2) := by
  have p1 := plc_pos h1
  have p2 := plc_pos h2
  have key : ∀ {u1 u2 t1 t2 : Nat}, u1 ≠ 0 → u2 ≠ 0 → plc u1 + t2 < plc u2 + t1 → u1 * 10 ^ t2 < u2 * 10 ^ t1 := by
    intro u1 u2 t1 t2 g1 g2 h
    have a1 := plc_lt u1
    obtain ⟨k, hk⟩ : ∃ k, plc u2 = k + 1 := ⟨plc u2 - 1, by have := plc_pos g2; omega⟩
    have a2 := plc_ge hk
    calc u1 * 10 ^ t2 < 10 ^ plc u1 * 10 ^ t2 := Nat.mul_lt_mul_of_pos_right a1 (p10_pos _)
      _ = 10 ^ (plc u1 + t2) := by rw [Nat.pow_add]
      _ ≤ 10 ^ (k + t1) := Nat.pow_le_pow_right (by decide) (by omega)
      _ = 10 ^ k * 10 ^ t1 := by rw [Nat.pow_add]
      _ ≤ u2 * 10 ^ t1 := Nat.mul_le_mul_right _ a2
  unfold encP
  by_cases h3 : plc v1 + s2 < plc v2 + s1
  · rw [ordN_lt (key h1 h2 h3)]
    exact Df.lt (by omega) _ _
  · by_cases h4 : plc v2 + s1 < plc v1 + s2
    · rw [ordN_gt (key h2 h1 h4)]
      exact Df.gt (by omega) _ _
    · have e0 : plc v1 + 64 - s1 = plc v2 + 64 - s2 := by omega
      rw [e0]
      refine Df.cons _ ?_
      have h := dgl_df (plc v1) (plc v2) v1 v2 (plc_lt v1) (plc_lt v2)
      have e : ordN (v1 * 10 ^ plc v2) (v2 * 10 ^ plc v1) = ordN (v1 * 10 ^ s2) (v2 * 10 ^ s1) := by
        rcases Nat.le_total s1 s2 with hle | hle
        · obtain ⟨t, rfl⟩ : ∃ t, s2 = t + s1 := ⟨s2 - s1, by omega⟩
          have e1 : plc v2 = t + plc v1 := by omega
          rw [e1, Nat.pow_add 10 t, Nat.pow_add 10 t, ← Nat.mul_assoc, ← Nat.mul_assoc, ordN_mul (p10_pos _), ordN_mul (p10_pos _)]
        · obtain ⟨t, rfl⟩ : ∃ t, s1 = t + s2 := ⟨s1 - s2, by omega⟩
          have e1 : plc v1 = t + plc v2 := by omega
          rw [e1, Nat.pow_add 10 t, Nat.pow_add 10 t, ← Nat.mul_assoc, ← Nat.mul_assoc, ordN_mul (p10_pos _), ordN_mul (p10_pos _)]
      rw [e] at h
      exact h
/-- a DECIMAL's bytes -/
def encD (v : Int) (s : Nat) : List Nat := if v = 0 then [2] else if 0 < v then 3 :: encP v.toNat s else 1 :: (encP (-v).toNat s).map (tnB 255)
theorem ordI_neg (a b : Int) : ordI (-a) (-b) = - ordI a b := by
  unfold ordI
  by_cases h1 : a < b
  · rw [if_neg (by omega), if_pos (by omega), if_pos h1]; rfl
  · by_cases h2 : b < a
    · rw [if_pos (by omega), if_neg h1, if_pos h2]
    · rw [if_neg (by omega), if_neg (by omega), if_neg h1, if_neg h2]; rfl
theorem ordI_nat (a b : Nat) : ordI (a : Int) (b : Int) = ordN a b := by
  unfold ordI ordN
  simp only [Int.ofNat_lt]
theorem encD_lt {v : Int} {s : Nat} (h1 : -(10 : Int) ^ 15 ≤ v) (h2 : v ≤ 10 ^ 15) : ∀ b ∈ encD v s, b < 256 := by
  intro b hb
  unfold encD at hb
  split at hb
  · simp at hb; omega
  · split at hb
    · rcases List.mem_cons.mp hb with h | h
      · omega
      · exact encP_lt (by omega) b h
    · rcases List.mem_cons.mp hb with h | h
      · omega
      · obtain ⟨c, hc, rfl⟩ := List.mem_map.mp h
        exact tnB_lt (encP_lt (by omega) c hc)
theorem encD_len {v : Int} {s : Nat} (h1 : -(10 : Int) ^ 15 ≤ v) (h2 : v ≤ 10 ^ 15) : (encD v s).length ≤ 19 := by
  unfold encD
  split
  · simp
  · split
    · have := encP_len (v := v.toNat) (s := s) (by omega)
      simp only [List.length_cons]; omega
    · have := encP_len (v := (-v).toNat) (s := s) (by omega)
      simp only [List.length_cons, List.length_map]; omega
theorem encD_df {v1 v2 : Int} {s1 s2 : Nat} (a1 : -(10 : Int) ^ 15 ≤ v1) (b1 : v1 ≤ 10 ^ 15) (a2 : -(10 : Int) ^ 15 ≤ v2) (b2 : v2 ≤ 10 ^ 15) (hs1 : s1 ≤ 64) (hs2 : s2 ≤ 64) : Df (ordI (v1 * 10 ^ s2) (v2 * 10 ^ s1)) (encD v1 s1) (encD v2 s2) := by
  have q1 : (0 : Int) < 10 ^ s1 := Int.pow_pos (by decide)
  have q2 : (0 : Int) < 10 ^ s2 := Int.pow_pos (by decide)
  have c1 : ∀ n : Nat, ((10 ^ n : Nat) : Int) = (10 : Int) ^ n := fun n => by rw [Int.natCast_pow]; rfl
  have pos : ∀ {a b : Int} , 0 < a → 0 < b → 0 < a * b := fun ha hb => Int.mul_pos ha hb
  have neg : ∀ {a b : Int} , a < 0 → 0 < b → a * b < 0 := fun ha hb => Int.mul_neg_of_neg_of_pos ha hb
  have lt : ∀ {a b : Int}, a < b → ordI a b = -1 := fun h => by unfold ordI; rw [if_pos h]
  have gt : ∀ {a b : Int}, b < a → ordI a b = 1 := fun h => by unfold ordI; rw [if_neg (by omega), if_pos h]
  unfold encD
  by_cases z1 : v1 = 0
  · subst z1
    simp only [if_true, Int.zero_mul]
    by_cases z2 : v2 = 0
    · subst z2
      simp only [if_true, Int.zero_mul]
      exact Df.rfl' _
    · simp only [z2, if_false]
      by_cases g2 : 0 < v2
      · simp only [g2, if_true]
        rw [lt (pos g2 q1)]
        exact Df.lt (by decide) _ _
      · simp only [g2, if_false]
        rw [gt (neg (by omega) q1)]
        exact Df.gt (by decide) _ _
  · simp only [z1, if_false]
    by_cases g1 : 0 < v1
    · simp only [g1, if_true]
      by_cases z2 : v2 = 0
      · subst z2
        simp only [if_true, Int.zero_mul]
        rw [gt (pos g1 q2)]
        exact Df.gt (by decide) _ _
      · simp only [z2, if_false]
        by_cases g2 : 0 < v2
        · simp only [g2, if_true]
          refine Df.cons 3 ?_
          have h := encP_df (v1 := v1.toNat) (v2 := v2.toNat) (s1 := s1) (s2 := s2) (by omega) (by omega) hs1 hs2
          have e : ordI (v1 * 10 ^ s2) (v2 * 10 ^ s1) = ordN (v1.toNat * 10 ^ s2) (v2.toNat * 10 ^ s1) := by
            rw [← ordI_nat, Int.natCast_mul, Int.natCast_mul, c1, c1, Int.toNat_of_nonneg (by omega), Int.toNat_of_nonneg (by omega)]
          rw [e]
          exact h
        · simp only [g2, if_false]
          have := pos g1 q2
          have := neg (show v2 < 0 by omega) q1
          rw [gt (by omega)]
          exact Df.gt (by decide) _ _
    · simp only [g1, if_false]
      by_cases z2 : v2 = 0
      · subst z2
        simp only [if_true, Int.zero_mul]
        rw [lt (neg (by omega) q2)]
        exact Df.lt (by decide) _ _
      · simp only [z2, if_false]
        by_cases g2 : 0 < v2
        · simp only [g2, if_true]
          have := pos g2 q1
          have := neg (show v1 < 0 by omega) q2
          rw [lt (by omega)]
          exact Df.lt (by decide) _ _
        · simp only [g2, if_false]
          refine Df.cons 1 ?_
          have h := encP_df (v1 := (-v1).toNat) (v2 := (-v2).toNat) (s1 := s1) (s2 := s2) (by omega) (by omega) hs1 hs2
          have h' := Df.turn (encP_lt (by omega)) (encP_lt (by omega)) h
          have e : ordI (v1 * 10 ^ s2) (v2 * 10 ^ s1) = - ordN ((-v1).toNat * 10 ^ s2) ((-v2).toNat * 10 ^ s1) := by
            rw [← ordI_nat, Int.natCast_mul, Int.natCast_mul, c1, c1, Int.toNat_of_nonneg (by omega), Int.toNat_of_nonneg (by omega), Int.neg_mul, Int.neg_mul, ordI_neg, Int.neg_neg]
          rw [e]
          exact h'
