/-! shifting decimals -/
def ShC (x : Int64) (k : Int32) (i : Nat) (m : Int64) : Prop := ∀ z : Nat, k = nI z → z < 2 ^ 31 → ∀ dv : Int, x.toInt * 10 ^ z = dv → -(10 : Int) ^ 15 ≤ dv → dv ≤ 10 ^ 15 → m.toInt * 10 ^ (z - i) = dv
theorem ShC.z (x : Int64) (k : Int32) : ShC x k 0 x := fun z _ _ dv h _ _ => by rw [Nat.sub_zero]; exact h
theorem kTz {k : Int32} {z : Nat} (e : k = nI z) (hz : z < 2 ^ 31) : k.toInt.toNat = z := by
  rw [e, nI_toInt hz]
  simp
theorem k_lt (k : Int32) : k.toInt.toNat < 2 ^ 31 := by
  have := Int32.toInt_lt k
  omega
theorem sh_lt2 {k : Int32} {i : Nat} (hi : i ≤ k.toInt.toNat) (h : ¬ k ≤ nI i) : i < k.toInt.toNat := by
  have h1 := k_lt k
  have h2 := Int32.lt_iff_toInt_lt.mp (Int32.not_le.mp h)
  rw [nI_toInt (by omega)] at h2
  omega
theorem sh_ge {k : Int32} {i z : Nat} (hi : i ≤ k.toInt.toNat) (h : k ≤ nI i) (e : k = nI z) (hz : z < 2 ^ 31) : z - i = 0 := by
  have h1 := k_lt k
  rw [e] at h
  have := (nI_leI hz (by omega)).mp h
  omega
theorem ShC.end_ {x m : Int64} {k : Int32} {i : Nat} (hC : ShC x k i m) (hi : i ≤ k.toInt.toNat) (h : k ≤ nI i) : ∀ z : Nat, k = nI z → z < 2 ^ 31 → ∀ dv : Int, x.toInt * 10 ^ z = dv → -(10 : Int) ^ 15 ≤ dv → dv ≤ 10 ^ 15 → m.toInt = dv := fun z e hz dv g1 g2 g3 => by
  have q := hC z e hz dv g1 g2 g3
  rw [sh_ge hi h e hz, Int.pow_zero, Int.mul_one] at q
  exact q
theorem ShC.zero {x m : Int64} {k : Int32} {i : Nat} (hC : ShC x k i m) (h : lg_cmp m 0 = 0) : ∀ z : Nat, k = nI z → z < 2 ^ 31 → ∀ dv : Int, x.toInt * 10 ^ z = dv → -(10 : Int) ^ 15 ≤ dv → dv ≤ 10 ^ 15 → m.toInt = dv := fun z e hz dv g1 g2 g3 => by
  have q := hC z e hz dv g1 g2 g3
  rw [d_sgn0 h, Int.zero_mul] at q
  rw [d_sgn0 h]
  exact q
theorem p10i (n : Nat) : (1 : Int) ≤ 10 ^ n := by
  have := p10_pos n
  have e := cp n
  omega
theorem ShC.bigp {x m m' : Int64} {k : Int32} {i j : Nat} (hC : ShC x k i m) (h : 10 ^ 15 < m.toInt) : ShC x k j m' := fun z e hz dv g1 g2 g3 => by
  have q := hC z e hz dv g1 g2 g3
  have := Int.mul_le_mul_of_nonneg_left (p10i (z - i)) (show 0 ≤ m.toInt by omega)
  omega
theorem ShC.bign {x m m' : Int64} {k : Int32} {i j : Nat} (hC : ShC x k i m) (h : m.toInt < -(10 : Int) ^ 15) : ShC x k j m' := fun z e hz dv g1 g2 g3 => by
  have q := hC z e hz dv g1 g2 g3
  have := Int.mul_le_mul_of_nonneg_left (p10i (z - i)) (show 0 ≤ -m.toInt by omega)
  simp only [Int.neg_mul, Int.mul_one] at this
  omega
theorem ShC.s {x m : Int64} {k : Int32} {i : Nat} (hC : ShC x k i m) (hi : i < k.toInt.toNat) (h1 : -(10 : Int) ^ 15 ≤ m.toInt) (h2 : m.toInt ≤ 10 ^ 15) : ShC x k (i + 1) (m * 10) := fun z e hz dv g1 g2 g3 => by
  have q := hC z e hz dv g1 g2 g3
  have ten : (10 : Int64).toInt = 10 := by decide
  have hk := kTz e hz
  rw [l_mul (by rw [ten]; omega) (by rw [ten]; omega), ten, Int.mul_assoc, ← q, show z - i = (z - (i + 1)) + 1 by omega, Int.pow_succ, Int.mul_comm 10]
