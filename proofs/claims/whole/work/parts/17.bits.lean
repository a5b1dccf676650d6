/-! bits: bytes of longs, turned bytes -/
theorem xor255 : ∀ b, b < 256 → b ^^^ 255 = 255 - b := by decide +kernel
theorem by8_xor (x : Int32) {t : Nat} (ht : t = 0 ∨ t = 255) : by8 (x ^^^ nI t) = tnB t (by8 x) := by
  unfold by8
  rw [Int32.toBitVec_xor, BitVec.toNat_xor]
  have e : ∀ a b : Nat, (a ^^^ b) % 256 = (a % 256) ^^^ (b % 256) := fun a b => Nat.xor_mod_two_pow (n := 8)
  rw [e]
  rcases ht with rfl | rfl
  · have : (nI 0).toBitVec.toNat % 256 = 0 := by decide
    rw [this, Nat.xor_zero]
    rfl
  · have : (nI 255).toBitVec.toNat % 256 = 255 := by decide
    rw [this, xor255 _ (Nat.mod_lt _ (by decide))]
    rfl
theorem by8_l2i (z : Int64) : by8 z.toInt32 = z.toBitVec.toNat % 256 := by
  unfold by8
  have e : z.toInt32.toBitVec = z.toBitVec.setWidth 32 := BitVec.signExtend_eq_setWidth_of_le _ (by decide)
  rw [e, BitVec.toNat_setWidth]
  omega
theorem sh_amt : ∀ i, i < 8 → ((8 * nI i).toInt64.toUInt64 &&& Int64.toUInt64 63).toNat = 8 * i := by decide
theorem sh_val (v : Int64) {i : Nat} (hi : i < 8) : (v.toUInt64 >>> ((8 * nI i).toInt64.toUInt64 &&& Int64.toUInt64 63)).toInt64.toBitVec.toNat = uL v / 256 ^ i := by
  show (v.toUInt64 >>> ((8 * nI i).toInt64.toUInt64 &&& Int64.toUInt64 63)).toNat = _
  rw [UInt64.toNat_shiftRight, sh_amt i hi, Nat.mod_eq_of_lt (show 8 * i < 64 by omega), Nat.shiftRight_eq_div_pow, Nat.pow_mul]
  rfl
theorem by8_sh {v : Int64} {i t : Nat} (hi : i < 8) (ht : t = 0 ∨ t = 255) : by8 (((v.toUInt64 >>> ((8 * nI i).toInt64.toUInt64 &&& Int64.toUInt64 63)).toInt64).toInt32 ^^^ nI t) = tnB t (uL v / 256 ^ i % 256) := by
  rw [by8_xor _ ht, by8_l2i, sh_val v hi]
