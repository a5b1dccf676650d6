/-! small facts of the reader -/
theorem nI_m1 {b : Nat} (h : b < 256) : ¬ nI b = -1 := by
  intro z
  have := congrArg Int32.toInt z
  rw [nI_toInt (by omega)] at this
  have e : (-1 : Int32).toInt = -1 := by decide
  rw [e] at this
  omega
theorem xor_tn {t b : Nat} (ht : t = 0 ∨ t = 255) (hb : b < 256) : nI b ^^^ nI t = nI (tnB t b) := by
  rcases ht with rfl | rfl
  · show nI b ^^^ 0 = nI b
    exact Int32.xor_zero
  · apply Int32.toBitVec_inj.mp
    apply BitVec.eq_of_toNat_eq
    rw [Int32.toBitVec_xor, BitVec.toNat_xor, pk_tn (by omega), pk_tn (by omega), pk_tn (by rw [tnB1]; omega), tnB1]
    exact xor255 b hb
