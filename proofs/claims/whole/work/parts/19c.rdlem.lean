/-! small facts of the reader -/
theorem nI_m1 {b : Nat} (h : b < 256) : ¬ nI b = -1 := by
  intro z
  have := congrArg Int32.toInt z
  rw [nI_toInt (by omega)] at this
  have e : (-1 : Int32).toInt = -1 := by decide
  rw [e] at this
  omega
theorem xor_tn {t b : Nat} (ht : t = 0 ∨ t = 255) (hb : b < 256) : nI b ^^^ nI t = nI (tnB t b) := by
  rcases ht with rfl | rfl
  · show nI b ^^^ 0 = nI b
    exact Int32.xor_zero
  · apply Int32.toBitVec_inj.mp
    apply BitVec.eq_of_toNat_eq
    rw [Int32.toBitVec_xor, BitVec.toNat_xor, pk_tn (by omega), pk_tn (by omega), pk_tn (by rw [tnB1]; omega), tnB1]
    exact xor255 b hb
theorem rdI_nil {t p : Nat} {l : List Nat} (h : l.length ≤ p) : rdI t (l.drop p) = none := by rw [List.drop_eq_nil_of_le h]; rfl
theorem rdI_neg {t p : Nat} {l : List Nat} (hp : p < l.length) (h1 : tnB t (l.getD p 0) ≤ 127) (h2 : ¬ 8 < 127 - tnB t (l.getD p 0)) : rdI t (l.drop p) = rdBs t (127 - tnB t (l.getD p 0)) (2 ^ 64 - 1) (l.drop (p + 1)) := by
  rw [dropD hp, rdI, if_pos h1, if_neg h2]
theorem rdI_pos {t p : Nat} {l : List Nat} (hp : p < l.length) (h1 : ¬ tnB t (l.getD p 0) ≤ 127) (h2 : ¬ 8 < tnB t (l.getD p 0) - 128) : rdI t (l.drop p) = rdBs t (tnB t (l.getD p 0) - 128) 0 (l.drop (p + 1)) := by
  rw [dropD hp, rdI, if_neg h1, if_neg h2]
theorem rdI_bn {t p : Nat} {l : List Nat} (hp : p < l.length) (h1 : tnB t (l.getD p 0) ≤ 127) (h2 : 8 < 127 - tnB t (l.getD p 0)) : rdI t (l.drop p) = none := by
  rw [dropD hp, rdI, if_pos h1, if_pos h2]
theorem rdI_bp {t p : Nat} {l : List Nat} (hp : p < l.length) (h1 : ¬ tnB t (l.getD p 0) ≤ 127) (h2 : 8 < tnB t (l.getD p 0) - 128) : rdI t (l.drop p) = none := by
  rw [dropD hp, rdI, if_neg h1, if_pos h2]
theorem rdBs_nil {t k N p : Nat} {l : List Nat} (hk : 0 < k) (h : l.length ≤ p) : rdBs t k N (l.drop p) = none := by
  rw [List.drop_eq_nil_of_le h]
  obtain ⟨j, rfl⟩ : ∃ j, k = j + 1 := ⟨k - 1, by omega⟩
  rfl
theorem rdBs_s {t k i N p : Nat} {l : List Nat} (hk : i < k) (h : p < l.length) : rdBs t (k - i) N (l.drop p) = rdBs t (k - (i + 1)) (N * 256 + tnB t (l.getD p 0)) (l.drop (p + 1)) := by
  rw [dropD h, show k - i = (k - (i + 1)) + 1 by omega, rdBs]
theorem uL_lN (n : Nat) : uL (lN n) = n % 2 ^ 64 := by
  unfold uL lN
  show (BitVec.ofNat 64 n).toNat = _
  rw [BitVec.toNat_ofNat]
theorem uL_inj {x y : Int64} (h : uL x = uL y) : x = y := Int64.toBitVec_inj.mp (BitVec.eq_of_toNat_eq h)
theorem lN_uL (v : Int64) : lN (uL v) = v := uL_inj (by rw [uL_lN, Nat.mod_eq_of_lt (uL_lt v)])
theorem lN_mod {n m : Nat} (h : n % 2 ^ 64 = m % 2 ^ 64) : lN n = lN m := uL_inj (by rw [uL_lN, uL_lN, h])
theorem l_shor {N b : Nat} (hb : b < 256) : (lN N <<< ((8 : Int32).toInt64 &&& 63)) ||| (nI b).toInt64 = lN (N * 256 + b) := by
  apply uL_inj
  rw [uL_lN, nI_l (by omega)]
  unfold uL
  rw [Int64.toBitVec_or, BitVec.toNat_or]
  have e1 : (lN b).toBitVec.toNat = b := by
    have := uL_lN b
    unfold uL at this
    rw [this]
    omega
  have e2 : (lN N <<< ((8 : Int32).toInt64 &&& 63)).toBitVec.toNat = N * 256 % 2 ^ 64 := by
    rw [Int64.toBitVec_shiftLeft]
    have e3 : ((((8 : Int32).toInt64 &&& 63).toBitVec.smod 64)) = 8#64 := by decide
    rw [e3]
    have := uL_lN N
    unfold uL at this
    rw [BitVec.shiftLeft_eq', BitVec.toNat_shiftLeft, this, Nat.shiftLeft_eq]
    show N % 2 ^ 64 * 2 ^ 8 % 2 ^ 64 = _
    omega
  rw [e1, e2]
  have e4 : N * 256 % 2 ^ 64 = 2 ^ 8 * (N * 256 % 2 ^ 64 / 2 ^ 8) := by omega
  rw [e4, ← Nat.two_pow_add_eq_or_of_lt (i := 8) hb]
  omega
/-! the text's rounds -/
theorem rT_nil {t k p : Nat} {acc l : List Nat} (h : l.length ≤ p) : rdT t k acc (l.drop p) = none := by
  rw [List.drop_eq_nil_of_le h]
  cases k <;> rfl
theorem rT_b {t k p : Nat} {acc l : List Nat} (h : p < l.length) (hb : ¬ tnB t (l.getD p 0) = 0) (ha : acc.length < 10) : rdT t (k + 1) acc (l.drop p) = rdT t k (acc ++ [tnB t (l.getD p 0)]) (l.drop (p + 1)) := by
  rw [dropD h]
  conv => lhs; unfold rdT
  rw [if_neg hb, if_pos ha]
theorem rT_bf {t k p : Nat} {acc l : List Nat} (h : p < l.length) (hb : ¬ tnB t (l.getD p 0) = 0) (ha : ¬ acc.length < 10) : rdT t (k + 1) acc (l.drop p) = none := by
  rw [dropD h]
  unfold rdT
  rw [if_neg hb, if_neg ha]
theorem rT_ze {t k p : Nat} {acc l : List Nat} (h : p < l.length) (hb : tnB t (l.getD p 0) = 0) (h2 : l.length ≤ p + 1) : rdT t (k + 1) acc (l.drop p) = none := by
  rw [dropD h, List.drop_eq_nil_of_le h2, rdT, if_pos hb]
theorem rT_z {t k p : Nat} {acc l : List Nat} (h : p < l.length) (hb : tnB t (l.getD p 0) = 0) (h2 : p + 1 < l.length) (h3 : tnB t (l.getD (p + 1) 0) = 255) (ha : acc.length < 10) : rdT t (k + 1) acc (l.drop p) = rdT t k (acc ++ [0]) (l.drop (p + 1 + 1)) := by
  rw [dropD h, dropD h2, rdT, if_pos hb]
  simp only [h3, if_true, ha]
theorem rT_zf {t k p : Nat} {acc l : List Nat} (h : p < l.length) (hb : tnB t (l.getD p 0) = 0) (h2 : p + 1 < l.length) (h3 : tnB t (l.getD (p + 1) 0) = 255) (ha : ¬ acc.length < 10) : rdT t (k + 1) acc (l.drop p) = none := by
  rw [dropD h, dropD h2, rdT, if_pos hb]
  simp only [h3, if_true, ha, if_false]
theorem rT_z1 {t k p : Nat} {acc l : List Nat} (h : p < l.length) (hb : tnB t (l.getD p 0) = 0) (h2 : p + 1 < l.length) (h3 : ¬ tnB t (l.getD (p + 1) 0) = 255) (h4 : tnB t (l.getD (p + 1) 0) = 1) : rdT t (k + 1) acc (l.drop p) = some (acc, l.drop (p + 1 + 1)) := by
  rw [dropD h, dropD h2, rdT, if_pos hb]
  simp only [h3, if_false]
  rw [if_pos h4]
theorem rT_zn {t k p : Nat} {acc l : List Nat} (h : p < l.length) (hb : tnB t (l.getD p 0) = 0) (h2 : p + 1 < l.length) (h3 : ¬ tnB t (l.getD (p + 1) 0) = 255) (h4 : ¬ tnB t (l.getD (p + 1) 0) = 1) : rdT t (k + 1) acc (l.drop p) = none := by
  rw [dropD h, dropD h2, rdT, if_pos hb]
  simp only [h3, if_false, h4]
/-! digits -/
theorem rG_nil {t k i v p : Nat} {l : List Nat} (h : l.length ≤ p) : rdG t k i v (l.drop p) = none := by
  rw [List.drop_eq_nil_of_le h]
  cases k <;> rfl
theorem rG_0 {t k i v p : Nat} {l : List Nat} (h : p < l.length) (hb : tnB t (l.getD p 0) = 0) : rdG t k i v (l.drop p) = some (v, i, l.drop (p + 1)) := by
  rw [dropD h]
  cases k <;> (conv => lhs; unfold rdG) <;> rw [if_pos hb]
theorem rG_big {t k i v p : Nat} {l : List Nat} (h : p < l.length) (hb : ¬ tnB t (l.getD p 0) = 0) (h2 : 10 < tnB t (l.getD p 0)) : rdG t k i v (l.drop p) = none := by
  rw [dropD h]
  cases k
  · conv => lhs; unfold rdG
    rw [if_neg hb]
  · conv => lhs; unfold rdG
    rw [if_neg hb, if_pos h2]
theorem rG_e {t i v p : Nat} {l : List Nat} (h : p < l.length) (hb : ¬ tnB t (l.getD p 0) = 0) : rdG t 0 i v (l.drop p) = none := by
  rw [dropD h]
  conv => lhs; unfold rdG
  rw [if_neg hb]
theorem rG_s {t k i v p : Nat} {l : List Nat} (h : p < l.length) (hb : ¬ tnB t (l.getD p 0) = 0) (h2 : ¬ 10 < tnB t (l.getD p 0)) : rdG t (k + 1) i v (l.drop p) = rdG t k (i + 1) (v * 10 + (tnB t (l.getD p 0) - 1)) (l.drop (p + 1)) := by
  rw [dropD h]
  conv => lhs; unfold rdG
  rw [if_neg hb, if_neg h2]
/-- exponent and digits: the number with its sign, the power of ten that it lacks -/
def rdFr (t : Nat) (sg : Int32) : List Nat → Option (Int64 × Int32 × List Nat)
  | [] => none
  | y :: r => match rdG t 16 0 0 r with
    | some (q, m, r') => some (sg.toInt64 * lN q, nI (tnB t y) - 64 - nI m, r')
    | none => none
def rdD (t : Nat) : List Nat → Option (Int64 × Int32 × List Nat)
  | [] => none
  | x :: r => if tnB t x = 2 then some (0, 0, r) else if tnB t x = 1 then rdFr (255 - t) (-1) r else if tnB t x = 3 then rdFr t 1 r else none
theorem rF_nil {t p : Nat} {sg : Int32} {l : List Nat} (h : l.length ≤ p) : rdFr t sg (l.drop p) = none := by rw [List.drop_eq_nil_of_le h]; rfl
theorem rF_none {t p : Nat} {sg : Int32} {l : List Nat} (h : p < l.length) (e : rdG t 16 0 0 (l.drop (p + 1)) = none) : rdFr t sg (l.drop p) = none := by
  rw [dropD h, rdFr, e]
theorem rF_some {t p q m : Nat} {sg : Int32} {l r : List Nat} (h : p < l.length) (e : rdG t 16 0 0 (l.drop (p + 1)) = some (q, m, r)) : rdFr t sg (l.drop p) = some (sg.toInt64 * lN q, nI (tnB t (l.getD p 0)) - 64 - nI m, r) := by
  rw [dropD h, rdFr, e]
theorem rD_nil {t p : Nat} {l : List Nat} (h : l.length ≤ p) : rdD t (l.drop p) = none := by rw [List.drop_eq_nil_of_le h]; rfl
theorem rD_2 {t p : Nat} {l : List Nat} (h : p < l.length) (e : tnB t (l.getD p 0) = 2) : rdD t (l.drop p) = some (0, 0, l.drop (p + 1)) := by rw [dropD h, rdD, if_pos e]
theorem rD_1 {t p : Nat} {l : List Nat} (h : p < l.length) (e : tnB t (l.getD p 0) = 1) : rdD t (l.drop p) = rdFr (255 - t) (-1) (l.drop (p + 1)) := by rw [dropD h, rdD, if_neg (by omega), if_pos e]
theorem rD_3 {t p : Nat} {l : List Nat} (h : p < l.length) (e : tnB t (l.getD p 0) = 3) : rdD t (l.drop p) = rdFr t 1 (l.drop (p + 1)) := by rw [dropD h, rdD, if_neg (by omega), if_neg (by omega), if_pos e]
theorem rD_n {t p : Nat} {l : List Nat} (h : p < l.length) (e2 : ¬ tnB t (l.getD p 0) = 2) (e1 : ¬ tnB t (l.getD p 0) = 1) (e3 : ¬ tnB t (l.getD p 0) = 3) : rdD t (l.drop p) = none := by rw [dropD h, rdD, if_neg e2, if_neg e1, if_neg e3]
theorem l_dig {q b : Nat} (hb : ¬ b = 0) (hb2 : b < 256) : lN q * 10 + (nI b).toInt64 - 1 = lN (q * 10 + (b - 1)) := by
  rw [nI_l (by omega), show (10 : Int64) = lN 10 from rfl, lN_mul, lN_add, show (1 : Int64) = lN 1 from rfl, lN_sub (by omega)]
  congr 1
  omega
