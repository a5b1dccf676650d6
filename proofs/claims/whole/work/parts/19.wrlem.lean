/-! small facts of the writer -/
theorem sh_lt {v : Int64} {i : Nat} (hi : i < 8) : lg_cmp ((v.toUInt64 >>> ((8 * nI i).toInt64.toUInt64 &&& Int64.toUInt64 63)).toInt64) 0 = 0 ↔ uL v / 256 ^ i = 0 := by
  rw [lg_cmp_eq, ← sh_val v hi]
  constructor
  · intro h
    rw [h]
    rfl
  · intro h
    apply Int64.toBitVec_inj.mp
    apply BitVec.eq_of_toNat_eq
    rw [h]
    rfl
theorem sh_eq {v : Int64} {i : Nat} (h : lg_cmp ((v.toUInt64 >>> ((8 * nI i).toInt64.toUInt64 &&& Int64.toUInt64 63)).toInt64) 0 = 0) (hi : i < 8) : uL v < 256 ^ i := by
  have := (sh_lt hi).mp h
  exact (Nat.div_eq_zero_iff_lt (pow_pos' i)).mp this
theorem sh_ne {v : Int64} {i : Nat} (h : ¬ lg_cmp ((v.toUInt64 >>> ((8 * nI i).toInt64.toUInt64 &&& Int64.toUInt64 63)).toInt64) 0 = 0) (hi : i < 8) : 256 ^ i ≤ uL v := by
  refine Nat.not_lt.mp fun z => h ((sh_lt hi).mpr ?_)
  exact (Nat.div_eq_zero_iff_lt (pow_pos' i)).mpr z
theorem nby_up {u i : Nat} (h : i ≤ nby u) (h2 : 256 ^ i ≤ u) : i + 1 ≤ nby u := by
  refine Nat.not_lt.mp fun z => ?_
  have e : nby u = i := by omega
  have := nby_lt u
  rw [e] at this
  omega
theorem uL_0 : uL 0 = 0 := rfl
theorem neg_u {v : Int64} : v < 0 ↔ ¬ uL v < 2 ^ 63 := by
  have h := uL_sgn v
  have h2 := uL_lt v
  rw [Int64.lt_iff_toInt_lt, ← h]
  unfold sgnU
  constructor
  · intro z hz
    rw [if_pos hz] at z
    simp at z
    omega
  · intro z
    rw [if_neg z]
    simp
    omega
theorem ge0_u {v : Int64} (h : 0 ≤ lg_cmp v 0) : uL v < 2 ^ 63 := by
  refine Decidable.not_not.mp fun z => ?_
  have := neg_u.mpr z
  exact Int64.not_lt.mpr ((lg_cmp_ge v 0).mp h) this
theorem lt0_u {v : Int64} (h : ¬ 0 ≤ lg_cmp v 0) : ¬ uL v < 2 ^ 63 := by
  intro z
  refine h ((lg_cmp_ge v 0).mpr ?_)
  refine Int64.not_lt.mp fun q => ?_
  exact neg_u.mp q z
theorem uL_m1 (v : Int64) : uL (-1 - v) = 2 ^ 64 - 1 - uL v := by
  unfold uL
  rw [Int64.toBitVec_sub, BitVec.toNat_sub]
  have h := v.toBitVec.isLt
  have e : (-1 : Int64).toBitVec.toNat = 2 ^ 64 - 1 := by decide
  rw [e]
  omega
theorem encU_pos {u : Nat} (h : u < 2 ^ 63) : encU u = (128 + nby u) :: be (nby u) u := by unfold encU; rw [if_pos h]
theorem encU_neg {u : Nat} (h : ¬ u < 2 ^ 63) : encU u = (127 - nby (2 ^ 64 - 1 - u)) :: be (nby (2 ^ 64 - 1 - u)) u := by unfold encU; rw [if_neg h]
theorem ap_cons (l : List Nat) (x : Nat) (y : List Nat) : ap (ap l [x]) y = ap l (x :: y) := ap_ap l [x] y
theorem wi_neg {v : Int64} {t : Nat} (ht : t = 0 ∨ t = 255) (h : ¬ uL v < 2 ^ 63) (l : List Nat) : ap l ((encU (uL v)).map (tnB t)) = ap (ap l [by8 (nI (127 - nby (uL (-1 - v))) ^^^ nI t)]) ((be (nby (uL (-1 - v))) (uL v)).map (tnB t)) := by
  rw [encU_neg h, ← uL_m1, List.map_cons, by8_xor _ ht, by8_nI (by omega), ap_cons]
theorem wi_pos {v : Int64} {t : Nat} (ht : t = 0 ∨ t = 255) (h : uL v < 2 ^ 63) (l : List Nat) : ap l ((encU (uL v)).map (tnB t)) = ap (ap l [by8 ((128 + nI (nby (uL v))) ^^^ nI t)]) ((be (nby (uL v)) (uL v)).map (tnB t)) := by
  have h8 := nby_8 (uL_lt v)
  rw [encU_pos h, List.map_cons, show (128 : Int32) + nI (nby (uL v)) = nI (128 + nby (uL v)) from ni_add rfl rfl, by8_xor _ ht, by8_nI (by omega), ap_cons]
theorem wt_nz {b t : Nat} (ht : t = 0 ∨ t = 255) (hb : b < 256) (h : ¬ b = 0) (l x : List Nat) : ap (ap l [by8 (nI b ^^^ nI t)]) ((encT x).map (tnB t)) = ap l ((encT (b :: x)).map (tnB t)) := by
  rw [encT, if_neg h, List.map_cons, by8_xor _ ht, by8_nI hb, ap_cons]
theorem wt_z {b t : Nat} (ht : t = 0 ∨ t = 255) (h : b = 0) (l x : List Nat) : ap (ap (ap l [by8 (nI b ^^^ nI t)]) [by8 (255 ^^^ nI t)]) ((encT x).map (tnB t)) = ap l ((encT (b :: x)).map (tnB t)) := by
  rw [encT, if_pos h, List.map_cons, List.map_cons, by8_xor _ ht, by8_xor _ ht, h, ap_cons, ap_cons]
  rfl
theorem wt_e {t : Nat} (ht : t = 0 ∨ t = 255) (l : List Nat) : ap (ap l [by8 (0 ^^^ nI t)]) [by8 (1 ^^^ nI t)] = ap l ((encT []).map (tnB t)) := by
  rw [by8_xor _ ht, by8_xor _ ht, ap_cons]
  rfl
