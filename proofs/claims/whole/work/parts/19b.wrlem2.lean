/-! facts of fractions and decimals -/
theorem m64 {z : Int} (h1 : -(2 : Int) ^ 63 ≤ z) (h2 : z < 2 ^ 63) : z.bmod (2 ^ 64) = z := Int.bmod_eq_of_le (by omega) (by omega)
theorem lN_T {n : Nat} (h : n < 2 ^ 63) : (lN n).toInt = (n : Int) := pk_lT h
theorem l_cmp_lt {a b : Nat} (ha : a < 2 ^ 63) (hb : b < 2 ^ 63) : lg_cmp (lN a) (lN b) < 0 ↔ a < b := by rw [lg_cmp_lt, pk_lLT ha hb]
theorem l_cmp_le0 {a : Nat} (ha : a < 2 ^ 63) : lg_cmp (lN a) 0 ≤ 0 ↔ a = 0 := by
  rw [lg_cmp_le, show (0 : Int64) = lN 0 from rfl, pk_lLE ha (by decide)]
  omega
theorem lN_ne {a : Nat} (h : 0 < a) (ha : a < 2 ^ 63) : ¬ lN a = 0 := by
  rw [show (0 : Int64) = lN 0 from rfl, pk_lEQ ha (by decide)]
  omega
theorem p10_lt {j : Nat} (h : j ≤ 16) : 10 ^ j < 2 ^ 63 := Nat.lt_of_le_of_lt (Nat.pow_le_pow_right (by decide) h) (by decide)
def unK (k : Nat) : Nat := if k = 0 then 0 else 10 ^ (k - 1)
theorem unK_s (i : Nat) : unK (i + 1) = 10 ^ i := rfl
theorem unK_0 : unK 0 = 0 := rfl
theorem unK_d (i : Nat) : 10 ^ i / 10 = unK i := by
  cases i with
  | zero => rfl
  | succ j => rw [unK_s, Nat.pow_succ, Nat.mul_div_cancel _ (by decide)]
theorem unK_lt {k : Nat} (h : k ≤ 17) : unK k < 2 ^ 63 := by
  cases k with
  | zero => decide
  | succ j => rw [unK_s]; exact p10_lt (by omega)
theorem unK_z {k : Nat} (h : unK k = 0) : k = 0 := by
  cases k with
  | zero => rfl
  | succ j => rw [unK_s] at h; have := p10_pos j; omega
theorem i_exp {a s : Nat} (hs : s ≤ 64) : nI a - nI s + 64 = nI (a + 64 - s) := by
  rw [Int32.sub_eq_add_neg, Int32.add_assoc, Int32.add_comm (-nI s), ← Int32.add_assoc, ← Int32.sub_eq_add_neg]
  exact ni_sub (ni_add rfl rfl) rfl (by omega)
theorem wf_1 {v s t j : Nat} (ht : t = 0 ∨ t = 255) (hs : s ≤ 9) (hv : v < 10 ^ 16) (hp : plc v = j + 1) (l : List Nat) : ap (ap l [by8 ((nI (j + 1) - nI s + 64) ^^^ nI t)]) ((dgl (j + 1) v).map (tnB t)) = ap l ((encP v s).map (tnB t)) := by
  have h16 := plc_le hv
  unfold encP
  rw [i_exp (by omega), by8_xor _ ht, by8_nI (by omega), List.map_cons, hp, ap_cons]
theorem wf_g {u i t : Nat} (ht : t = 0 ∨ t = 255) (hu : u < 10 ^ (i + 1)) (h0 : ¬ u = 0) (l : List Nat) : ap (ap l [by8 (nI (u / 10 ^ i + 1) ^^^ nI t)]) ((dgl i (u % 10 ^ i)).map (tnB t)) = ap l ((dgl (i + 1) u).map (tnB t)) := by
  have hd : u / 10 ^ i < 10 := (Nat.div_lt_iff_lt_mul (p10_pos i)).mpr (by rw [Nat.pow_succ] at hu; rw [Nat.mul_comm]; exact hu)
  rw [dgl_s h0, by8_xor _ ht, by8_nI (by omega), List.map_cons, ap_cons]
theorem wf_e {k t : Nat} (ht : t = 0 ∨ t = 255) (l : List Nat) : ap l [by8 (0 ^^^ nI t)] = ap l ((dgl k 0).map (tnB t)) := by
  rw [dgl_0, by8_xor _ ht]
  rfl
theorem plc_is {v j : Nat} (h1 : 10 ^ j ≤ v) (h2 : v < 10 ^ (j + 1)) : plc v = j + 1 := by
  have := plc_le h2
  have h3 := plc_lt v
  refine Nat.le_antisymm this (Nat.not_lt.mp fun z => ?_)
  have := Nat.pow_le_pow_right (n := 10) (by decide) (show plc v ≤ j by omega)
  omega
theorem div_lt10 {v j : Nat} (h : v / 10 ^ j < 10) : v < 10 ^ (j + 1) := by
  rw [Nat.pow_succ]
  have := (Nat.div_lt_iff_lt_mul (p10_pos j)).mp h
  rw [Nat.mul_comm]
  exact this
theorem div_ge10 {v j : Nat} (h : ¬ v / 10 ^ j < 10) : 10 ^ (j + 1) ≤ v := by
  rw [Nat.pow_succ]
  have := (Nat.le_div_iff_mul_le (p10_pos j)).mp (Nat.not_lt.mp h)
  rw [Nat.mul_comm]
  exact this
theorem abs_lN {d : Int64} (h1 : -(10 : Int) ^ 15 ≤ d.toInt) (h2 : d.toInt ≤ 10 ^ 15) : (if 0 < d then d else -d) = lN d.toInt.natAbs := by
  apply Int64.toInt_inj.mp
  rw [lN_T (by omega)]
  by_cases h : 0 < d
  · rw [if_pos h]
    have := Int64.lt_iff_toInt_lt.mp h
    simp at this
    omega
  · rw [if_neg h, Int64.toInt_neg, m64 (by omega) (by omega)]
    have := Int64.le_iff_toInt_le.mp (Int64.not_lt.mp h)
    simp at this
    omega
theorem d_sgn0 {d : Int64} (h : lg_cmp d 0 = 0) : d.toInt = 0 := by rw [(lg_cmp_eq d 0).mp h]; rfl
theorem d_sgnp {d : Int64} (h : 0 ≤ lg_cmp d 0) (h0 : ¬ lg_cmp d 0 = 0) : 0 < d.toInt := by
  have h1 := Int64.le_iff_toInt_le.mp ((lg_cmp_ge d 0).mp h)
  have h2 : d.toInt ≠ 0 := fun z => h0 ((lg_cmp_eq d 0).mpr (Int64.toInt_inj.mp (by rw [z]; rfl)))
  simp at h1
  omega
theorem d_sgnn {d : Int64} (h : ¬ 0 ≤ lg_cmp d 0) : d.toInt < 0 := by
  have := Int64.lt_iff_toInt_lt.mp (Int64.not_le.mp fun z => h ((lg_cmp_ge d 0).mpr z))
  simpa using this
theorem tn_x {t : Nat} (ht : t = 0 ∨ t = 255) : nI t ^^^ 255 = nI (255 - t) := by
  rcases ht with rfl | rfl <;> decide
theorem tn_255 {t : Nat} (ht : t = 0 ∨ t = 255) {x : List Nat} (hx : ∀ b ∈ x, b < 256) : (x.map (tnB 255)).map (tnB t) = x.map (tnB (255 - t)) := by
  rw [List.map_map]
  refine List.map_congr_left fun b hb => ?_
  have := hx b hb
  show tnB t (tnB 255 b) = _
  rcases ht with rfl | rfl
  · rfl
  · unfold tnB; simp; omega
theorem wd_0 {d : Int64} {s t : Nat} (ht : t = 0 ∨ t = 255) (h : d.toInt = 0) (l : List Nat) : ap l [by8 (2 ^^^ nI t)] = ap l ((encD d.toInt s).map (tnB t)) := by
  rw [h, by8_xor _ ht]
  rfl
theorem wd_p {d : Int64} {s t : Nat} (ht : t = 0 ∨ t = 255) (h : 0 < d.toInt) (l : List Nat) : ap (ap l [by8 (3 ^^^ nI t)]) ((encP d.toInt.natAbs s).map (tnB t)) = ap l ((encD d.toInt s).map (tnB t)) := by
  unfold encD
  rw [if_neg (by omega), if_pos h, List.map_cons, by8_xor _ ht, ap_cons, show d.toInt.natAbs = d.toInt.toNat by omega]
  rfl
theorem wd_n {d : Int64} {s t : Nat} (ht : t = 0 ∨ t = 255) (h : d.toInt < 0) (h1 : -(10 : Int) ^ 15 ≤ d.toInt) (l : List Nat) : ap (ap l [by8 (1 ^^^ nI t)]) ((encP d.toInt.natAbs s).map (tnB (255 - t))) = ap l ((encD d.toInt s).map (tnB t)) := by
  unfold encD
  rw [if_neg (by omega), if_neg (by omega), List.map_cons, by8_xor _ ht, ap_cons, show d.toInt.natAbs = (-d.toInt).toNat by omega, tn_255 ht (encP_lt (by omega))]
  rfl
theorem d_nz {d : Int64} (h : ¬ lg_cmp d 0 = 0) : d.toInt ≠ 0 := fun z => h ((lg_cmp_eq d 0).mpr (Int64.toInt_inj.mp (by rw [z]; rfl)))
/-! a field's bytes by its parts -/
theorem nn_nI {f : Int32} (h : 0 ≤ f.toInt) : f = nI f.toInt.toNat := by
  apply Int32.toInt_inj.mp
  have := Int32.toInt_lt f
  rw [nI_toInt (by omega)]
  omega
theorem we_m {k fl : Nat} {v : kV} (ho : fOp fl = true) (hm : v.1 = true) (l : List Nat) : ap l [by8 (nI (mkA fl))] = ap l (encF k fl v) := by
  unfold encF
  rw [if_pos ho, if_pos hm, if_pos hm, List.append_nil, by8_nI (by unfold mkA; split <;> decide)]
theorem we_o {k fl : Nat} {v : kV} (ho : fOp fl = true) (hm : v.1 = false) (l : List Nat) : ap (ap l [by8 1]) ((encV k v).map (tnB (tnF fl))) = ap l (encF k fl v) := by
  unfold encF
  rw [if_pos ho, hm, ap_ap]
  rfl
theorem we_n {k fl : Nat} {v : kV} (ho : fOp fl = false) (hm : v.1 = false) (l : List Nat) : ap l ((encV k v).map (tnB (tnF fl))) = ap l (encF k fl v) := by
  unfold encF
  rw [ho, hm]
  rfl
theorem ev_1 {v : kV} : encV 1 v = encD v.2.1.toInt v.2.2.1.toInt.toNat := rfl
theorem ev_2 {v : kV} : encV 2 v = encT v.2.2.2 := rfl
theorem ev_0 {v : kV} : encV 0 v = encU (uL v.2.1) := rfl
theorem ev_3 {v : kV} : encV 3 v = encU (uL v.2.1) := rfl
theorem tl_m {k : Nat} {v : kV} (hm : v.1 = true) : tlF k v = [] := by unfold tlF; rw [if_pos hm]
theorem tl_1 {v : kV} (hm : v.1 = false) (h0 : 0 ≤ v.2.2.1.toInt) (h9 : v.2.2.1.toInt ≤ 9) : [by8 v.2.2.1] = tlF 1 v := by
  unfold tlF
  rw [hm]
  have e := nn_nI h0
  have : by8 v.2.2.1 = v.2.2.1.toInt.toNat := by
    rw [e, by8_nI (by omega), nI_toInt (by omega)]
    simp
  rw [this]
  rfl
theorem tl_3 {v : kV} (hm : v.1 = false) (h0 : -900 ≤ v.2.2.1.toInt) (h9 : v.2.2.1.toInt ≤ 900) : (be 2 (uL (v.2.2.1 + 1000).toInt64)).map (tnB 0) = tlF 3 v := by
  unfold tlF
  rw [hm, map_tn0]
  have e1 : (v.2.2.1 + 1000).toInt = v.2.2.1.toInt + 1000 := by
    rw [Int32.toInt_add]
    exact Int.bmod_eq_of_le (by simp; omega) (by simp; omega)
  have e2 : uL (v.2.2.1 + 1000).toInt64 = (v.2.2.1.toInt + 1000).toNat := by
    have h := uL_sgn (v.2.2.1 + 1000).toInt64
    have h2 := uL_lt (v.2.2.1 + 1000).toInt64
    rw [Int32.toInt_toInt64, e1] at h
    unfold sgnU at h
    split at h <;> omega
  rw [e2]
  rfl
theorem tl_0 {v : kV} : tlF 0 v = [] := by unfold tlF; split <;> rfl
theorem tl_2 {v : kV} : tlF 2 v = [] := by unfold tlF; split <;> rfl
theorem key_ap {K F : Nat → Nat} {T : Nat → kV} {c : Nat} (hc : c ≤ 5) (h : okT K F T c) : ap (ap [] (fldB K F T c)) (tlB K T c) = keyB K F T c := by
  have := keyB_len h
  rw [ap_ap, ap_eq (by rw [List.length_append]; simp; omega)]
  rfl
