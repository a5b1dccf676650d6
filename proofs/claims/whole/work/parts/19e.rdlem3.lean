/-! scales and offsets read -/
/-- what a scale's reading owes where a key stands there -/
def ScC (l0 : List Nat) (p k : Nat) (pe : Int32) (d0 : Int64) (ok : Bool) (p1 : Nat) (v1 : kV) : Prop := ∀ (x : Nat) (rest : List Nat) (z : Nat) (dv : Int64), l0.drop p = x :: rest → pe + nI x = nI z → z ≤ 16 → d0.toInt * 10 ^ z = dv.toInt → okN k dv (nI x) → -(10 : Int) ^ 15 ≤ dv.toInt → dv.toInt ≤ 10 ^ 15 → ok = true ∧ l0.drop p1 = rest ∧ v1 = (false, dv, nI x, [])
theorem ScC.nil {l0 : List Nat} {p k : Nat} {pe : Int32} {d0 : Int64} {ok : Bool} {p1 : Nat} {v1 : kV} (h : l0.length ≤ p) : ScC l0 p k pe d0 ok p1 v1 := fun x rest z dv e1 => by
  rw [List.drop_eq_nil_of_le h] at e1
  cases e1
theorem ScC.neg {l0 : List Nat} {p k : Nat} {pe : Int32} {d0 : Int64} {ok : Bool} {p1 : Nat} {v1 : kV} (h : ¬ 0 ≤ pe + nI (tnB 0 (l0.getD p 0))) : ScC l0 p k pe d0 ok p1 v1 := fun x rest z dv e1 e2 e3 => by
  obtain ⟨h1, rfl, h3⟩ := dcons e1
  rw [tnB0, e2] at h
  exact absurd (nI_pos' (by omega)) h
theorem abs_mono {x y B : Int} (hy : 1 ≤ y) (h1 : -B ≤ x * y) (h2 : x * y ≤ B) : -B ≤ x ∧ x ≤ B := by
  rcases Int.le_total 0 x with h | h
  · have h3 : x * 1 ≤ x * y := Int.mul_le_mul_of_nonneg_left hy h
    omega
  · have h3 : -x * 1 ≤ -x * y := Int.mul_le_mul_of_nonneg_left hy (by omega)
    rw [Int.neg_mul, Int.neg_mul] at h3
    omega
theorem p10_one (n : Nat) : (1 : Int) ≤ 10 ^ n := by
  have : (0 : Int) < 10 ^ n := Int.pow_pos (by decide)
  omega
theorem sc_mono {d : Int} {i z : Nat} (hi : i ≤ z) (h1 : -(10 : Int) ^ 15 ≤ d * 10 ^ z) (h2 : d * 10 ^ z ≤ 10 ^ 15) : -(10 : Int) ^ 15 ≤ d * 10 ^ i ∧ d * 10 ^ i ≤ 10 ^ 15 := by
  have e : d * 10 ^ z = (d * 10 ^ i) * 10 ^ (z - i) := by
    rw [Int.mul_assoc, ← Int.pow_add, show i + (z - i) = z by omega]
  rw [e] at h1 h2
  exact abs_mono (p10_one _) h1 h2
theorem sc_lim {m : Int64} (h : ¬ lg_cmp (if 0 < m then m else -m) 1000000000000000 ≤ 0) (h1 : -(10 : Int) ^ 15 ≤ m.toInt) (h2 : m.toInt ≤ 10 ^ 15) : False := by
  rw [abs_lN h1 h2, lg_cmp_le, show (1000000000000000 : Int64) = lN 1000000000000000 from rfl, pk_lLE (by omega) (by decide)] at h
  omega
theorem sc_mul {m : Int64} {d : Int} {i : Nat} (h : m.toInt = d * 10 ^ i) (h1 : -(10 : Int) ^ 15 ≤ d * 10 ^ (i + 1)) (h2 : d * 10 ^ (i + 1) ≤ 10 ^ 15) : (m * 10).toInt = d * 10 ^ (i + 1) := by
  rw [Int64.toInt_mul, h]
  have e : d * 10 ^ i * (10 : Int64).toInt = d * 10 ^ (i + 1) := by
    rw [show (10 : Int64).toInt = 10 by decide, Int.mul_assoc, Int.pow_succ]
  rw [e]
  exact m64 (by omega) (by omega)
theorem ScC.lim {l0 : List Nat} {p k : Nat} {pe : Int32} {d0 m : Int64} {ok : Bool} {p1 i z : Nat} {v1 : kV} (hz : z < 2 ^ 31) (ez : pe + nI (tnB 0 (l0.getD p 0)) = nI z) (hi : i ≤ z) (hm : ∀ dv : Int, d0.toInt * 10 ^ z = dv → -(10 : Int) ^ 15 ≤ dv → dv ≤ 10 ^ 15 → m.toInt = d0.toInt * 10 ^ i) (h : ¬ lg_cmp (if 0 < m then m else -m) 1000000000000000 ≤ 0) : ScC l0 p k pe d0 ok p1 v1 := fun x rest z' dv e1 e2 e3 e4 e5 e6 e7 => by
  obtain ⟨h1, rfl, h3⟩ := dcons e1
  rw [tnB0] at ez
  have hzz : z = z' := (nI_eq hz (by omega)).mp (ez.symm.trans e2)
  subst hzz
  rw [← e4] at e6 e7
  have hm1 := hm _ rfl e6 e7
  have := sc_mono hi e6 e7
  exact (sc_lim h (by rw [hm1]; exact this.1) (by rw [hm1]; exact this.2)).elim
theorem ScC.fin {l0 : List Nat} {p k : Nat} {pe : Int32} {d0 m : Int64} {b : Bool} {z : Nat} (hz : z < 2 ^ 31) (ez : pe + nI (tnB 0 (l0.getD p 0)) = nI z) (hm : ∀ dv : Int, d0.toInt * 10 ^ z = dv → -(10 : Int) ^ 15 ≤ dv → dv ≤ 10 ^ 15 → m.toInt = d0.toInt * 10 ^ z) (hb : b = true ↔ okN k m (nI (tnB 0 (l0.getD p 0)))) : ScC l0 p k pe d0 b (p + 1) (false, m, nI (tnB 0 (l0.getD p 0)), []) := fun x rest z' dv e1 e2 e3 e4 e5 e6 e7 => by
  obtain ⟨h1, rfl, h3⟩ := dcons e1
  rw [tnB0] at ez hb ⊢
  have hzz : z = z' := (nI_eq hz (by omega)).mp (ez.symm.trans e2)
  subst hzz
  have e8 : m = dv := Int64.toInt_inj.mp (by rw [← e4] at e6 e7; rw [hm _ rfl e6 e7, e4])
  subst e8
  exact ⟨hb.mpr e5, h3.symm, rfl⟩
/-- what an offset's reading owes where a key stands there -/
def OfC (l0 : List Nat) (p k : Nat) (d0 : Int64) (ok : Bool) (p1 : Nat) (v1 : kV) : Prop := ∀ (f : Int32) (rest : List Nat), l0.drop p = be 2 (f.toInt + 1000).toNat ++ rest → -900 ≤ f.toInt → f.toInt ≤ 900 → okN k d0 f → ok = true ∧ l0.drop p1 = rest ∧ v1 = (false, d0, f, [])
theorem be2 (u : Nat) (rest : List Nat) : be 2 u ++ rest = (u / 256 % 256) :: (u % 256) :: rest := by
  simp [be]
theorem OfC.nil {l0 : List Nat} {p k : Nat} {d0 : Int64} {ok : Bool} {p1 : Nat} {v1 : kV} (h : l0.length ≤ p + 1) : OfC l0 p k d0 ok p1 v1 := fun f rest e1 => by
  rw [be2] at e1
  obtain ⟨h1, h2, h3⟩ := dcons e1
  rw [List.drop_eq_nil_of_le h] at h3
  cases h3
theorem OfC.fin {l0 : List Nat} {p k : Nat} {d0 : Int64} {b : Bool} (hb : b = true ↔ okN k d0 (nI (tnB 0 (l0.getD p 0)) * 256 + nI (tnB 0 (l0.getD (p + 1) 0)) - 1000)) : OfC l0 p k d0 b (p + 1 + 1) (false, d0, nI (tnB 0 (l0.getD p 0)) * 256 + nI (tnB 0 (l0.getD (p + 1) 0)) - 1000, []) := fun f rest e1 h1 h2 h3 => by
  rw [be2] at e1
  obtain ⟨g1, g2, g3⟩ := dcons e1
  obtain ⟨g4, g5, g6⟩ := dcons g3.symm
  rw [tnB0, tnB0, ← g2, ← g5] at hb ⊢
  have e : nI ((f.toInt + 1000).toNat / 256 % 256) * 256 + nI ((f.toInt + 1000).toNat % 256) - 1000 = f := by
    rw [show (256 : Int32) = nI 256 from rfl, pk_mul, nI_add, show (f.toInt + 1000).toNat / 256 % 256 * 256 + (f.toInt + 1000).toNat % 256 = (f.toInt + 1000).toNat by omega]
    apply Int32.toInt_inj.mp
    rw [Int32.toInt_sub, nI_toInt (by omega), show (1000 : Int32).toInt = 1000 by decide]
    rw [Int.bmod_eq_of_le (by omega) (by omega)]
    omega
  rw [e] at hb ⊢
  exact ⟨hb.mpr h3, g6.symm, rfl⟩
