/-! PURE: rows of bytes, their order, what is strongly apart. No machine here. -/
def cmpB : List Nat → List Nat → Int
  | [], [] => 0
  | [], _ :: _ => -1
  | _ :: _, [] => 1
  | a :: x, b :: y => if a < b then -1 else if b < a then 1 else cmpB x y
def shrB : List Nat → List Nat → Nat
  | [], _ => 0
  | _ :: _, [] => 0
  | a :: x, b :: y => if a = b then shrB x y + 1 else 0
def ordN (a b : Nat) : Int := if a < b then -1 else if b < a then 1 else 0
def ordI (a b : Int) : Int := if a < b then -1 else if b < a then 1 else 0
/-- equal (c = 0), or apart at a place that both have, the sign of which is c -/
def Df (c : Int) (x y : List Nat) : Prop := (c = 0 ∧ x = y) ∨ ∃ (z : List Nat) (a b : Nat) (x' y' : List Nat), x = z ++ a :: x' ∧ y = z ++ b :: y' ∧ ((a < b ∧ c = -1) ∨ (b < a ∧ c = 1))
theorem cmpB_self : ∀ x : List Nat, cmpB x x = 0
  | [] => rfl
  | a :: x => by simp only [cmpB, Nat.lt_irrefl, if_false]; exact cmpB_self x
theorem cmpB_app : ∀ (z x y : List Nat), cmpB (z ++ x) (z ++ y) = cmpB x y
  | [], _, _ => rfl
  | a :: z, x, y => by simp only [List.cons_append, cmpB, Nat.lt_irrefl, if_false]; exact cmpB_app z x y
theorem Df.cmp {c : Int} {x y : List Nat} (h : Df c x y) (r1 r2 : List Nat) : cmpB (x ++ r1) (y ++ r2) = if c = 0 then cmpB r1 r2 else c := by
  rcases h with ⟨rfl, rfl⟩ | ⟨z, a, b, x', y', rfl, rfl, h⟩
  · rw [cmpB_app, if_pos rfl]
  · rw [List.append_assoc, List.append_assoc, cmpB_app, List.cons_append, List.cons_append]
    rcases h with ⟨h, rfl⟩ | ⟨h, rfl⟩
    · simp [cmpB, h]
    · have h2 : ¬ a < b := by omega
      simp [cmpB, h, h2]
theorem Df.cmp0 {c : Int} {x y : List Nat} (h : Df c x y) : cmpB x y = c := by
  have := h.cmp [] []
  simp only [List.append_nil, cmpB] at this
  rw [this]
  by_cases hc : c = 0 <;> simp [hc]
theorem Df.rfl' (x : List Nat) : Df 0 x x := Or.inl ⟨rfl, rfl⟩
theorem Df.seq {c1 c2 : Int} {x1 y1 x2 y2 : List Nat} (h1 : Df c1 x1 y1) (h2 : Df c2 x2 y2) : Df (if c1 = 0 then c2 else c1) (x1 ++ x2) (y1 ++ y2) := by
  rcases h1 with ⟨rfl, rfl⟩ | ⟨z, a, b, x', y', rfl, rfl, h⟩
  · rw [if_pos rfl]
    rcases h2 with ⟨rfl, rfl⟩ | ⟨z, a, b, x', y', rfl, rfl, h⟩
    · exact Or.inl ⟨rfl, rfl⟩
    · exact Or.inr ⟨x1 ++ z, a, b, x', y', by simp, by simp, h⟩
  · have hc : ¬ c1 = 0 := by omega
    rw [if_neg hc]
    exact Or.inr ⟨z, a, b, x' ++ x2, y' ++ y2, by simp, by simp, h⟩
theorem Df.lt {a b : Nat} (h : a < b) (x y : List Nat) : Df (-1) (a :: x) (b :: y) := Or.inr ⟨[], a, b, x, y, rfl, rfl, Or.inl ⟨h, rfl⟩⟩
theorem Df.gt {a b : Nat} (h : b < a) (x y : List Nat) : Df 1 (a :: x) (b :: y) := Or.inr ⟨[], a, b, x, y, rfl, rfl, Or.inr ⟨h, rfl⟩⟩
theorem Df.cons {c : Int} {x y : List Nat} (a : Nat) (h : Df c x y) : Df c (a :: x) (a :: y) := by
  have := Df.seq (Df.rfl' [a]) h
  simpa using this
theorem Df.cons2 {c : Int} {x y : List Nat} (a b : Nat) (h : Df c x y) : Df (if ordN a b = 0 then c else ordN a b) (a :: x) (b :: y) := by
  unfold ordN
  by_cases h1 : a < b
  · simp only [h1, if_true]; exact Df.lt h1 x y
  · by_cases h2 : b < a
    · simp only [h1, h2, if_true, if_false]; exact Df.gt h2 x y
    · have : a = b := by omega
      subst this
      simp only [h1, if_false, if_true]
      exact Df.cons a h
theorem Df.swap {c : Int} {x y : List Nat} (h : Df c x y) : Df (-c) y x := by
  rcases h with ⟨rfl, rfl⟩ | ⟨z, a, b, x', y', rfl, rfl, h⟩
  · exact Or.inl ⟨rfl, rfl⟩
  · refine Or.inr ⟨z, b, a, y', x', rfl, rfl, ?_⟩
    rcases h with ⟨h, rfl⟩ | ⟨h, rfl⟩
    · exact Or.inr ⟨h, rfl⟩
    · exact Or.inl ⟨h, rfl⟩
/-- a byte turned: 255 less it, where the turn isn't 0 -/
def tnB (t b : Nat) : Nat := if t = 0 then b else 255 - b
theorem tnB0 (b : Nat) : tnB 0 b = b := rfl
theorem tnB1 (b : Nat) : tnB 255 b = 255 - b := rfl
theorem tnB_lt {t b : Nat} (h : b < 256) : tnB t b < 256 := by unfold tnB; split <;> omega
theorem Df.turn {c : Int} {x y : List Nat} (hx : ∀ b ∈ x, b < 256) (hy : ∀ b ∈ y, b < 256) (h : Df c x y) : Df (-c) (x.map (tnB 255)) (y.map (tnB 255)) := by
  rcases h with ⟨rfl, rfl⟩ | ⟨z, a, b, x', y', rfl, rfl, h⟩
  · exact Or.inl ⟨rfl, rfl⟩
  · refine Or.inr ⟨z.map (tnB 255), tnB 255 a, tnB 255 b, x'.map (tnB 255), y'.map (tnB 255), by simp, by simp, ?_⟩
    have ha : a < 256 := hx a (by simp)
    have hb : b < 256 := hy b (by simp)
    rw [tnB1, tnB1]
    rcases h with ⟨h, rfl⟩ | ⟨h, rfl⟩
    · exact Or.inr ⟨by omega, rfl⟩
    · exact Or.inl ⟨by omega, rfl⟩
/-! numbers as bytes -/
def be : Nat → Nat → List Nat
  | 0, _ => []
  | n + 1, u => (u / 256 ^ n % 256) :: be n u
theorem be_len : ∀ n u : Nat, (be n u).length = n
  | 0, _ => rfl
  | n + 1, u => by simp [be, be_len n u]
theorem be_lt : ∀ (n u : Nat), ∀ b ∈ be n u, b < 256
  | 0, _, b, h => by cases h
  | n + 1, u, b, h => by
    rcases List.mem_cons.mp h with h | h
    · rw [h]; exact Nat.mod_lt _ (by decide)
    · exact be_lt n u b h
theorem pow_pos' (n : Nat) : 0 < 256 ^ n := Nat.pow_pos (by decide)
theorem be_mod : ∀ (n m u : Nat), n ≤ m → be n (u % 256 ^ m) = be n u
  | 0, _, _, _ => rfl
  | n + 1, m, u, h => by
    simp only [be]
    rw [be_mod n m u (by omega)]
    congr 1
    obtain ⟨k, rfl⟩ : ∃ k, m = (n + 1) + k := ⟨m - (n + 1), by omega⟩
    have e1 : (256 : Nat) ^ (n + 1 + k) = 256 ^ n * (256 * 256 ^ k) := by rw [Nat.pow_add, Nat.pow_succ, Nat.mul_assoc]
    rw [e1, Nat.mod_mul_right_div_self, Nat.mod_mul_right_mod]
theorem be_df : ∀ (n u v : Nat), u < 256 ^ n → v < 256 ^ n → Df (ordN u v) (be n u) (be n v)
  | 0, u, v, hu, hv => by
    have : u = v := by simp at hu hv; omega
    subst this
    simp only [ordN, Nat.lt_irrefl, if_false]
    exact Df.rfl' _
  | n + 1, u, v, hu, hv => by
    have hp := pow_pos' n
    have hu1 : u / 256 ^ n < 256 := (Nat.div_lt_iff_lt_mul hp).mpr (by rw [Nat.pow_succ] at hu; rw [Nat.mul_comm]; exact hu)
    have hv1 : v / 256 ^ n < 256 := (Nat.div_lt_iff_lt_mul hp).mpr (by rw [Nat.pow_succ] at hv; rw [Nat.mul_comm]; exact hv)
    simp only [be]
    rw [Nat.mod_eq_of_lt hu1, Nat.mod_eq_of_lt hv1, ← be_mod n n u (Nat.le_refl _), ← be_mod n n v (Nat.le_refl _)]
    have h := Df.cons2 (u / 256 ^ n) (v / 256 ^ n) (be_df n (u % 256 ^ n) (v % 256 ^ n) (Nat.mod_lt _ hp) (Nat.mod_lt _ hp))
    have e : (if ordN (u / 256 ^ n) (v / 256 ^ n) = 0 then ordN (u % 256 ^ n) (v % 256 ^ n) else ordN (u / 256 ^ n) (v / 256 ^ n)) = ordN u v := by
      have du := Nat.div_add_mod u (256 ^ n)
      have dv := Nat.div_add_mod v (256 ^ n)
      have mu := Nat.mod_lt u hp
      have mv := Nat.mod_lt v hp
      generalize u / 256 ^ n = q1 at *
      generalize v / 256 ^ n = q2 at *
      generalize u % 256 ^ n = r1 at *
      generalize v % 256 ^ n = r2 at *
      generalize 256 ^ n = P at *
      unfold ordN
      by_cases h1 : q1 < q2
      · have : P * (q1 + 1) ≤ P * q2 := Nat.mul_le_mul_left P h1
        rw [Nat.mul_add] at this
        have h3 : u < v := by omega
        simp [h1, h3]
      · by_cases h2 : q2 < q1
        · have : P * (q2 + 1) ≤ P * q1 := Nat.mul_le_mul_left P h2
          rw [Nat.mul_add] at this
          have h3 : v < u := by omega
          have h4 : ¬ u < v := by omega
          simp [h1, h2, h3, h4]
        · have h3 : q1 = q2 := by omega
          subst h3
          simp only [Nat.lt_irrefl, if_false, if_true]
          have e1 : (u < v) = (r1 < r2) := propext ⟨fun _ => by omega, fun _ => by omega⟩
          have e2 : (v < u) = (r2 < r1) := propext ⟨fun _ => by omega, fun _ => by omega⟩
          simp only [e1, e2]
    rw [e] at h
    exact h
/-- how many bytes a number needs -/
def nby (u : Nat) : Nat := if u = 0 then 0 else nby (u / 256) + 1
termination_by u
decreasing_by exact Nat.div_lt_self (by omega) (by decide)
theorem nby_0 : nby 0 = 0 := by unfold nby; rfl
theorem nby_s {u : Nat} (h : u ≠ 0) : nby u = nby (u / 256) + 1 := by rw [nby]; simp [h]
theorem nby_lt (u : Nat) : u < 256 ^ nby u := by
  induction u using Nat.strongRecOn with
  | ind u ih =>
    by_cases h : u = 0
    · subst h; rw [nby_0]; decide
    · rw [nby_s h, Nat.pow_succ]
      have := ih (u / 256) (Nat.div_lt_self (by omega) (by decide))
      omega
theorem nby_ge {u n : Nat} (h : nby u = n + 1) : 256 ^ n ≤ u := by
  induction u using Nat.strongRecOn generalizing n with
  | ind u ih =>
    by_cases h0 : u = 0
    · subst h0; rw [nby_0] at h; cases h
    · rw [nby_s h0] at h
      have h1 : nby (u / 256) = n := by omega
      cases n with
      | zero => simp; omega
      | succ m =>
        have := ih (u / 256) (Nat.div_lt_self (by omega) (by decide)) h1
        rw [Nat.pow_succ]
        omega
theorem nby_le {u n : Nat} (h : u < 256 ^ n) : nby u ≤ n := by
  cases hk : nby u with
  | zero => omega
  | succ k =>
    have := nby_ge hk
    have h2 : 256 ^ k < 256 ^ n := Nat.lt_of_le_of_lt this h
    have := (Nat.pow_lt_pow_iff_right (a := 256) (by decide)).mp h2
    omega
theorem nby_mono {u v : Nat} (h : u ≤ v) : nby u ≤ nby v := nby_le (Nat.lt_of_le_of_lt h (nby_lt v))
/-- an INT's bytes; u: the long as a number 0 .. 2^64 - 1 -/
def encU (u : Nat) : List Nat := if u < 2 ^ 63 then (128 + nby u) :: be (nby u) u else (127 - nby (2 ^ 64 - 1 - u)) :: be (nby (2 ^ 64 - 1 - u)) u
def sgnU (u : Nat) : Int := if u < 2 ^ 63 then (u : Int) else (u : Int) - 2 ^ 64
theorem nby_8 {u : Nat} (h : u < 2 ^ 64) : nby u ≤ 8 := nby_le (n := 8) (by rw [show (256 : Nat) ^ 8 = 2 ^ 64 by decide]; exact h)
theorem encU_lt {u : Nat} (h : u < 2 ^ 64) : ∀ b ∈ encU u, b < 256 := by
  intro b hb
  unfold encU at hb
  split at hb
  · have := nby_8 h
    rcases List.mem_cons.mp hb with hb | hb
    · omega
    · exact be_lt _ _ b hb
  · rcases List.mem_cons.mp hb with hb | hb
    · omega
    · exact be_lt _ _ b hb
theorem encU_len {u : Nat} (h : u < 2 ^ 64) : (encU u).length ≤ 9 := by
  unfold encU
  split
  · have := nby_8 h
    simp only [List.length_cons, be_len]; omega
  · have := nby_8 (u := 2 ^ 64 - 1 - u) (by omega)
    simp only [List.length_cons, be_len]; omega
theorem ord_flip {a b c d : Nat} (h1 : (a < b) = (d < c)) (h2 : (b < a) = (c < d)) : ordN a b = ordN d c := by unfold ordN; simp only [h1, h2]
theorem encU_df {u v : Nat} (hu : u < 2 ^ 64) (hv : v < 2 ^ 64) : Df (ordI (sgnU u) (sgnU v)) (encU u) (encU v) := by
  unfold encU sgnU
  by_cases h1 : u < 2 ^ 63 <;> by_cases h2 : v < 2 ^ 63
  · simp only [h1, h2, if_true]
    have e : ordI (u : Int) (v : Int) = ordN u v := by
      unfold ordI ordN
      simp only [Int.ofNat_lt]
    rw [e]
    by_cases h3 : nby u < nby v
    · have : u < v := Nat.not_le.mp fun h => by have := nby_mono h; omega
      simp only [ordN, this, if_true]
      exact Df.lt (by omega) _ _
    · by_cases h4 : nby v < nby u
      · have : v < u := Nat.not_le.mp fun h => by have := nby_mono h; omega
        have h5 : ¬ u < v := by omega
        simp only [ordN, this, h5, if_true, if_false]
        exact Df.gt (by omega) _ _
      · have h5 : nby u = nby v := by omega
        have := be_df (nby v) u v (by rw [← h5]; exact nby_lt u) (nby_lt v)
        rw [h5]
        exact Df.cons _ this
  · simp only [h1, h2, if_true, if_false]
    have e : ordI (u : Int) ((v : Int) - 2 ^ 64) = 1 := by
      unfold ordI
      rw [if_neg (by omega), if_pos (by omega)]
    rw [e]
    exact Df.gt (by omega) _ _
  · simp only [h1, h2, if_true, if_false]
    have e : ordI ((u : Int) - 2 ^ 64) (v : Int) = -1 := by
      unfold ordI
      rw [if_pos (by omega)]
    rw [e]
    exact Df.lt (by omega) _ _
  · simp only [h1, h2, if_false]
    have e : ordI ((u : Int) - 2 ^ 64) ((v : Int) - 2 ^ 64) = ordN u v := by
      unfold ordI ordN
      have e1 : ((u : Int) - 2 ^ 64 < (v : Int) - 2 ^ 64) = (u < v) := propext ⟨fun _ => by omega, fun _ => by omega⟩
      have e2 : ((v : Int) - 2 ^ 64 < (u : Int) - 2 ^ 64) = (v < u) := propext ⟨fun _ => by omega, fun _ => by omega⟩
      simp only [e1, e2]
    rw [e]
    obtain ⟨x, hx⟩ : ∃ x, x = 2 ^ 64 - 1 - u := ⟨_, rfl⟩
    obtain ⟨y, hy⟩ : ∃ y, y = 2 ^ 64 - 1 - v := ⟨_, rfl⟩
    rw [← hx, ← hy]
    have n8x : nby x ≤ 8 := nby_8 (by omega)
    have n8y : nby y ≤ 8 := nby_8 (by omega)
    by_cases h3 : nby x < nby y
    · have hxy : x < y := Nat.not_le.mp fun h => by have := nby_mono h; omega
      have h4 : ¬ u < v := by omega
      have h5 : v < u := by omega
      simp only [ordN, h4, h5, if_true, if_false]
      exact Df.gt (by omega) _ _
    · by_cases h4 : nby y < nby x
      · have hxy : y < x := Nat.not_le.mp fun h => by have := nby_mono h; omega
        have h5 : u < v := by omega
        simp only [ordN, h5, if_true]
        exact Df.lt (by omega) _ _
      · have h5 : nby x = nby y := by omega
        rw [h5]
        refine Df.cons _ ?_
        have lx : x < 256 ^ nby y := by rw [← h5]; exact nby_lt x
        have ly := nby_lt y
        have key : ∀ z : Nat, z < 256 ^ nby y → z < 2 ^ 64 → (2 ^ 64 - 1 - z) % 256 ^ nby y = 256 ^ nby y - 1 - z := by
          intro z hz hz2
          have e8 : (2 : Nat) ^ 64 = 256 ^ nby y * 256 ^ (8 - nby y) := by
            rw [← Nat.pow_add, show nby y + (8 - nby y) = 8 by omega]
          have hq := pow_pos' (8 - nby y)
          generalize 256 ^ (8 - nby y) = q at *
          generalize 256 ^ nby y = p at *
          obtain ⟨q', rfl⟩ : ∃ q', q = q' + 1 := ⟨q - 1, by omega⟩
          have e9 : 2 ^ 64 - 1 - z = (p - 1 - z) + p * q' := by
            rw [Nat.mul_add] at e8
            omega
          rw [e9, Nat.add_mul_mod_self_left]
          exact Nat.mod_eq_of_lt (by omega)
        have eu : u = 2 ^ 64 - 1 - x := by omega
        have ev : v = 2 ^ 64 - 1 - y := by omega
        have := be_df (nby y) (u % 256 ^ nby y) (v % 256 ^ nby y) (Nat.mod_lt _ (pow_pos' _)) (Nat.mod_lt _ (pow_pos' _))
        rw [be_mod _ _ _ (Nat.le_refl _), be_mod _ _ _ (Nat.le_refl _)] at this
        have e3 : ordN (u % 256 ^ nby y) (v % 256 ^ nby y) = ordN u v := by
          rw [eu, ev, key x lx (by omega), key y ly (by omega)]
          unfold ordN
          have e1 : (256 ^ nby y - 1 - x < 256 ^ nby y - 1 - y) = (2 ^ 64 - 1 - x < 2 ^ 64 - 1 - y) := propext ⟨fun _ => by omega, fun _ => by omega⟩
          have e2 : (256 ^ nby y - 1 - y < 256 ^ nby y - 1 - x) = (2 ^ 64 - 1 - y < 2 ^ 64 - 1 - x) := propext ⟨fun _ => by omega, fun _ => by omega⟩
          simp only [e1, e2]
        rw [e3] at this
        exact this
/-! texts -/
def encT : List Nat → List Nat
  | [] => [0, 1]
  | b :: x => if b = 0 then 0 :: 255 :: encT x else b :: encT x
theorem encT_lt : ∀ x : List Nat, (∀ b ∈ x, b < 256) → ∀ b ∈ encT x, b < 256
  | [], _, b, h => by simp [encT] at h; omega
  | c :: x, hx, b, h => by
    have ih := encT_lt x (fun b hb => hx b (List.mem_cons_of_mem _ hb))
    have hc := hx c List.mem_cons_self
    unfold encT at h
    split at h
    · rcases List.mem_cons.mp h with h | h
      · omega
      · rcases List.mem_cons.mp h with h | h
        · omega
        · exact ih b h
    · rcases List.mem_cons.mp h with h | h
      · omega
      · exact ih b h
theorem encT_len : ∀ x : List Nat, (encT x).length ≤ 2 * x.length + 2
  | [] => by simp [encT]
  | c :: x => by
    have := encT_len x
    unfold encT
    split <;> simp only [List.length_cons] <;> omega
theorem encT_df : ∀ x y : List Nat, Df (cmpB x y) (encT x) (encT y)
  | [], [] => Df.rfl' _
  | [], b :: y => by
    show Df (-1) [0, 1] (encT (b :: y))
    unfold encT
    split
    · exact Df.cons 0 (Df.lt (by decide) _ _)
    · exact Df.lt (by omega) _ _
  | a :: x, [] => by
    show Df 1 (encT (a :: x)) [0, 1]
    unfold encT
    split
    · exact Df.cons 0 (Df.gt (by decide) _ _)
    · exact Df.gt (by omega) _ _
  | a :: x, b :: y => by
    have ih := encT_df x y
    unfold encT cmpB
    by_cases h1 : a < b
    · have hb : ¬ b = 0 := by omega
      simp only [h1, if_true, hb, if_false]
      by_cases ha : a = 0
      · simp only [ha, if_true]; exact Df.lt (by omega) _ _
      · simp only [ha, if_false]; exact Df.lt h1 _ _
    · by_cases h2 : b < a
      · have ha : ¬ a = 0 := by omega
        simp only [h1, h2, if_true, ha, if_false]
        by_cases hb : b = 0
        · simp only [hb, if_true]; exact Df.gt (by omega) _ _
        · simp only [hb, if_false]; exact Df.gt h2 _ _
      · have : a = b := by omega
        subst this
        simp only [h1, if_false]
        by_cases ha : a = 0
        · simp only [ha, if_true]; exact Df.cons 0 (Df.cons 255 ih)
        · simp only [ha, if_false]; exact Df.cons a ih
