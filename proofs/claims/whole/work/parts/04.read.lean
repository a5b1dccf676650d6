/-! PURE: what is read from rows, and that it is what was written -/
theorem tnB_inv {t b : Nat} (hb : b < 256) : tnB t (tnB t b) = b := by
  unfold tnB
  split <;> omega
theorem tnB_255 (t : Nat) (h : t = 0 ∨ t = 255) (b : Nat) (hb : b < 256) : tnB (255 - t) b = tnB 255 (tnB t b) := by
  rcases h with rfl | rfl
  · simp [tnB]
  · simp [tnB]; omega
theorem map_tnB_inv {t : Nat} : ∀ {x : List Nat}, (∀ b ∈ x, b < 256) → (x.map (tnB t)).map (tnB t) = x
  | [], _ => rfl
  | b :: x, h => by
    simp only [List.map_cons]
    rw [tnB_inv (h b List.mem_cons_self), map_tnB_inv (fun b hb => h b (List.mem_cons_of_mem _ hb))]
/-- n bytes more behind a number -/
def rdBs (t : Nat) : Nat → Nat → List Nat → Option (Nat × List Nat)
  | 0, N, r => some (N, r)
  | _ + 1, _, [] => none
  | n + 1, N, x :: r => rdBs t n (N * 256 + tnB t x) r
theorem rdBs_be (t : Nat) : ∀ (n N u : Nat) (rest : List Nat), rdBs t n N ((be n u).map (tnB t) ++ rest) = some (N * 256 ^ n + u % 256 ^ n, rest)
  | 0, N, u, rest => by simp [be, rdBs, Nat.mod_one]
  | n + 1, N, u, rest => by
    simp only [be, List.map_cons, List.cons_append, rdBs]
    rw [tnB_inv (Nat.mod_lt _ (by decide)), rdBs_be t n]
    congr 2
    rw [Nat.pow_succ, Nat.mod_mul (a := 256 ^ n) (b := 256), Nat.add_mul, Nat.mul_assoc, Nat.mul_comm 256 (256 ^ n), Nat.mul_comm (u / 256 ^ n % 256), Nat.add_assoc, Nat.add_comm (256 ^ n * (u / 256 ^ n % 256))]
/-- an INT: mark, bytes; the number as one to be taken modulo 2^64 -/
def rdI (t : Nat) : List Nat → Option (Nat × List Nat)
  | [] => none
  | x :: r => if tnB t x ≤ 127 then (if 8 < 127 - tnB t x then none else rdBs t (127 - tnB t x) (2 ^ 64 - 1) r) else (if 8 < tnB t x - 128 then none else rdBs t (tnB t x - 128) 0 r)
theorem rdI_enc {t u : Nat} (hu : u < 2 ^ 64) (rest : List Nat) : ∃ N, rdI t ((encU u).map (tnB t) ++ rest) = some (N, rest) ∧ N % 2 ^ 64 = u := by
  unfold encU
  by_cases h : u < 2 ^ 63
  · have h8 := nby_8 hu
    have hl := nby_lt u
    refine ⟨0 * 256 ^ nby u + u % 256 ^ nby u, ?_, ?_⟩
    · rw [if_pos h]
      simp only [List.map_cons, List.cons_append, rdI]
      rw [tnB_inv (by omega), if_neg (by omega), if_neg (by omega), Nat.add_sub_cancel_left, rdBs_be]
    · rw [Nat.mod_eq_of_lt hl]; omega
  · obtain ⟨m, hm⟩ : ∃ m, m = 2 ^ 64 - 1 - u := ⟨_, rfl⟩
    have h8 := nby_8 (u := m) (by omega)
    have hl := nby_lt m
    refine ⟨(2 ^ 64 - 1) * 256 ^ nby m + u % 256 ^ nby m, ?_, ?_⟩
    · rw [if_neg h, ← hm]
      simp only [List.map_cons, List.cons_append, rdI]
      rw [tnB_inv (by omega), if_pos (by omega), if_neg (by omega), show 127 - (127 - nby m) = nby m by omega, rdBs_be]
    · have e8 : (2 : Nat) ^ 64 = 256 ^ nby m * 256 ^ (8 - nby m) := by
        rw [← Nat.pow_add, show nby m + (8 - nby m) = 8 by omega]
      have hq := pow_pos' (8 - nby m)
      have hp := pow_pos' (nby m)
      generalize 256 ^ (8 - nby m) = q at *
      generalize 256 ^ nby m = p at *
      obtain ⟨q', rfl⟩ : ∃ q', q = q' + 1 := ⟨q - 1, by omega⟩
      have e9 : u = (p - 1 - m) + p * q' := by
        rw [Nat.mul_add] at e8
        omega
      have e10 : u % p = p - 1 - m := by
        rw [e9, Nat.add_mul_mod_self_left]
        exact Nat.mod_eq_of_lt (by omega)
      rw [e10]
      have e11 : (2 ^ 64 - 1) * p + (p - 1 - m) = u + 2 ^ 64 * (p - 1) := by
        obtain ⟨p', rfl⟩ : ∃ p', p = p' + 1 := ⟨p - 1, by omega⟩
        have : (2 ^ 64 - 1) * (p' + 1) = 2 ^ 64 * p' + 2 ^ 64 - 1 - p' := by omega
        omega
      rw [e11, Nat.add_mul_mod_self_left]
      exact Nat.mod_eq_of_lt hu
/-- a TEXT: k rounds -/
def rdT (t : Nat) : Nat → List Nat → List Nat → Option (List Nat × List Nat)
  | 0, _, _ => none
  | _ + 1, _, [] => none
  | k + 1, acc, x :: r =>
    if tnB t x = 0 then
      match r with
      | [] => none
      | y :: r' => if tnB t y = 255 then (if acc.length < 10 then rdT t k (acc ++ [0]) r' else none) else (if tnB t y = 1 then some (acc, r') else none)
    else (if acc.length < 10 then rdT t k (acc ++ [tnB t x]) r else none)
theorem rdT_enc {t : Nat} : ∀ (x acc rest : List Nat) (k : Nat), (∀ b ∈ x, b < 256) → acc.length + x.length ≤ 10 → x.length < k → rdT t k acc ((encT x).map (tnB t) ++ rest) = some (acc ++ x, rest)
  | [], acc, rest, k, _, _, hk => by
    obtain ⟨j, rfl⟩ : ∃ j, k = j + 1 := ⟨k - 1, by omega⟩
    simp only [encT, List.map_cons, List.map_nil, List.cons_append, List.nil_append, rdT]
    rw [tnB_inv (by decide), tnB_inv (by decide)]
    simp
  | b :: x, acc, rest, k, hb, hl, hk => by
    simp only [List.length_cons] at hl hk
    obtain ⟨j, rfl⟩ : ∃ j, k = j + 1 := ⟨k - 1, by omega⟩
    have hb0 := hb b List.mem_cons_self
    have ih := fun c => rdT_enc (t := t) x (acc ++ [c]) rest j (fun b h => hb b (List.mem_cons_of_mem _ h)) (by simp only [List.length_append, List.length_singleton]; omega) (by omega)
    unfold encT
    by_cases h0 : b = 0
    · subst h0
      simp only [if_true, List.map_cons, List.cons_append, rdT]
      rw [tnB_inv (by decide), tnB_inv (by decide), if_pos rfl, if_pos rfl, if_pos (by omega), ih]
      simp
    · simp only [h0, if_false, List.map_cons, List.cons_append, rdT]
      rw [tnB_inv hb0, if_neg h0, if_pos (by omega), ih]
      simp
/-- the digits of a DECIMAL: up to k digits more; how many there were -/
def rdG (t : Nat) : Nat → Nat → Nat → List Nat → Option (Nat × Nat × List Nat)
  | _, _, _, [] => none
  | 0, i, v, x :: r => if tnB t x = 0 then some (v, i, r) else none
  | k + 1, i, v, x :: r => if tnB t x = 0 then some (v, i, r) else if 10 < tnB t x then none else rdG t k (i + 1) (v * 10 + (tnB t x - 1)) r
/-- how many 0s are dropped at the end of v as a number of k places -/
def zer : Nat → Nat → Nat
  | 0, _ => 0
  | k + 1, v => if v = 0 then k + 1 else zer k (v % 10 ^ k)
theorem zer_le : ∀ k v : Nat, zer k v ≤ k
  | 0, _ => Nat.le_refl _
  | k + 1, v => by
    unfold zer
    split
    · exact Nat.le_refl _
    · have := zer_le k (v % 10 ^ k); omega
theorem rdG_dgl {t : Nat} : ∀ (k j i v u : Nat) (rest : List Nat), u < 10 ^ k → k - zer k u ≤ j → ∃ q, rdG t j i v ((dgl k u).map (tnB t) ++ rest) = some (q, i + (k - zer k u), rest) ∧ q * 10 ^ zer k u = v * 10 ^ k + u
  | 0, j, i, v, u, rest, hu, hj => by
    have : u = 0 := by simp at hu; omega
    subst this
    refine ⟨v, ?_, by simp [zer]⟩
    simp only [dgl, List.map_cons, List.map_nil, List.cons_append, List.nil_append, zer]
    cases j <;> (simp only [rdG]; rw [tnB_inv (by decide)]; simp)
  | k + 1, j, i, v, u, rest, hu, hj => by
    by_cases h0 : u = 0
    · subst h0
      refine ⟨v, ?_, by simp [zer]⟩
      rw [dgl_0]
      simp only [List.map_cons, List.map_nil, List.cons_append, List.nil_append, zer, if_true, Nat.sub_self, Nat.add_zero]
      cases j <;> (simp only [rdG]; rw [tnB_inv (by decide)]; simp)
    · have hp := p10_pos k
      have hd : u / 10 ^ k < 10 := (Nat.div_lt_iff_lt_mul hp).mpr (by rw [Nat.pow_succ] at hu; rw [Nat.mul_comm]; exact hu)
      have ez : zer (k + 1) u = zer k (u % 10 ^ k) := by simp [zer, h0]
      rw [ez] at hj ⊢
      have zl := zer_le k (u % 10 ^ k)
      obtain ⟨j', rfl⟩ : ∃ j', j = j' + 1 := ⟨j - 1, by omega⟩
      obtain ⟨q, hq1, hq2⟩ := rdG_dgl (t := t) k j' (i + 1) (v * 10 + u / 10 ^ k) (u % 10 ^ k) rest (Nat.mod_lt _ hp) (by omega)
      refine ⟨q, ?_, ?_⟩
      · rw [dgl_s h0]
        simp only [List.map_cons, List.cons_append, rdG]
        rw [tnB_inv (by omega), if_neg (Nat.succ_ne_zero _), if_neg (by omega), Nat.add_sub_cancel, hq1]
        congr 3
        omega
      · rw [hq2]
        have := Nat.div_add_mod u (10 ^ k)
        rw [Nat.add_mul, Nat.pow_succ, Nat.mul_assoc, Nat.mul_comm 10 (10 ^ k), Nat.mul_comm (u / 10 ^ k), Nat.add_assoc, this]
