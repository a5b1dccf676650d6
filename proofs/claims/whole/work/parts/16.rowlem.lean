/-! small facts of rows -/
def ci32 (x y : Int32) : Int32 := if x < y then -1 else if x = y then 0 else 1
theorem row_ix {i : Int32} {n : Nat} (h0 : ¬ i < 0) (h : ¬ nI n ≤ i) (hn : n < 2 ^ 31) : ∃ j : Nat, j < n ∧ i = nI j := by
  obtain ⟨j, hj, rfl⟩ := nI_of h0
  exact ⟨j, Nat.not_le.mp (fun z => h ((nI_leI hn hj).mpr z)), rfl⟩
theorem atB_neg {l : List Nat} {i : Int32} (h : i < 0) : atB l i = -1 := by
  unfold atB
  rw [if_neg (fun z => k2_nlt z.1 h)]
theorem atB_big {l : List Nat} {i : Int32} (h : nI l.length ≤ i) : atB l i = -1 := by
  unfold atB
  rw [if_neg (fun z => k2_nlt h z.2)]
theorem atB_in {l : List Nat} {j : Nat} (hj : j < l.length) (hl : l.length < 2 ^ 31) : atB l (nI j) = nI (l.getD j 0) := by
  unfold atB
  rw [if_pos ⟨nI_pos' (by omega), nI_lt hj hl⟩, nI_clamp (by omega)]
theorem atB_out {l : List Nat} {j : Nat} (hj : l.length ≤ j) (h : j < 2 ^ 31) : atB l (nI j) = -1 := atB_big (nI_le hj h)
theorem mn_eq {a b : Nat} (ha : a < 2 ^ 31) (hb : b < 2 ^ 31) : (if nI b < nI a then nI b else nI a) = nI (min a b) := by
  by_cases h : b < a
  · rw [if_pos ((nI_ltI hb ha).mpr h), Nat.min_eq_right (by omega)]
  · rw [if_neg (fun z => h ((nI_ltI hb ha).mp z)), Nat.min_eq_left (by omega)]
theorem dropD {l : List Nat} {i : Nat} (h : i < l.length) : l.drop i = l.getD i 0 :: l.drop (i + 1) := by
  rw [List.drop_eq_getElem_cons h, List.getD_eq_getElem?_getD, List.getElem?_eq_getElem h]
  rfl
theorem shr_step {l r : List Nat} {i : Nat} (h1 : i < l.length) (h2 : i < r.length) (e : l.getD i 0 = r.getD i 0) : shrB (l.drop i) (r.drop i) = shrB (l.drop (i + 1)) (r.drop (i + 1)) + 1 := by
  rw [dropD h1, dropD h2, shrB, if_pos e]
theorem shr_stop {l r : List Nat} {i : Nat} (h1 : i < l.length) (h2 : i < r.length) (e : ¬ l.getD i 0 = r.getD i 0) : shrB (l.drop i) (r.drop i) = 0 := by
  rw [dropD h1, dropD h2, shrB, if_neg e]
theorem shr_end {l r : List Nat} {i : Nat} (h : l.length ≤ i ∨ r.length ≤ i) : shrB (l.drop i) (r.drop i) = 0 := by
  rcases h with h | h
  · rw [List.drop_eq_nil_of_le h]; rfl
  · rw [List.drop_eq_nil_of_le h]
    cases l.drop i <;> rfl
theorem nI_byte {x y : Nat} (hx : x < 256) (hy : y < 256) (h : nI x = nI y) : x = y := (nI_eq (by omega) (by omega)).mp h
theorem getD_lt {l : List Nat} (h : ∀ b ∈ l, b < 256) (i : Nat) : l.getD i 0 < 256 := by
  rw [List.getD_eq_getElem?_getD]
  cases hi : l[i]? with
  | none => decide
  | some b => exact h b (List.mem_of_getElem? hi)
theorem shrB_le : ∀ l r : List Nat, shrB l r ≤ l.length ∧ shrB l r ≤ r.length
  | [], _ => ⟨Nat.le_refl _, Nat.zero_le _⟩
  | _ :: _, [] => ⟨Nat.zero_le _, Nat.le_refl _⟩
  | a :: x, b :: y => by
    have := shrB_le x y
    unfold shrB
    split <;> simp only [List.length_cons] <;> omega
/-- the byte at a place as a number, -1 where there is none -/
def atN (l : List Nat) (i : Nat) : Int := if i < l.length then (l.getD i 0 : Int) else -1
theorem atN_b {l : List Nat} (h : ∀ b ∈ l, b < 256) (i : Nat) : -1 ≤ atN l i ∧ atN l i < 256 := by
  unfold atN
  have := getD_lt h i
  split <;> omega
theorem atB_N {l : List Nat} {i : Nat} (h : l.length < 2 ^ 31) (hi : i < 2 ^ 31) : atB l (nI i) = Int32.ofInt (atN l i) := by
  unfold atN
  by_cases h1 : i < l.length
  · rw [if_pos h1, atB_in h1 h]
    rfl
  · rw [if_neg h1, atB_out (by omega) hi]
    rfl
theorem atN_cmp : ∀ l r : List Nat, (∀ b ∈ l, b < 256) → (∀ b ∈ r, b < 256) → ordI (atN l (shrB l r)) (atN r (shrB l r)) = cmpB l r
  | [], [], _, _ => rfl
  | [], b :: y, _, _ => by
    show ordI (-1) ((b : Nat) : Int) = -1
    unfold ordI
    rw [if_pos (by omega)]
  | a :: x, [], _, _ => by
    show ordI ((a : Nat) : Int) (-1) = 1
    unfold ordI
    rw [if_neg (by omega), if_pos (by omega)]
  | a :: x, b :: y, h1, h2 => by
    have ih := atN_cmp x y (fun c hc => h1 c (List.mem_cons_of_mem _ hc)) (fun c hc => h2 c (List.mem_cons_of_mem _ hc))
    unfold shrB cmpB
    by_cases e : a = b
    · subst e
      rw [if_pos rfl, if_neg (Nat.lt_irrefl _), if_neg (Nat.lt_irrefl _), ← ih]
      unfold atN
      simp only [List.length_cons, Nat.add_lt_add_iff_right, List.getD_cons_succ]
    · rw [if_neg e]
      show ordI ((a : Nat) : Int) ((b : Nat) : Int) = _
      unfold ordI
      by_cases g : a < b
      · rw [if_pos (by omega), if_pos g]
      · rw [if_neg (by omega), if_pos (by omega), if_neg g, if_pos (by omega)]
theorem ofInt_small {p : Int} (h1 : -1000 ≤ p) (h2 : p < 1000) : (Int32.ofInt p).toInt = p := Int32.toInt_ofInt_of_le (by simp [Int32.minValue]; omega) (by simp [Int32.maxValue]; omega)
theorem ci32_ofInt {p q : Int} (h1 : -1 ≤ p) (h2 : p < 256) (h3 : -1 ≤ q) (h4 : q < 256) : ci32 (Int32.ofInt p) (Int32.ofInt q) = Int32.ofInt (ordI p q) := by
  have e1 := ofInt_small (p := p) (by omega) (by omega)
  have e2 := ofInt_small (p := q) (by omega) (by omega)
  unfold ci32 ordI
  by_cases g : p < q
  · rw [if_pos (Int32.lt_iff_toInt_lt.mpr (by rw [e1, e2]; exact g)), if_pos g]
    rfl
  · rw [if_neg (fun z => g (by have := Int32.lt_iff_toInt_lt.mp z; rw [e1, e2] at this; exact this)), if_neg g]
    by_cases g2 : q < p
    · rw [if_neg (fun z => by rw [← e1, ← e2, z] at g2; exact Int.lt_irrefl _ g2), if_pos g2]
      rfl
    · have : p = q := by omega
      rw [if_pos (by rw [this]), if_neg g2]
      rfl
theorem ord_at {l r : List Nat} (h1 : l.length ≤ 120) (h2 : r.length ≤ 120) (h3 : ∀ b ∈ l, b < 256) (h4 : ∀ b ∈ r, b < 256) : ci32 (atB l (nI (shrB l r))) (atB r (nI (shrB l r))) = Int32.ofInt (cmpB l r) := by
  have hs := shrB_le l r
  rw [atB_N (by omega) (by omega), atB_N (by omega) (by omega), ci32_ofInt (atN_b h3 _).1 (atN_b h3 _).2 (atN_b h4 _).1 (atN_b h4 _).2, atN_cmp l r h3 h4]
theorem ni_m1 (i : Nat) : nI i + Int32.ofInt (-1) = nI i - 1 := by
  rw [Int32.sub_eq_add_neg]
  rfl
/-- the end of a row below place j: the last byte there that isn't 255, one more -/
def endI (l : List Nat) : Nat → Option (List Nat)
  | 0 => none
  | j + 1 => if l.getD j 0 < 255 then some (l.take j ++ [l.getD j 0 + 1]) else endI l j
theorem endR_row {D : kD} {w : ww} {a i : Nat} {l : List Nat} {f g : Nat → Int32} (hl : l.length ≤ 120) (hb : ∀ b ∈ l, b < 256) (hf : Arr f l) (hi : i < l.length) (h : l.getD i 0 < 255) (g1 : w a = some (.inr (1, [.ref (a + 1), .int (nI i + 1)]))) (g2 : w (a + 1) = some (.inl (D.2 0, 120, .inl (upd (va_cpy f g 0 0 i) i (nI (l.getD i 0) + 1))))) : Row D w a ((some (l.take i ++ [l.getD i 0 + 1])).getD []) := by
  have hlen : (l.take i).length = i := by rw [List.length_take]; omega
  have hA : Arr (va_cpy f g 0 0 i) (l.take i) := by
    intro j hj
    rw [hlen] at hj
    rw [pk_cpy_in (by omega) (by omega), Nat.zero_add, Nat.sub_zero, hf j (by omega), List.getD_eq_getElem?_getD, List.getD_eq_getElem?_getD, List.getElem?_take_of_lt hj]
  have hp := hA.push (l.getD i 0 + 1)
  rw [hlen] at hp
  refine ⟨?_, fun b h0 => ?_, _, ?_, g2, ?_⟩
  · show (l.take i ++ [l.getD i 0 + 1]).length ≤ 120
    rw [List.length_append, hlen, List.length_singleton]; omega
  · rcases List.mem_append.mp h0 with h1 | h1
    · exact hb b (List.mem_of_mem_take h1)
    · rw [List.mem_singleton.mp h1]; omega
  · show w a = some (.inr (1, [.ref (a + 1), .int (nI (l.take i ++ [l.getD i 0 + 1]).length)]))
    rw [List.length_append, hlen, List.length_singleton, nI_succ]
    exact g1
  · have e : nI (l.getD i 0) + 1 = nI (l.getD i 0 + 1) := nI_1 _
    rw [e]
    exact hp
theorem bo_nar (b : Bool) : narrow .boolean (.int (if b then 1 else 0)) = .int (if b then 1 else 0) := by cases b <;> rfl
theorem bo_fit (b : Bool) : fits .boolean (.int (if b then 1 else 0)) = true := by cases b <;> rfl
