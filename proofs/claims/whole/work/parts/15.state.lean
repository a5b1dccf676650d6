/-! What the cells are: rows, values, tuples, schemas; by their stretch of addresses -/
/-- the low eight bits -/
def by8 (b : Int32) : Nat := b.toBitVec.toNat % 256
theorem by8_lt (b : Int32) : by8 b < 256 := Nat.mod_lt _ (by decide)
theorem by8_and (b : Int32) : b &&& 255 = nI (by8 b) := pk_and b 8 (by decide)
theorem by8_nI {n : Nat} (h : n < 256) : by8 (nI n) = n := by
  unfold by8
  rw [pk_tn (by omega)]
  omega
/-- what an int array holds from 0 on -/
def Arr (f : Nat → Int32) (l : List Nat) : Prop := ∀ i, i < l.length → f i = nI (l.getD i 0)
theorem Arr.nil (f : Nat → Int32) : Arr f [] := fun i h => by cases h
theorem Arr.push {f : Nat → Int32} {l : List Nat} (h : Arr f l) (b : Nat) : Arr (upd f l.length (nI b)) (l ++ [b]) := by
  intro i hi
  rw [List.length_append, List.length_singleton] at hi
  by_cases e : i = l.length
  · subst e
    rw [pk_us, List.getD_eq_getElem?_getD, List.getElem?_append_right (Nat.le_refl _), Nat.sub_self]
    rfl
  · rw [pk_un e, h i (by omega), List.getD_eq_getElem?_getD, List.getD_eq_getElem?_getD, List.getElem?_append_left (by omega)]
def Row (D : kD) (w : ww) (a : Nat) (l : List Nat) : Prop := l.length ≤ 120 ∧ (∀ b ∈ l, b < 256) ∧ ∃ f : Nat → Int32, w a = some (.inr (1, [.ref (a + 1), .int (nI l.length)])) ∧ w (a + 1) = some (.inl (D.2 0, 120, .inl f)) ∧ Arr f l
theorem Row.fr {D : kD} {w w' : ww} {b L a : Nat} {l : List Nat} (hf : Fr w w' b L) (h : Row D w a l) (hd : a + 2 ≤ b ∨ b + L ≤ a) : Row D w' a l := by
  obtain ⟨h1, h2, f, h3, h4, h5⟩ := h
  exact ⟨h1, h2, f, hf.cell h3 (by omega), hf.cell h4 (by omega), h5⟩
def Val (D : kD) (w : ww) (a : Nat) (v : Bool × Int64 × Int32 × List Nat) : Prop := v.2.2.2.length ≤ 10 ∧ (∀ b ∈ v.2.2.2, b < 256) ∧ ∃ f : Nat → Int32, w a = some (.inr (2, [.int (if v.1 then 1 else 0), .long v.2.1, .int v.2.2.1, .ref (a + 1), .int (nI v.2.2.2.length)])) ∧ w (a + 1) = some (.inl (D.2 0, 10, .inl f)) ∧ Arr f v.2.2.2
theorem Val.fr {D : kD} {w w' : ww} {b L a : Nat} {v : Bool × Int64 × Int32 × List Nat} (hf : Fr w w' b L) (h : Val D w a v) (hd : a + 2 ≤ b ∨ b + L ≤ a) : Val D w' a v := by
  obtain ⟨h1, h2, f, h3, h4, h5⟩ := h
  exact ⟨h1, h2, f, hf.cell h3 (by omega), hf.cell h4 (by omega), h5⟩
/-- a tuple: its cell, its array, five values; twelve cells -/
def Tup (D : kD) (w : ww) (a : Nat) (T : Nat → Bool × Int64 × Int32 × List Nat) : Prop := (∃ f : Nat → Option Nat, w a = some (.inr (3, [.ref (a + 1)])) ∧ w (a + 1) = some (.inl (D.2 3, 5, .inr (.inr (.inr (.inr f))))) ∧ ∀ i, i < 5 → f i = some (a + 2 + 2 * i)) ∧ ∀ i, i < 5 → Val D w (a + 2 + 2 * i) (T i)
theorem Tup.fr {D : kD} {w w' : ww} {b L a : Nat} {T : Nat → Bool × Int64 × Int32 × List Nat} (hf : Fr w w' b L) (h : Tup D w a T) (hd : a + 12 ≤ b ∨ b + L ≤ a) : Tup D w' a T := by
  obtain ⟨⟨f, h1, h2, h3⟩, h4⟩ := h
  exact ⟨⟨f, hf.cell h1 (by omega), hf.cell h2 (by omega), h3⟩, fun i hi => (h4 i hi).fr hf (by omega)⟩
/-- one value of a tuple has changed -/
theorem Tup.put {D : kD} {w w' : ww} {a i : Nat} {T : Nat → Bool × Int64 × Int32 × List Nat} {v : Bool × Int64 × Int32 × List Nat} (h : Tup D w a T) (hi : i < 5) (hf : Fr w w' (a + 2 + 2 * i) 2) (hv : Val D w' (a + 2 + 2 * i) v) : Tup D w' a (va_up T i v) := by
  obtain ⟨⟨f, h1, h2, h3⟩, h4⟩ := h
  refine ⟨⟨f, hf.cell h1 (by omega), hf.cell h2 (by omega), h3⟩, fun j hj => ?_⟩
  by_cases e : j = i
  · subst e; rw [va_up_self]; exact hv
  · rw [va_up_ne _ _ e]
    exact (h4 j hj).fr hf (by omega)
theorem Tup.congr {D : kD} {w : ww} {a : Nat} {T T' : Nat → Bool × Int64 × Int32 × List Nat} (h : Tup D w a T) (e : ∀ i, i < 5 → T' i = T i) : Tup D w a T' := ⟨h.1, fun i hi => by rw [e i hi]; exact h.2 i hi⟩
/-- a schema: how many fields, sealed, kinds, flags; three cells -/
def Sch (D : kD) (w : ww) (a c : Nat) (s : Bool) (K F : Nat → Nat) : Prop := c ≤ 5 ∧ (∀ i, i < c → K i < 4 ∧ F i < 8) ∧ ∃ f g : Nat → Int32, w a = some (.inr (4, [.ref (a + 1), .ref (a + 2), .int (nI c), .int (if s then 1 else 0)])) ∧ w (a + 1) = some (.inl (D.2 0, 5, .inl f)) ∧ w (a + 2) = some (.inl (D.2 0, 5, .inl g)) ∧ ∀ i, i < c → f i = nI (K i) ∧ g i = nI (F i)
theorem Sch.fr {D : kD} {w w' : ww} {b L a c : Nat} {s : Bool} {K F : Nat → Nat} (hf : Fr w w' b L) (h : Sch D w a c s K F) (hd : a + 3 ≤ b ∨ b + L ≤ a) : Sch D w' a c s K F := by
  obtain ⟨h0, h1, f, g, h2, h3, h4, h5⟩ := h
  exact ⟨h0, h1, f, g, hf.cell h2 (by omega), hf.cell h3 (by omega), hf.cell h4 (by omega), h5⟩
theorem Row.cell {D : kD} {w : ww} {a : Nat} {l : List Nat} (h : Row D w a l) : w a = some (.inr (1, [.ref (a + 1), .int (nI l.length)])) := by
  obtain ⟨h1, h2, f, h3, h4, h5⟩ := h
  exact h3
theorem Val.cell {D : kD} {w : ww} {a : Nat} {v : Bool × Int64 × Int32 × List Nat} (h : Val D w a v) : w a = some (.inr (2, [.int (if v.1 then 1 else 0), .long v.2.1, .int v.2.2.1, .ref (a + 1), .int (nI v.2.2.2.length)])) := by
  obtain ⟨h1, h2, f, h3, h4, h5⟩ := h
  exact h3
theorem Tup.cell {D : kD} {w : ww} {a : Nat} {T : Nat → Bool × Int64 × Int32 × List Nat} (h : Tup D w a T) : w a = some (.inr (3, [.ref (a + 1)])) := by
  obtain ⟨⟨f, h1, h2, h3⟩, h4⟩ := h
  exact h1
theorem Sch.cell {D : kD} {w : ww} {a c : Nat} {s : Bool} {K F : Nat → Nat} (h : Sch D w a c s K F) : w a = some (.inr (4, [.ref (a + 1), .ref (a + 2), .int (nI c), .int (if s then 1 else 0)])) := by
  obtain ⟨h0, h1, f, g, h2, h3, h4, h5⟩ := h
  exact h2
/-- bytes behind a row, as far as there is room -/
def ap (l x : List Nat) : List Nat := (l ++ x).take 120
theorem ap_ap (l x y : List Nat) : ap (ap l x) y = ap l (x ++ y) := by
  unfold ap
  rw [← List.append_assoc]
  generalize l ++ x = z
  by_cases h : z.length ≤ 120
  · rw [List.take_of_length_le h]
  · rw [List.take_append_of_le_length (by rw [List.length_take]; omega), List.take_append_of_le_length (by omega), List.take_take]
    simp
theorem ap_nil {l : List Nat} (h : l.length ≤ 120) : ap l [] = l := by
  unfold ap
  rw [List.append_nil, List.take_of_length_le h]
theorem ap_eq {l x : List Nat} (h : l.length + x.length ≤ 120) : ap l x = l ++ x := by
  unfold ap
  rw [List.take_of_length_le (by rw [List.length_append]; exact h)]
theorem ap_full {l : List Nat} (h : l.length = 120) (x : List Nat) : ap l x = l := by
  unfold ap
  rw [List.take_append_of_le_length (by omega), List.take_of_length_le (by omega)]
theorem ap_len (l x : List Nat) : (ap l x).length ≤ 120 := by
  unfold ap
  rw [List.length_take]
  omega
theorem ap_lt {l x : List Nat} (h1 : ∀ b ∈ l, b < 256) (h2 : ∀ b ∈ x, b < 256) : ∀ b ∈ ap l x, b < 256 := by
  intro b hb
  rcases List.mem_append.mp (List.mem_of_mem_take hb) with h | h
  · exact h1 b h
  · exact h2 b h
/-- the byte at a place, -1 where there is none -/
def atB (l : List Nat) (i : Int32) : Int32 := if 0 ≤ i ∧ i < nI l.length then nI (l.getD i.toNatClampNeg 0) else -1
/-- values as they are made, from an address on -/
def Vals (D : kD) (w : ww) (b i : Nat) : Prop := ∀ j, j < i → Val D w (b + 2 * j) (false, 0, 0, [])
theorem Vals.fr {D : kD} {w w' : ww} {c L b i : Nat} (hf : Fr w w' c L) (h : Vals D w b i) (hd : b + 2 * i ≤ c ∨ c + L ≤ b) : Vals D w' b i := fun j hj => (h j hj).fr hf (by omega)
theorem Vals.push {D : kD} {w : ww} {b i : Nat} (h : Vals D w b i) (hv : Val D w (b + 2 * i) (false, 0, 0, [])) : Vals D w b (i + 1) := by
  intro j hj
  by_cases e : j = i
  · subst e; exact hv
  · exact h j (by omega)
/-- outside two stretches nothing has changed -/
def Fr2 (w w' : ww) (a L b K : Nat) : Prop := ∀ q : Nat, (q < a ∨ a + L ≤ q) → (q < b ∨ b + K ≤ q) → w' q = w q
theorem Row.mv {D : kD} {w w' : ww} {a : Nat} {l : List Nat} (hf : ∀ q, a ≤ q → q < a + 2 → w' q = w q) (h : Row D w a l) : Row D w' a l := by
  obtain ⟨h1, h2, f, h3, h4, h5⟩ := h
  exact ⟨h1, h2, f, (hf _ (by omega) (by omega)).trans h3, (hf _ (by omega) (by omega)).trans h4, h5⟩
theorem Val.mv {D : kD} {w w' : ww} {a : Nat} {v : Bool × Int64 × Int32 × List Nat} (hf : ∀ q, a ≤ q → q < a + 2 → w' q = w q) (h : Val D w a v) : Val D w' a v := by
  obtain ⟨h1, h2, f, h3, h4, h5⟩ := h
  exact ⟨h1, h2, f, (hf _ (by omega) (by omega)).trans h3, (hf _ (by omega) (by omega)).trans h4, h5⟩
theorem Tup.mv {D : kD} {w w' : ww} {a : Nat} {T : Nat → Bool × Int64 × Int32 × List Nat} (hf : ∀ q, a ≤ q → q < a + 12 → w' q = w q) (h : Tup D w a T) : Tup D w' a T := by
  obtain ⟨⟨f, h1, h2, h3⟩, h4⟩ := h
  exact ⟨⟨f, (hf _ (by omega) (by omega)).trans h1, (hf _ (by omega) (by omega)).trans h2, h3⟩, fun i hi => (h4 i hi).mv (fun q g1 g2 => hf q (by omega) (by omega))⟩
theorem Sch.mv {D : kD} {w w' : ww} {a c : Nat} {s : Bool} {K F : Nat → Nat} (hf : ∀ q, a ≤ q → q < a + 3 → w' q = w q) (h : Sch D w a c s K F) : Sch D w' a c s K F := by
  obtain ⟨h0, h1, f, g, h2, h3, h4, h5⟩ := h
  exact ⟨h0, h1, f, g, (hf _ (by omega) (by omega)).trans h2, (hf _ (by omega) (by omega)).trans h3, (hf _ (by omega) (by omega)).trans h4, h5⟩
/-- a reader: schema, row, position, turn, powers; two cells -/
def Rd (D : kD) (w : ww) (a sa ra p t : Nat) (pw : Nat → Int32) : Prop := w a = some (.inr (5, [.ref sa, .ref ra, .int (nI p), .int (nI t), .ref (a + 1)])) ∧ w (a + 1) = some (.inl (D.2 0, 5, .inl pw))
theorem Rd.fr {D : kD} {w w' : ww} {b L a sa ra p t : Nat} {pw : Nat → Int32} (hf : Fr w w' b L) (h : Rd D w a sa ra p t pw) (hd : a + 2 ≤ b ∨ b + L ≤ a) : Rd D w' a sa ra p t pw := ⟨hf.cell h.1 (by omega), hf.cell h.2 (by omega)⟩
theorem Rd.mv {D : kD} {w w' : ww} {a sa ra p t : Nat} {pw : Nat → Int32} (hf : ∀ q, a ≤ q → q < a + 2 → w' q = w q) (h : Rd D w a sa ra p t pw) : Rd D w' a sa ra p t pw := ⟨(hf _ (by omega) (by omega)).trans h.1, (hf _ (by omega) (by omega)).trans h.2⟩
theorem Rd.cell {D : kD} {w : ww} {a sa ra p t : Nat} {pw : Nat → Int32} (h : Rd D w a sa ra p t pw) : w a = some (.inr (5, [.ref sa, .ref ra, .int (nI p), .int (nI t), .ref (a + 1)])) := h.1
