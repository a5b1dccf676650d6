/-! PURE: values, fields, keys of tuples; the order of keys' fields is that of tuples -/
/-- a value: ABSENT; number; form; text -/
abbrev kV : Type := Bool × Int64 × Int32 × List Nat
def uL (v : Int64) : Nat := v.toBitVec.toNat
theorem uL_lt (v : Int64) : uL v < 2 ^ 64 := v.toBitVec.isLt
theorem uL_sgn (v : Int64) : sgnU (uL v) = v.toInt := by
  unfold sgnU uL
  show _ = v.toBitVec.toInt
  rw [BitVec.toInt_eq_toNat_cond]
  have h := v.toBitVec.isLt
  by_cases h1 : v.toBitVec.toNat < 2 ^ 63
  · rw [if_pos h1, if_pos (by omega)]
  · rw [if_neg h1, if_neg (by omega)]
    rfl
/-- flags -/
def fDn (fl : Nat) : Bool := fl % 2 == 1
def fOp (fl : Nat) : Bool := fl / 2 % 2 == 1
def fLa (fl : Nat) : Bool := fl / 4 % 2 == 1
def tnF (fl : Nat) : Nat := if fDn fl then 255 else 0
def mkA (fl : Nat) : Nat := if fLa fl then 2 else 0
def encV (k : Nat) (v : kV) : List Nat := if k = 1 then encD v.2.1.toInt v.2.2.1.toInt.toNat else if k = 2 then encT v.2.2.2 else encU (uL v.2.1)
def encF (k fl : Nat) (v : kV) : List Nat := (if fOp fl then [if v.1 then mkA fl else 1] else []) ++ (if v.1 then [] else (encV k v).map (tnB (tnF fl)))
def tlF (k : Nat) (v : kV) : List Nat := if v.1 then [] else if k = 1 then [v.2.2.1.toInt.toNat] else if k = 3 then be 2 (v.2.2.1.toInt + 1000).toNat else []
def fldB (K F : Nat → Nat) (T : Nat → kV) : Nat → List Nat
  | 0 => []
  | c + 1 => fldB K F T c ++ encF (K c) (F c) (T c)
def tlB (K : Nat → Nat) (T : Nat → kV) : Nat → List Nat
  | 0 => []
  | c + 1 => tlB K T c ++ tlF (K c) (T c)
def keyB (K F : Nat → Nat) (T : Nat → kV) (c : Nat) : List Nat := fldB K F T c ++ tlB K T c
/-- what a value of a kind is -/
def okN (k : Nat) (z : Int64) (f : Int32) : Prop := if k = 0 then f = 0 else if k = 1 then -(10 : Int) ^ 15 ≤ z.toInt ∧ z.toInt ≤ 10 ^ 15 ∧ 0 ≤ f.toInt ∧ f.toInt ≤ 9 else if k = 2 then z = 0 ∧ f = 0 else -(2 : Int) ^ 40 ≤ z.toInt ∧ z.toInt ≤ 2 ^ 40 ∧ -900 ≤ f.toInt ∧ f.toInt ≤ 900
def okV (k fl : Nat) (v : kV) : Prop := v.2.2.2.length ≤ 10 ∧ (∀ b ∈ v.2.2.2, b < 256) ∧ (v.1 = true → fOp fl = true ∧ v.2.1 = 0 ∧ v.2.2.1 = 0 ∧ v.2.2.2 = []) ∧ okN k v.2.1 v.2.2.1 ∧ (k ≠ 2 → v.2.2.2 = [])
def okT (K F : Nat → Nat) (T : Nat → kV) (c : Nat) : Prop := ∀ i, i < c → okV (K i) (F i) (T i)
theorem tnB_map_len (t : Nat) (x : List Nat) : (x.map (tnB t)).length = x.length := List.length_map ..
theorem encV_lt {k fl : Nat} {v : kV} (h : okV k fl v) : ∀ b ∈ encV k v, b < 256 := by
  obtain ⟨h1, h2, h3, h4, h5⟩ := h
  unfold encV
  unfold okN at h4
  by_cases k1 : k = 1
  · subst k1
    simp only [if_true] at h4 ⊢
    simp only [show ¬ (1 = 0) by decide, if_false] at h4
    exact encD_lt h4.1 h4.2.1
  · simp only [k1, if_false]
    by_cases k2 : k = 2
    · simp only [k2, if_true]; exact encT_lt _ h2
    · simp only [k2, if_false]; exact encU_lt (uL_lt _)
theorem encV_len {k fl : Nat} {v : kV} (h : okV k fl v) : (encV k v).length ≤ 22 := by
  obtain ⟨h1, h2, h3, h4, h5⟩ := h
  unfold encV
  unfold okN at h4
  by_cases k1 : k = 1
  · subst k1
    simp only [if_true] at h4 ⊢
    simp only [show ¬ (1 = 0) by decide, if_false] at h4
    have := encD_len (s := v.2.2.1.toInt.toNat) h4.1 h4.2.1
    omega
  · simp only [k1, if_false]
    by_cases k2 : k = 2
    · simp only [k2, if_true]
      have := encT_len v.2.2.2
      omega
    · simp only [k2, if_false]
      have := encU_len (uL_lt v.2.1)
      omega
theorem encF_lt {k fl : Nat} {v : kV} (h : okV k fl v) : ∀ b ∈ encF k fl v, b < 256 := by
  intro b hb
  unfold encF at hb
  rcases List.mem_append.mp hb with hb | hb
  · split at hb
    · have := List.mem_singleton.mp hb
      rw [this]
      unfold mkA
      split
      · split <;> decide
      · decide
    · cases hb
  · split at hb
    · cases hb
    · obtain ⟨c, hc, rfl⟩ := List.mem_map.mp hb
      exact tnB_lt (encV_lt h c hc)
theorem tlF_lt {k fl : Nat} {v : kV} (h : okV k fl v) : ∀ b ∈ tlF k v, b < 256 := by
  intro b hb
  obtain ⟨h1, h2, h3, h4, h5⟩ := h
  unfold tlF at hb
  split at hb
  · cases hb
  · split at hb
    · rename_i k1
      subst k1
      unfold okN at h4
      simp only [show ¬ (1 = 0) by decide, if_false, if_true] at h4
      have := List.mem_singleton.mp hb
      omega
    · split at hb
      · exact be_lt _ _ b hb
      · cases hb
/-- one field and its tail: at most 23 bytes -/
theorem encF_tlF_len {k fl : Nat} {v : kV} (h : okV k fl v) : (encF k fl v).length + (tlF k v).length ≤ 23 := by
  have hv := encV_len h
  obtain ⟨h1, h2, h3, h4, h5⟩ := h
  unfold encF tlF
  have e1 : (if fOp fl then [if v.1 then mkA fl else 1] else ([] : List Nat)).length ≤ 1 := by split <;> simp
  rw [List.length_append]
  by_cases hm : v.1 = true
  · simp only [hm, if_true, List.length_nil]
    simp only [hm, if_true] at e1
    omega
  · simp only [hm, if_false, Bool.false_eq_true, tnB_map_len]
    simp only [hm, if_false, Bool.false_eq_true] at e1
    by_cases k1 : k = 1
    · simp only [k1, if_true, List.length_singleton]
      have : (encV k v).length ≤ 19 := by
        unfold encV okN at *
        subst k1
        simp only [if_true] at h4 ⊢
        simp only [show ¬ (1 = 0) by decide, if_false] at h4
        exact encD_len h4.1 h4.2.1
      subst k1
      omega
    · simp only [k1, if_false]
      by_cases k3 : k = 3
      · simp only [k3, if_true, be_len]
        have : (encV k v).length ≤ 9 := by
          unfold encV
          subst k3
          simp only [show ¬ (3 = 1) by decide, show ¬ (3 = 2) by decide, if_false]
          exact encU_len (uL_lt _)
        subst k3
        omega
      · simp only [k3, if_false, List.length_nil]
        omega
theorem keyB_len {K F : Nat → Nat} {T : Nat → kV} : ∀ {c : Nat}, okT K F T c → (fldB K F T c).length + (tlB K T c).length ≤ 23 * c
  | 0, _ => by simp [fldB, tlB]
  | c + 1, h => by
    have ih := keyB_len (K := K) (F := F) (T := T) (c := c) (fun i hi => h i (by omega))
    have := encF_tlF_len (h c (by omega))
    simp only [fldB, tlB, List.length_append]
    omega
theorem fldB_lt {K F : Nat → Nat} {T : Nat → kV} : ∀ {c : Nat}, okT K F T c → ∀ b ∈ fldB K F T c, b < 256
  | 0, _, b, hb => by cases hb
  | c + 1, h, b, hb => by
    rcases List.mem_append.mp hb with hb | hb
    · exact fldB_lt (fun i hi => h i (by omega)) b hb
    · exact encF_lt (h c (by omega)) b hb
theorem tlB_lt {K F : Nat → Nat} {T : Nat → kV} : ∀ {c : Nat}, okT K F T c → ∀ b ∈ tlB K T c, b < 256
  | 0, _, b, hb => by cases hb
  | c + 1, h, b, hb => by
    rcases List.mem_append.mp hb with hb | hb
    · exact tlB_lt (F := F) (fun i hi => h i (by omega)) b hb
    · exact tlF_lt (h c (by omega)) b hb
/-! the order of values -/
def ordV (k : Nat) (a b : kV) : Int := if k = 1 then ordI (a.2.1.toInt * 10 ^ b.2.2.1.toInt.toNat) (b.2.1.toInt * 10 ^ a.2.2.1.toInt.toNat) else if k = 2 then cmpB a.2.2.2 b.2.2.2 else ordI a.2.1.toInt b.2.1.toInt
def ordF (k fl : Nat) (a b : kV) : Int :=
  if a.1 = true ∨ b.1 = true then
    (if fLa fl then 0 - ((if a.1 then 0 else 1) - (if b.1 then 0 else 1)) else (if a.1 then 0 else 1) - (if b.1 then 0 else 1))
  else (if fDn fl then 0 - ordV k a b else ordV k a b)
def ordT (K F : Nat → Nat) (a b : Nat → kV) : Nat → Int
  | 0 => 0
  | c + 1 => if ordT K F a b c = 0 then ordF (K c) (F c) (a c) (b c) else ordT K F a b c
theorem encV_df {k fl : Nat} {a b : kV} (ha : okV k fl a) (hb : okV k fl b) : Df (ordV k a b) (encV k a) (encV k b) := by
  obtain ⟨h1, h2, h3, h4, h5⟩ := ha
  obtain ⟨g1, g2, g3, g4, g5⟩ := hb
  unfold encV ordV
  unfold okN at h4 g4
  by_cases k1 : k = 1
  · subst k1
    simp only [if_true] at h4 g4 ⊢
    simp only [show ¬ (1 = 0) by decide, if_false] at h4 g4
    exact encD_df h4.1 h4.2.1 g4.1 g4.2.1 (by omega) (by omega)
  · simp only [k1, if_false]
    by_cases k2 : k = 2
    · simp only [k2, if_true]; exact encT_df _ _
    · simp only [k2, if_false]
      have := encU_df (uL_lt a.2.1) (uL_lt b.2.1)
      rw [uL_sgn, uL_sgn] at this
      exact this
theorem map_tn0 (x : List Nat) : x.map (tnB 0) = x := by
  have : tnB 0 = id := funext fun b => rfl
  rw [this, List.map_id]
theorem encF_df {k fl : Nat} {a b : kV} (ha : okV k fl a) (hb : okV k fl b) : Df (ordF k fl a b) (encF k fl a) (encF k fl b) := by
  have hv := encV_df ha hb
  have la := encV_lt ha
  have lb := encV_lt hb
  have oa := ha.2.2.1
  have ob := hb.2.2.1
  unfold encF ordF
  cases ma : a.1 <;> cases mb : b.1
  · simp only [Bool.false_eq_true, or_self, if_false]
    refine (show ∀ c, c = _ → Df c _ _ → Df _ _ _ from fun c e h => e ▸ h) (if (0 : Int) = 0 then (if fDn fl = true then 0 - ordV k a b else ordV k a b) else 0) (if_pos rfl) (Df.seq (Df.rfl' _) ?_)
    unfold tnF
    by_cases hd : fDn fl = true
    · simp only [hd, if_true]
      have := Df.turn la lb hv
      rw [Int.zero_sub]
      exact this
    · simp only [hd, if_false, Bool.false_eq_true, map_tn0]
      exact hv
  · have ho := (ob mb).1
    simp only [ho, if_true, Bool.false_eq_true, if_false, or_true, List.append_nil]
    unfold mkA
    by_cases hl : fLa fl = true
    · simp only [hl, if_true]
      exact Df.lt (by decide) _ _
    · simp only [hl, if_false, Bool.false_eq_true]
      exact Df.gt (by decide) _ _
  · have ho := (oa ma).1
    simp only [ho, if_true, Bool.false_eq_true, if_false, true_or, List.append_nil]
    unfold mkA
    by_cases hl : fLa fl = true
    · simp only [hl, if_true]
      exact Df.gt (by decide) _ _
    · simp only [hl, if_false, Bool.false_eq_true]
      exact Df.lt (by decide) _ _
  · have ho := (oa ma).1
    simp only [ho, if_true, or_self, List.append_nil]
    have e : (if fLa fl = true then (0 : Int) - (0 - 0) else 0 - 0) = 0 := by split <;> rfl
    rw [e]
    exact Df.rfl' _
theorem fldB_df {K F : Nat → Nat} {a b : Nat → kV} : ∀ {c : Nat}, okT K F a c → okT K F b c → Df (ordT K F a b c) (fldB K F a c) (fldB K F b c)
  | 0, _, _ => Df.rfl' _
  | c + 1, ha, hb => Df.seq (fldB_df (fun i hi => ha i (by omega)) (fun i hi => hb i (by omega))) (encF_df (ha c (by omega)) (hb c (by omega)))
theorem fldB_cmp {K F : Nat → Nat} {a b : Nat → kV} {c : Nat} (ha : okT K F a c) (hb : okT K F b c) : cmpB (fldB K F a c) (fldB K F b c) = ordT K F a b c := (fldB_df ha hb).cmp0
