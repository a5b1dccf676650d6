/-! tuples read -/
def fldS (K F : Nat → Nat) (T : Nat → kV) : Nat → Nat → List Nat
  | 0, _ => []
  | n + 1, i => encF (K i) (F i) (T i) ++ fldS K F T n (i + 1)
def tlS (K : Nat → Nat) (T : Nat → kV) : Nat → Nat → List Nat
  | 0, _ => []
  | n + 1, i => tlF (K i) (T i) ++ tlS K T n (i + 1)
theorem fldB_S (K F : Nat → Nat) (T : Nat → kV) : ∀ n i : Nat, fldB K F T i ++ fldS K F T n i = fldB K F T (i + n)
  | 0, i => by simp [fldS]
  | n + 1, i => by
    have := fldB_S K F T n (i + 1)
    rw [fldS, ← List.append_assoc, show i + (n + 1) = i + 1 + n by omega, ← this]
    rfl
theorem tlB_S (K : Nat → Nat) (T : Nat → kV) : ∀ n i : Nat, tlB K T i ++ tlS K T n i = tlB K T (i + n)
  | 0, i => by simp [tlS]
  | n + 1, i => by
    have := tlB_S K T n (i + 1)
    rw [tlS, ← List.append_assoc, show i + (n + 1) = i + 1 + n by omega, ← this]
    rfl
def RC1 (l0 : List Nat) (K F : Nat → Nat) (c i p1 : Nat) (T1 : Nat → kV) (pw : Nat → Int32) : Prop := ∀ T : Nat → kV, okT K F T c → l0 = keyB K F T c → l0.drop p1 = fldS K F T (c - i) i ++ tlB K T c ∧ ∀ j, j < i → Q1 (K j) (T j) (T1 j) (pw j)
def RC2 (l0 : List Nat) (K F : Nat → Nat) (c i p1 : Nat) (T1 : Nat → kV) (pw : Nat → Int32) : Prop := ∀ T : Nat → kV, okT K F T c → l0 = keyB K F T c → l0.drop p1 = tlS K T (c - i) i ∧ (∀ j, j < i → T1 j = T j) ∧ ∀ j, i ≤ j → j < c → Q1 (K j) (T j) (T1 j) (pw j)
theorem RC1.z {l0 : List Nat} {K F : Nat → Nat} {c : Nat} {T1 : Nat → kV} {pw : Nat → Int32} : RC1 l0 K F c 0 0 T1 pw := fun T _ e => by
  refine ⟨?_, fun j hj => absurd hj (Nat.not_lt_zero j)⟩
  have := fldB_S K F T c 0
  rw [Nat.zero_add] at this
  rw [List.drop_zero, e, Nat.sub_zero]
  unfold keyB
  rw [← this]
  rfl
theorem RC1.s {l0 : List Nat} {K F : Nat → Nat} {c i p1 p2 : Nat} {T1 : Nat → kV} {pw pw2 : Nat → Int32} {v : kV} (hi : i < c) (h : RC1 l0 K F c i p1 T1 pw) (hf : FdC l0 p1 (K i) (F i) true p2 v (pw2 i)) (hp : ∀ j, j ≠ i → pw2 j = pw j) : RC1 l0 K F c (i + 1) p2 (va_up T1 i v) pw2 := fun T hok e => by
  obtain ⟨h1, h2⟩ := h T hok e
  rw [show c - i = (c - (i + 1)) + 1 by omega, fldS, List.append_assoc] at h1
  obtain ⟨-, h3, h4⟩ := hf.2 (T i) _ (hok i hi) h1
  refine ⟨h3, fun j hj => ?_⟩
  by_cases ej : j = i
  · subst ej; rw [va_up_self]; exact h4
  · rw [va_up_ne _ _ ej, hp j ej]
    exact h2 j (by omega)
theorem RC1.f {l0 : List Nat} {K F : Nat → Nat} {c i p1 p2 : Nat} {T1 : Nat → kV} {pw : Nat → Int32} {v : kV} {x : Int32} (hi : i < c) (h : RC1 l0 K F c i p1 T1 pw) (hf : FdC l0 p1 (K i) (F i) false p2 v x) (T : Nat → kV) (hok : okT K F T c) (e : l0 = keyB K F T c) : False := by
  obtain ⟨h1, h2⟩ := h T hok e
  rw [show c - i = (c - (i + 1)) + 1 by omega, fldS, List.append_assoc] at h1
  have := (hf.2 (T i) _ (hok i hi) h1).1
  cases this
theorem RC2.z {l0 : List Nat} {K F : Nat → Nat} {c p1 : Nat} {T1 : Nat → kV} {pw : Nat → Int32} (h : RC1 l0 K F c c p1 T1 pw) : RC2 l0 K F c 0 p1 T1 pw := fun T hok e => by
  obtain ⟨h1, h2⟩ := h T hok e
  refine ⟨?_, fun j hj => absurd hj (Nat.not_lt_zero j), fun j _ hj => h2 j hj⟩
  have := tlB_S K T c 0
  rw [Nat.zero_add] at this
  rw [h1, Nat.sub_self, Nat.sub_zero, ← this]
  rfl
theorem Q1.m {k : Nat} {v v1 : kV} {e : Int32} (h : Q1 k v v1 e) (hm : v1.1 = true) : v1 = v := by
  unfold Q1 at h
  by_cases h1 : v.1 = true
  · rw [if_pos h1] at h; exact h
  · rw [if_neg h1] at h
    by_cases h2 : k = 1
    · rw [if_pos h2] at h
      obtain ⟨d, z, rfl, -⟩ := h
      cases hm
    · rw [if_neg h2] at h
      by_cases h3 : k = 3
      · rw [if_pos h3] at h; rw [h] at hm; cases hm
      · rw [if_neg h3] at h; exact h
theorem Q1.p {k : Nat} {v v1 : kV} {e : Int32} (h : Q1 k v v1 e) (hm : v1.1 = false) : v.1 = false := by
  rcases bo_cases v with h1 | h1
  · unfold Q1 at h
    rw [if_pos h1] at h
    rw [h, h1] at hm
    cases hm
  · exact h1
theorem RC2.m {l0 : List Nat} {K F : Nat → Nat} {c i p1 : Nat} {T1 : Nat → kV} {pw : Nat → Int32} (hi : i < c) (h : RC2 l0 K F c i p1 T1 pw) (hm : (T1 i).1 = true) : RC2 l0 K F c (i + 1) p1 T1 pw := fun T hok e => by
  obtain ⟨h1, h2, h3⟩ := h T hok e
  have h4 := (h3 i (Nat.le_refl _) hi).m hm
  rw [show c - i = (c - (i + 1)) + 1 by omega, tlS, tl_m (by rw [← h4]; exact hm), List.nil_append] at h1
  refine ⟨h1, fun j hj => ?_, fun j hj => h3 j (by omega)⟩
  by_cases ej : j = i
  · subst ej; exact h4
  · exact h2 j (by omega)
theorem RC2.s {l0 : List Nat} {K F : Nat → Nat} {c i p1 p2 : Nat} {T1 : Nat → kV} {pw : Nat → Int32} {v : kV} (hi : i < c) (h : RC2 l0 K F c i p1 T1 pw) (hm : (T1 i).1 = false) (hf : FmC l0 p1 (K i) (F i) (pw i) (T1 i) true p2 v) : RC2 l0 K F c (i + 1) p2 (va_up T1 i v) pw := fun T hok e => by
  obtain ⟨h1, h2, h3⟩ := h T hok e
  have h4 := h3 i (Nat.le_refl _) hi
  rw [show c - i = (c - (i + 1)) + 1 by omega, tlS] at h1
  obtain ⟨-, h5, h6⟩ := hf.2 (T i) _ (hok i hi) (h4.p hm) h4 h1
  refine ⟨h5, fun j hj => ?_, fun j hj hj2 => ?_⟩
  · by_cases ej : j = i
    · subst ej; rw [va_up_self]; exact h6
    · rw [va_up_ne _ _ ej]; exact h2 j (by omega)
  · rw [va_up_ne _ _ (by omega)]
    exact h3 j (by omega) hj2
theorem RC2.f {l0 : List Nat} {K F : Nat → Nat} {c i p1 p2 : Nat} {T1 : Nat → kV} {pw : Nat → Int32} {v : kV} (hi : i < c) (h : RC2 l0 K F c i p1 T1 pw) (hm : (T1 i).1 = false) (hf : FmC l0 p1 (K i) (F i) (pw i) (T1 i) false p2 v) (T : Nat → kV) (hok : okT K F T c) (e : l0 = keyB K F T c) : False := by
  obtain ⟨h1, h2, h3⟩ := h T hok e
  have h4 := h3 i (Nat.le_refl _) hi
  rw [show c - i = (c - (i + 1)) + 1 by omega, tlS] at h1
  have := (hf.2 (T i) _ (hok i hi) (h4.p hm) h4 h1).1
  cases this
theorem okV_m {k fl : Nat} {v : kV} (h : P1 k fl v) (hm : v.1 = true) : okV k fl v := by
  obtain ⟨h1, rfl⟩ := h.1 hm
  refine ⟨Nat.zero_le _, (fun b hb => by cases hb), (fun _ => ⟨h1, rfl, rfl, rfl⟩), ?_, fun _ => rfl⟩
  unfold okN
  by_cases k0 : k = 0
  · rw [if_pos k0]
  · rw [if_neg k0]
    by_cases k1 : k = 1
    · rw [if_pos k1]; decide
    · rw [if_neg k1]
      by_cases k2 : k = 2
      · rw [if_pos k2]; decide
      · rw [if_neg k2]; decide
theorem Tup.put2 {D : kD} {w w' : ww} {a i b : Nat} {T : Nat → Bool × Int64 × Int32 × List Nat} {v : Bool × Int64 × Int32 × List Nat} (h : Tup D w a T) (hi : i < 5) (hf : Fr2 w w' b 2 (a + 2 + 2 * i) 2) (hd : b + 2 ≤ a ∨ a + 12 ≤ b) (hv : Val D w' (a + 2 + 2 * i) v) : Tup D w' a (va_up T i v) := by
  obtain ⟨⟨f, h1, h2, h3⟩, h4⟩ := h
  refine ⟨⟨f, (hf _ (by omega) (by omega)).trans h1, (hf _ (by omega) (by omega)).trans h2, h3⟩, fun j hj => ?_⟩
  by_cases e : j = i
  · subst e; rw [va_up_self]; exact hv
  · rw [va_up_ne _ _ e]
    exact (h4 j hj).mv (fun q g1 g2 => hf q (by omega) (by omega))
