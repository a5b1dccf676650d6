/-! the codec: 208 cells -/
abbrev Cc (w : ww) (b m : Nat) (he : Bool) : Prop := w b = some (.inr (0, [.ref (b + 1), .ref (b + 4), .ref (b + 16), .ref (b + 28), .ref (b + 30), .ref (b + 32), .ref (b + 34), .ref (b + 35), .int (nI m), .ref (b + 36), .ref (b + 38), .int (if he then 1 else 0)]))
/-- what is kept: two arrays, and behind them twelve tuples and rows -/
def Kept (D : kD) (w : ww) (b : Nat) (KT : Nat → Nat → kV) (KK : Nat → List Nat) : Prop := (∃ f g : Nat → Option Nat, w (b + 34) = some (.inl (D.2 4, 12, .inr (.inr (.inr (.inr f))))) ∧ w (b + 35) = some (.inl (D.2 5, 12, .inr (.inr (.inr (.inr g))))) ∧ ∀ i, i < 12 → f i = some (b + 40 + 14 * i) ∧ g i = some (b + 52 + 14 * i)) ∧ ∀ i, i < 12 → Tup D w (b + 40 + 14 * i) (KT i) ∧ Row D w (b + 52 + 14 * i) (KK i)
theorem Kept.mv {D : kD} {w w' : ww} {b : Nat} {KT : Nat → Nat → kV} {KK : Nat → List Nat} (hf : ∀ q, (q = b + 34 ∨ q = b + 35 ∨ (b + 40 ≤ q ∧ q < b + 208)) → w' q = w q) (h : Kept D w b KT KK) : Kept D w' b KT KK := by
  obtain ⟨⟨f, g, h1, h2, h3⟩, h4⟩ := h
  exact ⟨⟨f, g, (hf _ (by omega)).trans h1, (hf _ (by omega)).trans h2, h3⟩, fun i hi => ⟨(h4 i hi).1.mv (fun q g1 g2 => hf q (by omega)), (h4 i hi).2.mv (fun q g1 g2 => hf q (by omega))⟩⟩
theorem Kept.fr {D : kD} {w w' : ww} {b c L : Nat} {KT : Nat → Nat → kV} {KK : Nat → List Nat} (hf : Fr w w' c L) (h : Kept D w b KT KK) (hd : c + L ≤ b + 34 ∨ b + 208 ≤ c ∨ (b + 36 ≤ c ∧ c + L ≤ b + 40)) : Kept D w' b KT KK := h.mv (fun q hq => hf q (by omega))
theorem Kept.putT {D : kD} {w w' : ww} {b j : Nat} {KT : Nat → Nat → kV} {KK : Nat → List Nat} {T : Nat → kV} (h : Kept D w b KT KK) (hj : j < 12) (hf : Fr w w' (b + 40 + 14 * j) 12) (ht : Tup D w' (b + 40 + 14 * j) T) : Kept D w' b (va_up KT j T) KK := by
  obtain ⟨⟨f, g, h1, h2, h3⟩, h4⟩ := h
  refine ⟨⟨f, g, hf.cell h1 (by omega), hf.cell h2 (by omega), h3⟩, fun i hi => ⟨?_, (h4 i hi).2.fr hf (by omega)⟩⟩
  by_cases e : i = j
  · subst e; rw [va_up_self]; exact ht
  · rw [va_up_ne _ _ e]; exact (h4 i hi).1.fr hf (by omega)
theorem Kept.putK {D : kD} {w w' : ww} {b j : Nat} {KT : Nat → Nat → kV} {KK : Nat → List Nat} {l : List Nat} (h : Kept D w b KT KK) (hj : j < 12) (hf : Fr w w' (b + 52 + 14 * j) 2) (ht : Row D w' (b + 52 + 14 * j) l) : Kept D w' b KT (va_up KK j l) := by
  obtain ⟨⟨f, g, h1, h2, h3⟩, h4⟩ := h
  refine ⟨⟨f, g, hf.cell h1 (by omega), hf.cell h2 (by omega), h3⟩, fun i hi => ⟨(h4 i hi).1.fr hf (by omega), ?_⟩⟩
  by_cases e : i = j
  · subst e; rw [va_up_self]; exact ht
  · rw [va_up_ne _ _ e]; exact (h4 i hi).2.fr hf (by omega)
/-- the kept ones as they are made -/
def Keps (D : kD) (w : ww) (b i : Nat) : Prop := ∀ j, j < i → Tup D w (b + 40 + 14 * j) (fun _ => (false, 0, 0, [])) ∧ Row D w (b + 52 + 14 * j) []
theorem Keps.fr {D : kD} {w w' : ww} {c L b i : Nat} (hf : Fr w w' c L) (h : Keps D w b i) (hd : b + 40 + 14 * i ≤ c ∨ c + L ≤ b + 40) : Keps D w' b i := fun j hj => ⟨(h j hj).1.fr hf (by omega), (h j hj).2.fr hf (by omega)⟩
theorem Keps.push {D : kD} {w : ww} {b i : Nat} (h : Keps D w b i) (h1 : Tup D w (b + 40 + 14 * i) (fun _ => (false, 0, 0, []))) (h2 : Row D w (b + 52 + 14 * i) []) : Keps D w b (i + 1) := by
  intro j hj
  by_cases e : j = i
  · subst e; exact ⟨h1, h2⟩
  · exact h j (by omega)
def CI (c : Nat) (s : Bool) (K F : Nat → Nat) (L : Nat → kV) (m : Nat) (KT : Nat → Nat → kV) (KK : Nat → List Nat) : Prop := m ≤ 12 ∧ (s = true → okT K F L c) ∧ ∀ i, i < m → s = true ∧ okT K F (KT i) c ∧ KK i = keyB K F (KT i) c
def Cod (D : kD) (w : ww) (b c : Nat) (s : Bool) (K F : Nat → Nat) (L : Nat → kV) (kr : List Nat) (m : Nat) (KT : Nat → Nat → kV) (lo hi : List Nat) (he : Bool) : Prop := ∃ (Z : Nat → kV) (lf rg : List Nat) (KK : Nat → List Nat), Cc w b m he ∧ Sch D w (b + 1) c s K F ∧ Tup D w (b + 4) L ∧ Tup D w (b + 16) Z ∧ Row D w (b + 28) kr ∧ Row D w (b + 30) lf ∧ Row D w (b + 32) rg ∧ Kept D w b KT KK ∧ Row D w (b + 36) lo ∧ Row D w (b + 38) hi ∧ CI c s K F L m KT KK
theorem okV_0 {k fl : Nat} (h : k < 4) : okV k fl (false, 0, 0, []) := by
  refine ⟨by decide, fun b h => (by cases h), fun h => (by cases h), ?_, fun _ => rfl⟩
  rcases (show k = 0 ∨ k = 1 ∨ k = 2 ∨ k = 3 by omega) with rfl | rfl | rfl | rfl <;> simp [okN]
theorem usB_no {s : Bool} {c : Nat} {i : Int32} (hc : c < 2 ^ 31) (h : usB s c i = false) {j : Nat} (hj : j < c) (hs : s = true) : ¬ i = nI j := by
  rintro rfl
  have : usB s c (nI j) = true := by
    simp only [usB, Bool.and_eq_true, decide_eq_true_eq]
    exact ⟨hs, nI_pos' (by omega), (nI_ltI (by omega) hc).mpr hj⟩
  rw [h] at this
  cases this
theorem okT_put {K F : Nat → Nat} {T : Nat → kV} {c j : Nat} {v : kV} (_hj : j < c) (h : okT K F T c) (hv : okV (K j) (F j) v) : okT K F (va_up T j v) c := by
  intro i hi
  by_cases e : i = j
  · subst e; rw [va_up_self]; exact hv
  · rw [va_up_ne _ _ e]; exact h i hi
theorem okV_n {k fl : Nat} {z : Int64} {f : Int32} (h : okN k z f) : okV k fl (false, z, f, []) := ⟨Nat.zero_le 10, fun b h => (by cases h), fun h => (by cases h), h, fun _ => rfl⟩
theorem okV_tx {k fl : Nat} {v : kV} {x : Int32} (hl : v.2.2.2.length < 10) (h : okV k fl v) (hk : k = 2) : okV k fl (false, v.2.1, v.2.2.1, v.2.2.2 ++ [by8 x]) := by
  obtain ⟨h1, h2, h3, h4, h5⟩ := h
  refine ⟨by show (v.2.2.2 ++ [by8 x]).length ≤ 10; rw [List.length_append]; exact hl, fun y hy => ?_, fun h => (by cases h), h4, fun q => absurd hk q⟩
  rcases List.mem_append.mp hy with hy | hy
  · exact h2 y hy
  · rw [List.mem_singleton.mp hy]; exact by8_lt x
theorem okV_ab {k fl : Nat} (h : k < 4) (ho : fOp fl = true) : okV k fl (true, 0, 0, []) := ⟨by decide, fun b h => (by cases h), fun _ => ⟨ho, rfl, rfl, rfl⟩, (okV_0 (fl := fl) h).2.2.2.1, fun _ => rfl⟩
theorem va_up_eta {α : Type} (T : Nat → α) (j : Nat) : va_up T j (T j) = T := by
  funext i
  by_cases e : i = j
  · subst e; rw [va_up_self]
  · rw [va_up_ne _ _ e]
theorem if10 {P : Prop} [Decidable P] (h : ¬ (if P then (1 : Int32) else 0) = 0) : P := by
  by_cases hp : P
  · exact hp
  · rw [if_neg hp] at h; exact absurd rfl h
theorem if10n {P : Prop} [Decidable P] (h : (if P then (1 : Int32) else 0) = 0) : ¬ P := fun hp => by
  rw [if_pos hp] at h; exact absurd h (by decide)
theorem ld_ix {x : Int32} (h2 : ¬ x < 1) (h8 : ¬ 8 < x) : ∃ k, 1 ≤ k ∧ k ≤ 8 ∧ x = nI k := by
  obtain ⟨k, hk, rfl⟩ := row_ix (i := x) (n := 9) (fun z => h2 (Int32.lt_trans z (by decide))) (fun z => h8 (Int32.lt_of_lt_of_le (by decide) z)) (by decide)
  exact ⟨k, Nat.not_lt.mp fun z => h2 ((nI_ltI (b := 1) (by omega) (by decide)).mpr z), by omega, rfl⟩
theorem ld_1 {k : Nat} {l : List Nat} (hl : l.length ≤ 120) (hk : k ≤ 8) (h : ¬ (if nI k ≤ nI (120 - l.length) then (1 : Int32) else 0) = 0) : k + l.length ≤ 120 := by
  have := (nI_leI (by omega) (by omega)).mp (if10 h)
  omega
theorem ld_0 {k : Nat} {l : List Nat} (hl : l.length ≤ 120) (hk : k ≤ 8) (h : (if nI k ≤ nI (120 - l.length) then (1 : Int32) else 0) = 0) (q : k + l.length ≤ 120) : False := if10n h ((nI_leI (by omega) (by omega)).mpr (by omega))
