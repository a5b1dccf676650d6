/-! the codec: 208 cells -/
abbrev Cc (w : ww) (b m : Nat) (he : Bool) : Prop := w b = some (.inr (0, [.ref (b + 1), .ref (b + 4), .ref (b + 16), .ref (b + 28), .ref (b + 30), .ref (b + 32), .ref (b + 34), .ref (b + 35), .int (nI m), .ref (b + 36), .ref (b + 38), .int (if he then 1 else 0)]))
/-- what is kept: two arrays, and behind them twelve tuples and rows -/
def Kept (D : kD) (w : ww) (b : Nat) (KT : Nat → Nat → kV) (KK : Nat → List Nat) : Prop := (∃ f g : Nat → Option Nat, w (b + 34) = some (.inl (D.2 4, 12, .inr (.inr (.inr (.inr f))))) ∧ w (b + 35) = some (.inl (D.2 5, 12, .inr (.inr (.inr (.inr g))))) ∧ ∀ i, i < 12 → f i = some (b + 40 + 14 * i) ∧ g i = some (b + 52 + 14 * i)) ∧ ∀ i, i < 12 → Tup D w (b + 40 + 14 * i) (KT i) ∧ Row D w (b + 52 + 14 * i) (KK i)
theorem Kept.mv {D : kD} {w w' : ww} {b : Nat} {KT : Nat → Nat → kV} {KK : Nat → List Nat} (hf : ∀ q, (q = b + 34 ∨ q = b + 35 ∨ (b + 40 ≤ q ∧ q < b + 208)) → w' q = w q) (h : Kept D w b KT KK) : Kept D w' b KT KK := by
  obtain ⟨⟨f, g, h1, h2, h3⟩, h4⟩ := h
  exact ⟨⟨f, g, (hf _ (by omega)).trans h1, (hf _ (by omega)).trans h2, h3⟩, fun i hi => ⟨(h4 i hi).1.mv (fun q g1 g2 => hf q (by omega)), (h4 i hi).2.mv (fun q g1 g2 => hf q (by omega))⟩⟩
theorem Kept.fr {D : kD} {w w' : ww} {b c L : Nat} {KT : Nat → Nat → kV} {KK : Nat → List Nat} (hf : Fr w w' c L) (h : Kept D w b KT KK) (hd : c + L ≤ b + 34 ∨ b + 208 ≤ c ∨ (b + 36 ≤ c ∧ c + L ≤ b + 40)) : Kept D w' b KT KK := h.mv (fun q hq => hf q (by omega))
theorem Kept.putT {D : kD} {w w' : ww} {b j : Nat} {KT : Nat → Nat → kV} {KK : Nat → List Nat} {T : Nat → kV} (h : Kept D w b KT KK) (hj : j < 12) (hf : Fr w w' (b + 40 + 14 * j) 12) (ht : Tup D w' (b + 40 + 14 * j) T) : Kept D w' b (va_up KT j T) KK := by
  obtain ⟨⟨f, g, h1, h2, h3⟩, h4⟩ := h
  refine ⟨⟨f, g, hf.cell h1 (by omega), hf.cell h2 (by omega), h3⟩, fun i hi => ⟨?_, (h4 i hi).2.fr hf (by omega)⟩⟩
  by_cases e : i = j
  · subst e; rw [va_up_self]; exact ht
  · rw [va_up_ne _ _ e]; exact (h4 i hi).1.fr hf (by omega)
theorem Kept.putK {D : kD} {w w' : ww} {b j : Nat} {KT : Nat → Nat → kV} {KK : Nat → List Nat} {l : List Nat} (h : Kept D w b KT KK) (hj : j < 12) (hf : Fr w w' (b + 52 + 14 * j) 2) (ht : Row D w' (b + 52 + 14 * j) l) : Kept D w' b KT (va_up KK j l) := by
  obtain ⟨⟨f, g, h1, h2, h3⟩, h4⟩ := h
  refine ⟨⟨f, g, hf.cell h1 (by omega), hf.cell h2 (by omega), h3⟩, fun i hi => ⟨(h4 i hi).1.fr hf (by omega), ?_⟩⟩
  by_cases e : i = j
  · subst e; rw [va_up_self]; exact ht
  · rw [va_up_ne _ _ e]; exact (h4 i hi).2.fr hf (by omega)
/-- the kept ones as they are made -/
def Keps (D : kD) (w : ww) (b i : Nat) : Prop := ∀ j, j < i → Tup D w (b + 40 + 14 * j) (fun _ => (false, 0, 0, [])) ∧ Row D w (b + 52 + 14 * j) []
theorem Keps.fr {D : kD} {w w' : ww} {c L b i : Nat} (hf : Fr w w' c L) (h : Keps D w b i) (hd : b + 40 + 14 * i ≤ c ∨ c + L ≤ b + 40) : Keps D w' b i := fun j hj => ⟨(h j hj).1.fr hf (by omega), (h j hj).2.fr hf (by omega)⟩
theorem Keps.push {D : kD} {w : ww} {b i : Nat} (h : Keps D w b i) (h1 : Tup D w (b + 40 + 14 * i) (fun _ => (false, 0, 0, []))) (h2 : Row D w (b + 52 + 14 * i) []) : Keps D w b (i + 1) := by
  intro j hj
  by_cases e : j = i
  · subst e; exact ⟨h1, h2⟩
  · exact h j (by omega)
def CI (c : Nat) (s : Bool) (K F : Nat → Nat) (L : Nat → kV) (m : Nat) (KT : Nat → Nat → kV) (KK : Nat → List Nat) : Prop := m ≤ 12 ∧ (s = true → okT K F L c) ∧ ∀ i, i < m → s = true ∧ okT K F (KT i) c ∧ KK i = keyB K F (KT i) c
def Cod (D : kD) (w : ww) (b c : Nat) (s : Bool) (K F : Nat → Nat) (L : Nat → kV) (kr : List Nat) (m : Nat) (KT : Nat → Nat → kV) (lo hi : List Nat) (he : Bool) : Prop := ∃ (Z : Nat → kV) (lf rg : List Nat) (KK : Nat → List Nat), Cc w b m he ∧ Sch D w (b + 1) c s K F ∧ Tup D w (b + 4) L ∧ Tup D w (b + 16) Z ∧ Row D w (b + 28) kr ∧ Row D w (b + 30) lf ∧ Row D w (b + 32) rg ∧ Kept D w b KT KK ∧ Row D w (b + 36) lo ∧ Row D w (b + 38) hi ∧ CI c s K F L m KT KK
theorem okV_0 {k fl : Nat} (h : k < 4) : okV k fl (false, 0, 0, []) := by
  refine ⟨by decide, fun b h => (by cases h), fun h => (by cases h), ?_, fun _ => rfl⟩
  rcases (show k = 0 ∨ k = 1 ∨ k = 2 ∨ k = 3 by omega) with rfl | rfl | rfl | rfl <;> simp [okN]
theorem usB_no {s : Bool} {c : Nat} {i : Int32} (hc : c < 2 ^ 31) (h : usB s c i = false) {j : Nat} (hj : j < c) (hs : s = true) : ¬ i = nI j := by
  rintro rfl
  have : usB s c (nI j) = true := by
    simp only [usB, Bool.and_eq_true, decide_eq_true_eq]
    exact ⟨hs, nI_pos' (by omega), (nI_ltI (by omega) hc).mpr hj⟩
  rw [h] at this
  cases this
theorem okT_put {K F : Nat → Nat} {T : Nat → kV} {c j : Nat} {v : kV} (_hj : j < c) (h : okT K F T c) (hv : okV (K j) (F j) v) : okT K F (va_up T j v) c := by
  intro i hi
  by_cases e : i = j
  · subst e; rw [va_up_self]; exact hv
  · rw [va_up_ne _ _ e]; exact h i hi
theorem okV_n {k fl : Nat} {z : Int64} {f : Int32} (h : okN k z f) : okV k fl (false, z, f, []) := ⟨Nat.zero_le 10, fun b h => (by cases h), fun h => (by cases h), h, fun _ => rfl⟩
theorem okV_tx {k fl : Nat} {v : kV} {x : Int32} (hl : v.2.2.2.length < 10) (h : okV k fl v) (hk : k = 2) : okV k fl (false, v.2.1, v.2.2.1, v.2.2.2 ++ [by8 x]) := by
  obtain ⟨h1, h2, h3, h4, h5⟩ := h
  refine ⟨by show (v.2.2.2 ++ [by8 x]).length ≤ 10; rw [List.length_append]; exact hl, fun y hy => ?_, fun h => (by cases h), h4, fun q => absurd hk q⟩
  rcases List.mem_append.mp hy with hy | hy
  · exact h2 y hy
  · rw [List.mem_singleton.mp hy]; exact by8_lt x
theorem okV_ab {k fl : Nat} (h : k < 4) (ho : fOp fl = true) : okV k fl (true, 0, 0, []) := ⟨by decide, fun b h => (by cases h), fun _ => ⟨ho, rfl, rfl, rfl⟩, (okV_0 (fl := fl) h).2.2.2.1, fun _ => rfl⟩
theorem va_up_eta {α : Type} (T : Nat → α) (j : Nat) : va_up T j (T j) = T := by
  funext i
  by_cases e : i = j
  · subst e; rw [va_up_self]
  · rw [va_up_ne _ _ e]
theorem if10 {P : Prop} [Decidable P] (h : ¬ (if P then (1 : Int32) else 0) = 0) : P := by
  by_cases hp : P
  · exact hp
  · rw [if_neg hp] at h; exact absurd rfl h
theorem if10n {P : Prop} [Decidable P] (h : (if P then (1 : Int32) else 0) = 0) : ¬ P := fun hp => by
  rw [if_pos hp] at h; exact absurd h (by decide)
theorem ld_ix {x : Int32} (h2 : ¬ x < 1) (h8 : ¬ 8 < x) : ∃ k, 1 ≤ k ∧ k ≤ 8 ∧ x = nI k := by
  obtain ⟨k, hk, rfl⟩ := row_ix (i := x) (n := 9) (fun z => h2 (Int32.lt_trans z (by decide))) (fun z => h8 (Int32.lt_of_lt_of_le (by decide) z)) (by decide)
  exact ⟨k, Nat.not_lt.mp fun z => h2 ((nI_ltI (b := 1) (by omega) (by decide)).mpr z), by omega, rfl⟩
theorem ld_1 {k : Nat} {l : List Nat} (hl : l.length ≤ 120) (hk : k ≤ 8) (h : ¬ (if nI k ≤ nI (120 - l.length) then (1 : Int32) else 0) = 0) : k + l.length ≤ 120 := by
  have := (nI_leI (by omega) (by omega)).mp (if10 h)
  omega
theorem ld_0 {k : Nat} {l : List Nat} (hl : l.length ≤ 120) (hk : k ≤ 8) (h : (if nI k ≤ nI (120 - l.length) then (1 : Int32) else 0) = 0) (q : k + l.length ≤ 120) : False := if10n h ((nI_leI (by omega) (by omega)).mpr (by omega))
def gtV (k : Nat) (v : kV) (x : Int32) : Int64 := if x = 0 then (if v.1 then 1 else 0) else if x = 1 then (if k = 2 then (nI v.2.2.2.length).toInt64 else v.2.1) else if x = 2 then v.2.2.1.toInt64 else (atB v.2.2.2 (x - 3)).toInt64
theorem gtV_3 {k : Nat} {v : kV} {x : Int32} (h : 2 < x) : gtV k v x = (atB v.2.2.2 (x - 3)).toInt64 := by
  unfold gtV
  rw [if_neg (by rintro rfl; exact absurd h (by decide)), if_neg (by rintro rfl; exact absurd h (by decide)), if_neg (by rintro rfl; exact absurd h (by decide))]
theorem gt_cases {x : Int32} (h : ¬ x < 0) : x = 0 ∨ x = 1 ∨ x = 2 ∨ 2 < x := by
  by_cases h2 : 2 < x
  · exact Or.inr (Or.inr (Or.inr h2))
  · obtain ⟨k, hk, rfl⟩ := row_ix (i := x) (n := 3) h (fun z => h2 (Int32.lt_of_lt_of_le (by decide) z)) (by decide)
    rcases (show k = 0 ∨ k = 1 ∨ k = 2 by omega) with rfl | rfl | rfl
    · exact Or.inl rfl
    · exact Or.inr (Or.inl rfl)
    · exact Or.inr (Or.inr (Or.inl rfl))
theorem okT_le {K F : Nat → Nat} {T : Nat → kV} {c k : Nat} (h : okT K F T c) (hk : k ≤ c) : okT K F T k := fun i hi => h i (Nat.lt_of_lt_of_le hi hk)
theorem fldB_len {K F : Nat → Nat} {T : Nat → kV} {c k : Nat} (h : okT K F T c) (hk : k ≤ c) : (fldB K F T k).length ≤ 23 * k := by
  have := keyB_len (okT_le h hk)
  omega
theorem oi_lt {x y : List Nat} : Int32.ofInt (cmpB x y) < 0 ↔ cmpB x y < 0 := by
  rcases cmpB_val x y with h | h | h <;> rw [h] <;> decide
theorem oi_eq {x y : List Nat} : Int32.ofInt (cmpB x y) = 0 ↔ cmpB x y = 0 := by
  rcases cmpB_val x y with h | h | h <;> rw [h] <;> decide
theorem bef_1 {ks : Nat → List Nat} {t i : Nat} (h : Int32.ofInt (cmpB (ks i) (ks t)) < 0) : bef ks t i = true := by
  unfold bef
  rw [decide_eq_true (oi_lt.mp h)]
  rfl
theorem bef_2 {ks : Nat → List Nat} {t i : Nat} (h : Int32.ofInt (cmpB (ks i) (ks t)) = 0) (h2 : i < t) : bef ks t i = true := by
  unfold bef
  rw [decide_eq_true (oi_eq.mp h), decide_eq_true h2]
  simp
theorem bef_3 {ks : Nat → List Nat} {t i : Nat} (h : ¬ Int32.ofInt (cmpB (ks i) (ks t)) < 0) (h2 : ¬ Int32.ofInt (cmpB (ks i) (ks t)) = 0) : bef ks t i = false := by
  unfold bef
  rw [decide_eq_false (fun z => h (oi_lt.mpr z)), decide_eq_false (fun z => h2 (oi_eq.mpr z))]
  rfl
theorem bef_4 {ks : Nat → List Nat} {t i : Nat} (h : ¬ Int32.ofInt (cmpB (ks i) (ks t)) < 0) (h2 : ¬ i < t) : bef ks t i = false := by
  unfold bef
  rw [decide_eq_false (fun z => h (oi_lt.mpr z)), decide_eq_false h2]
  simp
theorem cntB_1 {P : Nat → Bool} {i : Nat} (h : P i = true) : cntB P (i + 1) = cntB P i + 1 := by
  rw [cntB, if_pos h]
theorem cntB_0 {P : Nat → Bool} {i : Nat} (h : P i = false) : cntB P (i + 1) = cntB P i := by
  rw [cntB, h]; rfl
theorem cntB_i {P : Nat → Bool} : ∀ i : Nat, cntB P i ≤ i
  | 0 => Nat.le_refl _
  | i + 1 => by
    have := cntB_i (P := P) i
    rw [cntB]
    split <;> omega
theorem cntB_congr {P Q : Nat → Bool} : ∀ {m : Nat}, (∀ i, i < m → P i = Q i) → cntB P m = cntB Q m
  | 0, _ => rfl
  | m + 1, h => by rw [cntB, cntB, h m (by omega), cntB_congr (fun i hi => h i (by omega))]
theorem rankB_congr {ks k2 : Nat → List Nat} {m t : Nat} (h : ∀ i, i < m → ks i = k2 i) (ht : t < m) : rankB ks m t = rankB k2 m t := by
  unfold rankB
  refine cntB_congr fun i hi => ?_
  unfold bef
  rw [h i hi, h t ht]
def kyT (K F : Nat → Nat) (KT : Nat → Nat → kV) (c i : Nat) : List Nat := keyB K F (KT i) c
theorem CI.ky {c : Nat} {s : Bool} {K F : Nat → Nat} {L : Nat → kV} {m : Nat} {KT : Nat → Nat → kV} {KK : Nat → List Nat} (h : CI c s K F L m KT KK) : ∀ i, i < m → KK i = kyT K F KT c i := fun i hi => (h.2.2 i hi).2.2
theorem CI.rk {c : Nat} {s : Bool} {K F : Nat → Nat} {L : Nat → kV} {m : Nat} {KT : Nat → Nat → kV} {KK : Nat → List Nat} (h : CI c s K F L m KT KK) {t : Nat} (ht : t < m) : rankB KK m t = rankB (kyT K F KT c) m t := rankB_congr h.ky ht
theorem CI.lo {c : Nat} {s : Bool} {K F : Nat → Nat} {L : Nat → kV} {m : Nat} {KT : Nat → Nat → kV} {KK : Nat → List Nat} (h : CI c s K F L m KT KK) {t : Nat} (ht : t < m) : CI c s K F (KT t) m KT KK := ⟨h.1, fun _ => (h.2.2 t ht).2.1, h.2.2⟩
def bdV (lo hi : List Nat) (he : Bool) (x j : Int32) : Int32 := if x = 0 then (if j = -1 then nI lo.length else atB lo j) else if x = 1 ∧ he = true then (if j = -1 then nI hi.length else atB hi j) else -1
def wiB (k lo hi : List Nat) (he : Bool) : Bool := decide (0 ≤ cmpB k lo) && (!he || decide (cmpB k hi < 0))
theorem wi_1 {k lo hi : List Nat} {he : Bool} (h : Int32.ofInt (cmpB k lo) < 0) : wiB k lo hi he = false := by
  unfold wiB
  rw [decide_eq_false (by have := oi_lt.mp h; omega)]
  rfl
theorem wi_2 {k lo hi : List Nat} {he : Bool} (h : ¬ Int32.ofInt (cmpB k lo) < 0) (h2 : he = false) : wiB k lo hi he = true := by
  unfold wiB
  rw [decide_eq_true (Int.not_lt.mp fun z => h (oi_lt.mpr z)), h2]
  rfl
theorem wi_3 {k lo hi : List Nat} {he : Bool} (h : ¬ Int32.ofInt (cmpB k lo) < 0) (h2 : Int32.ofInt (cmpB k hi) < 0) : wiB k lo hi he = true := by
  unfold wiB
  rw [decide_eq_true (Int.not_lt.mp fun z => h (oi_lt.mpr z)), decide_eq_true (oi_lt.mp h2)]
  simp
theorem wi_4 {k lo hi : List Nat} {he : Bool} (h2 : he = true) (h : ¬ Int32.ofInt (cmpB k hi) < 0) : wiB k lo hi he = false := by
  unfold wiB
  rw [h2, decide_eq_false (p := cmpB k hi < 0) (fun z => h (oi_lt.mpr z))]
  simp
theorem nle_s {x : Int32} {c : Nat} (h : x ≤ nI c) (hc : c < 2 ^ 30) : ¬ nI (c + 1) ≤ x := fun z => absurd ((nI_leI (by omega) (by omega)).mp (Int32.le_trans z h)) (by omega)
theorem bt_len {K F : Nat → Nat} {T U : Nat → kV} {c q : Nat} (h : okT K F T c) (h2 : okT K F U c) (hq : q < c) (hc : c ≤ 5) : (fldB K F T q).length + (encF (K q) (F q) (U q)).length ≤ 120 := by
  have := fldB_len h (Nat.le_of_lt hq)
  have := encF_tlF_len (h2 q hq)
  omega
