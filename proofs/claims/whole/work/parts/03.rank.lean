/-! PURE: ranks: each rank below the number of rows is that of one row -/
theorem cmpB_swap : ∀ x y : List Nat, cmpB y x = - cmpB x y
  | [], [] => rfl
  | [], _ :: _ => rfl
  | _ :: _, [] => rfl
  | a :: x, b :: y => by
    simp only [cmpB]
    by_cases h1 : a < b
    · have h2 : ¬ b < a := by omega
      simp only [h1, h2, if_true, if_false]; rfl
    · by_cases h2 : b < a
      · simp only [h1, h2, if_true, if_false]
      · simp only [h1, h2, if_false]
        exact cmpB_swap x y
theorem cmpB_val : ∀ x y : List Nat, cmpB x y = -1 ∨ cmpB x y = 0 ∨ cmpB x y = 1
  | [], [] => Or.inr (Or.inl rfl)
  | [], _ :: _ => Or.inl rfl
  | _ :: _, [] => Or.inr (Or.inr rfl)
  | a :: x, b :: y => by
    simp only [cmpB]
    split
    · exact Or.inl rfl
    · split
      · exact Or.inr (Or.inr rfl)
      · exact cmpB_val x y
theorem cmpB_eq : ∀ {x y : List Nat}, cmpB x y = 0 → x = y
  | [], [], _ => rfl
  | [], _ :: _, h => by simp [cmpB] at h
  | _ :: _, [], h => by simp [cmpB] at h
  | a :: x, b :: y, h => by
    simp only [cmpB] at h
    split at h
    · simp at h
    · split at h
      · simp at h
      · have : a = b := by omega
        rw [this, cmpB_eq h]
theorem cmpB_trans : ∀ {x y z : List Nat}, cmpB x y < 0 → cmpB y z < 0 → cmpB x z < 0
  | [], [], _, h, _ => by simp [cmpB] at h
  | [], _ :: _, [], _, h => by simp [cmpB] at h
  | [], _ :: _, _ :: _, _, _ => by simp [cmpB]
  | _ :: _, [], _, h, _ => by simp [cmpB] at h
  | _ :: _, _ :: _, [], _, h => by simp [cmpB] at h
  | a :: x, b :: y, c :: z, h1, h2 => by
    simp only [cmpB] at h1 h2 ⊢
    by_cases e1 : a < b
    · by_cases e2 : b < c
      · rw [if_pos (by omega)]; decide
      · by_cases e3 : c < b
        · simp [e2, e3] at h2
        · rw [if_pos (by omega)]; decide
    · by_cases e4 : b < a
      · simp [e1, e4] at h1
      · have : a = b := by omega
        subst this
        simp only [Nat.lt_irrefl, if_false] at h1
        by_cases e2 : a < c
        · rw [if_pos e2]; decide
        · by_cases e3 : c < a
          · simp [e2, e3] at h2
          · simp only [e2, e3, if_false] at h2 ⊢
            exact cmpB_trans h1 h2
/-- row i comes before row t -/
def bef (ks : Nat → List Nat) (t i : Nat) : Bool := decide (cmpB (ks i) (ks t) < 0) || (decide (cmpB (ks i) (ks t) = 0) && decide (i < t))
def cntB (P : Nat → Bool) : Nat → Nat
  | 0 => 0
  | m + 1 => cntB P m + (if P m then 1 else 0)
def rankB (ks : Nat → List Nat) (m t : Nat) : Nat := cntB (bef ks t) m
theorem cntB_le (P Q : Nat → Bool) : ∀ m : Nat, (∀ i, i < m → P i = true → Q i = true) → cntB P m ≤ cntB Q m
  | 0, _ => Nat.le_refl _
  | m + 1, h => by
    have ih := cntB_le P Q m (fun i hi => h i (by omega))
    have := h m (by omega)
    simp only [cntB]
    by_cases hp : P m = true
    · rw [if_pos hp, if_pos (this hp)]; omega
    · rw [if_neg hp]; omega
theorem cntB_lt (P Q : Nat → Bool) : ∀ m : Nat, (∀ i, i < m → P i = true → Q i = true) → (∃ j, j < m ∧ P j = false ∧ Q j = true) → cntB P m < cntB Q m
  | 0, _, ⟨j, hj, _⟩ => by omega
  | m + 1, h, ⟨j, hj, h1, h2⟩ => by
    simp only [cntB]
    by_cases hjm : j = m
    · subst hjm
      have := cntB_le P Q j (fun i hi => h i (by omega))
      rw [h1, h2]
      simp only [Bool.false_eq_true, if_false, if_true]
      omega
    · have ih := cntB_lt P Q m (fun i hi => h i (by omega)) ⟨j, by omega, h1, h2⟩
      have := h m (by omega)
      by_cases hp : P m = true
      · rw [if_pos hp, if_pos (this hp)]; omega
      · rw [if_neg hp]; omega
theorem cntB_true : ∀ m : Nat, cntB (fun _ => true) m = m
  | 0 => rfl
  | m + 1 => by simp [cntB, cntB_true m]
theorem bef_self (ks : Nat → List Nat) (t : Nat) : bef ks t t = false := by simp [bef, cmpB_self]
theorem bef_trans {ks : Nat → List Nat} {i s t : Nat} (h1 : bef ks s i = true) (h2 : bef ks t s = true) : bef ks t i = true := by
  simp only [bef, Bool.or_eq_true, Bool.and_eq_true, decide_eq_true_eq] at *
  rcases h1 with h1 | ⟨h1, h3⟩
  · rcases h2 with h2 | ⟨h2, h4⟩
    · exact Or.inl (cmpB_trans h1 h2)
    · rw [← cmpB_eq h2]; exact Or.inl h1
  · rw [cmpB_eq h1]
    rcases h2 with h2 | ⟨h2, h4⟩
    · exact Or.inl h2
    · exact Or.inr ⟨h2, by omega⟩
theorem bef_total {ks : Nat → List Nat} {s t : Nat} (h : s ≠ t) : bef ks t s = true ∨ bef ks s t = true := by
  simp only [bef, Bool.or_eq_true, Bool.and_eq_true, decide_eq_true_eq]
  have e := cmpB_swap (ks s) (ks t)
  rcases cmpB_val (ks s) (ks t) with h1 | h1 | h1
  · exact Or.inl (Or.inl (by omega))
  · rcases Nat.lt_or_gt_of_ne h with h2 | h2
    · exact Or.inl (Or.inr ⟨h1, h2⟩)
    · exact Or.inr (Or.inr ⟨by omega, h2⟩)
  · exact Or.inr (Or.inl (by omega))
theorem rankB_lt {ks : Nat → List Nat} {m t : Nat} (h : t < m) : rankB ks m t < m := by
  have := cntB_lt (bef ks t) (fun _ => true) m (fun _ _ _ => rfl) ⟨t, h, bef_self ks t, rfl⟩
  rw [cntB_true] at this
  exact this
theorem rankB_inj {ks : Nat → List Nat} {m s t : Nat} (hs : s < m) (ht : t < m) (e : rankB ks m s = rankB ks m t) : s = t := by
  have key : ∀ {a b : Nat}, a < m → bef ks b a = true → rankB ks m a < rankB ks m b := fun {a b} ha hab =>
    cntB_lt (bef ks a) (bef ks b) m (fun i _ hi => bef_trans hi hab) ⟨a, ha, bef_self ks a, hab⟩
  by_cases h : s = t
  · exact h
  · rcases bef_total (ks := ks) h with h1 | h1
    · have := key hs h1; omega
    · have := key ht h1; omega
theorem pigeon : ∀ (m : Nat) (f : Nat → Nat), (∀ i, i < m → f i < m) → (∀ i j, i < m → j < m → f i = f j → i = j) → ∀ r, r < m → ∃ i, i < m ∧ f i = r
  | 0, _, _, _, r, h => by omega
  | m + 1, f, h1, h2, r, hr => by
    by_cases hx : ∃ i, i < m + 1 ∧ f i = r
    · exact hx
    · have hne : ∀ i, i < m + 1 → f i ≠ r := fun i hi e => hx ⟨i, hi, e⟩
      have ih := pigeon m (fun i => if r < f i then f i - 1 else f i) (fun i hi => by
        have := h1 i (by omega); have := hne i (by omega)
        show (if r < f i then f i - 1 else f i) < m
        split <;> omega) (fun i j hi hj e => by
        have a1 := hne i (by omega); have a2 := hne j (by omega)
        have e : (if r < f i then f i - 1 else f i) = (if r < f j then f j - 1 else f j) := e
        refine h2 i j (by omega) (by omega) ?_
        split at e <;> split at e <;> omega)
      have hm := h1 m (by omega)
      have hm2 := hne m (by omega)
      obtain ⟨i, hi, e⟩ := ih (if r < f m then f m - 1 else f m) (by split <;> omega)
      have e : (if r < f i then f i - 1 else f i) = (if r < f m then f m - 1 else f m) := e
      have a1 := hne i (by omega)
      have : i = m := h2 i m (by omega) (by omega) (by split at e <;> split at e <;> omega)
      omega
theorem rankB_onto {ks : Nat → List Nat} {m r : Nat} (h : r < m) : ∃ t, t < m ∧ rankB ks m t = r := pigeon m (rankB ks m) (fun _ hi => rankB_lt hi) (fun _ _ hi hj e => rankB_inj hi hj e) r h
