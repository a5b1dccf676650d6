/-! bounds and ranks of the other class -/
theorem shrB_comm : ∀ x y : List Nat, shrB x y = shrB y x
  | [], [] => rfl
  | [], _ :: _ => rfl
  | _ :: _, [] => rfl
  | a :: x, b :: y => by
    by_cases e : a = b
    · subst e
      simp only [shrB, if_true]
      rw [shrB_comm x y]
    · simp only [shrB, if_neg e, if_neg (Ne.symm e)]
theorem k4_ix {x : Int32} (h0 : ¬ x < 0) (h : ¬ 3 < x) : ∃ k, k < 4 ∧ x = nI k := row_ix (n := 4) h0 (fun z => h (Int32.lt_of_lt_of_le (by decide) z)) (by decide)
theorem k8_ix {x : Int32} (h0 : ¬ x < 0) (h : x ≤ 7) : ∃ k, k < 8 ∧ x = nI k := row_ix (n := 8) h0 (fun z => absurd (Int32.le_trans z h) (by decide)) (by decide)
theorem MI.fd {c : Nat} {s : Bool} {K F : Nat → Nat} {L : Nat → kV} {kr : List Nat} {m : Nat} {KT : Nat → Nat → kV} {lo hi : List Nat} {he : Bool} {ki fl : Nat → Int32} {va : Nat → Int64} {fo go si te ro lw hw : Nat → Int32} {kd fg : Nat} (h : MI c s K F L kr m KT lo hi he ki fl va fo go si te ro lw hw) (hV : VI c s K F L m KT) (hs : s = false) (hc : c < 5) (hk : kd < 4) (hf : fg < 8) : MI (c + 1) s (va_up K c kd) (va_up F c fg) L kr m KT lo hi he (upd ki c (nI kd)) (upd fl c (nI fg)) va fo go si te ro lw hw := by
  obtain ⟨g1, g2, g3, g4, g5, g6, g7, g8, g9⟩ := h
  refine ⟨hc, g2, g3, g4, g5, fun i hi => ?_, fun q => (by rw [hs] at q; cases q), fun t ht => (by have := (hV.2 t ht).1; rw [hs] at this; cases this), g9⟩
  by_cases e : i = c
  · subst e; rw [va_up_self, va_up_self, pk_us, pk_us]; exact ⟨hk, hf, rfl, rfl⟩
  · rw [va_up_ne _ _ e, va_up_ne _ _ e, pk_un e, pk_un e]; exact g6 i (by omega)
theorem hz_no {he : Bool} {n : Nat} (hn : n ≤ 200) (h : (if he then nI n else (-1 : Int32)) = -1) : he = false := by
  cases he
  · rfl
  · exact absurd h (nI_m1 (b := n) (by omega))
theorem hz_yes {he : Bool} {n : Nat} (h : ¬ (if he then nI n else (-1 : Int32)) = -1) : he = true := by
  cases he
  · exact absurd rfl h
  · rfl
theorem bd_1 {lo hi : List Nat} {he : Bool} {x : Int32} (h0 : ¬ x = 0) (h : ¬ (x = 1 ∧ he = true)) (j : Int32) : bdV lo hi he x j = -1 := by rw [bdV, if_neg h0, if_neg h]
theorem bd_0 {lo hi : List Nat} {he : Bool} (j : Int32) : bdV lo hi he 0 j = (if j = -1 then nI lo.length else atB lo j) := rfl
theorem bd_h {lo hi : List Nat} (j : Int32) : bdV lo hi true 1 j = (if j = -1 then nI hi.length else atB hi j) := rfl
