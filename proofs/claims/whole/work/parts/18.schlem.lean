/-! small facts of schemas -/
def usB (s : Bool) (c : Nat) (i : Int32) : Bool := s && (decide (0 ≤ i) && decide (i < nI c))
theorem bo_1 {b : Bool} (h : ¬ (if b then (1 : Int32) else 0) = 0) : b = true := by
  cases b
  · exact absurd rfl h
  · rfl
theorem bo_0 {b : Bool} (h : (if b then (1 : Int32) else 0) = 0) : b = false := by
  cases b
  · rfl
  · exact absurd h (by decide)
theorem usB_s {s : Bool} {c : Nat} {i : Int32} (h : (if s then (1 : Int32) else 0) = 0) (z : usB s c i = true) : False := by
  rw [bo_0 h] at z
  cases z
theorem usB_n {s : Bool} {c : Nat} {i : Int32} (h : i < 0) (z : usB s c i = true) : False := by
  simp only [usB, Bool.and_eq_true, decide_eq_true_eq] at z
  exact k2_nlt z.2.1 h
theorem usB_b {s : Bool} {c : Nat} {i : Int32} (h : nI c ≤ i) (z : usB s c i = true) : False := by
  simp only [usB, Bool.and_eq_true, decide_eq_true_eq] at z
  exact k2_nlt h z.2.2
theorem usB_1 {s : Bool} {c : Nat} {i : Int32} (h : s = true) (h1 : ¬ i < 0) (h2 : ¬ nI c ≤ i) : (if usB s c i then (1 : Int32) else 0) = 1 := by
  rw [if_pos]
  simp only [usB, Bool.and_eq_true, decide_eq_true_eq]
  exact ⟨h, k2_le h1, k2_lt h2⟩
theorem usB_0 {s : Bool} {c : Nat} {i : Int32} (h : ¬ usB s c i = true) : (if usB s c i then (1 : Int32) else 0) = 0 := if_neg h
theorem usB_ix {s : Bool} {c : Nat} {i : Int32} (hc : c < 2 ^ 31) (h : usB s c i = true) : s = true ∧ ∃ j : Nat, j < c ∧ i = nI j := by
  simp only [usB, Bool.and_eq_true, decide_eq_true_eq] at h
  exact ⟨h.1, row_ix (k2_nlt h.2.1) (k2_nle h.2.2) hc⟩
theorem tnF_d : ∀ fl, fl < 8 → (nI fl &&& 1 = 0 → tnF fl = 0) ∧ (¬ nI fl &&& 1 = 0 → tnF fl = 255) := by decide
theorem mkA_d : ∀ fl, fl < 8 → (nI fl &&& 4 = 0 → mkA fl = 0) ∧ (¬ nI fl &&& 4 = 0 → mkA fl = 2) := by decide
theorem fOp_d : ∀ fl, fl < 8 → (nI fl &&& 2 = 0 → fOp fl = false) ∧ (¬ nI fl &&& 2 = 0 → fOp fl = true) := by decide
theorem if01 {c : Prop} [Decidable c] (h : (if c then (0 : Int32) else 1) = 0) : c := by
  by_cases hc : c
  · exact hc
  · rw [if_neg hc] at h; exact absurd h (by decide)
theorem if01n {c : Prop} [Decidable c] (h : ¬ (if c then (0 : Int32) else 1) = 0) : ¬ c := fun hc => h (if_pos hc)
theorem tnF_0 {fl : Nat} (h : fl < 8) (z : (if nI fl &&& 1 = 0 then (0 : Int32) else 1) = 0) : tnF fl = 0 := (tnF_d fl h).1 (if01 z)
theorem tnF_1 {fl : Nat} (h : fl < 8) (z : ¬ (if nI fl &&& 1 = 0 then (0 : Int32) else 1) = 0) : tnF fl = 255 := (tnF_d fl h).2 (if01n z)
theorem mkA_0 {fl : Nat} (h : fl < 8) (z : (if nI fl &&& 4 = 0 then (0 : Int32) else 1) = 0) : mkA fl = 0 := (mkA_d fl h).1 (if01 z)
theorem mkA_1 {fl : Nat} (h : fl < 8) (z : ¬ (if nI fl &&& 4 = 0 then (0 : Int32) else 1) = 0) : mkA fl = 2 := (mkA_d fl h).2 (if01n z)
theorem fOp_0 {fl : Nat} (h : fl < 8) (z : (if nI fl &&& 2 = 0 then (0 : Int32) else 1) = 0) : fOp fl = false := (fOp_d fl h).1 (if01 z)
theorem fOp_1 {fl : Nat} (h : fl < 8) (z : ¬ (if nI fl &&& 2 = 0 then (0 : Int32) else 1) = 0) : fOp fl = true := (fOp_d fl h).2 (if01n z)
theorem tnF_01 (fl : Nat) : tnF fl = 0 ∨ tnF fl = 255 := by unfold tnF; split <;> simp
/-! comparisons of longs and ints as numbers -/
theorem alow {z k : Int64} (h : ¬ lg_cmp z k < 0) : k.toInt ≤ z.toInt := by
  have := Int64.not_lt.mp fun q => h ((lg_cmp_lt z k).mpr q)
  exact Int64.le_iff_toInt_le.mp this
theorem ahi {z k : Int64} (h : ¬ 0 < lg_cmp z k) : z.toInt ≤ k.toInt := by
  have := Int64.not_lt.mp fun q => h ((lg_cmp_gt z k).mpr q)
  exact Int64.le_iff_toInt_le.mp this
theorem alowN {z k : Int64} (h : lg_cmp z k < 0) (q : k.toInt ≤ z.toInt) : False := by
  have := Int64.lt_iff_toInt_lt.mp ((lg_cmp_lt z k).mp h)
  omega
theorem ahiN {z k : Int64} (h : 0 < lg_cmp z k) (q : z.toInt ≤ k.toInt) : False := by
  have := Int64.lt_iff_toInt_lt.mp ((lg_cmp_gt z k).mp h)
  omega
theorem aeq {z k : Int64} (h : lg_cmp z k = 0) : z = k := (lg_cmp_eq z k).mp h
theorem aeqN {z k : Int64} (h : z = k) : lg_cmp z k = 0 := (lg_cmp_eq z k).mpr h
theorem i32neg {j : Int32} (h : j < 0) (q : 0 ≤ j.toInt) : False := by
  have := Int32.lt_iff_toInt_lt.mp h
  simp at this
  omega
theorem i32nn {j : Int32} (h : ¬ j < 0) : 0 ≤ j.toInt := by
  have := Int32.le_iff_toInt_le.mp (k2_le h)
  simpa using this
theorem i32big {j k : Int32} (h : k < j) (q : j.toInt ≤ k.toInt) : False := by
  have := Int32.lt_iff_toInt_lt.mp h
  omega
theorem i32sm {j k : Int32} (h : ¬ k < j) : j.toInt ≤ k.toInt := Int32.le_iff_toInt_le.mp (k2_le h)
theorem i32low {j k : Int32} (h : j < k) (q : k.toInt ≤ j.toInt) : False := by
  have := Int32.lt_iff_toInt_lt.mp h
  omega
theorem i32lo {j k : Int32} (h : ¬ j < k) : k.toInt ≤ j.toInt := Int32.le_iff_toInt_le.mp (k2_le h)
