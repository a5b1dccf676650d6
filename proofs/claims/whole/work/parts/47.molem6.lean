/-! bounds and ranks of the other class -/
theorem shrB_comm : ∀ x y : List Nat, shrB x y = shrB y x
  | [], [] => rfl
  | [], _ :: _ => rfl
  | _ :: _, [] => rfl
  | a :: x, b :: y => by
    by_cases e : a = b
    · subst e
      simp only [shrB, if_true]
      rw [shrB_comm x y]
    · simp only [shrB, if_neg e, if_neg (Ne.symm e)]
