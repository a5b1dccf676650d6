/-! keeping -/
theorem CI.keep {c : Nat} {s : Bool} {K F : Nat → Nat} {L : Nat → kV} {m : Nat} {KT : Nat → Nat → kV} {KK : Nat → List Nat} (h : CI c s K F L m KT KK) (hs : s = true) (hm : m < 12) : CI c s K F L (m + 1) (va_up KT m L) (va_up KK m (keyB K F L c)) := by
  refine ⟨hm, h.2.1, fun i hi => ?_⟩
  by_cases e : i = m
  · subst e; rw [va_up_self, va_up_self]; exact ⟨hs, h.2.1 hs, rfl⟩
  · rw [va_up_ne _ _ e, va_up_ne _ _ e]; exact h.2.2 i (by omega)
