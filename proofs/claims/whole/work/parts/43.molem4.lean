/-! what the arrays mean, operation by operation -/
section
variable {c : Nat} {s : Bool} {K F : Nat → Nat} {L : Nat → kV} {kr : List Nat} {m : Nat} {KT : Nat → Nat → kV} {lo hi : List Nat} {he : Bool} {ki fl : Nat → Int32} {va va' : Nat → Int64} {fo go si te ro lw hw fo' go' si' te' : Nat → Int32}
theorem MI.rw_ {kr' : List Nat} {ro' : Nat → Int32} (h : MI c s K F L kr m KT lo hi he ki fl va fo go si te ro lw hw) (h1 : kr'.length ≤ 120) (h2 : ∀ b ∈ kr', b < 256) (h3 : Arr ro' kr') : MI c s K F L kr' m KT lo hi he ki fl va fo go si te ro' lw hw := by
  obtain ⟨g1, g2, g3, g4, g5, g6, g7, g8, g9, g10, g11⟩ := h
  exact ⟨g1, g2, h1, g4, g5, g6, g7, g8, h2, h3, g11⟩
theorem MI.tk {t : Nat} (h : MI c s K F L kr m KT lo hi he ki fl va fo go si te ro lw hw) (ht : t < m) (h1 : Cpd va va' (5 * (t + 1)) (5 * 0) 5) (h2 : Cpd fo fo' (5 * (t + 1)) (5 * 0) 5) (h3 : Cpd go go' (5 * (t + 1)) (5 * 0) 5) (h4 : Cpd si si' (5 * (t + 1)) (5 * 0) 5) (h5 : Cpd te te' (50 * (t + 1)) (50 * 0) 50) : MI c s K F (KT t) kr m KT lo hi he ki fl va' fo' go' si' te' ro lw hw := by
  obtain ⟨g1, g2, g3, g4, g5, g6, g7, g8, g9⟩ := h
  exact ⟨g1, g2, g3, g4, g5, g6, fun _ f hf => VR.cpd h1 h2 h3 h4 h5 (by omega) (g8 t ht f hf), fun t2 ht2 f hf => VR.cpo h1 h2 h3 h4 h5 (by omega) (g8 t2 ht2 f hf), g9⟩
theorem MI.kp (h : MI c s K F L kr m KT lo hi he ki fl va fo go si te ro lw hw) (hs : s = true) (hm : m < 12) (h1 : Cpd va va' (5 * 0) (5 * (m + 1)) 5) (h2 : Cpd fo fo' (5 * 0) (5 * (m + 1)) 5) (h3 : Cpd go go' (5 * 0) (5 * (m + 1)) 5) (h4 : Cpd si si' (5 * 0) (5 * (m + 1)) 5) (h5 : Cpd te te' (50 * 0) (50 * (m + 1)) 50) : MI c s K F L kr (m + 1) (va_up KT m L) lo hi he ki fl va' fo' go' si' te' ro lw hw := by
  obtain ⟨g1, g2, g3, g4, g5, g6, g7, g8, g9⟩ := h
  refine ⟨g1, hm, g3, g4, g5, g6, fun _ f hf => VR.cpo h1 h2 h3 h4 h5 (by omega) (g7 hs f hf), fun t2 ht2 f hf => ?_, g9⟩
  by_cases e : t2 = m
  · subst e; rw [va_up_self]; exact VR.cpd h1 h2 h3 h4 h5 (by omega) (g7 hs f hf)
  · rw [va_up_ne _ _ e]; exact VR.cpo h1 h2 h3 h4 h5 (by omega) (g8 t2 (by omega) f hf)
theorem MI.cl (h : MI c s K F L kr m KT lo hi he ki fl va fo go si te ro lw hw) : MI 0 false K F (fun _ => (false, 0, 0, [])) [] 0 KT lo hi he ki fl va' fo' go' si' te' ro lw hw := by
  obtain ⟨g1, g2, g3, g4, g5, g6, g7, g8, g9, g10, g11⟩ := h
  exact ⟨Nat.zero_le _, Nat.zero_le _, Nat.zero_le _, g4, g5, fun i hi => absurd hi (Nat.not_lt_zero i), fun h => (by cases h), fun t ht => absurd ht (Nat.not_lt_zero t), fun b h => (by cases h), Arr.nil _, g11⟩
theorem MI.v1 (h : MI c s K F L kr m KT lo hi he ki fl va fo go si te ro lw hw) {t : Nat} (ht : t < m) : TR va fo go si te (t + 1) c (KT t) := h.2.2.2.2.2.2.2.1 t ht
theorem MI.v00 (h : MI c s K F L kr m KT lo hi he ki fl va fo go si te ro lw hw) (hs : s = true) : TR va fo go si te 0 c L := h.2.2.2.2.2.2.1 hs
theorem MI.row (h : MI c s K F L kr m KT lo hi he ki fl va fo go si te ro lw hw) : (∀ b ∈ kr, b < 256) ∧ Arr ro kr := ⟨h.2.2.2.2.2.2.2.2.1, h.2.2.2.2.2.2.2.2.2.1⟩
end
theorem ldo_1 {k n : Nat} (hk : k ≤ 8) (hn : n ≤ 120) (h : nI n + nI k ≤ 120) : k + n ≤ 120 := by
  rw [nI_add] at h
  have := (nI_leI (a := n + k) (b := 120) (by omega) (by decide)).mp h
  omega
theorem ldo_0 {k n : Nat} (hk : k ≤ 8) (hn : n ≤ 120) (h : ¬ nI n + nI k ≤ 120) (q : k + n ≤ 120) : False := by
  rw [nI_add] at h
  exact h ((nI_leI (a := n + k) (b := 120) (by omega) (by decide)).mpr (by omega))
theorem ld_s {u i : Nat} {l1 z : List Nat} (he : l1 ++ be (i + 1) u = z) : (l1 ++ [u / 256 ^ i % 256]) ++ be i u = z := by
  rw [← he, be, List.append_assoc]
  rfl
theorem atM {l : List Nat} {f : Nat → Int32} {j : Nat} (h : Arr f l) (hj : j < l.length) (hl : l.length ≤ 200) : f j = atB l (nI j) := by
  rw [h j hj, atB_in hj (by omega)]
theorem Arr.cp {f g : Nat → Int32} {l : List Nat} (h : ∀ j, j < l.length → f j = nI (l.getD j 0)) : Arr f l := h
theorem ap1_lt {l : List Nat} {x : Nat} (h : ∀ b ∈ l, b < 256) (hx : x < 256) : ∀ b ∈ l ++ [x], b < 256 := by
  intro b hb
  rcases List.mem_append.mp hb with hb | hb
  · exact h b hb
  · rw [List.mem_singleton.mp hb]; exact hx
