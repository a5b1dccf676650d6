/-! the model's decode -/
theorem fldB_cg {K F : Nat → Nat} {S T : Nat → kV} : ∀ {c : Nat}, (∀ j, j < c → S j = T j) → fldB K F S c = fldB K F T c
  | 0, _ => rfl
  | c + 1, h => by
    have := fldB_cg (K := K) (F := F) (c := c) (fun j hj => h j (by omega))
    rw [fldB, fldB, this, h c (by omega)]
theorem tlB_cg {K : Nat → Nat} {S T : Nat → kV} : ∀ {c : Nat}, (∀ j, j < c → S j = T j) → tlB K S c = tlB K T c
  | 0, _ => rfl
  | c + 1, h => by
    have := tlB_cg (K := K) (c := c) (fun j hj => h j (by omega))
    rw [tlB, tlB, this, h c (by omega)]
theorem keyB_cg {K F : Nat → Nat} {S T : Nat → kV} {c : Nat} (h : ∀ j, j < c → S j = T j) : keyB K F S c = keyB K F T c := by
  unfold keyB
  rw [fldB_cg h, tlB_cg h]
theorem ls_ext {x y : List Nat} (h : x.length = y.length) (he : ∀ i, i < x.length → x.getD i 0 = y.getD i 0) : x = y := by
  refine List.ext_getElem h fun i h1 h2 => ?_
  have := he i h1
  rw [List.getD_eq_getElem?_getD, List.getD_eq_getElem?_getD, List.getElem?_eq_getElem h1, List.getElem?_eq_getElem h2] at this
  exact this
theorem VR.tl {va va2 : Nat → Int64} {fo fo2 go si te : Nat → Int32} {p : Nat} {x : kV} (h : VR va fo go si te p x) (h1 : va2 p = va p) (h2 : fo2 p = fo p) : VR va2 fo2 go si te p x := ⟨h1.trans h.1, h2.trans h.2.1, h.2.2⟩
section
variable {c : Nat} {s : Bool} {K F : Nat → Nat} {L : Nat → kV} {kr : List Nat} {m : Nat} {KT : Nat → Nat → kV} {lo hi : List Nat} {he : Bool} {ki fl : Nat → Int32} {va va1 va2 : Nat → Int64} {fo go si te ro lw hw fo1 go1 si1 te1 fo2 go2 si2 te2 : Nat → Int32}
theorem MI.sx (h : MI c s K F L kr m KT lo hi he ki fl va fo go si te ro lw hw) (hS : ∀ p x, p < 65 → VR va fo go si te p x → VR va1 fo1 go1 si1 te1 p x) : MI c s K F L kr m KT lo hi he ki fl va1 fo1 go1 si1 te1 ro lw hw := by
  obtain ⟨g1, g2, g3, g4, g5, g6, g7, g8, g9⟩ := h
  exact ⟨g1, g2, g3, g4, g5, g6, fun hs f hf => hS _ _ (by omega) (g7 hs f hf), fun t ht f hf => hS _ _ (by omega) (g8 t ht f hf), g9⟩
theorem MI.dc {T : Nat → kV} (h : MI c s K F L kr m KT lo hi he ki fl va1 fo1 go1 si1 te1 ro lw hw) (hT : TR va1 fo1 go1 si1 te1 13 c T) (h1 : Cpd va1 va2 (5 * 13) (5 * 0) 5) (h2 : Cpd fo1 fo2 (5 * 13) (5 * 0) 5) (h3 : Cpd go1 go2 (5 * 13) (5 * 0) 5) (h4 : Cpd si1 si2 (5 * 13) (5 * 0) 5) (h5 : Cpd te1 te2 (50 * 13) (50 * 0) 50) : MI c s K F T kr m KT lo hi he ki fl va2 fo2 go2 si2 te2 ro lw hw := by
  obtain ⟨g1, g2, g3, g4, g5, g6, g7, g8, g9⟩ := h
  exact ⟨g1, g2, g3, g4, g5, g6, fun _ f hf => VR.cpd h1 h2 h3 h4 h5 (by omega) (hT f hf), fun t ht f hf => VR.cpo h1 h2 h3 h4 h5 (by omega) (g8 t ht f hf), g9⟩
end
