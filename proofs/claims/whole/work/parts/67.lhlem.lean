/-! the whole codec moved -/
theorem Cod.cell {D : kD} {w : ww} {b c : Nat} {s : Bool} {K F : Nat → Nat} {L : Nat → kV} {kr : List Nat} {m : Nat} {KT : Nat → Nat → kV} {lo hi : List Nat} {he : Bool} (h : Cod D w b c s K F L kr m KT lo hi he) : Cc w b m he := by
  obtain ⟨_, _, _, _, h0, _⟩ := h
  exact h0
theorem Cod.mv {D : kD} {w w' : ww} {b c : Nat} {s : Bool} {K F : Nat → Nat} {L : Nat → kV} {kr : List Nat} {m : Nat} {KT : Nat → Nat → kV} {lo hi : List Nat} {he : Bool} (hf : ∀ q, b ≤ q → q < b + 208 → w' q = w q) (h : Cod D w b c s K F L kr m KT lo hi he) : Cod D w' b c s K F L kr m KT lo hi he := by
  obtain ⟨Z, lf, rg, KK, h0, hs, hL, hZ, hkr, hlf, hrg, hK, hlo, hhi, hI⟩ := h
  exact ⟨Z, lf, rg, KK, (hf _ (by omega) (by omega)).trans h0, hs.mv (fun q g1 g2 => hf q (by omega) (by omega)), hL.mv (fun q g1 g2 => hf q (by omega) (by omega)), hZ.mv (fun q g1 g2 => hf q (by omega) (by omega)), hkr.mv (fun q g1 g2 => hf q (by omega) (by omega)), hlf.mv (fun q g1 g2 => hf q (by omega) (by omega)), hrg.mv (fun q g1 g2 => hf q (by omega) (by omega)), hK.mv (fun q hq => hf q (by omega) (by omega)), hlo.mv (fun q g1 g2 => hf q (by omega) (by omega)), hhi.mv (fun q g1 g2 => hf q (by omega) (by omega)), hI⟩
