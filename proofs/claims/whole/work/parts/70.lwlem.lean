/-! the law: what stands between its rounds -/
theorem Mdl.mv {D : kD} {w w' : ww} {b : Nat} {th : Int32} {c : Nat} {s : Bool} {K F : Nat → Nat} {L : Nat → kV} {kr : List Nat} {m : Nat} {KT : Nat → Nat → kV} {lo hi : List Nat} {he : Bool} (hf : ∀ q, b ≤ q → q < b + 14 → w' q = w q) (h : Mdl D w b th c s K F L kr m KT lo hi he) : Mdl D w' b th c s K F L kr m KT lo hi he := by
  obtain ⟨ki, fl, va, fo, go, si, te, ro, ma, sz, en, ms, lw, hw, pt, bd, h, hI, hG⟩ := h
  exact ⟨ki, fl, va, fo, go, si, te, ro, ma, sz, en, ms, lw, hw, pt, bd, h.mv hf, hI, hG⟩
theorem Mdl.cell {D : kD} {w : ww} {b : Nat} {th : Int32} {c : Nat} {s : Bool} {K F : Nat → Nat} {L : Nat → kV} {kr : List Nat} {m : Nat} {KT : Nat → Nat → kV} {lo hi : List Nat} {he : Bool} (h : Mdl D w b th c s K F L kr m KT lo hi he) : ∃ fs : List Value, w b = some (.inr (6, fs)) := by
  obtain ⟨ki, fl, va, fo, go, si, te, ro, ma, sz, en, ms, lw, hw, pt, bd, h, hI, hG⟩ := h
  exact ⟨_, h.1⟩
theorem Mdl.cgL {D : kD} {w : ww} {b : Nat} {th : Int32} {c : Nat} {s : Bool} {K F : Nat → Nat} {L L' : Nat → kV} {kr : List Nat} {m : Nat} {KT : Nat → Nat → kV} {lo hi : List Nat} {he : Bool} (hL : ∀ j, j < c → L j = L' j) (h : Mdl D w b th c s K F L kr m KT lo hi he) : Mdl D w b th c s K F L' kr m KT lo hi he := by
  obtain ⟨ki, fl, va, fo, go, si, te, ro, ma, sz, en, ms, lw, hw, pt, bd, h, ⟨g1, g2, g3, g4, g5, g6, g7, g8⟩, hG⟩ := h
  exact ⟨ki, fl, va, fo, go, si, te, ro, ma, sz, en, ms, lw, hw, pt, bd, h, ⟨g1, g2, g3, g4, g5, g6, fun hs f hf => by rw [← hL f hf]; exact g7 hs f hf, g8⟩, hG⟩
theorem Cod.VI {D : kD} {w : ww} {b c : Nat} {s : Bool} {K F : Nat → Nat} {L : Nat → kV} {kr : List Nat} {m : Nat} {KT : Nat → Nat → kV} {lo hi : List Nat} {he : Bool} (h : Cod D w b c s K F L kr m KT lo hi he) : VI c s K F L m KT ∧ c ≤ 5 ∧ m ≤ 12 := by
  obtain ⟨_, _, _, _, _, hs, _, _, _, _, _, _, _, _, hI⟩ := h
  exact ⟨⟨hI.2.1, fun i hi => ⟨(hI.2.2 i hi).1, (hI.2.2 i hi).2.1⟩⟩, hs.1, hI.1⟩
theorem sw32 (x : Int32) : ∃ k, k < 32 ∧ x &&& 31 = nI k := by
  refine ⟨x.toBitVec.toNat % 32, Nat.mod_lt _ (by decide), ?_⟩
  refine Int32.toBitVec_inj.mp (BitVec.eq_of_toNat_eq ?_)
  have hl : x.toBitVec.toNat % 32 < 32 := Nat.mod_lt _ (by decide)
  rw [Int32.toBitVec_and, BitVec.toNat_and, pk_tn (by omega)]
  show x.toBitVec.toNat &&& 31 = _
  exact Nat.and_two_pow_sub_one_eq_mod _ 5
theorem sc_end {N i : Nat} (hN : N ≤ 2560) (hi : i ≤ 2565) (h : ¬ nI N - 5 < nI i) : i + 5 ≤ N := by
  have e5 : (5 : Int32).toInt = 5 := by decide
  have h1 := Int32.not_lt.mp h
  have h2 := Int32.le_iff_toInt_le.mp h1
  rw [Jvm.Kit.i32_sub (by rw [nI_toInt (by omega), e5]; omega) (by rw [nI_toInt (by omega), e5]; omega), nI_toInt (by omega), nI_toInt (by omega), e5] at h2
  omega
/-- the script, outside the world -/
def SCR (X : MX) (Y : kY) (b N : Nat) (xs : Nat → Int32) : Prop := va_X b N xs X.2.2.2.2.1 X.2.2.2.2.1.heap ∧ ¬ Y.2.1 b ∧ N < 2 ^ 31
section
variable {X : MX} {Y : kY} {cc : ByteArray} {own : String} {d mc ms pc n cells slots : Nat} {lv : List (Nat × Value)} {st : List Value} {w : ww} {b N : Nat} {xs : Nat → Int32}
theorem a_sld (S : FX X Y cc own d mc ms) (hX : SCR X Y b N xs) {i : Nat} {x : Int32} (hx : x = nI i) (hi : i < N) (hdg : decode cc pc = .ok (.iaload, 1)) (kk : AW X Y (pc + 1) lv (.int (xs i) :: st) w n cells slots) : AW X Y pc lv (.int x :: .ref b :: st) w n cells slots := by
  subst hx
  intro H locs ls h1 h2 h3 h4 h5
  obtain ⟨⟨scr, g1, g2, g3, g4, g5⟩, g6, g7⟩ := hX
  have hc := nI_clamp (Nat.lt_trans hi g7)
  refine W.iald S.1 S.2.1 (by rw [h4.2.1 b (Array.getElem?_eq_some_iff.mp g1).1 g6]; exact g1) g2 g3 (by rw [g4]; exact vp_in_nI hi g7) (v := .int (xs i)) (by rw [hc]; exact g5 i hi) rfl rfl hdg (kk H locs ls h1 h2 h3 h4 h5)
theorem a_slen (S : FX X Y cc own d mc ms) (hX : SCR X Y b N xs) (hdg : decode cc pc = .ok (.arraylength, 1)) (kk : AW X Y (pc + 1) lv (.int (nI N) :: st) w n cells slots) : AW X Y pc lv (.ref b :: st) w n cells slots := by
  intro H locs ls h1 h2 h3 h4 h5
  obtain ⟨⟨scr, g1, g2, g3, g4, g5⟩, g6, g7⟩ := hX
  exact W.alen S.1 S.2.1 (by rw [h4.2.1 b (Array.getElem?_eq_some_iff.mp g1).1 g6]; exact g1) g2 (by rw [g4]; rfl) rfl rfl hdg (kk H locs ls h1 h2 h3 h4 h5)
end
/-- one state for both -/
def LI (D : kD) (w : ww) (n a : Nat) (g0 : Nat → Int64) (th : Int32) (c : Nat) (s : Bool) (K F : Nat → Nat) (L : Nat → kV) (kr : List Nat) (m : Nat) (KT : Nat → Nat → kV) (lo hi : List Nat) (he : Bool) : Prop := Cod D w a c s K F L kr m KT lo hi he ∧ Mdl D w (a + 208) th c s K F L kr m KT lo hi he ∧ w (a + 222) = some (.inl (D.2 1, 1, .inr (.inl g0))) ∧ a + 223 ≤ n
/-- the next round is reached -/
def LQ (X : MX) (Y : kY) (b a i : Nat) : Prop := ∀ (c : Nat) (s : Bool) (K F : Nat → Nat) (L : Nat → kV) (kr : List Nat) (m : Nat) (KT : Nat → Nat → kV) (lo hi : List Nat) (he : Bool) (th : Int32) (g0 : Nat → Int64) (w : ww) (n k j : Nat), LI Y.1 w n a g0 th c s K F L kr m KT lo hi he → k ≤ 303 + i → j ≤ 6016 + 4 * i → AW X Y 983 [(0, .ref b), (1, .ref a), (2, .ref (a + 208)), (3, .ref (a + 222)), (4, .int (nI i))] [] w n k j
theorem fld_c (x y : Int32) : (∃ kd fg, kd < 4 ∧ fg < 8 ∧ x = nI kd ∧ y = nI fg) ∨ (∀ kd fg, kd < 4 → fg < 8 → x = nI kd → y = nI fg → False) := by
  by_cases h : ∃ kd fg, kd < 4 ∧ fg < 8 ∧ x = nI kd ∧ y = nI fg
  · exact Or.inl h
  · exact Or.inr (fun kd fg h1 h2 h3 h4 => h ⟨kd, fg, h1, h2, h3, h4⟩)
theorem dec_c (K F : Nat → Nat) (c : Nat) (kr : List Nat) : (∃ T : Nat → kV, okT K F T c ∧ kr = keyB K F T c) ∨ (∀ T : Nat → kV, okT K F T c → ¬ kr = keyB K F T c) := by
  by_cases h : ∃ T : Nat → kV, okT K F T c ∧ kr = keyB K F T c
  · exact Or.inl h
  · exact Or.inr (fun T h1 h2 => h ⟨T, h1, h2⟩)
theorem lg_self (x : Int64) : lg_cmp x x = 0 := by
  unfold lg_cmp
  simp
theorem Cod.fr {D : kD} {w w' : ww} {q k b c : Nat} {s : Bool} {K F : Nat → Nat} {L : Nat → kV} {kr : List Nat} {m : Nat} {KT : Nat → Nat → kV} {lo hi : List Nat} {he : Bool} (hf : Fr w w' q k) (h : Cod D w b c s K F L kr m KT lo hi he) (hd : q + k ≤ b ∨ b + 208 ≤ q) : Cod D w' b c s K F L kr m KT lo hi he := h.mv (fun z g1 g2 => hf z (by omega))
theorem Mdl.fr {D : kD} {w w' : ww} {q k b : Nat} {th : Int32} {c : Nat} {s : Bool} {K F : Nat → Nat} {L : Nat → kV} {kr : List Nat} {m : Nat} {KT : Nat → Nat → kV} {lo hi : List Nat} {he : Bool} (hf : Fr w w' q k) (h : Mdl D w b th c s K F L kr m KT lo hi he) (hd : q + k ≤ b ∨ b + 14 ≤ q) : Mdl D w' b th c s K F L kr m KT lo hi he := h.mv (fun z g1 g2 => hf z (by omega))
