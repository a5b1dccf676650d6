/-! the model's reading -/
def TX (si te si1 te1 : Nat → Int32) (k : Nat) (x : List Nat) : Prop := x.length ≤ 10 ∧ (∀ b ∈ x, b < 256) ∧ si1 k = nI x.length ∧ (∀ i, i < x.length → te1 (10 * k + i) = nI (x.getD i 0)) ∧ (∀ p, p ≠ k → si1 p = si p) ∧ (∀ p, (p < 10 * k ∨ 10 * k + 10 ≤ p) → te1 p = te p)
theorem TX.z {si te : Nat → Int32} {k : Nat} (h : si k = nI 0) : TX si te si te k [] := ⟨Nat.zero_le _, (fun b hb => by cases hb), h, fun i hi => absurd hi (Nat.not_lt_zero i), fun _ _ => rfl, fun _ _ => rfl⟩
theorem TX.s {si te si1 te1 : Nat → Int32} {k b : Nat} {x : List Nat} (h : TX si te si1 te1 k x) (h10 : ¬ x.length = 10) (hb : b < 256) : TX si te (upd si1 k (nI (x.length + 1))) (upd te1 (10 * k + x.length) (nI b)) k (x ++ [b]) := by
  obtain ⟨g1, g2, g3, g4, g5, g6⟩ := h
  refine ⟨by rw [List.length_append, List.length_singleton]; omega, fun c hc => ?_, by rw [pk_us, List.length_append, List.length_singleton], fun i hi => ?_, fun p hp => by rw [pk_un hp]; exact g5 p hp, fun p hp => by rw [pk_un (by omega)]; exact g6 p hp⟩
  · rcases List.mem_append.mp hc with h | h
    · exact g2 c h
    · rw [List.mem_singleton.mp h]; exact hb
  · rw [List.length_append, List.length_singleton] at hi
    by_cases e : i = x.length
    · subst e
      rw [pk_us, List.getD_eq_getElem?_getD, List.getElem?_append_right (Nat.le_refl _), Nat.sub_self]
      rfl
    · rw [pk_un (by omega), g4 i (by omega), List.getD_eq_getElem?_getD, List.getD_eq_getElem?_getD, List.getElem?_append_left (by omega)]
def RTc (t : Nat) (l0 : List Nat) (pt p1 : Nat) (x : List Nat) (mr b1 : Bool) : Prop := (b1 = true → rdT t 11 [] (l0.drop pt) = none) ∧ (b1 = false → mr = true → rdT t 11 [] (l0.drop pt) = rdT t (11 - x.length) x (l0.drop p1)) ∧ (b1 = false → mr = false → rdT t 11 [] (l0.drop pt) = some (x, l0.drop p1))
theorem RTc.z {t : Nat} {l0 : List Nat} {pt : Nat} : RTc t l0 pt pt [] true false := ⟨(fun q => by cases q), fun _ _ => rfl, (fun _ q => by cases q)⟩
theorem RTc.N {t : Nat} {l0 : List Nat} {pt p1 : Nat} {x : List Nat} {mr : Bool} (h : rdT t 11 [] (l0.drop pt) = none) : RTc t l0 pt p1 x mr true := ⟨fun _ => h, (fun q => by cases q), (fun q => by cases q)⟩
theorem RTc.e {t : Nat} {l0 : List Nat} {pt p1 : Nat} {x : List Nat} {mr b1 : Bool} (h : RTc t l0 pt p1 x mr b1) (he : mr = false ∨ b1 = true) : (b1 = true → rdT t 11 [] (l0.drop pt) = none) ∧ (b1 = false → rdT t 11 [] (l0.drop pt) = some (x, l0.drop p1)) := by
  refine ⟨h.1, fun q => ?_⟩
  rcases he with e | e
  · exact h.2.2 q e
  · rw [e] at q; cases q
section
variable {t : Nat} {l0 : List Nat} {pt p1 : Nat} {x : List Nat}
theorem RTc.st (h : RTc t l0 pt p1 x true false) (hx : x.length ≤ 10) : rdT t 11 [] (l0.drop pt) = rdT t ((10 - x.length) + 1) x (l0.drop p1) := by
  rw [h.2.1 rfl rfl, show 11 - x.length = (10 - x.length) + 1 by omega]
theorem RTc.xe {p' : Nat} {x' : List Nat} {mr' : Bool} (h : RTc t l0 pt p1 x true false) (hx : x.length ≤ 10) (hp : p1 = l0.length) : RTc t l0 pt p' x' mr' true := RTc.N (by rw [h.st hx]; exact rT_nil (by omega))
theorem RTc.xze {p' : Nat} {x' : List Nat} {mr' : Bool} (h : RTc t l0 pt p1 x true false) (hx : x.length ≤ 10) (hp : p1 < l0.length) (hb : tnB t (l0.getD p1 0) = 0) (h2 : p1 + 1 = l0.length) : RTc t l0 pt p' x' mr' true := RTc.N (by rw [h.st hx]; exact rT_ze hp hb (by omega))
theorem RTc.xb (h : RTc t l0 pt p1 x true false) (hx : x.length ≤ 10) (hp : p1 < l0.length) (hb : ¬ tnB t (l0.getD p1 0) = 0) (h10 : ¬ x.length = 10) : RTc t l0 pt (p1 + 1) (x ++ [tnB t (l0.getD p1 0)]) true false := ⟨(fun q => by cases q), fun _ _ => by
  rw [h.st hx, rT_b hp hb (by omega), List.length_append, List.length_singleton, show 11 - (x.length + 1) = 10 - x.length by omega], (fun _ q => by cases q)⟩
theorem RTc.xbf {p' : Nat} {x' : List Nat} {mr' : Bool} (h : RTc t l0 pt p1 x true false) (hx : x.length ≤ 10) (hp : p1 < l0.length) (hb : ¬ tnB t (l0.getD p1 0) = 0) (h10 : x.length = 10) : RTc t l0 pt p' x' mr' true := RTc.N (by rw [h.st hx]; exact rT_bf hp hb (by omega))
theorem RTc.xz (h : RTc t l0 pt p1 x true false) (hx : x.length ≤ 10) (hp : p1 < l0.length) (hb : tnB t (l0.getD p1 0) = 0) (hp2 : p1 + 1 < l0.length) (h2 : tnB t (l0.getD (p1 + 1) 0) = 255) (h10 : ¬ x.length = 10) : RTc t l0 pt (p1 + 1 + 1) (x ++ [tnB t (l0.getD p1 0)]) true false := ⟨(fun q => by cases q), fun _ _ => by
  rw [h.st hx, rT_z hp hb hp2 h2 (by omega), hb, List.length_append, List.length_singleton, show 11 - (x.length + 1) = 10 - x.length by omega], (fun _ q => by cases q)⟩
theorem RTc.xzf {p' : Nat} {x' : List Nat} {mr' : Bool} (h : RTc t l0 pt p1 x true false) (hx : x.length ≤ 10) (hp : p1 < l0.length) (hb : tnB t (l0.getD p1 0) = 0) (hp2 : p1 + 1 < l0.length) (h2 : tnB t (l0.getD (p1 + 1) 0) = 255) (h10 : x.length = 10) : RTc t l0 pt p' x' mr' true := RTc.N (by rw [h.st hx]; exact rT_zf hp hb hp2 h2 (by omega))
theorem RTc.xz1 (h : RTc t l0 pt p1 x true false) (hx : x.length ≤ 10) (hp : p1 < l0.length) (hb : tnB t (l0.getD p1 0) = 0) (hp2 : p1 + 1 < l0.length) (h2 : ¬ tnB t (l0.getD (p1 + 1) 0) = 255) (h3 : tnB t (l0.getD (p1 + 1) 0) = 1) : RTc t l0 pt (p1 + 1 + 1) x false false := ⟨(fun q => by cases q), (fun _ q => by cases q), fun _ _ => by
  rw [h.st hx, rT_z1 hp hb hp2 h2 h3]⟩
theorem RTc.xzn {p' : Nat} {x' : List Nat} {mr' : Bool} (h : RTc t l0 pt p1 x true false) (hx : x.length ≤ 10) (hp : p1 < l0.length) (hb : tnB t (l0.getD p1 0) = 0) (hp2 : p1 + 1 < l0.length) (h2 : ¬ tnB t (l0.getD (p1 + 1) 0) = 255) (h3 : ¬ tnB t (l0.getD (p1 + 1) 0) = 1) : RTc t l0 pt p' x' mr' true := RTc.N (by rw [h.st hx]; exact rT_zn hp hb hp2 h2 h3)
end
/-- digits -/
def DX (va va1 : Nat → Int64) (fo fo1 : Nat → Int32) (k : Nat) (d : Int64) (e : Int32) : Prop := va1 k = d ∧ fo1 k = e ∧ (∀ p, p ≠ k → va1 p = va p) ∧ ∀ p, p ≠ k → fo1 p = fo p
theorem DX.id {va : Nat → Int64} {fo : Nat → Int32} {k : Nat} (h1 : va k = 0) (h2 : fo k = 0) : DX va va fo fo k 0 0 := ⟨h1, h2, fun _ _ => rfl, fun _ _ => rfl⟩
theorem DX.up {va : Nat → Int64} {fo : Nat → Int32} {k : Nat} {d : Int64} {e : Int32} : DX va (vp_updL va k d) fo (upd fo k e) k d e := ⟨updL_self, pk_us, fun p hp => updL_ne hp, fun p hp => pk_un hp⟩
theorem xor_g0 (b : Nat) : nI b ^^^ 0 = nI b := Int32.xor_zero
theorem xor_g1 {t b : Nat} (ht : t = 0 ∨ t = 255) (hb : b < 256) : nI (tnB t b) ^^^ 255 = nI (tnB (255 - t) b) := by
  rw [tnB_255 t ht b hb]
  exact xor_tn (t := 255) (Or.inr rfl) (tnB_lt hb)
def RDo (sg : Int32) (E : Int32) : Option (Nat × Nat × List Nat) → Option (Int64 × Int32 × List Nat)
  | some (q, m, r) => some (sg.toInt64 * lN q, E - nI m, r)
  | none => none
def RDc (t : Nat) (l0 : List Nat) (pt tS : Nat) (sg E : Int32) (p2 q m B : Nat) (b1 : Bool) : Prop := (b1 = true ∧ rdD t (l0.drop pt) = none) ∨ (b1 = false ∧ ∃ p1, p2 = p1 + 1 ∧ p1 < l0.length ∧ B = tnB tS (l0.getD p1 0) ∧ m ≤ 16 ∧ rdD t (l0.drop pt) = RDo sg E (rdG tS (16 - m) m q (l0.drop p1)))
section
variable {t pt tS p2 q m B : Nat} {l0 : List Nat} {sg E : Int32} {b1 : Bool}
theorem RDc.N (h : rdD t (l0.drop pt) = none) : RDc t l0 pt tS sg E p2 q m B true := Or.inl ⟨rfl, h⟩
theorem RDc.d0 (hp : pt = l0.length) : RDc t l0 pt tS sg E p2 q m B true := RDc.N (rD_nil (by omega))
theorem RDc.dn (hp : pt < l0.length) (e2 : ¬ tnB t (l0.getD pt 0) = 2) (e1 : ¬ tnB t (l0.getD pt 0) = 1) (e3 : ¬ tnB t (l0.getD pt 0) = 3) : RDc t l0 pt tS sg E p2 q m B true := RDc.N (rD_n hp e2 e1 e3)
theorem rd_fr (hp : pt < l0.length) (e2 : (tnB t (l0.getD pt 0) = 1 ∧ tS = 255 - t ∧ sg = -1) ∨ (tnB t (l0.getD pt 0) = 3 ∧ tS = t ∧ sg = 1)) : rdD t (l0.drop pt) = rdFr tS sg (l0.drop (pt + 1)) := by
  rcases e2 with ⟨e, rfl, rfl⟩ | ⟨e, rfl, rfl⟩
  · exact rD_1 hp e
  · exact rD_3 hp e
theorem RDc.f1 (hp : pt < l0.length) (e2 : (tnB t (l0.getD pt 0) = 1 ∧ tS = 255 - t ∧ sg = -1) ∨ (tnB t (l0.getD pt 0) = 3 ∧ tS = t ∧ sg = 1)) (h2 : pt + 1 = l0.length) : RDc t l0 pt tS sg E p2 q m B true := RDc.N (by rw [rd_fr hp e2]; exact rF_nil (by omega))
theorem RDc.f2 (hp : pt < l0.length) (e2 : (tnB t (l0.getD pt 0) = 1 ∧ tS = 255 - t ∧ sg = -1) ∨ (tnB t (l0.getD pt 0) = 3 ∧ tS = t ∧ sg = 1)) (h2 : pt + 1 < l0.length) (h3 : pt + 1 + 1 = l0.length) : RDc t l0 pt tS sg E p2 q m B true := RDc.N (by rw [rd_fr hp e2]; exact rF_none h2 (rG_nil (by omega)))
theorem RDc.st (hp : pt < l0.length) (e2 : (tnB t (l0.getD pt 0) = 1 ∧ tS = 255 - t ∧ sg = -1) ∨ (tnB t (l0.getD pt 0) = 3 ∧ tS = t ∧ sg = 1)) (h2 : pt + 1 < l0.length) (h3 : pt + 1 + 1 < l0.length) : RDc t l0 pt tS sg (nI (tnB tS (l0.getD (pt + 1) 0)) - 64) (pt + 1 + 1 + 1) 0 0 (tnB tS (l0.getD (pt + 1 + 1) 0)) false := by
  refine Or.inr ⟨rfl, pt + 1 + 1, rfl, h3, rfl, Nat.zero_le _, ?_⟩
  rw [rd_fr hp e2]
  cases g : rdG tS 16 0 0 (l0.drop (pt + 1 + 1)) with
  | none => rw [rF_none h2 g]; rfl
  | some z => obtain ⟨a, b, c⟩ := z; rw [rF_some h2 g]; rfl
theorem RDc.big {p3 q' m' B' : Nat} (h : RDc t l0 pt tS sg E p2 q m B false) (hB : ¬ B = 0) (hb : 10 < B ∨ m = 16) : RDc t l0 pt tS sg E p3 q' m' B' true := by
  rcases h with ⟨h, -⟩ | ⟨-, p1, -, h1, h2, h3, h4⟩
  · cases h
  · refine RDc.N ?_
    rw [h4]
    rcases hb with hb | hb
    · rw [rG_big h1 (by omega) (by omega)]; rfl
    · rw [hb, rG_e h1 (by omega)]; rfl
theorem RDc.go (h : RDc t l0 pt tS sg E p2 q m B false) (hB : ¬ B = 0) (hb : ¬ 10 < B) (hm : ¬ m = 16) : m < 16 ∧ rdD t (l0.drop pt) = RDo sg E (rdG tS (16 - (m + 1)) (m + 1) (q * 10 + (B - 1)) (l0.drop p2)) := by
  rcases h with ⟨h, -⟩ | ⟨-, p1, h0, h1, h2, h3, h4⟩
  · cases h
  · refine ⟨by omega, ?_⟩
    rw [h4, show 16 - m = (16 - (m + 1)) + 1 by omega, rG_s h1 (by omega) (by omega), h0, ← h2]
theorem RDc.s (h : RDc t l0 pt tS sg E p2 q m B false) (hB : ¬ B = 0) (hb : ¬ 10 < B) (hm : ¬ m = 16) (hp : p2 < l0.length) : RDc t l0 pt tS sg E (p2 + 1) (q * 10 + (B - 1)) (m + 1) (tnB tS (l0.getD p2 0)) false :=
  have g := h.go hB hb hm
  Or.inr ⟨rfl, p2, rfl, hp, rfl, by omega, g.2⟩
theorem RDc.se {p3 q' m' B' : Nat} (h : RDc t l0 pt tS sg E p2 q m B false) (hB : ¬ B = 0) (hb : ¬ 10 < B) (hm : ¬ m = 16) (hp : p2 = l0.length) : RDc t l0 pt tS sg E p3 q' m' B' true := RDc.N (by
  rw [(h.go hB hb hm).2, rG_nil (by omega)]; rfl)
theorem RDc.e (h : RDc t l0 pt tS sg E p2 q m B b1) (hx : B = 0 ∨ b1 = true) (d0 : Int64) (e0 : Int32) (rest : List Nat) (hr : rdD t (l0.drop pt) = some (d0, e0, rest)) : b1 = false ∧ sg.toInt64 * lN q = d0 ∧ E - nI m = e0 ∧ l0.drop p2 = rest := by
  rcases h with ⟨-, h⟩ | ⟨h0, p1, h1, h2, h3, h4, h5⟩
  · rw [h] at hr; cases hr
  · rcases hx with hx | hx
    · rw [h5, rG_0 h2 (by omega), ← h1] at hr
      cases hr
      exact ⟨h0, rfl, rfl, rfl⟩
    · rw [hx] at h0; cases h0
theorem sg_n (x : Int64) : (-1 : Int32).toInt64 * x = 0 - x := by
  rw [show (-1 : Int32).toInt64 = -1 from by decide, Int64.neg_mul, Int64.one_mul, Int64.zero_sub]
theorem sg_p (x : Int64) : (1 : Int32).toInt64 * x = x := by
  rw [show (1 : Int32).toInt64 = 1 from by decide, Int64.one_mul]
end
