/-! parts of keys; writing bounds -/
theorem en0 {K F : Nat → Nat} {T : Nat → kV} {c q : Nat} {e0 e1 : Nat → Int32} (h : EnR K F T 0 c e0 e1) (hq : q ≤ c) : e1 q = nI (fldB K F T q).length := by
  have e := h.1 q hq
  rw [show 6 * 0 + q = q by omega] at e
  exact e
theorem fld_pre {K F : Nat → Nat} {T : Nat → kV} {q : Nat} : ∀ {c : Nat}, q ≤ c → ∃ r, fldB K F T c = fldB K F T q ++ r
  | 0, h => ⟨[], by rw [show q = 0 by omega, List.append_nil]⟩
  | c + 1, h => by
    by_cases e : q = c + 1
    · exact ⟨[], by rw [e, List.append_nil]⟩
    · obtain ⟨r, hr⟩ := fld_pre (K := K) (F := F) (T := T) (q := q) (c := c) (by omega)
      exact ⟨r ++ encF (K c) (F c) (T c), by rw [fldB, hr, List.append_assoc]⟩
theorem key_pre {K F : Nat → Nat} {T : Nat → kV} {q c : Nat} (h : q ≤ c) : ∃ r, keyB K F T c = fldB K F T q ++ r := by
  obtain ⟨r, hr⟩ := fld_pre (K := K) (F := F) (T := T) h
  exact ⟨r ++ tlB K T c, by rw [keyB, hr, List.append_assoc]⟩
theorem getD_l {x y : List Nat} {i : Nat} (h : i < x.length) : (x ++ y).getD i 0 = x.getD i 0 := by
  rw [List.getD_eq_getElem?_getD, List.getD_eq_getElem?_getD, List.getElem?_append_left h]
theorem getD_r {x y : List Nat} {i : Nat} : (x ++ y).getD (x.length + i) 0 = y.getD i 0 := by
  rw [List.getD_eq_getElem?_getD, List.getD_eq_getElem?_getD, List.getElem?_append_right (by omega), Nat.add_sub_cancel_left]
theorem kb_lo {K F : Nat → Nat} {T : Nat → kV} {q c i : Nat} {f : Nat → Int32} (hq : q ≤ c) (h : i < (fldB K F T q).length) : wrL f (200 * 0) (keyB K F T c) i = nI ((fldB K F T q).getD i 0) := by
  obtain ⟨r, hr⟩ := key_pre (K := K) (F := F) (T := T) hq
  rw [hr, wr0 (by rw [List.length_append]; omega), getD_l h]
theorem kb_mid {K F : Nat → Nat} {T : Nat → kV} {q c i : Nat} {f : Nat → Int32} (hq : q < c) (h : i < (encF (K q) (F q) (T q)).length) : wrL f (200 * 0) (keyB K F T c) ((fldB K F T q).length + i) = nI ((encF (K q) (F q) (T q)).getD i 0) := by
  obtain ⟨r, hr⟩ := key_pre (K := K) (F := F) (T := T) (q := q + 1) hq
  rw [hr, fldB, List.append_assoc, wr0 (by simp only [List.length_append]; omega), getD_r, getD_l h]
theorem ex_s {f : Nat → Int32} {q i : Nat} {l : List Nat} (hi : i < l.length) : upd (wrL f q (l.take i)) (q + i) (nI (l.getD i 0)) = wrL f q (l.take (i + 1)) := by
  have hl : (l.take i).length = i := by rw [List.length_take]; omega
  have e := wrL_app f q (l.take i) [l.getD i 0]
  rw [hl] at e
  rw [wrL_one, e]
  congr 1
  rw [List.take_succ, List.getD_eq_getElem?_getD, List.getElem?_eq_getElem hi]
  rfl
theorem ArrW {f : Nat → Int32} {l : List Nat} : Arr (wrL f 0 l) l := fun i hi => by
  have e := wrL_in (f := f) (q := 0) hi
  rw [Nat.zero_add] at e
  exact e
theorem MI.bd {c : Nat} {s : Bool} {K F : Nat → Nat} {L : Nat → kV} {kr : List Nat} {m : Nat} {KT : Nat → Nat → kV} {lo hi lo' hi' : List Nat} {he he' : Bool} {ki fl : Nat → Int32} {va : Nat → Int64} {fo go si te ro lw hw lw' hw' : Nat → Int32} (h : MI c s K F L kr m KT lo hi he ki fl va fo go si te ro lw hw) (h1 : lo'.length ≤ 120) (h2 : hi'.length ≤ 120) (h3 : ∀ b ∈ lo', b < 256) (h4 : Arr lw' lo') (h5 : he' = true → (∀ b ∈ hi', b < 256) ∧ Arr hw' hi') : MI c s K F L kr m KT lo' hi' he' ki fl va fo go si te ro lw' hw' := by
  obtain ⟨g1, g2, g3, g4, g5, g6, g7, g8, g9, g10, g11⟩ := h
  exact ⟨g1, g2, g3, h1, h2, g6, g7, g8, g9, g10, h3, h4, h5⟩
theorem Mdl.of {D : kD} {w : ww} {b : Nat} {th : Int32} {c : Nat} {s : Bool} {K F : Nat → Nat} {L : Nat → kV} {kr : List Nat} {m : Nat} {KT : Nat → Nat → kV} {lo hi : List Nat} {he : Bool} {ki fl : Nat → Int32} {va : Nat → Int64} {fo go si te ro ma : Nat → Int32} {sz : Nat} {en ms lw hw : Nat → Int32} {ls : Nat} {hz : Int32} {pt : Nat} {bd : Bool} (h : Mo D w b th c s ki fl va fo go si te m ro kr.length ma sz en ms lw hw ls hz pt bd) (hI : MI c s K F L kr m KT lo hi he ki fl va fo go si te ro lw hw) (hG : ∀ k, vp_nar .boolean (go k) = go k) (e1 : ls = lo.length) (e2 : hz = if he then nI hi.length else -1) : Mdl D w b th c s K F L kr m KT lo hi he := by
  subst e1 e2
  exact ⟨_, _, _, _, _, _, _, _, _, _, _, _, _, _, _, _, h, hI, hG⟩
theorem bt_lt {K F : Nat → Nat} {T U : Nat → kV} {c q : Nat} (h : okT K F T c) (h2 : okT K F U c) (hq : q < c) : ∀ b ∈ fldB K F T q ++ encF (K q) (F q) (U q), b < 256 := by
  intro b hb
  rcases List.mem_append.mp hb with hb | hb
  · exact fldB_lt (okT_le h (Nat.le_of_lt hq)) b hb
  · exact encF_lt (h2 q hq) b hb
def upL (l : List Nat) (a : Nat) : List Nat := l.take a ++ [l.getD a 0 + 1]
theorem upL_len {l : List Nat} {a : Nat} (h : a < l.length) : (upL l a).length = a + 1 := by
  unfold upL
  rw [List.length_append, List.length_take, List.length_singleton]
  omega
theorem upL_lt {l : List Nat} {a i : Nat} (h : a < l.length) (hi : i < a) : (upL l a).getD i 0 = l.getD i 0 := by
  unfold upL
  rw [getD_l (by rw [List.length_take]; omega), List.getD_eq_getElem?_getD, List.getD_eq_getElem?_getD, List.getElem?_take_of_lt hi]
theorem upL_eq {l : List Nat} {a : Nat} (h : a < l.length) : (upL l a).getD a 0 = l.getD a 0 + 1 := by
  unfold upL
  have e := getD_r (x := l.take a) (y := [l.getD a 0 + 1]) (i := 0)
  rw [List.length_take, show min a l.length + 0 = a by omega] at e
  exact e
theorem upL_by {l : List Nat} {a : Nat} (hl : ∀ b ∈ l, b < 256) (h : l.getD a 0 < 255) : ∀ b ∈ upL l a, b < 256 := by
  intro b hb
  rcases List.mem_append.mp hb with hb | hb
  · exact hl b (List.mem_of_mem_take hb)
  · rw [List.mem_singleton.mp hb]; omega
theorem endI_0 (l : List Nat) : endI l 0 = none := rfl
theorem endI_s {l : List Nat} {a : Nat} (h : ¬ l.getD a 0 < 255) : endI l (a + 1) = endI l a := by rw [endI, if_neg h]
theorem endI_y {l : List Nat} {a : Nat} (h : l.getD a 0 < 255) : endI l (a + 1) = some (upL l a) := by rw [endI, if_pos h]; rfl
