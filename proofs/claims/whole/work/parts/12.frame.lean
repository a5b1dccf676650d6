/-! Worlds as partial functions of addresses, with the heap's exact size; locals as sorted lists. -/
abbrev ww : Type := Nat → Option va_E
/-- class numbers and slots, and the numbers of the array classes -/
abbrev kD : Type := va_G × (Nat → ClassId)
abbrev MX : Type := Program × Launch × Env × Room × State × MethodId × Array Value × List Frame × Method × Code
abbrev kY : Type := kD × (Nat → Prop) × Nat × (State → Prop)
/-- a method: name, code, locals, answer's type -/
abbrev kM : Type := MethodName × ByteArray × Nat × Option FieldType
def wP (D : kD) (w : ww) (H : Heap) : Prop := ∀ (a : Nat) (e : va_E), w a = some e → va_at D.1 kcl (a, e) H
def kA (w : ww) (n : Nat) : Nat → Prop := fun q => (w q).isSome = true ∨ n ≤ q
/-- nest words -/
def kN (U : State) : Prop := (∀ q ∈ kNM, va_Nw (.methodLinkNest q.1 q.2.1 q.2.2.1 q.2.2.2) U) ∧ va_AO "KeyCodec$Value" U ∧ va_AO "KeyCodec$Tuple" U ∧ va_AO "KeyCodec$Row" U
theorem kN.moved {s U : State} (h : kN s) (hW : s.WarmedH U.vm) : kN U := ⟨fun q hq => va_Nw.warmM hW (h.1 q hq), va_AO.moved hW.alike h.2.1, va_AO.moved hW.alike h.2.2.1, va_AO.moved hW.alike h.2.2.2⟩
theorem kN.same {s U : State} (h : kN s) (hv : s.vm = U.vm) : kN U := ⟨fun q hq => va_Nw.same rfl hv (h.1 q hq), va_AO.moved (by rw [hv]; exact Vm.Alike.refl _) h.2.1, va_AO.moved (by rw [hv]; exact Vm.Alike.refl _) h.2.2.1, va_AO.moved (by rw [hv]; exact Vm.Alike.refl _) h.2.2.2⟩
theorem kTs_good : GoodIn kTs kTs := fun w h => ⟨h, good_of_word (List.mem_filter.mp h).2⟩
def AW (X : MX) (Y : kY) (pc : Nat) (lv : List (Nat × Value)) (st : List Value) (w : ww) (n cells slots : Nat) : Prop :=
  ∀ (H : Heap) (locs : List Loc) (ls : Array Slot), H.size = n → wP Y.1 w H → (∀ a : Nat, (w a).isSome = true → Y.2.1 a) → va_S Y.2.1 X.2.2.2.2.1.heap H locs → lv_has ls Y.2.2.1 lv →
    W X.1 X.2.1 X.2.2.1 X.2.2.2.1 X.2.2.2.2.1 X.2.2.2.2.2.1 X.2.2.2.2.2.2.1 X.2.2.2.2.2.2.2.1 X.2.2.2.2.2.2.2.2.1 X.2.2.2.2.2.2.2.2.2 H locs cells slots Y.2.2.2 (F0 X.2.2.2.2.2.1 pc ls st)
/-- what stands still while a method runs: machine, code, locals, class, words, tables, nest, locks, what may change, room -/
def FX (X : MX) (Y : kY) (cc : ByteArray) (own : String) (d mc ms : Nat) : Prop :=
  X.1.tables.exec = Jvm.exec ∧ X.2.2.2.2.2.2.2.2.2.code = cc ∧ X.2.2.2.2.2.2.2.2.2.maxLocals = Y.2.2.1 ∧ X.2.2.2.2.1.vm.findClass own = some X.2.2.2.2.2.1.cls ∧ (∀ z ∈ kTs, z.before X.2.2.2.2.2.2.1 X.2.2.2.2.1 = true) ∧ va_K Y.1.1 kcl (ktys Y.1) X.2.2.2.2.1 ∧ kN X.2.2.2.2.1 ∧ X.2.2.2.2.2.2.2.2.1.locks = false ∧ (∀ q : Nat, X.2.2.2.2.1.heap.size ≤ q → Y.2.1 q) ∧ d ≤ X.2.2.2.1.frames ∧ 40 * d ≤ X.2.2.2.1.locals ∧ mc ≤ X.2.2.2.1.cells ∧ ms ≤ X.2.2.2.1.slots
def lvg : List (Nat × Value) → Nat → Option Value
  | [], _ => none
  | q :: r, i => cond (Nat.beq q.1 i) (some q.2) (lvg r i)
def lvi : List (Nat × Value) → Nat → Value → List (Nat × Value)
  | [], i, v => [(i, v)]
  | q :: r, i, v => cond (Nat.blt q.1 i) (q :: lvi r i v) ((i, v) :: q :: r)
/-- a store of one word, of two -/
def lvs (lv : List (Nat × Value)) (i : Nat) (v : Value) : List (Nat × Value) := lvi (lv.filter (fun q => !(q.1 == i) && !(q.1 + 1 == i && q.2.category == 2))) i v
def lvs2 (lv : List (Nat × Value)) (i : Nat) (v : Value) : List (Nat × Value) := lvi (lv.filter (fun q => !(q.1 == i) && (!(q.1 == i + 1) && !(q.1 + 1 == i && q.2.category == 2)))) i v
theorem lvg_mem : ∀ {lv : List (Nat × Value)} {i : Nat} {v : Value}, lvg lv i = some v → (i, v) ∈ lv
  | [], _, _, h => by cases h
  | q :: r, i, v, h => by
    unfold lvg at h
    cases hb : Nat.beq q.1 i with
    | true =>
      rw [hb] at h
      have h2 : q.2 = v := Option.some.inj h
      have h1 : q.1 = i := Nat.eq_of_beq_eq_true hb
      rw [← h1, ← h2]
      exact List.mem_cons_self
    | false =>
      rw [hb] at h
      exact List.mem_cons_of_mem _ (lvg_mem h)
theorem lvi_mem : ∀ {lv : List (Nat × Value)} {i : Nat} {v : Value} (q : Nat × Value), q ∈ lvi lv i v → q ∈ (i, v) :: lv
  | [], _, _, q, h => h
  | x :: r, i, v, q, h => by
    unfold lvi at h
    cases hb : Nat.blt x.1 i with
    | true =>
      rw [hb] at h
      rcases List.mem_cons.mp h with h | h
      · rw [h]; exact List.mem_cons_of_mem _ List.mem_cons_self
      · rcases List.mem_cons.mp (lvi_mem q h) with h | h
        · rw [h]; exact List.mem_cons_self
        · exact List.mem_cons_of_mem _ (List.mem_cons_of_mem _ h)
    | false =>
      rw [hb] at h
      exact h
theorem lv_ins {ls : Array Slot} {nL : Nat} {lv : List (Nat × Value)} {i : Nat} {v : Value} (h : lv_has ls nL ((i, v) :: lv)) : lv_has ls nL (lvi lv i v) := ⟨h.1, h.2.1, fun q hq => h.2.2 q (lvi_mem q hq)⟩
theorem lv_gets {ls : Array Slot} {nL : Nat} {lv : List (Nat × Value)} {i : Nat} {v : Value} (h : lv_has ls nL lv) (hg : lvg lv i = some v) : ls[i]? = some (.val v) := h.2.2 (i, v) (lvg_mem hg)
section
variable {X : MX} {Y : kY} {cc : ByteArray} {own : String} {d mc ms pc n cells slots : Nat} {lv : List (Nat × Value)} {st : List Value} {w : ww}
theorem a_iconst (S : FX X Y cc own d mc ms) {z : Int} {v : Int32} (hdg : decode cc pc = .ok (.iconst z, 1)) (hv : Int32.ofInt z = v) (k : AW X Y (pc + 1) lv (.int v :: st) w n cells slots) : AW X Y pc lv st w n cells slots := fun H locs ls h1 h2 h3 h4 h5 => lv_iconst S.1 S.2.1 hdg hv (k H locs ls h1 h2 h3 h4 h5)
theorem a_bipush (S : FX X Y cc own d mc ms) {z : Int} {v : Int32} (hdg : decode cc pc = .ok (.bipush z, 2)) (hv : (Int8.ofInt z).toInt32 = v) (k : AW X Y (pc + 2) lv (.int v :: st) w n cells slots) : AW X Y pc lv st w n cells slots := fun H locs ls h1 h2 h3 h4 h5 => lv_bipush S.1 S.2.1 hdg hv (k H locs ls h1 h2 h3 h4 h5)
theorem a_sipush (S : FX X Y cc own d mc ms) {z : Int} {v : Int32} (hdg : decode cc pc = .ok (.sipush z, 3)) (hv : (Int16.ofInt z).toInt32 = v) (k : AW X Y (pc + 3) lv (.int v :: st) w n cells slots) : AW X Y pc lv st w n cells slots := fun H locs ls h1 h2 h3 h4 h5 => lv_sipush S.1 S.2.1 hdg hv (k H locs ls h1 h2 h3 h4 h5)
theorem a_lconst (S : FX X Y cc own d mc ms) {z : Fin 2} {v : Int64} (hdg : decode cc pc = .ok (.lconst z, 1)) (hv : Int64.ofNat (z : Nat) = v) (k : AW X Y (pc + 1) lv (.long v :: st) w n cells slots) : AW X Y pc lv st w n cells slots := fun H locs ls h1 h2 h3 h4 h5 => lv_lconst S.1 S.2.1 hdg hv (k H locs ls h1 h2 h3 h4 h5)
theorem a_ldc (S : FX X Y cc own d mc ms) {index : Nat} {v : Int32} (hm : Cond.constant own index v ∈ kTs) (hdg : decode cc pc = .ok (.ldc index, 2)) (k : AW X Y (pc + 2) lv (.int v :: st) w n cells slots) : AW X Y pc lv st w n cells slots := fun H locs ls h1 h2 h3 h4 h5 => lv_ldc S.1 S.2.1 S.2.2.2.1 (S.2.2.2.2.1 _ hm) hdg (k H locs ls h1 h2 h3 h4 h5)
theorem a_ldc2 (S : FX X Y cc own d mc ms) {index : Nat} {v : Int64} (hm : Cond.constantLong own index v ∈ kTs) (hdg : decode cc pc = .ok (.ldc2_w index, 3)) (k : AW X Y (pc + 3) lv (.long v :: st) w n cells slots) : AW X Y pc lv st w n cells slots := fun H locs ls h1 h2 h3 h4 h5 => lv_ldc2 S.1 S.2.1 S.2.2.2.1 (S.2.2.2.2.1 _ hm) hdg (k H locs ls h1 h2 h3 h4 h5)
theorem a_iload_n (S : FX X Y cc own d mc ms) {f : Fin 4} {i : Nat} {x : Int32} (hdg : decode cc pc = .ok (.iload_n f, 1)) (hi : (f : Nat) = i) (hl : lvg lv i = some (.int x)) (k : AW X Y (pc + 1) lv (.int x :: st) w n cells slots) : AW X Y pc lv st w n cells slots := fun H locs ls h1 h2 h3 h4 h5 => lv_iload_n S.1 S.2.1 hdg hi (lv_gets h5 hl) (k H locs ls h1 h2 h3 h4 h5)
theorem a_iload (S : FX X Y cc own d mc ms) {i : Nat} {x : Int32} (hdg : decode cc pc = .ok (.iload i, 2)) (hl : lvg lv i = some (.int x)) (k : AW X Y (pc + 2) lv (.int x :: st) w n cells slots) : AW X Y pc lv st w n cells slots := fun H locs ls h1 h2 h3 h4 h5 => lv_iload S.1 S.2.1 hdg (lv_gets h5 hl) (k H locs ls h1 h2 h3 h4 h5)
theorem a_lload_n (S : FX X Y cc own d mc ms) {f : Fin 4} {i : Nat} {x : Int64} (hdg : decode cc pc = .ok (.lload_n f, 1)) (hi : (f : Nat) = i) (hl : lvg lv i = some (.long x)) (k : AW X Y (pc + 1) lv (.long x :: st) w n cells slots) : AW X Y pc lv st w n cells slots := fun H locs ls h1 h2 h3 h4 h5 => lv_lload_n S.1 S.2.1 hdg hi (lv_gets h5 hl) (k H locs ls h1 h2 h3 h4 h5)
theorem a_lload (S : FX X Y cc own d mc ms) {i : Nat} {x : Int64} (hdg : decode cc pc = .ok (.lload i, 2)) (hl : lvg lv i = some (.long x)) (k : AW X Y (pc + 2) lv (.long x :: st) w n cells slots) : AW X Y pc lv st w n cells slots := fun H locs ls h1 h2 h3 h4 h5 => lv_lload S.1 S.2.1 hdg (lv_gets h5 hl) (k H locs ls h1 h2 h3 h4 h5)
theorem a_aload_n (S : FX X Y cc own d mc ms) {f : Fin 4} {i : Nat} {x : Nat} (hdg : decode cc pc = .ok (.aload_n f, 1)) (hi : (f : Nat) = i) (hl : lvg lv i = some (.ref x)) (k : AW X Y (pc + 1) lv (.ref x :: st) w n cells slots) : AW X Y pc lv st w n cells slots := fun H locs ls h1 h2 h3 h4 h5 => lv_aload_n S.1 S.2.1 hdg hi (lv_gets h5 hl) (k H locs ls h1 h2 h3 h4 h5)
theorem a_aload (S : FX X Y cc own d mc ms) {i : Nat} {x : Nat} (hdg : decode cc pc = .ok (.aload i, 2)) (hl : lvg lv i = some (.ref x)) (k : AW X Y (pc + 2) lv (.ref x :: st) w n cells slots) : AW X Y pc lv st w n cells slots := fun H locs ls h1 h2 h3 h4 h5 => lv_aload S.1 S.2.1 hdg (lv_gets h5 hl) (k H locs ls h1 h2 h3 h4 h5)
theorem a_istore_n (S : FX X Y cc own d mc ms) {f : Fin 4} {i : Nat} {x : Int32} {lv' : List (Nat × Value)} (hdg : decode cc pc = .ok (.istore_n f, 1)) (hi : (f : Nat) = i) (hn : i < Y.2.2.1) (hl : lvs lv i (.int x) = lv') (k : AW X Y (pc + 1) lv' st w n cells slots) : AW X Y pc lv (.int x :: st) w n cells slots := fun H locs ls h1 h2 h3 h4 h5 => lv_istore_n S.1 S.2.1 hdg hi h5 hn rfl (fun ls' h' => k H locs ls' h1 h2 h3 h4 (hl ▸ lv_ins h'))
theorem a_istore (S : FX X Y cc own d mc ms) {i : Nat} {x : Int32} {lv' : List (Nat × Value)} (hdg : decode cc pc = .ok (.istore i, 2)) (hn : i < Y.2.2.1) (hl : lvs lv i (.int x) = lv') (k : AW X Y (pc + 2) lv' st w n cells slots) : AW X Y pc lv (.int x :: st) w n cells slots := fun H locs ls h1 h2 h3 h4 h5 => lv_istore S.1 S.2.1 hdg h5 hn rfl (fun ls' h' => k H locs ls' h1 h2 h3 h4 (hl ▸ lv_ins h'))
theorem a_lstore_n (S : FX X Y cc own d mc ms) {f : Fin 4} {i : Nat} {x : Int64} {lv' : List (Nat × Value)} (hdg : decode cc pc = .ok (.lstore_n f, 1)) (hi : (f : Nat) = i) (hn : i + 1 < Y.2.2.1) (hl : lvs2 lv i (.long x) = lv') (k : AW X Y (pc + 1) lv' st w n cells slots) : AW X Y pc lv (.long x :: st) w n cells slots := fun H locs ls h1 h2 h3 h4 h5 => lv_lstore_n S.1 S.2.1 hdg hi h5 hn rfl (fun ls' h' => k H locs ls' h1 h2 h3 h4 (hl ▸ lv_ins h'))
theorem a_lstore (S : FX X Y cc own d mc ms) {i : Nat} {x : Int64} {lv' : List (Nat × Value)} (hdg : decode cc pc = .ok (.lstore i, 2)) (hn : i + 1 < Y.2.2.1) (hl : lvs2 lv i (.long x) = lv') (k : AW X Y (pc + 2) lv' st w n cells slots) : AW X Y pc lv (.long x :: st) w n cells slots := fun H locs ls h1 h2 h3 h4 h5 => lv_lstore S.1 S.2.1 hdg h5 hn rfl (fun ls' h' => k H locs ls' h1 h2 h3 h4 (hl ▸ lv_ins h'))
theorem a_astore_n (S : FX X Y cc own d mc ms) {f : Fin 4} {i : Nat} {x : Nat} {lv' : List (Nat × Value)} (hdg : decode cc pc = .ok (.astore_n f, 1)) (hi : (f : Nat) = i) (hn : i < Y.2.2.1) (hl : lvs lv i (.ref x) = lv') (k : AW X Y (pc + 1) lv' st w n cells slots) : AW X Y pc lv (.ref x :: st) w n cells slots := fun H locs ls h1 h2 h3 h4 h5 => lv_astore_n S.1 S.2.1 hdg hi h5 hn rfl (fun ls' h' => k H locs ls' h1 h2 h3 h4 (hl ▸ lv_ins h'))
theorem a_astore (S : FX X Y cc own d mc ms) {i : Nat} {x : Nat} {lv' : List (Nat × Value)} (hdg : decode cc pc = .ok (.astore i, 2)) (hn : i < Y.2.2.1) (hl : lvs lv i (.ref x) = lv') (k : AW X Y (pc + 2) lv' st w n cells slots) : AW X Y pc lv (.ref x :: st) w n cells slots := fun H locs ls h1 h2 h3 h4 h5 => lv_astore S.1 S.2.1 hdg h5 hn rfl (fun ls' h' => k H locs ls' h1 h2 h3 h4 (hl ▸ lv_ins h'))
theorem a_iinc (S : FX X Y cc own d mc ms) {i : Nat} {z : Int} {x v : Int32} {lv' : List (Nat × Value)} (hdg : decode cc pc = .ok (.iinc i z, 3)) (hg : lvg lv i = some (.int x)) (hv : x + Int32.ofInt z = v) (hn : i < Y.2.2.1) (hl : lvs lv i (.int v) = lv') (k : AW X Y (pc + 3) lv' st w n cells slots) : AW X Y pc lv st w n cells slots := by
  intro H locs ls h1 h2 h3 h4 h5
  obtain ⟨j, hj⟩ := List.getElem?_of_mem (lvg_mem hg)
  exact lv_iinc S.1 S.2.1 hdg h5 hj hv hn rfl (fun ls' h' => k H locs ls' h1 h2 h3 h4 (hl ▸ lv_ins h'))
theorem a_iadd (S : FX X Y cc own d mc ms) {x y : Int32} (hdg : decode cc pc = .ok (.iadd, 1))  (k : AW X Y (pc + 1) lv (.int (x + y) :: st) w n cells slots) : AW X Y pc lv (.int y :: .int x :: st) w n cells slots := fun H locs ls h1 h2 h3 h4 h5 => lv_iadd S.1 S.2.1 hdg (k H locs ls h1 h2 h3 h4 h5)
theorem a_isub (S : FX X Y cc own d mc ms) {x y : Int32} (hdg : decode cc pc = .ok (.isub, 1))  (k : AW X Y (pc + 1) lv (.int (x - y) :: st) w n cells slots) : AW X Y pc lv (.int y :: .int x :: st) w n cells slots := fun H locs ls h1 h2 h3 h4 h5 => lv_isub S.1 S.2.1 hdg (k H locs ls h1 h2 h3 h4 h5)
theorem a_imul (S : FX X Y cc own d mc ms) {x y : Int32} (hdg : decode cc pc = .ok (.imul, 1))  (k : AW X Y (pc + 1) lv (.int (x * y) :: st) w n cells slots) : AW X Y pc lv (.int y :: .int x :: st) w n cells slots := fun H locs ls h1 h2 h3 h4 h5 => lv_imul S.1 S.2.1 hdg (k H locs ls h1 h2 h3 h4 h5)
theorem a_iand (S : FX X Y cc own d mc ms) {x y : Int32} (hdg : decode cc pc = .ok (.iand, 1))  (k : AW X Y (pc + 1) lv (.int (x &&& y) :: st) w n cells slots) : AW X Y pc lv (.int y :: .int x :: st) w n cells slots := fun H locs ls h1 h2 h3 h4 h5 => lv_iand S.1 S.2.1 hdg (k H locs ls h1 h2 h3 h4 h5)
theorem a_ior (S : FX X Y cc own d mc ms) {x y : Int32} (hdg : decode cc pc = .ok (.ior, 1))  (k : AW X Y (pc + 1) lv (.int (x ||| y) :: st) w n cells slots) : AW X Y pc lv (.int y :: .int x :: st) w n cells slots := fun H locs ls h1 h2 h3 h4 h5 => lv_ior S.1 S.2.1 hdg (k H locs ls h1 h2 h3 h4 h5)
theorem a_ixor (S : FX X Y cc own d mc ms) {x y : Int32} (hdg : decode cc pc = .ok (.ixor, 1))  (k : AW X Y (pc + 1) lv (.int (x ^^^ y) :: st) w n cells slots) : AW X Y pc lv (.int y :: .int x :: st) w n cells slots := fun H locs ls h1 h2 h3 h4 h5 => lv_ixor S.1 S.2.1 hdg (k H locs ls h1 h2 h3 h4 h5)
theorem a_ishl (S : FX X Y cc own d mc ms) {x y : Int32} (hdg : decode cc pc = .ok (.ishl, 1))  (k : AW X Y (pc + 1) lv (.int (x <<< (y &&& 31)) :: st) w n cells slots) : AW X Y pc lv (.int y :: .int x :: st) w n cells slots := fun H locs ls h1 h2 h3 h4 h5 => lv_ishl S.1 S.2.1 hdg (k H locs ls h1 h2 h3 h4 h5)
theorem a_ishr (S : FX X Y cc own d mc ms) {x y : Int32} (hdg : decode cc pc = .ok (.ishr, 1))  (k : AW X Y (pc + 1) lv (.int (x >>> (y &&& 31)) :: st) w n cells slots) : AW X Y pc lv (.int y :: .int x :: st) w n cells slots := fun H locs ls h1 h2 h3 h4 h5 => lv_ishr S.1 S.2.1 hdg (k H locs ls h1 h2 h3 h4 h5)
theorem a_ladd (S : FX X Y cc own d mc ms) {x y : Int64} (hdg : decode cc pc = .ok (.ladd, 1))  (k : AW X Y (pc + 1) lv (.long (x + y) :: st) w n cells slots) : AW X Y pc lv (.long y :: .long x :: st) w n cells slots := fun H locs ls h1 h2 h3 h4 h5 => lv_ladd S.1 S.2.1 hdg (k H locs ls h1 h2 h3 h4 h5)
theorem a_lsub (S : FX X Y cc own d mc ms) {x y : Int64} (hdg : decode cc pc = .ok (.lsub, 1))  (k : AW X Y (pc + 1) lv (.long (x - y) :: st) w n cells slots) : AW X Y pc lv (.long y :: .long x :: st) w n cells slots := fun H locs ls h1 h2 h3 h4 h5 => lv_lsub S.1 S.2.1 hdg (k H locs ls h1 h2 h3 h4 h5)
theorem a_lmul (S : FX X Y cc own d mc ms) {x y : Int64} (hdg : decode cc pc = .ok (.lmul, 1))  (k : AW X Y (pc + 1) lv (.long (x * y) :: st) w n cells slots) : AW X Y pc lv (.long y :: .long x :: st) w n cells slots := fun H locs ls h1 h2 h3 h4 h5 => lv_lmul S.1 S.2.1 hdg (k H locs ls h1 h2 h3 h4 h5)
theorem a_land (S : FX X Y cc own d mc ms) {x y : Int64} (hdg : decode cc pc = .ok (.land, 1))  (k : AW X Y (pc + 1) lv (.long (x &&& y) :: st) w n cells slots) : AW X Y pc lv (.long y :: .long x :: st) w n cells slots := fun H locs ls h1 h2 h3 h4 h5 => lv_land S.1 S.2.1 hdg (k H locs ls h1 h2 h3 h4 h5)
theorem a_lor (S : FX X Y cc own d mc ms) {x y : Int64} (hdg : decode cc pc = .ok (.lor, 1))  (k : AW X Y (pc + 1) lv (.long (x ||| y) :: st) w n cells slots) : AW X Y pc lv (.long y :: .long x :: st) w n cells slots := fun H locs ls h1 h2 h3 h4 h5 => lv_lor S.1 S.2.1 hdg (k H locs ls h1 h2 h3 h4 h5)
theorem a_lxor (S : FX X Y cc own d mc ms) {x y : Int64} (hdg : decode cc pc = .ok (.lxor, 1))  (k : AW X Y (pc + 1) lv (.long (x ^^^ y) :: st) w n cells slots) : AW X Y pc lv (.long y :: .long x :: st) w n cells slots := fun H locs ls h1 h2 h3 h4 h5 => lv_lxor S.1 S.2.1 hdg (k H locs ls h1 h2 h3 h4 h5)
theorem a_idiv (S : FX X Y cc own d mc ms) {x y : Int32} (hdg : decode cc pc = .ok (.idiv, 1)) (hne : ¬ y = 0) (k : AW X Y (pc + 1) lv (.int (x / y) :: st) w n cells slots) : AW X Y pc lv (.int y :: .int x :: st) w n cells slots := fun H locs ls h1 h2 h3 h4 h5 => lv_idiv S.1 S.2.1 hdg hne (k H locs ls h1 h2 h3 h4 h5)
theorem a_irem (S : FX X Y cc own d mc ms) {x y : Int32} (hdg : decode cc pc = .ok (.irem, 1)) (hne : ¬ y = 0) (k : AW X Y (pc + 1) lv (.int (x - x / y * y) :: st) w n cells slots) : AW X Y pc lv (.int y :: .int x :: st) w n cells slots := fun H locs ls h1 h2 h3 h4 h5 => lv_irem S.1 S.2.1 hdg hne (k H locs ls h1 h2 h3 h4 h5)
theorem a_ldiv (S : FX X Y cc own d mc ms) {x y : Int64} (hdg : decode cc pc = .ok (.ldiv, 1)) (hne : ¬ y = 0) (k : AW X Y (pc + 1) lv (.long (x / y) :: st) w n cells slots) : AW X Y pc lv (.long y :: .long x :: st) w n cells slots := fun H locs ls h1 h2 h3 h4 h5 => lv_ldiv S.1 S.2.1 hdg hne (k H locs ls h1 h2 h3 h4 h5)
theorem a_lrem (S : FX X Y cc own d mc ms) {x y : Int64} (hdg : decode cc pc = .ok (.lrem, 1)) (hne : ¬ y = 0) (k : AW X Y (pc + 1) lv (.long (x - x / y * y) :: st) w n cells slots) : AW X Y pc lv (.long y :: .long x :: st) w n cells slots := fun H locs ls h1 h2 h3 h4 h5 => lv_lrem S.1 S.2.1 hdg hne (k H locs ls h1 h2 h3 h4 h5)
theorem a_ineg (S : FX X Y cc own d mc ms) {x : Int32} (hdg : decode cc pc = .ok (.ineg, 1))  (k : AW X Y (pc + 1) lv (.int (-x) :: st) w n cells slots) : AW X Y pc lv (.int x :: st) w n cells slots := fun H locs ls h1 h2 h3 h4 h5 => lv_ineg S.1 S.2.1 hdg (k H locs ls h1 h2 h3 h4 h5)
theorem a_lneg (S : FX X Y cc own d mc ms) {x : Int64} (hdg : decode cc pc = .ok (.lneg, 1))  (k : AW X Y (pc + 1) lv (.long (-x) :: st) w n cells slots) : AW X Y pc lv (.long x :: st) w n cells slots := fun H locs ls h1 h2 h3 h4 h5 => lv_lneg S.1 S.2.1 hdg (k H locs ls h1 h2 h3 h4 h5)
theorem a_i2l (S : FX X Y cc own d mc ms) {x : Int32} (hdg : decode cc pc = .ok (.i2l, 1))  (k : AW X Y (pc + 1) lv (.long x.toInt64 :: st) w n cells slots) : AW X Y pc lv (.int x :: st) w n cells slots := fun H locs ls h1 h2 h3 h4 h5 => lv_i2l S.1 S.2.1 hdg rfl (k H locs ls h1 h2 h3 h4 h5)
theorem a_l2i (S : FX X Y cc own d mc ms) {x : Int64} (hdg : decode cc pc = .ok (.l2i, 1))  (k : AW X Y (pc + 1) lv (.int x.toInt32 :: st) w n cells slots) : AW X Y pc lv (.long x :: st) w n cells slots := fun H locs ls h1 h2 h3 h4 h5 => lv_l2i S.1 S.2.1 hdg rfl (k H locs ls h1 h2 h3 h4 h5)
theorem a_lushr (S : FX X Y cc own d mc ms) {x v : Int64} {y : Int32} (hdg : decode cc pc = .ok (.lushr, 1)) (hv : (x.toUInt64 >>> (y.toInt64.toUInt64 &&& Int64.toUInt64 63)).toInt64 = v) (k : AW X Y (pc + 1) lv (.long v :: st) w n cells slots) : AW X Y pc lv (.int y :: .long x :: st) w n cells slots := fun H locs ls h1 h2 h3 h4 h5 => lv_lushr S.1 S.2.1 hdg hv (k H locs ls h1 h2 h3 h4 h5)
theorem a_lshl (S : FX X Y cc own d mc ms) {x v : Int64} {y : Int32} (hdg : decode cc pc = .ok (.lshl, 1)) (hv : x <<< (y.toInt64 &&& 63) = v) (k : AW X Y (pc + 1) lv (.long v :: st) w n cells slots) : AW X Y pc lv (.int y :: .long x :: st) w n cells slots := fun H locs ls h1 h2 h3 h4 h5 => lv_lshl S.1 S.2.1 hdg hv (k H locs ls h1 h2 h3 h4 h5)
theorem a_lshr (S : FX X Y cc own d mc ms) {x v : Int64} {y : Int32} (hdg : decode cc pc = .ok (.lshr, 1)) (hv : x >>> (y.toInt64 &&& 63) = v) (k : AW X Y (pc + 1) lv (.long v :: st) w n cells slots) : AW X Y pc lv (.int y :: .long x :: st) w n cells slots := fun H locs ls h1 h2 h3 h4 h5 => lv_lshr S.1 S.2.1 hdg hv (k H locs ls h1 h2 h3 h4 h5)
theorem a_lcmp (S : FX X Y cc own d mc ms) {x y : Int64} (hdg : decode cc pc = .ok (.lcmp, 1))  (k : AW X Y (pc + 1) lv (.int (lg_cmp x y) :: st) w n cells slots) : AW X Y pc lv (.long y :: .long x :: st) w n cells slots := fun H locs ls h1 h2 h3 h4 h5 => W.lcmp S.1 S.2.1 hdg (k H locs ls h1 h2 h3 h4 h5)
theorem a_dup (S : FX X Y cc own d mc ms) {va : Value} (hdg : decode cc pc = .ok (.dup, 1)) (hva : va.category = 1) (k : AW X Y (pc + 1) lv (va :: va :: st) w n cells slots) : AW X Y pc lv (va :: st) w n cells slots := fun H locs ls h1 h2 h3 h4 h5 => lv_dup S.1 S.2.1 hdg hva (k H locs ls h1 h2 h3 h4 h5)
theorem a_pop (S : FX X Y cc own d mc ms) {va : Value} (hdg : decode cc pc = .ok (.pop, 1)) (hva : va.category = 1) (k : AW X Y (pc + 1) lv st w n cells slots) : AW X Y pc lv (va :: st) w n cells slots := fun H locs ls h1 h2 h3 h4 h5 => lv_pop S.1 S.2.1 hdg hva (k H locs ls h1 h2 h3 h4 h5)
theorem a_dup_x1 (S : FX X Y cc own d mc ms) {va vb : Value} (hdg : decode cc pc = .ok (.dup_x1, 1)) (hva : va.category = 1) (hvb : vb.category = 1) (k : AW X Y (pc + 1) lv (va :: vb :: va :: st) w n cells slots) : AW X Y pc lv (va :: vb :: st) w n cells slots := fun H locs ls h1 h2 h3 h4 h5 => lv_dup_x1 S.1 S.2.1 hdg hva hvb (k H locs ls h1 h2 h3 h4 h5)
theorem a_dup2 (S : FX X Y cc own d mc ms) {va vb : Value} (hdg : decode cc pc = .ok (.dup2, 1)) (hva : va.category = 1) (hvb : vb.category = 1) (k : AW X Y (pc + 1) lv (va :: vb :: va :: vb :: st) w n cells slots) : AW X Y pc lv (va :: vb :: st) w n cells slots := fun H locs ls h1 h2 h3 h4 h5 => lv_dup2_11 S.1 S.2.1 hdg hva hvb (k H locs ls h1 h2 h3 h4 h5)
theorem a_topi {x : Int32} (k : ∀ y : Int32, y = x → AW X Y pc lv (.int y :: st) w n cells slots) : AW X Y pc lv (.int x :: st) w n cells slots := k x rfl
theorem a_eqi {x y : Int32} (h : x = y) (k : AW X Y pc lv (.int y :: st) w n cells slots) : AW X Y pc lv (.int x :: st) w n cells slots := h ▸ k
theorem a_eql {x y : Int64} (h : x = y) (k : AW X Y pc lv (.long y :: st) w n cells slots) : AW X Y pc lv (.long x :: st) w n cells slots := h ▸ k
theorem a_st {st' : List Value} (h : st = st') (k : AW X Y pc lv st' w n cells slots) : AW X Y pc lv st w n cells slots := h ▸ k
theorem a_lv {lv' : List (Nat × Value)} (ks : List Nat) (hl : lv_pick lv ks = lv') (k : AW X Y pc lv' st w n cells slots) : AW X Y pc lv st w n cells slots := fun H locs ls h1 h2 h3 h4 h5 => k H locs ls h1 h2 h3 h4 (lv_sub h5 ks hl)
theorem a_lve {lv' : List (Nat × Value)} (hl : lv = lv') (k : AW X Y pc lv' st w n cells slots) : AW X Y pc lv st w n cells slots := hl ▸ k
theorem a_wid {c2 s2 : Nat} (e1 : cells ≤ c2) (e2 : slots ≤ s2) (k : AW X Y pc lv st w n c2 s2) : AW X Y pc lv st w n cells slots := fun H locs ls h1 h2 h3 h4 h5 => W.widen e1 e2 (k H locs ls h1 h2 h3 h4 h5)
theorem a_eqn {n2 : Nat} (h : n = n2) (k : AW X Y pc lv st w n2 cells slots) : AW X Y pc lv st w n cells slots := h ▸ k
/-- every cell of the world is below the next address -/
theorem a_dom (k : (∀ (a : Nat) (e : va_E), w a = some e → a < n) → AW X Y pc lv st w n cells slots) : AW X Y pc lv st w n cells slots := fun H locs ls h1 h2 h3 h4 h5 => k (fun a e h => h1 ▸ (h2 a e h).lt) H locs ls h1 h2 h3 h4 h5
/-- a smaller world is enough -/
theorem a_less {w' : ww} (hw : ∀ (a : Nat) (e : va_E), w' a = some e → w a = some e) (k : AW X Y pc lv st w' n cells slots) : AW X Y pc lv st w n cells slots := fun H locs ls h1 h2 h3 h4 h5 => k H locs ls h1 (fun a e h => h2 a e (hw a e h)) (fun a h => h3 a (by obtain ⟨e, he⟩ := Option.isSome_iff_exists.mp h; rw [hw a e he]; rfl)) h4 h5
theorem a_if_eq (S : FX X Y cc own d mc ms) {x : Int32} {off : Int} {tgt : Nat} (hdg : decode cc pc = .ok (.ifCond .eq off, 3)) (ht : (pc : Int) + off = (tgt : Int)) (kt : x = 0 → AW X Y tgt lv st w n cells slots) (kf : ¬ x = 0 → AW X Y (pc + 3) lv st w n cells slots) : AW X Y pc lv (.int x :: st) w n cells slots := fun H locs ls h1 h2 h3 h4 h5 => lv_if_eq S.1 S.2.1 hdg ht (fun z => kt z H locs ls h1 h2 h3 h4 h5) (fun z => kf z H locs ls h1 h2 h3 h4 h5)
theorem a_icmp_eq (S : FX X Y cc own d mc ms) {x y : Int32} {off : Int} {tgt : Nat} (hdg : decode cc pc = .ok (.if_icmp .eq off, 3)) (ht : (pc : Int) + off = (tgt : Int)) (kt : x = y → AW X Y tgt lv st w n cells slots) (kf : ¬ x = y → AW X Y (pc + 3) lv st w n cells slots) : AW X Y pc lv (.int y :: .int x :: st) w n cells slots := fun H locs ls h1 h2 h3 h4 h5 => lv_icmp_eq S.1 S.2.1 hdg ht (fun z => kt z H locs ls h1 h2 h3 h4 h5) (fun z => kf z H locs ls h1 h2 h3 h4 h5)
theorem a_if_ne (S : FX X Y cc own d mc ms) {x : Int32} {off : Int} {tgt : Nat} (hdg : decode cc pc = .ok (.ifCond .ne off, 3)) (ht : (pc : Int) + off = (tgt : Int)) (kt : ¬ x = 0 → AW X Y tgt lv st w n cells slots) (kf : x = 0 → AW X Y (pc + 3) lv st w n cells slots) : AW X Y pc lv (.int x :: st) w n cells slots := fun H locs ls h1 h2 h3 h4 h5 => lv_if_ne S.1 S.2.1 hdg ht (fun z => kt z H locs ls h1 h2 h3 h4 h5) (fun z => kf z H locs ls h1 h2 h3 h4 h5)
theorem a_icmp_ne (S : FX X Y cc own d mc ms) {x y : Int32} {off : Int} {tgt : Nat} (hdg : decode cc pc = .ok (.if_icmp .ne off, 3)) (ht : (pc : Int) + off = (tgt : Int)) (kt : ¬ x = y → AW X Y tgt lv st w n cells slots) (kf : x = y → AW X Y (pc + 3) lv st w n cells slots) : AW X Y pc lv (.int y :: .int x :: st) w n cells slots := fun H locs ls h1 h2 h3 h4 h5 => lv_icmp_ne S.1 S.2.1 hdg ht (fun z => kt z H locs ls h1 h2 h3 h4 h5) (fun z => kf z H locs ls h1 h2 h3 h4 h5)
theorem a_if_lt (S : FX X Y cc own d mc ms) {x : Int32} {off : Int} {tgt : Nat} (hdg : decode cc pc = .ok (.ifCond .lt off, 3)) (ht : (pc : Int) + off = (tgt : Int)) (kt : x < 0 → AW X Y tgt lv st w n cells slots) (kf : ¬ x < 0 → AW X Y (pc + 3) lv st w n cells slots) : AW X Y pc lv (.int x :: st) w n cells slots := fun H locs ls h1 h2 h3 h4 h5 => lv_if_lt S.1 S.2.1 hdg ht (fun z => kt z H locs ls h1 h2 h3 h4 h5) (fun z => kf z H locs ls h1 h2 h3 h4 h5)
theorem a_icmp_lt (S : FX X Y cc own d mc ms) {x y : Int32} {off : Int} {tgt : Nat} (hdg : decode cc pc = .ok (.if_icmp .lt off, 3)) (ht : (pc : Int) + off = (tgt : Int)) (kt : x < y → AW X Y tgt lv st w n cells slots) (kf : ¬ x < y → AW X Y (pc + 3) lv st w n cells slots) : AW X Y pc lv (.int y :: .int x :: st) w n cells slots := fun H locs ls h1 h2 h3 h4 h5 => lv_icmp_lt S.1 S.2.1 hdg ht (fun z => kt z H locs ls h1 h2 h3 h4 h5) (fun z => kf z H locs ls h1 h2 h3 h4 h5)
theorem a_if_ge (S : FX X Y cc own d mc ms) {x : Int32} {off : Int} {tgt : Nat} (hdg : decode cc pc = .ok (.ifCond .ge off, 3)) (ht : (pc : Int) + off = (tgt : Int)) (kt : 0 ≤ x → AW X Y tgt lv st w n cells slots) (kf : ¬ 0 ≤ x → AW X Y (pc + 3) lv st w n cells slots) : AW X Y pc lv (.int x :: st) w n cells slots := fun H locs ls h1 h2 h3 h4 h5 => lv_if_ge S.1 S.2.1 hdg ht (fun z => kt z H locs ls h1 h2 h3 h4 h5) (fun z => kf z H locs ls h1 h2 h3 h4 h5)
theorem a_icmp_ge (S : FX X Y cc own d mc ms) {x y : Int32} {off : Int} {tgt : Nat} (hdg : decode cc pc = .ok (.if_icmp .ge off, 3)) (ht : (pc : Int) + off = (tgt : Int)) (kt : y ≤ x → AW X Y tgt lv st w n cells slots) (kf : ¬ y ≤ x → AW X Y (pc + 3) lv st w n cells slots) : AW X Y pc lv (.int y :: .int x :: st) w n cells slots := fun H locs ls h1 h2 h3 h4 h5 => lv_icmp_ge S.1 S.2.1 hdg ht (fun z => kt z H locs ls h1 h2 h3 h4 h5) (fun z => kf z H locs ls h1 h2 h3 h4 h5)
theorem a_if_gt (S : FX X Y cc own d mc ms) {x : Int32} {off : Int} {tgt : Nat} (hdg : decode cc pc = .ok (.ifCond .gt off, 3)) (ht : (pc : Int) + off = (tgt : Int)) (kt : 0 < x → AW X Y tgt lv st w n cells slots) (kf : ¬ 0 < x → AW X Y (pc + 3) lv st w n cells slots) : AW X Y pc lv (.int x :: st) w n cells slots := fun H locs ls h1 h2 h3 h4 h5 => lv_if_gt S.1 S.2.1 hdg ht (fun z => kt z H locs ls h1 h2 h3 h4 h5) (fun z => kf z H locs ls h1 h2 h3 h4 h5)
theorem a_icmp_gt (S : FX X Y cc own d mc ms) {x y : Int32} {off : Int} {tgt : Nat} (hdg : decode cc pc = .ok (.if_icmp .gt off, 3)) (ht : (pc : Int) + off = (tgt : Int)) (kt : y < x → AW X Y tgt lv st w n cells slots) (kf : ¬ y < x → AW X Y (pc + 3) lv st w n cells slots) : AW X Y pc lv (.int y :: .int x :: st) w n cells slots := fun H locs ls h1 h2 h3 h4 h5 => lv_icmp_gt S.1 S.2.1 hdg ht (fun z => kt z H locs ls h1 h2 h3 h4 h5) (fun z => kf z H locs ls h1 h2 h3 h4 h5)
theorem a_if_le (S : FX X Y cc own d mc ms) {x : Int32} {off : Int} {tgt : Nat} (hdg : decode cc pc = .ok (.ifCond .le off, 3)) (ht : (pc : Int) + off = (tgt : Int)) (kt : x ≤ 0 → AW X Y tgt lv st w n cells slots) (kf : ¬ x ≤ 0 → AW X Y (pc + 3) lv st w n cells slots) : AW X Y pc lv (.int x :: st) w n cells slots := fun H locs ls h1 h2 h3 h4 h5 => lv_if_le S.1 S.2.1 hdg ht (fun z => kt z H locs ls h1 h2 h3 h4 h5) (fun z => kf z H locs ls h1 h2 h3 h4 h5)
theorem a_icmp_le (S : FX X Y cc own d mc ms) {x y : Int32} {off : Int} {tgt : Nat} (hdg : decode cc pc = .ok (.if_icmp .le off, 3)) (ht : (pc : Int) + off = (tgt : Int)) (kt : x ≤ y → AW X Y tgt lv st w n cells slots) (kf : ¬ x ≤ y → AW X Y (pc + 3) lv st w n cells slots) : AW X Y pc lv (.int y :: .int x :: st) w n cells slots := fun H locs ls h1 h2 h3 h4 h5 => lv_icmp_le S.1 S.2.1 hdg ht (fun z => kt z H locs ls h1 h2 h3 h4 h5) (fun z => kf z H locs ls h1 h2 h3 h4 h5)
theorem a_goto (S : FX X Y cc own d mc ms) {off : Int} {tgt : Nat} (hdg : decode cc pc = .ok (.goto off, 3)) (ht : (pc : Int) + off = (tgt : Int)) (k : AW X Y tgt lv st w n cells slots) : AW X Y pc lv st w n cells slots := fun H locs ls h1 h2 h3 h4 h5 => lv_goto S.1 S.2.1 hdg ht (k H locs ls h1 h2 h3 h4 h5)
theorem a_tswIn (S : FX X Y cc own d mc ms) {dflt lo hi : Int} {offs : Array Int} {len : Nat} {x : Int32} {off : Int} {tgt : Nat} (hdg : decode cc pc = .ok (.tableswitch dflt lo hi offs, len)) (e1 : ¬ x.toInt < lo) (e2 : ¬ hi < x.toInt) (ho : offs[(x.toInt - lo).toNat]? = some off) (ht : (pc : Int) + off = (tgt : Int)) (k : AW X Y tgt lv st w n cells slots) : AW X Y pc lv (.int x :: st) w n cells slots := fun H locs ls h1 h2 h3 h4 h5 => lv_tableIn S.1 S.2.1 hdg e1 e2 ho ht (k H locs ls h1 h2 h3 h4 h5)
theorem a_tswOut (S : FX X Y cc own d mc ms) {dflt lo hi : Int} {offs : Array Int} {len : Nat} {x : Int32} {tgt : Nat} (hdg : decode cc pc = .ok (.tableswitch dflt lo hi offs, len)) (e1 : x.toInt < lo ∨ hi < x.toInt) (ht : (pc : Int) + dflt = (tgt : Int)) (k : AW X Y tgt lv st w n cells slots) : AW X Y pc lv (.int x :: st) w n cells slots := fun H locs ls h1 h2 h3 h4 h5 => lv_tableOut S.1 S.2.1 hdg e1 ht (k H locs ls h1 h2 h3 h4 h5)
theorem a_lsw (S : FX X Y cc own d mc ms) {dflt : Int} {ps : Array (Int × Int)} {len : Nat} {x : Int32} {off : Int} {tgt : Nat} (hdg : decode cc pc = .ok (.lookupswitch dflt ps, len)) (hp : (ps.toList.zip (ps.toList.drop 1)).all (fun (a, next) => a.1 < next.1) = true) (ho : Op.lookupswitch.offset ps.toList dflt x.toInt = off) (ht : (pc : Int) + off = (tgt : Int)) (k : AW X Y tgt lv st w n cells slots) : AW X Y pc lv (.int x :: st) w n cells slots := fun H locs ls h1 h2 h3 h4 h5 => lv_lookup S.1 S.2.1 hdg hp ho ht (k H locs ls h1 h2 h3 h4 h5)
end
theorem wP.one {D : kD} {w : ww} {H : Heap} {a : Nat} {e : va_E} (h : wP D w H) (he : w a = some e) : va_P D.1 kcl [(a, e)] H := by
  intro k q hk
  rw [List.mem_singleton.mp (List.mem_of_getElem? hk)]
  exact h a e he
theorem wP.lt {D : kD} {w : ww} {H : Heap} {a : Nat} {e : va_E} (h : wP D w H) (he : w a = some e) : a < H.size := (h a e he).lt
theorem wP.set {D : kD} {w : ww} {H H1 : Heap} {a : Nat} {e : va_E} (h : wP D w H) (he : va_at D.1 kcl (a, e) H1) (oq : ∀ q : Nat, q ≠ a → H1[q]? = H[q]?) : wP D (va_up w a (some e)) H1 := by
  intro b x hx
  by_cases hb : b = a
  · subst hb
    rw [va_up_self] at hx
    cases hx
    exact he
  · rw [va_up_ne _ _ hb] at hx
    exact (h b x hx).kept (oq b hb)
theorem wP.push {D : kD} {w : ww} {H H1 : Heap} {n : Nat} {e : va_E} (h : wP D w H) (hn : H.size = n) (he : va_at D.1 kcl (n, e) H1) (oq : ∀ q : Nat, q < n → H1[q]? = H[q]?) : wP D (va_up w n (some e)) H1 := by
  intro b x hx
  by_cases hb : b = n
  · subst hb
    rw [va_up_self] at hx
    cases hx
    exact he
  · rw [va_up_ne _ _ hb] at hx
    exact (h b x hx).kept (oq b (by have := (h b x hx).lt; omega))
theorem wA.set {w : ww} {A : Nat → Prop} {a : Nat} {e : va_E} (h : ∀ b : Nat, (w b).isSome = true → A b) (ha : A a) : ∀ b : Nat, ((va_up w a (some e)) b).isSome = true → A b := by
  intro b hb
  by_cases hx : b = a
  · rw [hx]; exact ha
  · rw [va_up_ne _ _ hx] at hb
    exact h b hb
/-- a class of the list: its place, its fields' words -/
def kC (ci : Nat) (C : String) (T : u_T) (N : Nat) : Prop := kcl[ci]? = some (C, T, N) ∧ ∀ z ∈ u_ws C T N, z ∈ kTs
def kT (T : u_T) (N : Nat) (ty : Nat → FieldType) : Prop := (∀ k, k < N → parseFieldDescriptor (T k).2.2.1 = some (ty k)) ∧ ∀ a, a < N → ∀ b, b < N → a ≠ b → (T a).2.1 ≠ (T b).2.1
def kPc (D : kD) (av : List Value) (w : ww) (n : Nat) : Array Value → State → Prop := fun v U => v = av.toArray ∧ U.heap.size = n ∧ wP D w U.heap ∧ va_K D.1 kcl (ktys D) U ∧ kN U
def kQc (D : kD) (w : ww) (n : Nat) (post : Option Value → ww → Nat → Prop) : Array Value → State → Outcome → State → Prop := fun _ st oc t => (∃ (v : Option Value) (w' : ww) (n' : Nat), oc = .returned v ∧ post v w' n' ∧ t.heap.size = n' ∧ wP D w' t.heap ∧ ∀ a : Nat, (w' a).isSome = true → kA w n a) ∧ va_F (kA w n) st t
def AM (l : Launch) (D : kD) (M : kM) (d mc ms : Nat) (av : List Value) (w : ww) (n : Nat) (post : Option Value → ww → Nat → Prop) : Prop :=
  Met l M.1 (.code M.1 M.2.1 M.2.2.1 M.2.2.2 :: kTs) { frames := d, cells := mc, slots := ms, locals := 40 * d } (kPc D av w n) (kQc D w n post) mc ms (kA w n)
theorem AM.weaken {l : Launch} {D : kD} {M : kM} {d mc ms : Nat} {av : List Value} {w : ww} {n : Nat} {post post' : Option Value → ww → Nat → Prop} (h : AM l D M d mc ms av w n post) (hp : ∀ v w' n', post v w' n' → post' v w' n') : AM l D M d mc ms av w n post' := by
  intro p e ha hc hk s m args below hf hfit hP hK
  obtain ⟨k, o, h1, h2, h3, ⟨⟨v, w', n', e1, e2, e3⟩, h5⟩, h6⟩ := h p e ha hc hk s m args below hf hfit hP hK
  exact ⟨k, o, h1, h2, h3, ⟨⟨v, w', n', e1, hp v w' n' e2, e3⟩, h5⟩, h6⟩
theorem kPc.blind (D : kD) (av : List Value) (w : ww) (n : Nat) : FrameBlind (kPc D av w n) := fun a U g mk h => ⟨h.1, h.2.1, h.2.2.1, va_K.moved (u := U) (U := U.calling g mk a) (Vm.Alike.refl U.vm) h.2.2.2.1, h.2.2.2.2.same (s := U) (U := U.calling g mk a) rfl⟩
/-- the ends of a method -/
def RTi (X : MX) (Y : kY) (cc : ByteArray) (mc ms : Nat) (post : Option Value → ww → Nat → Prop) : Prop := ∀ (pc : Nat) (lv : List (Nat × Value)) (v : Int32) (w : ww) (n k j : Nat), decode cc pc = .ok (.ireturn, 1) → k ≤ mc → j ≤ ms → post (some (.int v)) w n → AW X Y pc lv [.int v] w n k j
def RTz (X : MX) (Y : kY) (cc : ByteArray) (mc ms : Nat) (post : Option Value → ww → Nat → Prop) : Prop := ∀ (pc : Nat) (lv : List (Nat × Value)) (v : Int32) (w : ww) (n k j : Nat), decode cc pc = .ok (.ireturn, 1) → narrow .boolean (.int v) = .int v → k ≤ mc → j ≤ ms → post (some (.int v)) w n → AW X Y pc lv [.int v] w n k j
def RTl (X : MX) (Y : kY) (cc : ByteArray) (mc ms : Nat) (post : Option Value → ww → Nat → Prop) : Prop := ∀ (pc : Nat) (lv : List (Nat × Value)) (v : Int64) (w : ww) (n k j : Nat), decode cc pc = .ok (.lreturn, 1) → k ≤ mc → j ≤ ms → post (some (.long v)) w n → AW X Y pc lv [.long v] w n k j
def RTv (X : MX) (Y : kY) (cc : ByteArray) (mc ms : Nat) (post : Option Value → ww → Nat → Prop) : Prop := ∀ (pc : Nat) (lv : List (Nat × Value)) (w : ww) (n k j : Nat), decode cc pc = .ok (.return_, 1) → k ≤ mc → j ≤ ms → post none w n → AW X Y pc lv [] w n k j
theorem AM.ofi {l : Launch} {D : kD} {M : kM} {d mc ms : Nat} {av : List Value} {w : ww} {n : Nat} {post : Option Value → ww → Nat → Prop} (hy : plainName M.1.cls = true) (hr : M.2.2.2 = some .int) (hlen : (lg_sl av).length ≤ M.2.2.1)
    (body : ∀ (X : MX) (A : Nat → Prop) (Q : State → Prop), X.2.2.2.2.2.2.2.2.1.name = M.1.name → FX X (D, A, M.2.2.1, Q) M.2.1 M.1.cls d mc ms → RTi X (D, A, M.2.2.1, Q) M.2.1 mc ms post → AW X (D, A, M.2.2.1, Q) 0 (lv_args 0 av) [] w n 0 0) : AM l D M d mc ms av w n post := by
  obtain ⟨y, cc, nL, ret⟩ := M
  subst hr
  refine Met.ofW (cc := cc) (maxL := nL) (ret := some .int) hy rfl ?_
  intro p e s m args below meth c s₁ B hml hv
  obtain ⟨rfl, hn, hP, hK, hN⟩ := hv
  have hts := atoms_spec (ws := Cond.code y cc nL (some .int) :: kTs) B.pre
  have hl := lv_entry av (n := nL) hlen
  rw [lg_entry_eq]
  have hlocks := B.notSynchronized
  have hx := B.exec
  have hb := B.bytes
  have hret := B.returns
  refine body (p, l, e, (headSpec (Cond.code y cc nL (some .int) :: kTs) _).room, s, m, av.toArray, below, meth, c) (kA w n) (MQ below (kQc D w n post) av.toArray s mc ms (kA w n)) (name_of_methodNamed B.named B.method).1 ⟨hx, hb, hml, findClass_of_methodNamed B.named, fun z hz => hts z (List.mem_cons_of_mem _ hz), hK, hN, hlocks, fun q hq => Or.inr (by rw [← hn]; exact hq), Nat.le_refl _, Nat.le_refl _, Nat.le_refl _, Nat.le_refl _⟩ ?_ s.heap [] _ hn hP (fun a ha => Or.inl ha) va_S.rf hl
  intro pc lv v w' n' k j hdg e1 e2 hpost H locs ls h1 h2 h3 h4 h5
  exact W.widen e1 e2 (W.iret hx hb hret (fun t ht hW => ⟨⟨_, w', n', rfl, hpost, by rw [ht]; exact h1, by rw [ht]; exact h2, h3⟩, h4.F ht⟩) h4.2.2 hdg hlocks)
theorem AM.ofz {l : Launch} {D : kD} {M : kM} {d mc ms : Nat} {av : List Value} {w : ww} {n : Nat} {post : Option Value → ww → Nat → Prop} (hy : plainName M.1.cls = true) (hr : M.2.2.2 = some .boolean) (hlen : (lg_sl av).length ≤ M.2.2.1)
    (body : ∀ (X : MX) (A : Nat → Prop) (Q : State → Prop), X.2.2.2.2.2.2.2.2.1.name = M.1.name → FX X (D, A, M.2.2.1, Q) M.2.1 M.1.cls d mc ms → RTz X (D, A, M.2.2.1, Q) M.2.1 mc ms post → AW X (D, A, M.2.2.1, Q) 0 (lv_args 0 av) [] w n 0 0) : AM l D M d mc ms av w n post := by
  obtain ⟨y, cc, nL, ret⟩ := M
  subst hr
  refine Met.ofW (cc := cc) (maxL := nL) (ret := some .boolean) hy rfl ?_
  intro p e s m args below meth c s₁ B hml hv
  obtain ⟨rfl, hn, hP, hK, hN⟩ := hv
  have hts := atoms_spec (ws := Cond.code y cc nL (some .boolean) :: kTs) B.pre
  have hl := lv_entry av (n := nL) hlen
  rw [lg_entry_eq]
  have hlocks := B.notSynchronized
  have hx := B.exec
  have hb := B.bytes
  have hret := B.returns
  refine body (p, l, e, (headSpec (Cond.code y cc nL (some .boolean) :: kTs) _).room, s, m, av.toArray, below, meth, c) (kA w n) (MQ below (kQc D w n post) av.toArray s mc ms (kA w n)) (name_of_methodNamed B.named B.method).1 ⟨hx, hb, hml, findClass_of_methodNamed B.named, fun z hz => hts z (List.mem_cons_of_mem _ hz), hK, hN, hlocks, fun q hq => Or.inr (by rw [← hn]; exact hq), Nat.le_refl _, Nat.le_refl _, Nat.le_refl _, Nat.le_refl _⟩ ?_ s.heap [] _ hn hP (fun a ha => Or.inl ha) va_S.rf hl
  intro pc lv v w' n' k j hdg hnr e1 e2 hpost H locs ls h1 h2 h3 h4 h5
  exact W.widen e1 e2 (W.zret hx hb hret hnr (fun t ht hW => ⟨⟨_, w', n', rfl, hpost, by rw [ht]; exact h1, by rw [ht]; exact h2, h3⟩, h4.F ht⟩) h4.2.2 hdg hlocks)
theorem AM.ofl {l : Launch} {D : kD} {M : kM} {d mc ms : Nat} {av : List Value} {w : ww} {n : Nat} {post : Option Value → ww → Nat → Prop} (hy : plainName M.1.cls = true) (hr : M.2.2.2 = some .long) (hlen : (lg_sl av).length ≤ M.2.2.1)
    (body : ∀ (X : MX) (A : Nat → Prop) (Q : State → Prop), X.2.2.2.2.2.2.2.2.1.name = M.1.name → FX X (D, A, M.2.2.1, Q) M.2.1 M.1.cls d mc ms → RTl X (D, A, M.2.2.1, Q) M.2.1 mc ms post → AW X (D, A, M.2.2.1, Q) 0 (lv_args 0 av) [] w n 0 0) : AM l D M d mc ms av w n post := by
  obtain ⟨y, cc, nL, ret⟩ := M
  subst hr
  refine Met.ofW (cc := cc) (maxL := nL) (ret := some .long) hy rfl ?_
  intro p e s m args below meth c s₁ B hml hv
  obtain ⟨rfl, hn, hP, hK, hN⟩ := hv
  have hts := atoms_spec (ws := Cond.code y cc nL (some .long) :: kTs) B.pre
  have hl := lv_entry av (n := nL) hlen
  rw [lg_entry_eq]
  have hlocks := B.notSynchronized
  have hx := B.exec
  have hb := B.bytes
  have hret := B.returns
  refine body (p, l, e, (headSpec (Cond.code y cc nL (some .long) :: kTs) _).room, s, m, av.toArray, below, meth, c) (kA w n) (MQ below (kQc D w n post) av.toArray s mc ms (kA w n)) (name_of_methodNamed B.named B.method).1 ⟨hx, hb, hml, findClass_of_methodNamed B.named, fun z hz => hts z (List.mem_cons_of_mem _ hz), hK, hN, hlocks, fun q hq => Or.inr (by rw [← hn]; exact hq), Nat.le_refl _, Nat.le_refl _, Nat.le_refl _, Nat.le_refl _⟩ ?_ s.heap [] _ hn hP (fun a ha => Or.inl ha) va_S.rf hl
  intro pc lv v w' n' k j hdg e1 e2 hpost H locs ls h1 h2 h3 h4 h5
  exact W.widen e1 e2 (W.lret hx hb hret (fun t ht hW => ⟨⟨_, w', n', rfl, hpost, by rw [ht]; exact h1, by rw [ht]; exact h2, h3⟩, h4.F ht⟩) h4.2.2 hdg hlocks)
theorem AM.ofv {l : Launch} {D : kD} {M : kM} {d mc ms : Nat} {av : List Value} {w : ww} {n : Nat} {post : Option Value → ww → Nat → Prop} (hy : plainName M.1.cls = true) (hr : M.2.2.2 = none) (hlen : (lg_sl av).length ≤ M.2.2.1)
    (body : ∀ (X : MX) (A : Nat → Prop) (Q : State → Prop), X.2.2.2.2.2.2.2.2.1.name = M.1.name → FX X (D, A, M.2.2.1, Q) M.2.1 M.1.cls d mc ms → RTv X (D, A, M.2.2.1, Q) M.2.1 mc ms post → AW X (D, A, M.2.2.1, Q) 0 (lv_args 0 av) [] w n 0 0) : AM l D M d mc ms av w n post := by
  obtain ⟨y, cc, nL, ret⟩ := M
  subst hr
  refine Met.ofW (cc := cc) (maxL := nL) (ret := none) hy rfl ?_
  intro p e s m args below meth c s₁ B hml hv
  obtain ⟨rfl, hn, hP, hK, hN⟩ := hv
  have hts := atoms_spec (ws := Cond.code y cc nL (none) :: kTs) B.pre
  have hl := lv_entry av (n := nL) hlen
  rw [lg_entry_eq]
  have hlocks := B.notSynchronized
  have hx := B.exec
  have hb := B.bytes
  have hret := B.returns
  refine body (p, l, e, (headSpec (Cond.code y cc nL (none) :: kTs) _).room, s, m, av.toArray, below, meth, c) (kA w n) (MQ below (kQc D w n post) av.toArray s mc ms (kA w n)) (name_of_methodNamed B.named B.method).1 ⟨hx, hb, hml, findClass_of_methodNamed B.named, fun z hz => hts z (List.mem_cons_of_mem _ hz), hK, hN, hlocks, fun q hq => Or.inr (by rw [← hn]; exact hq), Nat.le_refl _, Nat.le_refl _, Nat.le_refl _, Nat.le_refl _⟩ ?_ s.heap [] _ hn hP (fun a ha => Or.inl ha) va_S.rf hl
  intro pc lv w' n' k j hdg e1 e2 hpost H locs ls h1 h2 h3 h4 h5
  exact W.widen e1 e2 (W.vret hx hb hret (fun t ht hW => ⟨⟨_, w', n', rfl, hpost, by rw [ht]; exact h1, by rw [ht]; exact h2, h3⟩, h4.F ht⟩) h4.2.2 hdg hlocks)
section
variable {X : MX} {Y : kY} {cc : ByteArray} {own : String} {d mc ms pc n cells slots : Nat} {lv : List (Nat × Value)} {st : List Value} {w : ww} {a : Nat}
theorem a_get (S : FX X Y cc own d mc ms) {C : String} {T : u_T} {N ci index : Nat} (hC : kC ci C T N) (k : Nat) (hk : k < N) (hlink : Cond.fieldLink own index (T k).1 (T k).2.1 (T k).2.2.1 ∈ kTs) {fs : List Value} (he : w a = some (.inr (ci, fs))) {v : Value} (hv : fs[k]? = some v) (hdg : decode cc pc = .ok (.getfield index, 3)) (kk : AW X Y (pc + 3) lv (v :: st) w n cells slots) : AW X Y pc lv (.ref a :: st) w n cells slots :=
  fun H locs ls h1 h2 h3 h4 h5 => va_get (ws := [(a, .inr (ci, fs))]) S.1 S.2.1 S.2.2.2.2.1 hC.2 S.2.2.2.1 S.2.2.2.2.2.1 (h2.one he) 0 rfl hC.1 k hk (S.2.2.2.2.1 _ hlink) (fun _ h => h) hv hdg (kk H locs ls h1 h2 h3 h4 h5)
theorem a_put (S : FX X Y cc own d mc ms) {C : String} {T : u_T} {N ci index : Nat} {ty0 : Nat → FieldType} (hC : kC ci C T N) (hT : kT T N ty0) (k : Nat) (hk : k < N) (hlink : Cond.fieldLink own index (T k).1 (T k).2.1 (T k).2.2.1 ∈ kTs) (hfin : (T k).2.2.2 = false) {fs : List Value} (he : w a = some (.inr (ci, fs))) {v : Value} (hn : narrow (ty0 k) v = v) (hfit : fits (ty0 k) v = true) (hl : k < fs.length) (hdg : decode cc pc = .ok (.putfield index, 3)) (kk : ∀ w' : ww, w' a = some (.inr (ci, fs.set k v)) → (∀ b : Nat, b ≠ a → w' b = w b) → AW X Y (pc + 3) lv st w' n cells slots) : AW X Y pc lv (v :: .ref a :: st) w n cells slots := by
  intro H locs ls h1 h2 h3 h4 h5
  have hap := va_apart (own := own) S.2.2.2.2.1 hC.2 ty0 hT.1 hT.2 S.2.2.2.2.2.1 hC.1
  obtain ⟨r, e1, cell, q1, q2, q3, q4⟩ := h2 a _ he
  have hr : r = (C, T, N) := Option.some.inj (e1.symm.trans hC.1)
  subst hr
  obtain ⟨hS, hfc, kC0, hkC, hkind⟩ := S.2.2.2.2.2.1.1 ci _ hC.1
  obtain ⟨cf, kf, fi, f, hi, hsl⟩ := hS k hk
  have hlay := S.2.2.2.2.1 _ (hC.2 _ (u_in_lay hk))
  unfold u_lay at hlay
  rw [if_neg (by rw [hfin]; decide)] at hlay
  have hst := (u_facts hfc hkC (u_lays S.2.2.2.2.1 hC.2 hk) hi).1
  have h6 := u_store hfc hkC hkind hlay hi (hT.1 k hk) hn hfit
  refine W.putK S.1 S.2.1 (f := f) ⟨S.2.2.2.1, S.2.2.2.2.1 _ hlink, ⟨_, _, _, hi⟩, hst⟩ (by rw [q2]; exact h6) q1 q3 (by rw [hsl]; exact k2_hasslot (q4 k hk)) rfl rfl hdg fun H' e1 e2 e3 => ?_
  rw [hsl] at e1 ⊢
  exact kk (va_up w a (some (.inr (ci, fs.set k v)))) (va_up_self _ _ _) (fun b hb => va_up_ne _ _ hb) H' _ ls (e2.trans h1) (h2.set ⟨_, hC.1, t_OB.to (V := updV (vp_V fs) k v) ⟨_, e1, q2, q3, t_set q4 hap hk v⟩ (fun j _ => vp_updV_set hl v j)⟩ e3) (wA.set h3 (h3 a (by rw [he]; rfl))) (h4.put e2 e3 (h3 a (by rw [he]; rfl))) h5
theorem a_putF (S : FX X Y cc own d mc ms) {C : String} {T : u_T} {N ci index : Nat} {ty0 : Nat → FieldType} (hin : X.2.2.2.2.2.2.2.2.1.name = "<init>") (hC : kC ci C T N) (hT : kT T N ty0) (k : Nat) (hk : k < N) (hlink : Cond.fieldLink own index (T k).1 (T k).2.1 (T k).2.2.1 ∈ kTs) (hfin : (T k).2.2.2 = true) (hdecl : (T k).1 = own) {fs : List Value} (he : w a = some (.inr (ci, fs))) {v : Value} (hn : narrow (ty0 k) v = v) (hfit : fits (ty0 k) v = true) (hl : k < fs.length) (hdg : decode cc pc = .ok (.putfield index, 3)) (kk : ∀ w' : ww, w' a = some (.inr (ci, fs.set k v)) → (∀ b : Nat, b ≠ a → w' b = w b) → AW X Y (pc + 3) lv st w' n cells slots) : AW X Y pc lv (v :: .ref a :: st) w n cells slots := by
  intro H locs ls h1 h2 h3 h4 h5
  have hap := va_apart (own := own) S.2.2.2.2.1 hC.2 ty0 hT.1 hT.2 S.2.2.2.2.2.1 hC.1
  obtain ⟨r, e1, cell, q1, q2, q3, q4⟩ := h2 a _ he
  have hr : r = (C, T, N) := Option.some.inj (e1.symm.trans hC.1)
  subst hr
  obtain ⟨hS, hfc, kC0, hkC, hkind⟩ := S.2.2.2.2.2.1.1 ci _ hC.1
  obtain ⟨cf, kf, fi, f, hi, hsl⟩ := hS k hk
  have hlay := S.2.2.2.2.1 _ (hC.2 _ (u_in_lay hk))
  unfold u_lay at hlay
  rw [if_pos hfin] at hlay
  have hst := (u_facts hfc hkC (u_lays S.2.2.2.2.1 hC.2 hk) hi).1
  have hown := S.2.2.2.1
  have hcf : X.2.2.2.2.2.1.cls = cf := by
    obtain ⟨_, _, c', _, _, _, -, -, hf', -, -, -, hown2, -⟩ := Cond.laysFinal_spec hlay
    have e1 : c' = cf := by have := hi.symm.trans hf'; simp at this; exact this.1.symm
    rw [hdecl] at hown2
    rw [← e1]; exact Option.some.inj (hown.symm.trans hown2)
  have h6 := u_fits hfc hkC hkind (Or.inr hlay) hi (hT.1 k hk) hn hfit
  refine W.putFinK S.1 S.2.1 S.2.2.2.1 (S.2.2.2.2.1 _ hlink) hi hst hcf hin (by rw [q2]; exact h6) q1 q3 (by rw [hsl]; exact k2_hasslot (q4 k hk)) rfl rfl hdg fun H' e1 e2 e3 => ?_
  rw [hsl] at e1 ⊢
  exact kk (va_up w a (some (.inr (ci, fs.set k v)))) (va_up_self _ _ _) (fun b hb => va_up_ne _ _ hb) H' _ ls (e2.trans h1) (h2.set ⟨_, hC.1, t_OB.to (V := updV (vp_V fs) k v) ⟨_, e1, q2, q3, t_set q4 hap hk v⟩ (fun j _ => vp_updV_set hl v j)⟩ e3) (wA.set h3 (h3 a (by rw [he]; rfl))) (h4.put e2 e3 (h3 a (by rw [he]; rfl))) h5
theorem a_iald (S : FX X Y cc own d mc ms) {N i : Nat} {f : Nat → Int32} {x : Int32} (he : w a = some (.inl (Y.1.2 0, N, .inl f))) (hx : x = nI i) (hi : i < N) (hN : N < 2 ^ 31) (hdg : decode cc pc = .ok (.iaload, 1)) (kk : AW X Y (pc + 1) lv (.int (f i) :: st) w n cells slots) : AW X Y pc lv (.int x :: .ref a :: st) w n cells slots := by
  subst hx
  intro H locs ls h1 h2 h3 h4 h5
  refine va_iald (ws := [(a, .inl (Y.1.2 0, N, .inl f))]) S.1 S.2.1 S.2.2.2.2.2.1 (h2.one he) 0 0 rfl rfl (vp_in_nI hi hN) hdg ?_
  rw [nI_clamp (Nat.lt_trans hi hN)]
  exact kk H locs ls h1 h2 h3 h4 h5
theorem a_zald (S : FX X Y cc own d mc ms) {N i : Nat} {f : Nat → Int32} {x : Int32} (he : w a = some (.inl (Y.1.2 2, N, .inl f))) (hx : x = nI i) (hi : i < N) (hN : N < 2 ^ 31) (hdg : decode cc pc = .ok (.baload, 1)) (kk : AW X Y (pc + 1) lv (.int (f i) :: st) w n cells slots) : AW X Y pc lv (.int x :: .ref a :: st) w n cells slots := by
  subst hx
  intro H locs ls h1 h2 h3 h4 h5
  refine va_zald (ws := [(a, .inl (Y.1.2 2, N, .inl f))]) S.1 S.2.1 S.2.2.2.2.2.1 (h2.one he) 0 2 rfl rfl (vp_in_nI hi hN) hdg ?_
  rw [nI_clamp (Nat.lt_trans hi hN)]
  exact kk H locs ls h1 h2 h3 h4 h5
theorem a_lald (S : FX X Y cc own d mc ms) {N i : Nat} {f : Nat → Int64} {x : Int32} (he : w a = some (.inl (Y.1.2 1, N, .inr (.inl f)))) (hx : x = nI i) (hi : i < N) (hN : N < 2 ^ 31) (hdg : decode cc pc = .ok (.laload, 1)) (kk : AW X Y (pc + 1) lv (.long (f i) :: st) w n cells slots) : AW X Y pc lv (.int x :: .ref a :: st) w n cells slots := by
  subst hx
  intro H locs ls h1 h2 h3 h4 h5
  refine va_lald (ws := [(a, .inl (Y.1.2 1, N, .inr (.inl f)))]) S.1 S.2.1 S.2.2.2.2.2.1 (h2.one he) 0 1 rfl rfl (vp_in_nI hi hN) hdg ?_
  rw [nI_clamp (Nat.lt_trans hi hN)]
  exact kk H locs ls h1 h2 h3 h4 h5
theorem a_aald (S : FX X Y cc own d mc ms) {N i t0 q : Nat} {f : Nat → Option Nat} {x : Int32} {C : String} (ht : (ktys Y.1)[t0]? = some (Y.1.2 t0, .object C)) (he : w a = some (.inl (Y.1.2 t0, N, .inr (.inr (.inr (.inr f)))))) (hx : x = nI i) (hi : i < N) (hN : N < 2 ^ 31) (hq : f i = some q) (hdg : decode cc pc = .ok (.aaload, 1)) (kk : AW X Y (pc + 1) lv (.ref q :: st) w n cells slots) : AW X Y pc lv (.int x :: .ref a :: st) w n cells slots := by
  subst hx
  intro H locs ls h1 h2 h3 h4 h5
  refine va_aldq (ws := [(a, .inl (Y.1.2 t0, N, .inr (.inr (.inr (.inr f)))))]) (C := C) S.1 S.2.1 S.2.2.2.2.2.1 (h2.one he) 0 t0 rfl ht (vp_in_nI hi hN) hdg ?_
  rw [nI_clamp (Nat.lt_trans hi hN), hq]
  exact kk H locs ls h1 h2 h3 h4 h5
theorem a_alen (S : FX X Y cc own d mc ms) {t0 : Nat} {ty : FieldType} {x : vp_A} (ht : (ktys Y.1)[t0]? = some (Y.1.2 t0, ty)) (he : w a = some (.inl (Y.1.2 t0, x))) (hdg : decode cc pc = .ok (.arraylength, 1)) (kk : AW X Y (pc + 1) lv (.int (nI x.1) :: st) w n cells slots) : AW X Y pc lv (.ref a :: st) w n cells slots :=
  fun H locs ls h1 h2 h3 h4 h5 => va_alen (ws := [(a, .inl (Y.1.2 t0, x))]) S.1 S.2.1 S.2.2.2.2.2.1 (h2.one he) 0 t0 rfl ht rfl hdg (kk H locs ls h1 h2 h3 h4 h5)
theorem a_iast (S : FX X Y cc own d mc ms) {N i : Nat} {f : Nat → Int32} {x : Int32} {v : Int32} (he : w a = some (.inl (Y.1.2 0, N, .inl f))) (hx : x = nI i) (hi : i < N) (hN : N < 2 ^ 31) (hdg : decode cc pc = .ok (.iastore, 1)) (kk : ∀ w' : ww, w' a = some (.inl (Y.1.2 0, N, .inl (upd f i v))) → (∀ b : Nat, b ≠ a → w' b = w b) → AW X Y (pc + 1) lv st w' n cells slots) : AW X Y pc lv (.int v :: .int x :: .ref a :: st) w n cells slots := by
  subst hx
  intro H locs ls h1 h2 h3 h4 h5
  have hc := nI_clamp (Nat.lt_trans hi hN)
  refine W.iast S.1 S.2.1 (h2 a _ he) ((S.2.2.2.2.2.1.2 0 _ rfl).1 N (fun j => .int (f j))) (fun q => by cases q) (by show ¬ (nI i < 0 ∨ (arrV _ _ _).slots.size ≤ _); rw [arrV_size]; exact vp_in_nI hi hN) rfl rfl hdg fun H1 e1 z1 oq => ?_
  refine kk (va_up w a (some _)) (va_up_self _ _ _) (fun b hb => va_up_ne _ _ hb) H1 _ ls (z1.trans h1) (h2.set ?_ oq) (wA.set h3 (h3 a (by rw [he]; rfl))) (h4.put z1 oq (h3 a (by rw [he]; rfl))) h5
  show H1[a]? = some (vp_cell _ _)
  rw [e1, hc, vp_cell_i, vp_cell_i, arrV_store]
  congr 2
  funext q
  by_cases hq : q = i
  · subst hq
    simp [updV, upd]
  · simp [updV, upd, hq]
theorem a_zast (S : FX X Y cc own d mc ms) {N i : Nat} {f : Nat → Int32} {x : Int32} {v : Int32} (he : w a = some (.inl (Y.1.2 2, N, .inl f))) (hx : x = nI i) (hi : i < N) (hN : N < 2 ^ 31) (hdg : decode cc pc = .ok (.bastore, 1)) (kk : ∀ w' : ww, w' a = some (.inl (Y.1.2 2, N, .inl (upd f i (vp_nar .boolean v)))) → (∀ b : Nat, b ≠ a → w' b = w b) → AW X Y (pc + 1) lv st w' n cells slots) : AW X Y pc lv (.int v :: .int x :: .ref a :: st) w n cells slots := by
  subst hx
  intro H locs ls h1 h2 h3 h4 h5
  have hc := nI_clamp (Nat.lt_trans hi hN)
  refine W.zast S.1 S.2.1 (h2 a _ he) ((S.2.2.2.2.2.1.2 2 _ rfl).1 N (fun j => .int (f j))) (fun q => by cases q) (by show ¬ (nI i < 0 ∨ (arrV _ _ _).slots.size ≤ _); rw [arrV_size]; exact vp_in_nI hi hN) rfl rfl hdg fun H1 e1 z1 oq => ?_
  refine kk (va_up w a (some _)) (va_up_self _ _ _) (fun b hb => va_up_ne _ _ hb) H1 _ ls (z1.trans h1) (h2.set ?_ oq) (wA.set h3 (h3 a (by rw [he]; rfl))) (h4.put z1 oq (h3 a (by rw [he]; rfl))) h5
  show H1[a]? = some (vp_cell _ _)
  rw [e1, hc, vp_cell_i, vp_cell_i, arrV_store]
  congr 2
  funext q
  by_cases hq : q = i
  · subst hq
    (simp [updV, upd, vp_nar]; try rfl)
  · simp [updV, upd, hq]
theorem a_last (S : FX X Y cc own d mc ms) {N i : Nat} {f : Nat → Int64} {x : Int32} {v : Int64} (he : w a = some (.inl (Y.1.2 1, N, .inr (.inl f)))) (hx : x = nI i) (hi : i < N) (hN : N < 2 ^ 31) (hdg : decode cc pc = .ok (.lastore, 1)) (kk : ∀ w' : ww, w' a = some (.inl (Y.1.2 1, N, .inr (.inl (vp_updL f i v)))) → (∀ b : Nat, b ≠ a → w' b = w b) → AW X Y (pc + 1) lv st w' n cells slots) : AW X Y pc lv (.long v :: .int x :: .ref a :: st) w n cells slots := by
  subst hx
  intro H locs ls h1 h2 h3 h4 h5
  have hc := nI_clamp (Nat.lt_trans hi hN)
  refine W.last S.1 S.2.1 (h2 a _ he) ((S.2.2.2.2.2.1.2 1 _ rfl).1 N (fun j => .long (f j))) (fun q => by cases q) (by show ¬ (nI i < 0 ∨ (arrV _ _ _).slots.size ≤ _); rw [arrV_size]; exact vp_in_nI hi hN) rfl rfl hdg fun H1 e1 z1 oq => ?_
  refine kk (va_up w a (some _)) (va_up_self _ _ _) (fun b hb => va_up_ne _ _ hb) H1 _ ls (z1.trans h1) (h2.set ?_ oq) (wA.set h3 (h3 a (by rw [he]; rfl))) (h4.put z1 oq (h3 a (by rw [he]; rfl))) h5
  show H1[a]? = some (vp_cell _ _)
  rw [e1, hc, vp_cell_l, vp_cell_l, arrV_store]
  congr 2
  funext q
  by_cases hq : q = i
  · subst hq
    simp [updV, vp_updL]
  · simp [updV, vp_updL, hq]
theorem a_aast (S : FX X Y cc own d mc ms) {N i t0 q ci : Nat} {r : vw_C} {vs : List Value} {f : Nat → Option Nat} {x : Int32} (ht : (ktys Y.1)[t0]? = some (Y.1.2 t0, .object r.1)) (hc : kcl[ci]? = some r) (hq : w q = some (.inr (ci, vs))) (he : w a = some (.inl (Y.1.2 t0, N, .inr (.inr (.inr (.inr f)))))) (hx : x = nI i) (hi : i < N) (hN : N < 2 ^ 31) (hdg : decode cc pc = .ok (.aastore, 1)) (kk : ∀ w' : ww, w' a = some (.inl (Y.1.2 t0, N, .inr (.inr (.inr (.inr (va_up f i (some q))))))) → (∀ b : Nat, b ≠ a → w' b = w b) → AW X Y (pc + 1) lv st w' n cells slots) : AW X Y pc lv (.ref q :: .int x :: .ref a :: st) w n cells slots := by
  subst hx
  intro H locs ls h1 h2 h3 h4 h5
  have hcl := nI_clamp (Nat.lt_trans hi hN)
  have hv := vp_in_nI hi hN
  obtain ⟨r', hr', cellV, g1, g2, g3, -⟩ := h2 q _ hq
  have hcls := (S.2.2.2.2.2.1.1 ci r hc).2
  obtain ⟨kA0, comp, k1, k2, k3, -⟩ := (S.2.2.2.2.2.1.2 t0 _ ht).2
  have hcomp : comp = Y.1.1.1 ci := Option.some.inj (k3.symm.trans hcls.1)
  subst hcomp
  obtain ⟨kC0, hkC, -⟩ := hcls.2
  refine W.aast S.1 S.2.1 (h2 a _ he) (fun q h => by cases h) (fun h => by cases h) k1 k2 rfl hkC ⟨fun z => hv (Or.inl z), by show _ < (arrV _ _ _).slots.size; rw [arrV_size, hcl]; exact hi⟩ g1 (fun q h => by rw [g3] at h; cases h) (by rw [g2]; exact hkC) (by rw [g2]; exact va_assign hcls) rfl rfl hdg fun H1 e1 z1 oq => ?_
  refine kk (va_up w a (some _)) (va_up_self _ _ _) (fun b hb => va_up_ne _ _ hb) H1 _ ls (z1.trans h1) (h2.set ?_ oq) (wA.set h3 (h3 a (by rw [he]; rfl))) (h4.put z1 oq (h3 a (by rw [he]; rfl))) h5
  show H1[a]? = some (vp_cell _ _)
  rw [e1, hcl, vp_cell_q, vp_cell_q, arrV_store]
  congr 2
  funext j
  by_cases hj : j = i
  · subst hj
    simp [updV, va_up, va_rf]
  · simp [updV, va_up, hj]
theorem a_new (S : FX X Y cc own d mc ms) {C : String} {T : u_T} {N ci index : Nat} {ty0 : Nat → FieldType} (hC : kC ci C T N) (hT : kT T N ty0) (hcl : Cond.classLink own index C ∈ kTs) (hin : Cond.instantiable C N ∈ kTs) (hini : Cond.initialized C ∈ kTs) {fs : List Value} (hfs : ∀ j, j < N → defaultValue (ty0 j) = vp_V fs j) (hc : cells + 1 ≤ mc) (hs : slots + N ≤ ms) (hdg : decode cc pc = .ok (.new index, 3)) (kk : ∀ w' : ww, w' n = some (.inr (ci, fs)) → (∀ b : Nat, b ≠ n → w' b = w b) → AW X Y (pc + 3) lv (.ref n :: st) w' (n + 1) (cells + 1) (slots + N)) : AW X Y pc lv st w n cells slots := by
  intro H locs ls h1 h2 h3 h4 h5
  have hKn := S.2.2.2.2.2.1.1 ci _ hC.1
  refine W.newcK S.1 S.2.1 S.2.2.2.1 (S.2.2.2.2.1 _ hcl) (S.2.2.2.2.1 _ hin) (S.2.2.2.2.1 _ hini) rfl hdg (Nat.le_trans hc S.2.2.2.2.2.2.2.2.2.2.2.1) (Nat.le_trans hs S.2.2.2.2.2.2.2.2.2.2.2.2) hKn.2.1 h1 fun H1 kC0 hkC e1 z1 o1 => ?_
  have hA : Y.2.1 n := S.2.2.2.2.2.2.2.2.1 n (by rw [← h1]; exact h4.1)
  exact kk (va_up w n (some (.inr (ci, fs)))) (va_up_self _ _ _) (fun b hb => va_up_ne _ _ hb) H1 _ ls z1 (h2.push h1 ⟨_, hC.1, (u_born ty0 S.2.2.2.2.1 hC.2 hKn hkC e1 hT.1).to hfs⟩ o1) (wA.set h3 hA) ⟨Nat.le_trans h4.1 (by omega), fun x g1 g2 => (o1 x (by rw [← h1]; exact Nat.lt_of_lt_of_le g1 h4.1)).trans (h4.2.1 x g1 g2), h4.2.2⟩ h5
theorem a_newa (S : FX X Y cc own d mc ms) {at0 : ArrayType} {ty : FieldType} {t0 N : Nat} {x : Int32} {a0 : vp_A} (hty : newarray.typeOf at0 = ty) (ht : (ktys Y.1)[t0]? = some (Y.1.2 t0, ty)) (hno : ∀ U cA, va_RA U cA ty → U.vm.findClass ("[" ++ ty.toString) = some cA) (harr : Cond.arrayClass ty ∈ kTs) (ha : ∀ cA : ClassId, vp_cell cA a0 = arrV cA N (fun _ => defaultValue ty)) (hx : x = nI N) (hN : N < 2 ^ 20) (hb : N * componentBytes ty ≤ 536870912) (hc : cells + 1 ≤ mc) (hs : slots + N ≤ ms) (hdg : decode cc pc = .ok (.newarray at0, 2)) (kk : ∀ w' : ww, w' n = some (.inl (Y.1.2 t0, a0)) → (∀ b : Nat, b ≠ n → w' b = w b) → AW X Y (pc + 2) lv (.ref n :: st) w' (n + 1) (cells + 1) (slots + N)) : AW X Y pc lv (.int x :: st) w n cells slots := by
  subst hx
  subst hty
  intro H locs ls h1 h2 h3 h4 h5
  refine va_newaK S.1 S.2.1 (S.2.2.2.2.1 _ harr) rfl hdg rfl (nI_pos (by omega)) (nI_clamp (by omega)) hb (Nat.le_trans hc S.2.2.2.2.2.2.2.2.2.2.2.1) (Nat.le_trans hs S.2.2.2.2.2.2.2.2.2.2.2.2) h1 fun H1 cA e1 z1 o1 hAr hNm => ?_
  have hcA : cA = Y.1.2 t0 := Option.some.inj (hNm.symm.trans (hno _ _ (S.2.2.2.2.2.1.2 t0 _ ht).2))
  subst hcA
  have hA : Y.2.1 n := S.2.2.2.2.2.2.2.2.1 n (by rw [← h1]; exact h4.1)
  exact kk (va_up w n (some (.inl (Y.1.2 t0, a0)))) (va_up_self _ _ _) (fun b hb => va_up_ne _ _ hb) H1 _ ls z1 (h2.push h1 (show H1[n]? = some (vp_cell _ _) by rw [ha]; exact e1) o1) (wA.set h3 hA) ⟨Nat.le_trans h4.1 (by omega), fun x g1 g2 => (o1 x (by rw [← h1]; exact Nat.lt_of_lt_of_le g1 h4.1)).trans (h4.2.1 x g1 g2), h4.2.2⟩ h5
theorem a_newq (S : FX X Y cc own d mc ms) {C : String} {index t0 N : Nat} {x : Int32} (ht : (ktys Y.1)[t0]? = some (Y.1.2 t0, .object C)) (hcl : Cond.classLink own index C ∈ kTs) (hov : ∀ U : State, kN U → va_AO C U) (hx : x = nI N) (hN : N < 2 ^ 20) (hc : cells + 1 ≤ mc) (hs : slots + N ≤ ms) (hdg : decode cc pc = .ok (.anewarray index, 3)) (kk : ∀ w' : ww, w' n = some (.inl (Y.1.2 t0, N, .inr (.inr (.inr (.inr (fun _ => none)))))) → (∀ b : Nat, b ≠ n → w' b = w b) → AW X Y (pc + 3) lv (.ref n :: st) w' (n + 1) (cells + 1) (slots + N)) : AW X Y pc lv (.int x :: st) w n cells slots := by
  subst hx
  intro H locs ls h1 h2 h3 h4 h5
  have hcl2 : (nI N).toNatClampNeg = N := nI_clamp (by omega)
  refine W.anew S.1 S.2.1 S.2.2.2.1 (S.2.2.2.2.1 _ hcl) (va_AO.use (hov _ S.2.2.2.2.2.2.1)) rfl hdg rfl (nI_pos (by omega)) (by rw [hcl2]; omega) (Nat.le_trans hc S.2.2.2.2.2.2.2.2.2.2.2.1) (by rw [hcl2]; exact Nat.le_trans hs S.2.2.2.2.2.2.2.2.2.2.2.2) fun cA kA0 comp f1 f2 f3 f4 => ?_
  obtain ⟨kA1, comp1, -, -, -, f5⟩ := (S.2.2.2.2.2.1.2 t0 _ ht).2
  have hcA : cA = Y.1.2 t0 := Option.some.inj (f1.symm.trans f5)
  subst hcA
  rw [hcl2]
  generalize hH1 : H.push ({ cls := Y.1.2 t0, slots := Array.replicate N .null, vm := .none } : Cell) = H1
  have z1 : H1.size = n + 1 := by rw [← hH1, Array.size_push, h1]
  have e1 : H1[n]? = some (arrV (Y.1.2 t0) N (fun _ => .null)) := by rw [← hH1, ← h1, Array.getElem?_push_size, ← arrV_new]
  have o1 : ∀ q : Nat, q < n → H1[q]? = H[q]? := fun q hq => by rw [← hH1, Array.getElem?_push, if_neg (by rw [h1]; exact Nat.ne_of_lt hq)]
  have hA : Y.2.1 n := S.2.2.2.2.2.2.2.2.1 n (by rw [← h1]; exact h4.1)
  rw [h1]
  exact kk (va_up w n (some _)) (va_up_self _ _ _) (fun b hb => va_up_ne _ _ hb) H1 _ ls z1 (h2.push h1 (show H1[n]? = some (vp_cell _ _) by rw [vp_cell_q]; exact e1) o1) (wA.set h3 hA) ⟨Nat.le_trans h4.1 (by omega), fun x g1 g2 => (o1 x (by rw [← h1]; exact Nat.lt_of_lt_of_le g1 h4.1)).trans (h4.2.1 x g1 g2), h4.2.2⟩ h5
theorem a_objInit (S : FX X Y cc own d mc ms) {idx : Nat} (h7 : Cond.methodLink own idx Lib.objectInit ∈ kTs) (h8 : Cond.instanceMethod Lib.objectInit ∈ kTs) (h9 : Cond.code Lib.objectInit ⟨#[0xb1]⟩ 1 none ∈ kTs) (hd : 1 ≤ d) (hW : (st.map fun v => v.category).sum ≤ 8) (hdg : decode cc pc = .ok (.invokespecial idx, 3)) (kk : AW X Y (pc + 3) lv st w n cells slots) : AW X Y pc lv (.ref a :: st) w n cells slots := by
  intro H locs ls h1 h2 h3 h4 h5
  have hf := S.2.2.2.2.2.2.2.2.2.1
  have hlo := S.2.2.2.2.2.2.2.2.2.2.1
  exact W.objInit S.1 S.2.1 S.2.2.2.1 (S.2.2.2.2.1 _ h7) (S.2.2.2.2.1 _ h8) (S.2.2.2.2.1 _ h9) rfl (h5.1.trans S.2.2.1.symm) rfl hdg (by omega) (by show 2 * 0 + _ + 12 ≤ _; omega) (kk H locs ls h1 h2 h3 h4 h5)
theorem a_run {X : MX} {Y : kY} {pc n cells slots mc1 ms1 : Nat} {H : Heap} {locs : List Loc} {ls : Array Slot} {lv : List (Nat × Value)} {st rest : List Value} {w : ww} {post : Option Value → ww → Nat → Prop} {av : Array Value}
    (hr : va_Run X.1 X.2.1 X.2.2.1 X.2.2.2.1 X.2.2.2.2.1 X.2.2.2.2.2.1 X.2.2.2.2.2.2.1 X.2.2.2.2.2.2.2.1 X.2.2.2.2.2.2.2.2.1 X.2.2.2.2.2.2.2.2.2 H locs cells slots mc1 ms1 (F0 X.2.2.2.2.2.1 pc ls st) rest (kQc Y.1 w n post av) (kA w n))
    (hAA : ∀ q : Nat, X.2.2.2.2.1.heap.size ≤ q → Y.2.1 q) (h1 : H.size = n) (h3 : ∀ a : Nat, (w a).isSome = true → Y.2.1 a) (h4 : va_S Y.2.1 X.2.2.2.2.1.heap H locs) (h5 : lv_has ls Y.2.2.1 lv) (kk : ∀ (v : Option Value) (w' : ww) (n' : Nat), post v w' n' → AW X Y (pc + 3) lv (v.toList ++ rest) w' n' (cells + mc1) (slots + ms1)) :
    W X.1 X.2.1 X.2.2.1 X.2.2.2.1 X.2.2.2.2.1 X.2.2.2.2.2.1 X.2.2.2.2.2.2.1 X.2.2.2.2.2.2.2.1 X.2.2.2.2.2.2.2.2.1 X.2.2.2.2.2.2.2.2.2 H locs cells slots Y.2.2.2 (F0 X.2.2.2.2.2.1 pc ls st) := by
  intro T hT Xs
  have hF : ∀ q, kA w n q → Y.2.1 q := fun q hq => hq.elim (h3 q) (fun z => hAA q (Nat.le_trans h4.1 (by rw [h1]; exact z)))
  obtain ⟨v, st₀, t, T', L, e0, X', hL, e1, e2, ⟨⟨v', w', n', hv, hp, hsz, hP', hdom⟩, hz, hk⟩, stp⟩ := hr T hT Xs
  cases hv
  rw [e0] at hz hk
  obtain ⟨t2, a1, b1⟩ := kk v w' n' hp T'.heap (locs ++ L) ls (by rw [e1]; exact hsz) (by rw [e1]; exact hP') (fun a ha => hF a (hdom a ha))
    ⟨Nat.le_trans h4.1 (by rw [e1]; exact hz), fun q g1 g2 => by rw [e1, hk q (Nat.lt_of_lt_of_le g1 h4.1) (fun z => g2 (hF q z))]; exact h4.2.1 q g1 g2, fun q hq => by
      rcases List.mem_append.mp hq with h | h
      · exact h4.2.2 q h
      · exact hF _ (hL q h)⟩ h5 T' rfl X'
  exact ⟨t2, stp t2 a1, b1⟩
theorem kGood {M : kM} (h : Cond.code M.1 M.2.1 M.2.2.1 M.2.2.2 ∈ kTs) : GoodIn kTs (Cond.code M.1 M.2.1 M.2.2.1 M.2.2.2 :: kTs) := by
  intro z hz
  rcases List.mem_cons.mp hz with e | e
  · rw [e]; exact kTs_good _ h
  · exact kTs_good z e
/-- what a call wants of the tables: plain, over a nest mate's link; the kind: static, virtual, init -/
def kCB (M : kM) (na : Nat) : Prop := Cond.initialized M.1.cls ∈ kTs ∧ Cond.code M.1 M.2.1 M.2.2.1 M.2.2.2 ∈ kTs ∧ (M.1.cls ≠ "java/lang/invoke/MethodHandle" ∧ M.1.cls ≠ "java/lang/invoke/VarHandle" ∧ (parseMethodDescriptor M.1.desc).map (fun d => d.parameters.length) = some na) ∧ M.2.2.1 ≤ 21
def kCS (own : String) (idx : Nat) (M : kM) (na : Nat) : Prop := kCB M na ∧ Cond.methodLink own idx M.1 ∈ kTs ∧ Cond.static M.1 ∈ kTs
def kCV (own : String) (idx : Nat) (M : kM) (na ci : Nat) : Prop := kCB M na ∧ Cond.methodLink own idx M.1 ∈ kTs ∧ Cond.instanceMethod M.1 ∈ kTs ∧ Cond.selects M.1.cls M.1 M.1 ∈ kTs ∧ ∃ r : u_T × Nat, kcl[ci]? = some (M.1.cls, r)
def kCI (own : String) (idx : Nat) (M : kM) (na : Nat) : Prop := kCB M na ∧ Cond.methodLink own idx M.1 ∈ kTs ∧ Cond.instanceMethod M.1 ∈ kTs ∧ M.1.name = "<init>" ∧ M.2.2.2 = none
def kCSN (own : String) (idx : Nat) (M : kM) (na : Nat) (host : String) : Prop := kCB M na ∧ (own, idx, M.1, host) ∈ kNM ∧ Cond.static M.1 ∈ kTs
def kCVN (own : String) (idx : Nat) (M : kM) (na ci : Nat) (host : String) : Prop := kCB M na ∧ (own, idx, M.1, host) ∈ kNM ∧ Cond.instanceMethod M.1 ∈ kTs ∧ Cond.selects M.1.cls M.1 M.1 ∈ kTs ∧ ∃ r : u_T × Nat, kcl[ci]? = some (M.1.cls, r)
def kCIN (own : String) (idx : Nat) (M : kM) (na : Nat) (host : String) : Prop := kCB M na ∧ (own, idx, M.1, host) ∈ kNM ∧ Cond.instanceMethod M.1 ∈ kTs ∧ M.1.name = "<init>" ∧ M.2.2.2 = none
theorem a_callS (S : FX X Y cc own d mc ms) {M : kM} {d1 mc1 ms1 idx : Nat} {As rest : List Value} {post : Option Value → ww → Nat → Prop} (hC : kCS own idx M As.length) (hM : AM X.2.1 Y.1 M d1 mc1 ms1 As w n post) (hd : d1 + 1 ≤ d) (hc : cells + mc1 ≤ mc) (hs : slots + ms1 ≤ ms) (hst : st = As.reverse ++ rest) (hW : (rest.map fun v => v.category).sum ≤ 8) (hdg : decode cc pc = .ok (.invokestatic idx, 3)) (kk : ∀ (v : Option Value) (w' : ww) (n' : Nat), post v w' n' → AW X Y (pc + 3) lv (v.toList ++ rest) w' n' (cells + mc1) (slots + ms1)) : AW X Y pc lv st w n cells slots := by
  obtain ⟨⟨hini, hcode, hdn, hml⟩, hlk, hstt⟩ := hC
  intro H locs ls h1 h2 h3 h4 h5
  have hf := S.2.2.2.2.2.2.2.2.2.1
  have hlo := S.2.2.2.2.2.2.2.2.2.2.1
  refine a_run (va_runS (As := As) (rest := rest) ⟨S.1, S.2.1, S.2.2.1, S.2.2.2.1, S.2.2.2.2.1⟩ hM ⟨callB_of (ws' := kTs) As.length S.2.2.2.2.1 (kGood hcode) rfl rfl rfl (S.2.2.2.2.1 _ hini) (S.2.2.2.2.1 _ hlk) hdn ⟨by show d1 + 1 ≤ _; omega, by show 8 + (_ + 11) + 40 * d1 ≤ _; omega⟩, S.2.2.2.2.1 _ hstt⟩ ⟨kPc.blind _ _ _ _, fun U hU hW => ⟨rfl, by rw [hU]; exact h1, by rw [hU]; exact h2, va_K.moved hW.alike S.2.2.2.2.2.1, S.2.2.2.2.2.2.1.moved hW⟩⟩ rfl rfl h5.1 hst (lv_room hW) hdg ⟨Nat.le_trans hc S.2.2.2.2.2.2.2.2.2.2.2.1, Nat.le_trans hs S.2.2.2.2.2.2.2.2.2.2.2.2⟩) S.2.2.2.2.2.2.2.2.1 h1 h3 h4 h5 kk
theorem a_callV (S : FX X Y cc own d mc ms) {M : kM} {d1 mc1 ms1 idx b ci : Nat} {As rest : List Value} {post : Option Value → ww → Nat → Prop} (hC : kCV own idx M As.length ci) {fs : List Value} (hb : w b = some (.inr (ci, fs))) (hM : AM X.2.1 Y.1 M d1 mc1 ms1 (.ref b :: As) w n post) (hd : d1 + 1 ≤ d) (hc : cells + mc1 ≤ mc) (hs : slots + ms1 ≤ ms) (hst : st = As.reverse ++ .ref b :: rest) (hW : (rest.map fun v => v.category).sum ≤ 8) (hdg : decode cc pc = .ok (.invokevirtual idx, 3)) (kk : ∀ (v : Option Value) (w' : ww) (n' : Nat), post v w' n' → AW X Y (pc + 3) lv (v.toList ++ rest) w' n' (cells + mc1) (slots + ms1)) : AW X Y pc lv st w n cells slots := by
  obtain ⟨⟨hini, hcode, hdn, hml⟩, hlk, hins, hsel, r, hr⟩ := hC
  intro H locs ls h1 h2 h3 h4 h5
  have hf := S.2.2.2.2.2.2.2.2.2.1
  have hlo := S.2.2.2.2.2.2.2.2.2.2.1
  refine a_run (va_runV (As := As) (rest := rest) ⟨S.1, S.2.1, S.2.2.1, S.2.2.2.1, S.2.2.2.2.1⟩ hM ⟨callB_of (ws' := kTs) As.length S.2.2.2.2.1 (kGood hcode) rfl rfl rfl (S.2.2.2.2.1 _ hini) (S.2.2.2.2.1 _ hlk) hdn ⟨by show d1 + 1 ≤ _; omega, by show 8 + (_ + 11) + 40 * d1 ≤ _; omega⟩, S.2.2.2.2.1 _ hins, S.2.2.2.2.1 _ hsel⟩ ⟨kPc.blind _ _ _ _, va_recv S.2.2.2.2.2.1 (h2.one hb) hr (q0 := 0) rfl, fun U hU hW => ⟨rfl, by rw [hU]; exact h1, by rw [hU]; exact h2, va_K.moved hW.alike S.2.2.2.2.2.1, S.2.2.2.2.2.2.1.moved hW⟩⟩ rfl rfl h5.1 hst (lv_room hW) hdg ⟨Nat.le_trans hc S.2.2.2.2.2.2.2.2.2.2.2.1, Nat.le_trans hs S.2.2.2.2.2.2.2.2.2.2.2.2⟩) S.2.2.2.2.2.2.2.2.1 h1 h3 h4 h5 kk
theorem a_callI (S : FX X Y cc own d mc ms) {M : kM} {d1 mc1 ms1 idx b : Nat} {As rest : List Value} {post : Option Value → ww → Nat → Prop} (hC : kCI own idx M As.length) (hM : AM X.2.1 Y.1 M d1 mc1 ms1 (.ref b :: As) w n post) (hd : d1 + 1 ≤ d) (hc : cells + mc1 ≤ mc) (hs : slots + ms1 ≤ ms) (hst : st = As.reverse ++ .ref b :: rest) (hW : (rest.map fun v => v.category).sum ≤ 8) (hdg : decode cc pc = .ok (.invokespecial idx, 3)) (kk : ∀ (v : Option Value) (w' : ww) (n' : Nat), post v w' n' → AW X Y (pc + 3) lv (v.toList ++ rest) w' n' (cells + mc1) (slots + ms1)) : AW X Y pc lv st w n cells slots := by
  obtain ⟨y, bc, nl, rt⟩ := M
  obtain ⟨⟨hini, hcode, hdn, hml⟩, hlk, hins, hnm, hrn⟩ := hC
  have hrn : rt = none := hrn
  subst hrn
  have hml : nl ≤ 21 := hml
  intro H locs ls h1 h2 h3 h4 h5
  have hf := S.2.2.2.2.2.2.2.2.2.1
  have hlo := S.2.2.2.2.2.2.2.2.2.2.1
  refine a_run (va_runI (maxL := nl) (bytes := bc) (As := As) (rest := rest) ⟨S.1, S.2.1, S.2.2.1, S.2.2.2.1, S.2.2.2.2.1⟩ hM ⟨callB_of (ws' := kTs) As.length S.2.2.2.2.1 (kGood hcode) rfl rfl rfl (S.2.2.2.2.1 _ hini) (S.2.2.2.2.1 _ hlk) hdn ⟨by show d1 + 1 ≤ _; omega, by show 8 + (_ + 11) + 40 * d1 ≤ _; omega⟩, hnm, S.2.2.2.2.1 _ hins⟩ ⟨kPc.blind _ _ _ _, fun U hU hW => ⟨rfl, by rw [hU]; exact h1, by rw [hU]; exact h2, va_K.moved hW.alike S.2.2.2.2.2.1, S.2.2.2.2.2.2.1.moved hW⟩⟩ rfl rfl h5.1 hst (lv_room hW) hdg ⟨Nat.le_trans hc S.2.2.2.2.2.2.2.2.2.2.2.1, Nat.le_trans hs S.2.2.2.2.2.2.2.2.2.2.2.2⟩) S.2.2.2.2.2.2.2.2.1 h1 h3 h4 h5 kk
theorem a_callSN (S : FX X Y cc own d mc ms) {M : kM} {d1 mc1 ms1 idx : Nat} {host : String} {As rest : List Value} {post : Option Value → ww → Nat → Prop} (hC : kCSN own idx M As.length host) (hM : AM X.2.1 Y.1 M d1 mc1 ms1 As w n post) (hd : d1 + 1 ≤ d) (hc : cells + mc1 ≤ mc) (hs : slots + ms1 ≤ ms) (hst : st = As.reverse ++ rest) (hW : (rest.map fun v => v.category).sum ≤ 8) (hdg : decode cc pc = .ok (.invokestatic idx, 3)) (kk : ∀ (v : Option Value) (w' : ww) (n' : Nat), post v w' n' → AW X Y (pc + 3) lv (v.toList ++ rest) w' n' (cells + mc1) (slots + ms1)) : AW X Y pc lv st w n cells slots := by
  obtain ⟨⟨hini, hcode, hdn, hml⟩, hlk, hstt⟩ := hC
  intro H locs ls h1 h2 h3 h4 h5
  have hf := S.2.2.2.2.2.2.2.2.2.1
  have hlo := S.2.2.2.2.2.2.2.2.2.2.1
  refine a_run (va_runSN (As := As) (rest := rest) ⟨S.1, S.2.1, S.2.2.1, S.2.2.2.1, S.2.2.2.2.1⟩ hM ⟨va_cnB (ws' := kTs) As.length S.2.2.2.2.1 (kGood hcode) rfl rfl rfl (S.2.2.2.2.2.2.1.1 _ hlk) (S.2.2.2.2.1 _ hini) hdn ⟨by show d1 + 1 ≤ _; omega, by show 8 + (_ + 11) + 40 * d1 ≤ _; omega⟩, S.2.2.2.2.1 _ hstt, trivial⟩ ⟨kPc.blind _ _ _ _, fun U hU hW => ⟨rfl, by rw [hU]; exact h1, by rw [hU]; exact h2, va_K.moved hW.alike S.2.2.2.2.2.1, S.2.2.2.2.2.2.1.moved hW⟩⟩ rfl rfl h5.1 hst (lv_room hW) hdg ⟨Nat.le_trans hc S.2.2.2.2.2.2.2.2.2.2.2.1, Nat.le_trans hs S.2.2.2.2.2.2.2.2.2.2.2.2⟩) S.2.2.2.2.2.2.2.2.1 h1 h3 h4 h5 kk
theorem a_callVN (S : FX X Y cc own d mc ms) {M : kM} {d1 mc1 ms1 idx b ci : Nat} {host : String} {As rest : List Value} {post : Option Value → ww → Nat → Prop} (hC : kCVN own idx M As.length ci host) {fs : List Value} (hb : w b = some (.inr (ci, fs))) (hM : AM X.2.1 Y.1 M d1 mc1 ms1 (.ref b :: As) w n post) (hd : d1 + 1 ≤ d) (hc : cells + mc1 ≤ mc) (hs : slots + ms1 ≤ ms) (hst : st = As.reverse ++ .ref b :: rest) (hW : (rest.map fun v => v.category).sum ≤ 8) (hdg : decode cc pc = .ok (.invokevirtual idx, 3)) (kk : ∀ (v : Option Value) (w' : ww) (n' : Nat), post v w' n' → AW X Y (pc + 3) lv (v.toList ++ rest) w' n' (cells + mc1) (slots + ms1)) : AW X Y pc lv st w n cells slots := by
  obtain ⟨⟨hini, hcode, hdn, hml⟩, hlk, hins, hsel, r, hr⟩ := hC
  intro H locs ls h1 h2 h3 h4 h5
  have hf := S.2.2.2.2.2.2.2.2.2.1
  have hlo := S.2.2.2.2.2.2.2.2.2.2.1
  refine a_run (va_runVN (As := As) (rest := rest) ⟨S.1, S.2.1, S.2.2.1, S.2.2.2.1, S.2.2.2.2.1⟩ hM ⟨va_cnB (ws' := kTs) As.length S.2.2.2.2.1 (kGood hcode) rfl rfl rfl (S.2.2.2.2.2.2.1.1 _ hlk) (S.2.2.2.2.1 _ hini) hdn ⟨by show d1 + 1 ≤ _; omega, by show 8 + (_ + 11) + 40 * d1 ≤ _; omega⟩, S.2.2.2.2.1 _ hins, S.2.2.2.2.1 _ hsel⟩ ⟨kPc.blind _ _ _ _, va_recv S.2.2.2.2.2.1 (h2.one hb) hr (q0 := 0) rfl, fun U hU hW => ⟨rfl, by rw [hU]; exact h1, by rw [hU]; exact h2, va_K.moved hW.alike S.2.2.2.2.2.1, S.2.2.2.2.2.2.1.moved hW⟩⟩ rfl rfl h5.1 hst (lv_room hW) hdg ⟨Nat.le_trans hc S.2.2.2.2.2.2.2.2.2.2.2.1, Nat.le_trans hs S.2.2.2.2.2.2.2.2.2.2.2.2⟩) S.2.2.2.2.2.2.2.2.1 h1 h3 h4 h5 kk
theorem a_callIN (S : FX X Y cc own d mc ms) {M : kM} {d1 mc1 ms1 idx b : Nat} {host : String} {As rest : List Value} {post : Option Value → ww → Nat → Prop} (hC : kCIN own idx M As.length host) (hM : AM X.2.1 Y.1 M d1 mc1 ms1 (.ref b :: As) w n post) (hd : d1 + 1 ≤ d) (hc : cells + mc1 ≤ mc) (hs : slots + ms1 ≤ ms) (hst : st = As.reverse ++ .ref b :: rest) (hW : (rest.map fun v => v.category).sum ≤ 8) (hdg : decode cc pc = .ok (.invokespecial idx, 3)) (kk : ∀ (v : Option Value) (w' : ww) (n' : Nat), post v w' n' → AW X Y (pc + 3) lv (v.toList ++ rest) w' n' (cells + mc1) (slots + ms1)) : AW X Y pc lv st w n cells slots := by
  obtain ⟨y, bc, nl, rt⟩ := M
  obtain ⟨⟨hini, hcode, hdn, hml⟩, hlk, hins, hnm, hrn⟩ := hC
  have hrn : rt = none := hrn
  subst hrn
  have hml : nl ≤ 21 := hml
  intro H locs ls h1 h2 h3 h4 h5
  have hf := S.2.2.2.2.2.2.2.2.2.1
  have hlo := S.2.2.2.2.2.2.2.2.2.2.1
  refine a_run (va_runIN (maxL := nl) (bytes := bc) (As := As) (rest := rest) ⟨S.1, S.2.1, S.2.2.1, S.2.2.2.1, S.2.2.2.2.1⟩ hM ⟨va_cnB (ws' := kTs) As.length S.2.2.2.2.1 (kGood hcode) rfl rfl rfl (S.2.2.2.2.2.2.1.1 _ hlk) (S.2.2.2.2.1 _ hini) hdn ⟨by show d1 + 1 ≤ _; omega, by show 8 + (_ + 11) + 40 * d1 ≤ _; omega⟩, hnm, S.2.2.2.2.1 _ hins⟩ ⟨kPc.blind _ _ _ _, fun U hU hW => ⟨rfl, by rw [hU]; exact h1, by rw [hU]; exact h2, va_K.moved hW.alike S.2.2.2.2.2.1, S.2.2.2.2.2.2.1.moved hW⟩⟩ rfl rfl h5.1 hst (lv_room hW) hdg ⟨Nat.le_trans hc S.2.2.2.2.2.2.2.2.2.2.2.1, Nat.le_trans hs S.2.2.2.2.2.2.2.2.2.2.2.2⟩) S.2.2.2.2.2.2.2.2.1 h1 h3 h4 h5 kk
theorem a_mmin (S : FX X Y cc own d mc ms) {index : Nat} {x y : Int32} (h7 : Cond.methodLink own index Lib.Math.min.name ∈ kTs) (h8 : Cond.static Lib.Math.min.name ∈ kTs) (h9 : Cond.initialized "java/lang/Math" ∈ kTs) (h10 : Cond.code Lib.Math.min.name Lib.Math.min.code 2 (some .int) ∈ kTs) (hd : 1 ≤ d) (hc : cells ≤ mc) (hs : slots ≤ ms) (hW : (st.map fun v => v.category).sum ≤ 8) (hdg : decode cc pc = .ok (.invokestatic index, 3)) (kk : AW X Y (pc + 3) lv (.int (if y < x then y else x) :: st) w n cells slots) : AW X Y pc lv (.int y :: .int x :: st) w n cells slots := by
  intro H locs ls h1 h2 h3 h4 h5
  have hf := S.2.2.2.2.2.2.2.2.2.1
  have hlo := S.2.2.2.2.2.2.2.2.2.2.1
  exact va_mmin S.1 S.2.1 (S.2.2.1.trans h5.1.symm) S.2.2.2.1 (S.2.2.2.2.1 _ h7) (S.2.2.2.2.1 _ h8) (S.2.2.2.2.1 _ h9) (S.2.2.2.2.1 _ h10) (by omega) (by omega) (Nat.le_trans hc S.2.2.2.2.2.2.2.2.2.2.2.1) (Nat.le_trans hs S.2.2.2.2.2.2.2.2.2.2.2.2) hdg (kk H locs ls h1 h2 h3 h4 h5)
theorem a_mabsl (S : FX X Y cc own d mc ms) {index : Nat} {x : Int64} (h7 : Cond.methodLink own index Lib.MathLoose.abs_long.x ∈ kTs) (h8 : Cond.static Lib.MathLoose.abs_long.x ∈ kTs) (h9 : Cond.initialized "java/lang/Math" ∈ kTs) (h10 : Cond.code Lib.MathLoose.abs_long.x Lib.MathLoose.abs_long.code 2 (some .long) ∈ kTs) (hd : 1 ≤ d) (hc : cells ≤ mc) (hs : slots ≤ ms) (hW : (st.map fun v => v.category).sum ≤ 8) (hdg : decode cc pc = .ok (.invokestatic index, 3)) (kk : AW X Y (pc + 3) lv (.long (if 0 < x then x else -x) :: st) w n cells slots) : AW X Y pc lv (.long x :: st) w n cells slots := by
  intro H locs ls h1 h2 h3 h4 h5
  have hf := S.2.2.2.2.2.2.2.2.2.1
  have hlo := S.2.2.2.2.2.2.2.2.2.2.1
  exact va_mabs_long S.1 S.2.1 (S.2.2.1.trans h5.1.symm) S.2.2.2.1 (S.2.2.2.2.1 _ h7) (S.2.2.2.2.1 _ h8) (S.2.2.2.2.1 _ h9) (S.2.2.2.2.1 _ h10) (by omega) (by omega) (Nat.le_trans hc S.2.2.2.2.2.2.2.2.2.2.2.1) (Nat.le_trans hs S.2.2.2.2.2.2.2.2.2.2.2.2) hdg (kk H locs ls h1 h2 h3 h4 h5)
/-- System.arraycopy between two int arrays -/
theorem a_copyi (S : FX X Y cc own d mc ms) {index a0 n0 n1 sp dp k : Nat} {f g : Nat → Int32} {xs xd xk : Int32} (h7 : Cond.methodLink own index arraycopyName ∈ kTs) (h8 : Cond.native arraycopyName ∈ kTs) (h9 : Cond.static arraycopyName ∈ kTs) (h10 : Cond.initialized "java/lang/System" ∈ kTs) (he0 : w a0 = some (.inl (Y.1.2 0, n0, .inl f))) (he1 : w a = some (.inl (Y.1.2 0, n1, .inl g))) (hxs : xs = nI sp) (hxd : xd = nI dp) (hxk : xk = nI k) (b1 : sp + k ≤ n0) (b2 : dp + k ≤ n1) (b3 : n0 < 2 ^ 31) (b4 : n1 < 2 ^ 31) (hd : 1 ≤ d) (hW : (st.map fun v => v.category).sum ≤ 8) (hwd : nativeFrameWords "java/lang/System" "arraycopy" 5 ≤ 20) (hdg : decode cc pc = .ok (.invokestatic index, 3)) (kk : ∀ w' : ww, w' a = some (.inl (Y.1.2 0, n1, .inl (va_cpy f g sp dp k))) → (∀ b : Nat, b ≠ a → w' b = w b) → AW X Y (pc + 3) lv st w' n cells slots) : AW X Y pc lv (.int xk :: .int xd :: .ref a :: .int xs :: .ref a0 :: st) w n cells slots := by
  subst hxs; subst hxd; subst hxk
  intro H locs ls h1 h2 h3 h4 h5 T hT Xs
  have hf := S.2.2.2.2.2.2.2.2.2.1
  have hlo := S.2.2.2.2.2.2.2.2.2.2.1
  have c1 : (nI sp).toNatClampNeg = sp := nI_clamp (by omega)
  have c2 : (nI dp).toNatClampNeg = dp := nI_clamp (by omega)
  have c3 : (nI k).toNatClampNeg = k := nI_clamp (by omega)
  have t1 : (nI sp).toInt = (sp : Int) := nI_toInt (by omega)
  have t2 : (nI dp).toInt = (dp : Int) := nI_toInt (by omega)
  have t3 : (nI k).toInt = (k : Int) := nI_toInt (by omega)
  have hc0 : H[a0]? = some (vp_cell (Y.1.2 0) (n0, .inl f)) := h2 a0 _ he0
  have hc1 : H[a]? = some (vp_cell (Y.1.2 0) (n1, .inl g)) := h2 a _ he1
  obtain ⟨-, k0, hk0, cm0, hkk0⟩ := (S.2.2.2.2.2.1.2 0 _ rfl).1 n0 (fun j => .int (f j))
  obtain ⟨-, k1, hk1, cm1, hkk1⟩ := (S.2.2.2.2.2.1.2 0 _ rfl).1 n1 (fun j => .int (g j))
  obtain ⟨vm', X', step⟩ := Xs.arraycopy S.1 S.2.2.2.1 (S.2.2.2.2.1 _ h7) (S.2.2.2.2.1 _ h8) (S.2.2.2.2.1 _ h9) (S.2.2.2.2.1 _ h10) (src := a0) (dst := a) (cs := vp_cell (Y.1.2 0) (n0, .inl f)) (cd := vp_cell (Y.1.2 0) (n1, .inl g)) (srcPos := nI sp) (destPos := nI dp) (n := nI k) (by rw [hT]; exact hc0) (by rw [hT]; exact hc1)
    (fun _ h => by cases h) (fun _ h => by cases h) (fun h => by cases h) (fun h => by cases h) hk0 hk1 hkk0 hkk1 (by simp [refKind]) (nI_pos (by omega)) (nI_pos (by omega)) (nI_pos (by omega))
    (by rw [t1, t3]; show ¬ _ > ((arrV (Y.1.2 0) n0 (fun j => .int (f j))).slots.size : Int); rw [arrV_size]; omega)
    (by rw [t2, t3]; show ¬ _ > ((arrV (Y.1.2 0) n1 (fun j => .int (g j))).slots.size : Int); rw [arrV_size]; omega)
    (fun vm₁ _ i hi => by
      have e : (vp_cell (Y.1.2 0) (n0, .inl f)).slots.getD ((nI sp).toNatClampNeg + i) .null = .int (f (sp + i)) := by
        show (arrV (Y.1.2 0) n0 (fun j => .int (f j))).slots.getD _ _ = _
        rw [c3] at hi
        rw [c1, Array.getD_eq_getD_getElem?, arrV_read _ _ (by omega)]
        rfl
      refine ⟨?_, ?_⟩
      · rw [e]
        exact rfl
      · rw [e]
        exact trivial)
    (g := F0 X.2.2.2.2.2.1 pc ls (.int (nI k) :: .int (nI dp) :: .ref a :: .int (nI sp) :: .ref a0 :: st)) rfl (h5.1.trans S.2.2.1.symm) (rest := st) rfl (by rw [S.2.1]; exact hdg) (by omega) (by show 2 * 0 + _ + _ ≤ _; omega)
  have e1 : copied (vp_cell (Y.1.2 0) (n0, .inl f)) (vp_cell (Y.1.2 0) (n1, .inl g)) (nI sp) (nI dp) (nI k) = vp_cell (Y.1.2 0) (n1, .inl (va_cpy f g sp dp k)) := by
    have := va_copied (fun z => Value.int z) (Y.1.2 0) (Y.1.2 0) (n0 := n0) (n1 := n1) (sp := sp) (dp := dp) (n := k) f g b1
    unfold copied
    rw [c1, c2, c3]
    exact this
  rw [e1] at X' step
  have hl : a < H.size := (Array.getElem?_eq_some_iff.mp hc1).1
  have hheap : ((T.setVm vm').setCell a (vp_cell (Y.1.2 0) (n1, .inl (va_cpy f g sp dp k)))).heap = H.setIfInBounds a (vp_cell (Y.1.2 0) (n1, .inl (va_cpy f g sp dp k))) := by rw [← hT]; rfl
  have oq : ∀ q : Nat, q ≠ a → (H.setIfInBounds a (vp_cell (Y.1.2 0) (n1, .inl (va_cpy f g sp dp k))))[q]? = H[q]? := fun q hq => by simp [Array.getElem?_setIfInBounds, Ne.symm hq]
  have hAa : Y.2.1 a := h3 a (by rw [he1]; rfl)
  obtain ⟨t, q1, q2⟩ := kk (va_up w a (some _)) (va_up_self _ _ _) (fun b hb => va_up_ne _ _ hb) _ _ ls (by rw [Array.size_setIfInBounds]; exact h1) (h2.set (show (H.setIfInBounds a _)[a]? = some _ by simp [Array.getElem?_setIfInBounds, hl]) oq) (wA.set h3 hAa) ⟨by rw [Array.size_setIfInBounds]; exact h4.1, fun q g1 g2 => by
      rw [oq q (fun e => g2 (by rw [e]; exact hAa))]
      exact h4.2.1 q g1 g2, fun q hq => by
      rcases List.mem_append.mp hq with h | h
      · exact h4.2.2 q h
      · obtain ⟨z, -, hz⟩ := List.mem_map.mp h
        rw [← hz]
        exact hAa⟩ h5 _ hheap X'
  exact ⟨t, step t q1, q2⟩
end
/-- outside a stretch nothing has changed -/
def Fr (w w' : ww) (a L : Nat) : Prop := ∀ q : Nat, (q < a ∨ a + L ≤ q) → w' q = w q
theorem Fr.refl (w : ww) (a L : Nat) : Fr w w a L := fun _ _ => rfl
theorem Fr.trans {w w1 w2 : ww} {a L : Nat} (h1 : Fr w w1 a L) (h2 : Fr w1 w2 a L) : Fr w w2 a L := fun q hq => (h2 q hq).trans (h1 q hq)
theorem Fr.sub {w w' : ww} {a L b K : Nat} (h : Fr w w' a L) (h1 : b ≤ a) (h2 : a + L ≤ b + K) : Fr w w' b K := fun q hq => h q (by omega)
theorem Fr.cell {w w' : ww} {a L b : Nat} {e : va_E} (h : Fr w w' a L) (hb : w b = some e) (hd : b < a ∨ a + L ≤ b) : w' b = some e := (h b hd).trans hb
theorem Fr.of1 {w w' : ww} {a : Nat} (h : ∀ b : Nat, b ≠ a → w' b = w b) : Fr w w' a 1 := fun q hq => h q (by omega)
/-- sums of small numbers as ints -/
theorem ni_add {x y : Int32} {a b : Nat} (h1 : x = nI a) (h2 : y = nI b) : x + y = nI (a + b) := by rw [h1, h2, nI_add]
theorem ni_mul {x y : Int32} {a b : Nat} (h1 : x = nI a) (h2 : y = nI b) : x * y = nI (a * b) := by rw [h1, h2, pk_mul]
theorem ni_sub {x y : Int32} {a b : Nat} (h1 : x = nI a) (h2 : y = nI b) (h : b ≤ a) : x - y = nI (a - b) := by rw [h1, h2, pk_sub h]
