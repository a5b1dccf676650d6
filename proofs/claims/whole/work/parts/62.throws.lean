/-! throws: a method's rest as a run of its own; exceptions made and thrown; caught -/
theorem rebase {p : Program} {l : Launch} {e : Env} {R : Room} {s : State} {m : MethodId} {args : Array Value} {below : List Frame} {meth : Method} {c : Code} {T : State} {locs : List Loc} {cells slots k j : Nat}
    (X : Stand p l e R s m args below meth c T locs cells slots) (hc : cells + k ≤ R.cells) (hs : slots + j ≤ R.slots) :
    ∃ s' : State, s'.heap = T.heap ∧ s'.vm = T.vm ∧ Stand p l e { R with cells := k, slots := j } s' m args below meth c T [] 0 0 ∧
      ∀ U : State, s'.WarmedH U.vm → s'.sameButNew ({ U with vm := s'.vm } : State) [] k j → s.WarmedH U.vm ∧ s.sameButNew ({ U with vm := s.vm } : State) (locs ++ []) (cells + k) (slots + j) := by
  have hm := X.method'
  have hfr : (({ s with heap := T.heap, slotsUsed := T.slotsUsed } : State).setVm T.vm).frames = .invoking m args :: below := X.frames
  obtain ⟨q1, q2, q3, q4, q5, q6⟩ := X.same
  have hT : T = { ({ s with heap := T.heap, slotsUsed := T.slotsUsed } : State).setVm T.vm with threads := (s.setFrames T.frames).threads } := by
    have : T = (T.setVm s.vm).setVm T.vm := rfl
    rw [q1] at this
    exact this
  refine ⟨({ s with heap := T.heap, slotsUsed := T.slotsUsed } : State).setVm T.vm, rfl, rfl, ⟨X.admits, X.cas, X.clock, hfr, ?_, ?_, hm, X.code, X.here, X.tail, State.WarmedH.refl _, X.limits, X.bytes, ?_⟩, ?_⟩
  · have h0 := X.room
    have h1 := X.heapSize
    have h2 := X.used
    have h3 := X.book
    have e1 := State.localsInUse_invoking X.frames X.method X.code
    have e2 := State.localsInUse_invoking (s := ({ s with heap := T.heap, slotsUsed := T.slotsUsed } : State).setVm T.vm) hfr hm X.code
    unfold State.hasRoom at h0 ⊢
    simp only [Bool.and_eq_true, decide_eq_true_eq] at h0 ⊢
    obtain ⟨⟨⟨⟨r1, r2⟩, r3⟩, r4⟩, r5⟩ := h0
    rw [e1] at r1 r2
    rw [e2]
    refine ⟨⟨⟨⟨r1, ?_⟩, ?_⟩, ?_⟩, h3⟩
    · exact r2
    · show T.heap.size + k ≤ _
      omega
    · show T.slotsUsed + j ≤ _
      omega
  · have h0 := X.hears
    have ec : ∀ g : MethodId, (({ s with heap := T.heap, slotsUsed := T.slotsUsed } : State).setVm T.vm).code? g = s.code? g := fun g => by
      rw [State.code?_eq, State.code?_eq]
      show (T.vm.method? g).bind _ = _
      rw [X.warmed.alike.method?]
    have em : (({ s with heap := T.heap, slotsUsed := T.slotsUsed } : State).setVm T.vm).vm.method? m = s.vm.method? m := X.warmed.alike.method? _
    rw [← h0]
    cases below with
    | nil => simp only [State.hears, em]
    | cons f r => cases f <;> simp only [State.hears, ec, em]
  · have hd0 : T.heap.toList.drop T.heap.size = [] := List.drop_eq_nil_of_le (by rw [Array.length_toList]; exact Nat.le_refl _)
    exact ⟨hT, Nat.le_refl _, Nat.le_refl _, by show T.slotsUsed = T.slotsUsed + ((T.heap.toList.drop T.heap.size).map (fun c => c.slots.size)).sum; rw [hd0]; rfl, by show ((T.heap.toList.drop T.heap.size).map (fun c => c.slots.size)).sum ≤ 0; rw [hd0]; exact Nat.le_refl _, fun a c h => ⟨c, h, rfl, rfl, fun _ _ => rfl⟩⟩
  · intro U hW hU
    have hW' : T.WarmedH U.vm := hW
    have hT2 : T = (({ s with heap := T.heap, slotsUsed := T.slotsUsed } : State).setVm T.vm).setFrames T.frames := hT
    have hB : T.sameButNew ({ U with vm := T.vm } : State) [] k j := by
      obtain ⟨g1, g2⟩ := hU
      refine ⟨?_, g2⟩
      rw [hT2, State.setFrames_setFrames, ← hT2]
      exact g1
    exact ⟨State.WarmedH.trans X.warmed hW', X.same.trans (hB.setVm s.vm)⟩

/-- what throwing stands on: Throwable's two statics, the messages, what is no kind of what -/
def kTx : List (Nat × String) := [(63, "no such kind or flags"), (76, "the schema takes no field more"), (140, "the schema is open"), (170, "no tuple has this key"), (175, "the schema is open, or no tuple more can be kept")]
def kNo (U : State) (a b : String) : Prop := ∃ c1 c2, U.vm.findClass a = some c1 ∧ U.vm.findClass b = some c2 ∧ U.vm.assignable c1 c2 = false
theorem kNo.at_ {s U : State} {a b : String} (h : kNo s a b) (hW : s.WarmedH U.vm) : kNo U a b := by
  obtain ⟨c1, c2, h1, h2, h3⟩ := h
  exact ⟨c1, c2, by rw [hW.alike.findClass]; exact h1, by rw [hW.alike.findClass]; exact h2, by rw [hW.alike.assignable]; exact h3⟩
theorem kNo.of_ {s : State} {args : Array Value} {a b : String} (hno : (Cond.not (.castable a b)).before args s = true) : kNo s a b := by
  have hv := Cond.holds_not_iff.mp hno
  simp only [Cond.value] at hv
  cases h1 : s.vm.findClass a with
  | none => simp [h1] at hv
  | some c1 =>
    cases h2 : s.vm.findClass b with
    | none => simp [h1, h2] at hv
    | some c2 =>
      simp only [h1, h2] at hv
      exact ⟨c1, c2, by first | rfl | exact h1, by first | rfl | exact h2, Option.some.inj hv⟩
def kDc (U : State) (x : MethodName) : Prop := ∃ m meth, U.methodNamed? x = some m ∧ U.vm.method? m = some meth ∧ meth.isStatic = false ∧ parseMethodDescriptor x.desc = some meth.sig
theorem kDc.at_ {s U : State} {x : MethodName} (h : kDc s x) (hW : s.WarmedH U.vm) : kDc U x := by
  obtain ⟨m, meth, h1, h2, h3, h4⟩ := h
  refine ⟨m, meth, ?_, by rw [hW.alike.method?]; exact h2, h3, h4⟩
  show (s.setVm U.vm).methodNamed? x = some m
  rw [State.methodNamed?_setVm hW.alike]
  exact h1
theorem kDc.wd {U : State} {x : MethodName} {args : Array Value} (h : kDc U x) : (Cond.declares x).before args U = true := by
  obtain ⟨m, meth, h1, h2, h3, h4⟩ := h
  simp [Cond.before, Cond.holds, Cond.value, h1, h2, h3, h4]
def kLs (U : State) (A : Nat → Prop) (nm d : String) : Prop := ∃ c k i f a cell, U.vm.findClass "java/lang/Throwable" = some c ∧ U.fieldFound? "java/lang/Throwable" nm d = some (c, k, i, f) ∧ f.isStatic = true ∧ k.statics = some a ∧ U.heap[a]? = some cell ∧ cell.vm.isStatics = true ∧ cell.cls = c ∧ f.slot < cell.slots.size ∧ k.staticTypes[f.slot]? = some f.type ∧ ¬ A a
theorem kLs.at_ {s U : State} {A B : Nat → Prop} {nm d : String} (h : kLs s A nm d) (hW : s.WarmedH U.vm) (hk : ∀ q : Nat, q < s.heap.size → ¬ A q → U.heap[q]? = s.heap[q]?) (hAB : ∀ q, B q → A q) : kLs U B nm d := by
  obtain ⟨c, k, i, f, a, cell, h1, h2, h3, h4, h5, h6, h7, h8, h9, h10⟩ := h
  obtain ⟨k', hk', he⟩ := State.fieldFound?_setVm hW.alike h2
  exact ⟨c, k', i, f, a, cell, by rw [hW.alike.findClass]; exact h1, hk', h3, by rw [he]; exact h4, by rw [hk a (Array.getElem?_eq_some_iff.mp h5).1 h10]; exact h5, h6, h7, h8, by rw [he]; exact h9, fun z => h10 (hAB a z)⟩
theorem kLs.wd {U : State} {A : Nat → Prop} {nm d : String} {args : Array Value} (h : kLs U A nm d) : (Cond.laysStatic "java/lang/Throwable" nm d).before args U = true := by
  obtain ⟨c, k, i, f, a, cell, h1, h2, h3, h4, h5, h6, h7, h8, h9, h10⟩ := h
  simp [Cond.before, Cond.holds, Cond.value, h1, h2, h3, h4, h5, h6, h7, h8, h9]
def kCa (U : State) (x : String) : Prop := ∃ c, U.vm.findClass x = some c ∧ U.vm.assignable c c = true
theorem kCa.at_ {s U : State} {x : String} (h : kCa s x) (hW : s.WarmedH U.vm) : kCa U x := by
  obtain ⟨c, h1, h2⟩ := h
  exact ⟨c, by rw [hW.alike.findClass]; exact h1, by rw [hW.alike.assignable]; exact h2⟩
theorem kCa.wd {U : State} {x : String} {args : Array Value} (h : kCa U x) : (Cond.castable x x).before args U = true := by
  obtain ⟨c, h1, h2⟩ := h
  simp [Cond.before, Cond.holds, Cond.value, h1, h2]
def kIn : List MethodName := [⟨"java/lang/RuntimeException", "<init>", "(Ljava/lang/String;)V"⟩, ⟨"java/lang/Exception", "<init>", "(Ljava/lang/String;)V"⟩, ⟨"java/lang/Throwable", "<init>", "(Ljava/lang/String;)V"⟩]
def kS (U : State) (A : Nat → Prop) : Prop := (∃ u : RefV, va_Z "java/lang/Throwable" "UNASSIGNED_STACK" "[Ljava/lang/StackTraceElement;" u.v A U U.heap) ∧ (∃ u : RefV, va_Z "java/lang/Throwable" "SUPPRESSED_SENTINEL" "Ljava/util/List;" u.v A U U.heap) ∧ (∀ q ∈ kTx, ∃ a, vk_R "KeyCodec" q.1 q.2 a U) ∧ kNo U "java/lang/IllegalStateException" "java/lang/IllegalArgumentException" ∧ kNo U "java/lang/IllegalArgumentException" "java/lang/IllegalStateException" ∧ kLs U A "UNASSIGNED_STACK" "[Ljava/lang/StackTraceElement;" ∧ kLs U A "SUPPRESSED_SENTINEL" "Ljava/util/List;" ∧ (∀ x ∈ kIn, kDc U x) ∧ kCa U "java/lang/IllegalArgumentException" ∧ kCa U "java/lang/IllegalStateException"
theorem kS.at_ {s U : State} {A B : Nat → Prop} (h : kS s A) (hW : s.WarmedH U.vm) (hk : ∀ q : Nat, q < s.heap.size → ¬ A q → U.heap[q]? = s.heap[q]?) (hAB : ∀ q, B q → A q) : kS U B := by
  obtain ⟨⟨u1, h1⟩, ⟨u2, h2⟩, h3, h4, h5, h6, h7, h8, h9, h10⟩ := h
  exact ⟨⟨u1, ((h1.moved hW.alike).kept hk).narrow hAB⟩, ⟨u2, ((h2.moved hW.alike).kept hk).narrow hAB⟩, fun q hq => let ⟨a, ha⟩ := h3 q hq; ⟨a, ha.warm hW⟩, h4.at_ hW, h5.at_ hW, h6.at_ hW hk hAB, h7.at_ hW hk hAB, fun x hx => (h8 x hx).at_ hW, h9.at_ hW, h10.at_ hW⟩
def kOw : List Cond := [.laysStatic "java/lang/Throwable" "UNASSIGNED_STACK" "[Ljava/lang/StackTraceElement;", .laysStatic "java/lang/Throwable" "SUPPRESSED_SENTINEL" "Ljava/util/List;", .declares ⟨"java/lang/RuntimeException", "<init>", "(Ljava/lang/String;)V"⟩, .declares ⟨"java/lang/Exception", "<init>", "(Ljava/lang/String;)V"⟩, .declares ⟨"java/lang/Throwable", "<init>", "(Ljava/lang/String;)V"⟩, .castable "java/lang/IllegalArgumentException" "java/lang/IllegalArgumentException", .castable "java/lang/IllegalStateException" "java/lang/IllegalStateException"]
theorem kS.ow {U : State} {A : Nat → Prop} {args : Array Value} (h : kS U A) : ∀ a ∈ kOw, a.before args U = true := by
  obtain ⟨-, -, -, -, -, h6, h7, h8, h9, h10⟩ := h
  exact List.forall_mem_cons.mpr ⟨h6.wd, List.forall_mem_cons.mpr ⟨h7.wd, List.forall_mem_cons.mpr ⟨(h8 _ (by simp [kIn])).wd, List.forall_mem_cons.mpr ⟨(h8 _ (by simp [kIn])).wd, List.forall_mem_cons.mpr ⟨(h8 _ (by simp [kIn])).wd, List.forall_mem_cons.mpr ⟨h9.wd, List.forall_mem_cons.mpr ⟨h10.wd, fun _ h => absurd h List.not_mem_nil⟩⟩⟩⟩⟩⟩⟩
theorem kS.ref {C n d : String} {u : RefV} {A : Nat → Prop} {U : State} {args : Array Value} (h : va_Z C n d u.v A U U.heap) : (Cond.isRef (.static C n d)).before args U = true := by
  obtain ⟨cf, kf, fi, f, a, cell, h1, h2, h3, h4, h5, h6, h7, h8⟩ := h
  obtain ⟨v, ok⟩ := u
  have hev : (Term.static C n d).eval args U none [] U = some v := by simp [Term.eval, State.fieldNamed?, h1, h2, h4, h5, h6, h7]
  simp only [Cond.before, Cond.holds, Cond.value, hev, Option.map_some]
  cases v <;> first | rfl | cases ok
theorem wP.stat {D : kD} {w : ww} {H : Heap} {n q : Nat} {cell : Cell} (h : wP D w H) (hn : H.size = n) (hq : kA w n q) (hc : H[q]? = some cell) : cell.vm.isStatics = false := by
  rcases hq with hq | hq
  · obtain ⟨e, he⟩ := Option.isSome_iff_exists.mp hq
    have := h q e he
    rcases e with ⟨cA, N, f | f | f | f | f⟩ | ⟨ci, fs⟩
    · cases (show H[q]? = some _ from this).symm.trans hc; rfl
    · cases (show H[q]? = some _ from this).symm.trans hc; rfl
    · cases (show H[q]? = some _ from this).symm.trans hc; rfl
    · cases (show H[q]? = some _ from this).symm.trans hc; rfl
    · cases (show H[q]? = some _ from this).symm.trans hc; rfl
    · obtain ⟨r, e1, cell', q1, q2, q3, q4⟩ := this
      cases q1.symm.trans hc
      rw [q3]; rfl
  · have := (Array.getElem?_eq_some_iff.mp hc).1
    omega
def kPcT (D : kD) (av : List Value) (w : ww) (n : Nat) : Array Value → State → Prop := fun v U => kPc D av w n v U ∧ kS U (kA w n)
theorem kPcT.blind (D : kD) (av : List Value) (w : ww) (n : Nat) : FrameBlind (kPcT D av w n) := fun a U g mk h => ⟨kPc.blind D av w n a U g mk h.1, h.2.at_ (U := U.calling g mk a) (State.WarmedH.refl U) (fun _ _ _ => rfl) (fun _ z => z)⟩
def kTQ (D : kD) (w : ww) (n : Nat) (cls : String) (post : ww → Nat → Prop) : Array Value → State → Outcome → State → Prop := fun _ st oc t => (∃ (x : Addr) (w' : ww) (n' : Nat), oc = .threw x ∧ post w' n' ∧ t.heap.size = n' ∧ wP D w' t.heap ∧ (∀ a : Nat, (w' a).isSome = true → kA w n a) ∧ ∃ ce : Cell, t.heap[x]? = some ce ∧ ce.vm.isStatics = false ∧ st.vm.findClass cls = some ce.cls) ∧ va_F (kA w n) st t
/-- the end of a method that threw: nothing has moved but frames, the places L, and at most k new cells of n slots -/
def kFT (first : State) (o : Outcome) (t : State) (L : List Loc) (k n : Nat) : Prop := (∃ x, o = .threw x) ∧ first.WarmedH t.vm ∧ first.sameButNew ({ t with vm := first.vm } : State) L k n
def MQT (below : List Frame) (Qc : Array Value → State → Outcome → State → Prop) (a : Array Value) (s : State) (mc ms : Nat) (free : Addr → Prop) : State → Prop := fun t =>
  ∃ o, t.status = .running ∧ Ended t below o ∧ Qc a s o t ∧ ∃ L, kFT s o t L mc ms ∧ ∀ q ∈ L, free q.base
/-- a contract of a method that throws -/
def AT (l : Launch) (D : kD) (M : kM) (d mc ms : Nat) (av : List Value) (w : ww) (n : Nat) (cls : String) (post : ww → Nat → Prop) : Prop :=
  MetFree l M.1 (headSpec (.code M.1 M.2.1 M.2.2.1 M.2.2.2 :: kTs) { frames := d, cells := mc, slots := ms, locals := 40 * d }) (kPcT D av w n) (fun _ _ _ _ _ => True) (fun a st o t => kTQ D w n cls post a st o t ∧ ∃ L, kFT st o t L mc ms ∧ ∀ q ∈ L, kA w n q.base)
def FT (X : MX) (Y : kY) (w0 : ww) (n0 : Nat) (cls : String) (post : ww → Nat → Prop) (mc ms : Nat) : Prop :=
  kS X.2.2.2.2.1 Y.2.1 ∧ X.2.2.1.platform.stackTraces = false ∧ X.2.2.2.2.2.2.2.2.2.exceptionTable.isEmpty = true ∧ Y.2.2.2 = MQT X.2.2.2.2.2.2.2.1 (kTQ Y.1 w0 n0 cls post) X.2.2.2.2.2.2.1 X.2.2.2.2.1 mc ms (kA w0 n0) ∧ Y.2.1 = kA w0 n0
theorem AT.of_ {l : Launch} {D : kD} {M : kM} {d mc ms : Nat} {av : List Value} {w : ww} {n : Nat} {cls : String} {post : ww → Nat → Prop} (hf : l.flags = pinnedFlags ++ [noTraceFlag]) (hy : plainName M.1.cls = true) (hlen : (lg_sl av).length ≤ M.2.2.1)
    (body : ∀ (X : MX) (A : Nat → Prop) (Q : State → Prop), FX X (D, A, M.2.2.1, Q) M.2.1 M.1.cls d mc ms → FT X (D, A, M.2.2.1, Q) w n cls post mc ms → AW X (D, A, M.2.2.1, Q) 0 (lv_args 0 av) [] w n 0 0) : AT l D M d mc ms av w n cls post := by
  obtain ⟨y, cc, nL, ret⟩ := M
  refine MetFree.of_bodyS (code := cc) (maxLocals := nL) (ret := ret) hy ?_ ?_
  · intro args s m h hn
    obtain ⟨meth, c, h1, h2, h3, h4, h5, h6, -, -⟩ := Cond.code_spec hn (atoms_spec (ws := Cond.code y cc nL ret :: kTs) h _ List.mem_cons_self)
    exact ⟨meth, c, h1, h2, h3, h4, h5, h6⟩
  · intro p e s m args below meth c s₁ B hml hP _
    obtain ⟨⟨rfl, hn, hP, hK, hN⟩, hS⟩ := hP
    have hts := atoms_spec (ws := Cond.code y cc nL ret :: kTs) B.pre
    have hl := lv_entry av (n := nL) hlen
    have hh0 : s₁.heap = s.heap := by rw [B.state]; rfl
    have K := body (p, l, e, (headSpec (Cond.code y cc nL ret :: kTs) { frames := d, cells := mc, slots := ms, locals := 40 * d }).room, s, m, av.toArray, below, meth, c) (kA w n) (MQT below (kTQ D w n cls post) av.toArray s mc ms (kA w n)) ⟨B.exec, B.bytes, hml, findClass_of_methodNamed B.named, fun z hz => hts z (List.mem_cons_of_mem _ hz), hK, hN, B.notSynchronized, fun q hq => Or.inr (by rw [← hn]; exact hq), Nat.le_refl _, Nat.le_refl _, Nat.le_refl _, Nat.le_refl _⟩ ⟨hS, Launch.traces_off hf B.admits, B.noHandlers (hts _ List.mem_cons_self), rfl, rfl⟩ s.heap [] _ hn hP (fun a ha => Or.inl ha) va_S.rf hl
    rw [← lg_entry_eq] at K
    obtain ⟨t, a1, o, b1, b2, b3⟩ := K s₁ hh0 (Stand.of_body B)
    exact ⟨t, o, a1, b1, b2, b3⟩

theorem same0 {s U : State} {k j : Nat} (h : s.sameButNew U [] k j) {q : Nat} (hq : q < s.heap.size) : U.heap[q]? = s.heap[q]? := by
  obtain ⟨c', h1, h2, h3, h4⟩ := h.2.2.2.2.2 q _ (Array.getElem?_eq_getElem hq)
  rw [h1, Array.getElem?_eq_getElem hq]
  have h5 : c'.slots = (s.heap[q]).slots := Array.ext_getElem? (fun i => h4 i (by simp))
  rw [h2, h5]
theorem a_throw {X : MX} {Y : kY} {cc : ByteArray} {own : String} {d mc ms pc n cells slots : Nat} {lv : List (Nat × Value)} {w : ww} (S : FX X Y cc own d mc ms) {w0 : ww} {n0 : Nat} {cls : String} {post : ww → Nat → Prop} (Z : FT X Y w0 n0 cls post mc ms) {names : List String} {ix sx ic : Nat} {tx : String} (ho : own = "KeyCodec") (hcls : Bundle.fit cls = true) (hnames : ∀ n ∈ names, Bundle.fit n = true)
    (hat : ∀ a ∈ Bundle.ownAtoms own ic cls names, a ∈ kTs ∨ a ∈ kOw ∨ a = .isRef (.static "java/lang/Throwable" "UNASSIGNED_STACK" "[Ljava/lang/StackTraceElement;") ∨ a = .isRef (.static "java/lang/Throwable" "SUPPRESSED_SENTINEL" "Ljava/util/List;"))
    (hcl : Cond.classLink own ix cls ∈ kTs) (hin : Cond.instantiable cls 6 ∈ kTs) (hini : Cond.initialized cls ∈ kTs) (htx : (sx, tx) ∈ kTx) (hd : names.length + 4 ≤ d) (hc : cells + 1 ≤ mc) (hs : slots + 6 ≤ ms)
    (d0 : decode cc pc = .ok (.new ix, 3)) (d3 : decode cc (pc + 3) = .ok (.dup, 1)) (d4 : decode cc (pc + 3 + 1) = .ok (.ldc sx, 2)) (d6 : decode cc (pc + 3 + 1 + 2) = .ok (.invokespecial ic, 3)) (d9 : decode cc (pc + 3 + 1 + 2 + 3) = .ok (.athrow, 1))
    (hpost : post w (n + 1)) : AW X Y pc lv [] w n cells slots := by
  subst ho
  obtain ⟨hS, htr, hno, hQ, hA⟩ := Z
  intro H locs ls h1 h2 h3 h4 h5 T hT Xs
  have hf := S.2.2.2.2.2.2.2.2.2.1
  have hlo := S.2.2.2.2.2.2.2.2.2.2.1
  have hW : X.2.2.2.2.1.WarmedH T.vm := Xs.warmed
  obtain ⟨s', e1, e2, X', back⟩ := rebase Xs (k := 1) (j := 6) (Nat.le_trans hc S.2.2.2.2.2.2.2.2.2.2.2.1) (Nat.le_trans hs S.2.2.2.2.2.2.2.2.2.2.2.2)
  have hW' : X.2.2.2.2.1.WarmedH s'.vm := by rw [e2]; exact hW
  have hts : ∀ z ∈ kTs, z.before X.2.2.2.2.2.2.1 s' = true := fun z hz => word_at hW' (good_of_word (List.mem_filter.mp hz).2) (S.2.2.2.2.1 z hz)
  have hown : s'.vm.findClass "KeyCodec" = some X.2.2.2.2.2.1.cls := by rw [hW'.alike.findClass]; exact S.2.2.2.1
  have hS' : kS s' Y.2.1 := hS.at_ hW' (fun q g1 g2 => by rw [e1, hT]; exact h4.2.1 q g1 g2) (fun _ z => z)
  have hsz : s'.heap.size = n := by rw [e1, hT]; exact h1
  obtain ⟨cX, kX, hfc, hkX, -⟩ := Cond.instantiable_spec (hts _ hin)
  obtain ⟨sa, hsa⟩ := hS'.2.2.1 _ htx
  have hlocks := S.2.2.2.2.2.2.2.1
  have K : W X.1 X.2.1 X.2.2.1 { X.2.2.2.1 with cells := 1, slots := 6 } s' X.2.2.2.2.2.1 X.2.2.2.2.2.2.1 X.2.2.2.2.2.2.2.1 X.2.2.2.2.2.2.2.2.1 X.2.2.2.2.2.2.2.2.2 H [] 0 0 Y.2.2.2 (F0 X.2.2.2.2.2.1 pc ls []) := by
    refine W.newcK S.1 S.2.1 hown (hts _ hcl) (hts _ hin) (hts _ hini) rfl d0 (Nat.le_refl 1) (Nat.le_refl 6) hfc h1 fun H1 kC hkC c1 z1 o1 => ?_
    refine lv_dup S.1 S.2.1 d3 rfl ?_
    refine va_ldcS S.1 S.2.1 hown hsa d4 ?_
    intro T2 hT2 X2
    obtain ⟨U, st, q1, q2, q3, q4, ce, hce, hO⟩ := X2.ctorThrowS S.1 htr hown hcls hnames (fun a ha => by
        rcases hat a ha with h | h | rfl | rfl
        · exact hts _ h
        · exact hS'.ow _ h
        · exact kS.ref hS'.1.choose_spec
        · exact kS.ref hS'.2.1.choose_spec) (fun x hx => by cases hx) hfc hkC (by rw [hT2]; exact c1) (Nat.le_of_eq hsz) (msg := .ref sa) rfl (g := F0 X.2.2.2.2.2.1 (pc + 3 + 1 + 2) ls [.ref sa, .ref n, .ref n]) rfl (h5.1.trans S.2.2.1.symm) rfl rfl (rest := []) rfl (by rw [S.2.1]; exact d6) (by rw [S.2.1]; exact d9) (fun x hx => by
        have h := hno
        rw [Array.isEmpty_iff] at h
        rw [h] at hx
        cases hx) (by show names.length + 3 < X.2.2.2.1.frames; omega) (by show 2 * 0 + 1 + _ ≤ X.2.2.2.1.locals; omega) hlocks
    refine ⟨U, st, ?_⟩
    have hn' : ∀ q : Nat, q < n → U.heap[q]? = H[q]? := fun q hq => by
      have := same0 q4 (q := q) (by rw [hsz]; exact hq)
      rw [e1, hT] at this
      exact this
    obtain ⟨g1, g2⟩ := back U q3 q4
    have hszU : U.heap.size = n + 1 := by
      have a1 := q4.2.2.1
      have a2 := (Array.getElem?_eq_some_iff.mp hce).1
      rw [hsz] at a1
      have a3 : U.heap.size ≤ n + 1 := a1
      omega
    rw [hQ]
    refine ⟨.threw n, q1, q2, ⟨⟨n, w, n + 1, rfl, hpost, hszU, fun a e he => (h2 a e he).kept (hn' a (h1 ▸ (h2 a e he).lt)), fun a ha => by rw [← hA]; exact h3 a ha, ce, hce, by rw [hO.vm]; rfl, by rw [← hW'.alike.findClass]; exact hO.cls⟩, ?_, fun q g1 g2 => ?_⟩, locs, ⟨⟨n, rfl⟩, g1, ?_⟩, fun q hq => by rw [← hA]; exact h4.2.2 q hq⟩
    · rw [hszU, ← h1]; exact Nat.le_succ_of_le h4.1
    · rw [hn' q (by rw [← h1]; exact Nat.lt_of_lt_of_le g1 h4.1)]; exact h4.2.1 q g1 (by rw [hA]; exact g2)
    · rw [List.append_nil] at g2
      obtain ⟨r1, r2, r3, r4, r5, r6⟩ := g2
      exact ⟨r1, r2, Nat.le_trans r3 (by omega), r4, Nat.le_trans r5 hs, r6⟩
  exact K T hT X'
