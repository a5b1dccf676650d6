/-! calls that throw and are caught; methods with a table of handlers -/
/-- what the search for a handler gives, and the tables that it leaves -/
def kFd (e : Env) (s : State) (f : JFrame) (a : Addr) (h : Handler) (vm' : Vm) : Prop := ∀ (Q : Handler → Pre) (E : CtlPost) (d : Bool) (acts : List Action), wp (findHandler f a) Q E e d acts s ↔ Q h d acts (s.setVm vm')
/-- one entry of the table, its class linked or not yet -/
theorem fh_row {Q : Handler → Pre} {E : CtlPost} {e : Env} {d : Bool} {acts : List Action} {s : State} {f : JFrame} {a : Addr} {x : ExceptionTableEntry} {t : List ExceptionTableEntry} {c : ClassId} {cell : Cell} (hx : covers x f.pc = true) (h0 : x.catchType ≠ 0) (hl : s.vm.ClassLinks e.platform f.method.cls x.catchType c) (hcell : s.heap[a]? = some cell) (hobj : ∀ k, cell.vm ≠ .statics k) (hk : ∃ k, s.vm.classes[cell.cls]? = some k) :
    wp (findHandler.go f a (x :: t)) Q E e d acts s ↔ if s.vm.assignable cell.cls c = true then Q (.found x.handlerPc) d acts (s.setVm (s.vm.noted f.method.cls x.catchType (.cls c))) else wp (findHandler.go f a t) Q E e d acts (s.setVm (s.vm.noted f.method.cls x.catchType (.cls c))) := by
  have hx : (decide (x.startPc ≤ f.pc) && decide (f.pc < x.endPc)) = true := hx
  obtain ⟨g1, g2⟩ := (resolveClass_links e.toSetting hl).op (op := VmOp.resolveClass f.method.cls x.catchType) rfl
  have hal : s.vm.Alike (s.vm.noted f.method.cls x.catchType (.cls c)) := (Vm.Alike.refl s.vm).noted _ _ _
  obtain ⟨dk, cf, nm, kc, -, -, -, -, -, hkc, -, -⟩ := hl.here
  obtain ⟨k1, hk1⟩ := hk
  obtain ⟨n1, m1, -⟩ := hal.2.2 _ _ hk1
  obtain ⟨n2, m2, -⟩ := hal.2.2 _ _ hkc
  have ha : (s.vm.noted f.method.cls x.catchType (.cls c)).assignable cell.cls c = s.vm.assignable cell.cls c := hal.assignable _ _
  cases hfit : s.vm.assignable cell.cls c with
  | true =>
    rw [hfit] at ha
    simp [findHandler.go, hx, h0, g1, g2, hcell, hobj, m1, m2, ha, VmOp.dirties, VmOp.acts]
  | false =>
    rw [hfit] at ha
    simp [findHandler.go, hx, h0, g1, g2, hcell, hobj, m1, m2, ha, VmOp.dirties, VmOp.acts]
theorem fh_all {e : Env} {s₀ : State} {f : JFrame} {a : Addr} {cell : Cell} (hobj : ∀ k, cell.vm ≠ .statics k) (hk0 : ∃ k, s₀.vm.classes[cell.cls]? = some k) {x : ExceptionTableEntry} {rst : List ExceptionTableEntry} (hx : covers x f.pc = true) (hx0 : x.catchType ≠ 0) {cx : ClassId} (hl : s₀.vm.ClassLinks e.platform f.method.cls x.catchType cx) (hfit : s₀.vm.assignable cell.cls cx = true) :
    ∀ (pre : List ExceptionTableEntry) (V : State), s₀.WarmedH V.vm → V.heap[a]? = some cell → (∀ y ∈ pre, covers y f.pc = true ∧ y.catchType ≠ 0 ∧ ∃ c, s₀.vm.ClassLinks e.platform f.method.cls y.catchType c ∧ s₀.vm.assignable cell.cls c = false) →
      ∃ vm', s₀.WarmedH vm' ∧ ∀ (Q : Handler → Pre) (E : CtlPost) (d : Bool) (acts : List Action), wp (findHandler.go f a (pre ++ x :: rst)) Q E e d acts V ↔ Q (.found x.handlerPc) d acts (V.setVm vm')
  | [], V, hW, hcell, _ => by
    obtain ⟨k, hk⟩ := hk0
    obtain ⟨k', hk', -⟩ := hW.alike.2.2 _ _ hk
    obtain ⟨dk, _, _, _, hd, _, _, _, _, _, _, hop⟩ := hl.here
    refine ⟨_, hW.noted hd hop (State.rightAt_cls hl), fun Q E d acts => ?_⟩
    rw [List.nil_append, fh_row hx hx0 (hW.classLinks hl) hcell hobj ⟨k', hk'⟩, if_pos (by rw [hW.alike.assignable]; exact hfit)]
  | y :: ys, V, hW, hcell, hp => by
    obtain ⟨y1, y2, c, y3, y4⟩ := hp y List.mem_cons_self
    obtain ⟨k, hk⟩ := hk0
    obtain ⟨k', hk', -⟩ := hW.alike.2.2 _ _ hk
    obtain ⟨dk, _, _, _, hd, _, _, _, _, _, _, hop⟩ := y3.here
    obtain ⟨vm', g1, g2⟩ := fh_all hobj ⟨k, hk⟩ hx hx0 hl hfit ys (V.setVm (V.vm.noted f.method.cls y.catchType (.cls c))) (hW.noted hd hop (State.rightAt_cls y3)) hcell (fun z hz => hp z (List.mem_cons_of_mem _ hz))
    refine ⟨vm', g1, fun Q E d acts => ?_⟩
    rw [List.cons_append, fh_row y1 y2 (hW.classLinks y3) hcell hobj ⟨k', hk'⟩, if_neg (by rw [hW.alike.assignable, y4]; decide)]
    exact g2 Q E d acts
/-- the note 'thrown' over a frame that catches: on at the handler -/
theorem fh_go {tb : Tables} {e : Env} {s target : State} {g : JFrame} {c : Code} {below : List Frame} {a : Addr} (h : At s g.method c below) {pc : Nat} {vm' : Vm} (hfind : kFd e ((s.setTop g).pushFrame (.throwing a)) g a (.found pc) vm') (hrest : Steps tb e below ((s.setVm vm').setTop { g with pc := pc, stack := [.ref a] }) target) : Steps tb e below ((s.setTop g).pushFrame (.throwing a)) target := by
  obtain ⟨hgo, hw⟩ := h.throwing a
  refine Steps.head hgo hw ?_
  obtain ⟨g₀, hg⟩ := Option.isSome_iff_exists.mp h.top
  obtain ⟨r, hr⟩ := State.topJava?_eq_some.mp hg
  have hS : (stepThrowing e ((s.setTop g).pushFrame (.throwing a)) a (.java g :: s.frames.tail)).1 = (((s.setTop g).pushFrame (.throwing a)).setVm vm').setFrames (.java { g with pc := pc, stack := [.ref a] } :: s.frames.tail) := by
    simp only [stepThrowing, searchFrame, vmDo]
    generalize hres : Sem.go _ e false [] ((s.setTop g).pushFrame (.throwing a)) = res
    obtain ⟨as, rfl, -⟩ := Sem.eq_ok_of hres (a := Handler.found pc) (s' := ((s.setTop g).pushFrame (.throwing a)).setVm vm') (acts' := []) (by simp [hfind _ _ _ _])
    rfl
  rw [stepThread_throwing (frames_entered h.top _), hS]
  have hr' : (s.setVm vm').frames = .java g₀ :: r := hr
  have e0 : ((s.setTop g).pushFrame (.throwing a)).setVm vm' = ((s.setVm vm').setTop g).pushFrame (.throwing a) := rfl
  rw [State.setTop_of_frames _ hr'] at hrest
  rw [e0, State.pushFrame, State.setFrames_setFrames, State.setTop_of_frames _ hr', State.setFrames_setFrames, hr]
  exact hrest
theorem a_callVT {X : MX} {Y : kY} {cc : ByteArray} {own : String} {d mc ms pc n cells slots : Nat} {lv : List (Nat × Value)} {st : List Value} {w : ww} (S : FX X Y cc own d mc ms) (Z : kS X.2.2.2.2.1 Y.2.1) {M : kM} {d1 mc1 ms1 idx b ci : Nat} {fs As rest : List Value} {cls : String} {post : ww → Nat → Prop} (hC : kCV own idx M As.length ci) (hb : w b = some (.inr (ci, fs))) (hM : AT X.2.1 Y.1 M d1 mc1 ms1 (.ref b :: As) w n cls post) (hd : d1 + 1 ≤ d) (hc : cells + mc1 ≤ mc) (hs : slots + ms1 ≤ ms) (hst : st = As.reverse ++ .ref b :: rest) (hW : (rest.map fun v => v.category).sum ≤ 8) (hdg : decode cc pc = .ok (.invokevirtual idx, 3))
    {pre : List ExceptionTableEntry} {x : ExceptionTableEntry} {rst : List ExceptionTableEntry} (htab : X.2.2.2.2.2.2.2.2.2.exceptionTable.toList = pre ++ x :: rst) (hpre : ∀ y ∈ pre, y.catchType ≠ 0 ∧ covers y pc = true ∧ ∃ name, Cond.classLink own y.catchType name ∈ kTs ∧ kNo X.2.2.2.2.1 cls name) (hx : covers x pc = true) (hx0 : x.catchType ≠ 0) (hlk : Cond.classLink own x.catchType cls ∈ kTs) (hself : cls = "java/lang/IllegalArgumentException" ∨ cls = "java/lang/IllegalStateException")
    (kk : ∀ (q : Nat) (w' : ww) (n' : Nat), post w' n' → AW X Y x.handlerPc lv [.ref q] w' n' (cells + mc1) (slots + ms1)) : AW X Y pc lv st w n cells slots := by
  obtain ⟨⟨hini, hcode, hdn, hml⟩, hlk1, hins, hsel, r, hr⟩ := hC
  intro H locs ls h1 h2 h3 h4 h5 T hT Xs
  have hF : ∀ q, kA w n q → Y.2.1 q := fun q hq => hq.elim (h3 q) (fun z => S.2.2.2.2.2.2.2.2.1 q (Nat.le_trans h4.1 (by rw [h1]; exact z)))
  have hf := S.2.2.2.2.2.2.2.2.2.1
  have hlo := S.2.2.2.2.2.2.2.2.2.2.1
  have hpl : X.2.2.1.platform.magicAccessors = ({} : Platform).magicAccessors := by rw [Xs.admits.platform]
  obtain ⟨cellB, hcB, hoB, hclB⟩ := va_recv S.2.2.2.2.2.1 (h2.one hb) hr (q0 := 0) rfl
  obtain ⟨mk, methM, hnamed, hmethM, hstM, habM⟩ := Cond.instanceMethod_spec (S.2.2.2.2.1 _ hins)
  obtain ⟨methM', cM, hmethM', -, -, -, -, -, -, hsigM⟩ := Cond.code_spec hnamed (S.2.2.2.2.1 _ hcode)
  cases hmethM.symm.trans hmethM'
  obtain ⟨c2, r2, m2, q1, q2, q3, q4, kP, hkP, hkPi⟩ := Cond.selects_spec (S.2.2.2.2.1 _ hsel)
  cases hclB.symm.trans q1
  cases (State.methodFound?_of_named hnamed ⟨hdn.1, hdn.2.1⟩).symm.trans q2
  cases hnamed.symm.trans q3
  have hlen : As.length = methM.sig.parameters.length := by
    have := hdn.2.2
    rw [hsigM] at this
    exact (Option.some.inj this).symm
  obtain ⟨vm₁, X₁, hstep₁⟩ := Xs.invokevirtual S.1 S.2.2.2.1 (S.2.2.2.2.1 _ hlk1) hnamed hmethM hstM hkP hkPi ⟨hdn.1, hdn.2.1⟩ (a := b) (cell := cellB) (by rw [hT]; exact hcB)
    (fun z h => by rw [h] at hoB; cases hoB) (by rw [Launch.admits_selectMethod Xs.admits]; exact q4) hmethM habM hkP hkPi (g := F0 X.2.2.2.2.2.1 pc ls st) rfl (argsL := As) (rest := rest) hlen hst (by rw [S.2.1]; exact hdg)
  have hSc : kPcT Y.1 (.ref b :: As) w n (Value.ref b :: As).toArray (T.setVm vm₁) := ⟨⟨rfl, by show T.heap.size = n; rw [hT]; exact h1, by show wP _ _ T.heap; rw [hT]; exact h2, va_K.moved X₁.warmed.alike S.2.2.2.2.2.1, S.2.2.2.2.2.2.1.moved X₁.warmed⟩, Z.at_ X₁.warmed (fun q g1 g2 => by show T.heap[q]? = _; rw [hT]; exact h4.2.1 q g1 g2) hF⟩
  have hws := pay_in S.2.2.2.2.1 (kGood hcode)
  have hn1 := X₁.named hnamed
  obtain ⟨methY, cY, hmY, hcY, -, hlY, -, -, -, -⟩ := Cond.code_spec hn1 (hws _ List.mem_cons_self #[] _ X₁.warmed)
  obtain ⟨kY, hkY, -⟩ := className_of_methodNamed hn1
  have hinitY : kY.init = .initialized := Cond.initialized_spec (findClass_of_methodNamed hn1) hkY (word_at (a' := #[]) X₁.warmed (kTs_good _ hini).2 (S.2.2.2.2.1 _ hini))
  have happ := Spec.appliesLoose_calling (S := headSpec (.code M.1 M.2.1 M.2.2.1 M.2.2.2 :: kTs) { frames := d1, cells := mc1, slots := ms1, locals := 40 * d1 }) (e := X.2.2.1) (args := (Value.ref b :: As).toArray) (g := F0 X.2.2.2.2.2.1 pc ls rest) X₁.here (by rw [S.2.1]; exact hdg) hn1 hkY hinitY (X₁.room_calling (g := F0 X.2.2.2.2.2.1 pc ls rest) (h5.1.trans S.2.2.1.symm) hmY hcY (by show d1 + 1 ≤ _; omega) (by
      have hr : 2 * (F0 X.2.2.2.2.2.1 pc ls rest).monitorRoom + (rest.map fun v => v.category).sum ≤ 8 := lv_room hW
      rw [hlY]
      show 2 * (F0 X.2.2.2.2.2.1 pc ls rest).monitorRoom + (rest.map fun v => v.category).sum + (M.2.2.1 + 11) + 40 * d1 ≤ _
      omega) (Nat.le_trans hc S.2.2.2.2.2.2.2.2.2.2.2.1) (Nat.le_trans hs S.2.2.2.2.2.2.2.2.2.2.2.2)) (atoms_intro fun z hz => hws z hz _ _ X₁.warmed)
  obtain ⟨mid, hmid⟩ := X₁.here.above
  have hfr : ((T.setVm vm₁).setTop (F0 X.2.2.2.2.2.1 pc ls rest)).frames = (.java (F0 X.2.2.2.2.2.1 pc ls rest) :: mid) ++ X.2.2.2.2.2.2.2.1 := by rw [State.frames_setTop' _ X₁.here.top, hmid]; rfl
  obtain ⟨o, t, hsteps, -, hend, ⟨⟨v, w', n', rfl, hp, hsz, hP', hdom, ce, hce, hceS, hceC⟩, hz, hk⟩, L, ⟨-, hW2, hsame⟩, hL⟩ := Steps.callFree hM X.1 X₁.admits X₁.cas X₁.clock (acts := []) hfr happ (kPcT.blind _ _ _ _ _ _ (F0 X.2.2.2.2.2.1 pc ls rest) mk hSc) trivial
  rw [State.frames_setTop' _ X₁.here.top, X₁.tail] at hend
  obtain ⟨U', X', -, -, ht⟩ := X₁.outOfThrown (g := F0 X.2.2.2.2.2.1 pc ls rest) rfl hend hW2 hsame
  have e1 : U'.heap = t.heap := by rw [ht, Stand.throwing_heap]
  have hcome : Steps X.1.tables X.2.2.1 X.2.2.2.2.2.2.2.1 (T.setTop (F0 X.2.2.2.2.2.1 pc ls st)) ((U'.setTop (F0 X.2.2.2.2.2.1 pc ls rest)).pushFrame (.throwing v)) := hstep₁ _ fun acts => by
    rw [doInvoke_state, ← ht]; exact hsteps
  have hceC' : X.2.2.2.2.1.vm.findClass cls = some ce.cls := by
    have : vm₁.findClass cls = some ce.cls := hceC
    rw [← X₁.warmed.alike.findClass]; exact this
  obtain ⟨c4, hc4, hasg⟩ : kCa X.2.2.2.2.1 cls := by
    rcases hself with h | h
    · rw [h]; exact Z.2.2.2.2.2.2.2.2.1
    · rw [h]; exact Z.2.2.2.2.2.2.2.2.2
  cases hc4.symm.trans hceC'
  obtain ⟨cx, hcx, hlx⟩ := Cond.classLink_spec S.2.2.2.1 (S.2.2.2.2.1 _ hlk) X.2.2.1.platform hpl
  cases hcx.symm.trans hceC'
  have hk0 : ∃ k, X.2.2.2.2.1.vm.classes[ce.cls]? = some k := by
    obtain ⟨_, _, _, kc, _, _, _, _, _, q, _⟩ := hlx.here
    exact ⟨kc, q⟩
  obtain ⟨vm2, hW3, hfd⟩ := fh_all (e := X.2.2.1) (f := F0 X.2.2.2.2.2.1 pc ls rest) (a := v) (VmData.ne_statics_of hceS) hk0 (rst := rst) hx hx0 hlx hasg pre ((U'.setTop (F0 X.2.2.2.2.2.1 pc ls rest)).pushFrame (.throwing v)) (by rw [Stand.throwing_vm]; exact X'.warmed) (by rw [Stand.throwing_heap, e1]; exact hce) (fun y hy => by
    obtain ⟨y0, yc, nm, y1, c1, c2, g1, g2, g3⟩ := hpre y hy
    obtain ⟨c', hc', hcl⟩ := Cond.classLink_spec S.2.2.2.1 (S.2.2.2.2.1 _ y1) X.2.2.1.platform hpl
    cases g1.symm.trans hceC'
    cases g2.symm.trans hc'
    exact ⟨yc, y0, _, hcl, g3⟩)
  have XV := X'.noted hW3
  have hz : T.heap.size ≤ t.heap.size := hz
  have hk : ∀ q : Nat, q < T.heap.size → ¬ kA w n q → t.heap[q]? = T.heap[q]? := hk
  rw [hT] at hz hk
  obtain ⟨t2, a1, b1⟩ := kk v w' n' hp U'.heap (locs ++ L) ls (by rw [e1]; exact hsz) (by rw [e1]; exact hP') (fun a ha => hF a (hdom a ha))
    ⟨Nat.le_trans h4.1 (by rw [e1]; exact hz), fun q g1 g2 => by rw [e1, hk q (Nat.lt_of_lt_of_le g1 h4.1) (fun z => g2 (hF q z))]; exact h4.2.1 q g1 g2, fun q hq => by
      rcases List.mem_append.mp hq with h | h
      · exact h4.2.2 q h
      · exact hF _ (hL q h)⟩ h5 (U'.setVm vm2) rfl XV
  refine ⟨t2, hcome.trans (fh_go X'.here (pc := x.handlerPc) (vm' := vm2) (fun Q E d acts => ?_) a1), b1⟩
  rw [W.findHandler_eq (by rw [Stand.throwing_vm]; exact X'.method') X'.code, htab]
  exact hfd Q E d acts
/-- a contract of a method with handlers -/
def AH (l : Launch) (D : kD) (M : kM) (hh : List (Nat × Nat × Nat × Nat)) (d mc ms : Nat) (av : List Value) (w : ww) (n : Nat) (post : Option Value → ww → Nat → Prop) : Prop :=
  Met l M.1 (.codeWith M.1 M.2.1 M.2.2.1 M.2.2.2 hh :: kTs) { frames := d, cells := mc, slots := ms, locals := 40 * d } (kPcT D av w n) (kQc D w n post) mc ms (kA w n)
theorem AH.of_ {l : Launch} {D : kD} {M : kM} {hh : List (Nat × Nat × Nat × Nat)} {d mc ms : Nat} {av : List Value} {w : ww} {n : Nat} {post : Option Value → ww → Nat → Prop} (hf : l.flags = pinnedFlags ++ [noTraceFlag]) (hy : plainName M.1.cls = true) (hr : M.2.2.2 = some .int) (hlen : (lg_sl av).length ≤ M.2.2.1)
    (body : ∀ (X : MX) (A : Nat → Prop) (Q : State → Prop), FX X (D, A, M.2.2.1, Q) M.2.1 M.1.cls d mc ms → kS X.2.2.2.2.1 A → X.2.1.flags = pinnedFlags ++ [noTraceFlag] → X.2.2.2.2.2.2.2.2.2.exceptionTable.toList = tableOf hh → RTi X (D, A, M.2.2.1, Q) M.2.1 mc ms post → AW X (D, A, M.2.2.1, Q) 0 (lv_args 0 av) [] w n 0 0) : AH l D M hh d mc ms av w n post := by
  obtain ⟨y, cc, nL, ret⟩ := M
  subst hr
  refine va_MetW (cc := cc) (maxL := nL) (ret := some .int) (hh := hh) hy rfl ?_
  intro p e s m args below meth c s₁ B hml hv
  obtain ⟨⟨rfl, hn, hP, hK, hN⟩, hS⟩ := hv
  have hts := atoms_spec (ws := Cond.codeWith y cc nL (some .int) hh :: kTs) B.pre
  obtain ⟨m9, meth9, c9, g0, g1, g2, -, -, g5, -⟩ := Cond.codeWith_spec (hts _ List.mem_cons_self)
  cases B.named.symm.trans g0
  cases B.method.symm.trans g1
  cases (Stand.of_body B).code.symm.trans g2
  have hl := lv_entry av (n := nL) hlen
  rw [lg_entry_eq]
  have hlocks := B.notSynchronized
  have hx := B.exec
  have hb := B.bytes
  have hret := B.returns
  refine body (p, l, e, (headSpec (Cond.codeWith y cc nL (some .int) hh :: kTs) _).room, s, m, av.toArray, below, meth, c) (kA w n) (MQ below (kQc D w n post) av.toArray s mc ms (kA w n)) ⟨hx, hb, hml, findClass_of_methodNamed B.named, fun z hz => hts z (List.mem_cons_of_mem _ hz), hK, hN, hlocks, fun q hq => Or.inr (by rw [← hn]; exact hq), Nat.le_refl _, Nat.le_refl _, Nat.le_refl _, Nat.le_refl _⟩ hS hf (by rw [← table_eq c.exceptionTable.toList, g5]) ?_ s.heap [] _ hn hP (fun a ha => Or.inl ha) va_S.rf hl
  intro pc lv v w' n' k j hdg e1 e2 hpost H locs ls h1 h2 h3 h4 h5
  exact W.widen e1 e2 (W.iret hx hb hret (fun t ht hW => ⟨⟨_, w', n', rfl, hpost, by rw [ht]; exact h1, by rw [ht]; exact h2, h3⟩, h4.F ht⟩) h4.2.2 hdg hlocks)
theorem kGoodW {M : kM} {hh : List (Nat × Nat × Nat × Nat)} (h : Cond.codeWith M.1 M.2.1 M.2.2.1 M.2.2.2 hh ∈ kTs) : GoodIn kTs (Cond.codeWith M.1 M.2.1 M.2.2.1 M.2.2.2 hh :: kTs) := by
  intro z hz
  rcases List.mem_cons.mp hz with e | e
  · rw [e]; exact kTs_good _ h
  · exact kTs_good z e
theorem a_callSH {X : MX} {Y : kY} {cc : ByteArray} {own : String} {d mc ms pc n cells slots : Nat} {lv : List (Nat × Value)} {st : List Value} {w : ww} (S : FX X Y cc own d mc ms) (Z : kS X.2.2.2.2.1 Y.2.1) {M : kM} {hh : List (Nat × Nat × Nat × Nat)} {d1 mc1 ms1 idx : Nat} {As rest : List Value} {post : Option Value → ww → Nat → Prop} (hini : Cond.initialized M.1.cls ∈ kTs) (hcode : Cond.codeWith M.1 M.2.1 M.2.2.1 M.2.2.2 hh ∈ kTs) (hdn : M.1.cls ≠ "java/lang/invoke/MethodHandle" ∧ M.1.cls ≠ "java/lang/invoke/VarHandle" ∧ (parseMethodDescriptor M.1.desc).map (fun d => d.parameters.length) = some As.length) (hml : M.2.2.1 ≤ 21) (hlk : Cond.methodLink own idx M.1 ∈ kTs) (hstt : Cond.static M.1 ∈ kTs)
    (hM : AH X.2.1 Y.1 M hh d1 mc1 ms1 As w n post) (hd : d1 + 1 ≤ d) (hc : cells + mc1 ≤ mc) (hs : slots + ms1 ≤ ms) (hst : st = As.reverse ++ rest) (hW : (rest.map fun v => v.category).sum ≤ 8) (hdg : decode cc pc = .ok (.invokestatic idx, 3)) (kk : ∀ (v : Option Value) (w' : ww) (n' : Nat), post v w' n' → AW X Y (pc + 3) lv (v.toList ++ rest) w' n' (cells + mc1) (slots + ms1)) : AW X Y pc lv st w n cells slots := by
  intro H locs ls h1 h2 h3 h4 h5
  have hF : ∀ q, kA w n q → Y.2.1 q := fun q hq => hq.elim (h3 q) (fun z => S.2.2.2.2.2.2.2.2.1 q (Nat.le_trans h4.1 (by rw [h1]; exact z)))
  have hf := S.2.2.2.2.2.2.2.2.2.1
  have hlo := S.2.2.2.2.2.2.2.2.2.2.1
  refine a_run (rest := rest) (av := As.toArray) ?_ S.2.2.2.2.2.2.2.2.1 h1 h3 h4 h5 kk
  intro T hT Xs
  have hK : Back X.2.1 X.2.2.2.1 X.1 X.2.2.1 X.2.2.2.2.2.2.2.1 X.2.2.2.2.1 X.2.2.2.2.2.2.1 M.1 3 8 (PreOf X.2.2.2.1 mc1 ms1 (kPcT Y.1 As w n)) (PostOf (kQc Y.1 w n post) mc1 ms1 (kA w n)) := va_backW (hh := hh) (bytes := M.2.1) (maxL := M.2.2.1) (ret := M.2.2.2) hM (kPcT.blind _ _ _ _) rfl rfl (by show d1 + 1 ≤ _; omega) (by show 8 + (_ + 11) + 40 * d1 ≤ _; omega) (pay_in S.2.2.2.2.1 (kGoodW hcode)) List.mem_cons_self (fun a' U hU => word_at hU (kTs_good _ hini).2 (S.2.2.2.2.1 _ hini))
  obtain ⟨mk, methM, cM, hnamed, hmethM, -, -, -, -, -, -, hsigM⟩ := Cond.codeWith_spec (S.2.2.2.2.1 _ hcode)
  have hlen : As.length = methM.sig.parameters.length := by
    have := hdn.2.2
    rw [hsigM] at this
    exact (Option.some.inj this).symm
  have hstatic : methM.isStatic = true := Cond.static_spec hnamed hmethM (S.2.2.2.2.1 _ hstt)
  obtain ⟨kP, hkP, -⟩ := className_of_methodNamed hnamed
  have hinitP : kP.init = .initialized := Cond.initialized_spec (findClass_of_methodNamed hnamed) hkP (S.2.2.2.2.1 _ hini)
  obtain ⟨vm₁, X₁, hstep₁⟩ := Xs.invokestatic S.1 S.2.2.2.1 (S.2.2.2.2.1 _ hlk) hnamed hmethM hstatic hkP hinitP ⟨hdn.1, hdn.2.1⟩ (g := F0 X.2.2.2.2.2.1 pc ls st) rfl (argsL := As) (rest := rest) hlen hst (by rw [S.2.1]; exact hdg)
  have hSc : kPcT Y.1 As w n As.toArray (T.setVm vm₁) := ⟨⟨rfl, by show T.heap.size = n; rw [hT]; exact h1, by show wP _ _ T.heap; rw [hT]; exact h2, va_K.moved X₁.warmed.alike S.2.2.2.2.2.1, S.2.2.2.2.2.2.1.moved X₁.warmed⟩, Z.at_ X₁.warmed (fun q g1 g2 => by show T.heap[q]? = _; rw [hT]; exact h4.2.1 q g1 g2) hF⟩
  obtain ⟨v, ⟨U', l2, c3, s2⟩, X', ⟨g', mk', t, L, e1, e2, hq, hB1, hL, hB2, hB3⟩, hsteps⟩ := hK _ _ _ ⟨T.setVm vm₁, locs, cells, slots⟩ (F0 X.2.2.2.2.2.1 pc ls rest) (.invokestatic idx) mk As.toArray X₁ rfl (h5.1.trans S.2.2.1.symm) (by rw [S.2.1]; exact hdg) (lv_room hW) (X₁.named hnamed) ⟨Nat.le_trans hc S.2.2.2.2.2.2.2.2.2.2.2.1, Nat.le_trans hs S.2.2.2.2.2.2.2.2.2.2.2.2, hSc⟩
  dsimp only [Pt.U, Pt.locs, Pt.cells, Pt.slots] at X' e1 e2 hB1 hB2 hB3 hsteps
  subst hB1; subst hB2; subst hB3
  exact ⟨v, (T.setVm vm₁).calling g' mk' As.toArray, t, U', L, hT, X', hL, e1, e2, hq, fun tg h => hstep₁ _ fun acts => by rw [doInvoke_state]; exact hsteps.trans h⟩
