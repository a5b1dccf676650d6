/-! calls that throw and are caught; methods with a table of handlers -/
theorem kNo.pass {pl : Platform} (hpl : pl.magicAccessors = ({} : Platform).magicAccessors) {s : State} {args : Array Value} {d : ClassId} {pc : Nat} {thrown : ClassId} {y : ExceptionTableEntry} {own name tn : String} (hown : s.vm.findClass own = some d) (h0 : y.catchType ≠ 0) (hlink : (Cond.classLink own y.catchType name).before args s = true) (ht : s.vm.findClass tn = some thrown) (hno : kNo s tn name) : RowPassed pl s d pc thrown y := by
  obtain ⟨c', hc', hcl⟩ := Cond.classLink_spec hown hlink pl hpl
  obtain ⟨c1, c2, g1, g2, g3⟩ := hno
  cases ht.symm.trans g1
  cases hc'.symm.trans g2
  exact Or.inr ⟨h0, c', hcl, g3⟩
theorem a_callVT {X : MX} {Y : kY} {cc : ByteArray} {own : String} {d mc ms pc n cells slots : Nat} {lv : List (Nat × Value)} {st : List Value} {w : ww} (S : FX X Y cc own d mc ms) (Z : kS X.2.2.2.2.1 Y.2.1) {M : kM} {d1 mc1 ms1 idx b ci : Nat} {fs As rest : List Value} {cls : String} {post : ww → Nat → Prop} (hC : kCV own idx M As.length ci) (hb : w b = some (.inr (ci, fs))) (hM : AT X.2.1 Y.1 M d1 mc1 ms1 (.ref b :: As) w n cls post) (hd : d1 + 1 ≤ d) (hc : cells + mc1 ≤ mc) (hs : slots + ms1 ≤ ms) (hst : st = As.reverse ++ .ref b :: rest) (hW : (rest.map fun v => v.category).sum ≤ 8) (hdg : decode cc pc = .ok (.invokevirtual idx, 3))
    {pre : List ExceptionTableEntry} {x : ExceptionTableEntry} {rst : List ExceptionTableEntry} (htab : X.2.2.2.2.2.2.2.2.2.exceptionTable.toList = pre ++ x :: rst) (hpre : ∀ y ∈ pre, y.catchType ≠ 0 ∧ ∃ name, Cond.classLink own y.catchType name ∈ kTs ∧ kNo X.2.2.2.2.1 cls name) (hx : covers x pc = true) (hx0 : x.catchType ≠ 0) (hlk : Cond.classLink own x.catchType cls ∈ kTs) (hself : cls = "java/lang/IllegalArgumentException" ∨ cls = "java/lang/IllegalStateException")
    (kk : ∀ (q : Nat) (w' : ww) (n' : Nat), post w' n' → AW X Y x.handlerPc lv [.ref q] w' n' (cells + mc1) (slots + ms1)) : AW X Y pc lv st w n cells slots := by
  obtain ⟨⟨hini, hcode, hdn, hml⟩, hlk1, hins, hsel, r, hr⟩ := hC
  intro H locs ls h1 h2 h3 h4 h5 T hT Xs
  have hF : ∀ q, kA w n q → Y.2.1 q := fun q hq => hq.elim (h3 q) (fun z => S.2.2.2.2.2.2.2.2.1 q (Nat.le_trans h4.1 (by rw [h1]; exact z)))
  have hf := S.2.2.2.2.2.2.2.2.2.1
  have hlo := S.2.2.2.2.2.2.2.2.2.2.1
  have hpl : X.2.2.1.platform.magicAccessors = ({} : Platform).magicAccessors := by rw [Xs.admits.platform]
  have hK : BackT X.2.1 X.2.2.2.1 X.1 X.2.2.1 X.2.2.2.2.2.2.2.1 X.2.2.2.2.1 X.2.2.2.2.2.2.1 M.1 3 8 (fun A a => A.cells + mc1 ≤ X.2.2.2.1.cells ∧ A.slots + ms1 ≤ X.2.2.2.1.slots ∧ kPcT Y.1 (.ref b :: As) w n a A.U)
      (fun A a v B => ∃ (g : JFrame) (mk : MethodId) (t : State) (L : List Loc), B.U.heap = t.heap ∧ B.U.vm = t.vm ∧ kTQ Y.1 w n cls post a (A.U.calling g mk a) (.threw v) t ∧ B.locs = A.locs ++ L ∧ (∀ q ∈ L, kA w n q.base) ∧ B.cells = A.cells + mc1 ∧ B.slots = A.slots + ms1) := by
    refine BackT.of_free (bytes := M.2.1) (maxL := M.2.2.1) (ret := M.2.2.2) (E := fun a st o t L k j => k = mc1 ∧ j = ms1 ∧ ∀ q ∈ L, kA w n q.base) hM (by show d1 + 1 ≤ _; omega) (by show 8 + (_ + 11) + 40 * d1 ≤ _; omega) ?_ ?_ (fun _ _ _ _ _ _ _ _ _ => trivial) ?_ ?_
    · intro m meth c A a XA hp
      have hws := pay_in S.2.2.2.2.1 (kGood hcode)
      exact ⟨atoms_intro fun z hz => hws z hz _ _ XA.warmed, hws _ List.mem_cons_self _ _ XA.warmed, word_at XA.warmed (kTs_good _ hini).2 (S.2.2.2.2.1 _ hini), hp.1, hp.2.1⟩
    · intro m meth c A a g mk XA hp
      exact kPcT.blind _ _ _ _ _ _ _ _ hp.2.2
    · intro a st o t ⟨hq, L, hF, hL⟩
      exact ⟨L, mc1, ms1, hF, rfl, rfl, hL⟩
    · intro m meth c A a g mk v t L k j XA hp hq hF ⟨e1, e2, hL⟩
      subst e1; subst e2
      exact ⟨g, mk, t, L, rfl, rfl, hq.1, rfl, hL, rfl, rfl⟩
  obtain ⟨cellB, hcB, hoB, hclB⟩ := va_recv S.2.2.2.2.2.1 (h2.one hb) hr (q0 := 0) rfl
  obtain ⟨mk, methM, hnamed, hmethM, hstM, habM⟩ := Cond.instanceMethod_spec (S.2.2.2.2.1 _ hins)
  obtain ⟨methM', cM, hmethM', -, -, -, -, -, -, hsigM⟩ := Cond.code_spec hnamed (S.2.2.2.2.1 _ hcode)
  cases hmethM.symm.trans hmethM'
  obtain ⟨c2, r2, m2, q1, q2, q3, q4, kP, hkP, hkPi⟩ := Cond.selects_spec (S.2.2.2.2.1 _ hsel)
  cases hclB.symm.trans q1
  cases (State.methodFound?_of_named hnamed ⟨hdn.1, hdn.2.1⟩).symm.trans q2
  cases hnamed.symm.trans q3
  have hlen : As.length = methM.sig.parameters.length := by
    have := hdn.2.2
    rw [hsigM] at this
    exact (Option.some.inj this).symm
  obtain ⟨vm₁, X₁, hstep₁⟩ := Xs.invokevirtual S.1 S.2.2.2.1 (S.2.2.2.2.1 _ hlk1) hnamed hmethM hstM hkP hkPi ⟨hdn.1, hdn.2.1⟩ (a := b) (cell := cellB) (by rw [hT]; exact hcB)
    (fun z h => by rw [h] at hoB; cases hoB) (by rw [Launch.admits_selectMethod Xs.admits]; exact q4) hmethM habM hkP hkPi (g := F0 X.2.2.2.2.2.1 pc ls st) rfl (argsL := As) (rest := rest) hlen hst (by rw [S.2.1]; exact hdg)
  have hSc : kPcT Y.1 (.ref b :: As) w n (Value.ref b :: As).toArray (T.setVm vm₁) := ⟨⟨rfl, by show T.heap.size = n; rw [hT]; exact h1, by show wP _ _ T.heap; rw [hT]; exact h2, va_K.moved X₁.warmed.alike S.2.2.2.2.2.1, S.2.2.2.2.2.2.1.moved X₁.warmed⟩, Z.at_ X₁.warmed (fun q g1 g2 => by show T.heap[q]? = _; rw [hT]; exact h4.2.1 q g1 g2) hF⟩
  obtain ⟨v, ⟨U', l2, c3, s2⟩, X', ⟨g', mk', t, L, e1, e2, ⟨⟨x0, w', n', hx', hp, hsz, hP', hdom, ce, hce, hceS, hceC⟩, hz, hk⟩, hB1, hL, hB2, hB3⟩, hsteps⟩ := hK _ _ _ ⟨T.setVm vm₁, locs, cells, slots⟩ (F0 X.2.2.2.2.2.1 pc ls rest) (.invokevirtual idx) mk (Value.ref b :: As).toArray X₁ rfl (h5.1.trans S.2.2.1.symm) (by rw [S.2.1]; exact hdg) (lv_room hW) (X₁.named hnamed) ⟨Nat.le_trans hc S.2.2.2.2.2.2.2.2.2.2.2.1, Nat.le_trans hs S.2.2.2.2.2.2.2.2.2.2.2.2, hSc⟩
  dsimp only [Pt.U, Pt.locs, Pt.cells, Pt.slots] at X' e1 e2 hB1 hB2 hB3 hsteps
  subst hB1; subst hB2; subst hB3
  cases hx'
  have hcome : Steps X.1.tables X.2.2.1 X.2.2.2.2.2.2.2.1 (T.setTop (F0 X.2.2.2.2.2.1 pc ls st)) ((U'.setTop (F0 X.2.2.2.2.2.1 pc ls rest)).pushFrame (.throwing v)) := hstep₁ _ fun acts => by rw [doInvoke_state]; exact hsteps
  have hceC' : X.2.2.2.2.1.vm.findClass cls = some ce.cls := by
    have : vm₁.findClass cls = some ce.cls := hceC
    rw [← X₁.warmed.alike.findClass]; exact this
  obtain ⟨c4, hc4, hasg⟩ : kCa X.2.2.2.2.1 cls := by
    rcases hself with h | h
    · rw [h]; exact Z.2.2.2.2.2.2.2.2.1
    · rw [h]; exact Z.2.2.2.2.2.2.2.2.2
  cases hc4.symm.trans hceC'
  obtain ⟨hcat, hk0⟩ := X'.catches_of_link S.2.2.2.1 hx0 (S.2.2.2.2.1 _ hlk) hceC' hasg
  obtain ⟨vm2, XV, st2⟩ := X'.thenCaughtThrough v (g := F0 X.2.2.2.2.2.1 pc ls rest) rfl hcome (cell := ce) (by rw [e1]; exact hce) hceS hk0 pre x rst htab (fun y hy => let ⟨y0, nm, y1, y2⟩ := hpre y hy; kNo.pass hpl S.2.2.2.1 y0 (S.2.2.2.2.1 _ y1) hceC' y2) hx hcat
  have hz : T.heap.size ≤ t.heap.size := hz
  have hk : ∀ q : Nat, q < T.heap.size → ¬ kA w n q → t.heap[q]? = T.heap[q]? := hk
  rw [hT] at hz hk
  obtain ⟨t2, a1, b1⟩ := kk v w' n' hp U'.heap (locs ++ L) ls (by rw [e1]; exact hsz) (by rw [e1]; exact hP') (fun a ha => hF a (hdom a ha))
    ⟨Nat.le_trans h4.1 (by rw [e1]; exact hz), fun q g1 g2 => by rw [e1, hk q (Nat.lt_of_lt_of_le g1 h4.1) (fun z => g2 (hF q z))]; exact h4.2.1 q g1 g2, fun q hq => by
      rcases List.mem_append.mp hq with h | h
      · exact h4.2.2 q h
      · exact hF _ (hL q h)⟩ h5 (U'.setVm vm2) rfl XV
  exact ⟨t2, st2.trans a1, b1⟩
/-- a contract of a method with handlers -/
def AH (l : Launch) (D : kD) (M : kM) (hh : List (Nat × Nat × Nat × Nat)) (d mc ms : Nat) (av : List Value) (w : ww) (n : Nat) (post : Option Value → ww → Nat → Prop) : Prop :=
  Met l M.1 (.codeWith M.1 M.2.1 M.2.2.1 M.2.2.2 hh :: kTs) { frames := d, cells := mc, slots := ms, locals := 40 * d } (kPcT D av w n) (kQc D w n post) mc ms (kA w n)
theorem AH.of_ {l : Launch} {D : kD} {M : kM} {hh : List (Nat × Nat × Nat × Nat)} {d mc ms : Nat} {av : List Value} {w : ww} {n : Nat} {post : Option Value → ww → Nat → Prop} (hf : l.flags = pinnedFlags ++ [noTraceFlag]) (hy : plainName M.1.cls = true) (hr : M.2.2.2 = some .int) (hlen : (lg_sl av).length ≤ M.2.2.1)
    (body : ∀ (X : MX) (A : Nat → Prop) (Q : State → Prop), FX X (D, A, M.2.2.1, Q) M.2.1 M.1.cls d mc ms → kS X.2.2.2.2.1 A → X.2.1.flags = pinnedFlags ++ [noTraceFlag] → X.2.2.2.2.2.2.2.2.2.exceptionTable.toList = tableOf hh → RTi X (D, A, M.2.2.1, Q) M.2.1 mc ms post → AW X (D, A, M.2.2.1, Q) 0 (lv_args 0 av) [] w n 0 0) : AH l D M hh d mc ms av w n post := by
  obtain ⟨y, cc, nL, ret⟩ := M
  subst hr
  refine va_MetW (cc := cc) (maxL := nL) (ret := some .int) (hh := hh) hy rfl ?_
  intro p e s m args below meth c s₁ B hml hv
  obtain ⟨⟨rfl, hn, hP, hK, hN⟩, hS⟩ := hv
  have hts := atoms_spec (ws := Cond.codeWith y cc nL (some .int) hh :: kTs) B.pre
  obtain ⟨m9, meth9, c9, g0, g1, g2, -, -, g5, -⟩ := Cond.codeWith_spec (hts _ List.mem_cons_self)
  cases B.named.symm.trans g0
  cases B.method.symm.trans g1
  cases (Stand.of_body B).code.symm.trans g2
  have hl := lv_entry av (n := nL) hlen
  rw [lg_entry_eq]
  have hlocks := B.notSynchronized
  have hx := B.exec
  have hb := B.bytes
  have hret := B.returns
  refine body (p, l, e, (headSpec (Cond.codeWith y cc nL (some .int) hh :: kTs) _).room, s, m, av.toArray, below, meth, c) (kA w n) (MQ below (kQc D w n post) av.toArray s mc ms (kA w n)) ⟨hx, hb, hml, findClass_of_methodNamed B.named, fun z hz => hts z (List.mem_cons_of_mem _ hz), hK, hN, hlocks, fun q hq => Or.inr (by rw [← hn]; exact hq), Nat.le_refl _, Nat.le_refl _, Nat.le_refl _, Nat.le_refl _⟩ hS hf (by rw [← table_eq c.exceptionTable.toList, g5]) ?_ s.heap [] _ hn hP (fun a ha => Or.inl ha) va_S.rf hl
  intro pc lv v w' n' k j hdg e1 e2 hpost H locs ls h1 h2 h3 h4 h5
  exact W.widen e1 e2 (W.iret hx hb hret (fun t ht hW => ⟨⟨_, w', n', rfl, hpost, by rw [ht]; exact h1, by rw [ht]; exact h2, h3⟩, h4.F ht⟩) h4.2.2 hdg hlocks)
theorem kGoodW {M : kM} {hh : List (Nat × Nat × Nat × Nat)} (h : Cond.codeWith M.1 M.2.1 M.2.2.1 M.2.2.2 hh ∈ kTs) : GoodIn kTs (Cond.codeWith M.1 M.2.1 M.2.2.1 M.2.2.2 hh :: kTs) := by
  intro z hz
  rcases List.mem_cons.mp hz with e | e
  · rw [e]; exact kTs_good _ h
  · exact kTs_good z e
theorem a_callSH {X : MX} {Y : kY} {cc : ByteArray} {own : String} {d mc ms pc n cells slots : Nat} {lv : List (Nat × Value)} {st : List Value} {w : ww} (S : FX X Y cc own d mc ms) (Z : kS X.2.2.2.2.1 Y.2.1) {M : kM} {hh : List (Nat × Nat × Nat × Nat)} {d1 mc1 ms1 idx : Nat} {As rest : List Value} {post : Option Value → ww → Nat → Prop} (hini : Cond.initialized M.1.cls ∈ kTs) (hcode : Cond.codeWith M.1 M.2.1 M.2.2.1 M.2.2.2 hh ∈ kTs) (hdn : M.1.cls ≠ "java/lang/invoke/MethodHandle" ∧ M.1.cls ≠ "java/lang/invoke/VarHandle" ∧ (parseMethodDescriptor M.1.desc).map (fun d => d.parameters.length) = some As.length) (hml : M.2.2.1 ≤ 21) (hlk : Cond.methodLink own idx M.1 ∈ kTs) (hstt : Cond.static M.1 ∈ kTs)
    (hM : AH X.2.1 Y.1 M hh d1 mc1 ms1 As w n post) (hd : d1 + 1 ≤ d) (hc : cells + mc1 ≤ mc) (hs : slots + ms1 ≤ ms) (hst : st = As.reverse ++ rest) (hW : (rest.map fun v => v.category).sum ≤ 8) (hdg : decode cc pc = .ok (.invokestatic idx, 3)) (kk : ∀ (v : Option Value) (w' : ww) (n' : Nat), post v w' n' → AW X Y (pc + 3) lv (v.toList ++ rest) w' n' (cells + mc1) (slots + ms1)) : AW X Y pc lv st w n cells slots := by
  intro H locs ls h1 h2 h3 h4 h5
  have hF : ∀ q, kA w n q → Y.2.1 q := fun q hq => hq.elim (h3 q) (fun z => S.2.2.2.2.2.2.2.2.1 q (Nat.le_trans h4.1 (by rw [h1]; exact z)))
  have hf := S.2.2.2.2.2.2.2.2.2.1
  have hlo := S.2.2.2.2.2.2.2.2.2.2.1
  refine a_run (rest := rest) (av := As.toArray) ?_ S.2.2.2.2.2.2.2.2.1 h1 h3 h4 h5 kk
  intro T hT Xs
  have hK : Back X.2.1 X.2.2.2.1 X.1 X.2.2.1 X.2.2.2.2.2.2.2.1 X.2.2.2.2.1 X.2.2.2.2.2.2.1 M.1 3 8 (PreOf X.2.2.2.1 mc1 ms1 (kPcT Y.1 As w n)) (PostOf (kQc Y.1 w n post) mc1 ms1 (kA w n)) := va_backW (hh := hh) (bytes := M.2.1) (maxL := M.2.2.1) (ret := M.2.2.2) hM (kPcT.blind _ _ _ _) rfl rfl (by show d1 + 1 ≤ _; omega) (by show 8 + (_ + 11) + 40 * d1 ≤ _; omega) (pay_in S.2.2.2.2.1 (kGoodW hcode)) List.mem_cons_self (fun a' U hU => word_at hU (kTs_good _ hini).2 (S.2.2.2.2.1 _ hini))
  obtain ⟨mk, methM, cM, hnamed, hmethM, -, -, -, -, -, -, hsigM⟩ := Cond.codeWith_spec (S.2.2.2.2.1 _ hcode)
  have hlen : As.length = methM.sig.parameters.length := by
    have := hdn.2.2
    rw [hsigM] at this
    exact (Option.some.inj this).symm
  have hstatic : methM.isStatic = true := Cond.static_spec hnamed hmethM (S.2.2.2.2.1 _ hstt)
  obtain ⟨kP, hkP, -⟩ := className_of_methodNamed hnamed
  have hinitP : kP.init = .initialized := Cond.initialized_spec (findClass_of_methodNamed hnamed) hkP (S.2.2.2.2.1 _ hini)
  obtain ⟨vm₁, X₁, hstep₁⟩ := Xs.invokestatic S.1 S.2.2.2.1 (S.2.2.2.2.1 _ hlk) hnamed hmethM hstatic hkP hinitP ⟨hdn.1, hdn.2.1⟩ (g := F0 X.2.2.2.2.2.1 pc ls st) rfl (argsL := As) (rest := rest) hlen hst (by rw [S.2.1]; exact hdg)
  have hSc : kPcT Y.1 As w n As.toArray (T.setVm vm₁) := ⟨⟨rfl, by show T.heap.size = n; rw [hT]; exact h1, by show wP _ _ T.heap; rw [hT]; exact h2, va_K.moved X₁.warmed.alike S.2.2.2.2.2.1, S.2.2.2.2.2.2.1.moved X₁.warmed⟩, Z.at_ X₁.warmed (fun q g1 g2 => by show T.heap[q]? = _; rw [hT]; exact h4.2.1 q g1 g2) hF⟩
  obtain ⟨v, ⟨U', l2, c3, s2⟩, X', ⟨g', mk', t, L, e1, e2, hq, hB1, hL, hB2, hB3⟩, hsteps⟩ := hK _ _ _ ⟨T.setVm vm₁, locs, cells, slots⟩ (F0 X.2.2.2.2.2.1 pc ls rest) (.invokestatic idx) mk As.toArray X₁ rfl (h5.1.trans S.2.2.1.symm) (by rw [S.2.1]; exact hdg) (lv_room hW) (X₁.named hnamed) ⟨Nat.le_trans hc S.2.2.2.2.2.2.2.2.2.2.2.1, Nat.le_trans hs S.2.2.2.2.2.2.2.2.2.2.2.2, hSc⟩
  dsimp only [Pt.U, Pt.locs, Pt.cells, Pt.slots] at X' e1 e2 hB1 hB2 hB3 hsteps
  subst hB1; subst hB2; subst hB3
  exact ⟨v, (T.setVm vm₁).calling g' mk' As.toArray, t, U', L, hT, X', hL, e1, e2, hq, fun tg h => hstep₁ _ fun acts => by rw [doInvoke_state]; exact hsteps.trans h⟩
