/-! CALLS THAT MAY THROW: contracts whose outcome is a return or a throw -/
section ZT
variable {p : Program} {l : Launch} {e : Env} {R : Room} {s : State} {m : MethodId} {args : Array Value} {below : List Frame} {meth : Method} {c : Code} {H : Heap} {locs : List Loc} {cells slots : Nat} {Q Q' : State → Prop}
def zt_FE (st t : State) (L : List Loc) (k n : Nat) : Prop := st.WarmedH t.vm ∧ st.sameButNew ({ t with vm := st.vm } : State) L k n
/-- what a return makes, what a throw makes -/
def zt_k (a b : Nat) : Outcome → Nat
  | .returned _ => a
  | .threw _ => b
def zt_Met (l : Launch) (y : MethodName) (ws : List Cond) (rm : Room) (Pc : Array Value → State → Prop) (Qc : Array Value → State → Outcome → State → Prop) (kr nr kt nt : Nat) (free : Addr → Prop) : Prop :=
  MetFree l y (headSpec ws rm) Pc (fun _ _ _ _ _ => True) (fun a st o t => Qc a st o t ∧ ∃ L, zt_FE st t L (zt_k kr kt o) (zt_k nr nt o) ∧ ∀ q ∈ L, free q.base)
def zt_MQ (below : List Frame) (Qc : Array Value → State → Outcome → State → Prop) (a : Array Value) (s : State) (kr nr kt nt : Nat) (free : Addr → Prop) : State → Prop := fun t =>
  ∃ o, t.status = .running ∧ Ended t below o ∧ Qc a s o t ∧ ∃ L, zt_FE s t L (zt_k kr kt o) (zt_k nr nt o) ∧ ∀ q ∈ L, free q.base
theorem zt_MQ_of {Qc : Array Value → State → Outcome → State → Prop} {a : Array Value} {kr nr kt nt : Nat} {free : Addr → Prop} (t : State) (h : MQ below Qc a s kr nr free t) : zt_MQ below Qc a s kr nr kt nt free t := by
  obtain ⟨o, h1, h2, h3, L, ⟨⟨v, hv⟩, h4⟩, h5⟩ := h
  subst hv
  exact ⟨_, h1, h2, h3, L, ⟨h4.1, h4.2⟩, h5⟩
theorem zt_mono {g : JFrame} (hQ : ∀ t, Q t → Q' t) (k : W p l e R s m args below meth c H locs cells slots Q g) : W p l e R s m args below meth c H locs cells slots Q' g := by
  intro T hT X
  obtain ⟨t, a, b⟩ := k T hT X
  exact ⟨t, a, hQ t b⟩
theorem zt_ofW {y : MethodName} {ws ws' : List Cond} {rm : Room} {Pc : Array Value → State → Prop} {Qc : Array Value → State → Outcome → State → Prop} {kr nr kt nt : Nat} {free : Addr → Prop} {cc : ByteArray} {maxL : Nat} {ret : Option FieldType}
    (hy : plainName y.cls = true) (hw : ws = Cond.code y cc maxL ret :: ws')
    (body : ∀ p e s m args below meth c s₁, BodyLoose p l y (headSpec ws rm) cc maxL ret e s m args below meth c s₁ → c.maxLocals = maxL → c.exceptionTable.toList = [] → Pc args s →
      W p l e (headSpec ws rm).room s m args below meth c s.heap [] 0 0 (zt_MQ below Qc args s kr nr kt nt free) (entryFrame m args maxL)) : zt_Met l y ws rm Pc Qc kr nr kt nt free := by
  refine MetFree.of_bodyS (code := cc) (maxLocals := maxL) (ret := ret) hy ?_ ?_
  · intro args s m h hn
    obtain ⟨meth, c, h1, h2, h3, h4, h5, h6, -, -⟩ := Cond.code_spec hn (atoms_spec (ws := ws) h _ (by rw [hw]; exact List.mem_cons_self))
    exact ⟨meth, c, h1, h2, h3, h4, h5, h6⟩
  · intro p e s m args below meth c s₁ B hml hP _
    have hcw : (Cond.code y cc maxL ret).before args s = true := atoms_spec (ws := ws) B.pre _ (by rw [hw]; exact List.mem_cons_self)
    have h0 := B.noHandlers hcw
    have h1 : c.exceptionTable.toList = [] := List.eq_nil_of_length_eq_zero (by simpa [Array.isEmpty] using h0)
    have hh0 : s₁.heap = s.heap := by rw [B.state]; rfl
    obtain ⟨t, a1, o, b1, b2, b3, b4⟩ := body p e s m args below meth c s₁ B hml h1 hP s₁ hh0 (Stand.of_body B)
    exact ⟨t, o, a1, b1, b2, b3, b4⟩
/-- .. of a method with a table of handlers -/
theorem zt_ofWith {y : MethodName} {ws ws' : List Cond} {rm : Room} {Pc : Array Value → State → Prop} {Qc : Array Value → State → Outcome → State → Prop} {kr nr kt nt : Nat} {free : Addr → Prop} {cc : ByteArray} {maxL : Nat} {ret : Option FieldType} {hs : List (Nat × Nat × Nat × Nat)}
    (hy : plainName y.cls = true) (hw : ws = Cond.codeWith y cc maxL ret hs :: ws')
    (body : ∀ p e s m args below meth c s₁, BodyLoose p l y (headSpec ws rm) cc maxL ret e s m args below meth c s₁ → c.maxLocals = maxL → c.exceptionTable.toList.map (fun h => (h.startPc, h.endPc, h.handlerPc, h.catchType)) = hs → Pc args s →
      W p l e (headSpec ws rm).room s m args below meth c s.heap [] 0 0 (zt_MQ below Qc args s kr nr kt nt free) (entryFrame m args maxL)) : zt_Met l y ws rm Pc Qc kr nr kt nt free := by
  refine MetFree.of_bodyS (code := cc) (maxLocals := maxL) (ret := ret) hy ?_ ?_
  · intro args s m h hn
    obtain ⟨m', meth, c, h0, h1, h2, h3, h4, -, h5, h6, -⟩ := Cond.codeWith_spec (atoms_spec (ws := ws) h (Cond.codeWith y cc maxL ret hs) (by rw [hw]; exact List.mem_cons_self))
    cases hn.symm.trans h0
    exact ⟨meth, c, h1, h2, h3, h4, h5, h6⟩
  · intro p e s m args below meth c s₁ B hml hP _
    have hcw : (Cond.codeWith y cc maxL ret hs).before args s = true := atoms_spec (ws := ws) B.pre _ (by rw [hw]; exact List.mem_cons_self)
    obtain ⟨m', meth', c', hn', hm', hc', -, -, he', -⟩ := Cond.codeWith_spec hcw
    cases B.named.symm.trans hn'
    cases B.method.symm.trans hm'
    cases (Stand.of_body B).code.symm.trans hc'
    have hh0 : s₁.heap = s.heap := by rw [B.state]; rfl
    obtain ⟨t, a1, o, b1, b2, b3, b4⟩ := body p e s m args below meth c s₁ B hml he' hP s₁ hh0 (Stand.of_body B)
    exact ⟨t, o, a1, b1, b2, b3, b4⟩
/-- a word that any state with warmer tables still bears -/
def zt_gw (w : Cond) : Bool := (w.onTables && w.keepsFace) || goodWord w
theorem zt_word_at {a a' : Array Value} {s U : State} (hW : s.WarmedH U.vm) {w : Cond} (hc : zt_gw w = true) (h : w.before a s = true) : w.before a' U = true := by
  simp only [zt_gw, Bool.or_eq_true] at hc
  rcases hc with hc | hc
  · simp only [Bool.and_eq_true] at hc
    have h1 : w.before a (s.setVm U.vm) = true := Cond.before_shiftedFace (State.Shifted.of_warmed hW) w hc.2 h
    exact va_tabs hc.1 (rfl : (s.setVm U.vm).vm = U.vm) h1
  · exact word_at hW (good_of_word hc) h
/-- the callee's run, from the point where the invoking instruction has linked -/
theorem zt_in {T : State} {y : MethodName} {ws : List Cond} {rm : Room} {Pc : Array Value → State → Prop} {Qc : Array Value → State → Outcome → State → Prop} {kr nr kt nt maxL : Nat} {free : Addr → Prop}
    (X : Stand p l e R s m args below meth c T locs cells slots) (hM : zt_Met l y ws rm Pc Qc kr nr kt nt free)
    (hfr : rm.frames + 1 ≤ R.frames) (hlo : 8 + (maxL + 11) + rm.locals ≤ R.locals) (hf : cells + rm.cells ≤ R.cells ∧ slots + rm.slots ≤ R.slots)
    {mk : MethodId} {methY : Method} {cY : Code} (hn : T.methodNamed? y = some mk) (hmY : T.vm.method? mk = some methY) (hcY : methY.code = some cY) (hlY : cY.maxLocals = maxL) {a0 : Array Value} (hinit : (Cond.initialized y.cls).before a0 T = true)
    {g : JFrame} (hg : g.method = m) (hsize : g.locals.size = c.maxLocals) {ig : Instr} {len : Nat} (hdg : decode c.code g.pc = .ok (ig, len)) (hW : 2 * g.monitorRoom + (g.stack.map fun v => v.category).sum ≤ 8)
    {a : Array Value} (hws : ∀ w ∈ ws, w.before a T = true) (hP : Pc a (T.calling g mk a)) :
    ∃ (o : Outcome) (t T' : State) (L : List Loc), Stand p l e R s m args below meth c T' (locs ++ L) (cells + zt_k kr kt o) (slots + zt_k nr nt o) ∧ (∀ q ∈ L, free q.base) ∧ T'.heap = t.heap ∧ T'.vm = t.vm ∧ Qc a (T.calling g mk a) o t ∧
      Steps p.tables e below (doInvoke e (T.setTop g) [] mk a).1 t ∧ (∀ v, o = .returned v → t = T'.setTop { g with pc := g.pc + len, stack := v.toList ++ g.stack }) ∧ (∀ x, o = .threw x → t = (T'.setTop g).pushFrame (.throwing x)) := by
  obtain ⟨kY, hkY, -⟩ := className_of_methodNamed hn
  have hinitY : kY.init = .initialized := Cond.initialized_spec (findClass_of_methodNamed hn) hkY hinit
  have h : At T g.method c below := by rw [hg]; exact X.here
  have happ : (headSpec ws rm).appliesLoose y e.platform (T.calling g mk a) = true :=
    Spec.appliesLoose_calling (g := g) h hdg hn hkY hinitY (X.room_calling (g := g) (R' := rm) hsize hmY hcY hfr (by rw [hlY]; omega) hf.1 hf.2) (atoms_intro hws)
  obtain ⟨mid, hmid⟩ := h.above
  have hfr' : (T.setTop g).frames = (.java g :: mid) ++ below := by rw [State.frames_setTop' g h.top, hmid]; rfl
  obtain ⟨o, t, hsteps, -, hend, hq, L, ⟨hW₂, hsame⟩, hL⟩ := Steps.callFree hM p X.admits X.cas X.clock (acts := []) hfr' happ hP trivial
  rw [State.frames_setTop' g h.top, X.tail] at hend
  cases o with
  | returned v =>
    obtain ⟨T', X', -, -, ht⟩ := X.outOf hg hdg hend hW₂ hsame
    refine ⟨.returned v, t, T', L, X', hL, ?_, ?_, hq, hsteps, fun w hw => by cases hw; exact ht, fun x hx => by cases hx⟩
    · rw [ht]; simp [State.setTop, State.modifyTopJava, State.setFrames]
    · rw [ht]; simp [State.setTop, State.modifyTopJava, State.setFrames]
  | threw x =>
    obtain ⟨T', X', -, -, ht⟩ := X.outOfThrown hg hend hW₂ hsame
    refine ⟨.threw x, t, T', L, X', hL, ?_, ?_, hq, hsteps, fun w hw => by (cases hw), fun z hz => by cases hz; exact ht⟩
    · rw [ht]; exact (Stand.throwing_heap T' g x).symm
    · rw [ht]; exact (Stand.throwing_vm T' g x).symm
/-- a call that may throw -/
def zt_Run (p : Program) (l : Launch) (e : Env) (R : Room) (s : State) (m : MethodId) (args : Array Value) (below : List Frame) (meth : Method) (c : Code) (H : Heap) (locs : List Loc) (cells slots kr nr kt nt : Nat) (g : JFrame) (rest : List Value) (Qa : State → Outcome → State → Prop) (free : Addr → Prop) : Prop :=
  ∀ T : State, T.heap = H → Stand p l e R s m args below meth c T locs cells slots → ∃ (o : Outcome) (st₀ t T' : State) (L : List Loc), st₀.heap = H ∧ s.WarmedH st₀.vm ∧ Stand p l e R s m args below meth c T' (locs ++ L) (cells + zt_k kr kt o) (slots + zt_k nr nt o) ∧ (∀ q ∈ L, free q.base) ∧ T'.heap = t.heap ∧ T'.vm = t.vm ∧ Qa st₀ o t ∧
    (∀ v, o = .returned v → Goes p e below T g T' { g with pc := g.pc + 3, stack := v.toList ++ rest }) ∧ (∀ x, o = .threw x → ∀ target, Steps p.tables e below ((T'.setTop { g with stack := rest }).pushFrame (.throwing x)) target → Steps p.tables e below (T.setTop g) target)
/-- what a call asks of the tables and the room -/
def zt_Cw (R : Room) (s : State) (args : Array Value) (own : String) (index : Nat) (y : MethodName) (maxL : Nat) (ws : List Cond) (rm : Room) (n : Nat) : Prop :=
  rm.frames + 1 ≤ R.frames ∧ 8 + (maxL + 11) + rm.locals ≤ R.locals ∧ (∀ w ∈ ws, zt_gw w = true ∧ w.before args s = true) ∧ (Cond.initialized y.cls).before args s = true ∧ (Cond.methodLink own index y).before args s = true ∧
    (y.cls ≠ "java/lang/invoke/MethodHandle" ∧ y.cls ≠ "java/lang/invoke/VarHandle") ∧ (parseMethodDescriptor y.desc).map (fun d => d.parameters.length) = some n
theorem zt_runV {y : MethodName} {bytes cc : ByteArray} {maxL nL kr nr kt nt n index : Nat} {ret : Option FieldType} {ws : List Cond} {rm : Room} {Pc : Array Value → State → Prop} {Qc : Array Value → State → Outcome → State → Prop} {free : Addr → Prop} {own C : String} {b : Addr} {As rest : List Value} {g : JFrame}
    (hexec : p.tables.exec = Jvm.exec) (hb : c.code = cc) (hml : c.maxLocals = nL) (hown : s.vm.findClass own = some m.cls)
    (hM : zt_Met l y ws rm Pc Qc kr nr kt nt free) (cw : zt_Cw R s args own index y maxL ws rm n) (hinst : (Cond.instanceMethod y).before args s = true) (hsel : (Cond.selects C y y).before args s = true) (hcode : (Cond.code y bytes maxL ret).before args s = true)
    (hp : PreV s H C b Pc As) (hg : g.method = m) (hn : As.length = n) (hsize : g.locals.size = nL) (hstack : g.stack = As.reverse ++ .ref b :: rest) (hW : 2 * g.monitorRoom + (rest.map fun v => v.category).sum ≤ 8) (hdg : decode cc g.pc = .ok (.invokevirtual index, 3)) (hf : cells + rm.cells ≤ R.cells ∧ slots + rm.slots ≤ R.slots) :
    zt_Run p l e R s m args below meth c H locs cells slots kr nr kt nt g rest (Qc (Value.ref b :: As).toArray) free := by
  obtain ⟨hfr, hlo, hws, hini, hlink, hy, hlen⟩ := cw
  obtain ⟨hbl, ⟨cellB, hcB, hoB, hclB⟩, hPc⟩ := hp
  intro T hT X
  obtain ⟨mk, methM, hnamed, hmethM, hstM, habM⟩ := Cond.instanceMethod_spec hinst
  obtain ⟨methM', cM, hmethM', hcM, -, hlM, -, -, -, hsigM⟩ := Cond.code_spec hnamed hcode
  cases hmethM.symm.trans hmethM'
  obtain ⟨c2, r2, m2, q1, q2, q3, q4, kP, hkP, hkPi⟩ := Cond.selects_spec hsel
  cases hclB.symm.trans q1
  cases (State.methodFound?_of_named hnamed hy).symm.trans q2
  cases hnamed.symm.trans q3
  have hselP : selectMethod e.platform s.vm cellB.cls mk = .method mk := by rw [Launch.admits_selectMethod X.admits]; exact q4
  have hlenA : As.length = methM.sig.parameters.length := by
    rw [hsigM] at hlen
    have h1 : methM.sig.parameters.length = n := Option.some.inj hlen
    rw [hn, h1]
  obtain ⟨vm₁, X₁, hstep₁⟩ := X.invokevirtual hexec hown hlink hnamed hmethM hstM hkP hkPi hy (a := b) (cell := cellB) (by rw [hT]; exact hcB)
    (fun z h => by rw [h] at hoB; cases hoB) hselP hmethM habM hkP hkPi (g := g) hg (argsL := As) (rest := rest) hlenA hstack (by rw [hb]; exact hdg)
  have hmk₁ : (T.setVm vm₁).vm.method? mk = some methM := by
    have := X₁.warmed.alike.method? (m := mk)
    exact this.trans hmethM
  obtain ⟨o, t, T', L, X', hL, e1, e2, hq, hst, hr, hx⟩ := zt_in (g := { g with stack := rest }) X₁ hM hfr hlo hf (X₁.named hnamed) hmk₁ hcM hlM (a0 := args) (zt_word_at X₁.warmed (by simp [zt_gw, Cond.onTables, Cond.keepsFace, Cond.keeps, Cond.steady]) hini) hg (hsize.trans hml.symm) (ig := .invokevirtual index) (len := 3) (by rw [hb]; exact hdg) hW
    (a := (Value.ref b :: As).toArray) (fun w hw => zt_word_at X₁.warmed (hws w hw).1 (hws w hw).2) (hbl _ _ _ _ (hPc (T.setVm vm₁) hT X₁.warmed))
  refine ⟨o, _, t, T', L, ?_, ?_, X', hL, e1, e2, hq, fun v hv target h => hstep₁ _ fun acts => ?_, fun x hx' target h => hstep₁ _ fun acts => ?_⟩
  · exact hT
  · exact X₁.warmed
  · rw [doInvoke_state]; exact hst.trans (by rw [hr v hv]; exact h)
  · rw [doInvoke_state]; exact hst.trans (by rw [hx x hx']; exact h)
theorem zt_runS {y : MethodName} {cc : ByteArray} {maxL nL kr nr kt nt n index : Nat} {ws : List Cond} {rm : Room} {Pc : Array Value → State → Prop} {Qc : Array Value → State → Outcome → State → Prop} {free : Addr → Prop} {own : String} {As rest : List Value} {g : JFrame}
    (hexec : p.tables.exec = Jvm.exec) (hb : c.code = cc) (hml : c.maxLocals = nL) (hown : s.vm.findClass own = some m.cls)
    (hM : zt_Met l y ws rm Pc Qc kr nr kt nt free) (cw : zt_Cw R s args own index y maxL ws rm n) (hstat : (Cond.static y).before args s = true)
    (hcode : ∃ (mk : MethodId) (methM : Method) (cM : Code), s.methodNamed? y = some mk ∧ s.vm.method? mk = some methM ∧ methM.code = some cM ∧ cM.maxLocals = maxL ∧ parseMethodDescriptor y.desc = some methM.sig)
    (hp : PreS s H Pc As) (hg : g.method = m) (hn : As.length = n) (hsize : g.locals.size = nL) (hstack : g.stack = As.reverse ++ rest) (hW : 2 * g.monitorRoom + (rest.map fun v => v.category).sum ≤ 8) (hdg : decode cc g.pc = .ok (.invokestatic index, 3)) (hf : cells + rm.cells ≤ R.cells ∧ slots + rm.slots ≤ R.slots) :
    zt_Run p l e R s m args below meth c H locs cells slots kr nr kt nt g rest (Qc As.toArray) free := by
  obtain ⟨hfr, hlo, hws, hini, hlink, hy, hlen⟩ := cw
  obtain ⟨hbl, hPc⟩ := hp
  intro T hT X
  obtain ⟨mk, methM, cM, hnamed, hmethM, hcM, hlM, hsigM⟩ := hcode
  have hstatic : methM.isStatic = true := Cond.static_spec hnamed hmethM hstat
  obtain ⟨kP, hkP, -⟩ := className_of_methodNamed hnamed
  have hinitP : kP.init = .initialized := Cond.initialized_spec (findClass_of_methodNamed hnamed) hkP hini
  have hlenA : As.length = methM.sig.parameters.length := by
    rw [hsigM] at hlen
    have h1 : methM.sig.parameters.length = n := Option.some.inj hlen
    rw [hn, h1]
  obtain ⟨vm₁, X₁, hstep₁⟩ := X.invokestatic hexec hown hlink hnamed hmethM hstatic hkP hinitP hy (g := g) hg (argsL := As) (rest := rest) hlenA hstack (by rw [hb]; exact hdg)
  have hmk₁ : (T.setVm vm₁).vm.method? mk = some methM := by
    have := X₁.warmed.alike.method? (m := mk)
    exact this.trans hmethM
  obtain ⟨o, t, T', L, X', hL, e1, e2, hq, hst, hr, hx⟩ := zt_in (g := { g with stack := rest }) X₁ hM hfr hlo hf (X₁.named hnamed) hmk₁ hcM hlM (a0 := args) (zt_word_at X₁.warmed (by simp [zt_gw, Cond.onTables, Cond.keepsFace, Cond.keeps, Cond.steady]) hini) hg (hsize.trans hml.symm) (ig := .invokestatic index) (len := 3) (by rw [hb]; exact hdg) hW
    (a := As.toArray) (fun w hw => zt_word_at X₁.warmed (hws w hw).1 (hws w hw).2) (hbl _ _ _ _ (hPc (T.setVm vm₁) hT X₁.warmed))
  refine ⟨o, _, t, T', L, ?_, ?_, X', hL, e1, e2, hq, fun v hv target h => hstep₁ _ fun acts => ?_, fun x hx' target h => hstep₁ _ fun acts => ?_⟩
  · exact hT
  · exact X₁.warmed
  · rw [doInvoke_state]; exact hst.trans (by rw [hr v hv]; exact h)
  · rw [doInvoke_state]; exact hst.trans (by rw [hx x hx']; exact h)
/-- what has been thrown: a new cell of the class named; nothing that was there has changed -/
def zt_Th (E : String) (x : Addr) (st t : State) : Prop := st.heap.size ≤ x ∧ st.heap.size ≤ t.heap.size ∧ (∀ q : Nat, q < st.heap.size → t.heap[q]? = st.heap[q]?) ∧ ∃ ce : Cell, t.heap[x]? = some ce ∧ st.vm.findClass E = some ce.cls ∧ ce.vm = .none
theorem zt_same_old {s t : State} {k n : Nat} (h : s.sameButNew t [] k n) : s.heap.size ≤ t.heap.size ∧ ∀ q : Nat, q < s.heap.size → t.heap[q]? = s.heap[q]? := by
  obtain ⟨-, h2, -, -, -, h6⟩ := h
  refine ⟨h2, fun q hq => ?_⟩
  have hc : s.heap[q]? = some s.heap[q] := Array.getElem?_eq_getElem hq
  obtain ⟨c', h1, e1, hs, hi⟩ := h6 q _ hc
  rw [h1, hc]
  congr 1
  rw [e1]
  have : c'.slots = (s.heap[q]).slots := by
    apply Array.ext_getElem?
    intro i
    exact hi i (by simp)
  rw [this]
/-- the walked method is left by what its callee has thrown -/
theorem zt_out {T' : State} {x : Addr} {g : JFrame} {Qc : Array Value → State → Outcome → State → Prop} {free : Addr → Prop} {kr nr : Nat} (X : Stand p l e R s m args below meth c T' locs cells slots) (hg : g.method = m) (hlocked : g.locked = none) (hentered : g.entered = [])
    (hout : c.exceptionTable.toList = []) (hlocks : meth.locks = false) (hL : ∀ q ∈ locs, free q.base) (hq : ∀ t : State, t.heap = T'.heap → t.vm = T'.vm → s.WarmedH t.vm → Qc args s (.threw x) t) :
    ∃ t, Steps p.tables e below ((T'.setTop g).pushFrame (.throwing x)) t ∧ zt_MQ below Qc args s kr nr cells slots free t := by
  obtain ⟨h1, h2, h3, h4, h5⟩ := X.leaveThrown x (g := g) hg hlocked hentered (fun y hy => by rw [hout] at hy; cases hy) hlocks
  exact ⟨_, h1, _, h2, h3, hq _ rfl rfl h4, locs, ⟨h4, h5⟩, hL⟩
end ZT
