/-! rows for calls that may throw, for throws of one's own, for handlers -/
section ZU
variable {p : Program} {l : Launch} {e : Env} {R : Room} {s : State} {m : MethodId} {args : Array Value} {below : List Frame} {meth : Method} {c : Code} {H : Heap} {locs : List Loc} {cells slots : Nat} {Q Q' : State → Prop}
variable {cc : ByteArray} {pc : Nat} {ls : Array Slot} {rest st0 : List Value} {kr nr kt nt : Nat} {free : Addr → Prop} {Qa : State → Outcome → State → Prop}
theorem zt_ti {x y : Int32} (h : x = y) (k : W p l e R s m args below meth c H locs cells slots Q (F0 m pc ls (.int y :: rest))) : W p l e R s m args below meth c H locs cells slots Q (F0 m pc ls (.int x :: rest)) := h ▸ k
theorem zt_tl {x y : Int64} (h : x = y) (k : W p l e R s m args below meth c H locs cells slots Q (F0 m pc ls (.long y :: rest))) : W p l e R s m args below meth c H locs cells slots Q (F0 m pc ls (.long x :: rest)) := h ▸ k
/-- x is being thrown over the method's own frame g -/
def zt_X (p : Program) (l : Launch) (e : Env) (R : Room) (s : State) (m : MethodId) (args : Array Value) (below : List Frame) (meth : Method) (c : Code) (H : Heap) (locs : List Loc) (cells slots : Nat) (Q : State → Prop) (g : JFrame) (x : Addr) : Prop :=
  ∀ T : State, T.heap = H → Stand p l e R s m args below meth c T locs cells slots → ∃ t, Steps p.tables e below ((T.setTop g).pushFrame (.throwing x)) t ∧ Q t
theorem zt_call (hr : zt_Run p l e R s m args below meth c H locs cells slots kr nr kt nt (F0 m pc ls st0) rest Qa free)
    (kr : ∀ (v : Option Value) (st t : State) (L : List Loc), st.heap = H → s.WarmedH st.vm → s.WarmedH t.vm → (∀ q ∈ L, free q.base) → Qa st (.returned v) t → W p l e R s m args below meth c t.heap (locs ++ L) (cells + kr) (slots + nr) Q (F0 m (pc + 3) ls (v.toList ++ rest)))
    (kt : ∀ (x : Addr) (st t : State) (L : List Loc), st.heap = H → s.WarmedH st.vm → s.WarmedH t.vm → (∀ q ∈ L, free q.base) → Qa st (.threw x) t → zt_X p l e R s m args below meth c t.heap (locs ++ L) (cells + kt) (slots + nt) Q (F0 m pc ls rest) x) :
    W p l e R s m args below meth c H locs cells slots Q (F0 m pc ls st0) := by
  intro T hT X
  obtain ⟨o, st₀, t, T', L, h0, hW0, X', hL, e1, e2, hq, hret, hthr⟩ := hr T hT X
  have hWt : s.WarmedH t.vm := e2 ▸ X'.warmed
  cases o with
  | returned v =>
    obtain ⟨t2, a1, b1⟩ := kr v st₀ t L h0 hW0 hWt hL hq T' e1 X'
    exact ⟨t2, hret v rfl t2 a1, b1⟩
  | threw x =>
    obtain ⟨t2, a1, b1⟩ := kt x st₀ t L h0 hW0 hWt hL hq T' e1 X'
    exact ⟨t2, hthr x rfl t2 a1, b1⟩
/-- a call that only returns -/
theorem zt_callr (hr : zt_Run p l e R s m args below meth c H locs cells slots kr nr kt nt (F0 m pc ls st0) rest Qa free) (hn : ∀ x st t, ¬ Qa st (.threw x) t)
    (kr : ∀ (v : Option Value) (st t : State) (L : List Loc), st.heap = H → s.WarmedH st.vm → s.WarmedH t.vm → (∀ q ∈ L, free q.base) → Qa st (.returned v) t → W p l e R s m args below meth c t.heap (locs ++ L) (cells + kr) (slots + nr) Q (F0 m (pc + 3) ls (v.toList ++ rest))) :
    W p l e R s m args below meth c H locs cells slots Q (F0 m pc ls st0) :=
  zt_call hr kr (fun x st t _ _ _ _ _ hq => absurd hq (hn x st t))
theorem zt_X_out {x : Addr} {Qc : Array Value → State → Outcome → State → Prop} (hout : c.exceptionTable.toList = []) (hlocks : meth.locks = false) (hL : ∀ q ∈ locs, free q.base) (hq : ∀ t : State, t.heap = H → s.WarmedH t.vm → Qc args s (.threw x) t) :
    zt_X p l e R s m args below meth c H locs cells slots (zt_MQ below Qc args s kr nr cells slots free) (F0 m pc ls rest) x := by
  intro T hT X
  exact zt_out X rfl rfl rfl hout hlocks hL (fun t ht hv hW => hq t (ht.trans hT) hW)
theorem zt_X_widen {x : Addr} {g : JFrame} {k n : Nat} (h1 : cells ≤ k) (h2 : slots ≤ n) (kk : zt_X p l e R s m args below meth c H locs k n Q g x) : zt_X p l e R s m args below meth c H locs cells slots Q g x := fun T hT X => kk T hT (stand_widen X h1 h2)
theorem zt_X_forget {x : Addr} {g : JFrame} {L : List Loc} (hL : ∀ q ∈ L, s.heap.size ≤ q.base) (kk : zt_X p l e R s m args below meth c H locs cells slots Q g x) : zt_X p l e R s m args below meth c H (locs ++ L) cells slots Q g x := fun T hT X => kk T hT (Stand.forget X hL)
theorem zt_W_forget {g : JFrame} {L : List Loc} (hL : ∀ q ∈ L, s.heap.size ≤ q.base) (kk : W p l e R s m args below meth c H locs cells slots Q g) : W p l e R s m args below meth c H (locs ++ L) cells slots Q g := fun T hT X => kk T hT (Stand.forget X hL)
/-- a read, or a throw of a new E that changes nothing -/
def zt_Qp (ok : Prop) (r : Option Value) (E : String) : Array Value → State → Outcome → State → Prop := fun _ st o t => (ok ∧ o = .returned r ∧ t.heap = st.heap) ∨ (¬ ok ∧ ∃ x, o = .threw x ∧ zt_Th E x st t)
/-- a read -/
def zt_Qr (r : Option Value) : Array Value → State → Outcome → State → Prop := fun _ st o t => o = .returned r ∧ t.heap = st.heap
theorem zt_Th_to {E : String} {x : Addr} {st t st' t' : State} (h : zt_Th E x st t) (h1 : st'.heap = st.heap) (hW : st'.WarmedH st.vm) (h2 : t'.heap = t.heap) : zt_Th E x st' t' := by
  obtain ⟨a1, a2, a3, ce, a4, a5, a6⟩ := h
  rw [← h1] at a1 a2 a3
  refine ⟨a1, by rw [h2]; exact a2, fun q hq => by rw [h2]; exact a3 q hq, ce, by rw [h2]; exact a4, ?_, a6⟩
  rw [← hW.alike.findClass]
  exact a5
/-- a call of a reader that may throw, from an unchanged heap; what it throws goes on -/
theorem zt_callP {ok : Prop} {r : Option Value} {E : String} {a : Array Value} {Qc : Array Value → State → Outcome → State → Prop} {free' : Addr → Prop} {ar br kc ks : Nat} (hr : zt_Run p l e R s m args below meth c s.heap [] cells slots kr nr kt nt (F0 m pc ls st0) rest (zt_Qp ok r E a) (fun _ => False)) (hout : c.exceptionTable.toList = []) (hlocks : meth.locks = false)
    (hkc : cells + kt ≤ kc) (hks : slots + nt ≤ ks) (hth : ¬ ok → ∀ (t : State) (x : Addr), zt_Th E x s t → s.WarmedH t.vm → Qc args s (.threw x) t)
    (k : ok → W p l e R s m args below meth c s.heap [] (cells + kr) (slots + nr) (zt_MQ below Qc args s ar br kc ks free') (F0 m (pc + 3) ls (r.toList ++ rest))) : W p l e R s m args below meth c s.heap [] cells slots (zt_MQ below Qc args s ar br kc ks free') (F0 m pc ls st0) := by
  refine zt_call hr (fun v st t L h0 hW0 hWt hL hq => ?_) (fun x st t L h0 hW0 hWt hL hq => ?_)
  · rcases hq with ⟨hok, hv, hh⟩ | ⟨_, x, hx, _⟩
    · cases hv
      rw [hh, h0]
      exact zt_W_forget (fun q h => (hL q h).elim) (k hok)
    · cases hx
  · rcases hq with ⟨_, hv, _⟩ | ⟨hno, x', hx, hTh⟩
    · cases hv
    · cases hx
      refine zt_X_forget (fun q h => (hL q h).elim) (zt_X_widen hkc hks ?_)
      exact zt_X_out hout hlocks (fun q h => by cases h) (fun t' ht' hW => hth hno t' x (zt_Th_to hTh h0.symm hW0 ht') hW)
/-- a call of a reader, from any heap -/
theorem zt_callR {r : Option Value} {a : Array Value} (hr : zt_Run p l e R s m args below meth c H locs cells slots kr nr kt nt (F0 m pc ls st0) rest (zt_Qr r a) (fun _ => False))
    (k : W p l e R s m args below meth c H locs (cells + kr) (slots + nr) Q (F0 m (pc + 3) ls (r.toList ++ rest))) : W p l e R s m args below meth c H locs cells slots Q (F0 m pc ls st0) := by
  refine zt_callr hr (fun x st t hq => by have := hq.1; cases this) (fun v st t L h0 hW0 hWt hL hq => ?_)
  obtain ⟨hv, hh⟩ := hq
  cases hv
  rw [hh, h0]
  exact zt_W_forget (fun q h => (hL q h).elim) k
/-- throw new E("..") -/
theorem zt_throwNew {Qc : Array Value → State → Outcome → State → Prop} {free' : Addr → Prop} {ar br kc ks : Nat} (hexec : p.tables.exec = Jvm.exec) (hb : c.code = cc) (htr : e.platform.stackTraces = false) (hml : ls.size = c.maxLocals) {own cls tx : String} {names : List String} {ix is ic q : Nat}
    (hown : s.vm.findClass own = some m.cls) (hcls : Bundle.fit cls = true) (hnames : ∀ n ∈ names, Bundle.fit n = true) (h : ∀ a ∈ Bundle.ownAtoms own ic cls names, a.before args s = true)
    (hclink : (Cond.classLink own ix cls).before args s = true) (hins : (Cond.instantiable cls 6).before args s = true) (hinit : (Cond.initialized cls).before args s = true) (hZ : vk_R own is tx q s)
    (hout : c.exceptionTable.toList = []) (hlocks : meth.locks = false)
    (d0 : decode cc pc = .ok (.new ix, 3)) (d3 : decode cc (pc + 3) = .ok (.dup, 1)) (d4 : decode cc (pc + 3 + 1) = .ok (.ldc is, 2)) (d6 : decode cc (pc + 3 + 1 + 2) = .ok (.invokespecial ic, 3)) (d9 : decode cc (pc + 3 + 1 + 2 + 3) = .ok (.athrow, 1))
    (hcells : cells + 1 ≤ R.cells) (hslots : slots + 6 ≤ R.slots) (hkc : cells + 1 ≤ kc) (hks : slots + 6 ≤ ks) (hfr : names.length + 3 < R.frames) (hlo : (rest.map fun v => v.category).sum + (13 * (names.length + 1) + 44) ≤ R.locals)
    (hq : ∀ (t : State) (x : Addr), zt_Th cls x s t → s.WarmedH t.vm → Qc args s (.threw x) t) :
    W p l e R s m args below meth c s.heap [] cells slots (zt_MQ below Qc args s ar br kc ks free') (F0 m pc ls rest) := by
  refine W.newc hexec hb hown hclink hins hinit rfl d0 hcells hslots (fun cC kC hfc hkC hord hn => ?_)
  refine W.eq (g2 := F0 m (pc + 3) ls (.ref s.heap.size :: rest)) rfl ?_
  refine lv_dup hexec hb d3 rfl ?_
  refine va_ldcS hexec hb hown hZ d4 ?_
  intro T hT X
  have hcell : T.heap[s.heap.size]? = some (freshCell cC kC) := by rw [hT]; simp
  have hmr : 2 * (F0 m (pc + 3 + 1 + 2) ls (.ref q :: .ref s.heap.size :: .ref s.heap.size :: rest)).monitorRoom = 0 := rfl
  have hcat : (Value.ref s.heap.size).category = 1 := rfl
  obtain ⟨U, h1, h2, h3, h4, h5, ce, h6, h7⟩ := X.ctorThrowS hexec htr hown hcls hnames h (fun x hx => by cases hx) hfc hkC hcell (Nat.le_refl _) (msg := .ref q) rfl (g := F0 m (pc + 3 + 1 + 2) ls (.ref q :: .ref s.heap.size :: .ref s.heap.size :: rest)) rfl hml rfl rfl (rest := rest) rfl
    (by rw [hb]; exact d6) (by rw [hb]; exact d9) (fun y hy => by rw [hout] at hy; cases hy) hfr (by rw [hmr]; simp only [List.map_cons, List.sum_cons, hcat]; omega) hlocks
  refine ⟨U, h1, .threw _, h2, h3, ?_, [], ⟨h4, h5.mono hkc hks⟩, fun q hq => by cases hq⟩
  have h8 := zt_same_old h5
  exact hq U _ ⟨Nat.le_refl _, h8.1, h8.2, ce, h6, h7.cls, h7.vm⟩ h4
end ZU
