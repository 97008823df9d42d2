/-! what the law's helpers stand on: a call of the chooser that returns or throws, the handlers -/
section ZC
variable {p : Program} {l : Launch} {e : Env} {R : Room} {s : State} {m : MethodId} {args : Array Value} {below : List Frame} {meth : Method} {c : Code} {H : Heap} {locs : List Loc} {cells slots : Nat} {Q : State → Prop}
variable {pc : Nat} {ls : Array Slot} {rest : List Value} {x : Addr}
/-- a thrown cell of the class named E -/
def zt_Is (E : String) (x : Addr) (s : State) (H : Heap) : Prop := ∃ ce : Cell, H[x]? = some ce ∧ s.vm.findClass E = some ce.cls ∧ ce.vm = .none
/-- the first handler takes it -/
theorem zt_catch1 {own E : String} {a0 b0 hp ct : Nat} {more : List (Nat × Nat × Nat × Nat)} (htab : c.exceptionTable.toList.map (fun h => (h.startPc, h.endPc, h.handlerPc, h.catchType)) = (a0, b0, hp, ct) :: more) (h1 : a0 ≤ pc) (h2 : pc < b0) (h0 : ct ≠ 0)
    (hown : s.vm.findClass own = some m.cls) (hlink : (Cond.classLink own ct E).before args s = true) (hins : (Cond.instantiable E 6).before args s = true) (hcast : (Cond.castable E E).before args s = true) (hX : zt_Is E x s H)
    (k : W p l e R s m args below meth c H locs cells slots Q (F0 m hp ls [.ref x])) : zt_X p l e R s m args below meth c H locs cells slots Q (F0 m pc ls rest) x := by
  obtain ⟨ce, hce, hfc, hvm⟩ := hX
  obtain ⟨cE, kE, hfE, hkE, -, -⟩ := Cond.instantiable_spec hins
  cases hfc.symm.trans hfE
  obtain ⟨c1, c2, g1, g2, g3⟩ := Cond.castable_spec hcast
  cases hfc.symm.trans g1
  cases hfc.symm.trans g2
  intro T hT X
  obtain ⟨cl, q1, q2, q3⟩ := zt_link X hown hlink
  cases hfc.symm.trans q1
  obtain ⟨t, a1, b1⟩ := k (T.setVm (T.vm.noted m.cls ct (.cls ce.cls))) hT (X.noted q3)
  refine ⟨t, ?_, b1⟩
  obtain ⟨k2, hk2, -⟩ := q3.alike.2.2 _ _ hkE
  cases hl : c.exceptionTable.toList with
  | nil => rw [hl] at htab; cases htab
  | cons y ys =>
    rw [hl] at htab
    simp only [List.map_cons, List.cons.injEq, Prod.mk.injEq] at htab
    obtain ⟨⟨e1, e2, e3, e4⟩, -⟩ := htab
    refine zt_caught (g := F0 m pc ls rest) (pc := hp) (vm' := T.vm.noted m.cls ct (.cls ce.cls)) X.here (fun Q E d acts => ?_) a1
    rw [Jvm.W.findHandler_eq (s := (T.setTop (F0 m pc ls rest)).pushFrame (.throwing x)) (f := F0 m pc ls rest) (meth := meth) (code := c) X.method' X.code, hl]
    rw [zt_go_cold (f := F0 m pc ls rest) (u := (T.setTop (F0 m pc ls rest)).pushFrame (.throwing x)) (cl := ce.cls) (cell := ce) (vm' := T.vm.noted m.cls ct (.cls ce.cls)) (by simp only [covers, e1, e2, Bool.and_eq_true, decide_eq_true_eq]; exact ⟨h1, h2⟩) (by rw [e4]; exact h0) (by rw [e4]; exact q2) (by rw [Vm.size_noted]; exact Nat.le_refl _) (by rw [← hT] at hce; exact hce) (fun k h => by rw [hvm] at h; cases h) ⟨k2, hk2⟩ ⟨k2, hk2⟩]
    rw [if_pos (by rw [q3.alike.assignable]; exact g3), e3]
/-- the second does: the first is of another class -/
theorem zt_catch2 {own E E1 : String} {a0 b0 hp ct a2 b2 hp2 ct2 : Nat} {more : List (Nat × Nat × Nat × Nat)} (htab : c.exceptionTable.toList.map (fun h => (h.startPc, h.endPc, h.handlerPc, h.catchType)) = (a2, b2, hp2, ct2) :: (a0, b0, hp, ct) :: more) (h1 : a0 ≤ pc) (h2 : pc < b0) (h0 : ct ≠ 0) (h3 : a2 ≤ pc) (h4 : pc < b2) (h5 : ct2 ≠ 0)
    (hown : s.vm.findClass own = some m.cls) (hlink : (Cond.classLink own ct E).before args s = true) (hlink1 : (Cond.classLink own ct2 E1).before args s = true) (hins : (Cond.instantiable E 6).before args s = true) (hins1 : (Cond.instantiable E1 6).before args s = true) (hcast : (Cond.castable E E).before args s = true) (hno : va_Nc E E1 s) (hX : zt_Is E x s H)
    (k : W p l e R s m args below meth c H locs cells slots Q (F0 m hp ls [.ref x])) : zt_X p l e R s m args below meth c H locs cells slots Q (F0 m pc ls rest) x := by
  obtain ⟨ce, hce, hfc, hvm⟩ := hX
  obtain ⟨cE, kE, hfE, hkE, -, -⟩ := Cond.instantiable_spec hins
  cases hfc.symm.trans hfE
  obtain ⟨cF, kF, hfF, hkF, -, -⟩ := Cond.instantiable_spec hins1
  obtain ⟨c1, c2, g1, g2, g3⟩ := Cond.castable_spec hcast
  cases hfc.symm.trans g1
  cases hfc.symm.trans g2
  obtain ⟨n1, n2, f1, f2, f3⟩ := hno
  cases hfc.symm.trans f1
  cases hfF.symm.trans f2
  intro T hT X
  obtain ⟨cl1, p1, p2, p3⟩ := zt_link X hown hlink1
  cases hfF.symm.trans p1
  have X1 := X.noted p3
  obtain ⟨cl, q1, q2, q3⟩ := zt_link X1 hown hlink
  cases hfc.symm.trans q1
  obtain ⟨t, a1, b1⟩ := k (T.setVm ((T.vm.noted m.cls ct2 (.cls cF)).noted m.cls ct (.cls ce.cls))) hT (X1.noted q3)
  refine ⟨t, ?_, b1⟩
  obtain ⟨k2, hk2, -⟩ := q3.alike.2.2 _ _ hkE
  obtain ⟨k3, hk3, -⟩ := p3.alike.2.2 _ _ hkE
  obtain ⟨k4, hk4, -⟩ := p3.alike.2.2 _ _ hkF
  cases hl : c.exceptionTable.toList with
  | nil => rw [hl] at htab; cases htab
  | cons y ys =>
    rw [hl] at htab
    simp only [List.map_cons, List.cons.injEq, Prod.mk.injEq] at htab
    obtain ⟨⟨d1, d2, d3, d4⟩, htab⟩ := htab
    cases ys with
    | nil => cases htab
    | cons z zs =>
      simp only [List.map_cons, List.cons.injEq, Prod.mk.injEq] at htab
      obtain ⟨⟨e1, e2, e3, e4⟩, -⟩ := htab
      refine zt_caught (g := F0 m pc ls rest) (pc := hp) (vm' := (T.vm.noted m.cls ct2 (.cls cF)).noted m.cls ct (.cls ce.cls)) X.here (fun Q E d acts => ?_) a1
      rw [Jvm.W.findHandler_eq (s := (T.setTop (F0 m pc ls rest)).pushFrame (.throwing x)) (f := F0 m pc ls rest) (meth := meth) (code := c) X.method' X.code, hl]
      rw [zt_go_cold (f := F0 m pc ls rest) (u := (T.setTop (F0 m pc ls rest)).pushFrame (.throwing x)) (cl := cF) (cell := ce) (vm' := T.vm.noted m.cls ct2 (.cls cF)) (by simp only [covers, d1, d2, Bool.and_eq_true, decide_eq_true_eq]; exact ⟨h3, h4⟩) (by rw [d4]; exact h5) (by rw [d4]; exact p2) (by rw [Vm.size_noted]; exact Nat.le_refl _) (by rw [← hT] at hce; exact hce) (fun k h => by rw [hvm] at h; cases h) ⟨k3, hk3⟩ ⟨k4, hk4⟩]
      rw [if_neg (by rw [p3.alike.assignable, f3]; exact Bool.false_ne_true)]
      rw [zt_go_cold (f := F0 m pc ls rest) (u := ((T.setTop (F0 m pc ls rest)).pushFrame (.throwing x)).setVm (T.vm.noted m.cls ct2 (.cls cF))) (cl := ce.cls) (cell := ce) (vm' := (T.vm.noted m.cls ct2 (.cls cF)).noted m.cls ct (.cls ce.cls)) (by simp only [covers, e1, e2, Bool.and_eq_true, decide_eq_true_eq]; exact ⟨h1, h2⟩) (by rw [e4]; exact h0) (by rw [e4]; exact q2) (by rw [Vm.size_noted]; exact Nat.le_refl _) (by rw [← hT] at hce; exact hce) (fun k h => by rw [hvm] at h; cases h) ⟨k2, hk2⟩ ⟨k2, hk2⟩]
      rw [if_pos (show ((T.vm.noted m.cls ct2 (.cls cF)).noted m.cls ct (.cls ce.cls)).assignable ce.cls ce.cls = true from Eq.trans (q3.alike.assignable _ _) g3), e3]
      rfl
end ZC
/-! the chooser's world and the answer's cell -/
abbrev zo_w (ad : Nat → Nat) (cJ : ClassId) (f : Nat → Int64) : va_W := [(ad 6, .inl (cJ, 1, .inr (.inl f)))]
theorem zh_D {ad : Nat → Nat} {cI cJ : ClassId} {lev val pkd chs : Nat → Int32} {cst f : Nat → Int64} {D N F k sz : Nat} (had : zg_ap ad 7) : va_D (zg_A ad 7 sz) (zx_w ad cI cJ lev val pkd cst chs D N F k ++ zo_w ad cJ f) := by
  have key : ∀ (i : Nat) (q : Nat × va_E), (zx_w ad cI cJ lev val pkd cst chs D N F k ++ zo_w ad cJ f)[i]? = some q → i < 7 ∧ q.1 = ad i := by
    intro i q h
    match i, h with
    | 0, h => cases h; exact ⟨by decide, rfl⟩
    | 1, h => cases h; exact ⟨by decide, rfl⟩
    | 2, h => cases h; exact ⟨by decide, rfl⟩
    | 3, h => cases h; exact ⟨by decide, rfl⟩
    | 4, h => cases h; exact ⟨by decide, rfl⟩
    | 5, h => cases h; exact ⟨by decide, rfl⟩
    | 6, h => cases h; exact ⟨by decide, rfl⟩
    | i + 7, h => simp at h
  refine ⟨fun i j p q hi hj e => ?_, fun i q hi => ?_⟩
  · obtain ⟨h1, h2⟩ := key i p hi
    obtain ⟨h3, h4⟩ := key j q hj
    exact had i j h1 h3 (by rw [← h2, ← h4]; exact e)
  · obtain ⟨h1, h2⟩ := key i q hi
    exact Or.inl ⟨i, h1, h2⟩
theorem zg_ap6 {ad : Nat → Nat} (h : zg_ap ad 7) : zg_ap ad 6 := fun i j hi hj e => h i j (by omega) (by omega) e
theorem zg_A67 {ad : Nat → Nat} {sz q : Nat} (h : zg_A ad 6 sz q) : zg_A ad 7 sz q := h.elim (fun ⟨i, hi, e⟩ => Or.inl ⟨i, by omega, e⟩) Or.inr
theorem zg_not6 {ad : Nat → Nat} {sz : Nat} (had : zg_ap ad 7) (h : ad 6 < sz) : ¬ zg_A ad 6 sz (ad 6) := fun q => by
  rcases q with ⟨i, hi, e⟩ | q
  · have := had 6 i (by omega) (by omega) e
    omega
  · omega
/-- a helper's start -/
def zg_V (dC : Nat → ClassId) (dI : Nat → Nat → Nat) (cI cJ cB : ClassId) (w : va_W) (sz : Nat) (U : State) : Prop := zg_U dC dI cI cJ cB w sz U ∧ va_Nc zE_S zE_A U
theorem zg_V_blind {dC : Nat → ClassId} {dI : Nat → Nat → Nat} {cI cJ cB : ClassId} {w : va_W} {sz : Nat} {av : List Value} : FrameBlind (va_Pc av (zg_V dC dI cI cJ cB w sz)) :=
  fun a U g mk q => ⟨q.1, (zg_U_blind a U g mk ⟨q.1, q.2.1⟩).2, va_Nc.moved (u := U) (U := U.calling g mk a) (Vm.Alike.refl U.vm) q.2.2⟩
/-- a helper's end: its number; where it is 0 what is new, else all as it was -/
def zg_H {S : Type} (dC : Nat → ClassId) (dI : Nat → Nat → Nat) (cd : Nat) (post : S → Prop) (w0 : va_W) (w : S → va_W) (A : Nat → Prop) : Array Value → State → Outcome → State → Prop := fun _ st o t =>
  (cd = 0 ∧ ∃ u : S, o = .returned (some (.int (nI 0))) ∧ post u ∧ va_P (dC, dI) zcl (w u) t.heap ∧ va_F A st t) ∨ (cd ≠ 0 ∧ o = .returned (some (.int (nI cd))) ∧ va_P (dC, dI) zcl w0 t.heap ∧ va_F A st t)
section ZH
variable {p : Program} {l : Launch} {e : Env} {R : Room} {s : State} {m : MethodId} {args : Array Value} {below : List Frame} {meth : Method} {c : Code} {H : Heap} {locs : List Loc} {cells slots : Nat} {Q : State → Prop}
variable {cc : ByteArray} {pc : Nat} {ls : Array Slot} {rest st0 : List Value} {kr nr kt nt : Nat} {free free' : Addr → Prop} {Qa Qa' : State → Outcome → State → Prop} {g : JFrame}
theorem zt_Run_mono (h : ∀ st o t, st.heap = H → Qa st o t → Qa' st o t) (hf : ∀ q, free q → free' q) (hr : zt_Run p l e R s m args below meth c H locs cells slots kr nr kt nt g rest Qa free) : zt_Run p l e R s m args below meth c H locs cells slots kr nr kt nt g rest Qa' free' := by
  intro T hT X
  obtain ⟨o, st, t, T', L, h1, h2, h3, h4, h5, h6, h7, h8, h9⟩ := hr T hT X
  exact ⟨o, st, t, T', L, h1, h2, h3, fun q hq => hf _ (h4 q hq), h5, h6, h _ _ _ h1 h7, h8, h9⟩
/-- an instance call of a writer that may throw, from an unchanged heap -/
theorem zg_runU {dC : Nat → ClassId} {dI : Nat → Nat → Nat} {cI cJ cB : ClassId} {w : va_W} {y : MethodName} {bytes : ByteArray} {maxL nL n index ci b q0 : Nat} {q : vw_C} {fs : List Value} {ret : Option FieldType} {ws : List Cond} {rm : Room} {Qc : Array Value → State → Outcome → State → Prop} {own : String} {As : List Value}
    (hexec : p.tables.exec = Jvm.exec) (hb : c.code = cc) (hml : c.maxLocals = nL) (hown : s.vm.findClass own = some m.cls)
    (hM : zt_Met l y ws rm (va_Pc (.ref b :: As) (zg_U dC dI cI cJ cB w s.heap.size)) Qc kr nr kt nt free) (cw : zt_Cw R s args own index y maxL ws rm n) (hinst : (Cond.instanceMethod y).before args s = true) (hsel : (Cond.selects q.1 y y).before args s = true) (hcode : (Cond.code y bytes maxL ret).before args s = true)
    (hP : va_P (dC, dI) zcl w s.heap) (hK : va_K (dC, dI) zcl (zg_T cI cJ cB) s) (hT : zt_TS s) (hq : zcl[ci]? = some q) (he : w[q0]? = some (b, .inr (ci, fs))) (hn : As.length = n) (hsize : ls.size = nL) (hst : st0 = As.reverse ++ .ref b :: rest) (hW : (rest.map fun v => v.category).sum ≤ 8) (hdg : decode cc pc = .ok (.invokevirtual index, 3)) (hf : cells + rm.cells ≤ R.cells ∧ slots + rm.slots ≤ R.slots) :
    zt_Run p l e R s m args below meth c s.heap locs cells slots kr nr kt nt (F0 m pc ls st0) rest (Qc (Value.ref b :: As).toArray) free :=
  zt_runV hexec hb hml hown hM cw hinst hsel hcode ⟨zg_U_blind, va_recv hK hP hq he, fun U hU hW => ⟨rfl, by rw [hU], by rw [hU]; exact hP, va_K.moved hW.alike hK, zt_TS_to hT hW (fun q _ => by rw [hU])⟩⟩ rfl hn hsize hst (lv_room hW) hdg hf
/-- a reader's answer in a writer's words -/
theorem zt_Qp_X {dC : Nat → ClassId} {dI : Nat → Nat → Nat} {ok : Prop} {cd : Nat} {r : Option Value} {a : Array Value} {w : va_W} {A : Nat → Prop} (h0 : ok → cd = 0) (h1 : ¬ ok → cd = 1) (hP : va_P (dC, dI) zcl w H) (st t : State) (o : Outcome) (hH : st.heap = H) (h : zt_Qp ok r zE_A a st o t) : zg_X dC dI cd (fun _ : Unit => r) (fun _ => True) (fun _ => w) A a st o t := by
  rcases h with ⟨hok, ho, hh⟩ | ⟨hno, x, hx, hTh⟩
  · exact Or.inl ⟨h0 hok, (), ho, trivial, by rw [hh, hH]; exact hP, by rw [hh]; exact Nat.le_refl _, fun q _ _ => by rw [hh]⟩
  · exact Or.inr (Or.inl ⟨h1 hno, x, hx, hTh⟩)
/-- behind the chooser's call: it has returned, or one of two classes is being thrown -/
theorem zh_call {S : Type} {dC : Nat → ClassId} {dI : Nat → Nat → Nat} {cJ : ClassId} {ad : Nat → Nat} {cd : Nat} {r : S → Option Value} {post : S → Prop} {w0 : va_W} {w : S → va_W} {f : Nat → Int64} {a : Array Value} (had : zg_ap ad 7)
    (hr : zt_Run p l e R s m args below meth c s.heap [] 0 0 0 0 1 6 (F0 m pc ls st0) rest (zg_X dC dI cd r post w (zg_A ad 6 s.heap.size) a) (zg_A ad 6 s.heap.size)) (hP : va_P (dC, dI) zcl (w0 ++ zo_w ad cJ f) s.heap) (hP6 : va_P (dC, dI) zcl (zo_w ad cJ f) s.heap)
    (k0 : cd = 0 → ∀ (u : S) (H : Heap) (locs : List Loc), post u → va_P (dC, dI) zcl (w u ++ zo_w ad cJ f) H → va_S (zg_A ad 7 s.heap.size) s.heap H locs → W p l e R s m args below meth c H locs 0 0 Q (F0 m (pc + 3) ls ((r u).toList ++ rest)))
    (k1 : cd = 1 → ∀ (x : Addr) (H : Heap) (locs : List Loc), zt_Is zE_A x s H → va_P (dC, dI) zcl (w0 ++ zo_w ad cJ f) H → va_S (zg_A ad 7 s.heap.size) s.heap H locs → zt_X p l e R s m args below meth c H locs 1 6 Q (F0 m pc ls rest) x)
    (k2 : cd = 2 → ∀ (x : Addr) (H : Heap) (locs : List Loc), zt_Is zE_S x s H → va_P (dC, dI) zcl (w0 ++ zo_w ad cJ f) H → va_S (zg_A ad 7 s.heap.size) s.heap H locs → zt_X p l e R s m args below meth c H locs 1 6 Q (F0 m pc ls rest) x) :
    W p l e R s m args below meth c s.heap [] 0 0 Q (F0 m pc ls st0) := by
  have h6 : ad 6 < s.heap.size := (hP6 0 _ rfl).lt
  have hth : ∀ (E : String) (x : Addr) (st t : State) (L : List Loc), st.heap = s.heap → s.WarmedH st.vm → (∀ q ∈ L, zg_A ad 6 s.heap.size q.base) → zt_Th E x st t → zt_Is E x s t.heap ∧ va_P (dC, dI) zcl (w0 ++ zo_w ad cJ f) t.heap ∧ va_S (zg_A ad 7 s.heap.size) s.heap t.heap L := by
    intro E x st t L h0 hW hL hTh
    obtain ⟨b1, b2, b3, ce, b4, b5, b6⟩ := hTh
    rw [h0] at b2 b3
    refine ⟨⟨ce, b4, by rw [← hW.alike.findClass]; exact b5, b6⟩, hP.kept (fun k q hk => b3 _ (hP k q hk).lt), b2, fun q h1 _ => b3 q h1, fun q hq => zg_A67 (hL q hq)⟩
  refine zt_call hr (fun v st t L h0 hW0 hWt hL hq => ?_) (fun x st t L h0 hW0 hWt hL hq => ?_)
  · rcases hq with ⟨hcd, u, hv, hp, hPu, hz, hk⟩ | ⟨_, x, hx, _⟩ | ⟨_, x, hx, _⟩
    · cases hv
      rw [h0] at hz hk
      refine k0 hcd u t.heap ([] ++ L) hp (hPu.app (hP6.kept (fun k q hkq => ?_))) ⟨hz, fun q h1 h2 => hk q h1 (fun z => h2 (zg_A67 z)), fun q hq => zg_A67 (hL q hq)⟩
      have hz1 : k < 1 := (List.getElem?_eq_some_iff.mp hkq).1
      rw [show k = 0 by omega] at hkq
      cases hkq
      exact hk _ h6 (zg_not6 had h6)
    · cases hx
    · cases hx
  · rcases hq with ⟨_, u, hv, _⟩ | ⟨hcd, x', hx, hTh⟩ | ⟨hcd, x', hx, hTh⟩
    · cases hv
    · cases hx
      obtain ⟨q1, q2, q3⟩ := hth _ _ _ _ _ h0 hW0 hL hTh
      exact k1 hcd x t.heap ([] ++ L) q1 q2 q3
    · cases hx
      obtain ⟨q1, q2, q3⟩ := hth _ _ _ _ _ h0 hW0 hL hTh
      exact k2 hcd x t.heap ([] ++ L) q1 q2 q3
end ZH
