/-! statics of Throwable that nobody writes, the texts of the messages (the first rows as the printed names have them) -/
/-- where a static field lies, its class's statics cell in H -/
def vx_L (C n d : String) (A : Nat → Prop) (U : State) (H : Heap) : Prop := ∃ (c : ClassId) (k : Class) (i : Nat) (f : Field) (a : Nat) (cell : Cell), U.vm.findClass C = some c ∧ U.fieldFound? C n d = some (c, k, i, f) ∧ f.isStatic = true ∧ k.statics = some a ∧ H[a]? = some cell ∧ cell.vm.isStatics = true ∧ cell.cls = c ∧ f.slot < cell.slots.size ∧ k.staticTypes[f.slot]? = some f.type ∧ ¬ A a
theorem vx_L.moved {C n d : String} {A : Nat → Prop} {u U : State} {H : Heap} (hvm : u.vm.Alike U.vm) (h : vx_L C n d A u H) : vx_L C n d A U H := by
  obtain ⟨c, k, i, f, a, cell, h1, h2, h3, h4, h5, h6, h7, h8, h9, h10⟩ := h
  obtain ⟨k', hi', he⟩ := State.fieldFound?_setVm hvm h2
  exact ⟨c, k', i, f, a, cell, by rw [hvm.findClass]; exact h1, hi', h3, by rw [he]; exact h4, h5, h6, h7, h8, by rw [he]; exact h9, h10⟩
theorem vx_L.kept {C n d : String} {A : Nat → Prop} {U : State} {H H1 : Heap} (h : vx_L C n d A U H) (hq : ∀ a : Nat, a < H.size → ¬ A a → H1[a]? = H[a]?) : vx_L C n d A U H1 := by
  obtain ⟨c, k, i, f, a, cell, h1, h2, h3, h4, h5, h6, h7, h8, h9, h10⟩ := h
  exact ⟨c, k, i, f, a, cell, h1, h2, h3, h4, by rw [hq a (Array.getElem?_eq_some_iff.mp h5).1 h10]; exact h5, h6, h7, h8, h9, h10⟩
theorem vx_L.narrow {C n d : String} {A B : Nat → Prop} {U : State} {H : Heap} (h : vx_L C n d A U H) (hAB : ∀ q, B q → A q) : vx_L C n d B U H := by
  obtain ⟨c, k, i, f, a, cell, h1, h2, h3, h4, h5, h6, h7, h8, h9, h10⟩ := h
  exact ⟨c, k, i, f, a, cell, h1, h2, h3, h4, h5, h6, h7, h8, h9, fun z => h10 (hAB _ z)⟩
theorem vx_L.word {C n d : String} {A : Nat → Prop} {s : State} {args : Array Value} (h : vx_L C n d A s s.heap) : (Cond.laysStatic C n d).before args s = true := by
  obtain ⟨c, k, i, f, a, cell, h1, h2, h3, h4, h5, h6, h7, h8, h9, -⟩ := h
  show (Cond.laysStatic C n d).holds args s none s [] = true
  exact Cond.laysStatic_of h1 h2 h3 h4 h5 h6 h7 h8 h9
/-- .. and what it holds: null or some reference -/
def vx_Zq (C n d : String) (A : Nat → Prop) (U : State) (H : Heap) : Prop := va_Zq C n d A U H ∧ vx_L C n d A U H
theorem vx_Zq.moved {C n d : String} {A : Nat → Prop} {u U : State} {H : Heap} (hvm : u.vm.Alike U.vm) (h : vx_Zq C n d A u H) : vx_Zq C n d A U H := ⟨va_Zq.moved hvm h.1, vx_L.moved hvm h.2⟩
theorem vx_Zq.kept {C n d : String} {A : Nat → Prop} {U : State} {H H1 : Heap} (h : vx_Zq C n d A U H) (hq : ∀ a : Nat, a < H.size → ¬ A a → H1[a]? = H[a]?) : vx_Zq C n d A U H1 := ⟨va_Zq.kept h.1 hq, vx_L.kept h.2 hq⟩
theorem vx_Zq.narrow {C n d : String} {A B : Nat → Prop} {U : State} {H : Heap} (h : vx_Zq C n d A U H) (hAB : ∀ q, B q → A q) : vx_Zq C n d B U H := ⟨va_Zq.narrow h.1 hAB, vx_L.narrow h.2 hAB⟩
theorem vx_Zqof {args : Array Value} {s : State} {C n d : String} {A : Nat → Prop} (hl : (Cond.laysStatic C n d).before args s = true) (hini : (Cond.initialized C).before args s = true) (h : (Cond.isRef (.static C n d)).before args s = true) (hA : ∀ a : Nat, a < s.heap.size → ¬ A a) : vx_Zq C n d A s s.heap := by
  refine ⟨va_Zqof hl hini h hA, ?_⟩
  obtain ⟨c, k, i, f, a, cell, h1, h2, h3, h4, h5, h6, h7, h8, h9⟩ := Cond.laysStatic_spec hl
  exact ⟨c, k, i, f, a, cell, h1, h2, h3, h4, h5, h6, h7, h8, h9, hA a (Array.getElem?_eq_some_iff.mp h5).1⟩
theorem vx_isRef {C n d : String} {v : Value} {A : Nat → Prop} {s : State} {args : Array Value} (h : va_Z C n d v A s s.heap) (hv : v.isRef = true) : (Cond.isRef (.static C n d)).before args s = true := by
  obtain ⟨cf, kf, fi, f, a, cell, h1, h2, h3, h4, h5, h6, h7, -⟩ := h
  have he : (Term.static C n d).eval args s none [] s = some v := by
    simp [Term.eval, State.fieldNamed?, h1, h2, h4, h5, h6, h7]
  simp only [Cond.before, Cond.holds, Cond.value, he]
  cases v <;> simp_all [Value.isRef]
theorem vx_isRefq {C n d : String} {A : Nat → Prop} {s : State} {args : Array Value} (h : va_Zq C n d A s s.heap) : (Cond.isRef (.static C n d)).before args s = true := by
  rcases h with h | ⟨t, h⟩
  · exact vx_isRef h rfl
  · exact vx_isRef h rfl
/-- the messages -/
def zs_list : List (Nat × String) := [(41, "levels are not 1 .. 4"), (48, "there are 8 dimensions"), (51, "there would be more than 512 views"), (107, "there is no such dimension"), (64, "there is no such level"), (67, "n is not 0 .. 1000000"), (69, "n is below 0"), (105, "there is no such view"), (89, "what is not 0 .. 2"), (109, "16 views are chosen"), (101, "k is not 0 .. 16"), (103, "there is no such chosen view")]
/-- what a throw rests on beside the tables: two statics of Throwable, the messages -/
def zt_TS (U : State) : Prop := vx_Zq Bundle.tN "UNASSIGNED_STACK" Bundle.steD (fun _ => False) U U.heap ∧ vx_Zq Bundle.tN "SUPPRESSED_SENTINEL" Bundle.listD (fun _ => False) U U.heap ∧ ∀ q ∈ zs_list, ∃ a, vk_R RX q.1 q.2 a U
theorem zt_TS_to {s U : State} (h : zt_TS s) (hW : s.WarmedH U.vm) (hh : ∀ q : Nat, q < s.heap.size → U.heap[q]? = s.heap[q]?) : zt_TS U :=
  ⟨(h.1.kept (fun a ha _ => hh a ha)).moved hW.alike, (h.2.1.kept (fun a ha _ => hh a ha)).moved hW.alike, fun q hq => (h.2.2 q hq).imp fun a ha => vk_R.warm hW ha⟩
def zh4 : List Cond := [.isRef (.static Bundle.tN "UNASSIGNED_STACK" Bundle.steD), .isRef (.static Bundle.tN "SUPPRESSED_SENTINEL" Bundle.listD), .laysStatic Bundle.tN "UNASSIGNED_STACK" Bundle.steD, .laysStatic Bundle.tN "SUPPRESSED_SENTINEL" Bundle.listD]
theorem zh4_of {args : Array Value} {s : State} (h : zt_TS s) : ∀ w ∈ zh4, w.before args s = true :=
  List.forall_mem_cons.mpr ⟨vx_isRefq h.1.1, List.forall_mem_cons.mpr ⟨vx_isRefq h.2.1.1, List.forall_mem_cons.mpr ⟨h.1.2.word, List.forall_mem_cons.mpr ⟨h.2.1.2.word, fun _ h => absurd h List.not_mem_nil⟩⟩⟩⟩
abbrev zE_A : String := "java/lang/IllegalArgumentException"
abbrev zE_S : String := "java/lang/IllegalStateException"
abbrev zE_n : List String := ["java/lang/RuntimeException", "java/lang/Exception"]
theorem zo_A : ∀ w ∈ Bundle.ownAtoms RX 43 zE_A zE_n, w ∈ tables_1 ∨ w ∈ zh4 ∨ w ∈ k2_sels lw_privs := by decide +kernel
theorem zo_S : ∀ w ∈ Bundle.ownAtoms RX 50 zE_S zE_n, w ∈ tables_1 ∨ w ∈ zh4 ∨ w ∈ k2_sels lw_privs := by decide +kernel
theorem zo_Ag : ∀ w ∈ Bundle.ownAtoms RX 43 zE_A zE_n, zt_gw w = true ∨ w ∈ zh4 := by decide +kernel
theorem zo_Sg : ∀ w ∈ Bundle.ownAtoms RX 50 zE_S zE_n, zt_gw w = true ∨ w ∈ zh4 := by decide +kernel
theorem zo_at {L : List Cond} (h1 : ∀ w ∈ L, w ∈ tables_1 ∨ w ∈ zh4 ∨ w ∈ k2_sels lw_privs) (h2 : ∀ w ∈ L, zt_gw w = true ∨ w ∈ zh4) {args : Array Value} {s : State} (hz : ∀ w ∈ zw0, w.before args s = true) (hT : zt_TS s) : ∀ w ∈ L, w.before args s = true := by
  intro w hw
  rcases h2 w hw with g | g
  · rcases h1 w hw with h | h | h
    · exact hz w (List.mem_filter.mpr ⟨List.mem_append_right _ h, g⟩)
    · exact zh4_of hT w h
    · exact hz w (List.mem_filter.mpr ⟨List.mem_append_left _ h, g⟩)
  · exact zh4_of hT w g
/-- a world, the tables' numbers, what a throw rests on -/
def zg_T3 (dC : Nat → ClassId) (dI : Nat → Nat → Nat) (cI cJ cB : ClassId) (w : va_W) (U : State) : Prop := va_P (dC, dI) zcl w U.heap ∧ va_K (dC, dI) zcl (zg_T cI cJ cB) U ∧ zt_TS U
def zg_U (dC : Nat → ClassId) (dI : Nat → Nat → Nat) (cI cJ cB : ClassId) (w : va_W) (sz : Nat) (U : State) : Prop := U.heap.size = sz ∧ va_P (dC, dI) zcl w U.heap ∧ va_K (dC, dI) zcl (zg_T cI cJ cB) U ∧ zt_TS U
theorem zt_TS_calling {U : State} {g : JFrame} {mk : MethodId} {a : Array Value} (h : zt_TS U) : zt_TS (U.calling g mk a) := zt_TS_to (U := U.calling g mk a) h (State.WarmedH.refl U) (fun _ _ => rfl)
theorem zg_T3_blind {dC : Nat → ClassId} {dI : Nat → Nat → Nat} {cI cJ cB : ClassId} {w : va_W} {av : List Value} : FrameBlind (va_Pc av (zg_T3 dC dI cI cJ cB w)) :=
  fun a U g mk q => ⟨q.1, q.2.1, va_K.moved (u := U) (U := U.calling g mk a) (Vm.Alike.refl U.vm) q.2.2.1, zt_TS_calling q.2.2.2⟩
theorem zg_U_blind {dC : Nat → ClassId} {dI : Nat → Nat → Nat} {cI cJ cB : ClassId} {w : va_W} {sz : Nat} {av : List Value} : FrameBlind (va_Pc av (zg_U dC dI cI cJ cB w sz)) :=
  fun a U g mk q => ⟨q.1, q.2.1, q.2.2.1, va_K.moved (u := U) (U := U.calling g mk a) (Vm.Alike.refl U.vm) q.2.2.2.1, zt_TS_calling q.2.2.2.2⟩
section ZN
variable {p : Program} {l : Launch} {e : Env} {R : Room} {s : State} {m : MethodId} {args : Array Value} {below : List Frame} {meth : Method} {c : Code} {H : Heap} {locs : List Loc} {cells slots : Nat} {Q : State → Prop}
variable {cc : ByteArray} {pc : Nat} {ls : Array Slot} {rest st0 : List Value} {kr nr kt nt : Nat} {free : Addr → Prop}
/-- an instance call of a reader that may throw, from an unchanged heap -/
theorem zg_runT {dC : Nat → ClassId} {dI : Nat → Nat → Nat} {cI cJ cB : ClassId} {w : va_W} {y : MethodName} {bytes : ByteArray} {maxL nL n index ci b q0 : Nat} {q : vw_C} {fs : List Value} {ret : Option FieldType} {ws : List Cond} {rm : Room} {Qc : Array Value → State → Outcome → State → Prop} {own : String} {As : List Value}
    (hexec : p.tables.exec = Jvm.exec) (hb : c.code = cc) (hml : c.maxLocals = nL) (hown : s.vm.findClass own = some m.cls)
    (hM : zt_Met l y ws rm (va_Pc (.ref b :: As) (zg_T3 dC dI cI cJ cB w)) Qc kr nr kt nt free) (cw : zt_Cw R s args own index y maxL ws rm n) (hinst : (Cond.instanceMethod y).before args s = true) (hsel : (Cond.selects q.1 y y).before args s = true) (hcode : (Cond.code y bytes maxL ret).before args s = true)
    (hP : va_P (dC, dI) zcl w s.heap) (hK : va_K (dC, dI) zcl (zg_T cI cJ cB) s) (hT : zt_TS s) (hq : zcl[ci]? = some q) (he : w[q0]? = some (b, .inr (ci, fs))) (hn : As.length = n) (hsize : ls.size = nL) (hst : st0 = As.reverse ++ .ref b :: rest) (hW : (rest.map fun v => v.category).sum ≤ 8) (hdg : decode cc pc = .ok (.invokevirtual index, 3)) (hf : cells + rm.cells ≤ R.cells ∧ slots + rm.slots ≤ R.slots) :
    zt_Run p l e R s m args below meth c s.heap locs cells slots kr nr kt nt (F0 m pc ls st0) rest (Qc (Value.ref b :: As).toArray) free :=
  zt_runV hexec hb hml hown hM cw hinst hsel hcode ⟨zg_T3_blind, va_recv hK hP hq he, fun U hU hW => ⟨rfl, by rw [hU]; exact hP, va_K.moved hW.alike hK, zt_TS_to hT hW (fun q _ => by rw [hU])⟩⟩ rfl hn hsize hst (lv_room hW) hdg hf
theorem zt_throwA {Qc : Array Value → State → Outcome → State → Prop} {free' : Addr → Prop} {ar br kc ks is : Nat} {tx : String} (hexec : p.tables.exec = Jvm.exec) (hb : c.code = cc) (htr : e.platform.stackTraces = false) (hml : ls.size = c.maxLocals)
    (hown : s.vm.findClass RX = some m.cls) (hz : ∀ w ∈ zw0, w.before args s = true) (hT : zt_TS s) (hs : (is, tx) ∈ zs_list) (hout : c.exceptionTable.toList = []) (hlocks : meth.locks = false)
    (d0 : decode cc pc = .ok (.new 39, 3)) (d3 : decode cc (pc + 3) = .ok (.dup, 1)) (d4 : decode cc (pc + 3 + 1) = .ok (.ldc is, 2)) (d6 : decode cc (pc + 3 + 1 + 2) = .ok (.invokespecial 43, 3)) (d9 : decode cc (pc + 3 + 1 + 2 + 3) = .ok (.athrow, 1))
    (hcells : cells + 1 ≤ R.cells) (hslots : slots + 6 ≤ R.slots) (hkc : cells + 1 ≤ kc) (hks : slots + 6 ≤ ks) (hfr : 5 < R.frames) (hlo : (rest.map fun v => v.category).sum + 83 ≤ R.locals)
    (hq : ∀ (t : State) (x : Addr), zt_Th zE_A x s t → s.WarmedH t.vm → Qc args s (.threw x) t) :
    W p l e R s m args below meth c s.heap [] cells slots (zt_MQ below Qc args s ar br kc ks free') (F0 m pc ls rest) := by
  obtain ⟨q, hZ⟩ := hT.2.2 _ hs
  exact zt_throwNew (names := zE_n) hexec hb htr hml hown (by decide +kernel) (by decide +kernel) (zo_at zo_A zo_Ag hz hT) (hz _ kc_X_39) (hz _ kt_IllegalArgumentException) (hz _ kin_IllegalArgumentException) hZ hout hlocks d0 d3 d4 d6 d9 hcells hslots hkc hks hfr hlo hq
theorem zt_throwI {Qc : Array Value → State → Outcome → State → Prop} {free' : Addr → Prop} {ar br kc ks is : Nat} {tx : String} (hexec : p.tables.exec = Jvm.exec) (hb : c.code = cc) (htr : e.platform.stackTraces = false) (hml : ls.size = c.maxLocals)
    (hown : s.vm.findClass RX = some m.cls) (hz : ∀ w ∈ zw0, w.before args s = true) (hT : zt_TS s) (hs : (is, tx) ∈ zs_list) (hout : c.exceptionTable.toList = []) (hlocks : meth.locks = false)
    (d0 : decode cc pc = .ok (.new 46, 3)) (d3 : decode cc (pc + 3) = .ok (.dup, 1)) (d4 : decode cc (pc + 3 + 1) = .ok (.ldc is, 2)) (d6 : decode cc (pc + 3 + 1 + 2) = .ok (.invokespecial 50, 3)) (d9 : decode cc (pc + 3 + 1 + 2 + 3) = .ok (.athrow, 1))
    (hcells : cells + 1 ≤ R.cells) (hslots : slots + 6 ≤ R.slots) (hkc : cells + 1 ≤ kc) (hks : slots + 6 ≤ ks) (hfr : 5 < R.frames) (hlo : (rest.map fun v => v.category).sum + 83 ≤ R.locals)
    (hq : ∀ (t : State) (x : Addr), zt_Th zE_S x s t → s.WarmedH t.vm → Qc args s (.threw x) t) :
    W p l e R s m args below meth c s.heap [] cells slots (zt_MQ below Qc args s ar br kc ks free') (F0 m pc ls rest) := by
  obtain ⟨q, hZ⟩ := hT.2.2 _ hs
  exact zt_throwNew (names := zE_n) hexec hb htr hml hown (by decide +kernel) (by decide +kernel) (zo_at zo_S zo_Sg hz hT) (hz _ kc_X_46) (hz _ kt_IllegalStateException) (hz _ kin_IllegalStateException) hZ hout hlocks d0 d3 d4 d6 d9 hcells hslots hkc hks hfr hlo hq
end ZN
