/-! the worlds of both objects; calls within them -/
abbrev zg_T (cI cJ cB : ClassId) : List (ClassId × FieldType) := [(cI, .int), (cJ, .long), (cB, .byte)]
/-- the chooser: its nine fields, its five arrays -/
abbrev zx_w (ad : Nat → Nat) (cI cJ : ClassId) (lev val pkd : Nat → Int32) (cst : Nat → Int64) (chs : Nat → Int32) (D N F k : Nat) : va_W :=
  [(ad 0, .inr (0, [.ref (ad 1), .ref (ad 2), .ref (ad 3), .ref (ad 4), .ref (ad 5), .int (nI D), .int (nI N), .int (nI F), .int (nI k)])), (ad 1, .inl (cI, 8, .inl lev)), (ad 2, .inl (cI, 32, .inl val)), (ad 3, .inl (cI, 512, .inl pkd)), (ad 4, .inl (cJ, 512, .inr (.inl cst))), (ad 5, .inl (cI, 16, .inl chs))]
/-- the reference: its eleven fields, its six arrays -/
abbrev zm_w (ad : Nat → Nat) (cI cJ cB : ClassId) (lev val chs dig : Nat → Int32) (est cst : Nat → Int64) (code : Int32) (D N F k : Nat) : va_W :=
  [(ad 0, .inr (1, [.int code, .int (nI D), .ref (ad 1), .ref (ad 2), .int (nI F), .int (nI N), .int (nI k), .ref (ad 3), .ref (ad 4), .ref (ad 5), .ref (ad 6)])), (ad 1, .inl (cI, 8, .inl lev)), (ad 2, .inl (cI, 32, .inl val)), (ad 3, .inl (cI, 16, .inl chs)), (ad 4, .inl (cB, 4096, .inl dig)), (ad 5, .inl (cJ, 512, .inr (.inl est))), (ad 6, .inl (cJ, 512, .inr (.inl cst)))]
/-- which cells: the first n of ad, and those from sz on -/
def zg_A (ad : Nat → Nat) (n sz : Nat) : Nat → Prop := fun q => (∃ i, i < n ∧ q = ad i) ∨ sz ≤ q
def zg_ap (ad : Nat → Nat) (n : Nat) : Prop := ∀ i j, i < n → j < n → ad i = ad j → i = j
theorem zg_A_up {ad : Nat → Nat} {n a b q : Nat} (h : a ≤ b) (hq : zg_A ad n b q) : zg_A ad n a q := hq.elim Or.inl (fun z => Or.inr (Nat.le_trans h z))
section ZW
variable {ad : Nat → Nat} {cI cJ cB : ClassId} {lev val pkd chs dig : Nat → Int32} {est cst : Nat → Int64} {code : Int32} {D N F k sz : Nat}
theorem zx_w_at {i : Nat} {q : Nat × va_E} (h : (zx_w ad cI cJ lev val pkd cst chs D N F k)[i]? = some q) : i < 6 ∧ q.1 = ad i := by
  match i, h with
  | 0, h => cases h; exact ⟨by decide, rfl⟩
  | 1, h => cases h; exact ⟨by decide, rfl⟩
  | 2, h => cases h; exact ⟨by decide, rfl⟩
  | 3, h => cases h; exact ⟨by decide, rfl⟩
  | 4, h => cases h; exact ⟨by decide, rfl⟩
  | 5, h => cases h; exact ⟨by decide, rfl⟩
  | i + 6, h => simp at h
theorem zm_w_at {i : Nat} {q : Nat × va_E} (h : (zm_w ad cI cJ cB lev val chs dig est cst code D N F k)[i]? = some q) : i < 7 ∧ q.1 = ad i := by
  match i, h with
  | 0, h => cases h; exact ⟨by decide, rfl⟩
  | 1, h => cases h; exact ⟨by decide, rfl⟩
  | 2, h => cases h; exact ⟨by decide, rfl⟩
  | 3, h => cases h; exact ⟨by decide, rfl⟩
  | 4, h => cases h; exact ⟨by decide, rfl⟩
  | 5, h => cases h; exact ⟨by decide, rfl⟩
  | 6, h => cases h; exact ⟨by decide, rfl⟩
  | i + 7, h => simp at h
theorem zx_D (had : zg_ap ad 6) : va_D (zg_A ad 6 sz) (zx_w ad cI cJ lev val pkd cst chs D N F k) := by
  refine ⟨fun i j p q hi hj e => ?_, fun i q hi => ?_⟩
  · obtain ⟨h1, h2⟩ := zx_w_at hi
    obtain ⟨h3, h4⟩ := zx_w_at hj
    exact had i j h1 h3 (by rw [← h2, ← h4]; exact e)
  · obtain ⟨h1, h2⟩ := zx_w_at hi
    exact Or.inl ⟨i, h1, h2⟩
theorem zm_D (had : zg_ap ad 7) : va_D (zg_A ad 7 sz) (zm_w ad cI cJ cB lev val chs dig est cst code D N F k) := by
  refine ⟨fun i j p q hi hj e => ?_, fun i q hi => ?_⟩
  · obtain ⟨h1, h2⟩ := zm_w_at hi
    obtain ⟨h3, h4⟩ := zm_w_at hj
    exact had i j h1 h3 (by rw [← h2, ← h4]; exact e)
  · obtain ⟨h1, h2⟩ := zm_w_at hi
    exact Or.inl ⟨i, h1, h2⟩
end ZW
/-- a world and the tables' numbers -/
def zg_B (dC : Nat → ClassId) (dI : Nat → Nat → Nat) (cI cJ cB : ClassId) (w : va_W) (U : State) : Prop := va_P (dC, dI) zcl w U.heap ∧ va_K (dC, dI) zcl (zg_T cI cJ cB) U
theorem zg_B_blind {dC : Nat → ClassId} {dI : Nat → Nat → Nat} {cI cJ cB : ClassId} {w : va_W} {av : List Value} : FrameBlind (va_Pc av (zg_B dC dI cI cJ cB w)) :=
  fun a U g mk q => ⟨q.1, q.2.1, va_K.moved (u := U) (U := U.calling g mk a) (Vm.Alike.refl U.vm) q.2.2⟩
/-- .. and how many cells there are -/
def zg_C (dC : Nat → ClassId) (dI : Nat → Nat → Nat) (cI cJ cB : ClassId) (w : va_W) (sz : Nat) (U : State) : Prop := U.heap.size = sz ∧ zg_B dC dI cI cJ cB w U
theorem zg_C_blind {dC : Nat → ClassId} {dI : Nat → Nat → Nat} {cI cJ cB : ClassId} {w : va_W} {sz : Nat} {av : List Value} : FrameBlind (va_Pc av (zg_C dC dI cI cJ cB w sz)) :=
  fun a U g mk q => ⟨q.1, q.2.1, q.2.2.1, va_K.moved (u := U) (U := U.calling g mk a) (Vm.Alike.refl U.vm) q.2.2.2⟩
/-- a writer's end: what it answers, the new world, nothing else changed -/
def zg_Q {S : Type} (dC : Nat → ClassId) (dI : Nat → Nat → Nat) (r : S → Option Value) (post : S → Prop) (w : S → va_W) (A : Nat → Prop) : Array Value → State → Outcome → State → Prop := fun _ st o t =>
  ∃ u : S, o = .returned (r u) ∧ post u ∧ va_P (dC, dI) zcl (w u) t.heap ∧ va_F A st t
theorem zc_ws {args : Array Value} {s : State} (hz : ∀ w ∈ zw0, w.before args s = true) {c : Cond} (h : c ∈ zw0) : ∀ w ∈ c :: zw0, zt_gw w = true ∧ w.before args s = true := by
  intro w hw
  rcases List.mem_cons.mp hw with rfl | hw
  · exact ⟨zw0_g _ h, hz _ h⟩
  · exact ⟨zw0_g _ hw, hz _ hw⟩
section ZK
variable {p : Program} {l : Launch} {e : Env} {R : Room} {s : State} {m : MethodId} {args : Array Value} {below : List Frame} {meth : Method} {c : Code} {H : Heap} {locs : List Loc} {cells slots : Nat} {Q : State → Prop}
variable {cc : ByteArray} {pc : Nat} {ls : Array Slot} {rest st0 : List Value} {kr nr kt nt : Nat} {free : Addr → Prop} {Qa : State → Outcome → State → Prop}
theorem zt_callRi {r : Int32} {a : Array Value} (hr : zt_Run p l e R s m args below meth c H locs cells slots 0 0 kt nt (F0 m pc ls st0) rest (zt_Qr (some (.int r)) a) (fun _ => False))
    (k : W p l e R s m args below meth c H locs cells slots Q (F0 m (pc + 3) ls (.int r :: rest))) : W p l e R s m args below meth c H locs cells slots Q (F0 m pc ls st0) := zt_callR hr k
theorem zt_callRl {r : Int64} {a : Array Value} (hr : zt_Run p l e R s m args below meth c H locs cells slots 0 0 kt nt (F0 m pc ls st0) rest (zt_Qr (some (.long r)) a) (fun _ => False))
    (k : W p l e R s m args below meth c H locs cells slots Q (F0 m (pc + 3) ls (.long r :: rest))) : W p l e R s m args below meth c H locs cells slots Q (F0 m pc ls st0) := zt_callR hr k
/-- an instance call in a world -/
theorem zg_run {dC : Nat → ClassId} {dI : Nat → Nat → Nat} {cI cJ cB : ClassId} {w : va_W} {y : MethodName} {bytes : ByteArray} {maxL nL n index ci b q0 : Nat} {q : vw_C} {fs : List Value} {ret : Option FieldType} {ws : List Cond} {rm : Room} {Qc : Array Value → State → Outcome → State → Prop} {own : String} {As : List Value}
    (hexec : p.tables.exec = Jvm.exec) (hb : c.code = cc) (hml : c.maxLocals = nL) (hown : s.vm.findClass own = some m.cls)
    (hM : zt_Met l y ws rm (va_Pc (.ref b :: As) (zg_B dC dI cI cJ cB w)) Qc kr nr kt nt free) (cw : zt_Cw R s args own index y maxL ws rm n) (hinst : (Cond.instanceMethod y).before args s = true) (hsel : (Cond.selects q.1 y y).before args s = true) (hcode : (Cond.code y bytes maxL ret).before args s = true)
    (hP : va_P (dC, dI) zcl w H) (hK : va_K (dC, dI) zcl (zg_T cI cJ cB) s) (hq : zcl[ci]? = some q) (he : w[q0]? = some (b, .inr (ci, fs))) (hn : As.length = n) (hsize : ls.size = nL) (hst : st0 = As.reverse ++ .ref b :: rest) (hW : (rest.map fun v => v.category).sum ≤ 8) (hdg : decode cc pc = .ok (.invokevirtual index, 3)) (hf : cells + rm.cells ≤ R.cells ∧ slots + rm.slots ≤ R.slots) :
    zt_Run p l e R s m args below meth c H locs cells slots kr nr kt nt (F0 m pc ls st0) rest (Qc (Value.ref b :: As).toArray) free :=
  zt_runV hexec hb hml hown hM cw hinst hsel hcode ⟨zg_B_blind, va_recv hK hP hq he, fun U hU hW => ⟨rfl, by rw [hU]; exact hP, va_K.moved hW.alike hK⟩⟩ rfl hn hsize hst (lv_room hW) hdg hf
/-- .. that may write -/
theorem zg_runC {dC : Nat → ClassId} {dI : Nat → Nat → Nat} {cI cJ cB : ClassId} {w : va_W} {y : MethodName} {bytes : ByteArray} {maxL nL n index ci b q0 : Nat} {q : vw_C} {fs : List Value} {ret : Option FieldType} {ws : List Cond} {rm : Room} {Qc : Array Value → State → Outcome → State → Prop} {own : String} {As : List Value}
    (hexec : p.tables.exec = Jvm.exec) (hb : c.code = cc) (hml : c.maxLocals = nL) (hown : s.vm.findClass own = some m.cls)
    (hM : zt_Met l y ws rm (va_Pc (.ref b :: As) (zg_C dC dI cI cJ cB w H.size)) Qc kr nr kt nt free) (cw : zt_Cw R s args own index y maxL ws rm n) (hinst : (Cond.instanceMethod y).before args s = true) (hsel : (Cond.selects q.1 y y).before args s = true) (hcode : (Cond.code y bytes maxL ret).before args s = true)
    (hP : va_P (dC, dI) zcl w H) (hK : va_K (dC, dI) zcl (zg_T cI cJ cB) s) (hq : zcl[ci]? = some q) (he : w[q0]? = some (b, .inr (ci, fs))) (hn : As.length = n) (hsize : ls.size = nL) (hst : st0 = As.reverse ++ .ref b :: rest) (hW : (rest.map fun v => v.category).sum ≤ 8) (hdg : decode cc pc = .ok (.invokevirtual index, 3)) (hf : cells + rm.cells ≤ R.cells ∧ slots + rm.slots ≤ R.slots) :
    zt_Run p l e R s m args below meth c H locs cells slots kr nr kt nt (F0 m pc ls st0) rest (Qc (Value.ref b :: As).toArray) free :=
  zt_runV hexec hb hml hown hM cw hinst hsel hcode ⟨zg_C_blind, va_recv hK hP hq he, fun U hU hW => ⟨rfl, by rw [hU], by rw [hU]; exact hP, va_K.moved hW.alike hK⟩⟩ rfl hn hsize hst (lv_room hW) hdg hf
/-- behind a writer -/
theorem zg_callW {S : Type} {dC : Nat → ClassId} {dI : Nat → Nat → Nat} {r : S → Option Value} {post : S → Prop} {w : S → va_W} {A A0 : Nat → Prop} {H0 : Heap} {a : Array Value} (hr : zt_Run p l e R s m args below meth c H locs cells slots kr nr kt nt (F0 m pc ls st0) rest (zg_Q dC dI r post w A a) free) (hS : va_S A0 H0 H locs) (hA : ∀ q, A q → A0 q) (hfr : ∀ q, free q → A0 q)
    (k : ∀ (u : S) (H1 : Heap) (locs1 : List Loc), post u → va_P (dC, dI) zcl (w u) H1 → H.size ≤ H1.size → (∀ q : Nat, q < H.size → ¬ A q → H1[q]? = H[q]?) → va_S A0 H0 H1 locs1 → W p l e R s m args below meth c H1 locs1 (cells + kr) (slots + nr) Q (F0 m (pc + 3) ls ((r u).toList ++ rest))) : W p l e R s m args below meth c H locs cells slots Q (F0 m pc ls st0) := by
  refine zt_callr hr (fun x st t hq => by obtain ⟨u, h, -⟩ := hq; cases h) (fun v st t L h0 hW0 hWt hL hq => ?_)
  obtain ⟨u, hv, hp, hP, hF⟩ := hq
  cases hv
  obtain ⟨hz, hk⟩ := hF
  rw [h0] at hz hk
  refine k u t.heap (locs ++ L) hp hP hz hk ⟨Nat.le_trans hS.1 hz, fun q h1 h2 => ?_, fun q hq => ?_⟩
  · rw [hk q (Nat.lt_of_lt_of_le h1 hS.1) (fun z => h2 (hA q z))]
    exact hS.2.1 q h1 h2
  · rcases List.mem_append.mp hq with h | h
    · exact hS.2.2 q h
    · exact hfr _ (hL q h)
/-- a static call of a function of numbers -/
theorem zs_run {y : MethodName} {bytes : ByteArray} {maxL nL n index : Nat} {ret : Option FieldType} {ws : List Cond} {rm : Room} {Qc : Array Value → State → Outcome → State → Prop} {own : String} {As : List Value}
    (hexec : p.tables.exec = Jvm.exec) (hb : c.code = cc) (hml : c.maxLocals = nL) (hown : s.vm.findClass own = some m.cls)
    (hM : zt_Met l y ws rm (va_Pc As (fun _ => True)) Qc kr nr kt nt free) (cw : zt_Cw R s args own index y maxL ws rm n) (hst9 : (Cond.static y).before args s = true) (hcode : (Cond.code y bytes maxL ret).before args s = true)
    (hn : As.length = n) (hsize : ls.size = nL) (hst : st0 = As.reverse ++ rest) (hW : (rest.map fun v => v.category).sum ≤ 8) (hdg : decode cc pc = .ok (.invokestatic index, 3)) (hf : cells + rm.cells ≤ R.cells ∧ slots + rm.slots ≤ R.slots) :
    zt_Run p l e R s m args below meth c H locs cells slots kr nr kt nt (F0 m pc ls st0) rest (Qc As.toArray) free := by
  refine zt_runS hexec hb hml hown hM cw hst9 ?_ ⟨fun a U g mk q => q, fun U hU hW => ⟨rfl, trivial⟩⟩ rfl hn hsize hst (lv_room hW) hdg hf
  obtain ⟨mk, hnamed⟩ := Cond.code_named hcode
  obtain ⟨methM, cM, h1, h2, -, h4, -, -, -, h8⟩ := Cond.code_spec hnamed hcode
  exact ⟨mk, methM, cM, hnamed, h1, h2, h4, h8⟩
/-! the class's and the reference's own calls -/
theorem zt_rl {Qc : Array Value → State → Outcome → State → Prop} {v : Int64} (hexec : p.tables.exec = Jvm.exec) (hb : c.code = cc) (hr : meth.sig.returnType = some .long) (hlocks : meth.locks = false)
    (hq : ∀ t : State, t.heap = H → s.WarmedH t.vm → Qc args s (.returned (some (.long v))) t) (hf : ∀ q ∈ locs, free q.base) (hdg : decode cc pc = .ok (.lreturn, 1)) : W p l e R s m args below meth c H locs cells slots (zt_MQ below Qc args s cells slots kt nt free) (F0 m pc ls [.long v]) :=
  zt_mono zt_MQ_of (W.lret hexec hb hr hq hf hdg hlocks)
theorem zt_ri {Qc : Array Value → State → Outcome → State → Prop} {v : Int32} (hexec : p.tables.exec = Jvm.exec) (hb : c.code = cc) (hr : meth.sig.returnType = some .int) (hlocks : meth.locks = false)
    (hq : ∀ t : State, t.heap = H → s.WarmedH t.vm → Qc args s (.returned (some (.int v))) t) (hf : ∀ q ∈ locs, free q.base) (hdg : decode cc pc = .ok (.ireturn, 1)) : W p l e R s m args below meth c H locs cells slots (zt_MQ below Qc args s cells slots kt nt free) (F0 m pc ls [.int v]) :=
  zt_mono zt_MQ_of (W.iret hexec hb hr hq hf hdg hlocks)
theorem zt_rz {Qc : Array Value → State → Outcome → State → Prop} {v : Int32} (hexec : p.tables.exec = Jvm.exec) (hb : c.code = cc) (hr : meth.sig.returnType = some .boolean) (hlocks : meth.locks = false) (hn : narrow .boolean (.int v) = .int v)
    (hq : ∀ t : State, t.heap = H → s.WarmedH t.vm → Qc args s (.returned (some (.int v))) t) (hf : ∀ q ∈ locs, free q.base) (hdg : decode cc pc = .ok (.ireturn, 1)) : W p l e R s m args below meth c H locs cells slots (zt_MQ below Qc args s cells slots kt nt free) (F0 m pc ls [.int v]) :=
  zt_mono zt_MQ_of (W.zret hexec hb hr hn hq hf hdg hlocks)
theorem zt_rv {Qc : Array Value → State → Outcome → State → Prop} (hexec : p.tables.exec = Jvm.exec) (hb : c.code = cc) (hr : meth.sig.returnType = none) (hlocks : meth.locks = false)
    (hq : ∀ t : State, t.heap = H → s.WarmedH t.vm → Qc args s (.returned none) t) (hf : ∀ q ∈ locs, free q.base) (hdg : decode cc pc = .ok (.return_, 1)) : W p l e R s m args below meth c H locs cells slots (zt_MQ below Qc args s cells slots kt nt free) (F0 m pc ls []) :=
  zt_mono zt_MQ_of (W.vret hexec hb hr hq hf hdg hlocks)
end ZK
