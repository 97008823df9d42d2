/-! the two constructors: by program (wip/gen/init.py) -/
section ZI
variable {p : Program} {l : Launch} {e : Env} {R : Room} {s : State} {m : MethodId} {args : Array Value} {below : List Frame} {meth : Method} {c : Code} {H : Heap} {locs : List Loc} {cells slots : Nat}
/-- a constructor's call -/
theorem zt_runI {y : MethodName} {bytes cc : ByteArray} {maxL nL kr nr kt nt n index : Nat} {ws : List Cond} {rm : Room} {Pc : Array Value → State → Prop} {Qc : Array Value → State → Outcome → State → Prop} {free : Addr → Prop} {own : String} {b : Addr} {As rest : List Value} {g : JFrame}
    (hexec : p.tables.exec = Jvm.exec) (hb : c.code = cc) (hml : c.maxLocals = nL) (hown : s.vm.findClass own = some m.cls)
    (hM : zt_Met l y ws rm Pc Qc kr nr kt nt free) (cw : zt_Cw R s args own index y maxL ws rm n) (hy1 : y.name = "<init>") (hinst : (Cond.instanceMethod y).before args s = true) (hcode : (Cond.code y bytes maxL none).before args s = true)
    (hp : PreS s H Pc (.ref b :: As)) (hg : g.method = m) (hn : As.length = n) (hsize : g.locals.size = nL) (hstack : g.stack = As.reverse ++ .ref b :: rest) (hW : 2 * g.monitorRoom + (rest.map fun v => v.category).sum ≤ 8) (hdg : decode cc g.pc = .ok (.invokespecial index, 3)) (hf : cells + rm.cells ≤ R.cells ∧ slots + rm.slots ≤ R.slots) :
    zt_Run p l e R s m args below meth c H locs cells slots kr nr kt nt g rest (Qc (Value.ref b :: As).toArray) free := by
  obtain ⟨hfr, hlo, hws, hini, hlink, hy, hlen⟩ := cw
  obtain ⟨hbl, hPc⟩ := hp
  subst hg
  intro T hT X
  have hpl : e.platform.magicAccessors = ({} : Platform).magicAccessors := by rw [X.admits.platform]
  have hlen' : ∀ sig, parseMethodDescriptor y.desc = some sig → As.length = sig.parameters.length := fun sig h => by
    rw [h] at hlen
    exact hn.trans (Option.some.inj hlen).symm
  obtain ⟨mk, methM, cM, kP, vm₁, hnamed, hmethM, hcM, -, hlM, -, hkP, -, hW₁, hstep₁⟩ := Steps.initColdArgs (e := e) X.here hexec X.warmed hpl hown hy1 hy hlink hinst hcode (f := g) rfl hlen' hstack (by rw [hb]; exact hdg)
  have X₁ := X.noted hW₁
  have hmk₁ : (T.setVm vm₁).vm.method? mk = some methM := by
    have := X₁.warmed.alike.method? (m := mk)
    exact this.trans hmethM
  obtain ⟨o, t, T', L, X', hL, e1, e2, hq, hst, hr, hx⟩ := zt_in (g := { g with stack := rest }) X₁ hM hfr hlo hf (X₁.named hnamed) hmk₁ hcM hlM (a0 := args) (zt_word_at X₁.warmed (by simp [zt_gw, Cond.onTables, Cond.keepsFace, Cond.keeps, Cond.steady]) hini) rfl (hsize.trans hml.symm) (ig := .invokespecial index) (len := 3) (by rw [hb]; exact hdg) hW
    (a := (Value.ref b :: As).toArray) (fun w hw => zt_word_at X₁.warmed (hws w hw).1 (hws w hw).2) (hbl _ _ _ _ (hPc (T.setVm vm₁) hT X₁.warmed))
  refine ⟨o, _, t, T', L, ?_, ?_, X', hL, e1, e2, hq, fun v hv target h => hstep₁ _ fun acts => ?_, fun x hx' target h => hstep₁ _ fun acts => ?_⟩
  · exact hT
  · exact X₁.warmed
  · rw [doInvoke_state]; exact hst.trans (by rw [hr v hv]; exact h)
  · rw [doInvoke_state]; exact hst.trans (by rw [hx x hx']; exact h)
end ZI
theorem wcL_49 {R : Room} {args : Array Value} {s : State} (hz : ∀ w ∈ zw0, w.before args s = true) (hf : rX_init.frames + 1 ≤ R.frames) (hl : 8 + (1 + 11) + rX_init.locals ≤ R.locals) : zt_Cw R s args RL 49 yX_init 1 wX_init rX_init 0 := ⟨hf, hl, zc_ws hz kC_X_init, hz _ kin_ViewChooser, hz _ kl_L_49, ⟨by decide +kernel, by decide +kernel⟩, by decide +kernel⟩
theorem wcL_52 {R : Room} {args : Array Value} {s : State} (hz : ∀ w ∈ zw0, w.before args s = true) (hf : rM_init.frames + 1 ≤ R.frames) (hl : 8 + (1 + 11) + rM_init.locals ≤ R.locals) : zt_Cw R s args RL 52 yM_init 1 wM_init rM_init 0 := ⟨hf, hl, zc_ws hz kC_M_init, hz _ kin_ViewChooserModel, hz _ kl_L_52, ⟨by decide +kernel, by decide +kernel⟩, by decide +kernel⟩
/-- the array class of a name is one -/
theorem zg_cA {D : va_G} {cl : List vw_C} {tys : List (ClassId × FieldType)} {s : State} {a b : ClassId} {ty : FieldType} (h : va_K D cl tys s) (i j : Nat) (hi : tys[i]? = some (a, ty)) (hj : tys[j]? = some (b, ty)) (hty : ty = .int ∨ ty = .long ∨ ty = .byte) : a = b := by
  have h1 := (h.2 i _ hi).2
  have h2 := (h.2 j _ hj).2
  rcases hty with rfl | rfl | rfl
  · exact Option.some.inj (Eq.trans (Eq.symm (show s.vm.findClass ("[" ++ FieldType.int.toString) = some a from h1)) h2)
  · exact Option.some.inj (Eq.trans (Eq.symm (show s.vm.findClass ("[" ++ FieldType.long.toString) = some a from h1)) h2)
  · exact Option.some.inj (Eq.trans (Eq.symm (show s.vm.findClass ("[" ++ FieldType.byte.toString) = some a from h1)) h2)
/-- a fresh object at h0 and what is made behind it -/
def zg_N (h0 sz : Nat) : Nat → Prop := fun q => q = h0 ∨ sz ≤ q
def zg_fresh (ad : Nat → Nat) (n h0 sz : Nat) : Prop := ad 0 = h0 ∧ zg_ap ad n ∧ ∀ i, 0 < i → i < n → sz ≤ ad i
theorem zg_fresh_of {ad : Nat → Nat} {n h0 sz : Nat} {ws : va_W} (hD : va_D (zg_N h0 sz) ws) (h0' : ad 0 = h0) (hn : ws.length = n) (hw : ∀ i, i < n → ∃ e, ws[i]? = some (ad i, e)) : zg_fresh ad n h0 sz := by
  have hap : zg_ap ad n := fun i j hi hj e => by
    obtain ⟨x, hx⟩ := hw i hi
    obtain ⟨y, hy⟩ := hw j hj
    exact hD.1 i j _ _ hx hy e
  refine ⟨h0', hap, fun i h1 h2 => ?_⟩
  obtain ⟨x, hx⟩ := hw i h2
  rcases hD.2 i _ hx with h | h
  · have h3 : ad i = ad 0 := h.trans h0'.symm
    have := hap i 0 h2 (by omega) h3
    omega
  · exact h
set_option maxHeartbeats 4000000 in
set_option maxRecDepth 100000 in
/-- a new one -/
theorem tX_init (l : Launch) {dC : Nat → ClassId} {dI : Nat → Nat → Nat} {cI cJ cB : ClassId} {h0 sz : Nat} : zt_Met l yX_init wX_init rX_init (va_Pc [.ref h0] (zg_C dC dI cI cJ cB [(h0, .inr (0, [.null, .null, .null, .null, .null, .int 0, .int 0, .int 0, .int 0]))] sz)) (zg_Q dC dI (fun _ => none) (fun ad : Nat → Nat => zg_fresh ad 6 h0 sz) (fun ad => zx_w ad cI cJ (fun _ => 0) (fun _ => 0) (fun _ => 0) (fun _ => 0) (fun _ => 0) 0 1 0 0) (zg_N h0 sz)) 5 1080 0 0 (zg_N h0 sz) := by
  refine zt_ofW (cc := cX_init) (maxL := 1) (ret := none) (by decide) rfl ?_
  intro p e s m args below meth c s₁ B hml hout hv
  obtain ⟨rfl, hsz, hP, hK⟩ := hv
  have hx := B.exec
  have hb := B.bytes
  have hr := B.returns
  have hz : ∀ w ∈ zw0, w.before ([.ref h0] : List Value).toArray s = true := fun w h => atoms_spec (ws := wX_init) B.pre w (List.mem_cons_of_mem _ h)
  have hown : s.vm.findClass RX = some m.cls := findClass_of_methodNamed B.named
  have hlocks := B.notSynchronized
  have hin : meth.name = "<init>" := (name_of_methodNamed B.named B.method).1
  subst hsz
  have hS : va_S (zg_N h0 s.heap.size) s.heap s.heap [] := va_S.rf
  have hA : ∀ q : Nat, s.heap.size ≤ q → zg_N h0 s.heap.size q := fun q h => Or.inr h
  have hD : va_D (zg_N h0 s.heap.size) [(h0, .inr (0, [.null, .null, .null, .null, .null, .int 0, .int 0, .int 0, .int 0]))] := ⟨fun i j p q h1 h2 _ => by have a1 := (List.getElem?_eq_some_iff.mp h1).1; have a2 := (List.getElem?_eq_some_iff.mp h2).1; simp at a1 a2; omega, fun i q h1 => by have a1 := (List.getElem?_eq_some_iff.mp h1).1; simp at a1; subst a1; cases h1; exact Or.inl rfl⟩
  have hl := lv_entry ([.ref h0]) (n := 1) (Nat.le_of_ble_eq_true rfl)
  rw [lg_entry_eq]
  generalize (lg_sl ([.ref h0]) ++ List.replicate (1 - (lg_sl ([.ref h0])).length) Slot.unset).toArray = ls at hl ⊢
  have hl : lv_has ls 1 [(0, .ref h0)] := hl
  refine lv_aload_n hx hb dX_init_0 rfl (lv_at hl 0 rfl) ?_
  refine W.objInit hx hb hown (hz _ kl_X_1) (hz _ ki_object) (hz _ kC_object) rfl (by rw [hml]; exact hl.1) rfl dX_init_1 (Nat.le_of_ble_eq_true rfl) (Nat.le_of_ble_eq_true rfl) ?_
  refine W.eq (g2 := F0 m 4 ls []) rfl ?_
  refine lv_aload_n hx hb dX_init_4 rfl (lv_at hl 0 rfl) ?_
  refine lv_bipush (v := nI 8) hx hb dX_init_5 (by decide) ?_
  refine va_newa (atype := .int) (ty := .int) (N' := 8) (a0 := (8, .inl (fun _ : Nat => (0 : Int32)))) hx hb (hz _ ka_int) rfl hK hP hD hS hA (fun _ => rfl) (by decide) (by decide) (Nat.le_of_ble_eq_true rfl) (Nat.le_of_ble_eq_true rfl) (Nat.le_of_ble_eq_true rfl) dX_init_7 (fun q1 cA H hK9 hP hD hS => ?_)
  have hc9 : cA = cI := zg_cA hK9 3 0 rfl rfl (by simp)
  rw [hc9] at hP hD
  clear hK9 hc9
  have hP : va_P (dC, dI) zcl [(h0, .inr (0, [.null, .null, .null, .null, .null, .int 0, .int 0, .int 0, .int 0])), (q1, .inl (cI, 8, .inl (fun _ : Nat => (0 : Int32))))] H := hP
  have hD : va_D (zg_N h0 s.heap.size) [(h0, .inr (0, [.null, .null, .null, .null, .null, .int 0, .int 0, .int 0, .int 0])), (q1, .inl (cI, 8, .inl (fun _ : Nat => (0 : Int32))))] := hD
  refine va_putF (D := (dC, dI)) (ci := 0) (v := .ref q1) (ty := .array .int) (C := RX) (T := TX) (N := 9) hx hb hz in_X tyX tyX_ok nmX hown hK hP hD hS 0 rfl rfl 0 (by decide) (hz _ kf_X_9) (fun _ h9 => h9) rfl hin rfl (by decide +kernel) rfl rfl (Nat.le_of_ble_eq_true rfl) dX_init_9 (fun H locs hP hD hS => ?_)
  have hP : va_P (dC, dI) zcl [(h0, .inr (0, [.ref q1, .null, .null, .null, .null, .int 0, .int 0, .int 0, .int 0])), (q1, .inl (cI, 8, .inl (fun _ : Nat => (0 : Int32))))] H := hP
  have hD : va_D (zg_N h0 s.heap.size) [(h0, .inr (0, [.ref q1, .null, .null, .null, .null, .int 0, .int 0, .int 0, .int 0])), (q1, .inl (cI, 8, .inl (fun _ : Nat => (0 : Int32))))] := hD
  refine lv_aload_n hx hb dX_init_12 rfl (lv_at hl 0 rfl) ?_
  refine lv_bipush (v := nI 32) hx hb dX_init_13 (by decide) ?_
  refine va_newa (atype := .int) (ty := .int) (N' := 32) (a0 := (32, .inl (fun _ : Nat => (0 : Int32)))) hx hb (hz _ ka_int) rfl hK hP hD hS hA (fun _ => rfl) (by decide) (by decide) (Nat.le_of_ble_eq_true rfl) (Nat.le_of_ble_eq_true rfl) (Nat.le_of_ble_eq_true rfl) dX_init_15 (fun q2 cA H hK9 hP hD hS => ?_)
  have hc9 : cA = cI := zg_cA hK9 3 0 rfl rfl (by simp)
  rw [hc9] at hP hD
  clear hK9 hc9
  have hP : va_P (dC, dI) zcl [(h0, .inr (0, [.ref q1, .null, .null, .null, .null, .int 0, .int 0, .int 0, .int 0])), (q1, .inl (cI, 8, .inl (fun _ : Nat => (0 : Int32)))), (q2, .inl (cI, 32, .inl (fun _ : Nat => (0 : Int32))))] H := hP
  have hD : va_D (zg_N h0 s.heap.size) [(h0, .inr (0, [.ref q1, .null, .null, .null, .null, .int 0, .int 0, .int 0, .int 0])), (q1, .inl (cI, 8, .inl (fun _ : Nat => (0 : Int32)))), (q2, .inl (cI, 32, .inl (fun _ : Nat => (0 : Int32))))] := hD
  refine va_putF (D := (dC, dI)) (ci := 0) (v := .ref q2) (ty := .array .int) (C := RX) (T := TX) (N := 9) hx hb hz in_X tyX tyX_ok nmX hown hK hP hD hS 0 rfl rfl 1 (by decide) (hz _ kf_X_13) (fun _ h9 => h9) rfl hin rfl (by decide +kernel) rfl rfl (Nat.le_of_ble_eq_true rfl) dX_init_17 (fun H locs hP hD hS => ?_)
  have hP : va_P (dC, dI) zcl [(h0, .inr (0, [.ref q1, .ref q2, .null, .null, .null, .int 0, .int 0, .int 0, .int 0])), (q1, .inl (cI, 8, .inl (fun _ : Nat => (0 : Int32)))), (q2, .inl (cI, 32, .inl (fun _ : Nat => (0 : Int32))))] H := hP
  have hD : va_D (zg_N h0 s.heap.size) [(h0, .inr (0, [.ref q1, .ref q2, .null, .null, .null, .int 0, .int 0, .int 0, .int 0])), (q1, .inl (cI, 8, .inl (fun _ : Nat => (0 : Int32)))), (q2, .inl (cI, 32, .inl (fun _ : Nat => (0 : Int32))))] := hD
  refine lv_aload_n hx hb dX_init_20 rfl (lv_at hl 0 rfl) ?_
  refine lv_sipush (v := nI 512) hx hb dX_init_21 (by decide) ?_
  refine va_newa (atype := .int) (ty := .int) (N' := 512) (a0 := (512, .inl (fun _ : Nat => (0 : Int32)))) hx hb (hz _ ka_int) rfl hK hP hD hS hA (fun _ => rfl) (by decide) (by decide) (Nat.le_of_ble_eq_true rfl) (Nat.le_of_ble_eq_true rfl) (Nat.le_of_ble_eq_true rfl) dX_init_24 (fun q3 cA H hK9 hP hD hS => ?_)
  have hc9 : cA = cI := zg_cA hK9 3 0 rfl rfl (by simp)
  rw [hc9] at hP hD
  clear hK9 hc9
  have hP : va_P (dC, dI) zcl [(h0, .inr (0, [.ref q1, .ref q2, .null, .null, .null, .int 0, .int 0, .int 0, .int 0])), (q1, .inl (cI, 8, .inl (fun _ : Nat => (0 : Int32)))), (q2, .inl (cI, 32, .inl (fun _ : Nat => (0 : Int32)))), (q3, .inl (cI, 512, .inl (fun _ : Nat => (0 : Int32))))] H := hP
  have hD : va_D (zg_N h0 s.heap.size) [(h0, .inr (0, [.ref q1, .ref q2, .null, .null, .null, .int 0, .int 0, .int 0, .int 0])), (q1, .inl (cI, 8, .inl (fun _ : Nat => (0 : Int32)))), (q2, .inl (cI, 32, .inl (fun _ : Nat => (0 : Int32)))), (q3, .inl (cI, 512, .inl (fun _ : Nat => (0 : Int32))))] := hD
  refine va_putF (D := (dC, dI)) (ci := 0) (v := .ref q3) (ty := .array .int) (C := RX) (T := TX) (N := 9) hx hb hz in_X tyX tyX_ok nmX hown hK hP hD hS 0 rfl rfl 2 (by decide) (hz _ kf_X_16) (fun _ h9 => h9) rfl hin rfl (by decide +kernel) rfl rfl (Nat.le_of_ble_eq_true rfl) dX_init_26 (fun H locs hP hD hS => ?_)
  have hP : va_P (dC, dI) zcl [(h0, .inr (0, [.ref q1, .ref q2, .ref q3, .null, .null, .int 0, .int 0, .int 0, .int 0])), (q1, .inl (cI, 8, .inl (fun _ : Nat => (0 : Int32)))), (q2, .inl (cI, 32, .inl (fun _ : Nat => (0 : Int32)))), (q3, .inl (cI, 512, .inl (fun _ : Nat => (0 : Int32))))] H := hP
  have hD : va_D (zg_N h0 s.heap.size) [(h0, .inr (0, [.ref q1, .ref q2, .ref q3, .null, .null, .int 0, .int 0, .int 0, .int 0])), (q1, .inl (cI, 8, .inl (fun _ : Nat => (0 : Int32)))), (q2, .inl (cI, 32, .inl (fun _ : Nat => (0 : Int32)))), (q3, .inl (cI, 512, .inl (fun _ : Nat => (0 : Int32))))] := hD
  refine lv_aload_n hx hb dX_init_29 rfl (lv_at hl 0 rfl) ?_
  refine lv_sipush (v := nI 512) hx hb dX_init_30 (by decide) ?_
  refine va_newa (atype := .long) (ty := .long) (N' := 512) (a0 := (512, .inr (.inl (fun _ : Nat => (0 : Int64))))) hx hb (hz _ ka_long) rfl hK hP hD hS hA (fun _ => rfl) (by decide) (by decide) (Nat.le_of_ble_eq_true rfl) (Nat.le_of_ble_eq_true rfl) (Nat.le_of_ble_eq_true rfl) dX_init_33 (fun q4 cA H hK9 hP hD hS => ?_)
  have hc9 : cA = cJ := zg_cA hK9 3 1 rfl rfl (by simp)
  rw [hc9] at hP hD
  clear hK9 hc9
  have hP : va_P (dC, dI) zcl [(h0, .inr (0, [.ref q1, .ref q2, .ref q3, .null, .null, .int 0, .int 0, .int 0, .int 0])), (q1, .inl (cI, 8, .inl (fun _ : Nat => (0 : Int32)))), (q2, .inl (cI, 32, .inl (fun _ : Nat => (0 : Int32)))), (q3, .inl (cI, 512, .inl (fun _ : Nat => (0 : Int32)))), (q4, .inl (cJ, 512, .inr (.inl (fun _ : Nat => (0 : Int64)))))] H := hP
  have hD : va_D (zg_N h0 s.heap.size) [(h0, .inr (0, [.ref q1, .ref q2, .ref q3, .null, .null, .int 0, .int 0, .int 0, .int 0])), (q1, .inl (cI, 8, .inl (fun _ : Nat => (0 : Int32)))), (q2, .inl (cI, 32, .inl (fun _ : Nat => (0 : Int32)))), (q3, .inl (cI, 512, .inl (fun _ : Nat => (0 : Int32)))), (q4, .inl (cJ, 512, .inr (.inl (fun _ : Nat => (0 : Int64)))))] := hD
  refine va_putF (D := (dC, dI)) (ci := 0) (v := .ref q4) (ty := .array .long) (C := RX) (T := TX) (N := 9) hx hb hz in_X tyX tyX_ok nmX hown hK hP hD hS 0 rfl rfl 3 (by decide) (hz _ kf_X_19) (fun _ h9 => h9) rfl hin rfl (by decide +kernel) rfl rfl (Nat.le_of_ble_eq_true rfl) dX_init_35 (fun H locs hP hD hS => ?_)
  have hP : va_P (dC, dI) zcl [(h0, .inr (0, [.ref q1, .ref q2, .ref q3, .ref q4, .null, .int 0, .int 0, .int 0, .int 0])), (q1, .inl (cI, 8, .inl (fun _ : Nat => (0 : Int32)))), (q2, .inl (cI, 32, .inl (fun _ : Nat => (0 : Int32)))), (q3, .inl (cI, 512, .inl (fun _ : Nat => (0 : Int32)))), (q4, .inl (cJ, 512, .inr (.inl (fun _ : Nat => (0 : Int64)))))] H := hP
  have hD : va_D (zg_N h0 s.heap.size) [(h0, .inr (0, [.ref q1, .ref q2, .ref q3, .ref q4, .null, .int 0, .int 0, .int 0, .int 0])), (q1, .inl (cI, 8, .inl (fun _ : Nat => (0 : Int32)))), (q2, .inl (cI, 32, .inl (fun _ : Nat => (0 : Int32)))), (q3, .inl (cI, 512, .inl (fun _ : Nat => (0 : Int32)))), (q4, .inl (cJ, 512, .inr (.inl (fun _ : Nat => (0 : Int64)))))] := hD
  refine lv_aload_n hx hb dX_init_38 rfl (lv_at hl 0 rfl) ?_
  refine lv_bipush (v := nI 16) hx hb dX_init_39 (by decide) ?_
  refine va_newa (atype := .int) (ty := .int) (N' := 16) (a0 := (16, .inl (fun _ : Nat => (0 : Int32)))) hx hb (hz _ ka_int) rfl hK hP hD hS hA (fun _ => rfl) (by decide) (by decide) (Nat.le_of_ble_eq_true rfl) (Nat.le_of_ble_eq_true rfl) (Nat.le_of_ble_eq_true rfl) dX_init_41 (fun q5 cA H hK9 hP hD hS => ?_)
  have hc9 : cA = cI := zg_cA hK9 3 0 rfl rfl (by simp)
  rw [hc9] at hP hD
  clear hK9 hc9
  have hP : va_P (dC, dI) zcl [(h0, .inr (0, [.ref q1, .ref q2, .ref q3, .ref q4, .null, .int 0, .int 0, .int 0, .int 0])), (q1, .inl (cI, 8, .inl (fun _ : Nat => (0 : Int32)))), (q2, .inl (cI, 32, .inl (fun _ : Nat => (0 : Int32)))), (q3, .inl (cI, 512, .inl (fun _ : Nat => (0 : Int32)))), (q4, .inl (cJ, 512, .inr (.inl (fun _ : Nat => (0 : Int64))))), (q5, .inl (cI, 16, .inl (fun _ : Nat => (0 : Int32))))] H := hP
  have hD : va_D (zg_N h0 s.heap.size) [(h0, .inr (0, [.ref q1, .ref q2, .ref q3, .ref q4, .null, .int 0, .int 0, .int 0, .int 0])), (q1, .inl (cI, 8, .inl (fun _ : Nat => (0 : Int32)))), (q2, .inl (cI, 32, .inl (fun _ : Nat => (0 : Int32)))), (q3, .inl (cI, 512, .inl (fun _ : Nat => (0 : Int32)))), (q4, .inl (cJ, 512, .inr (.inl (fun _ : Nat => (0 : Int64))))), (q5, .inl (cI, 16, .inl (fun _ : Nat => (0 : Int32))))] := hD
  refine va_putF (D := (dC, dI)) (ci := 0) (v := .ref q5) (ty := .array .int) (C := RX) (T := TX) (N := 9) hx hb hz in_X tyX tyX_ok nmX hown hK hP hD hS 0 rfl rfl 4 (by decide) (hz _ kf_X_23) (fun _ h9 => h9) rfl hin rfl (by decide +kernel) rfl rfl (Nat.le_of_ble_eq_true rfl) dX_init_43 (fun H locs hP hD hS => ?_)
  have hP : va_P (dC, dI) zcl [(h0, .inr (0, [.ref q1, .ref q2, .ref q3, .ref q4, .ref q5, .int 0, .int 0, .int 0, .int 0])), (q1, .inl (cI, 8, .inl (fun _ : Nat => (0 : Int32)))), (q2, .inl (cI, 32, .inl (fun _ : Nat => (0 : Int32)))), (q3, .inl (cI, 512, .inl (fun _ : Nat => (0 : Int32)))), (q4, .inl (cJ, 512, .inr (.inl (fun _ : Nat => (0 : Int64))))), (q5, .inl (cI, 16, .inl (fun _ : Nat => (0 : Int32))))] H := hP
  have hD : va_D (zg_N h0 s.heap.size) [(h0, .inr (0, [.ref q1, .ref q2, .ref q3, .ref q4, .ref q5, .int 0, .int 0, .int 0, .int 0])), (q1, .inl (cI, 8, .inl (fun _ : Nat => (0 : Int32)))), (q2, .inl (cI, 32, .inl (fun _ : Nat => (0 : Int32)))), (q3, .inl (cI, 512, .inl (fun _ : Nat => (0 : Int32)))), (q4, .inl (cJ, 512, .inr (.inl (fun _ : Nat => (0 : Int64))))), (q5, .inl (cI, 16, .inl (fun _ : Nat => (0 : Int32))))] := hD
  refine lv_aload_n hx hb dX_init_46 rfl (lv_at hl 0 rfl) ?_
  refine lv_iconst (v := nI 0) hx hb dX_init_47 (by decide) ?_
  refine va_put (D := (dC, dI)) (ci := 0) (v := .int (nI 0)) (ty := .int) (C := RX) (T := TX) (N := 9) hx hb hz in_X tyX tyX_ok nmX hown hK hP hD hS 0 rfl rfl 5 (by decide) (hz _ kf_X_26) (fun _ h9 => h9) rfl (by decide +kernel) rfl rfl (Nat.le_of_ble_eq_true rfl) dX_init_48 (fun H locs hP hD hS => ?_)
  have hP : va_P (dC, dI) zcl [(h0, .inr (0, [.ref q1, .ref q2, .ref q3, .ref q4, .ref q5, .int (nI 0), .int 0, .int 0, .int 0])), (q1, .inl (cI, 8, .inl (fun _ : Nat => (0 : Int32)))), (q2, .inl (cI, 32, .inl (fun _ : Nat => (0 : Int32)))), (q3, .inl (cI, 512, .inl (fun _ : Nat => (0 : Int32)))), (q4, .inl (cJ, 512, .inr (.inl (fun _ : Nat => (0 : Int64))))), (q5, .inl (cI, 16, .inl (fun _ : Nat => (0 : Int32))))] H := hP
  have hD : va_D (zg_N h0 s.heap.size) [(h0, .inr (0, [.ref q1, .ref q2, .ref q3, .ref q4, .ref q5, .int (nI 0), .int 0, .int 0, .int 0])), (q1, .inl (cI, 8, .inl (fun _ : Nat => (0 : Int32)))), (q2, .inl (cI, 32, .inl (fun _ : Nat => (0 : Int32)))), (q3, .inl (cI, 512, .inl (fun _ : Nat => (0 : Int32)))), (q4, .inl (cJ, 512, .inr (.inl (fun _ : Nat => (0 : Int64))))), (q5, .inl (cI, 16, .inl (fun _ : Nat => (0 : Int32))))] := hD
  refine lv_aload_n hx hb dX_init_51 rfl (lv_at hl 0 rfl) ?_
  refine lv_iconst (v := nI 1) hx hb dX_init_52 (by decide) ?_
  refine va_put (D := (dC, dI)) (ci := 0) (v := .int (nI 1)) (ty := .int) (C := RX) (T := TX) (N := 9) hx hb hz in_X tyX tyX_ok nmX hown hK hP hD hS 0 rfl rfl 6 (by decide) (hz _ kf_X_30) (fun _ h9 => h9) rfl (by decide +kernel) rfl rfl (Nat.le_of_ble_eq_true rfl) dX_init_53 (fun H locs hP hD hS => ?_)
  have hP : va_P (dC, dI) zcl [(h0, .inr (0, [.ref q1, .ref q2, .ref q3, .ref q4, .ref q5, .int (nI 0), .int (nI 1), .int 0, .int 0])), (q1, .inl (cI, 8, .inl (fun _ : Nat => (0 : Int32)))), (q2, .inl (cI, 32, .inl (fun _ : Nat => (0 : Int32)))), (q3, .inl (cI, 512, .inl (fun _ : Nat => (0 : Int32)))), (q4, .inl (cJ, 512, .inr (.inl (fun _ : Nat => (0 : Int64))))), (q5, .inl (cI, 16, .inl (fun _ : Nat => (0 : Int32))))] H := hP
  have hD : va_D (zg_N h0 s.heap.size) [(h0, .inr (0, [.ref q1, .ref q2, .ref q3, .ref q4, .ref q5, .int (nI 0), .int (nI 1), .int 0, .int 0])), (q1, .inl (cI, 8, .inl (fun _ : Nat => (0 : Int32)))), (q2, .inl (cI, 32, .inl (fun _ : Nat => (0 : Int32)))), (q3, .inl (cI, 512, .inl (fun _ : Nat => (0 : Int32)))), (q4, .inl (cJ, 512, .inr (.inl (fun _ : Nat => (0 : Int64))))), (q5, .inl (cI, 16, .inl (fun _ : Nat => (0 : Int32))))] := hD
  refine lv_aload_n hx hb dX_init_56 rfl (lv_at hl 0 rfl) ?_
  refine lv_iconst (v := nI 0) hx hb dX_init_57 (by decide) ?_
  refine va_put (D := (dC, dI)) (ci := 0) (v := .int (nI 0)) (ty := .int) (C := RX) (T := TX) (N := 9) hx hb hz in_X tyX tyX_ok nmX hown hK hP hD hS 0 rfl rfl 7 (by decide) (hz _ kf_X_33) (fun _ h9 => h9) rfl (by decide +kernel) rfl rfl (Nat.le_of_ble_eq_true rfl) dX_init_58 (fun H locs hP hD hS => ?_)
  have hP : va_P (dC, dI) zcl [(h0, .inr (0, [.ref q1, .ref q2, .ref q3, .ref q4, .ref q5, .int (nI 0), .int (nI 1), .int (nI 0), .int 0])), (q1, .inl (cI, 8, .inl (fun _ : Nat => (0 : Int32)))), (q2, .inl (cI, 32, .inl (fun _ : Nat => (0 : Int32)))), (q3, .inl (cI, 512, .inl (fun _ : Nat => (0 : Int32)))), (q4, .inl (cJ, 512, .inr (.inl (fun _ : Nat => (0 : Int64))))), (q5, .inl (cI, 16, .inl (fun _ : Nat => (0 : Int32))))] H := hP
  have hD : va_D (zg_N h0 s.heap.size) [(h0, .inr (0, [.ref q1, .ref q2, .ref q3, .ref q4, .ref q5, .int (nI 0), .int (nI 1), .int (nI 0), .int 0])), (q1, .inl (cI, 8, .inl (fun _ : Nat => (0 : Int32)))), (q2, .inl (cI, 32, .inl (fun _ : Nat => (0 : Int32)))), (q3, .inl (cI, 512, .inl (fun _ : Nat => (0 : Int32)))), (q4, .inl (cJ, 512, .inr (.inl (fun _ : Nat => (0 : Int64))))), (q5, .inl (cI, 16, .inl (fun _ : Nat => (0 : Int32))))] := hD
  refine lv_aload_n hx hb dX_init_61 rfl (lv_at hl 0 rfl) ?_
  refine lv_iconst (v := nI 0) hx hb dX_init_62 (by decide) ?_
  refine va_put (D := (dC, dI)) (ci := 0) (v := .int (nI 0)) (ty := .int) (C := RX) (T := TX) (N := 9) hx hb hz in_X tyX tyX_ok nmX hown hK hP hD hS 0 rfl rfl 8 (by decide) (hz _ kf_X_36) (fun _ h9 => h9) rfl (by decide +kernel) rfl rfl (Nat.le_of_ble_eq_true rfl) dX_init_63 (fun H locs hP hD hS => ?_)
  have hP : va_P (dC, dI) zcl [(h0, .inr (0, [.ref q1, .ref q2, .ref q3, .ref q4, .ref q5, .int (nI 0), .int (nI 1), .int (nI 0), .int (nI 0)])), (q1, .inl (cI, 8, .inl (fun _ : Nat => (0 : Int32)))), (q2, .inl (cI, 32, .inl (fun _ : Nat => (0 : Int32)))), (q3, .inl (cI, 512, .inl (fun _ : Nat => (0 : Int32)))), (q4, .inl (cJ, 512, .inr (.inl (fun _ : Nat => (0 : Int64))))), (q5, .inl (cI, 16, .inl (fun _ : Nat => (0 : Int32))))] H := hP
  have hD : va_D (zg_N h0 s.heap.size) [(h0, .inr (0, [.ref q1, .ref q2, .ref q3, .ref q4, .ref q5, .int (nI 0), .int (nI 1), .int (nI 0), .int (nI 0)])), (q1, .inl (cI, 8, .inl (fun _ : Nat => (0 : Int32)))), (q2, .inl (cI, 32, .inl (fun _ : Nat => (0 : Int32)))), (q3, .inl (cI, 512, .inl (fun _ : Nat => (0 : Int32)))), (q4, .inl (cJ, 512, .inr (.inl (fun _ : Nat => (0 : Int64))))), (q5, .inl (cI, 16, .inl (fun _ : Nat => (0 : Int32))))] := hD
  refine zt_rv hx hb hr hlocks (fun t ht _ => ⟨(fun i => match i with | 0 => h0 | 1 => q1 | 2 => q2 | 3 => q3 | 4 => q4 | _ => q5), rfl, zg_fresh_of hD rfl rfl (fun i hi => ?_), by rw [ht]; exact hP, hS.F ht⟩) hS.2.2 dX_init_66
  rcases (show i = 0 ∨ i = 1 ∨ i = 2 ∨ i = 3 ∨ i = 4 ∨ i = 5 by omega) with rfl | rfl | rfl | rfl | rfl | rfl
  · exact ⟨_, rfl⟩
  · exact ⟨_, rfl⟩
  · exact ⟨_, rfl⟩
  · exact ⟨_, rfl⟩
  · exact ⟨_, rfl⟩
  · exact ⟨_, rfl⟩
set_option maxHeartbeats 4000000 in
set_option maxRecDepth 100000 in
/-- a new one -/
theorem tM_init (l : Launch) {dC : Nat → ClassId} {dI : Nat → Nat → Nat} {cI cJ cB : ClassId} {h0 sz : Nat} : zt_Met l yM_init wM_init rM_init (va_Pc [.ref h0] (zg_C dC dI cI cJ cB [(h0, .inr (1, [.int 0, .int 0, .null, .null, .int 0, .int 0, .int 0, .null, .null, .null, .null]))] sz)) (zg_Q dC dI (fun _ => none) (fun ad : Nat → Nat => zg_fresh ad 7 h0 sz) (fun ad => zm_w ad cI cJ cB (fun _ => 0) (fun _ => 0) (fun _ => 0) (fun _ => 0) (fun _ => 0) (fun _ => 0) 0 0 1 0 0) (zg_N h0 sz)) 6 5176 0 0 (zg_N h0 sz) := by
  refine zt_ofW (cc := cM_init) (maxL := 1) (ret := none) (by decide) rfl ?_
  intro p e s m args below meth c s₁ B hml hout hv
  obtain ⟨rfl, hsz, hP, hK⟩ := hv
  have hx := B.exec
  have hb := B.bytes
  have hr := B.returns
  have hz : ∀ w ∈ zw0, w.before ([.ref h0] : List Value).toArray s = true := fun w h => atoms_spec (ws := wM_init) B.pre w (List.mem_cons_of_mem _ h)
  have hown : s.vm.findClass RM = some m.cls := findClass_of_methodNamed B.named
  have hlocks := B.notSynchronized
  have hin : meth.name = "<init>" := (name_of_methodNamed B.named B.method).1
  subst hsz
  have hS : va_S (zg_N h0 s.heap.size) s.heap s.heap [] := va_S.rf
  have hA : ∀ q : Nat, s.heap.size ≤ q → zg_N h0 s.heap.size q := fun q h => Or.inr h
  have hD : va_D (zg_N h0 s.heap.size) [(h0, .inr (1, [.int 0, .int 0, .null, .null, .int 0, .int 0, .int 0, .null, .null, .null, .null]))] := ⟨fun i j p q h1 h2 _ => by have a1 := (List.getElem?_eq_some_iff.mp h1).1; have a2 := (List.getElem?_eq_some_iff.mp h2).1; simp at a1 a2; omega, fun i q h1 => by have a1 := (List.getElem?_eq_some_iff.mp h1).1; simp at a1; subst a1; cases h1; exact Or.inl rfl⟩
  have hl := lv_entry ([.ref h0]) (n := 1) (Nat.le_of_ble_eq_true rfl)
  rw [lg_entry_eq]
  generalize (lg_sl ([.ref h0]) ++ List.replicate (1 - (lg_sl ([.ref h0])).length) Slot.unset).toArray = ls at hl ⊢
  have hl : lv_has ls 1 [(0, .ref h0)] := hl
  refine lv_aload_n hx hb dM_init_0 rfl (lv_at hl 0 rfl) ?_
  refine W.objInit hx hb hown (hz _ kl_M_1) (hz _ ki_object) (hz _ kC_object) rfl (by rw [hml]; exact hl.1) rfl dM_init_1 (Nat.le_of_ble_eq_true rfl) (Nat.le_of_ble_eq_true rfl) ?_
  refine W.eq (g2 := F0 m 4 ls []) rfl ?_
  refine lv_aload_n hx hb dM_init_4 rfl (lv_at hl 0 rfl) ?_
  refine lv_bipush (v := nI 8) hx hb dM_init_5 (by decide) ?_
  refine va_newa (atype := .int) (ty := .int) (N' := 8) (a0 := (8, .inl (fun _ : Nat => (0 : Int32)))) hx hb (hz _ ka_int) rfl hK hP hD hS hA (fun _ => rfl) (by decide) (by decide) (Nat.le_of_ble_eq_true rfl) (Nat.le_of_ble_eq_true rfl) (Nat.le_of_ble_eq_true rfl) dM_init_7 (fun q1 cA H hK9 hP hD hS => ?_)
  have hc9 : cA = cI := zg_cA hK9 3 0 rfl rfl (by simp)
  rw [hc9] at hP hD
  clear hK9 hc9
  have hP : va_P (dC, dI) zcl [(h0, .inr (1, [.int 0, .int 0, .null, .null, .int 0, .int 0, .int 0, .null, .null, .null, .null])), (q1, .inl (cI, 8, .inl (fun _ : Nat => (0 : Int32))))] H := hP
  have hD : va_D (zg_N h0 s.heap.size) [(h0, .inr (1, [.int 0, .int 0, .null, .null, .int 0, .int 0, .int 0, .null, .null, .null, .null])), (q1, .inl (cI, 8, .inl (fun _ : Nat => (0 : Int32))))] := hD
  refine va_putF (D := (dC, dI)) (ci := 1) (v := .ref q1) (ty := .array .int) (C := RM) (T := TM) (N := 11) hx hb hz in_M tyM tyM_ok nmM hown hK hP hD hS 0 rfl rfl 2 (by decide) (hz _ kf_M_7) (fun _ h9 => h9) rfl hin rfl (by decide +kernel) rfl rfl (Nat.le_of_ble_eq_true rfl) dM_init_9 (fun H locs hP hD hS => ?_)
  have hP : va_P (dC, dI) zcl [(h0, .inr (1, [.int 0, .int 0, .ref q1, .null, .int 0, .int 0, .int 0, .null, .null, .null, .null])), (q1, .inl (cI, 8, .inl (fun _ : Nat => (0 : Int32))))] H := hP
  have hD : va_D (zg_N h0 s.heap.size) [(h0, .inr (1, [.int 0, .int 0, .ref q1, .null, .int 0, .int 0, .int 0, .null, .null, .null, .null])), (q1, .inl (cI, 8, .inl (fun _ : Nat => (0 : Int32))))] := hD
  refine lv_aload_n hx hb dM_init_12 rfl (lv_at hl 0 rfl) ?_
  refine lv_bipush (v := nI 32) hx hb dM_init_13 (by decide) ?_
  refine va_newa (atype := .int) (ty := .int) (N' := 32) (a0 := (32, .inl (fun _ : Nat => (0 : Int32)))) hx hb (hz _ ka_int) rfl hK hP hD hS hA (fun _ => rfl) (by decide) (by decide) (Nat.le_of_ble_eq_true rfl) (Nat.le_of_ble_eq_true rfl) (Nat.le_of_ble_eq_true rfl) dM_init_15 (fun q2 cA H hK9 hP hD hS => ?_)
  have hc9 : cA = cI := zg_cA hK9 3 0 rfl rfl (by simp)
  rw [hc9] at hP hD
  clear hK9 hc9
  have hP : va_P (dC, dI) zcl [(h0, .inr (1, [.int 0, .int 0, .ref q1, .null, .int 0, .int 0, .int 0, .null, .null, .null, .null])), (q1, .inl (cI, 8, .inl (fun _ : Nat => (0 : Int32)))), (q2, .inl (cI, 32, .inl (fun _ : Nat => (0 : Int32))))] H := hP
  have hD : va_D (zg_N h0 s.heap.size) [(h0, .inr (1, [.int 0, .int 0, .ref q1, .null, .int 0, .int 0, .int 0, .null, .null, .null, .null])), (q1, .inl (cI, 8, .inl (fun _ : Nat => (0 : Int32)))), (q2, .inl (cI, 32, .inl (fun _ : Nat => (0 : Int32))))] := hD
  refine va_putF (D := (dC, dI)) (ci := 1) (v := .ref q2) (ty := .array .int) (C := RM) (T := TM) (N := 11) hx hb hz in_M tyM tyM_ok nmM hown hK hP hD hS 0 rfl rfl 3 (by decide) (hz _ kf_M_13) (fun _ h9 => h9) rfl hin rfl (by decide +kernel) rfl rfl (Nat.le_of_ble_eq_true rfl) dM_init_17 (fun H locs hP hD hS => ?_)
  have hP : va_P (dC, dI) zcl [(h0, .inr (1, [.int 0, .int 0, .ref q1, .ref q2, .int 0, .int 0, .int 0, .null, .null, .null, .null])), (q1, .inl (cI, 8, .inl (fun _ : Nat => (0 : Int32)))), (q2, .inl (cI, 32, .inl (fun _ : Nat => (0 : Int32))))] H := hP
  have hD : va_D (zg_N h0 s.heap.size) [(h0, .inr (1, [.int 0, .int 0, .ref q1, .ref q2, .int 0, .int 0, .int 0, .null, .null, .null, .null])), (q1, .inl (cI, 8, .inl (fun _ : Nat => (0 : Int32)))), (q2, .inl (cI, 32, .inl (fun _ : Nat => (0 : Int32))))] := hD
  refine lv_aload_n hx hb dM_init_20 rfl (lv_at hl 0 rfl) ?_
  refine lv_iconst (v := nI 1) hx hb dM_init_21 (by decide) ?_
  refine va_put (D := (dC, dI)) (ci := 1) (v := .int (nI 1)) (ty := .int) (C := RM) (T := TM) (N := 11) hx hb hz in_M tyM tyM_ok nmM hown hK hP hD hS 0 rfl rfl 5 (by decide) (hz _ kf_M_16) (fun _ h9 => h9) rfl (by decide +kernel) rfl rfl (Nat.le_of_ble_eq_true rfl) dM_init_22 (fun H locs hP hD hS => ?_)
  have hP : va_P (dC, dI) zcl [(h0, .inr (1, [.int 0, .int 0, .ref q1, .ref q2, .int 0, .int (nI 1), .int 0, .null, .null, .null, .null])), (q1, .inl (cI, 8, .inl (fun _ : Nat => (0 : Int32)))), (q2, .inl (cI, 32, .inl (fun _ : Nat => (0 : Int32))))] H := hP
  have hD : va_D (zg_N h0 s.heap.size) [(h0, .inr (1, [.int 0, .int 0, .ref q1, .ref q2, .int 0, .int (nI 1), .int 0, .null, .null, .null, .null])), (q1, .inl (cI, 8, .inl (fun _ : Nat => (0 : Int32)))), (q2, .inl (cI, 32, .inl (fun _ : Nat => (0 : Int32))))] := hD
  refine lv_aload_n hx hb dM_init_25 rfl (lv_at hl 0 rfl) ?_
  refine lv_bipush (v := nI 16) hx hb dM_init_26 (by decide) ?_
  refine va_newa (atype := .int) (ty := .int) (N' := 16) (a0 := (16, .inl (fun _ : Nat => (0 : Int32)))) hx hb (hz _ ka_int) rfl hK hP hD hS hA (fun _ => rfl) (by decide) (by decide) (Nat.le_of_ble_eq_true rfl) (Nat.le_of_ble_eq_true rfl) (Nat.le_of_ble_eq_true rfl) dM_init_28 (fun q3 cA H hK9 hP hD hS => ?_)
  have hc9 : cA = cI := zg_cA hK9 3 0 rfl rfl (by simp)
  rw [hc9] at hP hD
  clear hK9 hc9
  have hP : va_P (dC, dI) zcl [(h0, .inr (1, [.int 0, .int 0, .ref q1, .ref q2, .int 0, .int (nI 1), .int 0, .null, .null, .null, .null])), (q1, .inl (cI, 8, .inl (fun _ : Nat => (0 : Int32)))), (q2, .inl (cI, 32, .inl (fun _ : Nat => (0 : Int32)))), (q3, .inl (cI, 16, .inl (fun _ : Nat => (0 : Int32))))] H := hP
  have hD : va_D (zg_N h0 s.heap.size) [(h0, .inr (1, [.int 0, .int 0, .ref q1, .ref q2, .int 0, .int (nI 1), .int 0, .null, .null, .null, .null])), (q1, .inl (cI, 8, .inl (fun _ : Nat => (0 : Int32)))), (q2, .inl (cI, 32, .inl (fun _ : Nat => (0 : Int32)))), (q3, .inl (cI, 16, .inl (fun _ : Nat => (0 : Int32))))] := hD
  refine va_putF (D := (dC, dI)) (ci := 1) (v := .ref q3) (ty := .array .int) (C := RM) (T := TM) (N := 11) hx hb hz in_M tyM tyM_ok nmM hown hK hP hD hS 0 rfl rfl 7 (by decide) (hz _ kf_M_20) (fun _ h9 => h9) rfl hin rfl (by decide +kernel) rfl rfl (Nat.le_of_ble_eq_true rfl) dM_init_30 (fun H locs hP hD hS => ?_)
  have hP : va_P (dC, dI) zcl [(h0, .inr (1, [.int 0, .int 0, .ref q1, .ref q2, .int 0, .int (nI 1), .int 0, .ref q3, .null, .null, .null])), (q1, .inl (cI, 8, .inl (fun _ : Nat => (0 : Int32)))), (q2, .inl (cI, 32, .inl (fun _ : Nat => (0 : Int32)))), (q3, .inl (cI, 16, .inl (fun _ : Nat => (0 : Int32))))] H := hP
  have hD : va_D (zg_N h0 s.heap.size) [(h0, .inr (1, [.int 0, .int 0, .ref q1, .ref q2, .int 0, .int (nI 1), .int 0, .ref q3, .null, .null, .null])), (q1, .inl (cI, 8, .inl (fun _ : Nat => (0 : Int32)))), (q2, .inl (cI, 32, .inl (fun _ : Nat => (0 : Int32)))), (q3, .inl (cI, 16, .inl (fun _ : Nat => (0 : Int32))))] := hD
  refine lv_aload_n hx hb dM_init_33 rfl (lv_at hl 0 rfl) ?_
  refine lv_sipush (v := nI 4096) hx hb dM_init_34 (by decide) ?_
  refine va_newa (atype := .byte) (ty := .byte) (N' := 4096) (a0 := (4096, .inl (fun _ : Nat => (0 : Int32)))) hx hb (hz _ ka_byte) rfl hK hP hD hS hA (fun _ => rfl) (by decide) (by decide) (Nat.le_of_ble_eq_true rfl) (Nat.le_of_ble_eq_true rfl) (Nat.le_of_ble_eq_true rfl) dM_init_37 (fun q4 cA H hK9 hP hD hS => ?_)
  have hc9 : cA = cB := zg_cA hK9 3 2 rfl rfl (by simp)
  rw [hc9] at hP hD
  clear hK9 hc9
  have hP : va_P (dC, dI) zcl [(h0, .inr (1, [.int 0, .int 0, .ref q1, .ref q2, .int 0, .int (nI 1), .int 0, .ref q3, .null, .null, .null])), (q1, .inl (cI, 8, .inl (fun _ : Nat => (0 : Int32)))), (q2, .inl (cI, 32, .inl (fun _ : Nat => (0 : Int32)))), (q3, .inl (cI, 16, .inl (fun _ : Nat => (0 : Int32)))), (q4, .inl (cB, 4096, .inl (fun _ : Nat => (0 : Int32))))] H := hP
  have hD : va_D (zg_N h0 s.heap.size) [(h0, .inr (1, [.int 0, .int 0, .ref q1, .ref q2, .int 0, .int (nI 1), .int 0, .ref q3, .null, .null, .null])), (q1, .inl (cI, 8, .inl (fun _ : Nat => (0 : Int32)))), (q2, .inl (cI, 32, .inl (fun _ : Nat => (0 : Int32)))), (q3, .inl (cI, 16, .inl (fun _ : Nat => (0 : Int32)))), (q4, .inl (cB, 4096, .inl (fun _ : Nat => (0 : Int32))))] := hD
  refine va_putF (D := (dC, dI)) (ci := 1) (v := .ref q4) (ty := .array .byte) (C := RM) (T := TM) (N := 11) hx hb hz in_M tyM tyM_ok nmM hown hK hP hD hS 0 rfl rfl 8 (by decide) (hz _ kf_M_23) (fun _ h9 => h9) rfl hin rfl (by decide +kernel) rfl rfl (Nat.le_of_ble_eq_true rfl) dM_init_39 (fun H locs hP hD hS => ?_)
  have hP : va_P (dC, dI) zcl [(h0, .inr (1, [.int 0, .int 0, .ref q1, .ref q2, .int 0, .int (nI 1), .int 0, .ref q3, .ref q4, .null, .null])), (q1, .inl (cI, 8, .inl (fun _ : Nat => (0 : Int32)))), (q2, .inl (cI, 32, .inl (fun _ : Nat => (0 : Int32)))), (q3, .inl (cI, 16, .inl (fun _ : Nat => (0 : Int32)))), (q4, .inl (cB, 4096, .inl (fun _ : Nat => (0 : Int32))))] H := hP
  have hD : va_D (zg_N h0 s.heap.size) [(h0, .inr (1, [.int 0, .int 0, .ref q1, .ref q2, .int 0, .int (nI 1), .int 0, .ref q3, .ref q4, .null, .null])), (q1, .inl (cI, 8, .inl (fun _ : Nat => (0 : Int32)))), (q2, .inl (cI, 32, .inl (fun _ : Nat => (0 : Int32)))), (q3, .inl (cI, 16, .inl (fun _ : Nat => (0 : Int32)))), (q4, .inl (cB, 4096, .inl (fun _ : Nat => (0 : Int32))))] := hD
  refine lv_aload_n hx hb dM_init_42 rfl (lv_at hl 0 rfl) ?_
  refine lv_sipush (v := nI 512) hx hb dM_init_43 (by decide) ?_
  refine va_newa (atype := .long) (ty := .long) (N' := 512) (a0 := (512, .inr (.inl (fun _ : Nat => (0 : Int64))))) hx hb (hz _ ka_long) rfl hK hP hD hS hA (fun _ => rfl) (by decide) (by decide) (Nat.le_of_ble_eq_true rfl) (Nat.le_of_ble_eq_true rfl) (Nat.le_of_ble_eq_true rfl) dM_init_46 (fun q5 cA H hK9 hP hD hS => ?_)
  have hc9 : cA = cJ := zg_cA hK9 3 1 rfl rfl (by simp)
  rw [hc9] at hP hD
  clear hK9 hc9
  have hP : va_P (dC, dI) zcl [(h0, .inr (1, [.int 0, .int 0, .ref q1, .ref q2, .int 0, .int (nI 1), .int 0, .ref q3, .ref q4, .null, .null])), (q1, .inl (cI, 8, .inl (fun _ : Nat => (0 : Int32)))), (q2, .inl (cI, 32, .inl (fun _ : Nat => (0 : Int32)))), (q3, .inl (cI, 16, .inl (fun _ : Nat => (0 : Int32)))), (q4, .inl (cB, 4096, .inl (fun _ : Nat => (0 : Int32)))), (q5, .inl (cJ, 512, .inr (.inl (fun _ : Nat => (0 : Int64)))))] H := hP
  have hD : va_D (zg_N h0 s.heap.size) [(h0, .inr (1, [.int 0, .int 0, .ref q1, .ref q2, .int 0, .int (nI 1), .int 0, .ref q3, .ref q4, .null, .null])), (q1, .inl (cI, 8, .inl (fun _ : Nat => (0 : Int32)))), (q2, .inl (cI, 32, .inl (fun _ : Nat => (0 : Int32)))), (q3, .inl (cI, 16, .inl (fun _ : Nat => (0 : Int32)))), (q4, .inl (cB, 4096, .inl (fun _ : Nat => (0 : Int32)))), (q5, .inl (cJ, 512, .inr (.inl (fun _ : Nat => (0 : Int64)))))] := hD
  refine va_putF (D := (dC, dI)) (ci := 1) (v := .ref q5) (ty := .array .long) (C := RM) (T := TM) (N := 11) hx hb hz in_M tyM tyM_ok nmM hown hK hP hD hS 0 rfl rfl 9 (by decide) (hz _ kf_M_27) (fun _ h9 => h9) rfl hin rfl (by decide +kernel) rfl rfl (Nat.le_of_ble_eq_true rfl) dM_init_48 (fun H locs hP hD hS => ?_)
  have hP : va_P (dC, dI) zcl [(h0, .inr (1, [.int 0, .int 0, .ref q1, .ref q2, .int 0, .int (nI 1), .int 0, .ref q3, .ref q4, .ref q5, .null])), (q1, .inl (cI, 8, .inl (fun _ : Nat => (0 : Int32)))), (q2, .inl (cI, 32, .inl (fun _ : Nat => (0 : Int32)))), (q3, .inl (cI, 16, .inl (fun _ : Nat => (0 : Int32)))), (q4, .inl (cB, 4096, .inl (fun _ : Nat => (0 : Int32)))), (q5, .inl (cJ, 512, .inr (.inl (fun _ : Nat => (0 : Int64)))))] H := hP
  have hD : va_D (zg_N h0 s.heap.size) [(h0, .inr (1, [.int 0, .int 0, .ref q1, .ref q2, .int 0, .int (nI 1), .int 0, .ref q3, .ref q4, .ref q5, .null])), (q1, .inl (cI, 8, .inl (fun _ : Nat => (0 : Int32)))), (q2, .inl (cI, 32, .inl (fun _ : Nat => (0 : Int32)))), (q3, .inl (cI, 16, .inl (fun _ : Nat => (0 : Int32)))), (q4, .inl (cB, 4096, .inl (fun _ : Nat => (0 : Int32)))), (q5, .inl (cJ, 512, .inr (.inl (fun _ : Nat => (0 : Int64)))))] := hD
  refine lv_aload_n hx hb dM_init_51 rfl (lv_at hl 0 rfl) ?_
  refine lv_sipush (v := nI 512) hx hb dM_init_52 (by decide) ?_
  refine va_newa (atype := .long) (ty := .long) (N' := 512) (a0 := (512, .inr (.inl (fun _ : Nat => (0 : Int64))))) hx hb (hz _ ka_long) rfl hK hP hD hS hA (fun _ => rfl) (by decide) (by decide) (Nat.le_of_ble_eq_true rfl) (Nat.le_of_ble_eq_true rfl) (Nat.le_of_ble_eq_true rfl) dM_init_55 (fun q6 cA H hK9 hP hD hS => ?_)
  have hc9 : cA = cJ := zg_cA hK9 3 1 rfl rfl (by simp)
  rw [hc9] at hP hD
  clear hK9 hc9
  have hP : va_P (dC, dI) zcl [(h0, .inr (1, [.int 0, .int 0, .ref q1, .ref q2, .int 0, .int (nI 1), .int 0, .ref q3, .ref q4, .ref q5, .null])), (q1, .inl (cI, 8, .inl (fun _ : Nat => (0 : Int32)))), (q2, .inl (cI, 32, .inl (fun _ : Nat => (0 : Int32)))), (q3, .inl (cI, 16, .inl (fun _ : Nat => (0 : Int32)))), (q4, .inl (cB, 4096, .inl (fun _ : Nat => (0 : Int32)))), (q5, .inl (cJ, 512, .inr (.inl (fun _ : Nat => (0 : Int64))))), (q6, .inl (cJ, 512, .inr (.inl (fun _ : Nat => (0 : Int64)))))] H := hP
  have hD : va_D (zg_N h0 s.heap.size) [(h0, .inr (1, [.int 0, .int 0, .ref q1, .ref q2, .int 0, .int (nI 1), .int 0, .ref q3, .ref q4, .ref q5, .null])), (q1, .inl (cI, 8, .inl (fun _ : Nat => (0 : Int32)))), (q2, .inl (cI, 32, .inl (fun _ : Nat => (0 : Int32)))), (q3, .inl (cI, 16, .inl (fun _ : Nat => (0 : Int32)))), (q4, .inl (cB, 4096, .inl (fun _ : Nat => (0 : Int32)))), (q5, .inl (cJ, 512, .inr (.inl (fun _ : Nat => (0 : Int64))))), (q6, .inl (cJ, 512, .inr (.inl (fun _ : Nat => (0 : Int64)))))] := hD
  refine va_putF (D := (dC, dI)) (ci := 1) (v := .ref q6) (ty := .array .long) (C := RM) (T := TM) (N := 11) hx hb hz in_M tyM tyM_ok nmM hown hK hP hD hS 0 rfl rfl 10 (by decide) (hz _ kf_M_31) (fun _ h9 => h9) rfl hin rfl (by decide +kernel) rfl rfl (Nat.le_of_ble_eq_true rfl) dM_init_57 (fun H locs hP hD hS => ?_)
  have hP : va_P (dC, dI) zcl [(h0, .inr (1, [.int 0, .int 0, .ref q1, .ref q2, .int 0, .int (nI 1), .int 0, .ref q3, .ref q4, .ref q5, .ref q6])), (q1, .inl (cI, 8, .inl (fun _ : Nat => (0 : Int32)))), (q2, .inl (cI, 32, .inl (fun _ : Nat => (0 : Int32)))), (q3, .inl (cI, 16, .inl (fun _ : Nat => (0 : Int32)))), (q4, .inl (cB, 4096, .inl (fun _ : Nat => (0 : Int32)))), (q5, .inl (cJ, 512, .inr (.inl (fun _ : Nat => (0 : Int64))))), (q6, .inl (cJ, 512, .inr (.inl (fun _ : Nat => (0 : Int64)))))] H := hP
  have hD : va_D (zg_N h0 s.heap.size) [(h0, .inr (1, [.int 0, .int 0, .ref q1, .ref q2, .int 0, .int (nI 1), .int 0, .ref q3, .ref q4, .ref q5, .ref q6])), (q1, .inl (cI, 8, .inl (fun _ : Nat => (0 : Int32)))), (q2, .inl (cI, 32, .inl (fun _ : Nat => (0 : Int32)))), (q3, .inl (cI, 16, .inl (fun _ : Nat => (0 : Int32)))), (q4, .inl (cB, 4096, .inl (fun _ : Nat => (0 : Int32)))), (q5, .inl (cJ, 512, .inr (.inl (fun _ : Nat => (0 : Int64))))), (q6, .inl (cJ, 512, .inr (.inl (fun _ : Nat => (0 : Int64)))))] := hD
  refine zt_rv hx hb hr hlocks (fun t ht _ => ⟨(fun i => match i with | 0 => h0 | 1 => q1 | 2 => q2 | 3 => q3 | 4 => q4 | 5 => q5 | _ => q6), rfl, zg_fresh_of hD rfl rfl (fun i hi => ?_), by rw [ht]; exact hP, hS.F ht⟩) hS.2.2 dM_init_60
  rcases (show i = 0 ∨ i = 1 ∨ i = 2 ∨ i = 3 ∨ i = 4 ∨ i = 5 ∨ i = 6 by omega) with rfl | rfl | rfl | rfl | rfl | rfl | rfl
  · exact ⟨_, rfl⟩
  · exact ⟨_, rfl⟩
  · exact ⟨_, rfl⟩
  · exact ⟨_, rfl⟩
  · exact ⟨_, rfl⟩
  · exact ⟨_, rfl⟩
  · exact ⟨_, rfl⟩
