/-! the reference: its own writers: by program (wip/gen/model_writes.py) -/
set_option maxHeartbeats 4000000 in
set_option maxRecDepth 100000 in
/-- all digits of all views -/
theorem tM_spread (l : Launch) {dC : Nat → ClassId} {dI : Nat → Nat → Nat} {cI cJ cB : ClassId} {ad : Nat → Nat} {lev val chs dig : Nat → Int32} {est cst : Nat → Int64} {code : Int32} {D N F k : Nat} {L : Nat → Nat} {sz : Nat} (had : zg_ap ad 7) (hD : D ≤ 8) (hL : ∀ j, j < D → 1 ≤ L j ∧ L j ≤ 4) (hlev : ∀ j, j < D → lev j = nI (L j)) (hN5 : N ≤ 512) : zt_Met l yM_spread wM_spread rM_spread (va_Pc [.ref (ad 0)] (zg_C dC dI cI cJ cB (zm_w ad cI cJ cB lev val chs dig est cst code D N F k) sz)) (zg_Q dC dI (fun _ => none) (fun g : Nat → Int32 => ∀ w, w < N → ∀ d, d < D → g (8 * w + d) = nI (zq_dg L D w d)) (fun g => zm_w ad cI cJ cB lev val chs g est cst code D N F k) (zg_A ad 7 sz)) 0 0 0 0 (zg_A ad 7 sz) := by
  refine zt_ofW (cc := cM_spread) (maxL := 3) (ret := none) (by decide) rfl ?_
  intro p e s m args below meth c s₁ B hml hout hv
  obtain ⟨rfl, hsz, hP, hK⟩ := hv
  have hx := B.exec
  have hb := B.bytes
  have hr := B.returns
  have hz : ∀ w ∈ zw0, w.before ([.ref (ad 0)] : List Value).toArray s = true := fun w h => atoms_spec (ws := wM_spread) B.pre w (List.mem_cons_of_mem _ h)
  have hown : s.vm.findClass RM = some m.cls := findClass_of_methodNamed B.named
  have hlocks := B.notSynchronized
  subst hsz
  have hS : va_S (zg_A ad 7 s.heap.size) s.heap s.heap [] := va_S.rf
  have hl := lv_entry ([.ref (ad 0)]) (n := 3) (Nat.le_of_ble_eq_true rfl)
  rw [lg_entry_eq]
  generalize (lg_sl ([.ref (ad 0)]) ++ List.replicate (3 - (lg_sl ([.ref (ad 0)])).length) Slot.unset).toArray = ls at hl ⊢
  have hl : lv_has ls 3 [(0, .ref (ad 0))] := hl
  refine lv_iconst (v := nI 0) hx hb dM_spread_0 (by decide) ?_
  refine lv_istore_n (lv' := [(1, .int (nI 0)), (0, .ref (ad 0))]) hx hb dM_spread_1 rfl hl (by decide) rfl (fun ls hl => ?_)
  have outer : ∀ (n i : Nat), i + n = N → ∀ (g : Nat → Int32) (H : Heap) (locs : List Loc), (∀ w, w < i → ∀ d, d < D → g (8 * w + d) = nI (zq_dg L D w d)) → va_P (dC, dI) zcl (zm_w ad cI cJ cB lev val chs g est cst code D N F k) H → va_S (zg_A ad 7 s.heap.size) s.heap H locs → ∀ ls : Array Slot, lv_has ls 3 [(0, .ref (ad 0)), (1, .int (nI i))] → W p l e (headSpec wM_spread rM_spread).room s m ([.ref (ad 0)] : List Value).toArray below meth c H locs 0 0 (zt_MQ below (zg_Q dC dI (fun _ => none) (fun g : Nat → Int32 => ∀ w, w < N → ∀ d, d < D → g (8 * w + d) = nI (zq_dg L D w d)) (fun g => zm_w ad cI cJ cB lev val chs g est cst code D N F k) (zg_A ad 7 s.heap.size)) ([.ref (ad 0)] : List Value).toArray s 0 0 0 0 (zg_A ad 7 s.heap.size)) (F0 m 2 ls []) := by
    intro n
    induction n with
    | zero =>
      intro i hi g H locs hg hP hS ls hl
      refine lv_iload_n hx hb dM_spread_2 rfl (lv_at hl 1 rfl) ?_
      refine lv_aload_n hx hb dM_spread_3 rfl (lv_at hl 0 rfl) ?_
      refine va_get (D := (dC, dI)) (ci := 1) (v := .int (nI N)) (C := RM) (T := TM) (N := 11) hx hb hz in_M hown hK hP 0 rfl rfl 5 (by decide) (hz _ kf_M_16) (fun _ h9 => h9) rfl dM_spread_4 ?_
      refine zj_ge (tgt := 50) hx hb dM_spread_7 (by decide) (by omega) (by omega) (fun _ => ?_) (fun c7 => absurd c7 (by omega))
      exact zt_rv hx hb hr hlocks (fun t ht _ => ⟨g, rfl, fun w hw d hd => hg w (by omega) d hd, by rw [ht]; exact hP, hS.F ht⟩) (hS.2.2) dM_spread_50
    | succ n ih =>
      intro i hi g H locs hg hP hS ls hl
      refine lv_iload_n hx hb dM_spread_2 rfl (lv_at hl 1 rfl) ?_
      refine lv_aload_n hx hb dM_spread_3 rfl (lv_at hl 0 rfl) ?_
      refine va_get (D := (dC, dI)) (ci := 1) (v := .int (nI N)) (C := RM) (T := TM) (N := 11) hx hb hz in_M hown hK hP 0 rfl rfl 5 (by decide) (hz _ kf_M_16) (fun _ h9 => h9) rfl dM_spread_4 ?_
      refine zj_ge (tgt := 50) hx hb dM_spread_7 (by decide) (by omega) (by omega) (fun c7 => absurd c7 (by omega)) (fun _ => ?_)
      refine lv_iconst (v := nI 0) hx hb dM_spread_10 (by decide) ?_
      refine lv_istore_n (lv' := [(2, .int (nI 0)), (0, .ref (ad 0)), (1, .int (nI i))]) hx hb dM_spread_11 rfl hl (by decide) rfl (fun ls hl => ?_)
      have inner : ∀ (r j : Nat), j + r = D → ∀ (g : Nat → Int32) (H : Heap) (locs : List Loc), (∀ w, w < i → ∀ d, d < D → g (8 * w + d) = nI (zq_dg L D w d)) → (∀ d, d < j → g (8 * i + d) = nI (zq_dg L D i d)) → va_P (dC, dI) zcl (zm_w ad cI cJ cB lev val chs g est cst code D N F k) H → va_S (zg_A ad 7 s.heap.size) s.heap H locs → ∀ ls : Array Slot, lv_has ls 3 [(0, .ref (ad 0)), (1, .int (nI i)), (2, .int (nI j))] → W p l e (headSpec wM_spread rM_spread).room s m ([.ref (ad 0)] : List Value).toArray below meth c H locs 0 0 (zt_MQ below (zg_Q dC dI (fun _ => none) (fun g : Nat → Int32 => ∀ w, w < N → ∀ d, d < D → g (8 * w + d) = nI (zq_dg L D w d)) (fun g => zm_w ad cI cJ cB lev val chs g est cst code D N F k) (zg_A ad 7 s.heap.size)) ([.ref (ad 0)] : List Value).toArray s 0 0 0 0 (zg_A ad 7 s.heap.size)) (F0 m 12 ls []) := by
        intro r
        induction r with
        | zero =>
          intro j hj g H locs hg1 hg2 hP hS ls hl
          refine lv_iload_n hx hb dM_spread_12 rfl (lv_at hl 2 rfl) ?_
          refine lv_aload_n hx hb dM_spread_13 rfl (lv_at hl 0 rfl) ?_
          refine va_get (D := (dC, dI)) (ci := 1) (v := .int (nI D)) (C := RM) (T := TM) (N := 11) hx hb hz in_M hown hK hP 0 rfl rfl 1 (by decide) (hz _ kf_M_37) (fun _ h9 => h9) rfl dM_spread_14 ?_
          refine zj_ge (tgt := 44) hx hb dM_spread_17 (by decide) (by omega) (by omega) (fun _ => ?_) (fun c17 => absurd c17 (by omega))
          refine lv_iinc (v := nI (i + 1)) (lv' := [(1, .int (nI (i + 1))), (0, .ref (ad 0)), (2, .int (nI j))]) hx hb dM_spread_44 hl (k := 1) rfl (nI_1 _) (by decide) rfl (fun ls hl => ?_)
          refine lv_goto (tgt := 2) hx hb dM_spread_47 (by decide) ?_
          refine ih (i + 1) (by omega) g H locs (fun w hw d hd => ?_) hP hS ls (lv_sub hl [1, 0] rfl)
          by_cases e9 : w = i
          · subst e9; exact hg2 d (by omega)
          · exact hg1 w (by omega) d hd
        | succ r ih2 =>
          intro j hj g H locs hg1 hg2 hP hS ls hl
          refine lv_iload_n hx hb dM_spread_12 rfl (lv_at hl 2 rfl) ?_
          refine lv_aload_n hx hb dM_spread_13 rfl (lv_at hl 0 rfl) ?_
          refine va_get (D := (dC, dI)) (ci := 1) (v := .int (nI D)) (C := RM) (T := TM) (N := 11) hx hb hz in_M hown hK hP 0 rfl rfl 1 (by decide) (hz _ kf_M_37) (fun _ h9 => h9) rfl dM_spread_14 ?_
          refine zj_ge (tgt := 44) hx hb dM_spread_17 (by decide) (by omega) (by omega) (fun c17 => absurd c17 (by omega)) (fun _ => ?_)
          refine lv_aload_n hx hb dM_spread_20 rfl (lv_at hl 0 rfl) ?_
          refine va_get (D := (dC, dI)) (ci := 1) (v := .ref (ad 4)) (C := RM) (T := TM) (N := 11) hx hb hz in_M hown hK hP 0 rfl rfl 8 (by decide) (hz _ kf_M_23) (fun _ h9 => h9) rfl dM_spread_21 ?_
          refine lv_bipush (v := nI 8) hx hb dM_spread_24 (by decide) ?_
          refine lv_iload_n hx hb dM_spread_26 rfl (lv_at hl 1 rfl) ?_
          refine lv_imul hx hb dM_spread_27 ?_
          refine zt_ti (pk_mul _ _) ?_
          refine lv_iload_n hx hb dM_spread_28 rfl (lv_at hl 2 rfl) ?_
          refine lv_iadd hx hb dM_spread_29 ?_
          refine zt_ti (nI_add _ _) ?_
          refine lv_aload_n hx hb dM_spread_30 rfl (lv_at hl 0 rfl) ?_
          refine lv_iload_n hx hb dM_spread_31 rfl (lv_at hl 1 rfl) ?_
          refine lv_iload_n hx hb dM_spread_32 rfl (lv_at hl 2 rfl) ?_
          refine zt_callRi (zg_run (rest := [.int (nI ((8 * i) + j)), .ref (ad 4)]) hx hb hml hown (tM_divided l hD hL hlev (by omega) (by omega)) (wcM_54 hz (Nat.le_of_ble_eq_true rfl) (Nat.le_of_ble_eq_true rfl)) (hz _ ki_M_divided) (hz _ ks_M_divided) (hz _ kC_M_divided) hP hK rfl (q0 := 0) rfl rfl hl.1 rfl (Nat.le_of_ble_eq_true rfl) dM_spread_33 ⟨Nat.le_of_ble_eq_true rfl, Nat.le_of_ble_eq_true rfl⟩) ?_
          have hb1 := zq_dg_le L D i j (by omega)
          have hb2 := hL j (by omega)
          refine lv_i2b (v := nI (zq_dg L D i j)) hx hb dM_spread_36 (zq_i8 _ (by omega)) ?_
          refine zt_bast hx hb hK hP (zm_D had) hS 4 2 rfl rfl (i := ((8 * i) + j)) (by omega) (by decide) (y := (nI (zq_dg L D i j))) (by rw [vp_nar_byte]; exact zq_i8 _ (by omega)) dM_spread_37 (fun H locs hP _ hS => ?_)
          have hP : va_P (dC, dI) zcl (zm_w ad cI cJ cB lev val chs (upd g ((8 * i) + j) (nI (zq_dg L D i j))) est cst code D N F k) H := hP
          refine lv_iinc (v := nI (j + 1)) (lv' := [(2, .int (nI (j + 1))), (0, .ref (ad 0)), (1, .int (nI i))]) hx hb dM_spread_38 hl (k := 2) rfl (nI_1 _) (by decide) rfl (fun ls hl => ?_)
          refine lv_goto (tgt := 12) hx hb dM_spread_41 (by decide) ?_
          refine ih2 (j + 1) (by omega) _ H locs (fun w hw d hd => ?_) (fun d hd => ?_) hP hS ls (lv_sub hl [1, 2, 0] rfl)
          · rw [pk_un (by omega)]; exact hg1 w hw d hd
          · by_cases e9 : d = j
            · rw [e9, pk_us]
            · rw [pk_un (by omega)]; exact hg2 d (by omega)
      exact inner D 0 (by omega) g H locs hg (fun d hd => absurd hd (Nat.not_lt_zero d)) hP hS ls (lv_sub hl [1, 2, 0] rfl)
  exact outer N 0 (by omega) dig s.heap [] (fun w hw => absurd hw (Nat.not_lt_zero w)) hP hS ls (lv_sub hl [1, 0] rfl)
set_option maxHeartbeats 4000000 in
set_option maxRecDepth 100000 in
/-- estimates and costs anew -/
theorem tM_reckon (l : Launch) {dC : Nat → ClassId} {dI : Nat → Nat → Nat} {cI cJ cB : ClassId} {ad : Nat → Nat} {lev val chs dig : Nat → Int32} {est cst : Nat → Int64} {code : Int32} {D N F k : Nat} {L V S : Nat → Nat} {sz : Nat} (had : zg_ap ad 7) (hR : zm_R D N F L V lev val dig) (hs : zm_S N k S chs) : zt_Met l yM_reckon wM_reckon rM_reckon (va_Pc [.ref (ad 0)] (zg_C dC dI cI cJ cB (zm_w ad cI cJ cB lev val chs dig est cst code D N F k) sz)) (zg_Q dC dI (fun _ => none) (fun u : (Nat → Int64) × (Nat → Int64) => (∀ w, w < N → u.1 w = lN (zq_es L V D F w)) ∧ ∀ w, w < N → u.2 w = lN (zq_ct (zq_es L V D F) (zq_ab L D) F S k w)) (fun u => zm_w ad cI cJ cB lev val chs dig u.1 u.2 code D N F k) (zg_A ad 7 sz)) 0 0 0 0 (zg_A ad 7 sz) := by
  refine zt_ofW (cc := cM_reckon) (maxL := 4) (ret := none) (by decide) rfl ?_
  intro p e s m args below meth c s₁ B hml hout hv
  obtain ⟨rfl, hsz, hP, hK⟩ := hv
  have hx := B.exec
  have hb := B.bytes
  have hr := B.returns
  have hz : ∀ w ∈ zw0, w.before ([.ref (ad 0)] : List Value).toArray s = true := fun w h => atoms_spec (ws := wM_reckon) B.pre w (List.mem_cons_of_mem _ h)
  have hown : s.vm.findClass RM = some m.cls := findClass_of_methodNamed B.named
  have hlocks := B.notSynchronized
  subst hsz
  have hS : va_S (zg_A ad 7 s.heap.size) s.heap s.heap [] := va_S.rf
  have hl := lv_entry ([.ref (ad 0)]) (n := 4) (Nat.le_of_ble_eq_true rfl)
  rw [lg_entry_eq]
  generalize (lg_sl ([.ref (ad 0)]) ++ List.replicate (4 - (lg_sl ([.ref (ad 0)])).length) Slot.unset).toArray = ls at hl ⊢
  have hl : lv_has ls 4 [(0, .ref (ad 0))] := hl
  have hR9 := hR
  obtain ⟨hD, hL, hN, hN5, hF, hVb, hlev, hval, hdg⟩ := hR
  obtain ⟨hk, hs1, hs2⟩ := hs
  refine lv_iconst (v := nI 0) hx hb dM_reckon_0 (by decide) ?_
  refine lv_istore_n (lv' := [(1, .int (nI 0)), (0, .ref (ad 0))]) hx hb dM_reckon_1 rfl hl (by decide) rfl (fun ls hl => ?_)
  have second : ∀ (n i : Nat), i + n = N → ∀ (f g : Nat → Int64) (H : Heap) (locs : List Loc), (∀ w, w < N → f w = lN (zq_es L V D F w)) → (∀ w, w < i → g w = lN (zq_ct (zq_es L V D F) (zq_ab L D) F S k w)) → va_P (dC, dI) zcl (zm_w ad cI cJ cB lev val chs dig f g code D N F k) H → va_S (zg_A ad 7 s.heap.size) s.heap H locs → ∀ ls : Array Slot, lv_has ls 4 [(0, .ref (ad 0)), (1, .int (nI i))] → W p l e (headSpec wM_reckon rM_reckon).room s m ([.ref (ad 0)] : List Value).toArray below meth c H locs 0 0 (zt_MQ below (zg_Q dC dI (fun _ => none) (fun u : (Nat → Int64) × (Nat → Int64) => (∀ w, w < N → u.1 w = lN (zq_es L V D F w)) ∧ ∀ w, w < N → u.2 w = lN (zq_ct (zq_es L V D F) (zq_ab L D) F S k w)) (fun u => zm_w ad cI cJ cB lev val chs dig u.1 u.2 code D N F k) (zg_A ad 7 s.heap.size)) ([.ref (ad 0)] : List Value).toArray s 0 0 0 0 (zg_A ad 7 s.heap.size)) (F0 m 29 ls []) := by
    intro n
    induction n with
    | zero =>
      intro i hi f g H locs hf hg hP hS ls hl
      refine lv_iload_n hx hb dM_reckon_29 rfl (lv_at hl 1 rfl) ?_
      refine lv_aload_n hx hb dM_reckon_30 rfl (lv_at hl 0 rfl) ?_
      refine va_get (D := (dC, dI)) (ci := 1) (v := .int (nI N)) (C := RM) (T := TM) (N := 11) hx hb hz in_M hown hK hP 0 rfl rfl 5 (by decide) (hz _ kf_M_16) (fun _ h9 => h9) rfl dM_reckon_31 ?_
      refine zj_ge (tgt := 141) hx hb dM_reckon_34 (by decide) (by omega) (by omega) (fun _ => ?_) (fun c34 => absurd c34 (by omega))
      exact zt_rv hx hb hr hlocks (fun t ht _ => ⟨(f, g), rfl, ⟨hf, fun w hw => hg w (by omega)⟩, by rw [ht]; exact hP, hS.F ht⟩) (hS.2.2) dM_reckon_141
    | succ n ih =>
      intro i hi f g H locs hf hg hP hS ls hl
      refine lv_iload_n hx hb dM_reckon_29 rfl (lv_at hl 1 rfl) ?_
      refine lv_aload_n hx hb dM_reckon_30 rfl (lv_at hl 0 rfl) ?_
      refine va_get (D := (dC, dI)) (ci := 1) (v := .int (nI N)) (C := RM) (T := TM) (N := 11) hx hb hz in_M hown hK hP 0 rfl rfl 5 (by decide) (hz _ kf_M_16) (fun _ h9 => h9) rfl dM_reckon_31 ?_
      refine zj_ge (tgt := 141) hx hb dM_reckon_34 (by decide) (by omega) (by omega) (fun c34 => absurd c34 (by omega)) (fun _ => ?_)
      refine lv_aload_n hx hb dM_reckon_37 rfl (lv_at hl 0 rfl) ?_
      refine va_get (D := (dC, dI)) (ci := 1) (v := .ref (ad 6)) (C := RM) (T := TM) (N := 11) hx hb hz in_M hown hK hP 0 rfl rfl 10 (by decide) (hz _ kf_M_31) (fun _ h9 => h9) rfl dM_reckon_38 ?_
      refine lv_iload_n hx hb dM_reckon_41 rfl (lv_at hl 1 rfl) ?_
      refine lv_aload_n hx hb dM_reckon_42 rfl (lv_at hl 0 rfl) ?_
      refine va_get (D := (dC, dI)) (ci := 1) (v := .int (nI F)) (C := RM) (T := TM) (N := 11) hx hb hz in_M hown hK hP 0 rfl rfl 4 (by decide) (hz _ kf_M_51) (fun _ h9 => h9) rfl dM_reckon_43 ?_
      refine lv_i2l (v := lN F) hx hb dM_reckon_46 (nI_l (by omega)) ?_
      refine zt_last hx hb hK hP (zm_D had) hS 6 1 rfl rfl (i := i) (by omega) (by decide) dM_reckon_47 (fun H locs hP _ hS => ?_)
      have hP : va_P (dC, dI) zcl (zm_w ad cI cJ cB lev val chs dig f (vp_updL g i (lN F)) code D N F k) H := hP
      refine lv_iconst (v := nI 0) hx hb dM_reckon_48 (by decide) ?_
      refine lv_istore_n (lv' := [(2, .int (nI 0)), (0, .ref (ad 0)), (1, .int (nI i))]) hx hb dM_reckon_49 rfl hl (by decide) rfl (fun ls hl => ?_)
      have third : ∀ (r j : Nat), j + r = k → ∀ (g : Nat → Int64) (H : Heap) (locs : List Loc), (∀ w, w < i → g w = lN (zq_ct (zq_es L V D F) (zq_ab L D) F S k w)) → g i = lN (zq_ct (zq_es L V D F) (zq_ab L D) F S j i) → va_P (dC, dI) zcl (zm_w ad cI cJ cB lev val chs dig f g code D N F k) H → va_S (zg_A ad 7 s.heap.size) s.heap H locs → ∀ ls : Array Slot, lv_has ls 4 [(0, .ref (ad 0)), (1, .int (nI i)), (2, .int (nI j))] → W p l e (headSpec wM_reckon rM_reckon).room s m ([.ref (ad 0)] : List Value).toArray below meth c H locs 0 0 (zt_MQ below (zg_Q dC dI (fun _ => none) (fun u : (Nat → Int64) × (Nat → Int64) => (∀ w, w < N → u.1 w = lN (zq_es L V D F w)) ∧ ∀ w, w < N → u.2 w = lN (zq_ct (zq_es L V D F) (zq_ab L D) F S k w)) (fun u => zm_w ad cI cJ cB lev val chs dig u.1 u.2 code D N F k) (zg_A ad 7 s.heap.size)) ([.ref (ad 0)] : List Value).toArray s 0 0 0 0 (zg_A ad 7 s.heap.size)) (F0 m 50 ls []) := by
        intro r
        induction r with
        | zero =>
          intro j hj g H locs hg1 hg2 hP hS ls hl
          refine lv_iload_n hx hb dM_reckon_50 rfl (lv_at hl 2 rfl) ?_
          refine lv_aload_n hx hb dM_reckon_51 rfl (lv_at hl 0 rfl) ?_
          refine va_get (D := (dC, dI)) (ci := 1) (v := .int (nI k)) (C := RM) (T := TM) (N := 11) hx hb hz in_M hown hK hP 0 rfl rfl 6 (by decide) (hz _ kf_M_40) (fun _ h9 => h9) rfl dM_reckon_52 ?_
          refine zj_ge (tgt := 135) hx hb dM_reckon_55 (by decide) (by omega) (by omega) (fun _ => ?_) (fun c55 => absurd c55 (by omega))
          have ej : j = k := by omega
          subst ej
          refine lv_iinc (v := nI (i + 1)) (lv' := [(1, .int (nI (i + 1))), (0, .ref (ad 0)), (2, .int (nI j))]) hx hb dM_reckon_135 hl (k := 1) rfl (nI_1 _) (by decide) rfl (fun ls hl => ?_)
          refine lv_goto (tgt := 29) hx hb dM_reckon_138 (by decide) ?_
          refine ih (i + 1) (by omega) f g H locs hf (fun w hw => ?_) hP hS ls (lv_sub hl [1, 0] rfl)
          by_cases e9 : w = i
          · rw [e9]; exact hg2
          · exact hg1 w (by omega)
        | succ r ih2 =>
          intro j hj g H locs hg1 hg2 hP hS ls hl
          have hsj := hs2 j (by omega)
          have hel := zq_es_le L V D F (S j)
          have hcl := zq_ct_le (zq_es L V D F) (zq_ab L D) F S j i
          have ect := zq_ct_s (zq_es L V D F) (zq_ab L D) F S j i
          refine lv_iload_n hx hb dM_reckon_50 rfl (lv_at hl 2 rfl) ?_
          refine lv_aload_n hx hb dM_reckon_51 rfl (lv_at hl 0 rfl) ?_
          refine va_get (D := (dC, dI)) (ci := 1) (v := .int (nI k)) (C := RM) (T := TM) (N := 11) hx hb hz in_M hown hK hP 0 rfl rfl 6 (by decide) (hz _ kf_M_40) (fun _ h9 => h9) rfl dM_reckon_52 ?_
          refine zj_ge (tgt := 135) hx hb dM_reckon_55 (by decide) (by omega) (by omega) (fun c55 => absurd c55 (by omega)) (fun _ => ?_)
          refine lv_aload_n hx hb dM_reckon_58 rfl (lv_at hl 0 rfl) ?_
          refine va_get (D := (dC, dI)) (ci := 1) (v := .ref (ad 5)) (C := RM) (T := TM) (N := 11) hx hb hz in_M hown hK hP 0 rfl rfl 9 (by decide) (hz _ kf_M_27) (fun _ h9 => h9) rfl dM_reckon_59 ?_
          refine lv_aload_n hx hb dM_reckon_62 rfl (lv_at hl 0 rfl) ?_
          refine va_get (D := (dC, dI)) (ci := 1) (v := .ref (ad 3)) (C := RM) (T := TM) (N := 11) hx hb hz in_M hown hK hP 0 rfl rfl 7 (by decide) (hz _ kf_M_20) (fun _ h9 => h9) rfl dM_reckon_63 ?_
          refine lv_iload_n hx hb dM_reckon_66 rfl (lv_at hl 2 rfl) ?_
          refine zt_iald hx hb hK hP 3 0 rfl rfl (i := j) (by omega) (by decide) (v := (nI (S j))) (hs1 j (by omega)) dM_reckon_67 ?_
          refine zt_lald hx hb hK hP 5 1 rfl rfl (i := (S j)) (by omega) (by decide) (v := (lN (zq_es L V D F (S j)))) (hf (S j) hsj) dM_reckon_68 ?_
          refine lv_aload_n hx hb dM_reckon_69 rfl (lv_at hl 0 rfl) ?_
          refine va_get (D := (dC, dI)) (ci := 1) (v := .ref (ad 6)) (C := RM) (T := TM) (N := 11) hx hb hz in_M hown hK hP 0 rfl rfl 10 (by decide) (hz _ kf_M_31) (fun _ h9 => h9) rfl dM_reckon_70 ?_
          refine lv_iload_n hx hb dM_reckon_73 rfl (lv_at hl 1 rfl) ?_
          refine zt_lald hx hb hK hP 6 1 rfl rfl (i := i) (by omega) (by decide) (v := (lN (zq_ct (zq_es L V D F) (zq_ab L D) F S j i))) (hg2) dM_reckon_74 ?_
          refine zl_ge (tgt := 97) hx hb dM_reckon_75 dM_reckon_76 (by decide) (by omega) (by omega) (fun c75 => ?_) (fun c75 => ?_)
          · refine lv_iconst (v := nI 0) hx hb dM_reckon_97 (by decide) ?_
            refine lv_istore_n (lv' := [(3, .int (nI 0)), (0, .ref (ad 0)), (1, .int (nI i)), (2, .int (nI j))]) hx hb dM_reckon_98 rfl hl (by decide) rfl (fun ls hl => ?_)
            refine lv_aload_n hx hb dM_reckon_99 rfl (lv_at hl 1 rfl) ?_
            refine va_get (D := (dC, dI)) (ci := 1) (v := .ref (ad 6)) (C := RM) (T := TM) (N := 11) hx hb hz in_M hown hK hP 0 rfl rfl 10 (by decide) (hz _ kf_M_31) (fun _ h9 => h9) rfl dM_reckon_100 ?_
            refine lv_iload_n hx hb dM_reckon_103 rfl (lv_at hl 2 rfl) ?_
            refine lv_iload_n hx hb dM_reckon_104 rfl (lv_at hl 0 rfl) ?_
            refine lv_if_eq (tgt := 122) hx hb dM_reckon_105 (by decide) (fun _ => ?_) (fun c105 => absurd c105 (not_not_intro (by decide)))
            have e1 : zq_ct (zq_es L V D F) (zq_ab L D) F S (j + 1) i = zq_ct (zq_es L V D F) (zq_ab L D) F S j i := by rw [ect]; exact if_neg (fun q => by have := q.1; omega)
            refine lv_aload_n hx hb dM_reckon_122 rfl (lv_at hl 1 rfl) ?_
            refine va_get (D := (dC, dI)) (ci := 1) (v := .ref (ad 6)) (C := RM) (T := TM) (N := 11) hx hb hz in_M hown hK hP 0 rfl rfl 10 (by decide) (hz _ kf_M_31) (fun _ h9 => h9) rfl dM_reckon_123 ?_
            refine lv_iload_n hx hb dM_reckon_126 rfl (lv_at hl 2 rfl) ?_
            refine zt_lald hx hb hK hP 6 1 rfl rfl (i := i) (by omega) (by decide) (v := (lN (zq_ct (zq_es L V D F) (zq_ab L D) F S j i))) (hg2) dM_reckon_127 ?_
            refine zt_last hx hb hK hP (zm_D had) hS 6 1 rfl rfl (i := i) (by omega) (by decide) dM_reckon_128 (fun H locs hP _ hS => ?_)
            have hP : va_P (dC, dI) zcl (zm_w ad cI cJ cB lev val chs dig f (vp_updL g i (lN (zq_ct (zq_es L V D F) (zq_ab L D) F S j i))) code D N F k) H := hP
            refine lv_iinc (v := nI (j + 1)) (lv' := [(2, .int (nI (j + 1))), (3, .int (nI 0)), (0, .ref (ad 0)), (1, .int (nI i))]) hx hb dM_reckon_129 hl (k := 3) rfl (nI_1 _) (by decide) rfl (fun ls hl => ?_)
            refine lv_goto (tgt := 50) hx hb dM_reckon_132 (by decide) ?_
            refine ih2 (j + 1) (by omega) _ H locs (fun w hw => ?_) ?_ hP hS ls (lv_sub hl [2, 3, 0] rfl)
            · rw [pk_uLn (by omega)]; exact hg1 w hw
            · rw [pk_uLs, e1]
          · refine lv_aload_n hx hb dM_reckon_79 rfl (lv_at hl 0 rfl) ?_
            refine lv_aload_n hx hb dM_reckon_80 rfl (lv_at hl 0 rfl) ?_
            refine va_get (D := (dC, dI)) (ci := 1) (v := .ref (ad 3)) (C := RM) (T := TM) (N := 11) hx hb hz in_M hown hK hP 0 rfl rfl 7 (by decide) (hz _ kf_M_20) (fun _ h9 => h9) rfl dM_reckon_81 ?_
            refine lv_iload_n hx hb dM_reckon_84 rfl (lv_at hl 2 rfl) ?_
            refine zt_iald hx hb hK hP 3 0 rfl rfl (i := j) (by omega) (by decide) (v := (nI (S j))) (hs1 j (by omega)) dM_reckon_85 ?_
            refine lv_iload_n hx hb dM_reckon_86 rfl (lv_at hl 1 rfl) ?_
            refine zt_callRi (zg_run (rest := []) hx hb hml hown (tM_above l hR9 hsj (by omega)) (wcM_67 hz (Nat.le_of_ble_eq_true rfl) (Nat.le_of_ble_eq_true rfl)) (hz _ ki_M_above) (hz _ ks_M_above) (hz _ kC_M_above) hP hK rfl (q0 := 0) rfl rfl hl.1 rfl (Nat.le_of_ble_eq_true rfl) dM_reckon_87 ⟨Nat.le_of_ble_eq_true rfl, Nat.le_of_ble_eq_true rfl⟩) ?_
            refine zb_eq (tgt := 97) hx hb dM_reckon_90 (by decide) (fun c90 => ?_) (fun c90 => ?_)
            · refine lv_iconst (v := nI 0) hx hb dM_reckon_97 (by decide) ?_
              refine lv_istore_n (lv' := [(3, .int (nI 0)), (0, .ref (ad 0)), (1, .int (nI i)), (2, .int (nI j))]) hx hb dM_reckon_98 rfl hl (by decide) rfl (fun ls hl => ?_)
              refine lv_aload_n hx hb dM_reckon_99 rfl (lv_at hl 1 rfl) ?_
              refine va_get (D := (dC, dI)) (ci := 1) (v := .ref (ad 6)) (C := RM) (T := TM) (N := 11) hx hb hz in_M hown hK hP 0 rfl rfl 10 (by decide) (hz _ kf_M_31) (fun _ h9 => h9) rfl dM_reckon_100 ?_
              refine lv_iload_n hx hb dM_reckon_103 rfl (lv_at hl 2 rfl) ?_
              refine lv_iload_n hx hb dM_reckon_104 rfl (lv_at hl 0 rfl) ?_
              refine lv_if_eq (tgt := 122) hx hb dM_reckon_105 (by decide) (fun _ => ?_) (fun c105 => absurd c105 (not_not_intro (by decide)))
              have e1 : zq_ct (zq_es L V D F) (zq_ab L D) F S (j + 1) i = zq_ct (zq_es L V D F) (zq_ab L D) F S j i := by rw [ect]; exact if_neg (fun q => by have := q.2; rw [c90] at this; cases this)
              refine lv_aload_n hx hb dM_reckon_122 rfl (lv_at hl 1 rfl) ?_
              refine va_get (D := (dC, dI)) (ci := 1) (v := .ref (ad 6)) (C := RM) (T := TM) (N := 11) hx hb hz in_M hown hK hP 0 rfl rfl 10 (by decide) (hz _ kf_M_31) (fun _ h9 => h9) rfl dM_reckon_123 ?_
              refine lv_iload_n hx hb dM_reckon_126 rfl (lv_at hl 2 rfl) ?_
              refine zt_lald hx hb hK hP 6 1 rfl rfl (i := i) (by omega) (by decide) (v := (lN (zq_ct (zq_es L V D F) (zq_ab L D) F S j i))) (hg2) dM_reckon_127 ?_
              refine zt_last hx hb hK hP (zm_D had) hS 6 1 rfl rfl (i := i) (by omega) (by decide) dM_reckon_128 (fun H locs hP _ hS => ?_)
              have hP : va_P (dC, dI) zcl (zm_w ad cI cJ cB lev val chs dig f (vp_updL g i (lN (zq_ct (zq_es L V D F) (zq_ab L D) F S j i))) code D N F k) H := hP
              refine lv_iinc (v := nI (j + 1)) (lv' := [(2, .int (nI (j + 1))), (3, .int (nI 0)), (0, .ref (ad 0)), (1, .int (nI i))]) hx hb dM_reckon_129 hl (k := 3) rfl (nI_1 _) (by decide) rfl (fun ls hl => ?_)
              refine lv_goto (tgt := 50) hx hb dM_reckon_132 (by decide) ?_
              refine ih2 (j + 1) (by omega) _ H locs (fun w hw => ?_) ?_ hP hS ls (lv_sub hl [2, 3, 0] rfl)
              · rw [pk_uLn (by omega)]; exact hg1 w hw
              · rw [pk_uLs, e1]
            · refine lv_iconst (v := nI 1) hx hb dM_reckon_93 (by decide) ?_
              refine lv_goto (tgt := 98) hx hb dM_reckon_94 (by decide) ?_
              refine lv_istore_n (lv' := [(3, .int (nI 1)), (0, .ref (ad 0)), (1, .int (nI i)), (2, .int (nI j))]) hx hb dM_reckon_98 rfl hl (by decide) rfl (fun ls hl => ?_)
              refine lv_aload_n hx hb dM_reckon_99 rfl (lv_at hl 1 rfl) ?_
              refine va_get (D := (dC, dI)) (ci := 1) (v := .ref (ad 6)) (C := RM) (T := TM) (N := 11) hx hb hz in_M hown hK hP 0 rfl rfl 10 (by decide) (hz _ kf_M_31) (fun _ h9 => h9) rfl dM_reckon_100 ?_
              refine lv_iload_n hx hb dM_reckon_103 rfl (lv_at hl 2 rfl) ?_
              refine lv_iload_n hx hb dM_reckon_104 rfl (lv_at hl 0 rfl) ?_
              refine lv_if_eq (tgt := 122) hx hb dM_reckon_105 (by decide) (fun c105 => absurd c105 (by decide)) (fun _ => ?_)
              have e1 : zq_ct (zq_es L V D F) (zq_ab L D) F S (j + 1) i = zq_es L V D F (S j) := by rw [ect]; exact if_pos ⟨by omega, c90⟩
              refine lv_aload_n hx hb dM_reckon_108 rfl (lv_at hl 1 rfl) ?_
              refine va_get (D := (dC, dI)) (ci := 1) (v := .ref (ad 5)) (C := RM) (T := TM) (N := 11) hx hb hz in_M hown hK hP 0 rfl rfl 9 (by decide) (hz _ kf_M_27) (fun _ h9 => h9) rfl dM_reckon_109 ?_
              refine lv_aload_n hx hb dM_reckon_112 rfl (lv_at hl 1 rfl) ?_
              refine va_get (D := (dC, dI)) (ci := 1) (v := .ref (ad 3)) (C := RM) (T := TM) (N := 11) hx hb hz in_M hown hK hP 0 rfl rfl 7 (by decide) (hz _ kf_M_20) (fun _ h9 => h9) rfl dM_reckon_113 ?_
              refine lv_iload_n hx hb dM_reckon_116 rfl (lv_at hl 3 rfl) ?_
              refine zt_iald hx hb hK hP 3 0 rfl rfl (i := j) (by omega) (by decide) (v := (nI (S j))) (hs1 j (by omega)) dM_reckon_117 ?_
              refine zt_lald hx hb hK hP 5 1 rfl rfl (i := (S j)) (by omega) (by decide) (v := (lN (zq_es L V D F (S j)))) (hf (S j) hsj) dM_reckon_118 ?_
              refine lv_goto (tgt := 128) hx hb dM_reckon_119 (by decide) ?_
              refine zt_last hx hb hK hP (zm_D had) hS 6 1 rfl rfl (i := i) (by omega) (by decide) dM_reckon_128 (fun H locs hP _ hS => ?_)
              have hP : va_P (dC, dI) zcl (zm_w ad cI cJ cB lev val chs dig f (vp_updL g i (lN (zq_es L V D F (S j)))) code D N F k) H := hP
              refine lv_iinc (v := nI (j + 1)) (lv' := [(2, .int (nI (j + 1))), (3, .int (nI 1)), (0, .ref (ad 0)), (1, .int (nI i))]) hx hb dM_reckon_129 hl (k := 3) rfl (nI_1 _) (by decide) rfl (fun ls hl => ?_)
              refine lv_goto (tgt := 50) hx hb dM_reckon_132 (by decide) ?_
              refine ih2 (j + 1) (by omega) _ H locs (fun w hw => ?_) ?_ hP hS ls (lv_sub hl [2, 3, 0] rfl)
              · rw [pk_uLn (by omega)]; exact hg1 w hw
              · rw [pk_uLs, e1]
      refine third k 0 (by omega) _ H locs (fun w hw => ?_) ?_ hP hS ls (lv_sub hl [1, 2, 0] rfl)
      · rw [pk_uLn (by omega)]; exact hg w hw
      · rw [pk_uLs]; rfl
  have first : ∀ (n i : Nat), i + n = N → ∀ (f : Nat → Int64) (H : Heap) (locs : List Loc), (∀ w, w < i → f w = lN (zq_es L V D F w)) → va_P (dC, dI) zcl (zm_w ad cI cJ cB lev val chs dig f cst code D N F k) H → va_S (zg_A ad 7 s.heap.size) s.heap H locs → ∀ ls : Array Slot, lv_has ls 4 [(0, .ref (ad 0)), (1, .int (nI i))] → W p l e (headSpec wM_reckon rM_reckon).room s m ([.ref (ad 0)] : List Value).toArray below meth c H locs 0 0 (zt_MQ below (zg_Q dC dI (fun _ => none) (fun u : (Nat → Int64) × (Nat → Int64) => (∀ w, w < N → u.1 w = lN (zq_es L V D F w)) ∧ ∀ w, w < N → u.2 w = lN (zq_ct (zq_es L V D F) (zq_ab L D) F S k w)) (fun u => zm_w ad cI cJ cB lev val chs dig u.1 u.2 code D N F k) (zg_A ad 7 s.heap.size)) ([.ref (ad 0)] : List Value).toArray s 0 0 0 0 (zg_A ad 7 s.heap.size)) (F0 m 2 ls []) := by
    intro n
    induction n with
    | zero =>
      intro i hi f H locs hf hP hS ls hl
      refine lv_iload_n hx hb dM_reckon_2 rfl (lv_at hl 1 rfl) ?_
      refine lv_aload_n hx hb dM_reckon_3 rfl (lv_at hl 0 rfl) ?_
      refine va_get (D := (dC, dI)) (ci := 1) (v := .int (nI N)) (C := RM) (T := TM) (N := 11) hx hb hz in_M hown hK hP 0 rfl rfl 5 (by decide) (hz _ kf_M_16) (fun _ h9 => h9) rfl dM_reckon_4 ?_
      refine zj_ge (tgt := 27) hx hb dM_reckon_7 (by decide) (by omega) (by omega) (fun _ => ?_) (fun c7 => absurd c7 (by omega))
      refine lv_iconst (v := nI 0) hx hb dM_reckon_27 (by decide) ?_
      refine lv_istore_n (lv' := [(1, .int (nI 0)), (0, .ref (ad 0))]) hx hb dM_reckon_28 rfl hl (by decide) rfl (fun ls hl => ?_)
      exact second N 0 (by omega) f cst H locs (fun w hw => hf w (by omega)) (fun w hw => absurd hw (Nat.not_lt_zero w)) hP hS ls (lv_sub hl [1, 0] rfl)
    | succ n ih =>
      intro i hi f H locs hf hP hS ls hl
      refine lv_iload_n hx hb dM_reckon_2 rfl (lv_at hl 1 rfl) ?_
      refine lv_aload_n hx hb dM_reckon_3 rfl (lv_at hl 0 rfl) ?_
      refine va_get (D := (dC, dI)) (ci := 1) (v := .int (nI N)) (C := RM) (T := TM) (N := 11) hx hb hz in_M hown hK hP 0 rfl rfl 5 (by decide) (hz _ kf_M_16) (fun _ h9 => h9) rfl dM_reckon_4 ?_
      refine zj_ge (tgt := 27) hx hb dM_reckon_7 (by decide) (by omega) (by omega) (fun c7 => absurd c7 (by omega)) (fun _ => ?_)
      refine lv_aload_n hx hb dM_reckon_10 rfl (lv_at hl 0 rfl) ?_
      refine va_get (D := (dC, dI)) (ci := 1) (v := .ref (ad 5)) (C := RM) (T := TM) (N := 11) hx hb hz in_M hown hK hP 0 rfl rfl 9 (by decide) (hz _ kf_M_27) (fun _ h9 => h9) rfl dM_reckon_11 ?_
      refine lv_iload_n hx hb dM_reckon_14 rfl (lv_at hl 1 rfl) ?_
      refine lv_aload_n hx hb dM_reckon_15 rfl (lv_at hl 0 rfl) ?_
      refine lv_iload_n hx hb dM_reckon_16 rfl (lv_at hl 1 rfl) ?_
      refine zt_callRl (zg_run (rest := [.int (nI i), .ref (ad 5)]) hx hb hml hown (tM_estimateOf l hR9 (by omega)) (wcM_63 hz (Nat.le_of_ble_eq_true rfl) (Nat.le_of_ble_eq_true rfl)) (hz _ ki_M_estimateOf) (hz _ ks_M_estimateOf) (hz _ kC_M_estimateOf) hP hK rfl (q0 := 0) rfl rfl hl.1 rfl (Nat.le_of_ble_eq_true rfl) dM_reckon_17 ⟨Nat.le_of_ble_eq_true rfl, Nat.le_of_ble_eq_true rfl⟩) ?_
      refine zt_last hx hb hK hP (zm_D had) hS 5 1 rfl rfl (i := i) (by omega) (by decide) dM_reckon_20 (fun H locs hP _ hS => ?_)
      have hP : va_P (dC, dI) zcl (zm_w ad cI cJ cB lev val chs dig (vp_updL f i (lN (zq_es L V D F i))) cst code D N F k) H := hP
      refine lv_iinc (v := nI (i + 1)) (lv' := [(1, .int (nI (i + 1))), (0, .ref (ad 0))]) hx hb dM_reckon_21 hl (k := 1) rfl (nI_1 _) (by decide) rfl (fun ls hl => ?_)
      refine lv_goto (tgt := 2) hx hb dM_reckon_24 (by decide) ?_
      refine ih (i + 1) (by omega) _ H locs (fun w hw => ?_) hP hS ls (lv_sub hl [1, 0] rfl)
      by_cases e9 : w = i
      · rw [e9, pk_uLs]
      · rw [pk_uLn e9]; exact hf w (by omega)
  exact first N 0 (by omega) est s.heap [] (fun w hw => absurd hw (Nat.not_lt_zero w)) hP hS ls (lv_sub hl [1, 0] rfl)
set_option maxHeartbeats 4000000 in
set_option maxRecDepth 100000 in
/-- a step -/
theorem tM_choosesOne (l : Launch) {dC : Nat → ClassId} {dI : Nat → Nat → Nat} {cI cJ cB : ClassId} {ad : Nat → Nat} {lev val chs dig : Nat → Int32} {est cst : Nat → Int64} {code : Int32} {D N F k : Nat} {L V S : Nat → Nat} {sz : Nat} (had : zg_ap ad 7) (hR : zm_R D N F L V lev val dig) (hs : zm_S N k S chs) (hk16 : k < 16) : zt_Met l yM_choosesOne wM_choosesOne rM_choosesOne (va_Pc [.ref (ad 0)] (zg_C dC dI cI cJ cB (zm_w ad cI cJ cB lev val chs dig est cst code D N F k) sz)) (zg_Q dC dI (fun _ => some (.int (nI (zq_pick D N F L V k S) - 1))) (fun u : (Nat → Int64) × (Nat → Int64) × (Nat → Int32) => zm_S N (zq_go (zq_pick D N F L V) 1 k S).1 (zq_go (zq_pick D N F L V) 1 k S).2 u.2.2) (fun u => zm_w ad cI cJ cB lev val u.2.2 dig u.1 u.2.1 code D N F ((zq_go (zq_pick D N F L V) 1 k S).1)) (zg_A ad 7 sz)) 0 0 0 0 (zg_A ad 7 sz) := by
  refine zt_ofW (cc := cM_choosesOne) (maxL := 7) (ret := (some .int)) (by decide) rfl ?_
  intro p e s m args below meth c s₁ B hml hout hv
  obtain ⟨rfl, hsz, hP, hK⟩ := hv
  have hx := B.exec
  have hb := B.bytes
  have hr := B.returns
  have hz : ∀ w ∈ zw0, w.before ([.ref (ad 0)] : List Value).toArray s = true := fun w h => atoms_spec (ws := wM_choosesOne) B.pre w (List.mem_cons_of_mem _ h)
  have hown : s.vm.findClass RM = some m.cls := findClass_of_methodNamed B.named
  have hlocks := B.notSynchronized
  subst hsz
  have hS : va_S (zg_A ad 7 s.heap.size) s.heap s.heap [] := va_S.rf
  have hl := lv_entry ([.ref (ad 0)]) (n := 7) (Nat.le_of_ble_eq_true rfl)
  rw [lg_entry_eq]
  generalize (lg_sl ([.ref (ad 0)]) ++ List.replicate (7 - (lg_sl ([.ref (ad 0)])).length) Slot.unset).toArray = ls at hl ⊢
  have hl : lv_has ls 7 [(0, .ref (ad 0))] := hl
  have hR9 := hR
  obtain ⟨hD, hL, hN, hN5, hF, hVb, hlev, hval, hdg⟩ := hR
  refine lv_aload_n hx hb dM_choosesOne_0 rfl (lv_at hl 0 rfl) ?_
  refine zg_callW (zg_runC (rest := []) hx hb hml hown (tM_reckon l had hR9 hs) (wcM_74 hz (Nat.le_of_ble_eq_true rfl) (Nat.le_of_ble_eq_true rfl)) (hz _ ki_M_reckon) (hz _ ks_M_reckon) (hz _ kC_M_reckon) hP hK rfl (q0 := 0) rfl rfl hl.1 rfl (Nat.le_of_ble_eq_true rfl) dM_choosesOne_1 ⟨Nat.le_of_ble_eq_true rfl, Nat.le_of_ble_eq_true rfl⟩) hS (fun q h => zg_A_up hS.1 h) (fun q h => zg_A_up hS.1 h) (fun ⟨f, g⟩ H locs hu hP hz9 hk9 hS => ?_)
  refine W.eq (g2 := F0 m 4 ls []) rfl ?_
  obtain ⟨hf, hg⟩ := hu
  have he9 : ∀ w, w < N → f w = lN (zq_es L V D F w) ∧ zq_es L V D F w ≤ F := fun w hw => ⟨hf w hw, zq_es_le L V D F w⟩
  have hc9 : ∀ w, w < N → g w = lN (zq_ct (zq_es L V D F) (zq_ab L D) F S k w) ∧ zq_ct (zq_es L V D F) (zq_ab L D) F S k w ≤ F := fun w hw => ⟨hg w hw, zq_ct_le _ _ _ _ _ _⟩
  have hbn : ∀ v, zq_bn (zq_es L V D F) (zq_ab L D) (zq_ct (zq_es L V D F) (zq_ab L D) F S k) N v < 2 ^ 63 := fun v => zq_bn_le hN5 hF (fun i hi => (hc9 i hi).2)
  have hgo : zq_go (zq_pick D N F L V) 1 k S = if zq_pick D N F L V k S = 0 then (k, S) else (k + 1, zq_up S k (zq_pick D N F L V k S - 1)) := rfl
  refine lv_iconst (v := -1) hx hb dM_choosesOne_4 (by decide) ?_
  refine lv_istore_n (lv' := [(1, .int (-1)), (0, .ref (ad 0))]) hx hb dM_choosesOne_5 rfl hl (by decide) rfl (fun ls hl => ?_)
  refine lv_lconst (v := lN 0) hx hb dM_choosesOne_6 (by decide) ?_
  refine lv_lstore_n (lv' := [(2, .long (lN 0)), (1, .int (-1)), (0, .ref (ad 0))]) hx hb dM_choosesOne_7 rfl hl (by decide) rfl (fun ls hl => ?_)
  refine lv_iconst (v := nI 0) hx hb dM_choosesOne_8 (by decide) ?_
  refine lv_istore (lv' := [(4, .int (nI 0)), (2, .long (lN 0)), (1, .int (-1)), (0, .ref (ad 0))]) hx hb dM_choosesOne_9 hl (by decide) rfl (fun ls hl => ?_)
  have loop : ∀ (n i : Nat), i + n = N → ∀ ls : Array Slot, lv_has ls 7 [(0, .ref (ad 0)), (1, .int (nI (zq_mx (zq_bn (zq_es L V D F) (zq_ab L D) (zq_ct (zq_es L V D F) (zq_ab L D) F S k) N) i).2 - 1)), (2, .long (lN ((zq_mx (zq_bn (zq_es L V D F) (zq_ab L D) (zq_ct (zq_es L V D F) (zq_ab L D) F S k) N) i).1))), (4, .int (nI i))] → W p l e (headSpec wM_choosesOne rM_choosesOne).room s m ([.ref (ad 0)] : List Value).toArray below meth c H locs 0 0 (zt_MQ below (zg_Q dC dI (fun _ => some (.int (nI (zq_pick D N F L V k S) - 1))) (fun u : (Nat → Int64) × (Nat → Int64) × (Nat → Int32) => zm_S N (zq_go (zq_pick D N F L V) 1 k S).1 (zq_go (zq_pick D N F L V) 1 k S).2 u.2.2) (fun u => zm_w ad cI cJ cB lev val u.2.2 dig u.1 u.2.1 code D N F ((zq_go (zq_pick D N F L V) 1 k S).1)) (zg_A ad 7 s.heap.size)) ([.ref (ad 0)] : List Value).toArray s 0 0 0 0 (zg_A ad 7 s.heap.size)) (F0 m 11 ls []) := by
    intro n
    induction n with
    | zero =>
      intro i hi ls hl
      refine lv_iload hx hb dM_choosesOne_11 (lv_at hl 3 rfl) ?_
      refine lv_aload_n hx hb dM_choosesOne_13 rfl (lv_at hl 0 rfl) ?_
      refine va_get (D := (dC, dI)) (ci := 1) (v := .int (nI N)) (C := RM) (T := TM) (N := 11) hx hb hz in_M hown hK hP 0 rfl rfl 5 (by decide) (hz _ kf_M_16) (fun _ h9 => h9) rfl dM_choosesOne_14 ?_
      refine zj_ge (tgt := 47) hx hb dM_choosesOne_17 (by decide) (by omega) (by omega) (fun _ => ?_) (fun c17 => absurd c17 (by omega))
      have e1 : i = N := by omega
      rw [e1] at hl
      have hl : lv_has ls 7 [(0, .ref (ad 0)), (1, .int (nI (zq_pick D N F L V k S) - 1))] := lv_sub hl [0, 1] rfl
      have hpl := zq_pick_le D N F L V k S
      rw [hgo]
      generalize hpk9 : zq_pick D N F L V k S = b at hpl hl ⊢
      rcases b with _ | b
      · rw [if_pos rfl]
        refine lv_iload_n hx hb dM_choosesOne_47 rfl (lv_at hl 1 rfl) ?_
        refine lv_if_lt (tgt := 71) hx hb dM_choosesOne_48 (by decide) (fun _ => ?_) (fun c48 => absurd c48 (not_not_intro (by decide)))
        refine lv_iload_n hx hb dM_choosesOne_71 rfl (lv_at hl 1 rfl) ?_
        exact zt_ri hx hb hr hlocks (fun t ht _ => ⟨(f, g, chs), rfl, hs, by rw [ht]; exact hP, hS.F ht⟩) (hS.2.2) dM_choosesOne_72
      · rw [if_neg (Nat.succ_ne_zero b), Nat.add_sub_cancel]
        rw [nI_pred] at hl ⊢
        refine lv_iload_n hx hb dM_choosesOne_47 rfl (lv_at hl 1 rfl) ?_
        refine lv_if_lt (tgt := 71) hx hb dM_choosesOne_48 (by decide) (fun c48 => absurd c48 (nI_pos (by omega))) (fun _ => ?_)
        refine lv_aload_n hx hb dM_choosesOne_51 rfl (lv_at hl 0 rfl) ?_
        refine va_get (D := (dC, dI)) (ci := 1) (v := .ref (ad 3)) (C := RM) (T := TM) (N := 11) hx hb hz in_M hown hK hP 0 rfl rfl 7 (by decide) (hz _ kf_M_20) (fun _ h9 => h9) rfl dM_choosesOne_52 ?_
        refine lv_aload_n hx hb dM_choosesOne_55 rfl (lv_at hl 0 rfl) ?_
        refine va_get (D := (dC, dI)) (ci := 1) (v := .int (nI k)) (C := RM) (T := TM) (N := 11) hx hb hz in_M hown hK hP 0 rfl rfl 6 (by decide) (hz _ kf_M_40) (fun _ h9 => h9) rfl dM_choosesOne_56 ?_
        refine lv_iload_n hx hb dM_choosesOne_59 rfl (lv_at hl 1 rfl) ?_
        refine zt_iast hx hb hK hP (zm_D had) hS 3 0 rfl rfl (i := k) (by omega) (by decide) dM_choosesOne_60 (fun H locs hP _ hS => ?_)
        have hP : va_P (dC, dI) zcl (zm_w ad cI cJ cB lev val (upd chs k (nI b)) dig f g code D N F k) H := hP
        refine lv_aload_n hx hb dM_choosesOne_61 rfl (lv_at hl 0 rfl) ?_
        refine lv_dup hx hb dM_choosesOne_62 rfl ?_
        refine va_get (D := (dC, dI)) (ci := 1) (v := .int (nI k)) (C := RM) (T := TM) (N := 11) hx hb hz in_M hown hK hP 0 rfl rfl 6 (by decide) (hz _ kf_M_40) (fun _ h9 => h9) rfl dM_choosesOne_63 ?_
        refine lv_iconst (v := nI 1) hx hb dM_choosesOne_66 (by decide) ?_
        refine lv_iadd hx hb dM_choosesOne_67 ?_
        refine zt_ti (nI_add _ _) ?_
        refine va_put (D := (dC, dI)) (ci := 1) (v := .int (nI (k + 1))) (ty := .int) (C := RM) (T := TM) (N := 11) hx hb hz in_M tyM tyM_ok nmM hown hK hP (zm_D had) hS 0 rfl rfl 6 (by decide) (hz _ kf_M_40) (fun _ h9 => h9) rfl (by decide +kernel) rfl rfl (Nat.le_of_ble_eq_true rfl) dM_choosesOne_68 (fun H locs hP _ hS => ?_)
        have hP : va_P (dC, dI) zcl (zm_w ad cI cJ cB lev val (upd chs k (nI b)) dig f g code D N F (k + 1)) H := hP
        refine lv_iload_n hx hb dM_choosesOne_71 rfl (lv_at hl 1 rfl) ?_
        exact zt_ri hx hb hr hlocks (fun t ht _ => ⟨(f, g, upd chs k (nI b)), rfl, zm_S_up hs hk16 (by omega), by rw [ht]; exact hP, hS.F ht⟩) (hS.2.2) dM_choosesOne_72
    | succ n ih =>
      intro i hi ls hl
      refine lv_iload hx hb dM_choosesOne_11 (lv_at hl 3 rfl) ?_
      refine lv_aload_n hx hb dM_choosesOne_13 rfl (lv_at hl 0 rfl) ?_
      refine va_get (D := (dC, dI)) (ci := 1) (v := .int (nI N)) (C := RM) (T := TM) (N := 11) hx hb hz in_M hown hK hP 0 rfl rfl 5 (by decide) (hz _ kf_M_16) (fun _ h9 => h9) rfl dM_choosesOne_14 ?_
      refine zj_ge (tgt := 47) hx hb dM_choosesOne_17 (by decide) (by omega) (by omega) (fun c17 => absurd c17 (by omega)) (fun _ => ?_)
      refine lv_aload_n hx hb dM_choosesOne_20 rfl (lv_at hl 0 rfl) ?_
      refine lv_iload hx hb dM_choosesOne_21 (lv_at hl 3 rfl) ?_
      refine zt_callRl (zg_run (rest := []) hx hb hml hown (tM_benefitOf l he9 hc9 hR9 (by omega)) (wcM_77 hz (Nat.le_of_ble_eq_true rfl) (Nat.le_of_ble_eq_true rfl)) (hz _ ki_M_benefitOf) (hz _ ks_M_benefitOf) (hz _ kC_M_benefitOf) hP hK rfl (q0 := 0) rfl rfl hl.1 rfl (Nat.le_of_ble_eq_true rfl) dM_choosesOne_23 ⟨Nat.le_of_ble_eq_true rfl, Nat.le_of_ble_eq_true rfl⟩) ?_
      have hm : (zq_mx (zq_bn (zq_es L V D F) (zq_ab L D) (zq_ct (zq_es L V D F) (zq_ab L D) F S k) N) i).1 < 2 ^ 63 := Nat.lt_of_le_of_lt (zq_mx_bd (B := 2 ^ 63 - 1) i (fun j _ => by have := hbn j; omega)) (by decide)
      refine lv_lstore (lv' := [(5, .long (lN (zq_bn (zq_es L V D F) (zq_ab L D) (zq_ct (zq_es L V D F) (zq_ab L D) F S k) N i))), (0, .ref (ad 0)), (1, .int (nI (zq_mx (zq_bn (zq_es L V D F) (zq_ab L D) (zq_ct (zq_es L V D F) (zq_ab L D) F S k) N) i).2 - 1)), (2, .long (lN ((zq_mx (zq_bn (zq_es L V D F) (zq_ab L D) (zq_ct (zq_es L V D F) (zq_ab L D) F S k) N) i).1))), (4, .int (nI i))]) hx hb dM_choosesOne_26 hl (by decide) rfl (fun ls hl => ?_)
      refine lv_lload hx hb dM_choosesOne_28 (lv_at hl 0 rfl) ?_
      refine lv_lload_n hx hb dM_choosesOne_30 rfl (lv_at hl 3 rfl) ?_
      refine zl_le (tgt := 41) hx hb dM_choosesOne_31 dM_choosesOne_32 (by decide) (hbn i) (hm) (fun c31 => ?_) (fun c31 => ?_)
      · have e1 : zq_mx (zq_bn (zq_es L V D F) (zq_ab L D) (zq_ct (zq_es L V D F) (zq_ab L D) F S k) N) (i + 1) = zq_mx (zq_bn (zq_es L V D F) (zq_ab L D) (zq_ct (zq_es L V D F) (zq_ab L D) F S k) N) i := zq_mx_f (by omega)
        refine lv_iinc (v := nI (i + 1)) (lv' := [(4, .int (nI (i + 1))), (5, .long (lN (zq_bn (zq_es L V D F) (zq_ab L D) (zq_ct (zq_es L V D F) (zq_ab L D) F S k) N i))), (0, .ref (ad 0)), (1, .int (nI (zq_mx (zq_bn (zq_es L V D F) (zq_ab L D) (zq_ct (zq_es L V D F) (zq_ab L D) F S k) N) i).2 - 1)), (2, .long (lN ((zq_mx (zq_bn (zq_es L V D F) (zq_ab L D) (zq_ct (zq_es L V D F) (zq_ab L D) F S k) N) i).1)))]) hx hb dM_choosesOne_41 hl (k := 4) rfl (nI_1 _) (by decide) rfl (fun ls hl => ?_)
        refine lv_goto (tgt := 11) hx hb dM_choosesOne_44 (by decide) ?_
        exact ih (i + 1) (by omega) ls (by rw [e1]; exact (lv_sub hl [2, 3, 4, 0] rfl))
      · have e1 : zq_mx (zq_bn (zq_es L V D F) (zq_ab L D) (zq_ct (zq_es L V D F) (zq_ab L D) F S k) N) (i + 1) = (zq_bn (zq_es L V D F) (zq_ab L D) (zq_ct (zq_es L V D F) (zq_ab L D) F S k) N i, i + 1) := zq_mx_t (by omega)
        refine lv_lload hx hb dM_choosesOne_35 (lv_at hl 0 rfl) ?_
        refine lv_lstore_n (lv' := [(2, .long (lN (zq_bn (zq_es L V D F) (zq_ab L D) (zq_ct (zq_es L V D F) (zq_ab L D) F S k) N i))), (5, .long (lN (zq_bn (zq_es L V D F) (zq_ab L D) (zq_ct (zq_es L V D F) (zq_ab L D) F S k) N i))), (0, .ref (ad 0)), (1, .int (nI (zq_mx (zq_bn (zq_es L V D F) (zq_ab L D) (zq_ct (zq_es L V D F) (zq_ab L D) F S k) N) i).2 - 1)), (4, .int (nI i))]) hx hb dM_choosesOne_37 rfl hl (by decide) rfl (fun ls hl => ?_)
        refine lv_iload hx hb dM_choosesOne_38 (lv_at hl 4 rfl) ?_
        refine zt_ti (y := nI (i + 1) - 1) (nI_pred i).symm ?_
        refine lv_istore_n (lv' := [(1, .int (nI (i + 1) - 1)), (2, .long (lN (zq_bn (zq_es L V D F) (zq_ab L D) (zq_ct (zq_es L V D F) (zq_ab L D) F S k) N i))), (5, .long (lN (zq_bn (zq_es L V D F) (zq_ab L D) (zq_ct (zq_es L V D F) (zq_ab L D) F S k) N i))), (0, .ref (ad 0)), (4, .int (nI i))]) hx hb dM_choosesOne_40 rfl hl (by decide) rfl (fun ls hl => ?_)
        refine lv_iinc (v := nI (i + 1)) (lv' := [(4, .int (nI (i + 1))), (1, .int (nI (i + 1) - 1)), (2, .long (lN (zq_bn (zq_es L V D F) (zq_ab L D) (zq_ct (zq_es L V D F) (zq_ab L D) F S k) N i))), (5, .long (lN (zq_bn (zq_es L V D F) (zq_ab L D) (zq_ct (zq_es L V D F) (zq_ab L D) F S k) N i))), (0, .ref (ad 0))]) hx hb dM_choosesOne_41 hl (k := 4) rfl (nI_1 _) (by decide) rfl (fun ls hl => ?_)
        refine lv_goto (tgt := 11) hx hb dM_choosesOne_44 (by decide) ?_
        exact ih (i + 1) (by omega) ls (by rw [e1]; exact (lv_sub hl [4, 1, 2, 0] rfl))
  exact loop N 0 (by omega) ls (lv_sub hl [3, 2, 1, 0] rfl)
