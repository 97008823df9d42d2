/-! the reference: its public methods: by program (wip/gen/model_pub.py) -/
set_option maxHeartbeats 4000000 in
set_option maxRecDepth 100000 in
theorem tM_views (l : Launch) {dC : Nat → ClassId} {dI : Nat → Nat → Nat} {cI cJ cB : ClassId} {ad : Nat → Nat} {lev val chs dig : Nat → Int32} {est cst : Nat → Int64} {code : Int32} {D N F k : Nat}  {sz : Nat} (had : zg_ap ad 7)  : zt_Met l yM_views wM_views rM_views (va_Pc [.ref (ad 0)] (zg_C dC dI cI cJ cB (zm_w ad cI cJ cB lev val chs dig est cst code D N F k) sz)) (zg_Q dC dI (fun u : Unit => some (.int (nI N))) (fun u => True) (fun u => zm_w ad cI cJ cB lev val chs dig est cst (nI 0) D N F k) (zg_A ad 7 sz)) 0 0 0 0 (zg_A ad 7 sz) := by
  refine zt_ofW (cc := cM_views) (maxL := 1) (ret := (some .int)) (by decide) rfl ?_
  intro p e s m args below meth c s₁ B hml hout hv
  obtain ⟨rfl, hsz, hP, hK⟩ := hv
  have hx := B.exec
  have hb := B.bytes
  have hr := B.returns
  have hz : ∀ w ∈ zw0, w.before ([.ref (ad 0)] : List Value).toArray s = true := fun w h => atoms_spec (ws := wM_views) B.pre w (List.mem_cons_of_mem _ h)
  have hown : s.vm.findClass RM = some m.cls := findClass_of_methodNamed B.named
  have hlocks := B.notSynchronized
  subst hsz
  have hS : va_S (zg_A ad 7 s.heap.size) s.heap s.heap [] := va_S.rf
  have hl := lv_entry ([.ref (ad 0)]) (n := 1) (Nat.le_of_ble_eq_true rfl)
  rw [lg_entry_eq]
  generalize (lg_sl ([.ref (ad 0)]) ++ List.replicate (1 - (lg_sl ([.ref (ad 0)])).length) Slot.unset).toArray = ls at hl ⊢
  have hl : lv_has ls 1 [(0, .ref (ad 0))] := hl
  refine lv_aload_n hx hb dM_views_0 rfl (lv_at hl 0 rfl) ?_
  refine lv_iconst (v := nI 0) hx hb dM_views_1 (by decide) ?_
  refine va_put (D := (dC, dI)) (ci := 1) (v := .int (nI 0)) (ty := .int) (C := RM) (T := TM) (N := 11) hx hb hz in_M tyM tyM_ok nmM hown hK hP (zm_D had) hS 0 rfl rfl 0 (by decide) (hz _ kf_M_34) (fun _ h9 => h9) rfl (by decide +kernel) rfl rfl (Nat.le_of_ble_eq_true rfl) dM_views_2 (fun H locs hP _ hS => ?_)
  have hP : va_P (dC, dI) zcl (zm_w ad cI cJ cB lev val chs dig est cst (nI 0) D N F k) H := hP
  refine lv_aload_n hx hb dM_views_5 rfl (lv_at hl 0 rfl) ?_
  refine va_get (D := (dC, dI)) (ci := 1) (v := .int (nI N)) (C := RM) (T := TM) (N := 11) hx hb hz in_M hown hK hP 0 rfl rfl 5 (by decide) (hz _ kf_M_16) (fun _ h9 => h9) rfl dM_views_6 ?_
  exact zt_ri hx hb hr hlocks (fun t ht _ => ⟨(), rfl, trivial, by rw [ht]; exact hP, hS.F ht⟩) (hS.2.2) dM_views_9
set_option maxHeartbeats 4000000 in
set_option maxRecDepth 100000 in
theorem tM_drop (l : Launch) {dC : Nat → ClassId} {dI : Nat → Nat → Nat} {cI cJ cB : ClassId} {ad : Nat → Nat} {lev val chs dig : Nat → Int32} {est cst : Nat → Int64} {code : Int32} {D N F k : Nat}  {sz : Nat} (had : zg_ap ad 7)  : zt_Met l yM_drop wM_drop rM_drop (va_Pc [.ref (ad 0)] (zg_C dC dI cI cJ cB (zm_w ad cI cJ cB lev val chs dig est cst code D N F k) sz)) (zg_Q dC dI (fun u : Unit => some (.int (nI k))) (fun u => True) (fun u => zm_w ad cI cJ cB lev val chs dig est cst (nI 0) D N F 0) (zg_A ad 7 sz)) 0 0 0 0 (zg_A ad 7 sz) := by
  refine zt_ofW (cc := cM_drop) (maxL := 2) (ret := (some .int)) (by decide) rfl ?_
  intro p e s m args below meth c s₁ B hml hout hv
  obtain ⟨rfl, hsz, hP, hK⟩ := hv
  have hx := B.exec
  have hb := B.bytes
  have hr := B.returns
  have hz : ∀ w ∈ zw0, w.before ([.ref (ad 0)] : List Value).toArray s = true := fun w h => atoms_spec (ws := wM_drop) B.pre w (List.mem_cons_of_mem _ h)
  have hown : s.vm.findClass RM = some m.cls := findClass_of_methodNamed B.named
  have hlocks := B.notSynchronized
  subst hsz
  have hS : va_S (zg_A ad 7 s.heap.size) s.heap s.heap [] := va_S.rf
  have hl := lv_entry ([.ref (ad 0)]) (n := 2) (Nat.le_of_ble_eq_true rfl)
  rw [lg_entry_eq]
  generalize (lg_sl ([.ref (ad 0)]) ++ List.replicate (2 - (lg_sl ([.ref (ad 0)])).length) Slot.unset).toArray = ls at hl ⊢
  have hl : lv_has ls 2 [(0, .ref (ad 0))] := hl
  refine lv_aload_n hx hb dM_drop_0 rfl (lv_at hl 0 rfl) ?_
  refine lv_iconst (v := nI 0) hx hb dM_drop_1 (by decide) ?_
  refine va_put (D := (dC, dI)) (ci := 1) (v := .int (nI 0)) (ty := .int) (C := RM) (T := TM) (N := 11) hx hb hz in_M tyM tyM_ok nmM hown hK hP (zm_D had) hS 0 rfl rfl 0 (by decide) (hz _ kf_M_34) (fun _ h9 => h9) rfl (by decide +kernel) rfl rfl (Nat.le_of_ble_eq_true rfl) dM_drop_2 (fun H locs hP _ hS => ?_)
  have hP : va_P (dC, dI) zcl (zm_w ad cI cJ cB lev val chs dig est cst (nI 0) D N F k) H := hP
  refine lv_aload_n hx hb dM_drop_5 rfl (lv_at hl 0 rfl) ?_
  refine va_get (D := (dC, dI)) (ci := 1) (v := .int (nI k)) (C := RM) (T := TM) (N := 11) hx hb hz in_M hown hK hP 0 rfl rfl 6 (by decide) (hz _ kf_M_40) (fun _ h9 => h9) rfl dM_drop_6 ?_
  refine lv_istore_n (lv' := [(1, .int (nI k)), (0, .ref (ad 0))]) hx hb dM_drop_9 rfl hl (by decide) rfl (fun ls hl => ?_)
  refine lv_aload_n hx hb dM_drop_10 rfl (lv_at hl 1 rfl) ?_
  refine lv_iconst (v := nI 0) hx hb dM_drop_11 (by decide) ?_
  refine va_put (D := (dC, dI)) (ci := 1) (v := .int (nI 0)) (ty := .int) (C := RM) (T := TM) (N := 11) hx hb hz in_M tyM tyM_ok nmM hown hK hP (zm_D had) hS 0 rfl rfl 6 (by decide) (hz _ kf_M_40) (fun _ h9 => h9) rfl (by decide +kernel) rfl rfl (Nat.le_of_ble_eq_true rfl) dM_drop_12 (fun H locs hP _ hS => ?_)
  have hP : va_P (dC, dI) zcl (zm_w ad cI cJ cB lev val chs dig est cst (nI 0) D N F 0) H := hP
  refine lv_iload_n hx hb dM_drop_15 rfl (lv_at hl 0 rfl) ?_
  exact zt_ri hx hb hr hlocks (fun t ht _ => ⟨(), rfl, trivial, by rw [ht]; exact hP, hS.F ht⟩) (hS.2.2) dM_drop_16
set_option maxHeartbeats 4000000 in
set_option maxRecDepth 100000 in
theorem tM_digit (l : Launch) {dC : Nat → ClassId} {dI : Nat → Nat → Nat} {cI cJ cB : ClassId} {ad : Nat → Nat} {lev val chs dig : Nat → Int32} {est cst : Nat → Int64} {code : Int32} {D N F k : Nat} {L V : Nat → Nat} {p0 p1 : Int32} {sz : Nat} (had : zg_ap ad 7) (hR : zm_R D N F L V lev val dig) : zt_Met l yM_digit wM_digit rM_digit (va_Pc [.ref (ad 0), .int p0, .int p1] (zg_C dC dI cI cJ cB (zm_w ad cI cJ cB lev val chs dig est cst code D N F k) sz)) (zg_Q dC dI (fun u : Int32 => some (.int u)) (fun u => ((zb_in p0 N && zb_in p1 D) = true → u = nI (zq_dg L D p0.toNatClampNeg p1.toNatClampNeg))) (fun u => zm_w ad cI cJ cB lev val chs dig est cst (nI (zc_b (zb_in p0 N && zb_in p1 D))) D N F k) (zg_A ad 7 sz)) 0 0 0 0 (zg_A ad 7 sz) := by
  refine zt_ofW (cc := cM_digit) (maxL := 3) (ret := (some .int)) (by decide) rfl ?_
  intro p e s m args below meth c s₁ B hml hout hv
  obtain ⟨rfl, hsz, hP, hK⟩ := hv
  have hx := B.exec
  have hb := B.bytes
  have hr := B.returns
  have hz : ∀ w ∈ zw0, w.before ([.ref (ad 0), .int p0, .int p1] : List Value).toArray s = true := fun w h => atoms_spec (ws := wM_digit) B.pre w (List.mem_cons_of_mem _ h)
  have hown : s.vm.findClass RM = some m.cls := findClass_of_methodNamed B.named
  have hlocks := B.notSynchronized
  subst hsz
  have hS : va_S (zg_A ad 7 s.heap.size) s.heap s.heap [] := va_S.rf
  have hl := lv_entry ([.ref (ad 0), .int p0, .int p1]) (n := 3) (Nat.le_of_ble_eq_true rfl)
  rw [lg_entry_eq]
  generalize (lg_sl ([.ref (ad 0), .int p0, .int p1]) ++ List.replicate (3 - (lg_sl ([.ref (ad 0), .int p0, .int p1])).length) Slot.unset).toArray = ls at hl ⊢
  have hl : lv_has ls 3 [(0, .ref (ad 0)), (1, .int p0), (2, .int p1)] := hl
  have hR9 := hR
  obtain ⟨hD, hL, hN, hN5, hF, hVb, hlev, hval, hdg⟩ := hR
  refine lv_aload_n hx hb dM_digit_0 rfl (lv_at hl 0 rfl) ?_
  refine lv_aload_n hx hb dM_digit_1 rfl (lv_at hl 0 rfl) ?_
  refine lv_iload_n hx hb dM_digit_2 rfl (lv_at hl 1 rfl) ?_
  refine zt_callRi (zg_run (rest := [.ref (ad 0)]) hx hb hml hown (tM_isView l hN5) (wcM_71 hz (Nat.le_of_ble_eq_true rfl) (Nat.le_of_ble_eq_true rfl)) (hz _ ki_M_isView) (hz _ ks_M_isView) (hz _ kC_M_isView) hP hK rfl (q0 := 0) rfl rfl hl.1 rfl (Nat.le_of_ble_eq_true rfl) dM_digit_3 ⟨Nat.le_of_ble_eq_true rfl, Nat.le_of_ble_eq_true rfl⟩) ?_
  refine zb_eq (tgt := 21) hx hb dM_digit_6 (by decide) (fun c6 => ?_) (fun c6 => ?_)
  · have ecd : zc_b (zb_in p0 N && zb_in p1 D) = 1 := by rw [c6, Bool.false_and]; rfl
    rw [ecd]
    refine lv_iconst (v := nI 1) hx hb dM_digit_21 (by decide) ?_
    refine va_put (D := (dC, dI)) (ci := 1) (v := .int (nI 1)) (ty := .int) (C := RM) (T := TM) (N := 11) hx hb hz in_M tyM tyM_ok nmM hown hK hP (zm_D had) hS 0 rfl rfl 0 (by decide) (hz _ kf_M_34) (fun _ h9 => h9) rfl (by decide +kernel) rfl rfl (Nat.le_of_ble_eq_true rfl) dM_digit_22 (fun H locs hP _ hS => ?_)
    have hP : va_P (dC, dI) zcl (zm_w ad cI cJ cB lev val chs dig est cst (nI 1) D N F k) H := hP
    refine lv_aload_n hx hb dM_digit_25 rfl (lv_at hl 0 rfl) ?_
    refine va_get (D := (dC, dI)) (ci := 1) (v := .int (nI 1)) (C := RM) (T := TM) (N := 11) hx hb hz in_M hown hK hP 0 rfl rfl 0 (by decide) (hz _ kf_M_34) (fun _ h9 => h9) rfl dM_digit_26 ?_
    refine lv_if_le (tgt := 36) hx hb dM_digit_29 (by decide) (fun c29 => absurd c29 (by decide)) (fun _ => ?_)
    refine lv_iconst (v := nI 0) hx hb dM_digit_32 (by decide) ?_
    refine lv_goto (tgt := 42) hx hb dM_digit_33 (by decide) ?_
    exact zt_ri hx hb hr hlocks (fun t ht _ => ⟨nI 0, rfl, fun q => absurd q (by rw [c6, Bool.false_and]; exact Bool.false_ne_true), by rw [ht]; exact hP, hS.F ht⟩) (hS.2.2) dM_digit_42
  · refine lv_aload_n hx hb dM_digit_9 rfl (lv_at hl 0 rfl) ?_
    refine lv_iload_n hx hb dM_digit_10 rfl (lv_at hl 2 rfl) ?_
    refine zt_callRi (zg_run (rest := [.ref (ad 0)]) hx hb hml hown (tM_isDimension l (by omega)) (wcM_46 hz (Nat.le_of_ble_eq_true rfl) (Nat.le_of_ble_eq_true rfl)) (hz _ ki_M_isDimension) (hz _ ks_M_isDimension) (hz _ kC_M_isDimension) hP hK rfl (q0 := 0) rfl rfl hl.1 rfl (Nat.le_of_ble_eq_true rfl) dM_digit_11 ⟨Nat.le_of_ble_eq_true rfl, Nat.le_of_ble_eq_true rfl⟩) ?_
    refine zb_eq (tgt := 21) hx hb dM_digit_14 (by decide) (fun c14 => ?_) (fun c14 => ?_)
    · have ecd : zc_b (zb_in p0 N && zb_in p1 D) = 1 := by rw [c14, Bool.and_false]; rfl
      rw [ecd]
      refine lv_iconst (v := nI 1) hx hb dM_digit_21 (by decide) ?_
      refine va_put (D := (dC, dI)) (ci := 1) (v := .int (nI 1)) (ty := .int) (C := RM) (T := TM) (N := 11) hx hb hz in_M tyM tyM_ok nmM hown hK hP (zm_D had) hS 0 rfl rfl 0 (by decide) (hz _ kf_M_34) (fun _ h9 => h9) rfl (by decide +kernel) rfl rfl (Nat.le_of_ble_eq_true rfl) dM_digit_22 (fun H locs hP _ hS => ?_)
      have hP : va_P (dC, dI) zcl (zm_w ad cI cJ cB lev val chs dig est cst (nI 1) D N F k) H := hP
      refine lv_aload_n hx hb dM_digit_25 rfl (lv_at hl 0 rfl) ?_
      refine va_get (D := (dC, dI)) (ci := 1) (v := .int (nI 1)) (C := RM) (T := TM) (N := 11) hx hb hz in_M hown hK hP 0 rfl rfl 0 (by decide) (hz _ kf_M_34) (fun _ h9 => h9) rfl dM_digit_26 ?_
      refine lv_if_le (tgt := 36) hx hb dM_digit_29 (by decide) (fun c29 => absurd c29 (by decide)) (fun _ => ?_)
      refine lv_iconst (v := nI 0) hx hb dM_digit_32 (by decide) ?_
      refine lv_goto (tgt := 42) hx hb dM_digit_33 (by decide) ?_
      exact zt_ri hx hb hr hlocks (fun t ht _ => ⟨nI 0, rfl, fun q => absurd q (by rw [c14, Bool.and_false]; exact Bool.false_ne_true), by rw [ht]; exact hP, hS.F ht⟩) (hS.2.2) dM_digit_42
    · have ecd : zc_b (zb_in p0 N && zb_in p1 D) = 0 := by rw [c6, c14]; rfl
      rw [ecd]
      obtain ⟨v, hv, rfl⟩ := zb_of c6 (by omega)
      obtain ⟨d, hd, rfl⟩ := zb_of c14 (by omega)
      refine lv_iconst (v := nI 0) hx hb dM_digit_17 (by decide) ?_
      refine lv_goto (tgt := 22) hx hb dM_digit_18 (by decide) ?_
      refine va_put (D := (dC, dI)) (ci := 1) (v := .int (nI 0)) (ty := .int) (C := RM) (T := TM) (N := 11) hx hb hz in_M tyM tyM_ok nmM hown hK hP (zm_D had) hS 0 rfl rfl 0 (by decide) (hz _ kf_M_34) (fun _ h9 => h9) rfl (by decide +kernel) rfl rfl (Nat.le_of_ble_eq_true rfl) dM_digit_22 (fun H locs hP _ hS => ?_)
      have hP : va_P (dC, dI) zcl (zm_w ad cI cJ cB lev val chs dig est cst (nI 0) D N F k) H := hP
      refine lv_aload_n hx hb dM_digit_25 rfl (lv_at hl 0 rfl) ?_
      refine va_get (D := (dC, dI)) (ci := 1) (v := .int (nI 0)) (C := RM) (T := TM) (N := 11) hx hb hz in_M hown hK hP 0 rfl rfl 0 (by decide) (hz _ kf_M_34) (fun _ h9 => h9) rfl dM_digit_26 ?_
      refine lv_if_le (tgt := 36) hx hb dM_digit_29 (by decide) (fun _ => ?_) (fun c29 => absurd c29 (not_not_intro (by decide)))
      refine lv_aload_n hx hb dM_digit_36 rfl (lv_at hl 0 rfl) ?_
      refine lv_iload_n hx hb dM_digit_37 rfl (lv_at hl 1 rfl) ?_
      refine lv_iload_n hx hb dM_digit_38 rfl (lv_at hl 2 rfl) ?_
      refine zt_callRi (zg_run (rest := []) hx hb hml hown (tM_digitOf l hR9 hv hd) (wcM_58 hz (Nat.le_of_ble_eq_true rfl) (Nat.le_of_ble_eq_true rfl)) (hz _ ki_M_digitOf) (hz _ ks_M_digitOf) (hz _ kC_M_digitOf) hP hK rfl (q0 := 0) rfl rfl hl.1 rfl (Nat.le_of_ble_eq_true rfl) dM_digit_39 ⟨Nat.le_of_ble_eq_true rfl, Nat.le_of_ble_eq_true rfl⟩) ?_
      exact zt_ri hx hb hr hlocks (fun t ht _ => ⟨nI (zq_dg L D v d), rfl, fun _ => by rw [nI_clamp (by omega), nI_clamp (by omega)], by rw [ht]; exact hP, hS.F ht⟩) (hS.2.2) dM_digit_42
set_option maxHeartbeats 4000000 in
set_option maxRecDepth 100000 in
theorem tM_isAbove (l : Launch) {dC : Nat → ClassId} {dI : Nat → Nat → Nat} {cI cJ cB : ClassId} {ad : Nat → Nat} {lev val chs dig : Nat → Int32} {est cst : Nat → Int64} {code : Int32} {D N F k : Nat} {L V : Nat → Nat} {p0 p1 : Int32} {sz : Nat} (had : zg_ap ad 7) (hR : zm_R D N F L V lev val dig) : zt_Met l yM_isAbove wM_isAbove rM_isAbove (va_Pc [.ref (ad 0), .int p0, .int p1] (zg_C dC dI cI cJ cB (zm_w ad cI cJ cB lev val chs dig est cst code D N F k) sz)) (zg_Q dC dI (fun u : Int32 => some (.int u)) (fun u => ((zb_in p0 N && zb_in p1 N) = true → u = if zq_ab L D p0.toNatClampNeg p1.toNatClampNeg = true then 1 else 0) ∧ (u = 0 ∨ u = 1)) (fun u => zm_w ad cI cJ cB lev val chs dig est cst (nI (zc_b (zb_in p0 N && zb_in p1 N))) D N F k) (zg_A ad 7 sz)) 0 0 0 0 (zg_A ad 7 sz) := by
  refine zt_ofW (cc := cM_isAbove) (maxL := 3) (ret := (some .boolean)) (by decide) rfl ?_
  intro p e s m args below meth c s₁ B hml hout hv
  obtain ⟨rfl, hsz, hP, hK⟩ := hv
  have hx := B.exec
  have hb := B.bytes
  have hr := B.returns
  have hz : ∀ w ∈ zw0, w.before ([.ref (ad 0), .int p0, .int p1] : List Value).toArray s = true := fun w h => atoms_spec (ws := wM_isAbove) B.pre w (List.mem_cons_of_mem _ h)
  have hown : s.vm.findClass RM = some m.cls := findClass_of_methodNamed B.named
  have hlocks := B.notSynchronized
  subst hsz
  have hS : va_S (zg_A ad 7 s.heap.size) s.heap s.heap [] := va_S.rf
  have hl := lv_entry ([.ref (ad 0), .int p0, .int p1]) (n := 3) (Nat.le_of_ble_eq_true rfl)
  rw [lg_entry_eq]
  generalize (lg_sl ([.ref (ad 0), .int p0, .int p1]) ++ List.replicate (3 - (lg_sl ([.ref (ad 0), .int p0, .int p1])).length) Slot.unset).toArray = ls at hl ⊢
  have hl : lv_has ls 3 [(0, .ref (ad 0)), (1, .int p0), (2, .int p1)] := hl
  have hR9 := hR
  obtain ⟨hD, hL, hN, hN5, hF, hVb, hlev, hval, hdg⟩ := hR
  refine lv_aload_n hx hb dM_isAbove_0 rfl (lv_at hl 0 rfl) ?_
  refine lv_aload_n hx hb dM_isAbove_1 rfl (lv_at hl 0 rfl) ?_
  refine lv_iload_n hx hb dM_isAbove_2 rfl (lv_at hl 1 rfl) ?_
  refine zt_callRi (zg_run (rest := [.ref (ad 0)]) hx hb hml hown (tM_isView l hN5) (wcM_71 hz (Nat.le_of_ble_eq_true rfl) (Nat.le_of_ble_eq_true rfl)) (hz _ ki_M_isView) (hz _ ks_M_isView) (hz _ kC_M_isView) hP hK rfl (q0 := 0) rfl rfl hl.1 rfl (Nat.le_of_ble_eq_true rfl) dM_isAbove_3 ⟨Nat.le_of_ble_eq_true rfl, Nat.le_of_ble_eq_true rfl⟩) ?_
  refine zb_eq (tgt := 21) hx hb dM_isAbove_6 (by decide) (fun c6 => ?_) (fun c6 => ?_)
  · have ecd : zc_b (zb_in p0 N && zb_in p1 N) = 1 := by rw [c6, Bool.false_and]; rfl
    rw [ecd]
    refine lv_iconst (v := nI 1) hx hb dM_isAbove_21 (by decide) ?_
    refine va_put (D := (dC, dI)) (ci := 1) (v := .int (nI 1)) (ty := .int) (C := RM) (T := TM) (N := 11) hx hb hz in_M tyM tyM_ok nmM hown hK hP (zm_D had) hS 0 rfl rfl 0 (by decide) (hz _ kf_M_34) (fun _ h9 => h9) rfl (by decide +kernel) rfl rfl (Nat.le_of_ble_eq_true rfl) dM_isAbove_22 (fun H locs hP _ hS => ?_)
    have hP : va_P (dC, dI) zcl (zm_w ad cI cJ cB lev val chs dig est cst (nI 1) D N F k) H := hP
    refine lv_aload_n hx hb dM_isAbove_25 rfl (lv_at hl 0 rfl) ?_
    refine va_get (D := (dC, dI)) (ci := 1) (v := .int (nI 1)) (C := RM) (T := TM) (N := 11) hx hb hz in_M hown hK hP 0 rfl rfl 0 (by decide) (hz _ kf_M_34) (fun _ h9 => h9) rfl dM_isAbove_26 ?_
    refine lv_if_ne (tgt := 45) hx hb dM_isAbove_29 (by decide) (fun _ => ?_) (fun c29 => absurd c29 (by decide))
    refine lv_iconst (v := nI 0) hx hb dM_isAbove_45 (by decide) ?_
    exact zt_rz hx hb hr hlocks (rfl) (fun t ht _ => ⟨nI 0, rfl, ⟨fun q => absurd q (by rw [c6, Bool.false_and]; exact Bool.false_ne_true), Or.inl rfl⟩, by rw [ht]; exact hP, hS.F ht⟩) (hS.2.2) dM_isAbove_46
  · refine lv_aload_n hx hb dM_isAbove_9 rfl (lv_at hl 0 rfl) ?_
    refine lv_iload_n hx hb dM_isAbove_10 rfl (lv_at hl 2 rfl) ?_
    refine zt_callRi (zg_run (rest := [.ref (ad 0)]) hx hb hml hown (tM_isView l hN5) (wcM_71 hz (Nat.le_of_ble_eq_true rfl) (Nat.le_of_ble_eq_true rfl)) (hz _ ki_M_isView) (hz _ ks_M_isView) (hz _ kC_M_isView) hP hK rfl (q0 := 0) rfl rfl hl.1 rfl (Nat.le_of_ble_eq_true rfl) dM_isAbove_11 ⟨Nat.le_of_ble_eq_true rfl, Nat.le_of_ble_eq_true rfl⟩) ?_
    refine zb_eq (tgt := 21) hx hb dM_isAbove_14 (by decide) (fun c14 => ?_) (fun c14 => ?_)
    · have ecd : zc_b (zb_in p0 N && zb_in p1 N) = 1 := by rw [c14, Bool.and_false]; rfl
      rw [ecd]
      refine lv_iconst (v := nI 1) hx hb dM_isAbove_21 (by decide) ?_
      refine va_put (D := (dC, dI)) (ci := 1) (v := .int (nI 1)) (ty := .int) (C := RM) (T := TM) (N := 11) hx hb hz in_M tyM tyM_ok nmM hown hK hP (zm_D had) hS 0 rfl rfl 0 (by decide) (hz _ kf_M_34) (fun _ h9 => h9) rfl (by decide +kernel) rfl rfl (Nat.le_of_ble_eq_true rfl) dM_isAbove_22 (fun H locs hP _ hS => ?_)
      have hP : va_P (dC, dI) zcl (zm_w ad cI cJ cB lev val chs dig est cst (nI 1) D N F k) H := hP
      refine lv_aload_n hx hb dM_isAbove_25 rfl (lv_at hl 0 rfl) ?_
      refine va_get (D := (dC, dI)) (ci := 1) (v := .int (nI 1)) (C := RM) (T := TM) (N := 11) hx hb hz in_M hown hK hP 0 rfl rfl 0 (by decide) (hz _ kf_M_34) (fun _ h9 => h9) rfl dM_isAbove_26 ?_
      refine lv_if_ne (tgt := 45) hx hb dM_isAbove_29 (by decide) (fun _ => ?_) (fun c29 => absurd c29 (by decide))
      refine lv_iconst (v := nI 0) hx hb dM_isAbove_45 (by decide) ?_
      exact zt_rz hx hb hr hlocks (rfl) (fun t ht _ => ⟨nI 0, rfl, ⟨fun q => absurd q (by rw [c14, Bool.and_false]; exact Bool.false_ne_true), Or.inl rfl⟩, by rw [ht]; exact hP, hS.F ht⟩) (hS.2.2) dM_isAbove_46
    · have ecd : zc_b (zb_in p0 N && zb_in p1 N) = 0 := by rw [c6, c14]; rfl
      rw [ecd]
      obtain ⟨v, hv, rfl⟩ := zb_of c6 (by omega)
      obtain ⟨d, hd, rfl⟩ := zb_of c14 (by omega)
      refine lv_iconst (v := nI 0) hx hb dM_isAbove_17 (by decide) ?_
      refine lv_goto (tgt := 22) hx hb dM_isAbove_18 (by decide) ?_
      refine va_put (D := (dC, dI)) (ci := 1) (v := .int (nI 0)) (ty := .int) (C := RM) (T := TM) (N := 11) hx hb hz in_M tyM tyM_ok nmM hown hK hP (zm_D had) hS 0 rfl rfl 0 (by decide) (hz _ kf_M_34) (fun _ h9 => h9) rfl (by decide +kernel) rfl rfl (Nat.le_of_ble_eq_true rfl) dM_isAbove_22 (fun H locs hP _ hS => ?_)
      have hP : va_P (dC, dI) zcl (zm_w ad cI cJ cB lev val chs dig est cst (nI 0) D N F k) H := hP
      refine lv_aload_n hx hb dM_isAbove_25 rfl (lv_at hl 0 rfl) ?_
      refine va_get (D := (dC, dI)) (ci := 1) (v := .int (nI 0)) (C := RM) (T := TM) (N := 11) hx hb hz in_M hown hK hP 0 rfl rfl 0 (by decide) (hz _ kf_M_34) (fun _ h9 => h9) rfl dM_isAbove_26 ?_
      refine lv_if_ne (tgt := 45) hx hb dM_isAbove_29 (by decide) (fun c29 => absurd c29 (not_not_intro (by decide))) (fun _ => ?_)
      refine lv_aload_n hx hb dM_isAbove_32 rfl (lv_at hl 0 rfl) ?_
      refine lv_iload_n hx hb dM_isAbove_33 rfl (lv_at hl 1 rfl) ?_
      refine lv_iload_n hx hb dM_isAbove_34 rfl (lv_at hl 2 rfl) ?_
      refine zt_callRi (zg_run (rest := []) hx hb hml hown (tM_above l hR9 hv hd) (wcM_67 hz (Nat.le_of_ble_eq_true rfl) (Nat.le_of_ble_eq_true rfl)) (hz _ ki_M_above) (hz _ ks_M_above) (hz _ kC_M_above) hP hK rfl (q0 := 0) rfl rfl hl.1 rfl (Nat.le_of_ble_eq_true rfl) dM_isAbove_35 ⟨Nat.le_of_ble_eq_true rfl, Nat.le_of_ble_eq_true rfl⟩) ?_
      refine zb_eq (tgt := 45) hx hb dM_isAbove_38 (by decide) (fun c38 => ?_) (fun c38 => ?_)
      · refine lv_iconst (v := nI 0) hx hb dM_isAbove_45 (by decide) ?_
        exact zt_rz hx hb hr hlocks (rfl) (fun t ht _ => ⟨nI 0, rfl, ⟨fun _ => by rw [nI_clamp (by omega), nI_clamp (by omega), c38]; rfl, Or.inl rfl⟩, by rw [ht]; exact hP, hS.F ht⟩) (hS.2.2) dM_isAbove_46
      · refine lv_iconst (v := nI 1) hx hb dM_isAbove_41 (by decide) ?_
        refine lv_goto (tgt := 46) hx hb dM_isAbove_42 (by decide) ?_
        exact zt_rz hx hb hr hlocks (rfl) (fun t ht _ => ⟨nI 1, rfl, ⟨fun _ => by rw [nI_clamp (by omega), nI_clamp (by omega), c38]; rfl, Or.inr rfl⟩, by rw [ht]; exact hP, hS.F ht⟩) (hS.2.2) dM_isAbove_46
set_option maxHeartbeats 4000000 in
set_option maxRecDepth 100000 in
theorem tM_chosen (l : Launch) {dC : Nat → ClassId} {dI : Nat → Nat → Nat} {cI cJ cB : ClassId} {ad : Nat → Nat} {lev val chs dig : Nat → Int32} {est cst : Nat → Int64} {code : Int32} {D N F k : Nat} {S : Nat → Nat} {p0 : Int32} {sz : Nat} (had : zg_ap ad 7) (hs : zm_S N k S chs) : zt_Met l yM_chosen wM_chosen rM_chosen (va_Pc [.ref (ad 0), .int p0] (zg_C dC dI cI cJ cB (zm_w ad cI cJ cB lev val chs dig est cst code D N F k) sz)) (zg_Q dC dI (fun u : Int32 => some (.int u)) (fun u => zb_in p0 k = true → u = nI (S p0.toNatClampNeg)) (fun u => zm_w ad cI cJ cB lev val chs dig est cst (nI (zc_b (zb_in p0 k))) D N F k) (zg_A ad 7 sz)) 0 0 0 0 (zg_A ad 7 sz) := by
  refine zt_ofW (cc := cM_chosen) (maxL := 2) (ret := (some .int)) (by decide) rfl ?_
  intro p e s m args below meth c s₁ B hml hout hv
  obtain ⟨rfl, hsz, hP, hK⟩ := hv
  have hx := B.exec
  have hb := B.bytes
  have hr := B.returns
  have hz : ∀ w ∈ zw0, w.before ([.ref (ad 0), .int p0] : List Value).toArray s = true := fun w h => atoms_spec (ws := wM_chosen) B.pre w (List.mem_cons_of_mem _ h)
  have hown : s.vm.findClass RM = some m.cls := findClass_of_methodNamed B.named
  have hlocks := B.notSynchronized
  subst hsz
  have hS : va_S (zg_A ad 7 s.heap.size) s.heap s.heap [] := va_S.rf
  have hl := lv_entry ([.ref (ad 0), .int p0]) (n := 2) (Nat.le_of_ble_eq_true rfl)
  rw [lg_entry_eq]
  generalize (lg_sl ([.ref (ad 0), .int p0]) ++ List.replicate (2 - (lg_sl ([.ref (ad 0), .int p0])).length) Slot.unset).toArray = ls at hl ⊢
  have hl : lv_has ls 2 [(0, .ref (ad 0)), (1, .int p0)] := hl
  obtain ⟨hk, hs1, hs2⟩ := hs
  refine lv_aload_n hx hb dM_chosen_0 rfl (lv_at hl 0 rfl) ?_
  refine lv_iload_n hx hb dM_chosen_1 rfl (lv_at hl 1 rfl) ?_
  refine lv_if_lt (tgt := 17) hx hb dM_chosen_2 (by decide) (fun c2 => ?_) (fun c2 => ?_)
  · have ecd : zc_b (zb_in p0 k) = 1 := if_neg (zb_neg c2)
    rw [ecd]
    refine lv_iconst (v := nI 1) hx hb dM_chosen_17 (by decide) ?_
    refine va_put (D := (dC, dI)) (ci := 1) (v := .int (nI 1)) (ty := .int) (C := RM) (T := TM) (N := 11) hx hb hz in_M tyM tyM_ok nmM hown hK hP (zm_D had) hS 0 rfl rfl 0 (by decide) (hz _ kf_M_34) (fun _ h9 => h9) rfl (by decide +kernel) rfl rfl (Nat.le_of_ble_eq_true rfl) dM_chosen_18 (fun H locs hP _ hS => ?_)
    have hP : va_P (dC, dI) zcl (zm_w ad cI cJ cB lev val chs dig est cst (nI 1) D N F k) H := hP
    refine lv_aload_n hx hb dM_chosen_21 rfl (lv_at hl 0 rfl) ?_
    refine va_get (D := (dC, dI)) (ci := 1) (v := .int (nI 1)) (C := RM) (T := TM) (N := 11) hx hb hz in_M hown hK hP 0 rfl rfl 0 (by decide) (hz _ kf_M_34) (fun _ h9 => h9) rfl dM_chosen_22 ?_
    refine lv_if_le (tgt := 32) hx hb dM_chosen_25 (by decide) (fun c25 => absurd c25 (by decide)) (fun _ => ?_)
    refine lv_iconst (v := nI 0) hx hb dM_chosen_28 (by decide) ?_
    refine lv_goto (tgt := 38) hx hb dM_chosen_29 (by decide) ?_
    exact zt_ri hx hb hr hlocks (fun t ht _ => ⟨nI 0, rfl, fun q => absurd q (zb_neg c2), by rw [ht]; exact hP, hS.F ht⟩) (hS.2.2) dM_chosen_38
  · obtain ⟨j, hj, rfl⟩ := nI_of c2
    refine lv_iload_n hx hb dM_chosen_5 rfl (lv_at hl 1 rfl) ?_
    refine lv_aload_n hx hb dM_chosen_6 rfl (lv_at hl 0 rfl) ?_
    refine va_get (D := (dC, dI)) (ci := 1) (v := .int (nI k)) (C := RM) (T := TM) (N := 11) hx hb hz in_M hown hK hP 0 rfl rfl 6 (by decide) (hz _ kf_M_40) (fun _ h9 => h9) rfl dM_chosen_7 ?_
    refine zj_ge (tgt := 17) hx hb dM_chosen_10 (by decide) (by omega) (by omega) (fun c10 => ?_) (fun c10 => ?_)
    · have ecd : zc_b (zb_in (nI j) k) = 1 := if_neg (zb_big c10 hj)
      rw [ecd]
      refine lv_iconst (v := nI 1) hx hb dM_chosen_17 (by decide) ?_
      refine va_put (D := (dC, dI)) (ci := 1) (v := .int (nI 1)) (ty := .int) (C := RM) (T := TM) (N := 11) hx hb hz in_M tyM tyM_ok nmM hown hK hP (zm_D had) hS 0 rfl rfl 0 (by decide) (hz _ kf_M_34) (fun _ h9 => h9) rfl (by decide +kernel) rfl rfl (Nat.le_of_ble_eq_true rfl) dM_chosen_18 (fun H locs hP _ hS => ?_)
      have hP : va_P (dC, dI) zcl (zm_w ad cI cJ cB lev val chs dig est cst (nI 1) D N F k) H := hP
      refine lv_aload_n hx hb dM_chosen_21 rfl (lv_at hl 0 rfl) ?_
      refine va_get (D := (dC, dI)) (ci := 1) (v := .int (nI 1)) (C := RM) (T := TM) (N := 11) hx hb hz in_M hown hK hP 0 rfl rfl 0 (by decide) (hz _ kf_M_34) (fun _ h9 => h9) rfl dM_chosen_22 ?_
      refine lv_if_le (tgt := 32) hx hb dM_chosen_25 (by decide) (fun c25 => absurd c25 (by decide)) (fun _ => ?_)
      refine lv_iconst (v := nI 0) hx hb dM_chosen_28 (by decide) ?_
      refine lv_goto (tgt := 38) hx hb dM_chosen_29 (by decide) ?_
      exact zt_ri hx hb hr hlocks (fun t ht _ => ⟨nI 0, rfl, fun q => absurd q (zb_big c10 hj), by rw [ht]; exact hP, hS.F ht⟩) (hS.2.2) dM_chosen_38
    · have ecd : zc_b (zb_in (nI j) k) = 0 := if_pos (zb_t c10 (by omega))
      rw [ecd]
      refine lv_iconst (v := nI 0) hx hb dM_chosen_13 (by decide) ?_
      refine lv_goto (tgt := 18) hx hb dM_chosen_14 (by decide) ?_
      refine va_put (D := (dC, dI)) (ci := 1) (v := .int (nI 0)) (ty := .int) (C := RM) (T := TM) (N := 11) hx hb hz in_M tyM tyM_ok nmM hown hK hP (zm_D had) hS 0 rfl rfl 0 (by decide) (hz _ kf_M_34) (fun _ h9 => h9) rfl (by decide +kernel) rfl rfl (Nat.le_of_ble_eq_true rfl) dM_chosen_18 (fun H locs hP _ hS => ?_)
      have hP : va_P (dC, dI) zcl (zm_w ad cI cJ cB lev val chs dig est cst (nI 0) D N F k) H := hP
      refine lv_aload_n hx hb dM_chosen_21 rfl (lv_at hl 0 rfl) ?_
      refine va_get (D := (dC, dI)) (ci := 1) (v := .int (nI 0)) (C := RM) (T := TM) (N := 11) hx hb hz in_M hown hK hP 0 rfl rfl 0 (by decide) (hz _ kf_M_34) (fun _ h9 => h9) rfl dM_chosen_22 ?_
      refine lv_if_le (tgt := 32) hx hb dM_chosen_25 (by decide) (fun _ => ?_) (fun c25 => absurd c25 (not_not_intro (by decide)))
      refine lv_aload_n hx hb dM_chosen_32 rfl (lv_at hl 0 rfl) ?_
      refine va_get (D := (dC, dI)) (ci := 1) (v := .ref (ad 3)) (C := RM) (T := TM) (N := 11) hx hb hz in_M hown hK hP 0 rfl rfl 7 (by decide) (hz _ kf_M_20) (fun _ h9 => h9) rfl dM_chosen_33 ?_
      refine lv_iload_n hx hb dM_chosen_36 rfl (lv_at hl 1 rfl) ?_
      refine zt_iald hx hb hK hP 3 0 rfl rfl (i := j) (by omega) (by decide) (v := (nI (S j))) (hs1 j c10) dM_chosen_37 ?_
      exact zt_ri hx hb hr hlocks (fun t ht _ => ⟨nI (S j), rfl, fun _ => by rw [nI_clamp hj], by rw [ht]; exact hP, hS.F ht⟩) (hS.2.2) dM_chosen_38
set_option maxHeartbeats 4000000 in
set_option maxRecDepth 100000 in
theorem tM_facts (l : Launch) {dC : Nat → ClassId} {dI : Nat → Nat → Nat} {cI cJ cB : ClassId} {ad : Nat → Nat} {lev val chs dig : Nat → Int32} {est cst : Nat → Int64} {code : Int32} {D N F k : Nat} {p0 : Int32} {sz : Nat} (had : zg_ap ad 7)  : zt_Met l yM_facts wM_facts rM_facts (va_Pc [.ref (ad 0), .int p0] (zg_C dC dI cI cJ cB (zm_w ad cI cJ cB lev val chs dig est cst code D N F k) sz)) (zg_Q dC dI (fun u : Int32 × Nat × Nat => some (.int u.1)) (fun u => (zc_fac (zn p0) = 0 ∧ u = (nI F, zn p0, 0)) ∨ (zc_fac (zn p0) ≠ 0 ∧ u.2 = (F, k))) (fun u => zm_w ad cI cJ cB lev val chs dig est cst (nI (zc_fac (zn p0))) D N u.2.1 u.2.2) (zg_A ad 7 sz)) 0 0 0 0 (zg_A ad 7 sz) := by
  generalize ha1 : zn p0 = a1
  refine zt_ofW (cc := cM_facts) (maxL := 3) (ret := (some .int)) (by decide) rfl ?_
  intro p e s m args below meth c s₁ B hml hout hv
  obtain ⟨rfl, hsz, hP, hK⟩ := hv
  have hx := B.exec
  have hb := B.bytes
  have hr := B.returns
  have hz : ∀ w ∈ zw0, w.before ([.ref (ad 0), .int p0] : List Value).toArray s = true := fun w h => atoms_spec (ws := wM_facts) B.pre w (List.mem_cons_of_mem _ h)
  have hown : s.vm.findClass RM = some m.cls := findClass_of_methodNamed B.named
  have hlocks := B.notSynchronized
  subst hsz
  have hS : va_S (zg_A ad 7 s.heap.size) s.heap s.heap [] := va_S.rf
  have hl := lv_entry ([.ref (ad 0), .int p0]) (n := 3) (Nat.le_of_ble_eq_true rfl)
  rw [lg_entry_eq]
  generalize (lg_sl ([.ref (ad 0), .int p0]) ++ List.replicate (3 - (lg_sl ([.ref (ad 0), .int p0])).length) Slot.unset).toArray = ls at hl ⊢
  have hl : lv_has ls 3 [(0, .ref (ad 0)), (1, .int p0)] := hl
  rcases zn_cases p0 with ⟨h0, e0⟩ | ⟨n, hn, rfl, e0⟩
  · have ea : a1 = 2 ^ 31 := ha1.symm.trans e0
    have ecd : zc_fac a1 = 1 := by unfold zc_fac; rw [if_neg (by omega)]
    rw [ecd]
    refine lv_aload_n hx hb dM_facts_0 rfl (lv_at hl 0 rfl) ?_
    refine lv_iload_n hx hb dM_facts_1 rfl (lv_at hl 1 rfl) ?_
    refine lv_if_ge (tgt := 9) hx hb dM_facts_2 (by decide) (fun c2 => absurd c2 (fun q => Int32.lt_irrefl (Int32.lt_of_lt_of_le h0 q))) (fun _ => ?_)
    refine lv_iconst (v := nI 1) hx hb dM_facts_5 (by decide) ?_
    refine lv_goto (tgt := 10) hx hb dM_facts_6 (by decide) ?_
    refine va_put (D := (dC, dI)) (ci := 1) (v := .int (nI 1)) (ty := .int) (C := RM) (T := TM) (N := 11) hx hb hz in_M tyM tyM_ok nmM hown hK hP (zm_D had) hS 0 rfl rfl 0 (by decide) (hz _ kf_M_34) (fun _ h9 => h9) rfl (by decide +kernel) rfl rfl (Nat.le_of_ble_eq_true rfl) dM_facts_10 (fun H locs hP _ hS => ?_)
    have hP : va_P (dC, dI) zcl (zm_w ad cI cJ cB lev val chs dig est cst (nI 1) D N F k) H := hP
    refine lv_aload_n hx hb dM_facts_13 rfl (lv_at hl 0 rfl) ?_
    refine va_get (D := (dC, dI)) (ci := 1) (v := .int (nI 1)) (C := RM) (T := TM) (N := 11) hx hb hz in_M hown hK hP 0 rfl rfl 0 (by decide) (hz _ kf_M_34) (fun _ h9 => h9) rfl dM_facts_14 ?_
    refine lv_if_le (tgt := 22) hx hb dM_facts_17 (by decide) (fun c17 => absurd c17 (by decide)) (fun _ => ?_)
    refine lv_iconst (v := nI 0) hx hb dM_facts_20 (by decide) ?_
    exact zt_ri hx hb hr hlocks (fun t ht _ => ⟨(nI 0, F, k), rfl, Or.inr ⟨by decide, rfl⟩, by rw [ht]; exact hP, hS.F ht⟩) (hS.2.2) dM_facts_21
  · have ea : a1 = n := ha1.symm.trans e0
    subst ea
    have ecd : zc_fac a1 = 0 := by unfold zc_fac; rw [if_pos hn]
    rw [ecd]
    refine lv_aload_n hx hb dM_facts_0 rfl (lv_at hl 0 rfl) ?_
    refine lv_iload_n hx hb dM_facts_1 rfl (lv_at hl 1 rfl) ?_
    refine lv_if_ge (tgt := 9) hx hb dM_facts_2 (by decide) (fun _ => ?_) (fun c2 => absurd c2 (not_not_intro (nI_pos' hn)))
    refine lv_iconst (v := nI 0) hx hb dM_facts_9 (by decide) ?_
    refine va_put (D := (dC, dI)) (ci := 1) (v := .int (nI 0)) (ty := .int) (C := RM) (T := TM) (N := 11) hx hb hz in_M tyM tyM_ok nmM hown hK hP (zm_D had) hS 0 rfl rfl 0 (by decide) (hz _ kf_M_34) (fun _ h9 => h9) rfl (by decide +kernel) rfl rfl (Nat.le_of_ble_eq_true rfl) dM_facts_10 (fun H locs hP _ hS => ?_)
    have hP : va_P (dC, dI) zcl (zm_w ad cI cJ cB lev val chs dig est cst (nI 0) D N F k) H := hP
    refine lv_aload_n hx hb dM_facts_13 rfl (lv_at hl 0 rfl) ?_
    refine va_get (D := (dC, dI)) (ci := 1) (v := .int (nI 0)) (C := RM) (T := TM) (N := 11) hx hb hz in_M hown hK hP 0 rfl rfl 0 (by decide) (hz _ kf_M_34) (fun _ h9 => h9) rfl dM_facts_14 ?_
    refine lv_if_le (tgt := 22) hx hb dM_facts_17 (by decide) (fun _ => ?_) (fun c17 => absurd c17 (not_not_intro (by decide)))
    refine lv_aload_n hx hb dM_facts_22 rfl (lv_at hl 0 rfl) ?_
    refine va_get (D := (dC, dI)) (ci := 1) (v := .int (nI F)) (C := RM) (T := TM) (N := 11) hx hb hz in_M hown hK hP 0 rfl rfl 4 (by decide) (hz _ kf_M_51) (fun _ h9 => h9) rfl dM_facts_23 ?_
    refine lv_istore_n (lv' := [(2, .int (nI F)), (0, .ref (ad 0)), (1, .int (nI a1))]) hx hb dM_facts_26 rfl hl (by decide) rfl (fun ls hl => ?_)
    refine lv_aload_n hx hb dM_facts_27 rfl (lv_at hl 1 rfl) ?_
    refine lv_iload_n hx hb dM_facts_28 rfl (lv_at hl 2 rfl) ?_
    refine va_put (D := (dC, dI)) (ci := 1) (v := .int (nI a1)) (ty := .int) (C := RM) (T := TM) (N := 11) hx hb hz in_M tyM tyM_ok nmM hown hK hP (zm_D had) hS 0 rfl rfl 4 (by decide) (hz _ kf_M_51) (fun _ h9 => h9) rfl (by decide +kernel) rfl rfl (Nat.le_of_ble_eq_true rfl) dM_facts_29 (fun H locs hP _ hS => ?_)
    have hP : va_P (dC, dI) zcl (zm_w ad cI cJ cB lev val chs dig est cst (nI 0) D N a1 k) H := hP
    refine lv_aload_n hx hb dM_facts_32 rfl (lv_at hl 1 rfl) ?_
    refine lv_iconst (v := nI 0) hx hb dM_facts_33 (by decide) ?_
    refine va_put (D := (dC, dI)) (ci := 1) (v := .int (nI 0)) (ty := .int) (C := RM) (T := TM) (N := 11) hx hb hz in_M tyM tyM_ok nmM hown hK hP (zm_D had) hS 0 rfl rfl 6 (by decide) (hz _ kf_M_40) (fun _ h9 => h9) rfl (by decide +kernel) rfl rfl (Nat.le_of_ble_eq_true rfl) dM_facts_34 (fun H locs hP _ hS => ?_)
    have hP : va_P (dC, dI) zcl (zm_w ad cI cJ cB lev val chs dig est cst (nI 0) D N a1 0) H := hP
    refine lv_iload_n hx hb dM_facts_37 rfl (lv_at hl 0 rfl) ?_
    exact zt_ri hx hb hr hlocks (fun t ht _ => ⟨(nI F, a1, 0), rfl, Or.inl ⟨rfl, rfl⟩, by rw [ht]; exact hP, hS.F ht⟩) (hS.2.2) dM_facts_38
set_option maxHeartbeats 4000000 in
set_option maxRecDepth 100000 in
theorem tM_values (l : Launch) {dC : Nat → ClassId} {dI : Nat → Nat → Nat} {cI cJ cB : ClassId} {ad : Nat → Nat} {lev val chs dig : Nat → Int32} {est cst : Nat → Int64} {code : Int32} {D N F k : Nat} {L V : Nat → Nat} {p0 p1 p2 : Int32} {sz : Nat} (had : zg_ap ad 7) (hR : zm_R D N F L V lev val dig) : zt_Met l yM_values wM_values rM_values (va_Pc [.ref (ad 0), .int p0, .int p1, .int p2] (zg_C dC dI cI cJ cB (zm_w ad cI cJ cB lev val chs dig est cst code D N F k) sz)) (zg_Q dC dI (fun u : Int32 × (Nat → Int32) × Nat => some (.int u.1)) (fun u => (zc_val (zn p0) (zn p1) (zn p2) D L = 0 ∧ u = (nI (V (4 * zn p0 + zn p1)), upd val (4 * zn p0 + zn p1) (nI (zn p2)), 0)) ∨ (zc_val (zn p0) (zn p1) (zn p2) D L ≠ 0 ∧ u.2 = (val, k))) (fun u => zm_w ad cI cJ cB lev u.2.1 chs dig est cst (nI (zc_val (zn p0) (zn p1) (zn p2) D L)) D N F u.2.2) (zg_A ad 7 sz)) 0 0 0 0 (zg_A ad 7 sz) := by
  generalize ha1 : zn p0 = a1
  generalize ha2 : zn p1 = a2
  generalize ha3 : zn p2 = a3
  refine zt_ofW (cc := cM_values) (maxL := 5) (ret := (some .int)) (by decide) rfl ?_
  intro p e s m args below meth c s₁ B hml hout hv
  obtain ⟨rfl, hsz, hP, hK⟩ := hv
  have hx := B.exec
  have hb := B.bytes
  have hr := B.returns
  have hz : ∀ w ∈ zw0, w.before ([.ref (ad 0), .int p0, .int p1, .int p2] : List Value).toArray s = true := fun w h => atoms_spec (ws := wM_values) B.pre w (List.mem_cons_of_mem _ h)
  have hown : s.vm.findClass RM = some m.cls := findClass_of_methodNamed B.named
  have hlocks := B.notSynchronized
  subst hsz
  have hS : va_S (zg_A ad 7 s.heap.size) s.heap s.heap [] := va_S.rf
  have hl := lv_entry ([.ref (ad 0), .int p0, .int p1, .int p2]) (n := 5) (Nat.le_of_ble_eq_true rfl)
  rw [lg_entry_eq]
  generalize (lg_sl ([.ref (ad 0), .int p0, .int p1, .int p2]) ++ List.replicate (5 - (lg_sl ([.ref (ad 0), .int p0, .int p1, .int p2])).length) Slot.unset).toArray = ls at hl ⊢
  have hl : lv_has ls 5 [(0, .ref (ad 0)), (1, .int p0), (2, .int p1), (3, .int p2)] := hl
  obtain ⟨hD, hL, hN, hN5, hF, hVb, hlev, hval, hdg⟩ := hR
  have hi0 := zn_in p0 (n := D) (by omega)
  rw [ha1] at hi0
  refine lv_aload_n hx hb dM_values_0 rfl (lv_at hl 0 rfl) ?_
  refine lv_aload_n hx hb dM_values_1 rfl (lv_at hl 0 rfl) ?_
  refine lv_iload_n hx hb dM_values_2 rfl (lv_at hl 1 rfl) ?_
  refine zt_callRi (zg_run (rest := [.ref (ad 0)]) hx hb hml hown (tM_isDimension l (by omega)) (wcM_46 hz (Nat.le_of_ble_eq_true rfl) (Nat.le_of_ble_eq_true rfl)) (hz _ ki_M_isDimension) (hz _ ks_M_isDimension) (hz _ kC_M_isDimension) hP hK rfl (q0 := 0) rfl rfl hl.1 rfl (Nat.le_of_ble_eq_true rfl) dM_values_3 ⟨Nat.le_of_ble_eq_true rfl, Nat.le_of_ble_eq_true rfl⟩) ?_
  refine zb_eq (tgt := 33) hx hb dM_values_6 (by decide) (fun c6 => ?_) (fun c6 => ?_)
  · rw [hi0] at c6
    have c6 := of_decide_eq_false c6
    have ecd : zc_val a1 a2 a3 D L = 1 := by unfold zc_val; rw [if_neg (by omega)]
    rw [ecd]
    refine lv_iconst (v := nI 1) hx hb dM_values_33 (by decide) ?_
    refine lv_goto (tgt := 38) hx hb dM_values_34 (by decide) ?_
    refine va_put (D := (dC, dI)) (ci := 1) (v := .int (nI 1)) (ty := .int) (C := RM) (T := TM) (N := 11) hx hb hz in_M tyM tyM_ok nmM hown hK hP (zm_D had) hS 0 rfl rfl 0 (by decide) (hz _ kf_M_34) (fun _ h9 => h9) rfl (by decide +kernel) rfl rfl (Nat.le_of_ble_eq_true rfl) dM_values_38 (fun H locs hP _ hS => ?_)
    have hP : va_P (dC, dI) zcl (zm_w ad cI cJ cB lev val chs dig est cst (nI 1) D N F k) H := hP
    refine lv_aload_n hx hb dM_values_41 rfl (lv_at hl 0 rfl) ?_
    refine va_get (D := (dC, dI)) (ci := 1) (v := .int (nI 1)) (C := RM) (T := TM) (N := 11) hx hb hz in_M hown hK hP 0 rfl rfl 0 (by decide) (hz _ kf_M_34) (fun _ h9 => h9) rfl dM_values_42 ?_
    refine lv_if_le (tgt := 50) hx hb dM_values_45 (by decide) (fun c45 => absurd c45 (by decide)) (fun _ => ?_)
    refine lv_iconst (v := nI 0) hx hb dM_values_48 (by decide) ?_
    exact zt_ri hx hb hr hlocks (fun t ht _ => ⟨(nI 0, val, k), rfl, Or.inr ⟨by decide, rfl⟩, by rw [ht]; exact hP, hS.F ht⟩) (hS.2.2) dM_values_49
  · rw [hi0] at c6
    have hok := of_decide_eq_true c6
    obtain ⟨d, hd, rfl, e0⟩ : ∃ d, d < 2 ^ 31 ∧ p0 = nI d ∧ zn p0 = d := (zn_cases p0).resolve_left (fun q => by have := q.2; omega)
    have ea : a1 = d := ha1.symm.trans e0
    subst ea
    have hLa := hL a1 hok
    rcases zn_cases p1 with ⟨h1, e1⟩ | ⟨b2, hb2, rfl, e1⟩
    · have eb : a2 = 2 ^ 31 := ha2.symm.trans e1
      refine lv_iload_n hx hb dM_values_9 rfl (lv_at hl 2 rfl) ?_
      refine lv_if_lt (tgt := 33) hx hb dM_values_10 (by decide) (fun _ => ?_) (fun c10 => absurd c10 (not_not_intro h1))
      have ecd : zc_val a1 a2 a3 D L = 1 := by unfold zc_val; rw [if_neg (by omega)]
      rw [ecd]
      refine lv_iconst (v := nI 1) hx hb dM_values_33 (by decide) ?_
      refine lv_goto (tgt := 38) hx hb dM_values_34 (by decide) ?_
      refine va_put (D := (dC, dI)) (ci := 1) (v := .int (nI 1)) (ty := .int) (C := RM) (T := TM) (N := 11) hx hb hz in_M tyM tyM_ok nmM hown hK hP (zm_D had) hS 0 rfl rfl 0 (by decide) (hz _ kf_M_34) (fun _ h9 => h9) rfl (by decide +kernel) rfl rfl (Nat.le_of_ble_eq_true rfl) dM_values_38 (fun H locs hP _ hS => ?_)
      have hP : va_P (dC, dI) zcl (zm_w ad cI cJ cB lev val chs dig est cst (nI 1) D N F k) H := hP
      refine lv_aload_n hx hb dM_values_41 rfl (lv_at hl 0 rfl) ?_
      refine va_get (D := (dC, dI)) (ci := 1) (v := .int (nI 1)) (C := RM) (T := TM) (N := 11) hx hb hz in_M hown hK hP 0 rfl rfl 0 (by decide) (hz _ kf_M_34) (fun _ h9 => h9) rfl dM_values_42 ?_
      refine lv_if_le (tgt := 50) hx hb dM_values_45 (by decide) (fun c45 => absurd c45 (by decide)) (fun _ => ?_)
      refine lv_iconst (v := nI 0) hx hb dM_values_48 (by decide) ?_
      exact zt_ri hx hb hr hlocks (fun t ht _ => ⟨(nI 0, val, k), rfl, Or.inr ⟨by decide, rfl⟩, by rw [ht]; exact hP, hS.F ht⟩) (hS.2.2) dM_values_49
    · have eb : a2 = b2 := ha2.symm.trans e1
      subst eb
      refine lv_iload_n hx hb dM_values_9 rfl (lv_at hl 2 rfl) ?_
      refine lv_if_lt (tgt := 33) hx hb dM_values_10 (by decide) (fun c10 => absurd c10 (nI_pos hb2)) (fun _ => ?_)
      refine lv_iload_n hx hb dM_values_13 rfl (lv_at hl 2 rfl) ?_
      refine lv_aload_n hx hb dM_values_14 rfl (lv_at hl 0 rfl) ?_
      refine va_get (D := (dC, dI)) (ci := 1) (v := .ref (ad 1)) (C := RM) (T := TM) (N := 11) hx hb hz in_M hown hK hP 0 rfl rfl 2 (by decide) (hz _ kf_M_7) (fun _ h9 => h9) rfl dM_values_15 ?_
      refine lv_iload_n hx hb dM_values_18 rfl (lv_at hl 1 rfl) ?_
      refine zt_iald hx hb hK hP 1 0 rfl rfl (i := a1) (by omega) (by decide) (v := (nI (L a1))) (hlev a1 hok) dM_values_19 ?_
      refine zj_ge (tgt := 33) hx hb dM_values_20 (by decide) (by omega) (by omega) (fun c20 => ?_) (fun c20 => ?_)
      · have ecd : zc_val a1 a2 a3 D L = 1 := by unfold zc_val; rw [if_neg (by omega)]
        rw [ecd]
        refine lv_iconst (v := nI 1) hx hb dM_values_33 (by decide) ?_
        refine lv_goto (tgt := 38) hx hb dM_values_34 (by decide) ?_
        refine va_put (D := (dC, dI)) (ci := 1) (v := .int (nI 1)) (ty := .int) (C := RM) (T := TM) (N := 11) hx hb hz in_M tyM tyM_ok nmM hown hK hP (zm_D had) hS 0 rfl rfl 0 (by decide) (hz _ kf_M_34) (fun _ h9 => h9) rfl (by decide +kernel) rfl rfl (Nat.le_of_ble_eq_true rfl) dM_values_38 (fun H locs hP _ hS => ?_)
        have hP : va_P (dC, dI) zcl (zm_w ad cI cJ cB lev val chs dig est cst (nI 1) D N F k) H := hP
        refine lv_aload_n hx hb dM_values_41 rfl (lv_at hl 0 rfl) ?_
        refine va_get (D := (dC, dI)) (ci := 1) (v := .int (nI 1)) (C := RM) (T := TM) (N := 11) hx hb hz in_M hown hK hP 0 rfl rfl 0 (by decide) (hz _ kf_M_34) (fun _ h9 => h9) rfl dM_values_42 ?_
        refine lv_if_le (tgt := 50) hx hb dM_values_45 (by decide) (fun c45 => absurd c45 (by decide)) (fun _ => ?_)
        refine lv_iconst (v := nI 0) hx hb dM_values_48 (by decide) ?_
        exact zt_ri hx hb hr hlocks (fun t ht _ => ⟨(nI 0, val, k), rfl, Or.inr ⟨by decide, rfl⟩, by rw [ht]; exact hP, hS.F ht⟩) (hS.2.2) dM_values_49
      · rcases zn_cases p2 with ⟨h2, e2⟩ | ⟨n2, hn2, rfl, e2⟩
        · have ec : a3 = 2 ^ 31 := ha3.symm.trans e2
          refine lv_iload_n hx hb dM_values_23 rfl (lv_at hl 3 rfl) ?_
          refine lv_if_lt (tgt := 33) hx hb dM_values_24 (by decide) (fun _ => ?_) (fun c24 => absurd c24 (not_not_intro h2))
          have ecd : zc_val a1 a2 a3 D L = 1 := by unfold zc_val; rw [if_neg (by omega)]
          rw [ecd]
          refine lv_iconst (v := nI 1) hx hb dM_values_33 (by decide) ?_
          refine lv_goto (tgt := 38) hx hb dM_values_34 (by decide) ?_
          refine va_put (D := (dC, dI)) (ci := 1) (v := .int (nI 1)) (ty := .int) (C := RM) (T := TM) (N := 11) hx hb hz in_M tyM tyM_ok nmM hown hK hP (zm_D had) hS 0 rfl rfl 0 (by decide) (hz _ kf_M_34) (fun _ h9 => h9) rfl (by decide +kernel) rfl rfl (Nat.le_of_ble_eq_true rfl) dM_values_38 (fun H locs hP _ hS => ?_)
          have hP : va_P (dC, dI) zcl (zm_w ad cI cJ cB lev val chs dig est cst (nI 1) D N F k) H := hP
          refine lv_aload_n hx hb dM_values_41 rfl (lv_at hl 0 rfl) ?_
          refine va_get (D := (dC, dI)) (ci := 1) (v := .int (nI 1)) (C := RM) (T := TM) (N := 11) hx hb hz in_M hown hK hP 0 rfl rfl 0 (by decide) (hz _ kf_M_34) (fun _ h9 => h9) rfl dM_values_42 ?_
          refine lv_if_le (tgt := 50) hx hb dM_values_45 (by decide) (fun c45 => absurd c45 (by decide)) (fun _ => ?_)
          refine lv_iconst (v := nI 0) hx hb dM_values_48 (by decide) ?_
          exact zt_ri hx hb hr hlocks (fun t ht _ => ⟨(nI 0, val, k), rfl, Or.inr ⟨by decide, rfl⟩, by rw [ht]; exact hP, hS.F ht⟩) (hS.2.2) dM_values_49
        · have ec : a3 = n2 := ha3.symm.trans e2
          subst ec
          refine lv_iload_n hx hb dM_values_23 rfl (lv_at hl 3 rfl) ?_
          refine lv_if_lt (tgt := 33) hx hb dM_values_24 (by decide) (fun c24 => absurd c24 (nI_pos hn2)) (fun _ => ?_)
          refine lv_iload_n hx hb dM_values_27 rfl (lv_at hl 3 rfl) ?_
          refine lv_ldc hx hb hown (hz _ kn_M_50) dM_values_28 ?_
          refine zt_ti (y := nI 1000000) (by decide) ?_
          refine zj_le (tgt := 37) hx hb dM_values_30 (by decide) (by omega) (by omega) (fun c30 => ?_) (fun c30 => ?_)
          · have ecd : zc_val a1 a2 a3 D L = 0 := by unfold zc_val; rw [if_pos ⟨by omega, by omega, by omega⟩]
            rw [ecd]
            refine lv_iconst (v := nI 0) hx hb dM_values_37 (by decide) ?_
            refine va_put (D := (dC, dI)) (ci := 1) (v := .int (nI 0)) (ty := .int) (C := RM) (T := TM) (N := 11) hx hb hz in_M tyM tyM_ok nmM hown hK hP (zm_D had) hS 0 rfl rfl 0 (by decide) (hz _ kf_M_34) (fun _ h9 => h9) rfl (by decide +kernel) rfl rfl (Nat.le_of_ble_eq_true rfl) dM_values_38 (fun H locs hP _ hS => ?_)
            have hP : va_P (dC, dI) zcl (zm_w ad cI cJ cB lev val chs dig est cst (nI 0) D N F k) H := hP
            refine lv_aload_n hx hb dM_values_41 rfl (lv_at hl 0 rfl) ?_
            refine va_get (D := (dC, dI)) (ci := 1) (v := .int (nI 0)) (C := RM) (T := TM) (N := 11) hx hb hz in_M hown hK hP 0 rfl rfl 0 (by decide) (hz _ kf_M_34) (fun _ h9 => h9) rfl dM_values_42 ?_
            refine lv_if_le (tgt := 50) hx hb dM_values_45 (by decide) (fun _ => ?_) (fun c45 => absurd c45 (not_not_intro (by decide)))
            refine lv_aload_n hx hb dM_values_50 rfl (lv_at hl 0 rfl) ?_
            refine va_get (D := (dC, dI)) (ci := 1) (v := .ref (ad 2)) (C := RM) (T := TM) (N := 11) hx hb hz in_M hown hK hP 0 rfl rfl 3 (by decide) (hz _ kf_M_13) (fun _ h9 => h9) rfl dM_values_51 ?_
            refine lv_iconst (v := nI 4) hx hb dM_values_54 (by decide) ?_
            refine lv_iload_n hx hb dM_values_55 rfl (lv_at hl 1 rfl) ?_
            refine lv_imul hx hb dM_values_56 ?_
            refine zt_ti (pk_mul _ _) ?_
            refine lv_iload_n hx hb dM_values_57 rfl (lv_at hl 2 rfl) ?_
            refine lv_iadd hx hb dM_values_58 ?_
            refine zt_ti (nI_add _ _) ?_
            refine zt_iald hx hb hK hP 2 0 rfl rfl (i := ((4 * a1) + a2)) (by omega) (by decide) (v := (nI (V (4 * a1 + a2)))) (hval _ (by omega)) dM_values_59 ?_
            refine lv_istore (lv' := [(4, .int (nI (V (4 * a1 + a2)))), (0, .ref (ad 0)), (1, .int (nI a1)), (2, .int (nI a2)), (3, .int (nI a3))]) hx hb dM_values_60 hl (by decide) rfl (fun ls hl => ?_)
            refine lv_aload_n hx hb dM_values_62 rfl (lv_at hl 1 rfl) ?_
            refine va_get (D := (dC, dI)) (ci := 1) (v := .ref (ad 2)) (C := RM) (T := TM) (N := 11) hx hb hz in_M hown hK hP 0 rfl rfl 3 (by decide) (hz _ kf_M_13) (fun _ h9 => h9) rfl dM_values_63 ?_
            refine lv_iconst (v := nI 4) hx hb dM_values_66 (by decide) ?_
            refine lv_iload_n hx hb dM_values_67 rfl (lv_at hl 2 rfl) ?_
            refine lv_imul hx hb dM_values_68 ?_
            refine zt_ti (pk_mul _ _) ?_
            refine lv_iload_n hx hb dM_values_69 rfl (lv_at hl 3 rfl) ?_
            refine lv_iadd hx hb dM_values_70 ?_
            refine zt_ti (nI_add _ _) ?_
            refine lv_iload_n hx hb dM_values_71 rfl (lv_at hl 4 rfl) ?_
            refine zt_iast hx hb hK hP (zm_D had) hS 2 0 rfl rfl (i := ((4 * a1) + a2)) (by omega) (by decide) dM_values_72 (fun H locs hP _ hS => ?_)
            have hP : va_P (dC, dI) zcl (zm_w ad cI cJ cB lev (upd val ((4 * a1) + a2) (nI a3)) chs dig est cst (nI 0) D N F k) H := hP
            refine lv_aload_n hx hb dM_values_73 rfl (lv_at hl 1 rfl) ?_
            refine lv_iconst (v := nI 0) hx hb dM_values_74 (by decide) ?_
            refine va_put (D := (dC, dI)) (ci := 1) (v := .int (nI 0)) (ty := .int) (C := RM) (T := TM) (N := 11) hx hb hz in_M tyM tyM_ok nmM hown hK hP (zm_D had) hS 0 rfl rfl 6 (by decide) (hz _ kf_M_40) (fun _ h9 => h9) rfl (by decide +kernel) rfl rfl (Nat.le_of_ble_eq_true rfl) dM_values_75 (fun H locs hP _ hS => ?_)
            have hP : va_P (dC, dI) zcl (zm_w ad cI cJ cB lev (upd val ((4 * a1) + a2) (nI a3)) chs dig est cst (nI 0) D N F 0) H := hP
            refine lv_iload hx hb dM_values_78 (lv_at hl 0 rfl) ?_
            exact zt_ri hx hb hr hlocks (fun t ht _ => ⟨(nI (V (4 * a1 + a2)), upd val (4 * a1 + a2) (nI a3), 0), rfl, Or.inl ⟨rfl, rfl⟩, by rw [ht]; exact hP, hS.F ht⟩) (hS.2.2) dM_values_80
          · have ecd : zc_val a1 a2 a3 D L = 1 := by unfold zc_val; rw [if_neg (by omega)]
            rw [ecd]
            refine lv_iconst (v := nI 1) hx hb dM_values_33 (by decide) ?_
            refine lv_goto (tgt := 38) hx hb dM_values_34 (by decide) ?_
            refine va_put (D := (dC, dI)) (ci := 1) (v := .int (nI 1)) (ty := .int) (C := RM) (T := TM) (N := 11) hx hb hz in_M tyM tyM_ok nmM hown hK hP (zm_D had) hS 0 rfl rfl 0 (by decide) (hz _ kf_M_34) (fun _ h9 => h9) rfl (by decide +kernel) rfl rfl (Nat.le_of_ble_eq_true rfl) dM_values_38 (fun H locs hP _ hS => ?_)
            have hP : va_P (dC, dI) zcl (zm_w ad cI cJ cB lev val chs dig est cst (nI 1) D N F k) H := hP
            refine lv_aload_n hx hb dM_values_41 rfl (lv_at hl 0 rfl) ?_
            refine va_get (D := (dC, dI)) (ci := 1) (v := .int (nI 1)) (C := RM) (T := TM) (N := 11) hx hb hz in_M hown hK hP 0 rfl rfl 0 (by decide) (hz _ kf_M_34) (fun _ h9 => h9) rfl dM_values_42 ?_
            refine lv_if_le (tgt := 50) hx hb dM_values_45 (by decide) (fun c45 => absurd c45 (by decide)) (fun _ => ?_)
            refine lv_iconst (v := nI 0) hx hb dM_values_48 (by decide) ?_
            exact zt_ri hx hb hr hlocks (fun t ht _ => ⟨(nI 0, val, k), rfl, Or.inr ⟨by decide, rfl⟩, by rw [ht]; exact hP, hS.F ht⟩) (hS.2.2) dM_values_49
set_option maxHeartbeats 4000000 in
set_option maxRecDepth 100000 in
theorem tM_take (l : Launch) {dC : Nat → ClassId} {dI : Nat → Nat → Nat} {cI cJ cB : ClassId} {ad : Nat → Nat} {lev val chs dig : Nat → Int32} {est cst : Nat → Int64} {code : Int32} {D N F k : Nat} {p0 : Int32} {sz : Nat} (had : zg_ap ad 7) (hN5 : N ≤ 512) (hk : k ≤ 16) : zt_Met l yM_take wM_take rM_take (va_Pc [.ref (ad 0), .int p0] (zg_C dC dI cI cJ cB (zm_w ad cI cJ cB lev val chs dig est cst code D N F k) sz)) (zg_Q dC dI (fun u : Int32 × (Nat → Int32) × Nat => some (.int u.1)) (fun u => (zc_take (zn p0) N k = 0 ∧ u = (nI (k + 1), upd chs k (nI (zn p0)), k + 1)) ∨ (zc_take (zn p0) N k ≠ 0 ∧ u.2 = (chs, k))) (fun u => zm_w ad cI cJ cB lev val u.2.1 dig est cst (nI (zc_take (zn p0) N k)) D N F u.2.2) (zg_A ad 7 sz)) 0 0 0 0 (zg_A ad 7 sz) := by
  generalize ha1 : zn p0 = a1
  refine zt_ofW (cc := cM_take) (maxL := 2) (ret := (some .int)) (by decide) rfl ?_
  intro p e s m args below meth c s₁ B hml hout hv
  obtain ⟨rfl, hsz, hP, hK⟩ := hv
  have hx := B.exec
  have hb := B.bytes
  have hr := B.returns
  have hz : ∀ w ∈ zw0, w.before ([.ref (ad 0), .int p0] : List Value).toArray s = true := fun w h => atoms_spec (ws := wM_take) B.pre w (List.mem_cons_of_mem _ h)
  have hown : s.vm.findClass RM = some m.cls := findClass_of_methodNamed B.named
  have hlocks := B.notSynchronized
  subst hsz
  have hS : va_S (zg_A ad 7 s.heap.size) s.heap s.heap [] := va_S.rf
  have hl := lv_entry ([.ref (ad 0), .int p0]) (n := 2) (Nat.le_of_ble_eq_true rfl)
  rw [lg_entry_eq]
  generalize (lg_sl ([.ref (ad 0), .int p0]) ++ List.replicate (2 - (lg_sl ([.ref (ad 0), .int p0])).length) Slot.unset).toArray = ls at hl ⊢
  have hl : lv_has ls 2 [(0, .ref (ad 0)), (1, .int p0)] := hl
  have hi0 := zn_in p0 (n := N) (by omega)
  rw [ha1] at hi0
  refine lv_aload_n hx hb dM_take_0 rfl (lv_at hl 0 rfl) ?_
  refine lv_aload_n hx hb dM_take_1 rfl (lv_at hl 0 rfl) ?_
  refine lv_iload_n hx hb dM_take_2 rfl (lv_at hl 1 rfl) ?_
  refine zt_callRi (zg_run (rest := [.ref (ad 0)]) hx hb hml hown (tM_isView l hN5) (wcM_71 hz (Nat.le_of_ble_eq_true rfl) (Nat.le_of_ble_eq_true rfl)) (hz _ ki_M_isView) (hz _ ks_M_isView) (hz _ kC_M_isView) hP hK rfl (q0 := 0) rfl rfl hl.1 rfl (Nat.le_of_ble_eq_true rfl) dM_take_3 ⟨Nat.le_of_ble_eq_true rfl, Nat.le_of_ble_eq_true rfl⟩) ?_
  refine zb_ne (tgt := 13) hx hb dM_take_6 (by decide) (fun c6 => ?_) (fun c6 => ?_)
  · rw [hi0] at c6
    have hok := of_decide_eq_true c6
    obtain ⟨d, hd, rfl, e0⟩ : ∃ d, d < 2 ^ 31 ∧ p0 = nI d ∧ zn p0 = d := (zn_cases p0).resolve_left (fun q => by have := q.2; omega)
    have ea : a1 = d := ha1.symm.trans e0
    subst ea
    refine lv_aload_n hx hb dM_take_13 rfl (lv_at hl 0 rfl) ?_
    refine va_get (D := (dC, dI)) (ci := 1) (v := .int (nI k)) (C := RM) (T := TM) (N := 11) hx hb hz in_M hown hK hP 0 rfl rfl 6 (by decide) (hz _ kf_M_40) (fun _ h9 => h9) rfl dM_take_14 ?_
    refine lv_bipush (v := nI 16) hx hb dM_take_17 (by decide) ?_
    refine zj_ne (tgt := 26) hx hb dM_take_19 (by decide) (by omega) (by omega) (fun c19 => ?_) (fun c19 => ?_)
    · have ecd : zc_take a1 N k = 0 := by unfold zc_take; rw [if_pos hok, if_pos (by omega)]
      rw [ecd]
      refine lv_iconst (v := nI 0) hx hb dM_take_26 (by decide) ?_
      refine va_put (D := (dC, dI)) (ci := 1) (v := .int (nI 0)) (ty := .int) (C := RM) (T := TM) (N := 11) hx hb hz in_M tyM tyM_ok nmM hown hK hP (zm_D had) hS 0 rfl rfl 0 (by decide) (hz _ kf_M_34) (fun _ h9 => h9) rfl (by decide +kernel) rfl rfl (Nat.le_of_ble_eq_true rfl) dM_take_27 (fun H locs hP _ hS => ?_)
      have hP : va_P (dC, dI) zcl (zm_w ad cI cJ cB lev val chs dig est cst (nI 0) D N F k) H := hP
      refine lv_aload_n hx hb dM_take_30 rfl (lv_at hl 0 rfl) ?_
      refine va_get (D := (dC, dI)) (ci := 1) (v := .int (nI 0)) (C := RM) (T := TM) (N := 11) hx hb hz in_M hown hK hP 0 rfl rfl 0 (by decide) (hz _ kf_M_34) (fun _ h9 => h9) rfl dM_take_31 ?_
      refine lv_if_le (tgt := 39) hx hb dM_take_34 (by decide) (fun _ => ?_) (fun c34 => absurd c34 (not_not_intro (by decide)))
      refine lv_aload_n hx hb dM_take_39 rfl (lv_at hl 0 rfl) ?_
      refine va_get (D := (dC, dI)) (ci := 1) (v := .ref (ad 3)) (C := RM) (T := TM) (N := 11) hx hb hz in_M hown hK hP 0 rfl rfl 7 (by decide) (hz _ kf_M_20) (fun _ h9 => h9) rfl dM_take_40 ?_
      refine lv_aload_n hx hb dM_take_43 rfl (lv_at hl 0 rfl) ?_
      refine va_get (D := (dC, dI)) (ci := 1) (v := .int (nI k)) (C := RM) (T := TM) (N := 11) hx hb hz in_M hown hK hP 0 rfl rfl 6 (by decide) (hz _ kf_M_40) (fun _ h9 => h9) rfl dM_take_44 ?_
      refine lv_iload_n hx hb dM_take_47 rfl (lv_at hl 1 rfl) ?_
      refine zt_iast hx hb hK hP (zm_D had) hS 3 0 rfl rfl (i := k) (by omega) (by decide) dM_take_48 (fun H locs hP _ hS => ?_)
      have hP : va_P (dC, dI) zcl (zm_w ad cI cJ cB lev val (upd chs k (nI a1)) dig est cst (nI 0) D N F k) H := hP
      refine lv_aload_n hx hb dM_take_49 rfl (lv_at hl 0 rfl) ?_
      refine lv_dup hx hb dM_take_50 rfl ?_
      refine va_get (D := (dC, dI)) (ci := 1) (v := .int (nI k)) (C := RM) (T := TM) (N := 11) hx hb hz in_M hown hK hP 0 rfl rfl 6 (by decide) (hz _ kf_M_40) (fun _ h9 => h9) rfl dM_take_51 ?_
      refine lv_iconst (v := nI 1) hx hb dM_take_54 (by decide) ?_
      refine lv_iadd hx hb dM_take_55 ?_
      refine zt_ti (nI_add _ _) ?_
      refine va_put (D := (dC, dI)) (ci := 1) (v := .int (nI (k + 1))) (ty := .int) (C := RM) (T := TM) (N := 11) hx hb hz in_M tyM tyM_ok nmM hown hK hP (zm_D had) hS 0 rfl rfl 6 (by decide) (hz _ kf_M_40) (fun _ h9 => h9) rfl (by decide +kernel) rfl rfl (Nat.le_of_ble_eq_true rfl) dM_take_56 (fun H locs hP _ hS => ?_)
      have hP : va_P (dC, dI) zcl (zm_w ad cI cJ cB lev val (upd chs k (nI a1)) dig est cst (nI 0) D N F (k + 1)) H := hP
      refine lv_aload_n hx hb dM_take_59 rfl (lv_at hl 0 rfl) ?_
      refine va_get (D := (dC, dI)) (ci := 1) (v := .int (nI (k + 1))) (C := RM) (T := TM) (N := 11) hx hb hz in_M hown hK hP 0 rfl rfl 6 (by decide) (hz _ kf_M_40) (fun _ h9 => h9) rfl dM_take_60 ?_
      exact zt_ri hx hb hr hlocks (fun t ht _ => ⟨(nI (k + 1), upd chs k (nI a1), k + 1), rfl, Or.inl ⟨rfl, rfl⟩, by rw [ht]; exact hP, hS.F ht⟩) (hS.2.2) dM_take_63
    · have ecd : zc_take a1 N k = 2 := by unfold zc_take; rw [if_pos hok, if_neg (by omega)]
      rw [ecd]
      refine lv_iconst (v := nI 2) hx hb dM_take_22 (by decide) ?_
      refine lv_goto (tgt := 27) hx hb dM_take_23 (by decide) ?_
      refine va_put (D := (dC, dI)) (ci := 1) (v := .int (nI 2)) (ty := .int) (C := RM) (T := TM) (N := 11) hx hb hz in_M tyM tyM_ok nmM hown hK hP (zm_D had) hS 0 rfl rfl 0 (by decide) (hz _ kf_M_34) (fun _ h9 => h9) rfl (by decide +kernel) rfl rfl (Nat.le_of_ble_eq_true rfl) dM_take_27 (fun H locs hP _ hS => ?_)
      have hP : va_P (dC, dI) zcl (zm_w ad cI cJ cB lev val chs dig est cst (nI 2) D N F k) H := hP
      refine lv_aload_n hx hb dM_take_30 rfl (lv_at hl 0 rfl) ?_
      refine va_get (D := (dC, dI)) (ci := 1) (v := .int (nI 2)) (C := RM) (T := TM) (N := 11) hx hb hz in_M hown hK hP 0 rfl rfl 0 (by decide) (hz _ kf_M_34) (fun _ h9 => h9) rfl dM_take_31 ?_
      refine lv_if_le (tgt := 39) hx hb dM_take_34 (by decide) (fun c34 => absurd c34 (by decide)) (fun _ => ?_)
      refine lv_iconst (v := nI 0) hx hb dM_take_37 (by decide) ?_
      exact zt_ri hx hb hr hlocks (fun t ht _ => ⟨(nI 0, chs, k), rfl, Or.inr ⟨by decide, rfl⟩, by rw [ht]; exact hP, hS.F ht⟩) (hS.2.2) dM_take_38
  · rw [hi0] at c6
    have c6 := of_decide_eq_false c6
    have ecd : zc_take a1 N k = 1 := by unfold zc_take; rw [if_neg c6]
    rw [ecd]
    refine lv_iconst (v := nI 1) hx hb dM_take_9 (by decide) ?_
    refine lv_goto (tgt := 27) hx hb dM_take_10 (by decide) ?_
    refine va_put (D := (dC, dI)) (ci := 1) (v := .int (nI 1)) (ty := .int) (C := RM) (T := TM) (N := 11) hx hb hz in_M tyM tyM_ok nmM hown hK hP (zm_D had) hS 0 rfl rfl 0 (by decide) (hz _ kf_M_34) (fun _ h9 => h9) rfl (by decide +kernel) rfl rfl (Nat.le_of_ble_eq_true rfl) dM_take_27 (fun H locs hP _ hS => ?_)
    have hP : va_P (dC, dI) zcl (zm_w ad cI cJ cB lev val chs dig est cst (nI 1) D N F k) H := hP
    refine lv_aload_n hx hb dM_take_30 rfl (lv_at hl 0 rfl) ?_
    refine va_get (D := (dC, dI)) (ci := 1) (v := .int (nI 1)) (C := RM) (T := TM) (N := 11) hx hb hz in_M hown hK hP 0 rfl rfl 0 (by decide) (hz _ kf_M_34) (fun _ h9 => h9) rfl dM_take_31 ?_
    refine lv_if_le (tgt := 39) hx hb dM_take_34 (by decide) (fun c34 => absurd c34 (by decide)) (fun _ => ?_)
    refine lv_iconst (v := nI 0) hx hb dM_take_37 (by decide) ?_
    exact zt_ri hx hb hr hlocks (fun t ht _ => ⟨(nI 0, chs, k), rfl, Or.inr ⟨by decide, rfl⟩, by rw [ht]; exact hP, hS.F ht⟩) (hS.2.2) dM_take_38
set_option maxHeartbeats 4000000 in
set_option maxRecDepth 100000 in
theorem tM_told (l : Launch) {dC : Nat → ClassId} {dI : Nat → Nat → Nat} {cI cJ cB : ClassId} {ad : Nat → Nat} {lev val chs dig : Nat → Int32} {est cst : Nat → Int64} {code : Int32} {D N F k : Nat} {L V S : Nat → Nat} {p0 p1 : Int32} {sz : Nat} (had : zg_ap ad 7) (hR : zm_R D N F L V lev val dig) (hs : zm_S N k S chs) : zt_Met l yM_told wM_told rM_told (va_Pc [.ref (ad 0), .int p0, .int p1] (zg_C dC dI cI cJ cB (zm_w ad cI cJ cB lev val chs dig est cst code D N F k) sz)) (zg_Q dC dI (fun u : Int64 × (Nat → Int64) × (Nat → Int64) => some (.long u.1)) (fun u => (zb_in p0 N && zb_in p1 3) = true → u.1 = lN (zq_told (zq_es L V D F) (zq_ab L D) (zq_ct (zq_es L V D F) (zq_ab L D) F S k) N p0.toNatClampNeg p1.toNatClampNeg)) (fun u => zm_w ad cI cJ cB lev val chs dig u.2.1 u.2.2 (nI (zc_b (zb_in p0 N && zb_in p1 3))) D N F k) (zg_A ad 7 sz)) 0 0 0 0 (zg_A ad 7 sz) := by
  refine zt_ofW (cc := cM_told) (maxL := 3) (ret := (some .long)) (by decide) rfl ?_
  intro p e s m args below meth c s₁ B hml hout hv
  obtain ⟨rfl, hsz, hP, hK⟩ := hv
  have hx := B.exec
  have hb := B.bytes
  have hr := B.returns
  have hz : ∀ w ∈ zw0, w.before ([.ref (ad 0), .int p0, .int p1] : List Value).toArray s = true := fun w h => atoms_spec (ws := wM_told) B.pre w (List.mem_cons_of_mem _ h)
  have hown : s.vm.findClass RM = some m.cls := findClass_of_methodNamed B.named
  have hlocks := B.notSynchronized
  subst hsz
  have hS : va_S (zg_A ad 7 s.heap.size) s.heap s.heap [] := va_S.rf
  have hl := lv_entry ([.ref (ad 0), .int p0, .int p1]) (n := 3) (Nat.le_of_ble_eq_true rfl)
  rw [lg_entry_eq]
  generalize (lg_sl ([.ref (ad 0), .int p0, .int p1]) ++ List.replicate (3 - (lg_sl ([.ref (ad 0), .int p0, .int p1])).length) Slot.unset).toArray = ls at hl ⊢
  have hl : lv_has ls 3 [(0, .ref (ad 0)), (1, .int p0), (2, .int p1)] := hl
  have hR9 := hR
  obtain ⟨hD, hL, hN, hN5, hF, hVb, hlev, hval, hdg⟩ := hR
  refine lv_aload_n hx hb dM_told_0 rfl (lv_at hl 0 rfl) ?_
  refine lv_aload_n hx hb dM_told_1 rfl (lv_at hl 0 rfl) ?_
  refine lv_iload_n hx hb dM_told_2 rfl (lv_at hl 1 rfl) ?_
  refine zt_callRi (zg_run (rest := [.ref (ad 0)]) hx hb hml hown (tM_isView l hN5) (wcM_71 hz (Nat.le_of_ble_eq_true rfl) (Nat.le_of_ble_eq_true rfl)) (hz _ ki_M_isView) (hz _ ks_M_isView) (hz _ kC_M_isView) hP hK rfl (q0 := 0) rfl rfl hl.1 rfl (Nat.le_of_ble_eq_true rfl) dM_told_3 ⟨Nat.le_of_ble_eq_true rfl, Nat.le_of_ble_eq_true rfl⟩) ?_
  refine zb_eq (tgt := 22) hx hb dM_told_6 (by decide) (fun c6 => ?_) (fun c6 => ?_)
  · have ecd : zc_b (zb_in p0 N && zb_in p1 3) = 1 := if_neg (by rw [c6, Bool.false_and]; exact Bool.false_ne_true)
    rw [ecd]
    refine lv_iconst (v := nI 1) hx hb dM_told_22 (by decide) ?_
    refine va_put (D := (dC, dI)) (ci := 1) (v := .int (nI 1)) (ty := .int) (C := RM) (T := TM) (N := 11) hx hb hz in_M tyM tyM_ok nmM hown hK hP (zm_D had) hS 0 rfl rfl 0 (by decide) (hz _ kf_M_34) (fun _ h9 => h9) rfl (by decide +kernel) rfl rfl (Nat.le_of_ble_eq_true rfl) dM_told_23 (fun H locs hP _ hS => ?_)
    have hP : va_P (dC, dI) zcl (zm_w ad cI cJ cB lev val chs dig est cst (nI 1) D N F k) H := hP
    refine lv_aload_n hx hb dM_told_26 rfl (lv_at hl 0 rfl) ?_
    refine va_get (D := (dC, dI)) (ci := 1) (v := .int (nI 1)) (C := RM) (T := TM) (N := 11) hx hb hz in_M hown hK hP 0 rfl rfl 0 (by decide) (hz _ kf_M_34) (fun _ h9 => h9) rfl dM_told_27 ?_
    refine lv_if_le (tgt := 35) hx hb dM_told_30 (by decide) (fun c30 => absurd c30 (by decide)) (fun _ => ?_)
    refine lv_lconst (v := lN 0) hx hb dM_told_33 (by decide) ?_
    exact zt_rl hx hb hr hlocks (fun t ht _ => ⟨(lN 0, est, cst), rfl, fun q => absurd q (by rw [c6, Bool.false_and]; exact Bool.false_ne_true), by rw [ht]; exact hP, hS.F ht⟩) (hS.2.2) dM_told_34
  · rcases pk_ix p1 (n := 3) (by decide) with hp | hp | ⟨j, hj, rfl⟩
    · refine lv_iload_n hx hb dM_told_9 rfl (lv_at hl 2 rfl) ?_
      refine lv_if_lt (tgt := 22) hx hb dM_told_10 (by decide) (fun _ => ?_) (fun c10 => absurd c10 (not_not_intro hp))
      have ecd : zc_b (zb_in p0 N && zb_in p1 3) = 1 := if_neg (fun q => zb_neg hp (by simp at q; exact q.2))
      rw [ecd]
      refine lv_iconst (v := nI 1) hx hb dM_told_22 (by decide) ?_
      refine va_put (D := (dC, dI)) (ci := 1) (v := .int (nI 1)) (ty := .int) (C := RM) (T := TM) (N := 11) hx hb hz in_M tyM tyM_ok nmM hown hK hP (zm_D had) hS 0 rfl rfl 0 (by decide) (hz _ kf_M_34) (fun _ h9 => h9) rfl (by decide +kernel) rfl rfl (Nat.le_of_ble_eq_true rfl) dM_told_23 (fun H locs hP _ hS => ?_)
      have hP : va_P (dC, dI) zcl (zm_w ad cI cJ cB lev val chs dig est cst (nI 1) D N F k) H := hP
      refine lv_aload_n hx hb dM_told_26 rfl (lv_at hl 0 rfl) ?_
      refine va_get (D := (dC, dI)) (ci := 1) (v := .int (nI 1)) (C := RM) (T := TM) (N := 11) hx hb hz in_M hown hK hP 0 rfl rfl 0 (by decide) (hz _ kf_M_34) (fun _ h9 => h9) rfl dM_told_27 ?_
      refine lv_if_le (tgt := 35) hx hb dM_told_30 (by decide) (fun c30 => absurd c30 (by decide)) (fun _ => ?_)
      refine lv_lconst (v := lN 0) hx hb dM_told_33 (by decide) ?_
      exact zt_rl hx hb hr hlocks (fun t ht _ => ⟨(lN 0, est, cst), rfl, fun q => absurd q (fun q => zb_neg hp (by simp at q; exact q.2)), by rw [ht]; exact hP, hS.F ht⟩) (hS.2.2) dM_told_34
    · refine lv_iload_n hx hb dM_told_9 rfl (lv_at hl 2 rfl) ?_
      refine lv_if_lt (tgt := 22) hx hb dM_told_10 (by decide) (fun c10 => absurd c10 (fun q => Int32.lt_irrefl (Int32.lt_of_lt_of_le q (Int32.le_trans (show (0 : Int32) ≤ nI 3 by decide) hp)))) (fun _ => ?_)
      refine lv_iload_n hx hb dM_told_13 rfl (lv_at hl 2 rfl) ?_
      refine lv_iconst (v := nI 2) hx hb dM_told_14 (by decide) ?_
      refine lv_icmp_gt (tgt := 22) hx hb dM_told_15 (by decide) (fun _ => ?_) (fun c15 => absurd c15 (not_not_intro (Int32.lt_of_lt_of_le (show nI 2 < nI 3 by decide) hp)))
      have ecd : zc_b (zb_in p0 N && zb_in p1 3) = 1 := if_neg (fun q => zb_bigI hp (by decide) (by simp at q; exact q.2))
      rw [ecd]
      refine lv_iconst (v := nI 1) hx hb dM_told_22 (by decide) ?_
      refine va_put (D := (dC, dI)) (ci := 1) (v := .int (nI 1)) (ty := .int) (C := RM) (T := TM) (N := 11) hx hb hz in_M tyM tyM_ok nmM hown hK hP (zm_D had) hS 0 rfl rfl 0 (by decide) (hz _ kf_M_34) (fun _ h9 => h9) rfl (by decide +kernel) rfl rfl (Nat.le_of_ble_eq_true rfl) dM_told_23 (fun H locs hP _ hS => ?_)
      have hP : va_P (dC, dI) zcl (zm_w ad cI cJ cB lev val chs dig est cst (nI 1) D N F k) H := hP
      refine lv_aload_n hx hb dM_told_26 rfl (lv_at hl 0 rfl) ?_
      refine va_get (D := (dC, dI)) (ci := 1) (v := .int (nI 1)) (C := RM) (T := TM) (N := 11) hx hb hz in_M hown hK hP 0 rfl rfl 0 (by decide) (hz _ kf_M_34) (fun _ h9 => h9) rfl dM_told_27 ?_
      refine lv_if_le (tgt := 35) hx hb dM_told_30 (by decide) (fun c30 => absurd c30 (by decide)) (fun _ => ?_)
      refine lv_lconst (v := lN 0) hx hb dM_told_33 (by decide) ?_
      exact zt_rl hx hb hr hlocks (fun t ht _ => ⟨(lN 0, est, cst), rfl, fun q => absurd q (fun q => zb_bigI hp (by decide) (by simp at q; exact q.2)), by rw [ht]; exact hP, hS.F ht⟩) (hS.2.2) dM_told_34
    · have ecd : zc_b (zb_in p0 N && zb_in (nI j) 3) = 0 := by rw [c6, zb_t hj (by decide)]; rfl
      rw [ecd]
      obtain ⟨v, hv, rfl⟩ := zb_of c6 (by omega)
      refine lv_iload_n hx hb dM_told_9 rfl (lv_at hl 2 rfl) ?_
      refine lv_if_lt (tgt := 22) hx hb dM_told_10 (by decide) (fun c10 => absurd c10 (nI_pos (by omega))) (fun _ => ?_)
      refine lv_iload_n hx hb dM_told_13 rfl (lv_at hl 2 rfl) ?_
      refine lv_iconst (v := nI 2) hx hb dM_told_14 (by decide) ?_
      refine zj_gt (tgt := 22) hx hb dM_told_15 (by decide) (by omega) (by omega) (fun c15 => absurd c15 (by omega)) (fun _ => ?_)
      refine lv_iconst (v := nI 0) hx hb dM_told_18 (by decide) ?_
      refine lv_goto (tgt := 23) hx hb dM_told_19 (by decide) ?_
      refine va_put (D := (dC, dI)) (ci := 1) (v := .int (nI 0)) (ty := .int) (C := RM) (T := TM) (N := 11) hx hb hz in_M tyM tyM_ok nmM hown hK hP (zm_D had) hS 0 rfl rfl 0 (by decide) (hz _ kf_M_34) (fun _ h9 => h9) rfl (by decide +kernel) rfl rfl (Nat.le_of_ble_eq_true rfl) dM_told_23 (fun H locs hP _ hS => ?_)
      have hP : va_P (dC, dI) zcl (zm_w ad cI cJ cB lev val chs dig est cst (nI 0) D N F k) H := hP
      refine lv_aload_n hx hb dM_told_26 rfl (lv_at hl 0 rfl) ?_
      refine va_get (D := (dC, dI)) (ci := 1) (v := .int (nI 0)) (C := RM) (T := TM) (N := 11) hx hb hz in_M hown hK hP 0 rfl rfl 0 (by decide) (hz _ kf_M_34) (fun _ h9 => h9) rfl dM_told_27 ?_
      refine lv_if_le (tgt := 35) hx hb dM_told_30 (by decide) (fun _ => ?_) (fun c30 => absurd c30 (not_not_intro (by decide)))
      refine lv_aload_n hx hb dM_told_35 rfl (lv_at hl 0 rfl) ?_
      refine zg_callW (zg_runC (rest := []) hx hb hml hown (tM_reckon l had hR9 hs) (wcM_74 hz (Nat.le_of_ble_eq_true rfl) (Nat.le_of_ble_eq_true rfl)) (hz _ ki_M_reckon) (hz _ ks_M_reckon) (hz _ kC_M_reckon) hP hK rfl (q0 := 0) rfl rfl hl.1 rfl (Nat.le_of_ble_eq_true rfl) dM_told_36 ⟨Nat.le_of_ble_eq_true rfl, Nat.le_of_ble_eq_true rfl⟩) hS (fun q h => zg_A_up hS.1 h) (fun q h => zg_A_up hS.1 h) (fun ⟨f9, g9⟩ H locs hu hP hz9 hk9 hS => ?_)
      refine W.eq (g2 := F0 m 39 ls []) rfl ?_
      obtain ⟨hf, hg⟩ := hu
      have hcl : (nI v).toNatClampNeg = v := nI_clamp (by omega)
      have hcj : (nI j).toNatClampNeg = j := nI_clamp (by omega)
      rcases (show j = 0 ∨ j = 1 ∨ j = 2 by omega) with rfl | rfl | rfl
      · refine lv_iload_n hx hb dM_told_39 rfl (lv_at hl 2 rfl) ?_
        refine lv_if_ne (tgt := 52) hx hb dM_told_40 (by decide) (fun c40 => absurd c40 (not_not_intro (by decide))) (fun _ => ?_)
        refine lv_aload_n hx hb dM_told_43 rfl (lv_at hl 0 rfl) ?_
        refine va_get (D := (dC, dI)) (ci := 1) (v := .ref (ad 5)) (C := RM) (T := TM) (N := 11) hx hb hz in_M hown hK hP 0 rfl rfl 9 (by decide) (hz _ kf_M_27) (fun _ h9 => h9) rfl dM_told_44 ?_
        refine lv_iload_n hx hb dM_told_47 rfl (lv_at hl 1 rfl) ?_
        refine zt_lald hx hb hK hP 5 1 rfl rfl (i := v) (by omega) (by decide) (v := (lN (zq_es L V D F v))) (hf v hv) dM_told_48 ?_
        refine lv_goto (tgt := 71) hx hb dM_told_49 (by decide) ?_
        exact zt_rl hx hb hr hlocks (fun t ht _ => ⟨(lN (zq_es L V D F v), f9, g9), rfl, fun _ => by rw [hcl, hcj]; rfl, by rw [ht]; exact hP, hS.F ht⟩) (hS.2.2) dM_told_71
      · refine lv_iload_n hx hb dM_told_39 rfl (lv_at hl 2 rfl) ?_
        refine lv_if_ne (tgt := 52) hx hb dM_told_40 (by decide) (fun _ => ?_) (fun c40 => absurd c40 (by decide))
        refine lv_iload_n hx hb dM_told_52 rfl (lv_at hl 2 rfl) ?_
        refine lv_iconst (v := nI 1) hx hb dM_told_53 (by decide) ?_
        refine zj_ne (tgt := 66) hx hb dM_told_54 (by decide) (by omega) (by omega) (fun c54 => absurd c54 (by decide)) (fun _ => ?_)
        refine lv_aload_n hx hb dM_told_57 rfl (lv_at hl 0 rfl) ?_
        refine va_get (D := (dC, dI)) (ci := 1) (v := .ref (ad 6)) (C := RM) (T := TM) (N := 11) hx hb hz in_M hown hK hP 0 rfl rfl 10 (by decide) (hz _ kf_M_31) (fun _ h9 => h9) rfl dM_told_58 ?_
        refine lv_iload_n hx hb dM_told_61 rfl (lv_at hl 1 rfl) ?_
        refine zt_lald hx hb hK hP 6 1 rfl rfl (i := v) (by omega) (by decide) (v := (lN (zq_ct (zq_es L V D F) (zq_ab L D) F S k v))) (hg v hv) dM_told_62 ?_
        refine lv_goto (tgt := 71) hx hb dM_told_63 (by decide) ?_
        exact zt_rl hx hb hr hlocks (fun t ht _ => ⟨(lN (zq_ct (zq_es L V D F) (zq_ab L D) F S k v), f9, g9), rfl, fun _ => by rw [hcl, hcj]; rfl, by rw [ht]; exact hP, hS.F ht⟩) (hS.2.2) dM_told_71
      · refine lv_iload_n hx hb dM_told_39 rfl (lv_at hl 2 rfl) ?_
        refine lv_if_ne (tgt := 52) hx hb dM_told_40 (by decide) (fun _ => ?_) (fun c40 => absurd c40 (by decide))
        refine lv_iload_n hx hb dM_told_52 rfl (lv_at hl 2 rfl) ?_
        refine lv_iconst (v := nI 1) hx hb dM_told_53 (by decide) ?_
        refine zj_ne (tgt := 66) hx hb dM_told_54 (by decide) (by omega) (by omega) (fun _ => ?_) (fun c54 => absurd c54 (by decide))
        refine lv_aload_n hx hb dM_told_66 rfl (lv_at hl 0 rfl) ?_
        refine lv_iload_n hx hb dM_told_67 rfl (lv_at hl 1 rfl) ?_
        refine zt_callRl (zg_run (rest := []) hx hb hml hown (tM_benefitOf l (fun w hw => ⟨hf w hw, zq_es_le L V D F w⟩) (fun w hw => ⟨hg w hw, zq_ct_le _ _ _ _ _ _⟩) hR9 hv) (wcM_77 hz (Nat.le_of_ble_eq_true rfl) (Nat.le_of_ble_eq_true rfl)) (hz _ ki_M_benefitOf) (hz _ ks_M_benefitOf) (hz _ kC_M_benefitOf) hP hK rfl (q0 := 0) rfl rfl hl.1 rfl (Nat.le_of_ble_eq_true rfl) dM_told_68 ⟨Nat.le_of_ble_eq_true rfl, Nat.le_of_ble_eq_true rfl⟩) ?_
        exact zt_rl hx hb hr hlocks (fun t ht _ => ⟨(lN (zq_bn (zq_es L V D F) (zq_ab L D) (zq_ct (zq_es L V D F) (zq_ab L D) F S k) N v), f9, g9), rfl, fun _ => by rw [hcl, hcj]; rfl, by rw [ht]; exact hP, hS.F ht⟩) (hS.2.2) dM_told_71
set_option maxHeartbeats 4000000 in
set_option maxRecDepth 100000 in
theorem tM_total (l : Launch) {dC : Nat → ClassId} {dI : Nat → Nat → Nat} {cI cJ cB : ClassId} {ad : Nat → Nat} {lev val chs dig : Nat → Int32} {est cst : Nat → Int64} {code : Int32} {D N F k : Nat} {L V S : Nat → Nat} {sz : Nat} (had : zg_ap ad 7) (hR : zm_R D N F L V lev val dig) (hs : zm_S N k S chs) : zt_Met l yM_total wM_total rM_total (va_Pc [.ref (ad 0)] (zg_C dC dI cI cJ cB (zm_w ad cI cJ cB lev val chs dig est cst code D N F k) sz)) (zg_Q dC dI (fun u : (Nat → Int64) × (Nat → Int64) => some (.long (lN (zq_sm (zq_ct (zq_es L V D F) (zq_ab L D) F S k) N)))) (fun u => True) (fun u => zm_w ad cI cJ cB lev val chs dig u.1 u.2 (nI 0) D N F k) (zg_A ad 7 sz)) 0 0 0 0 (zg_A ad 7 sz) := by
  refine zt_ofW (cc := cM_total) (maxL := 4) (ret := (some .long)) (by decide) rfl ?_
  intro p e s m args below meth c s₁ B hml hout hv
  obtain ⟨rfl, hsz, hP, hK⟩ := hv
  have hx := B.exec
  have hb := B.bytes
  have hr := B.returns
  have hz : ∀ w ∈ zw0, w.before ([.ref (ad 0)] : List Value).toArray s = true := fun w h => atoms_spec (ws := wM_total) B.pre w (List.mem_cons_of_mem _ h)
  have hown : s.vm.findClass RM = some m.cls := findClass_of_methodNamed B.named
  have hlocks := B.notSynchronized
  subst hsz
  have hS : va_S (zg_A ad 7 s.heap.size) s.heap s.heap [] := va_S.rf
  have hl := lv_entry ([.ref (ad 0)]) (n := 4) (Nat.le_of_ble_eq_true rfl)
  rw [lg_entry_eq]
  generalize (lg_sl ([.ref (ad 0)]) ++ List.replicate (4 - (lg_sl ([.ref (ad 0)])).length) Slot.unset).toArray = ls at hl ⊢
  have hl : lv_has ls 4 [(0, .ref (ad 0))] := hl
  have hR9 := hR
  obtain ⟨hD, hL, hN, hN5, hF, hVb, hlev, hval, hdg⟩ := hR
  refine lv_aload_n hx hb dM_total_0 rfl (lv_at hl 0 rfl) ?_
  refine lv_iconst (v := nI 0) hx hb dM_total_1 (by decide) ?_
  refine va_put (D := (dC, dI)) (ci := 1) (v := .int (nI 0)) (ty := .int) (C := RM) (T := TM) (N := 11) hx hb hz in_M tyM tyM_ok nmM hown hK hP (zm_D had) hS 0 rfl rfl 0 (by decide) (hz _ kf_M_34) (fun _ h9 => h9) rfl (by decide +kernel) rfl rfl (Nat.le_of_ble_eq_true rfl) dM_total_2 (fun H locs hP _ hS => ?_)
  have hP : va_P (dC, dI) zcl (zm_w ad cI cJ cB lev val chs dig est cst (nI 0) D N F k) H := hP
  refine lv_aload_n hx hb dM_total_5 rfl (lv_at hl 0 rfl) ?_
  refine zg_callW (zg_runC (rest := []) hx hb hml hown (tM_reckon l had hR9 hs) (wcM_74 hz (Nat.le_of_ble_eq_true rfl) (Nat.le_of_ble_eq_true rfl)) (hz _ ki_M_reckon) (hz _ ks_M_reckon) (hz _ kC_M_reckon) hP hK rfl (q0 := 0) rfl rfl hl.1 rfl (Nat.le_of_ble_eq_true rfl) dM_total_6 ⟨Nat.le_of_ble_eq_true rfl, Nat.le_of_ble_eq_true rfl⟩) hS (fun q h => zg_A_up hS.1 h) (fun q h => zg_A_up hS.1 h) (fun ⟨f9, g9⟩ H locs hu hP hz9 hk9 hS => ?_)
  refine W.eq (g2 := F0 m 9 ls []) rfl ?_
  obtain ⟨hf, hg⟩ := hu
  refine lv_lconst (v := lN 0) hx hb dM_total_9 (by decide) ?_
  refine lv_lstore_n (lv' := [(1, .long (lN 0)), (0, .ref (ad 0))]) hx hb dM_total_10 rfl hl (by decide) rfl (fun ls hl => ?_)
  refine lv_iconst (v := nI 0) hx hb dM_total_11 (by decide) ?_
  refine lv_istore_n (lv' := [(3, .int (nI 0)), (1, .long (lN 0)), (0, .ref (ad 0))]) hx hb dM_total_12 rfl hl (by decide) rfl (fun ls hl => ?_)
  have loop : ∀ (n i : Nat), i + n = N → ∀ ls : Array Slot, lv_has ls 4 [(0, .ref (ad 0)), (1, .long (lN (zq_sm (zq_ct (zq_es L V D F) (zq_ab L D) F S k) i))), (3, .int (nI i))] → W p l e (headSpec wM_total rM_total).room s m ([.ref (ad 0)] : List Value).toArray below meth c H locs 0 0 (zt_MQ below (zg_Q dC dI (fun u : (Nat → Int64) × (Nat → Int64) => some (.long (lN (zq_sm (zq_ct (zq_es L V D F) (zq_ab L D) F S k) N)))) (fun u => True) (fun u => zm_w ad cI cJ cB lev val chs dig u.1 u.2 (nI 0) D N F k) (zg_A ad 7 s.heap.size)) ([.ref (ad 0)] : List Value).toArray s 0 0 0 0 (zg_A ad 7 s.heap.size)) (F0 m 13 ls []) := by
    intro n
    induction n with
    | zero =>
      intro i hi ls hl
      refine lv_iload_n hx hb dM_total_13 rfl (lv_at hl 2 rfl) ?_
      refine lv_aload_n hx hb dM_total_14 rfl (lv_at hl 0 rfl) ?_
      refine va_get (D := (dC, dI)) (ci := 1) (v := .int (nI N)) (C := RM) (T := TM) (N := 11) hx hb hz in_M hown hK hP 0 rfl rfl 5 (by decide) (hz _ kf_M_16) (fun _ h9 => h9) rfl dM_total_15 ?_
      refine zj_ge (tgt := 36) hx hb dM_total_18 (by decide) (by omega) (by omega) (fun _ => ?_) (fun c18 => absurd c18 (by omega))
      refine lv_lload_n hx hb dM_total_36 rfl (lv_at hl 1 rfl) ?_
      have e1 : i = N := by omega
      subst e1
      exact zt_rl hx hb hr hlocks (fun t ht _ => ⟨(f9, g9), rfl, trivial, by rw [ht]; exact hP, hS.F ht⟩) (hS.2.2) dM_total_37
    | succ n ih =>
      intro i hi ls hl
      refine lv_iload_n hx hb dM_total_13 rfl (lv_at hl 2 rfl) ?_
      refine lv_aload_n hx hb dM_total_14 rfl (lv_at hl 0 rfl) ?_
      refine va_get (D := (dC, dI)) (ci := 1) (v := .int (nI N)) (C := RM) (T := TM) (N := 11) hx hb hz in_M hown hK hP 0 rfl rfl 5 (by decide) (hz _ kf_M_16) (fun _ h9 => h9) rfl dM_total_15 ?_
      refine zj_ge (tgt := 36) hx hb dM_total_18 (by decide) (by omega) (by omega) (fun c18 => absurd c18 (by omega)) (fun _ => ?_)
      refine lv_lload_n hx hb dM_total_21 rfl (lv_at hl 1 rfl) ?_
      refine lv_aload_n hx hb dM_total_22 rfl (lv_at hl 0 rfl) ?_
      refine va_get (D := (dC, dI)) (ci := 1) (v := .ref (ad 6)) (C := RM) (T := TM) (N := 11) hx hb hz in_M hown hK hP 0 rfl rfl 10 (by decide) (hz _ kf_M_31) (fun _ h9 => h9) rfl dM_total_23 ?_
      refine lv_iload_n hx hb dM_total_26 rfl (lv_at hl 2 rfl) ?_
      refine zt_lald hx hb hK hP 6 1 rfl rfl (i := i) (by omega) (by decide) (v := (lN (zq_ct (zq_es L V D F) (zq_ab L D) F S k i))) (hg i (by omega)) dM_total_27 ?_
      refine lv_ladd hx hb dM_total_28 ?_
      refine zt_tl (lN_add _ _) ?_
      refine lv_lstore_n (lv' := [(1, .long (lN ((zq_sm (zq_ct (zq_es L V D F) (zq_ab L D) F S k) i) + (zq_ct (zq_es L V D F) (zq_ab L D) F S k i)))), (0, .ref (ad 0)), (3, .int (nI i))]) hx hb dM_total_29 rfl hl (by decide) rfl (fun ls hl => ?_)
      refine lv_iinc (v := nI (i + 1)) (lv' := [(3, .int (nI (i + 1))), (1, .long (lN ((zq_sm (zq_ct (zq_es L V D F) (zq_ab L D) F S k) i) + (zq_ct (zq_es L V D F) (zq_ab L D) F S k i)))), (0, .ref (ad 0))]) hx hb dM_total_30 hl (k := 2) rfl (nI_1 _) (by decide) rfl (fun ls hl => ?_)
      refine lv_goto (tgt := 13) hx hb dM_total_33 (by decide) ?_
      exact ih (i + 1) (by omega) ls (lv_sub hl [2, 1, 0] rfl)
  exact loop N 0 (by omega) ls (lv_sub hl [2, 1, 0] rfl)
set_option maxHeartbeats 4000000 in
set_option maxRecDepth 100000 in
theorem tM_step (l : Launch) {dC : Nat → ClassId} {dI : Nat → Nat → Nat} {cI cJ cB : ClassId} {ad : Nat → Nat} {lev val chs dig : Nat → Int32} {est cst : Nat → Int64} {code : Int32} {D N F k : Nat} {L V S : Nat → Nat} {sz : Nat} (had : zg_ap ad 7) (hR : zm_R D N F L V lev val dig) (hs : zm_S N k S chs) : zt_Met l yM_step wM_step rM_step (va_Pc [.ref (ad 0)] (zg_C dC dI cI cJ cB (zm_w ad cI cJ cB lev val chs dig est cst code D N F k) sz)) (zg_Q dC dI (fun u : Int32 × (Nat → Int64) × (Nat → Int64) × (Nat → Int32) × Nat => some (.int u.1)) (fun u => (zc_st k = 0 ∧ u.1 = nI (zq_pick D N F L V k S) - 1 ∧ u.2.2.2.2 = (zq_go (zq_pick D N F L V) 1 k S).1 ∧ zm_S N (zq_go (zq_pick D N F L V) 1 k S).1 (zq_go (zq_pick D N F L V) 1 k S).2 u.2.2.2.1) ∨ (zc_st k ≠ 0 ∧ u.2.2.2 = (chs, k))) (fun u => zm_w ad cI cJ cB lev val u.2.2.2.1 dig u.2.1 u.2.2.1 (nI (zc_st k)) D N F u.2.2.2.2) (zg_A ad 7 sz)) 0 0 0 0 (zg_A ad 7 sz) := by
  refine zt_ofW (cc := cM_step) (maxL := 1) (ret := (some .int)) (by decide) rfl ?_
  intro p e s m args below meth c s₁ B hml hout hv
  obtain ⟨rfl, hsz, hP, hK⟩ := hv
  have hx := B.exec
  have hb := B.bytes
  have hr := B.returns
  have hz : ∀ w ∈ zw0, w.before ([.ref (ad 0)] : List Value).toArray s = true := fun w h => atoms_spec (ws := wM_step) B.pre w (List.mem_cons_of_mem _ h)
  have hown : s.vm.findClass RM = some m.cls := findClass_of_methodNamed B.named
  have hlocks := B.notSynchronized
  subst hsz
  have hS : va_S (zg_A ad 7 s.heap.size) s.heap s.heap [] := va_S.rf
  have hl := lv_entry ([.ref (ad 0)]) (n := 1) (Nat.le_of_ble_eq_true rfl)
  rw [lg_entry_eq]
  generalize (lg_sl ([.ref (ad 0)]) ++ List.replicate (1 - (lg_sl ([.ref (ad 0)])).length) Slot.unset).toArray = ls at hl ⊢
  have hl : lv_has ls 1 [(0, .ref (ad 0))] := hl
  have hR9 := hR
  obtain ⟨hD, hL, hN, hN5, hF, hVb, hlev, hval, hdg⟩ := hR
  have hk16 := hs.1
  refine lv_aload_n hx hb dM_step_0 rfl (lv_at hl 0 rfl) ?_
  refine lv_aload_n hx hb dM_step_1 rfl (lv_at hl 0 rfl) ?_
  refine va_get (D := (dC, dI)) (ci := 1) (v := .int (nI k)) (C := RM) (T := TM) (N := 11) hx hb hz in_M hown hK hP 0 rfl rfl 6 (by decide) (hz _ kf_M_40) (fun _ h9 => h9) rfl dM_step_2 ?_
  refine lv_bipush (v := nI 16) hx hb dM_step_5 (by decide) ?_
  refine zj_ne (tgt := 14) hx hb dM_step_7 (by decide) (by omega) (by omega) (fun c7 => ?_) (fun c7 => ?_)
  · have ecd : zc_st k = 0 := by unfold zc_st; rw [if_pos (by omega)]
    rw [ecd]
    refine lv_iconst (v := nI 0) hx hb dM_step_14 (by decide) ?_
    refine va_put (D := (dC, dI)) (ci := 1) (v := .int (nI 0)) (ty := .int) (C := RM) (T := TM) (N := 11) hx hb hz in_M tyM tyM_ok nmM hown hK hP (zm_D had) hS 0 rfl rfl 0 (by decide) (hz _ kf_M_34) (fun _ h9 => h9) rfl (by decide +kernel) rfl rfl (Nat.le_of_ble_eq_true rfl) dM_step_15 (fun H locs hP _ hS => ?_)
    have hP : va_P (dC, dI) zcl (zm_w ad cI cJ cB lev val chs dig est cst (nI 0) D N F k) H := hP
    refine lv_aload_n hx hb dM_step_18 rfl (lv_at hl 0 rfl) ?_
    refine va_get (D := (dC, dI)) (ci := 1) (v := .int (nI 0)) (C := RM) (T := TM) (N := 11) hx hb hz in_M hown hK hP 0 rfl rfl 0 (by decide) (hz _ kf_M_34) (fun _ h9 => h9) rfl dM_step_19 ?_
    refine lv_if_le (tgt := 29) hx hb dM_step_22 (by decide) (fun _ => ?_) (fun c22 => absurd c22 (not_not_intro (by decide)))
    refine lv_aload_n hx hb dM_step_29 rfl (lv_at hl 0 rfl) ?_
    refine zg_callW (zg_runC (rest := []) hx hb hml hown (tM_choosesOne l had hR9 hs (by omega)) (wcM_80 hz (Nat.le_of_ble_eq_true rfl) (Nat.le_of_ble_eq_true rfl)) (hz _ ki_M_choosesOne) (hz _ ks_M_choosesOne) (hz _ kC_M_choosesOne) hP hK rfl (q0 := 0) rfl rfl hl.1 rfl (Nat.le_of_ble_eq_true rfl) dM_step_30 ⟨Nat.le_of_ble_eq_true rfl, Nat.le_of_ble_eq_true rfl⟩) hS (fun q h => zg_A_up hS.1 h) (fun q h => zg_A_up hS.1 h) (fun ⟨f9, g9, h9⟩ H locs hu hP hz9 hk9 hS => ?_)
    refine W.eq (g2 := F0 m 33 ls [.int (nI (zq_pick D N F L V k S) - 1)]) rfl ?_
    exact zt_ri hx hb hr hlocks (fun t ht _ => ⟨(nI (zq_pick D N F L V k S) - 1, f9, g9, h9, (zq_go (zq_pick D N F L V) 1 k S).1), rfl, Or.inl ⟨rfl, rfl, rfl, hu⟩, by rw [ht]; exact hP, hS.F ht⟩) (hS.2.2) dM_step_33
  · have ecd : zc_st k = 1 := by unfold zc_st; rw [if_neg (by omega)]
    rw [ecd]
    refine lv_iconst (v := nI 1) hx hb dM_step_10 (by decide) ?_
    refine lv_goto (tgt := 15) hx hb dM_step_11 (by decide) ?_
    refine va_put (D := (dC, dI)) (ci := 1) (v := .int (nI 1)) (ty := .int) (C := RM) (T := TM) (N := 11) hx hb hz in_M tyM tyM_ok nmM hown hK hP (zm_D had) hS 0 rfl rfl 0 (by decide) (hz _ kf_M_34) (fun _ h9 => h9) rfl (by decide +kernel) rfl rfl (Nat.le_of_ble_eq_true rfl) dM_step_15 (fun H locs hP _ hS => ?_)
    have hP : va_P (dC, dI) zcl (zm_w ad cI cJ cB lev val chs dig est cst (nI 1) D N F k) H := hP
    refine lv_aload_n hx hb dM_step_18 rfl (lv_at hl 0 rfl) ?_
    refine va_get (D := (dC, dI)) (ci := 1) (v := .int (nI 1)) (C := RM) (T := TM) (N := 11) hx hb hz in_M hown hK hP 0 rfl rfl 0 (by decide) (hz _ kf_M_34) (fun _ h9 => h9) rfl dM_step_19 ?_
    refine lv_if_le (tgt := 29) hx hb dM_step_22 (by decide) (fun c22 => absurd c22 (by decide)) (fun _ => ?_)
    refine lv_iconst (v := nI 0) hx hb dM_step_25 (by decide) ?_
    refine lv_goto (tgt := 33) hx hb dM_step_26 (by decide) ?_
    exact zt_ri hx hb hr hlocks (fun t ht _ => ⟨(nI 0, est, cst, chs, k), rfl, Or.inr ⟨by decide, rfl⟩, by rw [ht]; exact hP, hS.F ht⟩) (hS.2.2) dM_step_33
set_option maxHeartbeats 4000000 in
set_option maxRecDepth 100000 in
theorem tM_choose (l : Launch) {dC : Nat → ClassId} {dI : Nat → Nat → Nat} {cI cJ cB : ClassId} {ad : Nat → Nat} {lev val chs dig : Nat → Int32} {est cst : Nat → Int64} {code : Int32} {D N F k : Nat} {L V S : Nat → Nat} {p0 : Int32} {sz : Nat} (had : zg_ap ad 7) (hR : zm_R D N F L V lev val dig) (hs : zm_S N k S chs) : zt_Met l yM_choose wM_choose rM_choose (va_Pc [.ref (ad 0), .int p0] (zg_C dC dI cI cJ cB (zm_w ad cI cJ cB lev val chs dig est cst code D N F k) sz)) (zg_Q dC dI (fun u : Int32 × (Nat → Int64) × (Nat → Int64) × (Nat → Int32) × Nat => some (.int u.1)) (fun u => (zc_cho (zn p0) = 0 ∧ u.1 = nI (zq_go (zq_pick D N F L V) (zn p0 - k) k S).1 ∧ u.2.2.2.2 = (zq_go (zq_pick D N F L V) (zn p0 - k) k S).1 ∧ zm_S N (zq_go (zq_pick D N F L V) (zn p0 - k) k S).1 (zq_go (zq_pick D N F L V) (zn p0 - k) k S).2 u.2.2.2.1) ∨ (zc_cho (zn p0) ≠ 0 ∧ u.2.2.2 = (chs, k))) (fun u => zm_w ad cI cJ cB lev val u.2.2.2.1 dig u.2.1 u.2.2.1 (nI (zc_cho (zn p0))) D N F u.2.2.2.2) (zg_A ad 7 sz)) 0 0 0 0 (zg_A ad 7 sz) := by
  generalize ha1 : zn p0 = a1
  refine zt_ofW (cc := cM_choose) (maxL := 3) (ret := (some .int)) (by decide) rfl ?_
  intro p e s m args below meth c s₁ B hml hout hv
  obtain ⟨rfl, hsz, hP, hK⟩ := hv
  have hx := B.exec
  have hb := B.bytes
  have hr := B.returns
  have hz : ∀ w ∈ zw0, w.before ([.ref (ad 0), .int p0] : List Value).toArray s = true := fun w h => atoms_spec (ws := wM_choose) B.pre w (List.mem_cons_of_mem _ h)
  have hown : s.vm.findClass RM = some m.cls := findClass_of_methodNamed B.named
  have hlocks := B.notSynchronized
  subst hsz
  have hS : va_S (zg_A ad 7 s.heap.size) s.heap s.heap [] := va_S.rf
  have hl := lv_entry ([.ref (ad 0), .int p0]) (n := 3) (Nat.le_of_ble_eq_true rfl)
  rw [lg_entry_eq]
  generalize (lg_sl ([.ref (ad 0), .int p0]) ++ List.replicate (3 - (lg_sl ([.ref (ad 0), .int p0])).length) Slot.unset).toArray = ls at hl ⊢
  have hl : lv_has ls 3 [(0, .ref (ad 0)), (1, .int p0)] := hl
  have hR9 := hR
  obtain ⟨hD, hL, hN, hN5, hF, hVb, hlev, hval, hdg⟩ := hR
  rcases zn_cases p0 with ⟨h0, e0⟩ | ⟨n, hn, rfl, e0⟩
  · have ea : a1 = 2 ^ 31 := ha1.symm.trans e0
    refine lv_aload_n hx hb dM_choose_0 rfl (lv_at hl 0 rfl) ?_
    refine lv_iload_n hx hb dM_choose_1 rfl (lv_at hl 1 rfl) ?_
    refine lv_if_lt (tgt := 11) hx hb dM_choose_2 (by decide) (fun _ => ?_) (fun c2 => absurd c2 (not_not_intro h0))
    have ecd : zc_cho a1 = 1 := by unfold zc_cho; rw [if_neg (by omega)]
    rw [ecd]
    refine lv_iconst (v := nI 1) hx hb dM_choose_11 (by decide) ?_
    refine lv_goto (tgt := 16) hx hb dM_choose_12 (by decide) ?_
    refine va_put (D := (dC, dI)) (ci := 1) (v := .int (nI 1)) (ty := .int) (C := RM) (T := TM) (N := 11) hx hb hz in_M tyM tyM_ok nmM hown hK hP (zm_D had) hS 0 rfl rfl 0 (by decide) (hz _ kf_M_34) (fun _ h9 => h9) rfl (by decide +kernel) rfl rfl (Nat.le_of_ble_eq_true rfl) dM_choose_16 (fun H locs hP _ hS => ?_)
    have hP : va_P (dC, dI) zcl (zm_w ad cI cJ cB lev val chs dig est cst (nI 1) D N F k) H := hP
    refine lv_aload_n hx hb dM_choose_19 rfl (lv_at hl 0 rfl) ?_
    refine va_get (D := (dC, dI)) (ci := 1) (v := .int (nI 1)) (C := RM) (T := TM) (N := 11) hx hb hz in_M hown hK hP 0 rfl rfl 0 (by decide) (hz _ kf_M_34) (fun _ h9 => h9) rfl dM_choose_20 ?_
    refine lv_if_le (tgt := 28) hx hb dM_choose_23 (by decide) (fun c23 => absurd c23 (by decide)) (fun _ => ?_)
    refine lv_iconst (v := nI 0) hx hb dM_choose_26 (by decide) ?_
    exact zt_ri hx hb hr hlocks (fun t ht _ => ⟨(nI 0, est, cst, chs, k), rfl, Or.inr ⟨by decide, rfl⟩, by rw [ht]; exact hP, hS.F ht⟩) (hS.2.2) dM_choose_27
  · have ea : a1 = n := ha1.symm.trans e0
    subst ea
    refine lv_aload_n hx hb dM_choose_0 rfl (lv_at hl 0 rfl) ?_
    refine lv_iload_n hx hb dM_choose_1 rfl (lv_at hl 1 rfl) ?_
    refine lv_if_lt (tgt := 11) hx hb dM_choose_2 (by decide) (fun c2 => absurd c2 (nI_pos hn)) (fun _ => ?_)
    refine lv_iload_n hx hb dM_choose_5 rfl (lv_at hl 1 rfl) ?_
    refine lv_bipush (v := nI 16) hx hb dM_choose_6 (by decide) ?_
    refine zj_le (tgt := 15) hx hb dM_choose_8 (by decide) (by omega) (by omega) (fun c8 => ?_) (fun c8 => ?_)
    · have ecd : zc_cho a1 = 0 := by unfold zc_cho; rw [if_pos (by omega)]
      rw [ecd]
      refine lv_iconst (v := nI 0) hx hb dM_choose_15 (by decide) ?_
      refine va_put (D := (dC, dI)) (ci := 1) (v := .int (nI 0)) (ty := .int) (C := RM) (T := TM) (N := 11) hx hb hz in_M tyM tyM_ok nmM hown hK hP (zm_D had) hS 0 rfl rfl 0 (by decide) (hz _ kf_M_34) (fun _ h9 => h9) rfl (by decide +kernel) rfl rfl (Nat.le_of_ble_eq_true rfl) dM_choose_16 (fun H locs hP _ hS => ?_)
      have hP : va_P (dC, dI) zcl (zm_w ad cI cJ cB lev val chs dig est cst (nI 0) D N F k) H := hP
      refine lv_aload_n hx hb dM_choose_19 rfl (lv_at hl 0 rfl) ?_
      refine va_get (D := (dC, dI)) (ci := 1) (v := .int (nI 0)) (C := RM) (T := TM) (N := 11) hx hb hz in_M hown hK hP 0 rfl rfl 0 (by decide) (hz _ kf_M_34) (fun _ h9 => h9) rfl dM_choose_20 ?_
      refine lv_if_le (tgt := 28) hx hb dM_choose_23 (by decide) (fun _ => ?_) (fun c23 => absurd c23 (not_not_intro (by decide)))
      refine lv_iconst (v := nI 1) hx hb dM_choose_28 (by decide) ?_
      refine lv_istore_n (lv' := [(2, .int (nI 1)), (0, .ref (ad 0)), (1, .int (nI a1))]) hx hb dM_choose_29 rfl hl (by decide) rfl (fun ls hl => ?_)
      have loop : ∀ (r k9 : Nat) (S9 : Nat → Nat), a1 - k9 = r → zq_go (zq_pick D N F L V) r k9 S9 = (zq_go (zq_pick D N F L V) (a1 - k) k S) → ∀ (f g : Nat → Int64) (h : Nat → Int32) (H : Heap) (locs : List Loc), zm_S N k9 S9 h → va_P (dC, dI) zcl (zm_w ad cI cJ cB lev val h dig f g (nI 0) D N F k9) H → va_S (zg_A ad 7 s.heap.size) s.heap H locs → ∀ ls : Array Slot, lv_has ls 3 [(0, .ref (ad 0)), (1, .int (nI a1)), (2, .int (nI 1))] → W p l e (headSpec wM_choose rM_choose).room s m ([.ref (ad 0), .int (nI a1)] : List Value).toArray below meth c H locs 0 0 (zt_MQ below (zg_Q dC dI (fun u : Int32 × (Nat → Int64) × (Nat → Int64) × (Nat → Int32) × Nat => some (.int u.1)) (fun u => (0 = 0 ∧ u.1 = nI (zq_go (zq_pick D N F L V) (a1 - k) k S).1 ∧ u.2.2.2.2 = (zq_go (zq_pick D N F L V) (a1 - k) k S).1 ∧ zm_S N (zq_go (zq_pick D N F L V) (a1 - k) k S).1 (zq_go (zq_pick D N F L V) (a1 - k) k S).2 u.2.2.2.1) ∨ (0 ≠ 0 ∧ u.2.2.2 = (chs, k))) (fun u => zm_w ad cI cJ cB lev val u.2.2.2.1 dig u.2.1 u.2.2.1 (nI 0) D N F u.2.2.2.2) (zg_A ad 7 s.heap.size)) ([.ref (ad 0), .int (nI a1)] : List Value).toArray s 0 0 0 0 (zg_A ad 7 s.heap.size)) (F0 m 30 ls []) := by
        intro r
        induction r with
        | zero =>
          intro k9 S9 hr9 hgo f g h H locs hs9 hP hS ls hl
          have hgo : (k9, S9) = (zq_go (zq_pick D N F L V) (a1 - k) k S) := hgo
          have hk16 := hs9.1
          refine lv_iload_n hx hb dM_choose_30 rfl (lv_at hl 2 rfl) ?_
          refine lv_if_eq (tgt := 58) hx hb dM_choose_31 (by decide) (fun c31 => absurd c31 (by decide)) (fun _ => ?_)
          refine lv_aload_n hx hb dM_choose_34 rfl (lv_at hl 0 rfl) ?_
          refine va_get (D := (dC, dI)) (ci := 1) (v := .int (nI k9)) (C := RM) (T := TM) (N := 11) hx hb hz in_M hown hK hP 0 rfl rfl 6 (by decide) (hz _ kf_M_40) (fun _ h9 => h9) rfl dM_choose_35 ?_
          refine lv_iload_n hx hb dM_choose_38 rfl (lv_at hl 1 rfl) ?_
          refine zj_ge (tgt := 58) hx hb dM_choose_39 (by decide) (by omega) (by omega) (fun _ => ?_) (fun c39 => absurd c39 (by omega))
          refine lv_aload_n hx hb dM_choose_58 rfl (lv_at hl 0 rfl) ?_
          refine va_get (D := (dC, dI)) (ci := 1) (v := .int (nI k9)) (C := RM) (T := TM) (N := 11) hx hb hz in_M hown hK hP 0 rfl rfl 6 (by decide) (hz _ kf_M_40) (fun _ h9 => h9) rfl dM_choose_59 ?_
          rw [← hgo]
          exact zt_ri hx hb hr hlocks (fun t ht _ => ⟨(nI k9, f, g, h, k9), rfl, Or.inl ⟨rfl, rfl, rfl, hs9⟩, by rw [ht]; exact hP, hS.F ht⟩) (hS.2.2) dM_choose_62
        | succ r ih =>
          intro k9 S9 hr9 hgo f g h H locs hs9 hP hS ls hl
          have hgo : (if zq_pick D N F L V k9 S9 = 0 then (k9, S9) else zq_go (zq_pick D N F L V) r (k9 + 1) (zq_up S9 k9 (zq_pick D N F L V k9 S9 - 1))) = (zq_go (zq_pick D N F L V) (a1 - k) k S) := hgo
          have hk16 := hs9.1
          refine lv_iload_n hx hb dM_choose_30 rfl (lv_at hl 2 rfl) ?_
          refine lv_if_eq (tgt := 58) hx hb dM_choose_31 (by decide) (fun c31 => absurd c31 (by decide)) (fun _ => ?_)
          refine lv_aload_n hx hb dM_choose_34 rfl (lv_at hl 0 rfl) ?_
          refine va_get (D := (dC, dI)) (ci := 1) (v := .int (nI k9)) (C := RM) (T := TM) (N := 11) hx hb hz in_M hown hK hP 0 rfl rfl 6 (by decide) (hz _ kf_M_40) (fun _ h9 => h9) rfl dM_choose_35 ?_
          refine lv_iload_n hx hb dM_choose_38 rfl (lv_at hl 1 rfl) ?_
          refine zj_ge (tgt := 58) hx hb dM_choose_39 (by decide) (by omega) (by omega) (fun c39 => absurd c39 (by omega)) (fun _ => ?_)
          refine lv_aload_n hx hb dM_choose_42 rfl (lv_at hl 0 rfl) ?_
          refine zg_callW (zg_runC (rest := []) hx hb hml hown (tM_choosesOne l had hR9 hs9 (by omega)) (wcM_80 hz (Nat.le_of_ble_eq_true rfl) (Nat.le_of_ble_eq_true rfl)) (hz _ ki_M_choosesOne) (hz _ ks_M_choosesOne) (hz _ kC_M_choosesOne) hP hK rfl (q0 := 0) rfl rfl hl.1 rfl (Nat.le_of_ble_eq_true rfl) dM_choose_43 ⟨Nat.le_of_ble_eq_true rfl, Nat.le_of_ble_eq_true rfl⟩) hS (fun q h => zg_A_up hS.1 h) (fun q h => zg_A_up hS.1 h) (fun ⟨f2, g2, h2⟩ H locs hu hP hz9 hk9 hS => ?_)
          refine W.eq (g2 := F0 m 46 ls [.int (nI (zq_pick D N F L V k9 S9) - 1)]) rfl ?_
          have hgo1 : zq_go (zq_pick D N F L V) 1 k9 S9 = if zq_pick D N F L V k9 S9 = 0 then (k9, S9) else (k9 + 1, zq_up S9 k9 (zq_pick D N F L V k9 S9 - 1)) := rfl
          rw [hgo1] at hP hu
          have hpl := zq_pick_le D N F L V k9 S9
          generalize hpk9 : zq_pick D N F L V k9 S9 = b at hpl hgo hP hu ⊢
          rcases b with _ | b
          · rw [if_pos rfl] at hgo hP hu
            refine lv_if_lt (tgt := 53) hx hb dM_choose_46 (by decide) (fun _ => ?_) (fun c46 => absurd c46 (not_not_intro (by decide)))
            refine lv_iconst (v := nI 0) hx hb dM_choose_53 (by decide) ?_
            refine lv_istore_n (lv' := [(2, .int (nI 0)), (0, .ref (ad 0)), (1, .int (nI a1))]) hx hb dM_choose_54 rfl hl (by decide) rfl (fun ls hl => ?_)
            refine lv_goto (tgt := 30) hx hb dM_choose_55 (by decide) ?_
            refine lv_iload_n hx hb dM_choose_30 rfl (lv_at hl 0 rfl) ?_
            refine lv_if_eq (tgt := 58) hx hb dM_choose_31 (by decide) (fun _ => ?_) (fun c31 => absurd c31 (not_not_intro (by decide)))
            refine lv_aload_n hx hb dM_choose_58 rfl (lv_at hl 1 rfl) ?_
            refine va_get (D := (dC, dI)) (ci := 1) (v := .int (nI k9)) (C := RM) (T := TM) (N := 11) hx hb hz in_M hown hK hP 0 rfl rfl 6 (by decide) (hz _ kf_M_40) (fun _ h9 => h9) rfl dM_choose_59 ?_
            rw [← hgo]
            exact zt_ri hx hb hr hlocks (fun t ht _ => ⟨(nI k9, f2, g2, h2, k9), rfl, Or.inl ⟨rfl, rfl, rfl, hu⟩, by rw [ht]; exact hP, hS.F ht⟩) (hS.2.2) dM_choose_62
          · rw [if_neg (Nat.succ_ne_zero b), Nat.add_sub_cancel] at hgo hP hu
            rw [nI_pred]
            refine lv_if_lt (tgt := 53) hx hb dM_choose_46 (by decide) (fun c46 => absurd c46 (nI_pos (by omega))) (fun _ => ?_)
            refine lv_iconst (v := nI 1) hx hb dM_choose_49 (by decide) ?_
            refine lv_goto (tgt := 54) hx hb dM_choose_50 (by decide) ?_
            refine lv_istore_n (lv' := [(2, .int (nI 1)), (0, .ref (ad 0)), (1, .int (nI a1))]) hx hb dM_choose_54 rfl hl (by decide) rfl (fun ls hl => ?_)
            refine lv_goto (tgt := 30) hx hb dM_choose_55 (by decide) ?_
            exact ih (k9 + 1) _ (by omega) hgo f2 g2 h2 H locs hu hP hS ls (lv_sub hl [1, 2, 0] rfl)
      exact loop (a1 - k) k S rfl rfl est cst chs H locs hs hP hS ls (lv_sub hl [1, 2, 0] rfl)
    · have ecd : zc_cho a1 = 1 := by unfold zc_cho; rw [if_neg (by omega)]
      rw [ecd]
      refine lv_iconst (v := nI 1) hx hb dM_choose_11 (by decide) ?_
      refine lv_goto (tgt := 16) hx hb dM_choose_12 (by decide) ?_
      refine va_put (D := (dC, dI)) (ci := 1) (v := .int (nI 1)) (ty := .int) (C := RM) (T := TM) (N := 11) hx hb hz in_M tyM tyM_ok nmM hown hK hP (zm_D had) hS 0 rfl rfl 0 (by decide) (hz _ kf_M_34) (fun _ h9 => h9) rfl (by decide +kernel) rfl rfl (Nat.le_of_ble_eq_true rfl) dM_choose_16 (fun H locs hP _ hS => ?_)
      have hP : va_P (dC, dI) zcl (zm_w ad cI cJ cB lev val chs dig est cst (nI 1) D N F k) H := hP
      refine lv_aload_n hx hb dM_choose_19 rfl (lv_at hl 0 rfl) ?_
      refine va_get (D := (dC, dI)) (ci := 1) (v := .int (nI 1)) (C := RM) (T := TM) (N := 11) hx hb hz in_M hown hK hP 0 rfl rfl 0 (by decide) (hz _ kf_M_34) (fun _ h9 => h9) rfl dM_choose_20 ?_
      refine lv_if_le (tgt := 28) hx hb dM_choose_23 (by decide) (fun c23 => absurd c23 (by decide)) (fun _ => ?_)
      refine lv_iconst (v := nI 0) hx hb dM_choose_26 (by decide) ?_
      exact zt_ri hx hb hr hlocks (fun t ht _ => ⟨(nI 0, est, cst, chs, k), rfl, Or.inr ⟨by decide, rfl⟩, by rw [ht]; exact hP, hS.F ht⟩) (hS.2.2) dM_choose_27
set_option maxHeartbeats 4000000 in
set_option maxRecDepth 100000 in
theorem tM_dimension (l : Launch) {dC : Nat → ClassId} {dI : Nat → Nat → Nat} {cI cJ cB : ClassId} {ad : Nat → Nat} {lev val chs dig : Nat → Int32} {est cst : Nat → Int64} {code : Int32} {D N F k : Nat} {L V : Nat → Nat} {p0 : Int32} {sz : Nat} (had : zg_ap ad 7) (hR : zm_R D N F L V lev val dig) (hV0 : ∀ j, 4 * D ≤ j → V j = 0) : zt_Met l yM_dimension wM_dimension rM_dimension (va_Pc [.ref (ad 0), .int p0] (zg_C dC dI cI cJ cB (zm_w ad cI cJ cB lev val chs dig est cst code D N F k) sz)) (zg_Q dC dI (fun u : Int32 × (Nat → Int32) × (Nat → Int32) × (Nat → Int32) × Nat × Nat × Nat => some (.int u.1)) (fun u => (zc_dim (zn p0) D N = 0 ∧ u.1 = nI D ∧ u.2.1 = upd lev D (nI (zn p0)) ∧ (∀ j, j < 32 → u.2.2.1 j = nI (V j)) ∧ (∀ w, w < N * (zn p0 + 1) → ∀ d, d < D + 1 → u.2.2.2.1 (8 * w + d) = nI (zq_dg (zq_up L D (zn p0)) (D + 1) w d)) ∧ u.2.2.2.2 = (D + 1, N * (zn p0 + 1), 0)) ∨ (zc_dim (zn p0) D N ≠ 0 ∧ u.2 = (lev, val, dig, D, N, k))) (fun u => zm_w ad cI cJ cB u.2.1 u.2.2.1 chs u.2.2.2.1 est cst (nI (zc_dim (zn p0) D N)) u.2.2.2.2.1 u.2.2.2.2.2.1 F u.2.2.2.2.2.2) (zg_A ad 7 sz)) 0 0 0 0 (zg_A ad 7 sz) := by
  generalize ha1 : zn p0 = a1
  refine zt_ofW (cc := cM_dimension) (maxL := 3) (ret := (some .int)) (by decide) rfl ?_
  intro p e s m args below meth c s₁ B hml hout hv
  obtain ⟨rfl, hsz, hP, hK⟩ := hv
  have hx := B.exec
  have hb := B.bytes
  have hr := B.returns
  have hz : ∀ w ∈ zw0, w.before ([.ref (ad 0), .int p0] : List Value).toArray s = true := fun w h => atoms_spec (ws := wM_dimension) B.pre w (List.mem_cons_of_mem _ h)
  have hown : s.vm.findClass RM = some m.cls := findClass_of_methodNamed B.named
  have hlocks := B.notSynchronized
  subst hsz
  have hS : va_S (zg_A ad 7 s.heap.size) s.heap s.heap [] := va_S.rf
  have hl := lv_entry ([.ref (ad 0), .int p0]) (n := 3) (Nat.le_of_ble_eq_true rfl)
  rw [lg_entry_eq]
  generalize (lg_sl ([.ref (ad 0), .int p0]) ++ List.replicate (3 - (lg_sl ([.ref (ad 0), .int p0])).length) Slot.unset).toArray = ls at hl ⊢
  have hl : lv_has ls 3 [(0, .ref (ad 0)), (1, .int p0)] := hl
  obtain ⟨hD, hL, hN, hN5, hF, hVb, hlev, hval, hdg⟩ := hR
  have hN0 : 0 < N := by rw [hN]; exact zq_nv_pos L D
  rcases zn_cases p0 with ⟨h0, e0⟩ | ⟨n, hn, rfl, e0⟩
  · have ea : a1 = 2 ^ 31 := ha1.symm.trans e0
    refine lv_aload_n hx hb dM_dimension_0 rfl (lv_at hl 0 rfl) ?_
    refine lv_iload_n hx hb dM_dimension_1 rfl (lv_at hl 1 rfl) ?_
    refine lv_iconst (v := nI 1) hx hb dM_dimension_2 (by decide) ?_
    refine lv_icmp_lt (tgt := 11) hx hb dM_dimension_3 (by decide) (fun _ => ?_) (fun c3 => absurd c3 (not_not_intro (Int32.lt_trans h0 (show (0 : Int32) < nI 1 by decide))))
    have ecd : zc_dim a1 D N = 1 := by unfold zc_dim; rw [if_neg (by omega)]
    rw [ecd]
    refine lv_iconst (v := nI 1) hx hb dM_dimension_11 (by decide) ?_
    refine lv_goto (tgt := 43) hx hb dM_dimension_12 (by decide) ?_
    refine va_put (D := (dC, dI)) (ci := 1) (v := .int (nI 1)) (ty := .int) (C := RM) (T := TM) (N := 11) hx hb hz in_M tyM tyM_ok nmM hown hK hP (zm_D had) hS 0 rfl rfl 0 (by decide) (hz _ kf_M_34) (fun _ h9 => h9) rfl (by decide +kernel) rfl rfl (Nat.le_of_ble_eq_true rfl) dM_dimension_43 (fun H locs hP _ hS => ?_)
    have hP : va_P (dC, dI) zcl (zm_w ad cI cJ cB lev val chs dig est cst (nI 1) D N F k) H := hP
    refine lv_aload_n hx hb dM_dimension_46 rfl (lv_at hl 0 rfl) ?_
    refine va_get (D := (dC, dI)) (ci := 1) (v := .int (nI 1)) (C := RM) (T := TM) (N := 11) hx hb hz in_M hown hK hP 0 rfl rfl 0 (by decide) (hz _ kf_M_34) (fun _ h9 => h9) rfl dM_dimension_47 ?_
    refine lv_if_le (tgt := 55) hx hb dM_dimension_50 (by decide) (fun c50 => absurd c50 (by decide)) (fun _ => ?_)
    refine lv_iconst (v := nI 0) hx hb dM_dimension_53 (by decide) ?_
    exact zt_ri hx hb hr hlocks (fun t ht _ => ⟨(nI 0, lev, val, dig, D, N, k), rfl, Or.inr ⟨by decide, rfl⟩, by rw [ht]; exact hP, hS.F ht⟩) (hS.2.2) dM_dimension_54
  · have ea : a1 = n := ha1.symm.trans e0
    subst ea
    refine lv_aload_n hx hb dM_dimension_0 rfl (lv_at hl 0 rfl) ?_
    refine lv_iload_n hx hb dM_dimension_1 rfl (lv_at hl 1 rfl) ?_
    refine lv_iconst (v := nI 1) hx hb dM_dimension_2 (by decide) ?_
    refine zj_lt (tgt := 11) hx hb dM_dimension_3 (by decide) (by omega) (by omega) (fun c3 => ?_) (fun c3 => ?_)
    · have ecd : zc_dim a1 D N = 1 := by unfold zc_dim; rw [if_neg (by omega)]
      rw [ecd]
      refine lv_iconst (v := nI 1) hx hb dM_dimension_11 (by decide) ?_
      refine lv_goto (tgt := 43) hx hb dM_dimension_12 (by decide) ?_
      refine va_put (D := (dC, dI)) (ci := 1) (v := .int (nI 1)) (ty := .int) (C := RM) (T := TM) (N := 11) hx hb hz in_M tyM tyM_ok nmM hown hK hP (zm_D had) hS 0 rfl rfl 0 (by decide) (hz _ kf_M_34) (fun _ h9 => h9) rfl (by decide +kernel) rfl rfl (Nat.le_of_ble_eq_true rfl) dM_dimension_43 (fun H locs hP _ hS => ?_)
      have hP : va_P (dC, dI) zcl (zm_w ad cI cJ cB lev val chs dig est cst (nI 1) D N F k) H := hP
      refine lv_aload_n hx hb dM_dimension_46 rfl (lv_at hl 0 rfl) ?_
      refine va_get (D := (dC, dI)) (ci := 1) (v := .int (nI 1)) (C := RM) (T := TM) (N := 11) hx hb hz in_M hown hK hP 0 rfl rfl 0 (by decide) (hz _ kf_M_34) (fun _ h9 => h9) rfl dM_dimension_47 ?_
      refine lv_if_le (tgt := 55) hx hb dM_dimension_50 (by decide) (fun c50 => absurd c50 (by decide)) (fun _ => ?_)
      refine lv_iconst (v := nI 0) hx hb dM_dimension_53 (by decide) ?_
      exact zt_ri hx hb hr hlocks (fun t ht _ => ⟨(nI 0, lev, val, dig, D, N, k), rfl, Or.inr ⟨by decide, rfl⟩, by rw [ht]; exact hP, hS.F ht⟩) (hS.2.2) dM_dimension_54
    · refine lv_iload_n hx hb dM_dimension_6 rfl (lv_at hl 1 rfl) ?_
      refine lv_iconst (v := nI 4) hx hb dM_dimension_7 (by decide) ?_
      refine zj_le (tgt := 15) hx hb dM_dimension_8 (by decide) (by omega) (by omega) (fun c8 => ?_) (fun c8 => ?_)
      · have hmul : N * (a1 + 1) ≤ 512 * 5 := Nat.mul_le_mul hN5 (by omega)
        refine lv_aload_n hx hb dM_dimension_15 rfl (lv_at hl 0 rfl) ?_
        refine va_get (D := (dC, dI)) (ci := 1) (v := .int (nI D)) (C := RM) (T := TM) (N := 11) hx hb hz in_M hown hK hP 0 rfl rfl 1 (by decide) (hz _ kf_M_37) (fun _ h9 => h9) rfl dM_dimension_16 ?_
        refine lv_bipush (v := nI 8) hx hb dM_dimension_19 (by decide) ?_
        refine zj_eq (tgt := 38) hx hb dM_dimension_21 (by decide) (by omega) (by omega) (fun c21 => ?_) (fun c21 => ?_)
        · have ecd : zc_dim a1 D N = 2 := by unfold zc_dim; rw [if_pos ⟨by omega, by omega⟩, if_neg (by omega)]
          rw [ecd]
          refine lv_iconst (v := nI 2) hx hb dM_dimension_38 (by decide) ?_
          refine lv_goto (tgt := 43) hx hb dM_dimension_39 (by decide) ?_
          refine va_put (D := (dC, dI)) (ci := 1) (v := .int (nI 2)) (ty := .int) (C := RM) (T := TM) (N := 11) hx hb hz in_M tyM tyM_ok nmM hown hK hP (zm_D had) hS 0 rfl rfl 0 (by decide) (hz _ kf_M_34) (fun _ h9 => h9) rfl (by decide +kernel) rfl rfl (Nat.le_of_ble_eq_true rfl) dM_dimension_43 (fun H locs hP _ hS => ?_)
          have hP : va_P (dC, dI) zcl (zm_w ad cI cJ cB lev val chs dig est cst (nI 2) D N F k) H := hP
          refine lv_aload_n hx hb dM_dimension_46 rfl (lv_at hl 0 rfl) ?_
          refine va_get (D := (dC, dI)) (ci := 1) (v := .int (nI 2)) (C := RM) (T := TM) (N := 11) hx hb hz in_M hown hK hP 0 rfl rfl 0 (by decide) (hz _ kf_M_34) (fun _ h9 => h9) rfl dM_dimension_47 ?_
          refine lv_if_le (tgt := 55) hx hb dM_dimension_50 (by decide) (fun c50 => absurd c50 (by decide)) (fun _ => ?_)
          refine lv_iconst (v := nI 0) hx hb dM_dimension_53 (by decide) ?_
          exact zt_ri hx hb hr hlocks (fun t ht _ => ⟨(nI 0, lev, val, dig, D, N, k), rfl, Or.inr ⟨by decide, rfl⟩, by rw [ht]; exact hP, hS.F ht⟩) (hS.2.2) dM_dimension_54
        · refine lv_aload_n hx hb dM_dimension_24 rfl (lv_at hl 0 rfl) ?_
          refine va_get (D := (dC, dI)) (ci := 1) (v := .int (nI N)) (C := RM) (T := TM) (N := 11) hx hb hz in_M hown hK hP 0 rfl rfl 5 (by decide) (hz _ kf_M_16) (fun _ h9 => h9) rfl dM_dimension_25 ?_
          refine lv_iload_n hx hb dM_dimension_28 rfl (lv_at hl 1 rfl) ?_
          refine lv_iconst (v := nI 1) hx hb dM_dimension_29 (by decide) ?_
          refine lv_iadd hx hb dM_dimension_30 ?_
          refine zt_ti (nI_add _ _) ?_
          refine lv_imul hx hb dM_dimension_31 ?_
          refine zt_ti (pk_mul _ _) ?_
          refine lv_sipush (v := nI 512) hx hb dM_dimension_32 (by decide) ?_
          refine zj_le (tgt := 42) hx hb dM_dimension_35 (by decide) (by omega) (by omega) (fun c35 => ?_) (fun c35 => ?_)
          · have ecd : zc_dim a1 D N = 0 := by unfold zc_dim; rw [if_pos ⟨by omega, by omega⟩, if_pos ⟨by omega, by omega⟩]
            rw [ecd]
            refine lv_iconst (v := nI 0) hx hb dM_dimension_42 (by decide) ?_
            refine va_put (D := (dC, dI)) (ci := 1) (v := .int (nI 0)) (ty := .int) (C := RM) (T := TM) (N := 11) hx hb hz in_M tyM tyM_ok nmM hown hK hP (zm_D had) hS 0 rfl rfl 0 (by decide) (hz _ kf_M_34) (fun _ h9 => h9) rfl (by decide +kernel) rfl rfl (Nat.le_of_ble_eq_true rfl) dM_dimension_43 (fun H locs hP _ hS => ?_)
            have hP : va_P (dC, dI) zcl (zm_w ad cI cJ cB lev val chs dig est cst (nI 0) D N F k) H := hP
            refine lv_aload_n hx hb dM_dimension_46 rfl (lv_at hl 0 rfl) ?_
            refine va_get (D := (dC, dI)) (ci := 1) (v := .int (nI 0)) (C := RM) (T := TM) (N := 11) hx hb hz in_M hown hK hP 0 rfl rfl 0 (by decide) (hz _ kf_M_34) (fun _ h9 => h9) rfl dM_dimension_47 ?_
            refine lv_if_le (tgt := 55) hx hb dM_dimension_50 (by decide) (fun _ => ?_) (fun c50 => absurd c50 (not_not_intro (by decide)))
            refine lv_aload_n hx hb dM_dimension_55 rfl (lv_at hl 0 rfl) ?_
            refine va_get (D := (dC, dI)) (ci := 1) (v := .ref (ad 1)) (C := RM) (T := TM) (N := 11) hx hb hz in_M hown hK hP 0 rfl rfl 2 (by decide) (hz _ kf_M_7) (fun _ h9 => h9) rfl dM_dimension_56 ?_
            refine lv_aload_n hx hb dM_dimension_59 rfl (lv_at hl 0 rfl) ?_
            refine va_get (D := (dC, dI)) (ci := 1) (v := .int (nI D)) (C := RM) (T := TM) (N := 11) hx hb hz in_M hown hK hP 0 rfl rfl 1 (by decide) (hz _ kf_M_37) (fun _ h9 => h9) rfl dM_dimension_60 ?_
            refine lv_iload_n hx hb dM_dimension_63 rfl (lv_at hl 1 rfl) ?_
            refine zt_iast hx hb hK hP (zm_D had) hS 1 0 rfl rfl (i := D) (by omega) (by decide) dM_dimension_64 (fun H locs hP _ hS => ?_)
            have hP : va_P (dC, dI) zcl (zm_w ad cI cJ cB (upd lev D (nI a1)) val chs dig est cst (nI 0) D N F k) H := hP
            refine lv_iconst (v := nI 0) hx hb dM_dimension_65 (by decide) ?_
            refine lv_istore_n (lv' := [(2, .int (nI 0)), (0, .ref (ad 0)), (1, .int (nI a1))]) hx hb dM_dimension_66 rfl hl (by decide) rfl (fun ls hl => ?_)
            have loop : ∀ (r j : Nat), j + r = a1 → ∀ (f : Nat → Int32) (H : Heap) (locs : List Loc), (∀ j, j < 32 → f j = nI (V j)) → va_P (dC, dI) zcl (zm_w ad cI cJ cB (upd lev D (nI a1)) f chs dig est cst (nI 0) D N F k) H → va_S (zg_A ad 7 s.heap.size) s.heap H locs → ∀ ls : Array Slot, lv_has ls 3 [(0, .ref (ad 0)), (1, .int (nI a1)), (2, .int (nI j))] → W p l e (headSpec wM_dimension rM_dimension).room s m ([.ref (ad 0), .int (nI a1)] : List Value).toArray below meth c H locs 0 0 (zt_MQ below (zg_Q dC dI (fun u : Int32 × (Nat → Int32) × (Nat → Int32) × (Nat → Int32) × Nat × Nat × Nat => some (.int u.1)) (fun u => (0 = 0 ∧ u.1 = nI D ∧ u.2.1 = upd lev D (nI (a1)) ∧ (∀ j, j < 32 → u.2.2.1 j = nI (V j)) ∧ (∀ w, w < N * (a1 + 1) → ∀ d, d < D + 1 → u.2.2.2.1 (8 * w + d) = nI (zq_dg (zq_up L D (a1)) (D + 1) w d)) ∧ u.2.2.2.2 = (D + 1, N * (a1 + 1), 0)) ∨ (0 ≠ 0 ∧ u.2 = (lev, val, dig, D, N, k))) (fun u => zm_w ad cI cJ cB u.2.1 u.2.2.1 chs u.2.2.2.1 est cst (nI (0)) u.2.2.2.2.1 u.2.2.2.2.2.1 F u.2.2.2.2.2.2) (zg_A ad 7 s.heap.size)) ([.ref (ad 0), .int (nI a1)] : List Value).toArray s 0 0 0 0 (zg_A ad 7 s.heap.size)) (F0 m 67 ls []) := by
              intro r
              induction r with
              | zero =>
                intro j hj f H locs hf hP hS ls hl
                refine lv_iload_n hx hb dM_dimension_67 rfl (lv_at hl 2 rfl) ?_
                refine lv_iload_n hx hb dM_dimension_68 rfl (lv_at hl 1 rfl) ?_
                refine zj_ge (tgt := 92) hx hb dM_dimension_69 (by decide) (by omega) (by omega) (fun _ => ?_) (fun c69 => absurd c69 (by omega))
                refine lv_aload_n hx hb dM_dimension_92 rfl (lv_at hl 0 rfl) ?_
                refine lv_dup hx hb dM_dimension_93 rfl ?_
                refine va_get (D := (dC, dI)) (ci := 1) (v := .int (nI N)) (C := RM) (T := TM) (N := 11) hx hb hz in_M hown hK hP 0 rfl rfl 5 (by decide) (hz _ kf_M_16) (fun _ h9 => h9) rfl dM_dimension_94 ?_
                refine lv_iload_n hx hb dM_dimension_97 rfl (lv_at hl 1 rfl) ?_
                refine lv_iconst (v := nI 1) hx hb dM_dimension_98 (by decide) ?_
                refine lv_iadd hx hb dM_dimension_99 ?_
                refine zt_ti (nI_add _ _) ?_
                refine lv_imul hx hb dM_dimension_100 ?_
                refine zt_ti (pk_mul _ _) ?_
                refine va_put (D := (dC, dI)) (ci := 1) (v := .int (nI (N * (a1 + 1)))) (ty := .int) (C := RM) (T := TM) (N := 11) hx hb hz in_M tyM tyM_ok nmM hown hK hP (zm_D had) hS 0 rfl rfl 5 (by decide) (hz _ kf_M_16) (fun _ h9 => h9) rfl (by decide +kernel) rfl rfl (Nat.le_of_ble_eq_true rfl) dM_dimension_101 (fun H locs hP _ hS => ?_)
                have hP : va_P (dC, dI) zcl (zm_w ad cI cJ cB (upd lev D (nI a1)) f chs dig est cst (nI 0) D (N * (a1 + 1)) F k) H := hP
                refine lv_aload_n hx hb dM_dimension_104 rfl (lv_at hl 0 rfl) ?_
                refine lv_iconst (v := nI 0) hx hb dM_dimension_105 (by decide) ?_
                refine va_put (D := (dC, dI)) (ci := 1) (v := .int (nI 0)) (ty := .int) (C := RM) (T := TM) (N := 11) hx hb hz in_M tyM tyM_ok nmM hown hK hP (zm_D had) hS 0 rfl rfl 6 (by decide) (hz _ kf_M_40) (fun _ h9 => h9) rfl (by decide +kernel) rfl rfl (Nat.le_of_ble_eq_true rfl) dM_dimension_106 (fun H locs hP _ hS => ?_)
                have hP : va_P (dC, dI) zcl (zm_w ad cI cJ cB (upd lev D (nI a1)) f chs dig est cst (nI 0) D (N * (a1 + 1)) F 0) H := hP
                refine lv_aload_n hx hb dM_dimension_109 rfl (lv_at hl 0 rfl) ?_
                refine lv_dup hx hb dM_dimension_110 rfl ?_
                refine va_get (D := (dC, dI)) (ci := 1) (v := .int (nI D)) (C := RM) (T := TM) (N := 11) hx hb hz in_M hown hK hP 0 rfl rfl 1 (by decide) (hz _ kf_M_37) (fun _ h9 => h9) rfl dM_dimension_111 ?_
                refine lv_iconst (v := nI 1) hx hb dM_dimension_114 (by decide) ?_
                refine lv_iadd hx hb dM_dimension_115 ?_
                refine zt_ti (nI_add _ _) ?_
                refine va_put (D := (dC, dI)) (ci := 1) (v := .int (nI (D + 1))) (ty := .int) (C := RM) (T := TM) (N := 11) hx hb hz in_M tyM tyM_ok nmM hown hK hP (zm_D had) hS 0 rfl rfl 1 (by decide) (hz _ kf_M_37) (fun _ h9 => h9) rfl (by decide +kernel) rfl rfl (Nat.le_of_ble_eq_true rfl) dM_dimension_116 (fun H locs hP _ hS => ?_)
                have hP : va_P (dC, dI) zcl (zm_w ad cI cJ cB (upd lev D (nI a1)) f chs dig est cst (nI 0) (D + 1) (N * (a1 + 1)) F 0) H := hP
                refine lv_aload_n hx hb dM_dimension_119 rfl (lv_at hl 0 rfl) ?_
                refine zg_callW (zg_runC (rest := []) hx hb hml hown (tM_spread l (L := zq_up L D a1) had (by omega) (zq_upL hL (by omega) (by omega)) (zq_upV hlev) (by omega)) (wcM_43 hz (Nat.le_of_ble_eq_true rfl) (Nat.le_of_ble_eq_true rfl)) (hz _ ki_M_spread) (hz _ ks_M_spread) (hz _ kC_M_spread) hP hK rfl (q0 := 0) rfl rfl hl.1 rfl (Nat.le_of_ble_eq_true rfl) dM_dimension_120 ⟨Nat.le_of_ble_eq_true rfl, Nat.le_of_ble_eq_true rfl⟩) hS (fun q h => zg_A_up hS.1 h) (fun q h => zg_A_up hS.1 h) (fun g9 H locs hg9 hP hz9 hk9 hS => ?_)
                refine W.eq (g2 := F0 m 123 ls []) rfl ?_
                refine lv_aload_n hx hb dM_dimension_123 rfl (lv_at hl 0 rfl) ?_
                refine va_get (D := (dC, dI)) (ci := 1) (v := .int (nI (D + 1))) (C := RM) (T := TM) (N := 11) hx hb hz in_M hown hK hP 0 rfl rfl 1 (by decide) (hz _ kf_M_37) (fun _ h9 => h9) rfl dM_dimension_124 ?_
                refine lv_iconst (v := nI 1) hx hb dM_dimension_127 (by decide) ?_
                refine lv_isub hx hb dM_dimension_128 ?_
                refine zt_ti (pk_sub (by omega)) ?_
                refine zt_ti (y := nI D) (by rw [Nat.add_sub_cancel]) ?_
                exact zt_ri hx hb hr hlocks (fun t ht _ => ⟨(nI D, upd lev D (nI a1), f, g9, D + 1, N * (a1 + 1), 0), rfl, Or.inl ⟨rfl, rfl, rfl, hf, hg9, rfl⟩, by rw [ht]; exact hP, hS.F ht⟩) (hS.2.2) dM_dimension_129
              | succ r ih =>
                intro j hj f H locs hf hP hS ls hl
                refine lv_iload_n hx hb dM_dimension_67 rfl (lv_at hl 2 rfl) ?_
                refine lv_iload_n hx hb dM_dimension_68 rfl (lv_at hl 1 rfl) ?_
                refine zj_ge (tgt := 92) hx hb dM_dimension_69 (by decide) (by omega) (by omega) (fun c69 => absurd c69 (by omega)) (fun _ => ?_)
                refine lv_aload_n hx hb dM_dimension_72 rfl (lv_at hl 0 rfl) ?_
                refine va_get (D := (dC, dI)) (ci := 1) (v := .ref (ad 2)) (C := RM) (T := TM) (N := 11) hx hb hz in_M hown hK hP 0 rfl rfl 3 (by decide) (hz _ kf_M_13) (fun _ h9 => h9) rfl dM_dimension_73 ?_
                refine lv_iconst (v := nI 4) hx hb dM_dimension_76 (by decide) ?_
                refine lv_aload_n hx hb dM_dimension_77 rfl (lv_at hl 0 rfl) ?_
                refine va_get (D := (dC, dI)) (ci := 1) (v := .int (nI D)) (C := RM) (T := TM) (N := 11) hx hb hz in_M hown hK hP 0 rfl rfl 1 (by decide) (hz _ kf_M_37) (fun _ h9 => h9) rfl dM_dimension_78 ?_
                refine lv_imul hx hb dM_dimension_81 ?_
                refine zt_ti (pk_mul _ _) ?_
                refine lv_iload_n hx hb dM_dimension_82 rfl (lv_at hl 2 rfl) ?_
                refine lv_iadd hx hb dM_dimension_83 ?_
                refine zt_ti (nI_add _ _) ?_
                refine lv_iconst (v := nI 0) hx hb dM_dimension_84 (by decide) ?_
                refine zt_iast hx hb hK hP (zm_D had) hS 2 0 rfl rfl (i := ((4 * D) + j)) (by omega) (by decide) dM_dimension_85 (fun H locs hP _ hS => ?_)
                have hP : va_P (dC, dI) zcl (zm_w ad cI cJ cB (upd lev D (nI a1)) (upd f ((4 * D) + j) (nI 0)) chs dig est cst (nI 0) D N F k) H := hP
                refine lv_iinc (v := nI (j + 1)) (lv' := [(2, .int (nI (j + 1))), (0, .ref (ad 0)), (1, .int (nI a1))]) hx hb dM_dimension_86 hl (k := 2) rfl (nI_1 _) (by decide) rfl (fun ls hl => ?_)
                refine lv_goto (tgt := 67) hx hb dM_dimension_89 (by decide) ?_
                refine ih (j + 1) (by omega) _ H locs (fun i hi => ?_) hP hS ls (lv_sub hl [1, 2, 0] rfl)
                by_cases e9 : i = 4 * D + j
                · rw [e9, pk_us, hV0 _ (by omega)]
                · rw [pk_un e9]; exact hf i hi
            exact loop a1 0 (by omega) val H locs hval hP hS ls (lv_sub hl [1, 2, 0] rfl)
          · have ecd : zc_dim a1 D N = 2 := by unfold zc_dim; rw [if_pos ⟨by omega, by omega⟩, if_neg (by omega)]
            rw [ecd]
            refine lv_iconst (v := nI 2) hx hb dM_dimension_38 (by decide) ?_
            refine lv_goto (tgt := 43) hx hb dM_dimension_39 (by decide) ?_
            refine va_put (D := (dC, dI)) (ci := 1) (v := .int (nI 2)) (ty := .int) (C := RM) (T := TM) (N := 11) hx hb hz in_M tyM tyM_ok nmM hown hK hP (zm_D had) hS 0 rfl rfl 0 (by decide) (hz _ kf_M_34) (fun _ h9 => h9) rfl (by decide +kernel) rfl rfl (Nat.le_of_ble_eq_true rfl) dM_dimension_43 (fun H locs hP _ hS => ?_)
            have hP : va_P (dC, dI) zcl (zm_w ad cI cJ cB lev val chs dig est cst (nI 2) D N F k) H := hP
            refine lv_aload_n hx hb dM_dimension_46 rfl (lv_at hl 0 rfl) ?_
            refine va_get (D := (dC, dI)) (ci := 1) (v := .int (nI 2)) (C := RM) (T := TM) (N := 11) hx hb hz in_M hown hK hP 0 rfl rfl 0 (by decide) (hz _ kf_M_34) (fun _ h9 => h9) rfl dM_dimension_47 ?_
            refine lv_if_le (tgt := 55) hx hb dM_dimension_50 (by decide) (fun c50 => absurd c50 (by decide)) (fun _ => ?_)
            refine lv_iconst (v := nI 0) hx hb dM_dimension_53 (by decide) ?_
            exact zt_ri hx hb hr hlocks (fun t ht _ => ⟨(nI 0, lev, val, dig, D, N, k), rfl, Or.inr ⟨by decide, rfl⟩, by rw [ht]; exact hP, hS.F ht⟩) (hS.2.2) dM_dimension_54
      · have ecd : zc_dim a1 D N = 1 := by unfold zc_dim; rw [if_neg (by omega)]
        rw [ecd]
        refine lv_iconst (v := nI 1) hx hb dM_dimension_11 (by decide) ?_
        refine lv_goto (tgt := 43) hx hb dM_dimension_12 (by decide) ?_
        refine va_put (D := (dC, dI)) (ci := 1) (v := .int (nI 1)) (ty := .int) (C := RM) (T := TM) (N := 11) hx hb hz in_M tyM tyM_ok nmM hown hK hP (zm_D had) hS 0 rfl rfl 0 (by decide) (hz _ kf_M_34) (fun _ h9 => h9) rfl (by decide +kernel) rfl rfl (Nat.le_of_ble_eq_true rfl) dM_dimension_43 (fun H locs hP _ hS => ?_)
        have hP : va_P (dC, dI) zcl (zm_w ad cI cJ cB lev val chs dig est cst (nI 1) D N F k) H := hP
        refine lv_aload_n hx hb dM_dimension_46 rfl (lv_at hl 0 rfl) ?_
        refine va_get (D := (dC, dI)) (ci := 1) (v := .int (nI 1)) (C := RM) (T := TM) (N := 11) hx hb hz in_M hown hK hP 0 rfl rfl 0 (by decide) (hz _ kf_M_34) (fun _ h9 => h9) rfl dM_dimension_47 ?_
        refine lv_if_le (tgt := 55) hx hb dM_dimension_50 (by decide) (fun c50 => absurd c50 (by decide)) (fun _ => ?_)
        refine lv_iconst (v := nI 0) hx hb dM_dimension_53 (by decide) ?_
        exact zt_ri hx hb hr hlocks (fun t ht _ => ⟨(nI 0, lev, val, dig, D, N, k), rfl, Or.inr ⟨by decide, rfl⟩, by rw [ht]; exact hP, hS.F ht⟩) (hS.2.2) dM_dimension_54
