/-! the reference reads: by program (wip/gen/model_reads.py) -/
set_option maxHeartbeats 4000000 in
set_option maxRecDepth 100000 in
theorem tM_thrown (l : Launch) {dC : Nat → ClassId} {dI : Nat → Nat → Nat} {cI cJ cB : ClassId} {ad : Nat → Nat} {lev val chs dig : Nat → Int32} {est cst : Nat → Int64} {code : Int32} {D N F k : Nat} : zt_Met l yM_thrown wM_thrown rM_thrown (va_Pc [.ref (ad 0)] (zg_B dC dI cI cJ cB (zm_w ad cI cJ cB lev val chs dig est cst code D N F k))) (zt_Qr (some (.int code))) 0 0 0 0 (fun _ => False) := by
  refine zt_ofW (cc := cM_thrown) (maxL := 1) (ret := (some .int)) (by decide) rfl ?_
  intro p e s m args below meth c s₁ B hml hout hv
  obtain ⟨rfl, hP, hK⟩ := hv
  have hx := B.exec
  have hb := B.bytes
  have hr := B.returns
  have hz : ∀ w ∈ zw0, w.before ([.ref (ad 0)] : List Value).toArray s = true := fun w h => atoms_spec (ws := wM_thrown) B.pre w (List.mem_cons_of_mem _ h)
  have hown : s.vm.findClass RM = some m.cls := findClass_of_methodNamed B.named
  have hlocks := B.notSynchronized
  have hl := lv_entry ([.ref (ad 0)]) (n := 1) (Nat.le_of_ble_eq_true rfl)
  rw [lg_entry_eq]
  generalize (lg_sl ([.ref (ad 0)]) ++ List.replicate (1 - (lg_sl ([.ref (ad 0)])).length) Slot.unset).toArray = ls at hl ⊢
  have hl : lv_has ls 1 [(0, .ref (ad 0))] := hl
  refine lv_aload_n hx hb dM_thrown_0 rfl (lv_at hl 0 rfl) ?_
  refine va_get (D := (dC, dI)) (ci := 1) (v := .int code) (C := RM) (T := TM) (N := 11) hx hb hz in_M hown hK hP 0 rfl rfl 0 (by decide) (hz _ kf_M_34) (fun _ h9 => h9) rfl dM_thrown_1 ?_
  exact zt_ri hx hb hr hlocks (fun t ht _ => ⟨rfl, ht⟩) (fun q h => by cases h) dM_thrown_4
set_option maxHeartbeats 4000000 in
set_option maxRecDepth 100000 in
theorem tM_isDimension (l : Launch) {dC : Nat → ClassId} {dI : Nat → Nat → Nat} {cI cJ cB : ClassId} {ad : Nat → Nat} {lev val chs dig : Nat → Int32} {est cst : Nat → Int64} {code : Int32} {D N F k : Nat} {p0 : Int32} (h5 : D ≤ 512) : zt_Met l yM_isDimension wM_isDimension rM_isDimension (va_Pc [.ref (ad 0), .int p0] (zg_B dC dI cI cJ cB (zm_w ad cI cJ cB lev val chs dig est cst code D N F k))) (zt_Qr (some (.int (if zb_in p0 D = true then 1 else 0)))) 0 0 0 0 (fun _ => False) := by
  refine zt_ofW (cc := cM_isDimension) (maxL := 2) (ret := (some .boolean)) (by decide) rfl ?_
  intro p e s m args below meth c s₁ B hml hout hv
  obtain ⟨rfl, hP, hK⟩ := hv
  have hx := B.exec
  have hb := B.bytes
  have hr := B.returns
  have hz : ∀ w ∈ zw0, w.before ([.ref (ad 0), .int p0] : List Value).toArray s = true := fun w h => atoms_spec (ws := wM_isDimension) B.pre w (List.mem_cons_of_mem _ h)
  have hown : s.vm.findClass RM = some m.cls := findClass_of_methodNamed B.named
  have hlocks := B.notSynchronized
  have hl := lv_entry ([.ref (ad 0), .int p0]) (n := 2) (Nat.le_of_ble_eq_true rfl)
  rw [lg_entry_eq]
  generalize (lg_sl ([.ref (ad 0), .int p0]) ++ List.replicate (2 - (lg_sl ([.ref (ad 0), .int p0])).length) Slot.unset).toArray = ls at hl ⊢
  have hl : lv_has ls 2 [(0, .ref (ad 0)), (1, .int p0)] := hl
  refine lv_iload_n hx hb dM_isDimension_0 rfl (lv_at hl 1 rfl) ?_
  refine lv_if_lt (tgt := 16) hx hb dM_isDimension_1 (by decide) (fun c1 => ?_) (fun c1 => ?_)
  · refine lv_iconst (v := nI 0) hx hb dM_isDimension_16 (by decide) ?_
    exact zt_rz hx hb hr hlocks (rfl) (fun t ht _ => ⟨by rw [if_neg (zb_neg c1)]; rfl, ht⟩) (fun q h => by cases h) dM_isDimension_17
  · obtain ⟨j, hj, rfl⟩ := nI_of c1
    refine lv_iload_n hx hb dM_isDimension_4 rfl (lv_at hl 1 rfl) ?_
    refine lv_aload_n hx hb dM_isDimension_5 rfl (lv_at hl 0 rfl) ?_
    refine va_get (D := (dC, dI)) (ci := 1) (v := .int (nI D)) (C := RM) (T := TM) (N := 11) hx hb hz in_M hown hK hP 0 rfl rfl 1 (by decide) (hz _ kf_M_37) (fun _ h9 => h9) rfl dM_isDimension_6 ?_
    refine zj_ge (tgt := 16) hx hb dM_isDimension_9 (by decide) (by omega) (by omega) (fun c9 => ?_) (fun c9 => ?_)
    · refine lv_iconst (v := nI 0) hx hb dM_isDimension_16 (by decide) ?_
      exact zt_rz hx hb hr hlocks (rfl) (fun t ht _ => ⟨by rw [if_neg (zb_big c9 hj)]; rfl, ht⟩) (fun q h => by cases h) dM_isDimension_17
    · refine lv_iconst (v := nI 1) hx hb dM_isDimension_12 (by decide) ?_
      refine lv_goto (tgt := 17) hx hb dM_isDimension_13 (by decide) ?_
      exact zt_rz hx hb hr hlocks (rfl) (fun t ht _ => ⟨by rw [if_pos (zb_t c9 (by omega))]; rfl, ht⟩) (fun q h => by cases h) dM_isDimension_17
set_option maxHeartbeats 4000000 in
set_option maxRecDepth 100000 in
theorem tM_isView (l : Launch) {dC : Nat → ClassId} {dI : Nat → Nat → Nat} {cI cJ cB : ClassId} {ad : Nat → Nat} {lev val chs dig : Nat → Int32} {est cst : Nat → Int64} {code : Int32} {D N F k : Nat} {p0 : Int32} (h5 : N ≤ 512) : zt_Met l yM_isView wM_isView rM_isView (va_Pc [.ref (ad 0), .int p0] (zg_B dC dI cI cJ cB (zm_w ad cI cJ cB lev val chs dig est cst code D N F k))) (zt_Qr (some (.int (if zb_in p0 N = true then 1 else 0)))) 0 0 0 0 (fun _ => False) := by
  refine zt_ofW (cc := cM_isView) (maxL := 2) (ret := (some .boolean)) (by decide) rfl ?_
  intro p e s m args below meth c s₁ B hml hout hv
  obtain ⟨rfl, hP, hK⟩ := hv
  have hx := B.exec
  have hb := B.bytes
  have hr := B.returns
  have hz : ∀ w ∈ zw0, w.before ([.ref (ad 0), .int p0] : List Value).toArray s = true := fun w h => atoms_spec (ws := wM_isView) B.pre w (List.mem_cons_of_mem _ h)
  have hown : s.vm.findClass RM = some m.cls := findClass_of_methodNamed B.named
  have hlocks := B.notSynchronized
  have hl := lv_entry ([.ref (ad 0), .int p0]) (n := 2) (Nat.le_of_ble_eq_true rfl)
  rw [lg_entry_eq]
  generalize (lg_sl ([.ref (ad 0), .int p0]) ++ List.replicate (2 - (lg_sl ([.ref (ad 0), .int p0])).length) Slot.unset).toArray = ls at hl ⊢
  have hl : lv_has ls 2 [(0, .ref (ad 0)), (1, .int p0)] := hl
  refine lv_iload_n hx hb dM_isView_0 rfl (lv_at hl 1 rfl) ?_
  refine lv_if_lt (tgt := 16) hx hb dM_isView_1 (by decide) (fun c1 => ?_) (fun c1 => ?_)
  · refine lv_iconst (v := nI 0) hx hb dM_isView_16 (by decide) ?_
    exact zt_rz hx hb hr hlocks (rfl) (fun t ht _ => ⟨by rw [if_neg (zb_neg c1)]; rfl, ht⟩) (fun q h => by cases h) dM_isView_17
  · obtain ⟨j, hj, rfl⟩ := nI_of c1
    refine lv_iload_n hx hb dM_isView_4 rfl (lv_at hl 1 rfl) ?_
    refine lv_aload_n hx hb dM_isView_5 rfl (lv_at hl 0 rfl) ?_
    refine va_get (D := (dC, dI)) (ci := 1) (v := .int (nI N)) (C := RM) (T := TM) (N := 11) hx hb hz in_M hown hK hP 0 rfl rfl 5 (by decide) (hz _ kf_M_16) (fun _ h9 => h9) rfl dM_isView_6 ?_
    refine zj_ge (tgt := 16) hx hb dM_isView_9 (by decide) (by omega) (by omega) (fun c9 => ?_) (fun c9 => ?_)
    · refine lv_iconst (v := nI 0) hx hb dM_isView_16 (by decide) ?_
      exact zt_rz hx hb hr hlocks (rfl) (fun t ht _ => ⟨by rw [if_neg (zb_big c9 hj)]; rfl, ht⟩) (fun q h => by cases h) dM_isView_17
    · refine lv_iconst (v := nI 1) hx hb dM_isView_12 (by decide) ?_
      refine lv_goto (tgt := 17) hx hb dM_isView_13 (by decide) ?_
      exact zt_rz hx hb hr hlocks (rfl) (fun t ht _ => ⟨by rw [if_pos (zb_t c9 (by omega))]; rfl, ht⟩) (fun q h => by cases h) dM_isView_17
set_option maxHeartbeats 4000000 in
set_option maxRecDepth 100000 in
theorem tM_digitOf (l : Launch) {dC : Nat → ClassId} {dI : Nat → Nat → Nat} {cI cJ cB : ClassId} {ad : Nat → Nat} {lev val chs dig : Nat → Int32} {est cst : Nat → Int64} {code : Int32} {D N F k : Nat} {L V : Nat → Nat} {v d : Nat} (hR : zm_R D N F L V lev val dig) (hv : v < N) (hd : d < D) : zt_Met l yM_digitOf wM_digitOf rM_digitOf (va_Pc [.ref (ad 0), .int (nI v), .int (nI d)] (zg_B dC dI cI cJ cB (zm_w ad cI cJ cB lev val chs dig est cst code D N F k))) (zt_Qr (some (.int (nI (zq_dg L D v d))))) 0 0 0 0 (fun _ => False) := by
  refine zt_ofW (cc := cM_digitOf) (maxL := 3) (ret := (some .int)) (by decide) rfl ?_
  intro p e s m args below meth c s₁ B hml hout hv
  obtain ⟨rfl, hP, hK⟩ := hv
  have hx := B.exec
  have hb := B.bytes
  have hr := B.returns
  have hz : ∀ w ∈ zw0, w.before ([.ref (ad 0), .int (nI v), .int (nI d)] : List Value).toArray s = true := fun w h => atoms_spec (ws := wM_digitOf) B.pre w (List.mem_cons_of_mem _ h)
  have hown : s.vm.findClass RM = some m.cls := findClass_of_methodNamed B.named
  have hlocks := B.notSynchronized
  have hl := lv_entry ([.ref (ad 0), .int (nI v), .int (nI d)]) (n := 3) (Nat.le_of_ble_eq_true rfl)
  rw [lg_entry_eq]
  generalize (lg_sl ([.ref (ad 0), .int (nI v), .int (nI d)]) ++ List.replicate (3 - (lg_sl ([.ref (ad 0), .int (nI v), .int (nI d)])).length) Slot.unset).toArray = ls at hl ⊢
  have hl : lv_has ls 3 [(0, .ref (ad 0)), (1, .int (nI v)), (2, .int (nI d))] := hl
  obtain ⟨hD, hL, hN, hN5, hF, hVb, hlev, hval, hdg⟩ := hR
  refine lv_aload_n hx hb dM_digitOf_0 rfl (lv_at hl 0 rfl) ?_
  refine va_get (D := (dC, dI)) (ci := 1) (v := .ref (ad 4)) (C := RM) (T := TM) (N := 11) hx hb hz in_M hown hK hP 0 rfl rfl 8 (by decide) (hz _ kf_M_23) (fun _ h9 => h9) rfl dM_digitOf_1 ?_
  refine lv_bipush (v := nI 8) hx hb dM_digitOf_4 (by decide) ?_
  refine lv_iload_n hx hb dM_digitOf_6 rfl (lv_at hl 1 rfl) ?_
  refine lv_imul hx hb dM_digitOf_7 ?_
  refine zt_ti (pk_mul _ _) ?_
  refine lv_iload_n hx hb dM_digitOf_8 rfl (lv_at hl 2 rfl) ?_
  refine lv_iadd hx hb dM_digitOf_9 ?_
  refine zt_ti (nI_add _ _) ?_
  refine zt_bald hx hb hK hP 4 2 rfl rfl (i := ((8 * v) + d)) (by omega) (by decide) (v := (nI (zq_dg L D v d))) (hdg v hv d hd) dM_digitOf_10 ?_
  exact zt_ri hx hb hr hlocks (fun t ht _ => ⟨rfl, ht⟩) (fun q h => by cases h) dM_digitOf_11
set_option maxHeartbeats 4000000 in
set_option maxRecDepth 100000 in
theorem tM_divided (l : Launch) {dC : Nat → ClassId} {dI : Nat → Nat → Nat} {cI cJ cB : ClassId} {ad : Nat → Nat} {lev val chs dig : Nat → Int32} {est cst : Nat → Int64} {code : Int32} {D N F k : Nat} {L : Nat → Nat} {v d : Nat} (hD : D ≤ 8) (hL : ∀ j, j < D → 1 ≤ L j ∧ L j ≤ 4) (hlev : ∀ j, j < D → lev j = nI (L j)) (hd : d < D) (hv : v < 2 ^ 31) : zt_Met l yM_divided wM_divided rM_divided (va_Pc [.ref (ad 0), .int (nI v), .int (nI d)] (zg_B dC dI cI cJ cB (zm_w ad cI cJ cB lev val chs dig est cst code D N F k))) (zt_Qr (some (.int (nI (zq_dg L D v d))))) 0 0 0 0 (fun _ => False) := by
  refine zt_ofW (cc := cM_divided) (maxL := 5) (ret := (some .int)) (by decide) rfl ?_
  intro p e s m args below meth c s₁ B hml hout hv
  obtain ⟨rfl, hP, hK⟩ := hv
  have hx := B.exec
  have hb := B.bytes
  have hr := B.returns
  have hz : ∀ w ∈ zw0, w.before ([.ref (ad 0), .int (nI v), .int (nI d)] : List Value).toArray s = true := fun w h => atoms_spec (ws := wM_divided) B.pre w (List.mem_cons_of_mem _ h)
  have hown : s.vm.findClass RM = some m.cls := findClass_of_methodNamed B.named
  have hlocks := B.notSynchronized
  have hl := lv_entry ([.ref (ad 0), .int (nI v), .int (nI d)]) (n := 5) (Nat.le_of_ble_eq_true rfl)
  rw [lg_entry_eq]
  generalize (lg_sl ([.ref (ad 0), .int (nI v), .int (nI d)]) ++ List.replicate (5 - (lg_sl ([.ref (ad 0), .int (nI v), .int (nI d)])).length) Slot.unset).toArray = ls at hl ⊢
  have hl : lv_has ls 5 [(0, .ref (ad 0)), (1, .int (nI v)), (2, .int (nI d))] := hl
  refine lv_iload_n hx hb dM_divided_0 rfl (lv_at hl 1 rfl) ?_
  refine lv_istore_n (lv' := [(3, .int (nI v)), (0, .ref (ad 0)), (1, .int (nI v)), (2, .int (nI d))]) hx hb dM_divided_1 rfl hl (by decide) rfl (fun ls hl => ?_)
  refine lv_aload_n hx hb dM_divided_2 rfl (lv_at hl 1 rfl) ?_
  refine va_get (D := (dC, dI)) (ci := 1) (v := .int (nI D)) (C := RM) (T := TM) (N := 11) hx hb hz in_M hown hK hP 0 rfl rfl 1 (by decide) (hz _ kf_M_37) (fun _ h9 => h9) rfl dM_divided_3 ?_
  refine lv_iconst (v := nI 1) hx hb dM_divided_6 (by decide) ?_
  refine lv_isub hx hb dM_divided_7 ?_
  refine zt_ti (pk_sub (by omega)) ?_
  refine lv_istore (lv' := [(4, .int (nI (D - 1))), (3, .int (nI v)), (0, .ref (ad 0)), (1, .int (nI v)), (2, .int (nI d))]) hx hb dM_divided_8 hl (by decide) rfl (fun ls hl => ?_)
  have loop : ∀ (n x9 : Nat), d + n < D → x9 < 2 ^ 31 → zq_dg L (d + n + 1) x9 d = zq_dg L D v d → ∀ ls : Array Slot, lv_has ls 5 [(0, .ref (ad 0)), (1, .int (nI v)), (2, .int (nI d)), (3, .int (nI x9)), (4, .int (nI (d + n)))] → W p l e (headSpec wM_divided rM_divided).room s m ([.ref (ad 0), .int (nI v), .int (nI d)] : List Value).toArray below meth c s.heap [] 0 0 (zt_MQ below (zt_Qr (some (.int (nI (zq_dg L D v d))))) ([.ref (ad 0), .int (nI v), .int (nI d)] : List Value).toArray s 0 0 0 0 (fun _ => False)) (F0 m 10 ls []) := by
    intro n
    induction n with
    | zero =>
      intro x9 hn hx9 he ls hl
      have hLd := hL d hd
      refine lv_iload hx hb dM_divided_10 (lv_at hl 4 rfl) ?_
      refine lv_iload_n hx hb dM_divided_12 rfl (lv_at hl 2 rfl) ?_
      refine zj_le (tgt := 34) hx hb dM_divided_13 (by decide) (by omega) (by omega) (fun _ => ?_) (fun c13 => absurd c13 (by omega))
      refine lv_iload_n hx hb dM_divided_34 rfl (lv_at hl 3 rfl) ?_
      refine lv_aload_n hx hb dM_divided_35 rfl (lv_at hl 0 rfl) ?_
      refine va_get (D := (dC, dI)) (ci := 1) (v := .ref (ad 1)) (C := RM) (T := TM) (N := 11) hx hb hz in_M hown hK hP 0 rfl rfl 2 (by decide) (hz _ kf_M_7) (fun _ h9 => h9) rfl dM_divided_36 ?_
      refine lv_iload_n hx hb dM_divided_39 rfl (lv_at hl 2 rfl) ?_
      refine zt_iald hx hb hK hP 1 0 rfl rfl (i := d) (by omega) (by decide) (v := (nI (L d))) (hlev d hd) dM_divided_40 ?_
      refine lv_iconst (v := nI 1) hx hb dM_divided_41 (by decide) ?_
      refine lv_iadd hx hb dM_divided_42 ?_
      refine zt_ti (nI_add _ _) ?_
      refine lv_irem hx hb dM_divided_43 (nI_ne0 (by omega) (by omega)) ?_
      refine zt_ti (pk_rem (by omega) (by omega) (by omega)) ?_
      rw [zq_dg_last] at he
      rw [← he]
      exact zt_ri hx hb hr hlocks (fun t ht _ => ⟨rfl, ht⟩) (fun q h => by cases h) dM_divided_44
    | succ n ih =>
      intro x9 hn hx9 he ls hl
      have hLd := hL (d + (n + 1)) hn
      refine lv_iload hx hb dM_divided_10 (lv_at hl 4 rfl) ?_
      refine lv_iload_n hx hb dM_divided_12 rfl (lv_at hl 2 rfl) ?_
      refine zj_le (tgt := 34) hx hb dM_divided_13 (by decide) (by omega) (by omega) (fun c13 => absurd c13 (by omega)) (fun _ => ?_)
      refine lv_iload_n hx hb dM_divided_16 rfl (lv_at hl 3 rfl) ?_
      refine lv_aload_n hx hb dM_divided_17 rfl (lv_at hl 0 rfl) ?_
      refine va_get (D := (dC, dI)) (ci := 1) (v := .ref (ad 1)) (C := RM) (T := TM) (N := 11) hx hb hz in_M hown hK hP 0 rfl rfl 2 (by decide) (hz _ kf_M_7) (fun _ h9 => h9) rfl dM_divided_18 ?_
      refine lv_iload hx hb dM_divided_21 (lv_at hl 4 rfl) ?_
      refine zt_iald hx hb hK hP 1 0 rfl rfl (i := (d + (n + 1))) (by omega) (by decide) (v := (nI (L (d + (n + 1))))) (hlev _ hn) dM_divided_23 ?_
      refine lv_iconst (v := nI 1) hx hb dM_divided_24 (by decide) ?_
      refine lv_iadd hx hb dM_divided_25 ?_
      refine zt_ti (nI_add _ _) ?_
      refine lv_idiv hx hb dM_divided_26 (nI_ne0 (by omega) (by omega)) ?_
      refine zt_ti (pk_div (by omega) (by omega) (by omega)) ?_
      refine lv_istore_n (lv' := [(3, .int (nI (x9 / ((L (d + (n + 1))) + 1)))), (0, .ref (ad 0)), (1, .int (nI v)), (2, .int (nI d)), (4, .int (nI (d + (n + 1))))]) hx hb dM_divided_27 rfl hl (by decide) rfl (fun ls hl => ?_)
      refine lv_iinc (v := nI (d + n)) (lv' := [(4, .int (nI (d + n))), (3, .int (nI (x9 / ((L (d + (n + 1))) + 1)))), (0, .ref (ad 0)), (1, .int (nI v)), (2, .int (nI d))]) hx hb dM_divided_28 hl (k := 4) rfl (pk_m1 (d + n)) (by decide) rfl (fun ls hl => ?_)
      refine lv_goto (tgt := 10) hx hb dM_divided_31 (by decide) ?_
      refine ih (x9 / (L (d + (n + 1)) + 1)) (by omega) (Nat.lt_of_le_of_lt (Nat.div_le_self _ _) hx9) ?_ ls (lv_sub hl [2, 3, 4, 1, 0] rfl)
      rw [← he]
      exact (zq_dg_lower L (show d ≠ d + (n + 1) by omega)).symm
  have e1 : D - 1 = d + (D - 1 - d) := by omega
  rw [e1] at hl
  refine loop (D - 1 - d) v (by omega) hv ?_ ls (lv_sub hl [2, 3, 4, 1, 0] rfl)
  rw [show d + (D - 1 - d) + 1 = D by omega]
set_option maxHeartbeats 4000000 in
set_option maxRecDepth 100000 in
theorem tM_above (l : Launch) {dC : Nat → ClassId} {dI : Nat → Nat → Nat} {cI cJ cB : ClassId} {ad : Nat → Nat} {lev val chs dig : Nat → Int32} {est cst : Nat → Int64} {code : Int32} {D N F k : Nat} {L V : Nat → Nat} {u v : Nat} (hR : zm_R D N F L V lev val dig) (hu : u < N) (hv : v < N) : zt_Met l yM_above wM_above rM_above (va_Pc [.ref (ad 0), .int (nI u), .int (nI v)] (zg_B dC dI cI cJ cB (zm_w ad cI cJ cB lev val chs dig est cst code D N F k))) (zt_Qr (some (.int (if zq_ab L D u v = true then 1 else 0)))) 0 0 0 0 (fun _ => False) := by
  refine zt_ofW (cc := cM_above) (maxL := 5) (ret := (some .boolean)) (by decide) rfl ?_
  intro p e s m args below meth c s₁ B hml hout hv
  obtain ⟨rfl, hP, hK⟩ := hv
  have hx := B.exec
  have hb := B.bytes
  have hr := B.returns
  have hz : ∀ w ∈ zw0, w.before ([.ref (ad 0), .int (nI u), .int (nI v)] : List Value).toArray s = true := fun w h => atoms_spec (ws := wM_above) B.pre w (List.mem_cons_of_mem _ h)
  have hown : s.vm.findClass RM = some m.cls := findClass_of_methodNamed B.named
  have hlocks := B.notSynchronized
  have hl := lv_entry ([.ref (ad 0), .int (nI u), .int (nI v)]) (n := 5) (Nat.le_of_ble_eq_true rfl)
  rw [lg_entry_eq]
  generalize (lg_sl ([.ref (ad 0), .int (nI u), .int (nI v)]) ++ List.replicate (5 - (lg_sl ([.ref (ad 0), .int (nI u), .int (nI v)])).length) Slot.unset).toArray = ls at hl ⊢
  have hl : lv_has ls 5 [(0, .ref (ad 0)), (1, .int (nI u)), (2, .int (nI v))] := hl
  have hR9 := hR
  obtain ⟨hD, hL, hN, hN5, hF, hVb, hlev, hval, hdg⟩ := hR
  refine lv_iconst (v := nI 1) hx hb dM_above_0 (by decide) ?_
  refine zt_ti (y := if zq_abn L D u v 0 = true then 1 else 0) (by rw [if_pos (zq_abn_0 L D u v)]; rfl) ?_
  refine lv_istore_n (lv' := [(3, .int (if zq_abn L D u v 0 = true then 1 else 0)), (0, .ref (ad 0)), (1, .int (nI u)), (2, .int (nI v))]) hx hb dM_above_1 rfl hl (by decide) rfl (fun ls hl => ?_)
  refine lv_iconst (v := nI 0) hx hb dM_above_2 (by decide) ?_
  refine lv_istore (lv' := [(4, .int (nI 0)), (3, .int (if zq_abn L D u v 0 = true then 1 else 0)), (0, .ref (ad 0)), (1, .int (nI u)), (2, .int (nI v))]) hx hb dM_above_3 hl (by decide) rfl (fun ls hl => ?_)
  have loop : ∀ (n i : Nat), i + n = D → ∀ ls : Array Slot, lv_has ls 5 [(0, .ref (ad 0)), (1, .int (nI u)), (2, .int (nI v)), (3, .int (if zq_abn L D u v i = true then 1 else 0)), (4, .int (nI i))] → W p l e (headSpec wM_above rM_above).room s m ([.ref (ad 0), .int (nI u), .int (nI v)] : List Value).toArray below meth c s.heap [] 0 0 (zt_MQ below (zt_Qr (some (.int (if zq_ab L D u v = true then 1 else 0)))) ([.ref (ad 0), .int (nI u), .int (nI v)] : List Value).toArray s 0 0 0 0 (fun _ => False)) (F0 m 5 ls []) := by
    intro n
    induction n with
    | zero =>
      intro i hi ls hl
      refine lv_iload hx hb dM_above_5 (lv_at hl 4 rfl) ?_
      refine lv_aload_n hx hb dM_above_7 rfl (lv_at hl 0 rfl) ?_
      refine va_get (D := (dC, dI)) (ci := 1) (v := .int (nI D)) (C := RM) (T := TM) (N := 11) hx hb hz in_M hown hK hP 0 rfl rfl 1 (by decide) (hz _ kf_M_37) (fun _ h9 => h9) rfl dM_above_8 ?_
      refine zj_ge (tgt := 47) hx hb dM_above_11 (by decide) (by omega) (by omega) (fun _ => ?_) (fun c11 => absurd c11 (by omega))
      refine lv_iload_n hx hb dM_above_47 rfl (lv_at hl 3 rfl) ?_
      have e1 : i = D := by omega
      subst e1
      exact zt_rz hx hb hr hlocks (by split <;> rfl) (fun t ht _ => ⟨rfl, ht⟩) (fun q h => by cases h) dM_above_48
    | succ n ih =>
      intro i hi ls hl
      refine lv_iload hx hb dM_above_5 (lv_at hl 4 rfl) ?_
      refine lv_aload_n hx hb dM_above_7 rfl (lv_at hl 0 rfl) ?_
      refine va_get (D := (dC, dI)) (ci := 1) (v := .int (nI D)) (C := RM) (T := TM) (N := 11) hx hb hz in_M hown hK hP 0 rfl rfl 1 (by decide) (hz _ kf_M_37) (fun _ h9 => h9) rfl dM_above_8 ?_
      refine zj_ge (tgt := 47) hx hb dM_above_11 (by decide) (by omega) (by omega) (fun c11 => absurd c11 (by omega)) (fun _ => ?_)
      refine lv_iload_n hx hb dM_above_14 rfl (lv_at hl 3 rfl) ?_
      refine zb_eq (tgt := 47) hx hb dM_above_15 (by decide) (fun c15 => ?_) (fun c15 => ?_)
      · refine lv_iload_n hx hb dM_above_47 rfl (lv_at hl 3 rfl) ?_
        exact zt_rz hx hb hr hlocks (by split <;> rfl) (fun t ht _ => ⟨by rw [c15, zq_abn_up c15 (by omega)], ht⟩) (fun q h => by cases h) dM_above_48
      · refine lv_aload_n hx hb dM_above_18 rfl (lv_at hl 0 rfl) ?_
        refine lv_iload_n hx hb dM_above_19 rfl (lv_at hl 1 rfl) ?_
        refine lv_iload hx hb dM_above_20 (lv_at hl 4 rfl) ?_
        refine zt_callRi (zg_run (rest := []) hx hb hml hown (tM_digitOf l hR9 hu (by omega)) (wcM_58 hz (Nat.le_of_ble_eq_true rfl) (Nat.le_of_ble_eq_true rfl)) (hz _ ki_M_digitOf) (hz _ ks_M_digitOf) (hz _ kC_M_digitOf) hP hK rfl (q0 := 0) rfl rfl hl.1 rfl (Nat.le_of_ble_eq_true rfl) dM_above_22 ⟨Nat.le_of_ble_eq_true rfl, Nat.le_of_ble_eq_true rfl⟩) ?_
        refine lv_aload_n hx hb dM_above_25 rfl (lv_at hl 0 rfl) ?_
        refine lv_iload_n hx hb dM_above_26 rfl (lv_at hl 2 rfl) ?_
        refine lv_iload hx hb dM_above_27 (lv_at hl 4 rfl) ?_
        refine zt_callRi (zg_run (rest := [.int (nI (zq_dg L D u i))]) hx hb hml hown (tM_digitOf l hR9 hv (by omega)) (wcM_58 hz (Nat.le_of_ble_eq_true rfl) (Nat.le_of_ble_eq_true rfl)) (hz _ ki_M_digitOf) (hz _ ks_M_digitOf) (hz _ kC_M_digitOf) hP hK rfl (q0 := 0) rfl rfl hl.1 rfl (Nat.le_of_ble_eq_true rfl) dM_above_29 ⟨Nat.le_of_ble_eq_true rfl, Nat.le_of_ble_eq_true rfl⟩) ?_
        have hb1 := zq_dg_le L D u i (by omega)
        have hb2 := zq_dg_le L D v i (by omega)
        have hb3 := hL i (by omega)
        refine zj_gt (tgt := 39) hx hb dM_above_32 (by decide) (by omega) (by omega) (fun c32 => ?_) (fun c32 => ?_)
        · refine lv_iconst (v := nI 0) hx hb dM_above_39 (by decide) ?_
          refine zt_ti (y := if zq_abn L D u v (i + 1) = true then 1 else 0) (by rw [if_neg (by rw [zq_abn_f (by omega)]; exact Bool.false_ne_true)]; rfl) ?_
          refine lv_istore_n (lv' := [(3, .int (if zq_abn L D u v (i + 1) = true then 1 else 0)), (0, .ref (ad 0)), (1, .int (nI u)), (2, .int (nI v)), (4, .int (nI i))]) hx hb dM_above_40 rfl hl (by decide) rfl (fun ls hl => ?_)
          refine lv_iinc (v := nI (i + 1)) (lv' := [(4, .int (nI (i + 1))), (3, .int (if zq_abn L D u v (i + 1) = true then 1 else 0)), (0, .ref (ad 0)), (1, .int (nI u)), (2, .int (nI v))]) hx hb dM_above_41 hl (k := 4) rfl (nI_1 _) (by decide) rfl (fun ls hl => ?_)
          refine lv_goto (tgt := 5) hx hb dM_above_44 (by decide) ?_
          exact ih (i + 1) (by omega) ls (lv_sub hl [2, 3, 4, 1, 0] rfl)
        · refine lv_iconst (v := nI 1) hx hb dM_above_35 (by decide) ?_
          refine lv_goto (tgt := 40) hx hb dM_above_36 (by decide) ?_
          refine zt_ti (y := if zq_abn L D u v (i + 1) = true then 1 else 0) (by rw [if_pos (zq_abn_t c15 c32)]; rfl) ?_
          refine lv_istore_n (lv' := [(3, .int (if zq_abn L D u v (i + 1) = true then 1 else 0)), (0, .ref (ad 0)), (1, .int (nI u)), (2, .int (nI v)), (4, .int (nI i))]) hx hb dM_above_40 rfl hl (by decide) rfl (fun ls hl => ?_)
          refine lv_iinc (v := nI (i + 1)) (lv' := [(4, .int (nI (i + 1))), (3, .int (if zq_abn L D u v (i + 1) = true then 1 else 0)), (0, .ref (ad 0)), (1, .int (nI u)), (2, .int (nI v))]) hx hb dM_above_41 hl (k := 4) rfl (nI_1 _) (by decide) rfl (fun ls hl => ?_)
          refine lv_goto (tgt := 5) hx hb dM_above_44 (by decide) ?_
          exact ih (i + 1) (by omega) ls (lv_sub hl [2, 3, 4, 1, 0] rfl)
  exact loop D 0 (by omega) ls (lv_sub hl [2, 3, 4, 1, 0] rfl)
set_option maxHeartbeats 4000000 in
set_option maxRecDepth 100000 in
theorem tM_estimateOf (l : Launch) {dC : Nat → ClassId} {dI : Nat → Nat → Nat} {cI cJ cB : ClassId} {ad : Nat → Nat} {lev val chs dig : Nat → Int32} {est cst : Nat → Int64} {code : Int32} {D N F k : Nat} {L V : Nat → Nat} {v : Nat} (hR : zm_R D N F L V lev val dig) (hv : v < N) : zt_Met l yM_estimateOf wM_estimateOf rM_estimateOf (va_Pc [.ref (ad 0), .int (nI v)] (zg_B dC dI cI cJ cB (zm_w ad cI cJ cB lev val chs dig est cst code D N F k))) (zt_Qr (some (.long (lN (zq_es L V D F v))))) 0 0 0 0 (fun _ => False) := by
  refine zt_ofW (cc := cM_estimateOf) (maxL := 6) (ret := (some .long)) (by decide) rfl ?_
  intro p e s m args below meth c s₁ B hml hout hv
  obtain ⟨rfl, hP, hK⟩ := hv
  have hx := B.exec
  have hb := B.bytes
  have hr := B.returns
  have hz : ∀ w ∈ zw0, w.before ([.ref (ad 0), .int (nI v)] : List Value).toArray s = true := fun w h => atoms_spec (ws := wM_estimateOf) B.pre w (List.mem_cons_of_mem _ h)
  have hown : s.vm.findClass RM = some m.cls := findClass_of_methodNamed B.named
  have hlocks := B.notSynchronized
  have hl := lv_entry ([.ref (ad 0), .int (nI v)]) (n := 6) (Nat.le_of_ble_eq_true rfl)
  rw [lg_entry_eq]
  generalize (lg_sl ([.ref (ad 0), .int (nI v)]) ++ List.replicate (6 - (lg_sl ([.ref (ad 0), .int (nI v)])).length) Slot.unset).toArray = ls at hl ⊢
  have hl : lv_has ls 6 [(0, .ref (ad 0)), (1, .int (nI v))] := hl
  have hR9 := hR
  obtain ⟨hD, hL, hN, hN5, hF, hVb, hlev, hval, hdg⟩ := hR
  refine lv_lconst (v := lN 1) hx hb dM_estimateOf_0 (by decide) ?_
  refine lv_lstore_n (lv' := [(2, .long (lN 1)), (0, .ref (ad 0)), (1, .int (nI v))]) hx hb dM_estimateOf_1 rfl hl (by decide) rfl (fun ls hl => ?_)
  refine lv_iconst (v := nI 0) hx hb dM_estimateOf_2 (by decide) ?_
  refine lv_istore (lv' := [(4, .int (nI 0)), (2, .long (lN 1)), (0, .ref (ad 0)), (1, .int (nI v))]) hx hb dM_estimateOf_3 hl (by decide) rfl (fun ls hl => ?_)
  have loop : ∀ (n i : Nat), i + n = D → ∀ ls : Array Slot, lv_has ls 6 [(0, .ref (ad 0)), (1, .int (nI v)), (2, .long (lN (min 5000000000 (zq_pr L V D v i)))), (4, .int (nI i))] → W p l e (headSpec wM_estimateOf rM_estimateOf).room s m ([.ref (ad 0), .int (nI v)] : List Value).toArray below meth c s.heap [] 0 0 (zt_MQ below (zt_Qr (some (.long (lN (zq_es L V D F v))))) ([.ref (ad 0), .int (nI v)] : List Value).toArray s 0 0 0 0 (fun _ => False)) (F0 m 5 ls []) := by
    intro n
    induction n with
    | zero =>
      intro i hi ls hl
      have e1 : i = D := by omega
      subst e1
      refine lv_iload hx hb dM_estimateOf_5 (lv_at hl 3 rfl) ?_
      refine lv_aload_n hx hb dM_estimateOf_7 rfl (lv_at hl 0 rfl) ?_
      refine va_get (D := (dC, dI)) (ci := 1) (v := .int (nI i)) (C := RM) (T := TM) (N := 11) hx hb hz in_M hown hK hP 0 rfl rfl 1 (by decide) (hz _ kf_M_37) (fun _ h9 => h9) rfl dM_estimateOf_8 ?_
      refine zj_ge (tgt := 73) hx hb dM_estimateOf_11 (by decide) (by omega) (by omega) (fun _ => ?_) (fun c11 => absurd c11 (by omega))
      refine lv_lload_n hx hb dM_estimateOf_73 rfl (lv_at hl 2 rfl) ?_
      refine lv_aload_n hx hb dM_estimateOf_74 rfl (lv_at hl 0 rfl) ?_
      refine va_get (D := (dC, dI)) (ci := 1) (v := .int (nI F)) (C := RM) (T := TM) (N := 11) hx hb hz in_M hown hK hP 0 rfl rfl 4 (by decide) (hz _ kf_M_51) (fun _ h9 => h9) rfl dM_estimateOf_75 ?_
      refine lv_i2l (v := lN F) hx hb dM_estimateOf_78 (nI_l (by omega)) ?_
      refine zl_ge (tgt := 87) hx hb dM_estimateOf_79 dM_estimateOf_80 (by decide) (by omega) (by omega) (fun c79 => ?_) (fun c79 => ?_)
      · refine lv_aload_n hx hb dM_estimateOf_87 rfl (lv_at hl 0 rfl) ?_
        refine va_get (D := (dC, dI)) (ci := 1) (v := .int (nI F)) (C := RM) (T := TM) (N := 11) hx hb hz in_M hown hK hP 0 rfl rfl 4 (by decide) (hz _ kf_M_51) (fun _ h9 => h9) rfl dM_estimateOf_88 ?_
        refine lv_i2l (v := lN F) hx hb dM_estimateOf_91 (nI_l (by omega)) ?_
        exact zt_rl hx hb hr hlocks (fun t ht _ => ⟨by rw [show zq_es L V i F v = F by unfold zq_es; omega], ht⟩) (fun q h => by cases h) dM_estimateOf_92
      · refine lv_lload_n hx hb dM_estimateOf_83 rfl (lv_at hl 2 rfl) ?_
        refine lv_goto (tgt := 92) hx hb dM_estimateOf_84 (by decide) ?_
        exact zt_rl hx hb hr hlocks (fun t ht _ => ⟨by rw [show min 5000000000 (zq_pr L V i v i) = zq_es L V i F v by unfold zq_es; omega], ht⟩) (fun q h => by cases h) dM_estimateOf_92
    | succ n ih =>
      intro i hi ls hl
      refine lv_iload hx hb dM_estimateOf_5 (lv_at hl 3 rfl) ?_
      refine lv_aload_n hx hb dM_estimateOf_7 rfl (lv_at hl 0 rfl) ?_
      refine va_get (D := (dC, dI)) (ci := 1) (v := .int (nI D)) (C := RM) (T := TM) (N := 11) hx hb hz in_M hown hK hP 0 rfl rfl 1 (by decide) (hz _ kf_M_37) (fun _ h9 => h9) rfl dM_estimateOf_8 ?_
      refine zj_ge (tgt := 73) hx hb dM_estimateOf_11 (by decide) (by omega) (by omega) (fun c11 => absurd c11 (by omega)) (fun _ => ?_)
      refine lv_aload_n hx hb dM_estimateOf_14 rfl (lv_at hl 0 rfl) ?_
      refine lv_iload_n hx hb dM_estimateOf_15 rfl (lv_at hl 1 rfl) ?_
      refine lv_iload hx hb dM_estimateOf_16 (lv_at hl 3 rfl) ?_
      refine zt_callRi (zg_run (rest := []) hx hb hml hown (tM_digitOf l hR9 hv (by omega)) (wcM_58 hz (Nat.le_of_ble_eq_true rfl) (Nat.le_of_ble_eq_true rfl)) (hz _ ki_M_digitOf) (hz _ ks_M_digitOf) (hz _ kC_M_digitOf) hP hK rfl (q0 := 0) rfl rfl hl.1 rfl (Nat.le_of_ble_eq_true rfl) dM_estimateOf_18 ⟨Nat.le_of_ble_eq_true rfl, Nat.le_of_ble_eq_true rfl⟩) ?_
      have hdl := zq_dg_le L D v i (by omega)
      have hLi := hL i (by omega)
      refine lv_istore (lv' := [(5, .int (nI (zq_dg L D v i))), (0, .ref (ad 0)), (1, .int (nI v)), (2, .long (lN (min 5000000000 (zq_pr L V D v i)))), (4, .int (nI i))]) hx hb dM_estimateOf_21 hl (by decide) rfl (fun ls hl => ?_)
      refine lv_iload hx hb dM_estimateOf_23 (lv_at hl 0 rfl) ?_
      refine lv_aload_n hx hb dM_estimateOf_25 rfl (lv_at hl 1 rfl) ?_
      refine va_get (D := (dC, dI)) (ci := 1) (v := .ref (ad 1)) (C := RM) (T := TM) (N := 11) hx hb hz in_M hown hK hP 0 rfl rfl 2 (by decide) (hz _ kf_M_7) (fun _ h9 => h9) rfl dM_estimateOf_26 ?_
      refine lv_iload hx hb dM_estimateOf_29 (lv_at hl 4 rfl) ?_
      refine zt_iald hx hb hK hP 1 0 rfl rfl (i := i) (by omega) (by decide) (v := (nI (L i))) (hlev i (by omega)) dM_estimateOf_31 ?_
      refine zj_ge (tgt := 67) hx hb dM_estimateOf_32 (by decide) (by omega) (by omega) (fun c32 => ?_) (fun c32 => ?_)
      · have e1 := zq_pr_n L V D v i (by omega)
        refine lv_iinc (v := nI (i + 1)) (lv' := [(4, .int (nI (i + 1))), (5, .int (nI (zq_dg L D v i))), (0, .ref (ad 0)), (1, .int (nI v)), (2, .long (lN (min 5000000000 (zq_pr L V D v i))))]) hx hb dM_estimateOf_67 hl (k := 4) rfl (nI_1 _) (by decide) rfl (fun ls hl => ?_)
        refine lv_goto (tgt := 5) hx hb dM_estimateOf_70 (by decide) ?_
        exact ih (i + 1) (by omega) ls (by rw [e1]; exact (lv_sub hl [2, 3, 4, 0] rfl))
      · have e1 := zq_pr_s L V D v i (by omega)
        have e2 := zq_cap 5000000000 (zq_pr L V D v i) (V (4 * i + zq_dg L D v i))
        rw [← e1] at e2
        refine lv_lload_n hx hb dM_estimateOf_35 rfl (lv_at hl 3 rfl) ?_
        refine lv_aload_n hx hb dM_estimateOf_36 rfl (lv_at hl 1 rfl) ?_
        refine va_get (D := (dC, dI)) (ci := 1) (v := .ref (ad 2)) (C := RM) (T := TM) (N := 11) hx hb hz in_M hown hK hP 0 rfl rfl 3 (by decide) (hz _ kf_M_13) (fun _ h9 => h9) rfl dM_estimateOf_37 ?_
        refine lv_iconst (v := nI 4) hx hb dM_estimateOf_40 (by decide) ?_
        refine lv_iload hx hb dM_estimateOf_41 (lv_at hl 4 rfl) ?_
        refine lv_imul hx hb dM_estimateOf_43 ?_
        refine zt_ti (pk_mul _ _) ?_
        refine lv_iload hx hb dM_estimateOf_44 (lv_at hl 0 rfl) ?_
        refine lv_iadd hx hb dM_estimateOf_46 ?_
        refine zt_ti (nI_add _ _) ?_
        refine zt_iald hx hb hK hP 2 0 rfl rfl (i := ((4 * i) + (zq_dg L D v i))) (by omega) (by decide) (v := (nI (V (4 * i + zq_dg L D v i)))) (hval _ (by omega)) dM_estimateOf_47 ?_
        refine lv_i2l (v := lN (V (4 * i + zq_dg L D v i))) hx hb dM_estimateOf_48 (nI_l (by have := hVb (4 * i + zq_dg L D v i); omega)) ?_
        refine lv_lmul hx hb dM_estimateOf_49 ?_
        refine zt_tl (lN_mul _ _) ?_
        refine lv_lstore_n (lv' := [(2, .long (lN ((min 5000000000 (zq_pr L V D v i)) * (V (4 * i + zq_dg L D v i))))), (5, .int (nI (zq_dg L D v i))), (0, .ref (ad 0)), (1, .int (nI v)), (4, .int (nI i))]) hx hb dM_estimateOf_50 rfl hl (by decide) rfl (fun ls hl => ?_)
        refine lv_lload_n hx hb dM_estimateOf_51 rfl (lv_at hl 0 rfl) ?_
        refine lv_ldc2 hx hb hown (hz _ kn_M_61) dM_estimateOf_52 ?_
        refine zt_tl (y := lN 5000000000) (by decide) ?_
        refine zl_le (tgt := 65) hx hb dM_estimateOf_55 dM_estimateOf_56 (by decide) (zq_fac5 (hVb _)) (by decide) (fun c55 => ?_) (fun c55 => ?_)
        · refine lv_lload_n hx hb dM_estimateOf_65 rfl (lv_at hl 0 rfl) ?_
          refine zt_tl (y := lN (min 5000000000 (zq_pr L V D v (i + 1)))) (by rw [← e2, Nat.min_eq_right c55]) ?_
          refine lv_lstore_n (lv' := [(2, .long (lN (min 5000000000 (zq_pr L V D v (i + 1))))), (5, .int (nI (zq_dg L D v i))), (0, .ref (ad 0)), (1, .int (nI v)), (4, .int (nI i))]) hx hb dM_estimateOf_66 rfl hl (by decide) rfl (fun ls hl => ?_)
          refine lv_iinc (v := nI (i + 1)) (lv' := [(4, .int (nI (i + 1))), (2, .long (lN (min 5000000000 (zq_pr L V D v (i + 1))))), (5, .int (nI (zq_dg L D v i))), (0, .ref (ad 0)), (1, .int (nI v))]) hx hb dM_estimateOf_67 hl (k := 4) rfl (nI_1 _) (by decide) rfl (fun ls hl => ?_)
          refine lv_goto (tgt := 5) hx hb dM_estimateOf_70 (by decide) ?_
          exact ih (i + 1) (by omega) ls (lv_sub hl [3, 4, 1, 0] rfl)
        · refine lv_ldc2 hx hb hown (hz _ kn_M_61) dM_estimateOf_59 ?_
          refine zt_tl (y := lN 5000000000) (by decide) ?_
          refine lv_goto (tgt := 66) hx hb dM_estimateOf_62 (by decide) ?_
          refine zt_tl (y := lN (min 5000000000 (zq_pr L V D v (i + 1)))) (by rw [← e2, Nat.min_eq_left (Nat.le_of_lt c55)]) ?_
          refine lv_lstore_n (lv' := [(2, .long (lN (min 5000000000 (zq_pr L V D v (i + 1))))), (5, .int (nI (zq_dg L D v i))), (0, .ref (ad 0)), (1, .int (nI v)), (4, .int (nI i))]) hx hb dM_estimateOf_66 rfl hl (by decide) rfl (fun ls hl => ?_)
          refine lv_iinc (v := nI (i + 1)) (lv' := [(4, .int (nI (i + 1))), (2, .long (lN (min 5000000000 (zq_pr L V D v (i + 1))))), (5, .int (nI (zq_dg L D v i))), (0, .ref (ad 0)), (1, .int (nI v))]) hx hb dM_estimateOf_67 hl (k := 4) rfl (nI_1 _) (by decide) rfl (fun ls hl => ?_)
          refine lv_goto (tgt := 5) hx hb dM_estimateOf_70 (by decide) ?_
          exact ih (i + 1) (by omega) ls (lv_sub hl [3, 4, 1, 0] rfl)
  exact loop D 0 (by omega) ls (lv_sub hl [2, 3, 1, 0] rfl)
set_option maxHeartbeats 4000000 in
set_option maxRecDepth 100000 in
theorem tM_benefitOf (l : Launch) {dC : Nat → ClassId} {dI : Nat → Nat → Nat} {cI cJ cB : ClassId} {ad : Nat → Nat} {lev val chs dig : Nat → Int32} {est cst : Nat → Int64} {code : Int32} {D N F k : Nat} {L V : Nat → Nat} {v : Nat} {ew cw : Nat → Nat} (he : ∀ w, w < N → est w = lN (ew w) ∧ ew w ≤ F) (hc : ∀ w, w < N → cst w = lN (cw w) ∧ cw w ≤ F) (hR : zm_R D N F L V lev val dig) (hv : v < N) : zt_Met l yM_benefitOf wM_benefitOf rM_benefitOf (va_Pc [.ref (ad 0), .int (nI v)] (zg_B dC dI cI cJ cB (zm_w ad cI cJ cB lev val chs dig est cst code D N F k))) (zt_Qr (some (.long (lN (zq_bn ew (zq_ab L D) cw N v))))) 0 0 0 0 (fun _ => False) := by
  refine zt_ofW (cc := cM_benefitOf) (maxL := 5) (ret := (some .long)) (by decide) rfl ?_
  intro p e s m args below meth c s₁ B hml hout hv
  obtain ⟨rfl, hP, hK⟩ := hv
  have hx := B.exec
  have hb := B.bytes
  have hr := B.returns
  have hz : ∀ w ∈ zw0, w.before ([.ref (ad 0), .int (nI v)] : List Value).toArray s = true := fun w h => atoms_spec (ws := wM_benefitOf) B.pre w (List.mem_cons_of_mem _ h)
  have hown : s.vm.findClass RM = some m.cls := findClass_of_methodNamed B.named
  have hlocks := B.notSynchronized
  have hl := lv_entry ([.ref (ad 0), .int (nI v)]) (n := 5) (Nat.le_of_ble_eq_true rfl)
  rw [lg_entry_eq]
  generalize (lg_sl ([.ref (ad 0), .int (nI v)]) ++ List.replicate (5 - (lg_sl ([.ref (ad 0), .int (nI v)])).length) Slot.unset).toArray = ls at hl ⊢
  have hl : lv_has ls 5 [(0, .ref (ad 0)), (1, .int (nI v))] := hl
  have hR9 := hR
  obtain ⟨hD, hL, hN, hN5, hF, hVb, hlev, hval, hdg⟩ := hR
  have hev := he v hv
  refine lv_lconst (v := lN 0) hx hb dM_benefitOf_0 (by decide) ?_
  refine lv_lstore_n (lv' := [(2, .long (lN 0)), (0, .ref (ad 0)), (1, .int (nI v))]) hx hb dM_benefitOf_1 rfl hl (by decide) rfl (fun ls hl => ?_)
  refine lv_iconst (v := nI 0) hx hb dM_benefitOf_2 (by decide) ?_
  refine lv_istore (lv' := [(4, .int (nI 0)), (2, .long (lN 0)), (0, .ref (ad 0)), (1, .int (nI v))]) hx hb dM_benefitOf_3 hl (by decide) rfl (fun ls hl => ?_)
  have loop : ∀ (n i : Nat), i + n = N → ∀ ls : Array Slot, lv_has ls 5 [(0, .ref (ad 0)), (1, .int (nI v)), (2, .long (lN (zq_sm (zq_bf ew (zq_ab L D) cw v) i))), (4, .int (nI i))] → W p l e (headSpec wM_benefitOf rM_benefitOf).room s m ([.ref (ad 0), .int (nI v)] : List Value).toArray below meth c s.heap [] 0 0 (zt_MQ below (zt_Qr (some (.long (lN (zq_bn ew (zq_ab L D) cw N v))))) ([.ref (ad 0), .int (nI v)] : List Value).toArray s 0 0 0 0 (fun _ => False)) (F0 m 5 ls []) := by
    intro n
    induction n with
    | zero =>
      intro i hi ls hl
      refine lv_iload hx hb dM_benefitOf_5 (lv_at hl 3 rfl) ?_
      refine lv_aload_n hx hb dM_benefitOf_7 rfl (lv_at hl 0 rfl) ?_
      refine va_get (D := (dC, dI)) (ci := 1) (v := .int (nI N)) (C := RM) (T := TM) (N := 11) hx hb hz in_M hown hK hP 0 rfl rfl 5 (by decide) (hz _ kf_M_16) (fun _ h9 => h9) rfl dM_benefitOf_8 ?_
      refine zj_ge (tgt := 64) hx hb dM_benefitOf_11 (by decide) (by omega) (by omega) (fun _ => ?_) (fun c11 => absurd c11 (by omega))
      refine lv_lload_n hx hb dM_benefitOf_64 rfl (lv_at hl 2 rfl) ?_
      have e1 : i = N := by omega
      subst e1
      exact zt_rl hx hb hr hlocks (fun t ht _ => ⟨rfl, ht⟩) (fun q h => by cases h) dM_benefitOf_65
    | succ n ih =>
      intro i hi ls hl
      have hci := hc i (by omega)
      refine lv_iload hx hb dM_benefitOf_5 (lv_at hl 3 rfl) ?_
      refine lv_aload_n hx hb dM_benefitOf_7 rfl (lv_at hl 0 rfl) ?_
      refine va_get (D := (dC, dI)) (ci := 1) (v := .int (nI N)) (C := RM) (T := TM) (N := 11) hx hb hz in_M hown hK hP 0 rfl rfl 5 (by decide) (hz _ kf_M_16) (fun _ h9 => h9) rfl dM_benefitOf_8 ?_
      refine zj_ge (tgt := 64) hx hb dM_benefitOf_11 (by decide) (by omega) (by omega) (fun c11 => absurd c11 (by omega)) (fun _ => ?_)
      refine lv_aload_n hx hb dM_benefitOf_14 rfl (lv_at hl 0 rfl) ?_
      refine va_get (D := (dC, dI)) (ci := 1) (v := .ref (ad 6)) (C := RM) (T := TM) (N := 11) hx hb hz in_M hown hK hP 0 rfl rfl 10 (by decide) (hz _ kf_M_31) (fun _ h9 => h9) rfl dM_benefitOf_15 ?_
      refine lv_iload hx hb dM_benefitOf_18 (lv_at hl 3 rfl) ?_
      refine zt_lald hx hb hK hP 6 1 rfl rfl (i := i) (by omega) (by decide) (v := (lN (cw i))) (hci.1) dM_benefitOf_20 ?_
      refine lv_aload_n hx hb dM_benefitOf_21 rfl (lv_at hl 0 rfl) ?_
      refine va_get (D := (dC, dI)) (ci := 1) (v := .ref (ad 5)) (C := RM) (T := TM) (N := 11) hx hb hz in_M hown hK hP 0 rfl rfl 9 (by decide) (hz _ kf_M_27) (fun _ h9 => h9) rfl dM_benefitOf_22 ?_
      refine lv_iload_n hx hb dM_benefitOf_25 rfl (lv_at hl 1 rfl) ?_
      refine zt_lald hx hb hK hP 5 1 rfl rfl (i := v) (by omega) (by decide) (v := (lN (ew v))) (hev.1) dM_benefitOf_26 ?_
      refine zl_le (tgt := 58) hx hb dM_benefitOf_27 dM_benefitOf_28 (by decide) (by omega) (by omega) (fun c27 => ?_) (fun c27 => ?_)
      · have e1 : zq_sm (zq_bf ew (zq_ab L D) cw v) (i + 1) = zq_sm (zq_bf ew (zq_ab L D) cw v) i := by
          show zq_sm (zq_bf ew (zq_ab L D) cw v) i + zq_bf ew (zq_ab L D) cw v i = _
          rw [zq_bf_f (fun q => by have := q.1; omega)]
          rfl
        refine lv_iinc (v := nI (i + 1)) (lv' := [(4, .int (nI (i + 1))), (0, .ref (ad 0)), (1, .int (nI v)), (2, .long (lN (zq_sm (zq_bf ew (zq_ab L D) cw v) i)))]) hx hb dM_benefitOf_58 hl (k := 3) rfl (nI_1 _) (by decide) rfl (fun ls hl => ?_)
        refine lv_goto (tgt := 5) hx hb dM_benefitOf_61 (by decide) ?_
        exact ih (i + 1) (by omega) ls (by rw [e1]; exact (lv_sub hl [1, 2, 3, 0] rfl))
      · refine lv_aload_n hx hb dM_benefitOf_31 rfl (lv_at hl 0 rfl) ?_
        refine lv_iload_n hx hb dM_benefitOf_32 rfl (lv_at hl 1 rfl) ?_
        refine lv_iload hx hb dM_benefitOf_33 (lv_at hl 3 rfl) ?_
        refine zt_callRi (zg_run (rest := []) hx hb hml hown (tM_above l hR9 hv (by omega)) (wcM_67 hz (Nat.le_of_ble_eq_true rfl) (Nat.le_of_ble_eq_true rfl)) (hz _ ki_M_above) (hz _ ks_M_above) (hz _ kC_M_above) hP hK rfl (q0 := 0) rfl rfl hl.1 rfl (Nat.le_of_ble_eq_true rfl) dM_benefitOf_35 ⟨Nat.le_of_ble_eq_true rfl, Nat.le_of_ble_eq_true rfl⟩) ?_
        refine zb_eq (tgt := 58) hx hb dM_benefitOf_38 (by decide) (fun c38 => ?_) (fun c38 => ?_)
        · have e1 : zq_sm (zq_bf ew (zq_ab L D) cw v) (i + 1) = zq_sm (zq_bf ew (zq_ab L D) cw v) i := by
            show zq_sm (zq_bf ew (zq_ab L D) cw v) i + zq_bf ew (zq_ab L D) cw v i = _
            rw [zq_bf_f (fun q => by have := q.2; rw [c38] at this; cases this)]
            rfl
          refine lv_iinc (v := nI (i + 1)) (lv' := [(4, .int (nI (i + 1))), (0, .ref (ad 0)), (1, .int (nI v)), (2, .long (lN (zq_sm (zq_bf ew (zq_ab L D) cw v) i)))]) hx hb dM_benefitOf_58 hl (k := 3) rfl (nI_1 _) (by decide) rfl (fun ls hl => ?_)
          refine lv_goto (tgt := 5) hx hb dM_benefitOf_61 (by decide) ?_
          exact ih (i + 1) (by omega) ls (by rw [e1]; exact (lv_sub hl [1, 2, 3, 0] rfl))
        · refine lv_lload_n hx hb dM_benefitOf_41 rfl (lv_at hl 2 rfl) ?_
          refine lv_aload_n hx hb dM_benefitOf_42 rfl (lv_at hl 0 rfl) ?_
          refine va_get (D := (dC, dI)) (ci := 1) (v := .ref (ad 6)) (C := RM) (T := TM) (N := 11) hx hb hz in_M hown hK hP 0 rfl rfl 10 (by decide) (hz _ kf_M_31) (fun _ h9 => h9) rfl dM_benefitOf_43 ?_
          refine lv_iload hx hb dM_benefitOf_46 (lv_at hl 3 rfl) ?_
          refine zt_lald hx hb hK hP 6 1 rfl rfl (i := i) (by omega) (by decide) (v := (lN (cw i))) (hci.1) dM_benefitOf_48 ?_
          refine lv_aload_n hx hb dM_benefitOf_49 rfl (lv_at hl 0 rfl) ?_
          refine va_get (D := (dC, dI)) (ci := 1) (v := .ref (ad 5)) (C := RM) (T := TM) (N := 11) hx hb hz in_M hown hK hP 0 rfl rfl 9 (by decide) (hz _ kf_M_27) (fun _ h9 => h9) rfl dM_benefitOf_50 ?_
          refine lv_iload_n hx hb dM_benefitOf_53 rfl (lv_at hl 1 rfl) ?_
          refine zt_lald hx hb hK hP 5 1 rfl rfl (i := v) (by omega) (by decide) (v := (lN (ew v))) (hev.1) dM_benefitOf_54 ?_
          refine lv_lsub hx hb dM_benefitOf_55 ?_
          refine zt_tl (lN_sub (by omega)) ?_
          refine lv_ladd hx hb dM_benefitOf_56 ?_
          refine zt_tl (lN_add _ _) ?_
          refine zt_tl (y := lN (zq_sm (zq_bf ew (zq_ab L D) cw v) (i + 1))) (by
            show _ = lN (zq_sm (zq_bf ew (zq_ab L D) cw v) i + zq_bf ew (zq_ab L D) cw v i)
            rw [zq_bf_t (by omega) c38]) ?_
          refine lv_lstore_n (lv' := [(2, .long (lN (zq_sm (zq_bf ew (zq_ab L D) cw v) (i + 1)))), (0, .ref (ad 0)), (1, .int (nI v)), (4, .int (nI i))]) hx hb dM_benefitOf_57 rfl hl (by decide) rfl (fun ls hl => ?_)
          refine lv_iinc (v := nI (i + 1)) (lv' := [(4, .int (nI (i + 1))), (2, .long (lN (zq_sm (zq_bf ew (zq_ab L D) cw v) (i + 1)))), (0, .ref (ad 0)), (1, .int (nI v))]) hx hb dM_benefitOf_58 hl (k := 3) rfl (nI_1 _) (by decide) rfl (fun ls hl => ?_)
          refine lv_goto (tgt := 5) hx hb dM_benefitOf_61 (by decide) ?_
          exact ih (i + 1) (by omega) ls (lv_sub hl [2, 3, 1, 0] rfl)
  exact loop N 0 (by omega) ls (lv_sub hl [2, 3, 1, 0] rfl)
