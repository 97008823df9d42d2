/-! the chooser: readers that may throw: by program (wip/gen/class_checks.py) -/
set_option maxHeartbeats 4000000 in
set_option maxRecDepth 100000 in
theorem tX_checkView (l : Launch) {dC : Nat → ClassId} {dI : Nat → Nat → Nat} {cI cJ cB : ClassId} {ad : Nat → Nat} {lev val pkd : Nat → Int32} {cst : Nat → Int64} {chs : Nat → Int32} {D N F k : Nat} {p0 : Int32} (hst : l.stackTraces = false) (h5 : N ≤ 512) : zt_Met l yX_checkView wX_checkView rX_checkView (va_Pc [.ref (ad 0), .int p0] (zg_T3 dC dI cI cJ cB (zx_w ad cI cJ lev val pkd cst chs D N F k))) (zt_Qp (zb_in p0 N = true) none zE_A) 0 0 1 6 (fun _ => False) := by
  refine zt_ofW (cc := cX_checkView) (maxL := 2) (ret := none) (by decide) rfl ?_
  intro p e s m args below meth c s₁ B hml hout hv
  obtain ⟨rfl, hP, hK, hTS⟩ := hv
  have hx := B.exec
  have hb := B.bytes
  have hr := B.returns
  have hz : ∀ w ∈ zw0, w.before ([.ref (ad 0), .int p0] : List Value).toArray s = true := fun w h => atoms_spec (ws := wX_checkView) B.pre w (List.mem_cons_of_mem _ h)
  have hown : s.vm.findClass RX = some m.cls := findClass_of_methodNamed B.named
  have hlocks := B.notSynchronized
  have hl := lv_entry ([.ref (ad 0), .int p0]) (n := 2) (Nat.le_of_ble_eq_true rfl)
  rw [lg_entry_eq]
  generalize (lg_sl ([.ref (ad 0), .int p0]) ++ List.replicate (2 - (lg_sl ([.ref (ad 0), .int p0])).length) Slot.unset).toArray = ls at hl ⊢
  have hl : lv_has ls 2 [(0, .ref (ad 0)), (1, .int p0)] := hl
  have htr : e.platform.stackTraces = false := (show e.platform.stackTraces = l.stackTraces by rw [B.admits.platform]).trans hst
  refine lv_iload_n hx hb dX_checkView_0 rfl (lv_at hl 1 rfl) ?_
  refine lv_if_lt (tgt := 12) hx hb dX_checkView_1 (by decide) (fun c1 => ?_) (fun c1 => ?_)
  · exact zt_throwA (tx := "there is no such view") hx hb htr (hl.1.trans hml.symm) hown hz hTS (by decide +kernel) hout hlocks dX_checkView_12 dX_checkView_15 dX_checkView_16 dX_checkView_18 dX_checkView_21 (Nat.le_of_ble_eq_true rfl) (Nat.le_of_ble_eq_true rfl) (Nat.le_of_ble_eq_true rfl) (Nat.le_of_ble_eq_true rfl) (Nat.le_of_ble_eq_true rfl) (Nat.le_of_ble_eq_true rfl) (fun t x hTh hW => Or.inr ⟨zb_neg c1, x, rfl, hTh⟩)
  · obtain ⟨j, hj, rfl⟩ := nI_of c1
    refine lv_iload_n hx hb dX_checkView_4 rfl (lv_at hl 1 rfl) ?_
    refine lv_aload_n hx hb dX_checkView_5 rfl (lv_at hl 0 rfl) ?_
    refine va_get (D := (dC, dI)) (ci := 0) (v := .int (nI N)) (C := RX) (T := TX) (N := 9) hx hb hz in_X hown hK hP 0 rfl rfl 6 (by decide) (hz _ kf_X_30) (fun _ h9 => h9) rfl dX_checkView_6 ?_
    refine zj_lt (tgt := 22) hx hb dX_checkView_9 (by decide) (by omega) (by omega) (fun c9 => ?_) (fun c9 => ?_)
    · exact zt_rv hx hb hr hlocks (fun t ht _ => Or.inl ⟨zb_t c9 (by omega), rfl, ht⟩) (fun q h => by cases h) dX_checkView_22
    · exact zt_throwA (tx := "there is no such view") hx hb htr (hl.1.trans hml.symm) hown hz hTS (by decide +kernel) hout hlocks dX_checkView_12 dX_checkView_15 dX_checkView_16 dX_checkView_18 dX_checkView_21 (Nat.le_of_ble_eq_true rfl) (Nat.le_of_ble_eq_true rfl) (Nat.le_of_ble_eq_true rfl) (Nat.le_of_ble_eq_true rfl) (Nat.le_of_ble_eq_true rfl) (Nat.le_of_ble_eq_true rfl) (fun t x hTh hW => Or.inr ⟨zb_big c9 hj, x, rfl, hTh⟩)
set_option maxHeartbeats 4000000 in
set_option maxRecDepth 100000 in
theorem tX_checkDimension (l : Launch) {dC : Nat → ClassId} {dI : Nat → Nat → Nat} {cI cJ cB : ClassId} {ad : Nat → Nat} {lev val pkd : Nat → Int32} {cst : Nat → Int64} {chs : Nat → Int32} {D N F k : Nat} {p0 : Int32} (hst : l.stackTraces = false) (h5 : D ≤ 512) : zt_Met l yX_checkDimension wX_checkDimension rX_checkDimension (va_Pc [.ref (ad 0), .int p0] (zg_T3 dC dI cI cJ cB (zx_w ad cI cJ lev val pkd cst chs D N F k))) (zt_Qp (zb_in p0 D = true) none zE_A) 0 0 1 6 (fun _ => False) := by
  refine zt_ofW (cc := cX_checkDimension) (maxL := 2) (ret := none) (by decide) rfl ?_
  intro p e s m args below meth c s₁ B hml hout hv
  obtain ⟨rfl, hP, hK, hTS⟩ := hv
  have hx := B.exec
  have hb := B.bytes
  have hr := B.returns
  have hz : ∀ w ∈ zw0, w.before ([.ref (ad 0), .int p0] : List Value).toArray s = true := fun w h => atoms_spec (ws := wX_checkDimension) B.pre w (List.mem_cons_of_mem _ h)
  have hown : s.vm.findClass RX = some m.cls := findClass_of_methodNamed B.named
  have hlocks := B.notSynchronized
  have hl := lv_entry ([.ref (ad 0), .int p0]) (n := 2) (Nat.le_of_ble_eq_true rfl)
  rw [lg_entry_eq]
  generalize (lg_sl ([.ref (ad 0), .int p0]) ++ List.replicate (2 - (lg_sl ([.ref (ad 0), .int p0])).length) Slot.unset).toArray = ls at hl ⊢
  have hl : lv_has ls 2 [(0, .ref (ad 0)), (1, .int p0)] := hl
  have htr : e.platform.stackTraces = false := (show e.platform.stackTraces = l.stackTraces by rw [B.admits.platform]).trans hst
  refine lv_iload_n hx hb dX_checkDimension_0 rfl (lv_at hl 1 rfl) ?_
  refine lv_if_lt (tgt := 12) hx hb dX_checkDimension_1 (by decide) (fun c1 => ?_) (fun c1 => ?_)
  · exact zt_throwA (tx := "there is no such dimension") hx hb htr (hl.1.trans hml.symm) hown hz hTS (by decide +kernel) hout hlocks dX_checkDimension_12 dX_checkDimension_15 dX_checkDimension_16 dX_checkDimension_18 dX_checkDimension_21 (Nat.le_of_ble_eq_true rfl) (Nat.le_of_ble_eq_true rfl) (Nat.le_of_ble_eq_true rfl) (Nat.le_of_ble_eq_true rfl) (Nat.le_of_ble_eq_true rfl) (Nat.le_of_ble_eq_true rfl) (fun t x hTh hW => Or.inr ⟨zb_neg c1, x, rfl, hTh⟩)
  · obtain ⟨j, hj, rfl⟩ := nI_of c1
    refine lv_iload_n hx hb dX_checkDimension_4 rfl (lv_at hl 1 rfl) ?_
    refine lv_aload_n hx hb dX_checkDimension_5 rfl (lv_at hl 0 rfl) ?_
    refine va_get (D := (dC, dI)) (ci := 0) (v := .int (nI D)) (C := RX) (T := TX) (N := 9) hx hb hz in_X hown hK hP 0 rfl rfl 5 (by decide) (hz _ kf_X_26) (fun _ h9 => h9) rfl dX_checkDimension_6 ?_
    refine zj_lt (tgt := 22) hx hb dX_checkDimension_9 (by decide) (by omega) (by omega) (fun c9 => ?_) (fun c9 => ?_)
    · exact zt_rv hx hb hr hlocks (fun t ht _ => Or.inl ⟨zb_t c9 (by omega), rfl, ht⟩) (fun q h => by cases h) dX_checkDimension_22
    · exact zt_throwA (tx := "there is no such dimension") hx hb htr (hl.1.trans hml.symm) hown hz hTS (by decide +kernel) hout hlocks dX_checkDimension_12 dX_checkDimension_15 dX_checkDimension_16 dX_checkDimension_18 dX_checkDimension_21 (Nat.le_of_ble_eq_true rfl) (Nat.le_of_ble_eq_true rfl) (Nat.le_of_ble_eq_true rfl) (Nat.le_of_ble_eq_true rfl) (Nat.le_of_ble_eq_true rfl) (Nat.le_of_ble_eq_true rfl) (fun t x hTh hW => Or.inr ⟨zb_big c9 hj, x, rfl, hTh⟩)
set_option maxHeartbeats 4000000 in
set_option maxRecDepth 100000 in
theorem tX_checkRoomForChosen (l : Launch) {dC : Nat → ClassId} {dI : Nat → Nat → Nat} {cI cJ cB : ClassId} {ad : Nat → Nat} {lev val pkd : Nat → Int32} {cst : Nat → Int64} {chs : Nat → Int32} {D N F k : Nat} (hst : l.stackTraces = false) (h5 : k ≤ 16) : zt_Met l yX_checkRoomForChosen wX_checkRoomForChosen rX_checkRoomForChosen (va_Pc [.ref (ad 0)] (zg_T3 dC dI cI cJ cB (zx_w ad cI cJ lev val pkd cst chs D N F k))) (zt_Qp (k < 16) none zE_S) 0 0 1 6 (fun _ => False) := by
  refine zt_ofW (cc := cX_checkRoomForChosen) (maxL := 1) (ret := none) (by decide) rfl ?_
  intro p e s m args below meth c s₁ B hml hout hv
  obtain ⟨rfl, hP, hK, hTS⟩ := hv
  have hx := B.exec
  have hb := B.bytes
  have hr := B.returns
  have hz : ∀ w ∈ zw0, w.before ([.ref (ad 0)] : List Value).toArray s = true := fun w h => atoms_spec (ws := wX_checkRoomForChosen) B.pre w (List.mem_cons_of_mem _ h)
  have hown : s.vm.findClass RX = some m.cls := findClass_of_methodNamed B.named
  have hlocks := B.notSynchronized
  have hl := lv_entry ([.ref (ad 0)]) (n := 1) (Nat.le_of_ble_eq_true rfl)
  rw [lg_entry_eq]
  generalize (lg_sl ([.ref (ad 0)]) ++ List.replicate (1 - (lg_sl ([.ref (ad 0)])).length) Slot.unset).toArray = ls at hl ⊢
  have hl : lv_has ls 1 [(0, .ref (ad 0))] := hl
  have htr : e.platform.stackTraces = false := (show e.platform.stackTraces = l.stackTraces by rw [B.admits.platform]).trans hst
  refine lv_aload_n hx hb dX_checkRoomForChosen_0 rfl (lv_at hl 0 rfl) ?_
  refine va_get (D := (dC, dI)) (ci := 0) (v := .int (nI k)) (C := RX) (T := TX) (N := 9) hx hb hz in_X hown hK hP 0 rfl rfl 8 (by decide) (hz _ kf_X_36) (fun _ h9 => h9) rfl dX_checkRoomForChosen_1 ?_
  refine lv_bipush (v := nI 16) hx hb dX_checkRoomForChosen_4 (by decide) ?_
  refine zj_lt (tgt := 19) hx hb dX_checkRoomForChosen_6 (by decide) (by omega) (by omega) (fun c6 => ?_) (fun c6 => ?_)
  · exact zt_rv hx hb hr hlocks (fun t ht _ => Or.inl ⟨c6, rfl, ht⟩) (fun q h => by cases h) dX_checkRoomForChosen_19
  · exact zt_throwI (tx := "16 views are chosen") hx hb htr (hl.1.trans hml.symm) hown hz hTS (by decide +kernel) hout hlocks dX_checkRoomForChosen_9 dX_checkRoomForChosen_12 dX_checkRoomForChosen_13 dX_checkRoomForChosen_15 dX_checkRoomForChosen_18 (Nat.le_of_ble_eq_true rfl) (Nat.le_of_ble_eq_true rfl) (Nat.le_of_ble_eq_true rfl) (Nat.le_of_ble_eq_true rfl) (Nat.le_of_ble_eq_true rfl) (Nat.le_of_ble_eq_true rfl) (fun t x hTh hW => Or.inr ⟨by omega, x, rfl, hTh⟩)
set_option maxHeartbeats 4000000 in
set_option maxRecDepth 100000 in
theorem tX_digit (l : Launch) {dC : Nat → ClassId} {dI : Nat → Nat → Nat} {cI cJ cB : ClassId} {ad : Nat → Nat} {lev val pkd : Nat → Int32} {cst : Nat → Int64} {chs : Nat → Int32} {D N F k : Nat} {L V : Nat → Nat} {p0 p1 : Int32} (hst : l.stackTraces = false) (hR : zx_R D N F L V lev val pkd) : zt_Met l yX_digit wX_digit rX_digit (va_Pc [.ref (ad 0), .int p0, .int p1] (zg_T3 dC dI cI cJ cB (zx_w ad cI cJ lev val pkd cst chs D N F k))) (zt_Qp ((zb_in p0 N && zb_in p1 D) = true) (some (.int (nI (zq_dg L D p0.toNatClampNeg p1.toNatClampNeg)))) zE_A) 0 0 1 6 (fun _ => False) := by
  refine zt_ofW (cc := cX_digit) (maxL := 3) (ret := (some .int)) (by decide) rfl ?_
  intro p e s m args below meth c s₁ B hml hout hv
  obtain ⟨rfl, hP, hK, hTS⟩ := hv
  have hx := B.exec
  have hb := B.bytes
  have hr := B.returns
  have hz : ∀ w ∈ zw0, w.before ([.ref (ad 0), .int p0, .int p1] : List Value).toArray s = true := fun w h => atoms_spec (ws := wX_digit) B.pre w (List.mem_cons_of_mem _ h)
  have hown : s.vm.findClass RX = some m.cls := findClass_of_methodNamed B.named
  have hlocks := B.notSynchronized
  have hl := lv_entry ([.ref (ad 0), .int p0, .int p1]) (n := 3) (Nat.le_of_ble_eq_true rfl)
  rw [lg_entry_eq]
  generalize (lg_sl ([.ref (ad 0), .int p0, .int p1]) ++ List.replicate (3 - (lg_sl ([.ref (ad 0), .int p0, .int p1])).length) Slot.unset).toArray = ls at hl ⊢
  have hl : lv_has ls 3 [(0, .ref (ad 0)), (1, .int p0), (2, .int p1)] := hl
  have htr : e.platform.stackTraces = false := (show e.platform.stackTraces = l.stackTraces by rw [B.admits.platform]).trans hst
  obtain ⟨hD, hL, hN, hN5, hF, hVb, hlev, hval, hpk⟩ := hR
  have hL4 : ∀ j, j < D → L j ≤ 4 := fun j hj => (hL j hj).2
  refine lv_aload_n hx hb dX_digit_0 rfl (lv_at hl 0 rfl) ?_
  refine lv_iload_n hx hb dX_digit_1 rfl (lv_at hl 1 rfl) ?_
  refine zt_callP (zg_runT (rest := []) hx hb hml hown (tX_checkView l hst hN5) (wcX_71 hz (Nat.le_of_ble_eq_true rfl) (Nat.le_of_ble_eq_true rfl)) (hz _ ki_X_checkView) (hz _ ks_X_checkView) (hz _ kC_X_checkView) hP hK hTS rfl (q0 := 0) rfl rfl hl.1 rfl (Nat.le_of_ble_eq_true rfl) dX_digit_2 ⟨Nat.le_of_ble_eq_true rfl, Nat.le_of_ble_eq_true rfl⟩) hout hlocks (Nat.le_of_ble_eq_true rfl) (Nat.le_of_ble_eq_true rfl) (fun hno t x hTh hW => Or.inr ⟨fun q => hno (by simp at q; exact q.1), x, rfl, hTh⟩) (fun hok1 => ?_)
  refine W.eq (g2 := F0 m 5 ls []) rfl ?_
  refine lv_aload_n hx hb dX_digit_5 rfl (lv_at hl 0 rfl) ?_
  refine lv_iload_n hx hb dX_digit_6 rfl (lv_at hl 2 rfl) ?_
  refine zt_callP (zg_runT (rest := []) hx hb hml hown (tX_checkDimension l hst (by omega)) (wcX_60 hz (Nat.le_of_ble_eq_true rfl) (Nat.le_of_ble_eq_true rfl)) (hz _ ki_X_checkDimension) (hz _ ks_X_checkDimension) (hz _ kC_X_checkDimension) hP hK hTS rfl (q0 := 0) rfl rfl hl.1 rfl (Nat.le_of_ble_eq_true rfl) dX_digit_7 ⟨Nat.le_of_ble_eq_true rfl, Nat.le_of_ble_eq_true rfl⟩) hout hlocks (Nat.le_of_ble_eq_true rfl) (Nat.le_of_ble_eq_true rfl) (fun hno t x hTh hW => Or.inr ⟨fun q => hno (by simp at q; exact q.2), x, rfl, hTh⟩) (fun hok2 => ?_)
  refine W.eq (g2 := F0 m 10 ls []) rfl ?_
  obtain ⟨v, hv, rfl⟩ := zb_of hok1 (by omega)
  obtain ⟨d, hd, rfl⟩ := zb_of hok2 (by omega)
  refine lv_aload_n hx hb dX_digit_10 rfl (lv_at hl 0 rfl) ?_
  refine va_get (D := (dC, dI)) (ci := 0) (v := .ref (ad 3)) (C := RX) (T := TX) (N := 9) hx hb hz in_X hown hK hP 0 rfl rfl 2 (by decide) (hz _ kf_X_16) (fun _ h9 => h9) rfl dX_digit_11 ?_
  refine lv_iload_n hx hb dX_digit_14 rfl (lv_at hl 1 rfl) ?_
  refine zt_iald hx hb hK hP 3 0 rfl rfl (i := v) (by omega) (by decide) (v := (nI (zq_pk L D v))) (hpk v hv) dX_digit_15 ?_
  refine lv_iload_n hx hb dX_digit_16 rfl (lv_at hl 2 rfl) ?_
  refine zt_callRi (zs_run (rest := []) hx hb hml hown (tX_unpackDigit l hD hL4 hd) (wcX_74 hz (Nat.le_of_ble_eq_true rfl) (Nat.le_of_ble_eq_true rfl)) (hz _ kst_X_unpackDigit) (hz _ kC_X_unpackDigit) rfl hl.1 rfl (Nat.le_of_ble_eq_true rfl) dX_digit_17 ⟨Nat.le_of_ble_eq_true rfl, Nat.le_of_ble_eq_true rfl⟩) ?_
  exact zt_ri hx hb hr hlocks (fun t ht _ => Or.inl ⟨by rw [hok1, hok2]; rfl, by rw [nI_clamp (by omega), nI_clamp (by omega)], ht⟩) (fun q h => by cases h) dX_digit_20
set_option maxHeartbeats 4000000 in
set_option maxRecDepth 100000 in
theorem tX_isAbove (l : Launch) {dC : Nat → ClassId} {dI : Nat → Nat → Nat} {cI cJ cB : ClassId} {ad : Nat → Nat} {lev val pkd : Nat → Int32} {cst : Nat → Int64} {chs : Nat → Int32} {D N F k : Nat} {L V : Nat → Nat} {p0 p1 : Int32} (hst : l.stackTraces = false) (hR : zx_R D N F L V lev val pkd) : zt_Met l yX_isAbove wX_isAbove rX_isAbove (va_Pc [.ref (ad 0), .int p0, .int p1] (zg_T3 dC dI cI cJ cB (zx_w ad cI cJ lev val pkd cst chs D N F k))) (zt_Qp ((zb_in p0 N && zb_in p1 N) = true) (some (.int (if zq_ab L D p0.toNatClampNeg p1.toNatClampNeg = true then 1 else 0))) zE_A) 0 0 1 6 (fun _ => False) := by
  refine zt_ofW (cc := cX_isAbove) (maxL := 3) (ret := (some .boolean)) (by decide) rfl ?_
  intro p e s m args below meth c s₁ B hml hout hv
  obtain ⟨rfl, hP, hK, hTS⟩ := hv
  have hx := B.exec
  have hb := B.bytes
  have hr := B.returns
  have hz : ∀ w ∈ zw0, w.before ([.ref (ad 0), .int p0, .int p1] : List Value).toArray s = true := fun w h => atoms_spec (ws := wX_isAbove) B.pre w (List.mem_cons_of_mem _ h)
  have hown : s.vm.findClass RX = some m.cls := findClass_of_methodNamed B.named
  have hlocks := B.notSynchronized
  have hl := lv_entry ([.ref (ad 0), .int p0, .int p1]) (n := 3) (Nat.le_of_ble_eq_true rfl)
  rw [lg_entry_eq]
  generalize (lg_sl ([.ref (ad 0), .int p0, .int p1]) ++ List.replicate (3 - (lg_sl ([.ref (ad 0), .int p0, .int p1])).length) Slot.unset).toArray = ls at hl ⊢
  have hl : lv_has ls 3 [(0, .ref (ad 0)), (1, .int p0), (2, .int p1)] := hl
  have htr : e.platform.stackTraces = false := (show e.platform.stackTraces = l.stackTraces by rw [B.admits.platform]).trans hst
  obtain ⟨hD, hL, hN, hN5, hF, hVb, hlev, hval, hpk⟩ := hR
  have hL4 : ∀ j, j < D → L j ≤ 4 := fun j hj => (hL j hj).2
  refine lv_aload_n hx hb dX_isAbove_0 rfl (lv_at hl 0 rfl) ?_
  refine lv_iload_n hx hb dX_isAbove_1 rfl (lv_at hl 1 rfl) ?_
  refine zt_callP (zg_runT (rest := []) hx hb hml hown (tX_checkView l hst hN5) (wcX_71 hz (Nat.le_of_ble_eq_true rfl) (Nat.le_of_ble_eq_true rfl)) (hz _ ki_X_checkView) (hz _ ks_X_checkView) (hz _ kC_X_checkView) hP hK hTS rfl (q0 := 0) rfl rfl hl.1 rfl (Nat.le_of_ble_eq_true rfl) dX_isAbove_2 ⟨Nat.le_of_ble_eq_true rfl, Nat.le_of_ble_eq_true rfl⟩) hout hlocks (Nat.le_of_ble_eq_true rfl) (Nat.le_of_ble_eq_true rfl) (fun hno t x hTh hW => Or.inr ⟨fun q => hno (by simp at q; exact q.1), x, rfl, hTh⟩) (fun hok1 => ?_)
  refine W.eq (g2 := F0 m 5 ls []) rfl ?_
  refine lv_aload_n hx hb dX_isAbove_5 rfl (lv_at hl 0 rfl) ?_
  refine lv_iload_n hx hb dX_isAbove_6 rfl (lv_at hl 2 rfl) ?_
  refine zt_callP (zg_runT (rest := []) hx hb hml hown (tX_checkView l hst hN5) (wcX_71 hz (Nat.le_of_ble_eq_true rfl) (Nat.le_of_ble_eq_true rfl)) (hz _ ki_X_checkView) (hz _ ks_X_checkView) (hz _ kC_X_checkView) hP hK hTS rfl (q0 := 0) rfl rfl hl.1 rfl (Nat.le_of_ble_eq_true rfl) dX_isAbove_7 ⟨Nat.le_of_ble_eq_true rfl, Nat.le_of_ble_eq_true rfl⟩) hout hlocks (Nat.le_of_ble_eq_true rfl) (Nat.le_of_ble_eq_true rfl) (fun hno t x hTh hW => Or.inr ⟨fun q => hno (by simp at q; exact q.2), x, rfl, hTh⟩) (fun hok2 => ?_)
  refine W.eq (g2 := F0 m 10 ls []) rfl ?_
  obtain ⟨u, hu, rfl⟩ := zb_of hok1 (by omega)
  obtain ⟨v, hv, rfl⟩ := zb_of hok2 (by omega)
  refine lv_aload_n hx hb dX_isAbove_10 rfl (lv_at hl 0 rfl) ?_
  refine va_get (D := (dC, dI)) (ci := 0) (v := .ref (ad 3)) (C := RX) (T := TX) (N := 9) hx hb hz in_X hown hK hP 0 rfl rfl 2 (by decide) (hz _ kf_X_16) (fun _ h9 => h9) rfl dX_isAbove_11 ?_
  refine lv_iload_n hx hb dX_isAbove_14 rfl (lv_at hl 1 rfl) ?_
  refine zt_iald hx hb hK hP 3 0 rfl rfl (i := u) (by omega) (by decide) (v := (nI (zq_pk L D u))) (hpk u hu) dX_isAbove_15 ?_
  refine lv_aload_n hx hb dX_isAbove_16 rfl (lv_at hl 0 rfl) ?_
  refine va_get (D := (dC, dI)) (ci := 0) (v := .ref (ad 3)) (C := RX) (T := TX) (N := 9) hx hb hz in_X hown hK hP 0 rfl rfl 2 (by decide) (hz _ kf_X_16) (fun _ h9 => h9) rfl dX_isAbove_17 ?_
  refine lv_iload_n hx hb dX_isAbove_20 rfl (lv_at hl 2 rfl) ?_
  refine zt_iald hx hb hK hP 3 0 rfl rfl (i := v) (by omega) (by decide) (v := (nI (zq_pk L D v))) (hpk v hv) dX_isAbove_21 ?_
  refine zt_callRi (zs_run (rest := []) hx hb hml hown (tX_isAbovePacked l hD hL4) (wcX_78 hz (Nat.le_of_ble_eq_true rfl) (Nat.le_of_ble_eq_true rfl)) (hz _ kst_X_isAbovePacked) (hz _ kC_X_isAbovePacked) rfl hl.1 rfl (Nat.le_of_ble_eq_true rfl) dX_isAbove_22 ⟨Nat.le_of_ble_eq_true rfl, Nat.le_of_ble_eq_true rfl⟩) ?_
  exact zt_rz hx hb hr hlocks (by split <;> rfl) (fun t ht _ => Or.inl ⟨by rw [hok1, hok2]; rfl, by rw [nI_clamp (by omega), nI_clamp (by omega)], ht⟩) (fun q h => by cases h) dX_isAbove_25
set_option maxHeartbeats 4000000 in
set_option maxRecDepth 100000 in
theorem tX_told (l : Launch) {dC : Nat → ClassId} {dI : Nat → Nat → Nat} {cI cJ cB : ClassId} {ad : Nat → Nat} {lev val pkd : Nat → Int32} {cst : Nat → Int64} {chs : Nat → Int32} {D N F k : Nat} {L V : Nat → Nat} {p0 p1 : Int32} {cw : Nat → Nat} (hc : ∀ w, w < N → cst w = lN (cw w) ∧ cw w ≤ F) (hst : l.stackTraces = false) (hR : zx_R D N F L V lev val pkd) : zt_Met l yX_told wX_told rX_told (va_Pc [.ref (ad 0), .int p0, .int p1] (zg_T3 dC dI cI cJ cB (zx_w ad cI cJ lev val pkd cst chs D N F k))) (zt_Qp ((zb_in p0 N && zb_in p1 3) = true) (some (.long (lN (zq_told (zq_es L V D F) (zq_ab L D) cw N p0.toNatClampNeg p1.toNatClampNeg)))) zE_A) 0 0 1 6 (fun _ => False) := by
  refine zt_ofW (cc := cX_told) (maxL := 3) (ret := (some .long)) (by decide) rfl ?_
  intro p e s m args below meth c s₁ B hml hout hv
  obtain ⟨rfl, hP, hK, hTS⟩ := hv
  have hx := B.exec
  have hb := B.bytes
  have hr := B.returns
  have hz : ∀ w ∈ zw0, w.before ([.ref (ad 0), .int p0, .int p1] : List Value).toArray s = true := fun w h => atoms_spec (ws := wX_told) B.pre w (List.mem_cons_of_mem _ h)
  have hown : s.vm.findClass RX = some m.cls := findClass_of_methodNamed B.named
  have hlocks := B.notSynchronized
  have hl := lv_entry ([.ref (ad 0), .int p0, .int p1]) (n := 3) (Nat.le_of_ble_eq_true rfl)
  rw [lg_entry_eq]
  generalize (lg_sl ([.ref (ad 0), .int p0, .int p1]) ++ List.replicate (3 - (lg_sl ([.ref (ad 0), .int p0, .int p1])).length) Slot.unset).toArray = ls at hl ⊢
  have hl : lv_has ls 3 [(0, .ref (ad 0)), (1, .int p0), (2, .int p1)] := hl
  have htr : e.platform.stackTraces = false := (show e.platform.stackTraces = l.stackTraces by rw [B.admits.platform]).trans hst
  have hR9 := hR
  obtain ⟨hD, hL, hN, hN5, hF, hVb, hlev, hval, hpk⟩ := hR
  have hL4 : ∀ j, j < D → L j ≤ 4 := fun j hj => (hL j hj).2
  refine lv_aload_n hx hb dX_told_0 rfl (lv_at hl 0 rfl) ?_
  refine lv_iload_n hx hb dX_told_1 rfl (lv_at hl 1 rfl) ?_
  refine zt_callP (zg_runT (rest := []) hx hb hml hown (tX_checkView l hst hN5) (wcX_71 hz (Nat.le_of_ble_eq_true rfl) (Nat.le_of_ble_eq_true rfl)) (hz _ ki_X_checkView) (hz _ ks_X_checkView) (hz _ kC_X_checkView) hP hK hTS rfl (q0 := 0) rfl rfl hl.1 rfl (Nat.le_of_ble_eq_true rfl) dX_told_2 ⟨Nat.le_of_ble_eq_true rfl, Nat.le_of_ble_eq_true rfl⟩) hout hlocks (Nat.le_of_ble_eq_true rfl) (Nat.le_of_ble_eq_true rfl) (fun hno t x hTh hW => Or.inr ⟨fun q => hno (by simp at q; exact q.1), x, rfl, hTh⟩) (fun hok1 => ?_)
  refine W.eq (g2 := F0 m 5 ls []) rfl ?_
  obtain ⟨v, hv, rfl⟩ := zb_of hok1 (by omega)
  refine lv_iload_n hx hb dX_told_5 rfl (lv_at hl 2 rfl) ?_
  rcases pk_ix p1 (n := 3) (by decide) with hp | hp | ⟨j, hj, rfl⟩
  · refine lv_tableOut (tgt := 51) hx hb dX_told_6 (Or.inl (Int32.lt_iff_toInt_lt.mp hp)) (by decide) ?_
    exact zt_throwA (tx := "what is not 0 .. 2") hx hb htr (hl.1.trans hml.symm) hown hz hTS (by decide +kernel) hout hlocks dX_told_51 dX_told_54 dX_told_55 dX_told_57 dX_told_60 (Nat.le_of_ble_eq_true rfl) (Nat.le_of_ble_eq_true rfl) (Nat.le_of_ble_eq_true rfl) (Nat.le_of_ble_eq_true rfl) (Nat.le_of_ble_eq_true rfl) (Nat.le_of_ble_eq_true rfl) (fun t x hTh hW => Or.inr ⟨fun q => (zb_neg hp) (by simp at q; exact q.2), x, rfl, hTh⟩)
  · refine lv_tableOut (tgt := 51) hx hb dX_told_6 (Or.inr (by have h9 := Int32.le_iff_toInt_le.mp hp; rw [nI_toInt (by decide)] at h9; omega)) (by decide) ?_
    exact zt_throwA (tx := "what is not 0 .. 2") hx hb htr (hl.1.trans hml.symm) hown hz hTS (by decide +kernel) hout hlocks dX_told_51 dX_told_54 dX_told_55 dX_told_57 dX_told_60 (Nat.le_of_ble_eq_true rfl) (Nat.le_of_ble_eq_true rfl) (Nat.le_of_ble_eq_true rfl) (Nat.le_of_ble_eq_true rfl) (Nat.le_of_ble_eq_true rfl) (Nat.le_of_ble_eq_true rfl) (fun t x hTh hW => Or.inr ⟨fun q => (zb_bigI hp (by decide)) (by simp at q; exact q.2), x, rfl, hTh⟩)
  · have hr9 : zb_in (nI j) 3 = true := zb_t hj (by decide)
    rcases (show j = 0 ∨ j = 1 ∨ j = 2 by omega) with rfl | rfl | rfl
    · refine lv_tableIn (off := 26) (tgt := 32) hx hb dX_told_6 (by decide) (by decide) (by decide) (by decide) ?_
      refine lv_aload_n hx hb dX_told_32 rfl (lv_at hl 0 rfl) ?_
      refine lv_iload_n hx hb dX_told_33 rfl (lv_at hl 1 rfl) ?_
      refine zt_callRl (zg_run (rest := []) hx hb hml hown (tX_estimateOf l hR9 hv) (wcX_82 hz (Nat.le_of_ble_eq_true rfl) (Nat.le_of_ble_eq_true rfl)) (hz _ ki_X_estimateOf) (hz _ ks_X_estimateOf) (hz _ kC_X_estimateOf) hP hK rfl (q0 := 0) rfl rfl hl.1 rfl (Nat.le_of_ble_eq_true rfl) dX_told_34 ⟨Nat.le_of_ble_eq_true rfl, Nat.le_of_ble_eq_true rfl⟩) ?_
      exact zt_rl hx hb hr hlocks (fun t ht _ => Or.inl ⟨by rw [hok1, hr9]; rfl, by rw [nI_clamp (by omega), nI_clamp (by omega)]; rfl, ht⟩) (fun q h => by cases h) dX_told_37
    · refine lv_tableIn (off := 32) (tgt := 38) hx hb dX_told_6 (by decide) (by decide) (by decide) (by decide) ?_
      refine lv_aload_n hx hb dX_told_38 rfl (lv_at hl 0 rfl) ?_
      refine va_get (D := (dC, dI)) (ci := 0) (v := .ref (ad 4)) (C := RX) (T := TX) (N := 9) hx hb hz in_X hown hK hP 0 rfl rfl 3 (by decide) (hz _ kf_X_19) (fun _ h9 => h9) rfl dX_told_39 ?_
      refine lv_iload_n hx hb dX_told_42 rfl (lv_at hl 1 rfl) ?_
      refine zt_lald hx hb hK hP 4 1 rfl rfl (i := v) (by omega) (by decide) (v := (lN (cw v))) ((hc v hv).1) dX_told_43 ?_
      exact zt_rl hx hb hr hlocks (fun t ht _ => Or.inl ⟨by rw [hok1, hr9]; rfl, by rw [nI_clamp (by omega), nI_clamp (by omega)]; rfl, ht⟩) (fun q h => by cases h) dX_told_44
    · refine lv_tableIn (off := 39) (tgt := 45) hx hb dX_told_6 (by decide) (by decide) (by decide) (by decide) ?_
      refine lv_aload_n hx hb dX_told_45 rfl (lv_at hl 0 rfl) ?_
      refine lv_iload_n hx hb dX_told_46 rfl (lv_at hl 1 rfl) ?_
      refine zt_callRl (zg_run (rest := []) hx hb hml hown (tX_benefitOf l hc hR9 hv) (wcX_86 hz (Nat.le_of_ble_eq_true rfl) (Nat.le_of_ble_eq_true rfl)) (hz _ ki_X_benefitOf) (hz _ ks_X_benefitOf) (hz _ kC_X_benefitOf) hP hK rfl (q0 := 0) rfl rfl hl.1 rfl (Nat.le_of_ble_eq_true rfl) dX_told_47 ⟨Nat.le_of_ble_eq_true rfl, Nat.le_of_ble_eq_true rfl⟩) ?_
      exact zt_rl hx hb hr hlocks (fun t ht _ => Or.inl ⟨by rw [hok1, hr9]; rfl, by rw [nI_clamp (by omega), nI_clamp (by omega)]; rfl, ht⟩) (fun q h => by cases h) dX_told_50
set_option maxHeartbeats 4000000 in
set_option maxRecDepth 100000 in
theorem tX_chosen (l : Launch) {dC : Nat → ClassId} {dI : Nat → Nat → Nat} {cI cJ cB : ClassId} {ad : Nat → Nat} {lev val pkd : Nat → Int32} {cst : Nat → Int64} {chs : Nat → Int32} {D N F k : Nat} {S : Nat → Nat} {p0 : Int32} (hst : l.stackTraces = false) (h5 : k ≤ 16) (hs : ∀ i, i < k → chs i = nI (S i)) : zt_Met l yX_chosen wX_chosen rX_chosen (va_Pc [.ref (ad 0), .int p0] (zg_T3 dC dI cI cJ cB (zx_w ad cI cJ lev val pkd cst chs D N F k))) (zt_Qp (zb_in p0 k = true) (some (.int (nI (S p0.toNatClampNeg)))) zE_A) 0 0 1 6 (fun _ => False) := by
  refine zt_ofW (cc := cX_chosen) (maxL := 2) (ret := (some .int)) (by decide) rfl ?_
  intro p e s m args below meth c s₁ B hml hout hv
  obtain ⟨rfl, hP, hK, hTS⟩ := hv
  have hx := B.exec
  have hb := B.bytes
  have hr := B.returns
  have hz : ∀ w ∈ zw0, w.before ([.ref (ad 0), .int p0] : List Value).toArray s = true := fun w h => atoms_spec (ws := wX_chosen) B.pre w (List.mem_cons_of_mem _ h)
  have hown : s.vm.findClass RX = some m.cls := findClass_of_methodNamed B.named
  have hlocks := B.notSynchronized
  have hl := lv_entry ([.ref (ad 0), .int p0]) (n := 2) (Nat.le_of_ble_eq_true rfl)
  rw [lg_entry_eq]
  generalize (lg_sl ([.ref (ad 0), .int p0]) ++ List.replicate (2 - (lg_sl ([.ref (ad 0), .int p0])).length) Slot.unset).toArray = ls at hl ⊢
  have hl : lv_has ls 2 [(0, .ref (ad 0)), (1, .int p0)] := hl
  have htr : e.platform.stackTraces = false := (show e.platform.stackTraces = l.stackTraces by rw [B.admits.platform]).trans hst
  refine lv_iload_n hx hb dX_chosen_0 rfl (lv_at hl 1 rfl) ?_
  refine lv_if_lt (tgt := 12) hx hb dX_chosen_1 (by decide) (fun c1 => ?_) (fun c1 => ?_)
  · exact zt_throwA (tx := "there is no such chosen view") hx hb htr (hl.1.trans hml.symm) hown hz hTS (by decide +kernel) hout hlocks dX_chosen_12 dX_chosen_15 dX_chosen_16 dX_chosen_18 dX_chosen_21 (Nat.le_of_ble_eq_true rfl) (Nat.le_of_ble_eq_true rfl) (Nat.le_of_ble_eq_true rfl) (Nat.le_of_ble_eq_true rfl) (Nat.le_of_ble_eq_true rfl) (Nat.le_of_ble_eq_true rfl) (fun t x hTh hW => Or.inr ⟨zb_neg c1, x, rfl, hTh⟩)
  · obtain ⟨j, hj, rfl⟩ := nI_of c1
    refine lv_iload_n hx hb dX_chosen_4 rfl (lv_at hl 1 rfl) ?_
    refine lv_aload_n hx hb dX_chosen_5 rfl (lv_at hl 0 rfl) ?_
    refine va_get (D := (dC, dI)) (ci := 0) (v := .int (nI k)) (C := RX) (T := TX) (N := 9) hx hb hz in_X hown hK hP 0 rfl rfl 8 (by decide) (hz _ kf_X_36) (fun _ h9 => h9) rfl dX_chosen_6 ?_
    refine zj_lt (tgt := 22) hx hb dX_chosen_9 (by decide) (by omega) (by omega) (fun c9 => ?_) (fun c9 => ?_)
    · refine lv_aload_n hx hb dX_chosen_22 rfl (lv_at hl 0 rfl) ?_
      refine va_get (D := (dC, dI)) (ci := 0) (v := .ref (ad 5)) (C := RX) (T := TX) (N := 9) hx hb hz in_X hown hK hP 0 rfl rfl 4 (by decide) (hz _ kf_X_23) (fun _ h9 => h9) rfl dX_chosen_23 ?_
      refine lv_iload_n hx hb dX_chosen_26 rfl (lv_at hl 1 rfl) ?_
      refine zt_iald hx hb hK hP 5 0 rfl rfl (i := j) (by omega) (by decide) (v := (nI (S j))) (hs j c9) dX_chosen_27 ?_
      exact zt_ri hx hb hr hlocks (fun t ht _ => Or.inl ⟨zb_t c9 (by omega), by rw [nI_clamp hj], ht⟩) (fun q h => by cases h) dX_chosen_28
    · exact zt_throwA (tx := "there is no such chosen view") hx hb htr (hl.1.trans hml.symm) hown hz hTS (by decide +kernel) hout hlocks dX_chosen_12 dX_chosen_15 dX_chosen_16 dX_chosen_18 dX_chosen_21 (Nat.le_of_ble_eq_true rfl) (Nat.le_of_ble_eq_true rfl) (Nat.le_of_ble_eq_true rfl) (Nat.le_of_ble_eq_true rfl) (Nat.le_of_ble_eq_true rfl) (Nat.le_of_ble_eq_true rfl) (fun t x hTh hW => Or.inr ⟨zb_big c9 hj, x, rfl, hTh⟩)
