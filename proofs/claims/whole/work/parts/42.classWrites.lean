/-! the chooser: its own writers: by program (wip/gen/class_writes.py) -/
set_option maxHeartbeats 4000000 in
set_option maxRecDepth 100000 in
/-- all places of the costs -/
theorem tA_fill (l : Launch) {dC : Nat → ClassId} {dI : Nat → Nat → Nat} {cI cJ cB : ClassId} {ad : Nat → Nat} {lev val pkd : Nat → Int32} {cst : Nat → Int64} {chs : Nat → Int32} {D N F k : Nat} {x sz : Nat} (had : zg_ap ad 6) : zt_Met l yA_fill wA_fill rA_fill (va_Pc [.ref (ad 4), .long (lN x)] (zg_C dC dI cI cJ cB (zx_w ad cI cJ lev val pkd cst chs D N F k) sz)) (zg_Q dC dI (fun _ => none) (fun f : Nat → Int64 => ∀ j, j < 512 → f j = lN x) (fun f => zx_w ad cI cJ lev val pkd f chs D N F k) (zg_A ad 6 sz)) 0 0 0 0 (zg_A ad 6 sz) := by
  refine zt_ofW (cc := cA_fill) (maxL := 5) (ret := none) (by decide) rfl ?_
  intro p e s m args below meth c s₁ B hml hout hv
  obtain ⟨rfl, hsz, hP, hK⟩ := hv
  have hx := B.exec
  have hb := B.bytes
  have hr := B.returns
  have hz : ∀ w ∈ zw0, w.before ([.ref (ad 4), .long (lN x)] : List Value).toArray s = true := fun w h => atoms_spec (ws := wA_fill) B.pre w (List.mem_cons_of_mem _ h)
  have hown : s.vm.findClass RA = some m.cls := findClass_of_methodNamed B.named
  have hlocks := B.notSynchronized
  subst hsz
  have hS : va_S (zg_A ad 6 s.heap.size) s.heap s.heap [] := va_S.rf
  have hl := lv_entry ([.ref (ad 4), .long (lN x)]) (n := 5) (Nat.le_of_ble_eq_true rfl)
  rw [lg_entry_eq]
  generalize (lg_sl ([.ref (ad 4), .long (lN x)]) ++ List.replicate (5 - (lg_sl ([.ref (ad 4), .long (lN x)])).length) Slot.unset).toArray = ls at hl ⊢
  have hl : lv_has ls 5 [(0, .ref (ad 4)), (1, .long (lN x))] := hl
  refine lv_iconst (v := nI 0) hx hb dA_fill_0 (by decide) ?_
  refine lv_istore_n (lv' := [(3, .int (nI 0)), (0, .ref (ad 4)), (1, .long (lN x))]) hx hb dA_fill_1 rfl hl (by decide) rfl (fun ls hl => ?_)
  refine lv_aload_n hx hb dA_fill_2 rfl (lv_at hl 1 rfl) ?_
  refine va_alen hx hb hK hP 4 1 rfl rfl (v := nI 512) rfl dA_fill_3 ?_
  refine lv_istore (lv' := [(4, .int (nI 512)), (3, .int (nI 0)), (0, .ref (ad 4)), (1, .long (lN x))]) hx hb dA_fill_4 hl (by decide) rfl (fun ls hl => ?_)
  have loop : ∀ (n i : Nat), i + n = 512 → ∀ (f : Nat → Int64) (H : Heap) (locs : List Loc), (∀ j, j < i → f j = lN x) → va_P (dC, dI) zcl (zx_w ad cI cJ lev val pkd f chs D N F k) H → va_S (zg_A ad 6 s.heap.size) s.heap H locs → ∀ ls : Array Slot, lv_has ls 5 [(0, .ref (ad 4)), (1, .long (lN x)), (3, .int (nI i)), (4, .int (nI 512))] → W p l e (headSpec wA_fill rA_fill).room s m ([.ref (ad 4), .long (lN x)] : List Value).toArray below meth c H locs 0 0 (zt_MQ below (zg_Q dC dI (fun _ => none) (fun f : Nat → Int64 => ∀ j, j < 512 → f j = lN x) (fun f => zx_w ad cI cJ lev val pkd f chs D N F k) (zg_A ad 6 s.heap.size)) ([.ref (ad 4), .long (lN x)] : List Value).toArray s 0 0 0 0 (zg_A ad 6 s.heap.size)) (F0 m 6 ls []) := by
    intro n
    induction n with
    | zero =>
      intro i hi f H locs hf hP hS ls hl
      refine lv_iload_n hx hb dA_fill_6 rfl (lv_at hl 2 rfl) ?_
      refine lv_iload hx hb dA_fill_7 (lv_at hl 3 rfl) ?_
      refine zj_ge (tgt := 22) hx hb dA_fill_9 (by decide) (by omega) (by omega) (fun _ => ?_) (fun c9 => absurd c9 (by omega))
      exact zt_rv hx hb hr hlocks (fun t ht _ => ⟨f, rfl, fun j hj => hf j (by omega), by rw [ht]; exact hP, hS.F ht⟩) (hS.2.2) dA_fill_22
    | succ n ih =>
      intro i hi f H locs hf hP hS ls hl
      refine lv_iload_n hx hb dA_fill_6 rfl (lv_at hl 2 rfl) ?_
      refine lv_iload hx hb dA_fill_7 (lv_at hl 3 rfl) ?_
      refine zj_ge (tgt := 22) hx hb dA_fill_9 (by decide) (by omega) (by omega) (fun c9 => absurd c9 (by omega)) (fun _ => ?_)
      refine lv_aload_n hx hb dA_fill_12 rfl (lv_at hl 0 rfl) ?_
      refine lv_iload_n hx hb dA_fill_13 rfl (lv_at hl 2 rfl) ?_
      refine lv_lload_n hx hb dA_fill_14 rfl (lv_at hl 1 rfl) ?_
      refine zt_last hx hb hK hP (zx_D had) hS 4 1 rfl rfl (i := i) (by omega) (by decide) dA_fill_15 (fun H locs hP _ hS => ?_)
      have hP : va_P (dC, dI) zcl (zx_w ad cI cJ lev val pkd (vp_updL f i (lN x)) chs D N F k) H := hP
      refine lv_iinc (v := nI (i + 1)) (lv' := [(3, .int (nI (i + 1))), (0, .ref (ad 4)), (1, .long (lN x)), (4, .int (nI 512))]) hx hb dA_fill_16 hl (k := 2) rfl (nI_1 _) (by decide) rfl (fun ls hl => ?_)
      refine lv_goto (tgt := 6) hx hb dA_fill_19 (by decide) ?_
      exact ih (i + 1) (by omega) _ H locs (fun j hj => by
        by_cases e : j = i
        · rw [e, pk_uLs]
        · rw [pk_uLn e]; exact hf j (by omega)) hP hS ls (lv_sub hl [1, 2, 0, 3] rfl)
  exact loop 512 0 (by decide) cst s.heap [] (fun j hj => absurd hj (Nat.not_lt_zero j)) hP hS ls (lv_sub hl [2, 3, 1, 0] rfl)
set_option maxHeartbeats 4000000 in
set_option maxRecDepth 100000 in
/-- nothing is chosen -/
theorem tX_forgetChosen (l : Launch) {dC : Nat → ClassId} {dI : Nat → Nat → Nat} {cI cJ cB : ClassId} {ad : Nat → Nat} {lev val pkd : Nat → Int32} {cst : Nat → Int64} {chs : Nat → Int32} {D N F k : Nat} {sz : Nat} (had : zg_ap ad 6) (hF : F < 2 ^ 31) : zt_Met l yX_forgetChosen wX_forgetChosen rX_forgetChosen (va_Pc [.ref (ad 0)] (zg_C dC dI cI cJ cB (zx_w ad cI cJ lev val pkd cst chs D N F k) sz)) (zg_Q dC dI (fun _ => none) (fun f : Nat → Int64 => ∀ j, j < 512 → f j = lN F) (fun f => zx_w ad cI cJ lev val pkd f chs D N F 0) (zg_A ad 6 sz)) 0 0 0 0 (zg_A ad 6 sz) := by
  refine zt_ofW (cc := cX_forgetChosen) (maxL := 1) (ret := none) (by decide) rfl ?_
  intro p e s m args below meth c s₁ B hml hout hv
  obtain ⟨rfl, hsz, hP, hK⟩ := hv
  have hx := B.exec
  have hb := B.bytes
  have hr := B.returns
  have hz : ∀ w ∈ zw0, w.before ([.ref (ad 0)] : List Value).toArray s = true := fun w h => atoms_spec (ws := wX_forgetChosen) B.pre w (List.mem_cons_of_mem _ h)
  have hown : s.vm.findClass RX = some m.cls := findClass_of_methodNamed B.named
  have hlocks := B.notSynchronized
  subst hsz
  have hS : va_S (zg_A ad 6 s.heap.size) s.heap s.heap [] := va_S.rf
  have hl := lv_entry ([.ref (ad 0)]) (n := 1) (Nat.le_of_ble_eq_true rfl)
  rw [lg_entry_eq]
  generalize (lg_sl ([.ref (ad 0)]) ++ List.replicate (1 - (lg_sl ([.ref (ad 0)])).length) Slot.unset).toArray = ls at hl ⊢
  have hl : lv_has ls 1 [(0, .ref (ad 0))] := hl
  refine lv_aload_n hx hb dX_forgetChosen_0 rfl (lv_at hl 0 rfl) ?_
  refine lv_iconst (v := nI 0) hx hb dX_forgetChosen_1 (by decide) ?_
  refine va_put (D := (dC, dI)) (ci := 0) (v := .int (nI 0)) (ty := .int) (C := RX) (T := TX) (N := 9) hx hb hz in_X tyX tyX_ok nmX hown hK hP (zx_D had) hS 0 rfl rfl 8 (by decide) (hz _ kf_X_36) (fun _ h9 => h9) rfl (by decide +kernel) rfl rfl (Nat.le_of_ble_eq_true rfl) dX_forgetChosen_2 (fun H locs hP _ hS => ?_)
  have hP : va_P (dC, dI) zcl (zx_w ad cI cJ lev val pkd cst chs D N F 0) H := hP
  refine lv_aload_n hx hb dX_forgetChosen_5 rfl (lv_at hl 0 rfl) ?_
  refine va_get (D := (dC, dI)) (ci := 0) (v := .ref (ad 4)) (C := RX) (T := TX) (N := 9) hx hb hz in_X hown hK hP 0 rfl rfl 3 (by decide) (hz _ kf_X_19) (fun _ h9 => h9) rfl dX_forgetChosen_6 ?_
  refine lv_aload_n hx hb dX_forgetChosen_9 rfl (lv_at hl 0 rfl) ?_
  refine va_get (D := (dC, dI)) (ci := 0) (v := .int (nI F)) (C := RX) (T := TX) (N := 9) hx hb hz in_X hown hK hP 0 rfl rfl 7 (by decide) (hz _ kf_X_33) (fun _ h9 => h9) rfl dX_forgetChosen_10 ?_
  refine lv_i2l (v := lN F) hx hb dX_forgetChosen_13 (nI_l (by omega)) ?_
  refine zg_callW (zg_runSC (rest := []) hx hb hml hown (tA_fill l (x := F) (sz := H.size) had) (wcX_111 hz (Nat.le_of_ble_eq_true rfl) (Nat.le_of_ble_eq_true rfl)) (hz _ kst_A_fill) (hz _ kC_A_fill) hP hK rfl hl.1 rfl (Nat.le_of_ble_eq_true rfl) dX_forgetChosen_14 ⟨Nat.le_of_ble_eq_true rfl, Nat.le_of_ble_eq_true rfl⟩) hS (fun q h => zg_A_up hS.1 h) (fun q h => zg_A_up hS.1 h) (fun f H1 locs1 hf hP hz9 hk9 hS => ?_)
  generalize H1 = H at hP hS hz9 hk9 ⊢
  generalize locs1 = locs at hS ⊢
  refine W.eq (g2 := F0 m 17 ls []) rfl ?_
  exact zt_rv hx hb hr hlocks (fun t ht _ => ⟨f, rfl, hf, by rw [ht]; exact hP, hS.F ht⟩) (hS.2.2) dX_forgetChosen_17
set_option maxHeartbeats 4000000 in
set_option maxRecDepth 100000 in
/-- each view becomes n + 1 -/
theorem tX_splitViews (l : Launch) {dC : Nat → ClassId} {dI : Nat → Nat → Nat} {cI cJ cB : ClassId} {ad : Nat → Nat} {lev val pkd : Nat → Int32} {cst : Nat → Int64} {chs : Nat → Int32} {D N F k : Nat} {L : Nat → Nat} {n sz : Nat} (had : zg_ap ad 6) (hD : D < 8) (hL : ∀ j, j < D → L j ≤ 4) (hn : n ≤ 4) (hN0 : 0 < N) (hN : N * (n + 1) ≤ 512) (hpk : ∀ w, w < N → pkd w = nI (zq_pk L D w)) : zt_Met l yX_splitViews wX_splitViews rX_splitViews (va_Pc [.ref (ad 0), .int (nI D), .int (nI (n + 1))] (zg_C dC dI cI cJ cB (zx_w ad cI cJ lev val pkd cst chs D N F k) sz)) (zg_Q dC dI (fun _ => none) (fun f : Nat → Int32 => ∀ w, w < N * (n + 1) → f w = nI (zq_pk (zq_up L D n) (D + 1) w)) (fun f => zx_w ad cI cJ lev val f cst chs D (N * (n + 1)) F k) (zg_A ad 6 sz)) 0 0 0 0 (zg_A ad 6 sz) := by
  refine zt_ofW (cc := cX_splitViews) (maxL := 6) (ret := none) (by decide) rfl ?_
  intro p e s m args below meth c s₁ B hml hout hv
  obtain ⟨rfl, hsz, hP, hK⟩ := hv
  have hx := B.exec
  have hb := B.bytes
  have hr := B.returns
  have hz : ∀ w ∈ zw0, w.before ([.ref (ad 0), .int (nI D), .int (nI (n + 1))] : List Value).toArray s = true := fun w h => atoms_spec (ws := wX_splitViews) B.pre w (List.mem_cons_of_mem _ h)
  have hown : s.vm.findClass RX = some m.cls := findClass_of_methodNamed B.named
  have hlocks := B.notSynchronized
  subst hsz
  have hS : va_S (zg_A ad 6 s.heap.size) s.heap s.heap [] := va_S.rf
  have hl := lv_entry ([.ref (ad 0), .int (nI D), .int (nI (n + 1))]) (n := 6) (Nat.le_of_ble_eq_true rfl)
  rw [lg_entry_eq]
  generalize (lg_sl ([.ref (ad 0), .int (nI D), .int (nI (n + 1))]) ++ List.replicate (6 - (lg_sl ([.ref (ad 0), .int (nI D), .int (nI (n + 1))])).length) Slot.unset).toArray = ls at hl ⊢
  have hl : lv_has ls 6 [(0, .ref (ad 0)), (1, .int (nI D)), (2, .int (nI (n + 1)))] := hl
  have hN5 : N ≤ 512 := Nat.le_trans (Nat.le_mul_of_pos_right N (Nat.succ_pos n)) hN
  refine lv_aload_n hx hb dX_splitViews_0 rfl (lv_at hl 0 rfl) ?_
  refine va_get (D := (dC, dI)) (ci := 0) (v := .int (nI N)) (C := RX) (T := TX) (N := 9) hx hb hz in_X hown hK hP 0 rfl rfl 6 (by decide) (hz _ kf_X_30) (fun _ h9 => h9) rfl dX_splitViews_1 ?_
  refine lv_iconst (v := nI 1) hx hb dX_splitViews_4 (by decide) ?_
  refine lv_isub hx hb dX_splitViews_5 ?_
  refine zt_ti (y := nI N - 1) rfl ?_
  refine lv_istore_n (lv' := [(3, .int (nI N - 1)), (0, .ref (ad 0)), (1, .int (nI D)), (2, .int (nI (n + 1)))]) hx hb dX_splitViews_6 rfl hl (by decide) rfl (fun ls hl => ?_)
  have outer : ∀ (c0 : Nat), c0 ≤ N → ∀ (f : Nat → Int32) (H : Heap) (locs : List Loc), (∀ w, w < c0 → f w = nI (zq_pk L D w)) → (∀ w, c0 * (n + 1) ≤ w → w < N * (n + 1) → f w = nI (zq_pk (zq_up L D n) (D + 1) w)) → va_P (dC, dI) zcl (zx_w ad cI cJ lev val f cst chs D N F k) H → va_S (zg_A ad 6 s.heap.size) s.heap H locs → ∀ ls : Array Slot, lv_has ls 6 [(0, .ref (ad 0)), (1, .int (nI D)), (2, .int (nI (n + 1))), (3, .int (nI c0 - 1))] → W p l e (headSpec wX_splitViews rX_splitViews).room s m ([.ref (ad 0), .int (nI D), .int (nI (n + 1))] : List Value).toArray below meth c H locs 0 0 (zt_MQ below (zg_Q dC dI (fun _ => none) (fun f : Nat → Int32 => ∀ w, w < N * (n + 1) → f w = nI (zq_pk (zq_up L D n) (D + 1) w)) (fun f => zx_w ad cI cJ lev val f cst chs D (N * (n + 1)) F k) (zg_A ad 6 s.heap.size)) ([.ref (ad 0), .int (nI D), .int (nI (n + 1))] : List Value).toArray s 0 0 0 0 (zg_A ad 6 s.heap.size)) (F0 m 7 ls []) := by
    intro c0
    induction c0 with
    | zero =>
      intro hc f H locs hf1 hf2 hP hS ls hl
      refine lv_iload_n hx hb dX_splitViews_7 rfl (lv_at hl 3 rfl) ?_
      refine lv_if_lt (tgt := 60) hx hb dX_splitViews_8 (by decide) (fun _ => ?_) (fun c8 => absurd c8 (by decide))
      refine lv_aload_n hx hb dX_splitViews_60 rfl (lv_at hl 0 rfl) ?_
      refine lv_aload_n hx hb dX_splitViews_61 rfl (lv_at hl 0 rfl) ?_
      refine va_get (D := (dC, dI)) (ci := 0) (v := .int (nI N)) (C := RX) (T := TX) (N := 9) hx hb hz in_X hown hK hP 0 rfl rfl 6 (by decide) (hz _ kf_X_30) (fun _ h9 => h9) rfl dX_splitViews_62 ?_
      refine lv_iload_n hx hb dX_splitViews_65 rfl (lv_at hl 2 rfl) ?_
      refine lv_imul hx hb dX_splitViews_66 ?_
      refine zt_ti (pk_mul _ _) ?_
      refine va_put (D := (dC, dI)) (ci := 0) (v := .int (nI (N * (n + 1)))) (ty := .int) (C := RX) (T := TX) (N := 9) hx hb hz in_X tyX tyX_ok nmX hown hK hP (zx_D had) hS 0 rfl rfl 6 (by decide) (hz _ kf_X_30) (fun _ h9 => h9) rfl (by decide +kernel) rfl rfl (Nat.le_of_ble_eq_true rfl) dX_splitViews_67 (fun H locs hP _ hS => ?_)
      have hP : va_P (dC, dI) zcl (zx_w ad cI cJ lev val f cst chs D (N * (n + 1)) F k) H := hP
      exact zt_rv hx hb hr hlocks (fun t ht _ => ⟨f, rfl, fun w hw => hf2 w (by omega) hw, by rw [ht]; exact hP, hS.F ht⟩) (hS.2.2) dX_splitViews_70
    | succ c0 ih =>
      intro hc f H locs hf1 hf2 hP hS ls hl
      rw [nI_pred] at hl
      have hsm : (c0 + 1) * (n + 1) = c0 * (n + 1) + (n + 1) := Nat.succ_mul c0 (n + 1)
      have hle : (c0 + 1) * (n + 1) ≤ N * (n + 1) := Nat.mul_le_mul_right _ hc
      have hge : c0 ≤ c0 * (n + 1) := Nat.le_mul_of_pos_right c0 (Nat.succ_pos n)
      refine lv_iload_n hx hb dX_splitViews_7 rfl (lv_at hl 3 rfl) ?_
      refine lv_if_lt (tgt := 60) hx hb dX_splitViews_8 (by decide) (fun c8 => absurd c8 (nI_pos (by omega))) (fun _ => ?_)
      refine lv_aload_n hx hb dX_splitViews_11 rfl (lv_at hl 0 rfl) ?_
      refine va_get (D := (dC, dI)) (ci := 0) (v := .ref (ad 3)) (C := RX) (T := TX) (N := 9) hx hb hz in_X hown hK hP 0 rfl rfl 2 (by decide) (hz _ kf_X_16) (fun _ h9 => h9) rfl dX_splitViews_12 ?_
      refine lv_iload_n hx hb dX_splitViews_15 rfl (lv_at hl 3 rfl) ?_
      refine zt_iald hx hb hK hP 3 0 rfl rfl (i := c0) (by omega) (by decide) (v := (nI (zq_pk L D c0))) (hf1 c0 (by omega)) dX_splitViews_16 ?_
      refine lv_istore (lv' := [(4, .int (nI (zq_pk L D c0))), (0, .ref (ad 0)), (1, .int (nI D)), (2, .int (nI (n + 1))), (3, .int (nI c0))]) hx hb dX_splitViews_17 hl (by decide) rfl (fun ls hl => ?_)
      refine lv_iconst (v := nI 0) hx hb dX_splitViews_19 (by decide) ?_
      refine lv_istore (lv' := [(5, .int (nI 0)), (4, .int (nI (zq_pk L D c0))), (0, .ref (ad 0)), (1, .int (nI D)), (2, .int (nI (n + 1))), (3, .int (nI c0))]) hx hb dX_splitViews_20 hl (by decide) rfl (fun ls hl => ?_)
      have inner : ∀ (r j : Nat), j + r = n + 1 → ∀ (g : Nat → Int32) (H : Heap) (locs : List Loc), (∀ w, w < c0 → g w = nI (zq_pk L D w)) → (∀ w, c0 * (n + 1) ≤ w → w < c0 * (n + 1) + j → g w = nI (zq_pk (zq_up L D n) (D + 1) w)) → (∀ w, (c0 + 1) * (n + 1) ≤ w → w < N * (n + 1) → g w = nI (zq_pk (zq_up L D n) (D + 1) w)) → va_P (dC, dI) zcl (zx_w ad cI cJ lev val g cst chs D N F k) H → va_S (zg_A ad 6 s.heap.size) s.heap H locs → ∀ ls : Array Slot, lv_has ls 6 [(0, .ref (ad 0)), (1, .int (nI D)), (2, .int (nI (n + 1))), (3, .int (nI c0)), (4, .int (nI (zq_pk L D c0))), (5, .int (nI j))] → W p l e (headSpec wX_splitViews rX_splitViews).room s m ([.ref (ad 0), .int (nI D), .int (nI (n + 1))] : List Value).toArray below meth c H locs 0 0 (zt_MQ below (zg_Q dC dI (fun _ => none) (fun f : Nat → Int32 => ∀ w, w < N * (n + 1) → f w = nI (zq_pk (zq_up L D n) (D + 1) w)) (fun f => zx_w ad cI cJ lev val f cst chs D (N * (n + 1)) F k) (zg_A ad 6 s.heap.size)) ([.ref (ad 0), .int (nI D), .int (nI (n + 1))] : List Value).toArray s 0 0 0 0 (zg_A ad 6 s.heap.size)) (F0 m 22 ls []) := by
        intro r
        induction r with
        | zero =>
          intro j hj g H locs hg1 hg2 hg3 hP hS ls hl
          refine lv_iload hx hb dX_splitViews_22 (lv_at hl 5 rfl) ?_
          refine lv_iload_n hx hb dX_splitViews_24 rfl (lv_at hl 2 rfl) ?_
          refine zj_ge (tgt := 54) hx hb dX_splitViews_25 (by decide) (by omega) (by omega) (fun _ => ?_) (fun c25 => absurd c25 (by omega))
          refine lv_iinc (v := nI c0 - 1) (lv' := [(3, .int (nI c0 - 1)), (0, .ref (ad 0)), (1, .int (nI D)), (2, .int (nI (n + 1))), (4, .int (nI (zq_pk L D c0))), (5, .int (nI j))]) hx hb dX_splitViews_54 hl (k := 3) rfl (by rw [Int32.sub_eq_add_neg]; rfl) (by decide) rfl (fun ls hl => ?_)
          refine lv_goto (tgt := 7) hx hb dX_splitViews_57 (by decide) ?_
          exact ih (by omega) g H locs hg1 (fun w h1 h2 => by
            by_cases h9 : w < c0 * (n + 1) + j
            · exact hg2 w h1 h9
            · exact hg3 w (by omega) h2) hP hS ls (lv_sub hl [1, 2, 3, 0] rfl)
        | succ r ih2 =>
          intro j hj g H locs hg1 hg2 hg3 hP hS ls hl
          refine lv_iload hx hb dX_splitViews_22 (lv_at hl 5 rfl) ?_
          refine lv_iload_n hx hb dX_splitViews_24 rfl (lv_at hl 2 rfl) ?_
          refine zj_ge (tgt := 54) hx hb dX_splitViews_25 (by decide) (by omega) (by omega) (fun c25 => absurd c25 (by omega)) (fun _ => ?_)
          refine lv_aload_n hx hb dX_splitViews_28 rfl (lv_at hl 0 rfl) ?_
          refine va_get (D := (dC, dI)) (ci := 0) (v := .ref (ad 3)) (C := RX) (T := TX) (N := 9) hx hb hz in_X hown hK hP 0 rfl rfl 2 (by decide) (hz _ kf_X_16) (fun _ h9 => h9) rfl dX_splitViews_29 ?_
          refine lv_iload_n hx hb dX_splitViews_32 rfl (lv_at hl 3 rfl) ?_
          refine lv_iload_n hx hb dX_splitViews_33 rfl (lv_at hl 2 rfl) ?_
          refine lv_imul hx hb dX_splitViews_34 ?_
          refine zt_ti (pk_mul _ _) ?_
          refine lv_iload hx hb dX_splitViews_35 (lv_at hl 5 rfl) ?_
          refine lv_iadd hx hb dX_splitViews_37 ?_
          refine zt_ti (nI_add _ _) ?_
          refine lv_iload hx hb dX_splitViews_38 (lv_at hl 4 rfl) ?_
          refine lv_iload hx hb dX_splitViews_40 (lv_at hl 5 rfl) ?_
          refine lv_iload_n hx hb dX_splitViews_42 rfl (lv_at hl 1 rfl) ?_
          refine lv_iconst (v := nI 4) hx hb dX_splitViews_43 (by decide) ?_
          refine lv_imul hx hb dX_splitViews_44 ?_
          refine zt_ti (pk_mul _ _) ?_
          refine lv_ishl hx hb dX_splitViews_45 ?_
          refine lv_ior hx hb dX_splitViews_46 ?_
          refine zt_ti (zq_split L c0 n j hD hL hn (by omega)) ?_
          refine zt_iast hx hb hK hP (zx_D had) hS 3 0 rfl rfl (i := ((c0 * (n + 1)) + j)) (by omega) (by decide) dX_splitViews_47 (fun H locs hP _ hS => ?_)
          have hP : va_P (dC, dI) zcl (zx_w ad cI cJ lev val (upd g ((c0 * (n + 1)) + j) (nI (zq_pk (zq_up L D n) (D + 1) (c0 * (n + 1) + j)))) cst chs D N F k) H := hP
          refine lv_iinc (v := nI (j + 1)) (lv' := [(5, .int (nI (j + 1))), (0, .ref (ad 0)), (1, .int (nI D)), (2, .int (nI (n + 1))), (3, .int (nI c0)), (4, .int (nI (zq_pk L D c0)))]) hx hb dX_splitViews_48 hl (k := 5) rfl (nI_1 _) (by decide) rfl (fun ls hl => ?_)
          refine lv_goto (tgt := 22) hx hb dX_splitViews_51 (by decide) ?_
          refine ih2 (j + 1) (by omega) _ H locs (fun w hw => ?_) (fun w h1 h2 => ?_) (fun w h1 h2 => ?_) hP hS ls (lv_sub hl [1, 2, 3, 4, 5, 0] rfl)
          · rw [pk_un (by omega)]; exact hg1 w hw
          · by_cases e9 : w = c0 * (n + 1) + j
            · rw [e9, pk_us]
            · rw [pk_un e9]; exact hg2 w h1 (by omega)
          · rw [pk_un (by omega)]; exact hg3 w h1 h2
      exact inner (n + 1) 0 (by omega) f H locs (fun w hw => hf1 w (by omega)) (fun w h1 h2 => absurd h2 (by omega)) (fun w h1 h2 => hf2 w h1 h2) hP hS ls (lv_sub hl [2, 3, 4, 5, 1, 0] rfl)
  exact outer N (Nat.le_refl N) pkd s.heap [] hpk (fun w h1 h2 => absurd h2 (by omega)) hP hS ls (lv_sub hl [1, 2, 3, 0] rfl)
set_option maxHeartbeats 4000000 in
set_option maxRecDepth 100000 in
/-- a view is chosen -/
theorem tX_addChosen (l : Launch) {dC : Nat → ClassId} {dI : Nat → Nat → Nat} {cI cJ cB : ClassId} {ad : Nat → Nat} {lev val pkd : Nat → Int32} {cst : Nat → Int64} {chs : Nat → Int32} {D N F k : Nat} {L V : Nat → Nat} {v sz : Nat} {cw : Nat → Nat} (hc : ∀ w, w < N → cst w = lN (cw w) ∧ cw w ≤ F) (had : zg_ap ad 6) (hR : zx_R D N F L V lev val pkd) (hv : v < N) (hk : k < 16) : zt_Met l yX_addChosen wX_addChosen rX_addChosen (va_Pc [.ref (ad 0), .int (nI v)] (zg_C dC dI cI cJ cB (zx_w ad cI cJ lev val pkd cst chs D N F k) sz)) (zg_Q dC dI (fun _ => none) (fun f : Nat → Int64 => ∀ w, w < N → f w = lN (if zq_es L V D F v < cw w ∧ zq_ab L D v w = true then zq_es L V D F v else cw w)) (fun f => zx_w ad cI cJ lev val pkd f (upd chs k (nI v)) D N F (k + 1)) (zg_A ad 6 sz)) 0 0 0 0 (zg_A ad 6 sz) := by
  refine zt_ofW (cc := cX_addChosen) (maxL := 6) (ret := none) (by decide) rfl ?_
  intro p e s m args below meth c s₁ B hml hout hv
  obtain ⟨rfl, hsz, hP, hK⟩ := hv
  have hx := B.exec
  have hb := B.bytes
  have hr := B.returns
  have hz : ∀ w ∈ zw0, w.before ([.ref (ad 0), .int (nI v)] : List Value).toArray s = true := fun w h => atoms_spec (ws := wX_addChosen) B.pre w (List.mem_cons_of_mem _ h)
  have hown : s.vm.findClass RX = some m.cls := findClass_of_methodNamed B.named
  have hlocks := B.notSynchronized
  subst hsz
  have hS : va_S (zg_A ad 6 s.heap.size) s.heap s.heap [] := va_S.rf
  have hl := lv_entry ([.ref (ad 0), .int (nI v)]) (n := 6) (Nat.le_of_ble_eq_true rfl)
  rw [lg_entry_eq]
  generalize (lg_sl ([.ref (ad 0), .int (nI v)]) ++ List.replicate (6 - (lg_sl ([.ref (ad 0), .int (nI v)])).length) Slot.unset).toArray = ls at hl ⊢
  have hl : lv_has ls 6 [(0, .ref (ad 0)), (1, .int (nI v))] := hl
  have hR9 := hR
  obtain ⟨hD, hL, hN, hN5, hF, hVb, hlev, hval, hpk⟩ := hR
  have hL4 : ∀ j, j < D → L j ≤ 4 := fun j hj => (hL j hj).2
  refine lv_aload_n hx hb dX_addChosen_0 rfl (lv_at hl 0 rfl) ?_
  refine va_get (D := (dC, dI)) (ci := 0) (v := .ref (ad 5)) (C := RX) (T := TX) (N := 9) hx hb hz in_X hown hK hP 0 rfl rfl 4 (by decide) (hz _ kf_X_23) (fun _ h9 => h9) rfl dX_addChosen_1 ?_
  refine lv_aload_n hx hb dX_addChosen_4 rfl (lv_at hl 0 rfl) ?_
  refine va_get (D := (dC, dI)) (ci := 0) (v := .int (nI k)) (C := RX) (T := TX) (N := 9) hx hb hz in_X hown hK hP 0 rfl rfl 8 (by decide) (hz _ kf_X_36) (fun _ h9 => h9) rfl dX_addChosen_5 ?_
  refine lv_iload_n hx hb dX_addChosen_8 rfl (lv_at hl 1 rfl) ?_
  refine zt_iast hx hb hK hP (zx_D had) hS 5 0 rfl rfl (i := k) (by omega) (by decide) dX_addChosen_9 (fun H locs hP _ hS => ?_)
  have hP : va_P (dC, dI) zcl (zx_w ad cI cJ lev val pkd cst (upd chs k (nI v)) D N F k) H := hP
  refine lv_aload_n hx hb dX_addChosen_10 rfl (lv_at hl 0 rfl) ?_
  refine lv_dup hx hb dX_addChosen_11 rfl ?_
  refine va_get (D := (dC, dI)) (ci := 0) (v := .int (nI k)) (C := RX) (T := TX) (N := 9) hx hb hz in_X hown hK hP 0 rfl rfl 8 (by decide) (hz _ kf_X_36) (fun _ h9 => h9) rfl dX_addChosen_12 ?_
  refine lv_iconst (v := nI 1) hx hb dX_addChosen_15 (by decide) ?_
  refine lv_iadd hx hb dX_addChosen_16 ?_
  refine zt_ti (nI_add _ _) ?_
  refine va_put (D := (dC, dI)) (ci := 0) (v := .int (nI (k + 1))) (ty := .int) (C := RX) (T := TX) (N := 9) hx hb hz in_X tyX tyX_ok nmX hown hK hP (zx_D had) hS 0 rfl rfl 8 (by decide) (hz _ kf_X_36) (fun _ h9 => h9) rfl (by decide +kernel) rfl rfl (Nat.le_of_ble_eq_true rfl) dX_addChosen_17 (fun H locs hP _ hS => ?_)
  have hP : va_P (dC, dI) zcl (zx_w ad cI cJ lev val pkd cst (upd chs k (nI v)) D N F (k + 1)) H := hP
  refine lv_aload_n hx hb dX_addChosen_20 rfl (lv_at hl 0 rfl) ?_
  refine lv_iload_n hx hb dX_addChosen_21 rfl (lv_at hl 1 rfl) ?_
  refine zt_callRl (zg_run (rest := []) hx hb hml hown (tX_estimateOf l hR9 hv) (wcX_82 hz (Nat.le_of_ble_eq_true rfl) (Nat.le_of_ble_eq_true rfl)) (hz _ ki_X_estimateOf) (hz _ ks_X_estimateOf) (hz _ kC_X_estimateOf) hP hK rfl (q0 := 0) rfl rfl hl.1 rfl (Nat.le_of_ble_eq_true rfl) dX_addChosen_22 ⟨Nat.le_of_ble_eq_true rfl, Nat.le_of_ble_eq_true rfl⟩) ?_
  refine lv_lstore_n (lv' := [(2, .long (lN (zq_es L V D F v))), (0, .ref (ad 0)), (1, .int (nI v))]) hx hb dX_addChosen_25 rfl hl (by decide) rfl (fun ls hl => ?_)
  refine lv_aload_n hx hb dX_addChosen_26 rfl (lv_at hl 1 rfl) ?_
  refine va_get (D := (dC, dI)) (ci := 0) (v := .ref (ad 3)) (C := RX) (T := TX) (N := 9) hx hb hz in_X hown hK hP 0 rfl rfl 2 (by decide) (hz _ kf_X_16) (fun _ h9 => h9) rfl dX_addChosen_27 ?_
  refine lv_iload_n hx hb dX_addChosen_30 rfl (lv_at hl 2 rfl) ?_
  refine zt_iald hx hb hK hP 3 0 rfl rfl (i := v) (by omega) (by decide) (v := (nI (zq_pk L D v))) (hpk v hv) dX_addChosen_31 ?_
  refine lv_istore (lv' := [(4, .int (nI (zq_pk L D v))), (2, .long (lN (zq_es L V D F v))), (0, .ref (ad 0)), (1, .int (nI v))]) hx hb dX_addChosen_32 hl (by decide) rfl (fun ls hl => ?_)
  refine lv_iload_n hx hb dX_addChosen_34 rfl (lv_at hl 3 rfl) ?_
  refine lv_istore (lv' := [(5, .int (nI v)), (4, .int (nI (zq_pk L D v))), (2, .long (lN (zq_es L V D F v))), (0, .ref (ad 0)), (1, .int (nI v))]) hx hb dX_addChosen_35 hl (by decide) rfl (fun ls hl => ?_)
  have he : zq_es L V D F v ≤ F := zq_es_le L V D F v
  have loop : ∀ (n i : Nat), i + n = N → ∀ (f : Nat → Int64) (H : Heap) (locs : List Loc), (∀ w, w < N → f w = lN (if w < i then (if zq_es L V D F v < cw w ∧ zq_ab L D v w = true then zq_es L V D F v else cw w) else cw w)) → va_P (dC, dI) zcl (zx_w ad cI cJ lev val pkd f (upd chs k (nI v)) D N F (k + 1)) H → va_S (zg_A ad 6 s.heap.size) s.heap H locs → ∀ ls : Array Slot, lv_has ls 6 [(0, .ref (ad 0)), (1, .int (nI v)), (2, .long (lN (zq_es L V D F v))), (4, .int (nI (zq_pk L D v))), (5, .int (nI i))] → W p l e (headSpec wX_addChosen rX_addChosen).room s m ([.ref (ad 0), .int (nI v)] : List Value).toArray below meth c H locs 0 0 (zt_MQ below (zg_Q dC dI (fun _ => none) (fun f : Nat → Int64 => ∀ w, w < N → f w = lN (if zq_es L V D F v < cw w ∧ zq_ab L D v w = true then zq_es L V D F v else cw w)) (fun f => zx_w ad cI cJ lev val pkd f (upd chs k (nI v)) D N F (k + 1)) (zg_A ad 6 s.heap.size)) ([.ref (ad 0), .int (nI v)] : List Value).toArray s 0 0 0 0 (zg_A ad 6 s.heap.size)) (F0 m 37 ls []) := by
    intro n
    induction n with
    | zero =>
      intro i hi f H locs hf hP hS ls hl
      refine lv_iload hx hb dX_addChosen_37 (lv_at hl 4 rfl) ?_
      refine lv_aload_n hx hb dX_addChosen_39 rfl (lv_at hl 0 rfl) ?_
      refine va_get (D := (dC, dI)) (ci := 0) (v := .int (nI N)) (C := RX) (T := TX) (N := 9) hx hb hz in_X hown hK hP 0 rfl rfl 6 (by decide) (hz _ kf_X_30) (fun _ h9 => h9) rfl dX_addChosen_40 ?_
      refine zj_ge (tgt := 87) hx hb dX_addChosen_43 (by decide) (by omega) (by omega) (fun _ => ?_) (fun c43 => absurd c43 (by omega))
      exact zt_rv hx hb hr hlocks (fun t ht _ => ⟨f, rfl, fun w hw => by rw [hf w hw, if_pos (show w < i by omega)], by rw [ht]; exact hP, hS.F ht⟩) (hS.2.2) dX_addChosen_87
    | succ n ih =>
      intro i hi f H locs hf hP hS ls hl
      have hci := (hc i (by omega)).2
      have hfi : f i = lN (cw i) := by rw [hf i (by omega), if_neg (Nat.lt_irrefl i)]
      refine lv_iload hx hb dX_addChosen_37 (lv_at hl 4 rfl) ?_
      refine lv_aload_n hx hb dX_addChosen_39 rfl (lv_at hl 0 rfl) ?_
      refine va_get (D := (dC, dI)) (ci := 0) (v := .int (nI N)) (C := RX) (T := TX) (N := 9) hx hb hz in_X hown hK hP 0 rfl rfl 6 (by decide) (hz _ kf_X_30) (fun _ h9 => h9) rfl dX_addChosen_40 ?_
      refine zj_ge (tgt := 87) hx hb dX_addChosen_43 (by decide) (by omega) (by omega) (fun c43 => absurd c43 (by omega)) (fun _ => ?_)
      refine lv_aload_n hx hb dX_addChosen_46 rfl (lv_at hl 0 rfl) ?_
      refine va_get (D := (dC, dI)) (ci := 0) (v := .ref (ad 4)) (C := RX) (T := TX) (N := 9) hx hb hz in_X hown hK hP 0 rfl rfl 3 (by decide) (hz _ kf_X_19) (fun _ h9 => h9) rfl dX_addChosen_47 ?_
      refine lv_iload hx hb dX_addChosen_50 (lv_at hl 4 rfl) ?_
      refine zt_lald hx hb hK hP 4 1 rfl rfl (i := i) (by omega) (by decide) (v := (lN (cw i))) (hfi) dX_addChosen_52 ?_
      refine lv_lload_n hx hb dX_addChosen_53 rfl (lv_at hl 2 rfl) ?_
      refine zl_le (tgt := 81) hx hb dX_addChosen_54 dX_addChosen_55 (by decide) (by omega) (by omega) (fun c54 => ?_) (fun c54 => ?_)
      · refine lv_iinc (v := nI (i + 1)) (lv' := [(5, .int (nI (i + 1))), (0, .ref (ad 0)), (1, .int (nI v)), (2, .long (lN (zq_es L V D F v))), (4, .int (nI (zq_pk L D v)))]) hx hb dX_addChosen_81 hl (k := 4) rfl (nI_1 _) (by decide) rfl (fun ls hl => ?_)
        refine lv_goto (tgt := 37) hx hb dX_addChosen_84 (by decide) ?_
        refine ih (i + 1) (by omega) f H locs (fun w hw => ?_) hP hS ls (lv_sub hl [1, 2, 3, 4, 0] rfl)
        rw [hf w hw]
        by_cases e9 : w = i
        · subst e9
          rw [if_neg (Nat.lt_irrefl w), if_pos (Nat.lt_succ_self w), if_neg (fun q => by have := q.1; omega)]
        · by_cases e8 : w < i
          · rw [if_pos e8, if_pos (show w < i + 1 by omega)]
          · rw [if_neg e8, if_neg (show ¬ w < i + 1 by omega)]
      · refine lv_iload hx hb dX_addChosen_58 (lv_at hl 3 rfl) ?_
        refine lv_aload_n hx hb dX_addChosen_60 rfl (lv_at hl 0 rfl) ?_
        refine va_get (D := (dC, dI)) (ci := 0) (v := .ref (ad 3)) (C := RX) (T := TX) (N := 9) hx hb hz in_X hown hK hP 0 rfl rfl 2 (by decide) (hz _ kf_X_16) (fun _ h9 => h9) rfl dX_addChosen_61 ?_
        refine lv_iload hx hb dX_addChosen_64 (lv_at hl 4 rfl) ?_
        refine zt_iald hx hb hK hP 3 0 rfl rfl (i := i) (by omega) (by decide) (v := (nI (zq_pk L D i))) (hpk i (by omega)) dX_addChosen_66 ?_
        refine zt_callRi (zs_run (rest := []) hx hb hml hown (tX_isAbovePacked l hD hL4) (wcX_78 hz (Nat.le_of_ble_eq_true rfl) (Nat.le_of_ble_eq_true rfl)) (hz _ kst_X_isAbovePacked) (hz _ kC_X_isAbovePacked) rfl hl.1 rfl (Nat.le_of_ble_eq_true rfl) dX_addChosen_67 ⟨Nat.le_of_ble_eq_true rfl, Nat.le_of_ble_eq_true rfl⟩) ?_
        refine zb_eq (tgt := 81) hx hb dX_addChosen_70 (by decide) (fun c70 => ?_) (fun c70 => ?_)
        · refine lv_iinc (v := nI (i + 1)) (lv' := [(5, .int (nI (i + 1))), (0, .ref (ad 0)), (1, .int (nI v)), (2, .long (lN (zq_es L V D F v))), (4, .int (nI (zq_pk L D v)))]) hx hb dX_addChosen_81 hl (k := 4) rfl (nI_1 _) (by decide) rfl (fun ls hl => ?_)
          refine lv_goto (tgt := 37) hx hb dX_addChosen_84 (by decide) ?_
          refine ih (i + 1) (by omega) f H locs (fun w hw => ?_) hP hS ls (lv_sub hl [1, 2, 3, 4, 0] rfl)
          rw [hf w hw]
          by_cases e9 : w = i
          · subst e9
            rw [if_neg (Nat.lt_irrefl w), if_pos (Nat.lt_succ_self w), if_neg (fun q => by have := q.2; rw [c70] at this; cases this)]
          · by_cases e8 : w < i
            · rw [if_pos e8, if_pos (show w < i + 1 by omega)]
            · rw [if_neg e8, if_neg (show ¬ w < i + 1 by omega)]
        · refine lv_aload_n hx hb dX_addChosen_73 rfl (lv_at hl 0 rfl) ?_
          refine va_get (D := (dC, dI)) (ci := 0) (v := .ref (ad 4)) (C := RX) (T := TX) (N := 9) hx hb hz in_X hown hK hP 0 rfl rfl 3 (by decide) (hz _ kf_X_19) (fun _ h9 => h9) rfl dX_addChosen_74 ?_
          refine lv_iload hx hb dX_addChosen_77 (lv_at hl 4 rfl) ?_
          refine lv_lload_n hx hb dX_addChosen_79 rfl (lv_at hl 2 rfl) ?_
          refine zt_last hx hb hK hP (zx_D had) hS 4 1 rfl rfl (i := i) (by omega) (by decide) dX_addChosen_80 (fun H locs hP _ hS => ?_)
          have hP : va_P (dC, dI) zcl (zx_w ad cI cJ lev val pkd (vp_updL f i (lN (zq_es L V D F v))) (upd chs k (nI v)) D N F (k + 1)) H := hP
          refine lv_iinc (v := nI (i + 1)) (lv' := [(5, .int (nI (i + 1))), (0, .ref (ad 0)), (1, .int (nI v)), (2, .long (lN (zq_es L V D F v))), (4, .int (nI (zq_pk L D v)))]) hx hb dX_addChosen_81 hl (k := 4) rfl (nI_1 _) (by decide) rfl (fun ls hl => ?_)
          refine lv_goto (tgt := 37) hx hb dX_addChosen_84 (by decide) ?_
          refine ih (i + 1) (by omega) _ H locs (fun w hw => ?_) hP hS ls (lv_sub hl [1, 2, 3, 4, 0] rfl)
          by_cases e9 : w = i
          · subst e9
            rw [pk_uLs, if_pos (Nat.lt_succ_self w), if_pos ⟨by omega, c70⟩]
          · rw [pk_uLn e9, hf w hw]
            by_cases e8 : w < i
            · rw [if_pos e8, if_pos (show w < i + 1 by omega)]
            · rw [if_neg e8, if_neg (show ¬ w < i + 1 by omega)]
  refine loop (N - v) v (by omega) cst H locs (fun w hw => ?_) hP hS ls (lv_sub hl [3, 4, 2, 1, 0] rfl)
  rw [(hc w hw).1]
  by_cases e8 : w < v
  · rw [if_pos e8, if_neg (fun q => by have := zq_ab_le L D v w (by omega) q.2; omega)]
  · rw [if_neg e8]
