/-! the law's ten helpers: by program (wip/gen/helpers.py) -/
theorem zt_Qp_X_at {H : Heap} {dC : Nat → ClassId} {dI : Nat → Nat → Nat} {ok : Prop} {cd : Nat} {r : Option Value} {a : Array Value} {w : va_W} {A : Nat → Prop} (h0 : ok → cd = 0) (h1 : ¬ ok → cd = 1) (hP : va_P (dC, dI) zcl w H) : ∀ (st : State) (o : Outcome) (t : State), st.heap = H → zt_Qp ok r zE_A a st o t → zg_X dC dI cd (fun _ : Unit => r) (fun _ => True) (fun _ => w) A a st o t := fun st o t hH h => zt_Qp_X h0 h1 hP st t o hH h
set_option maxHeartbeats 4000000 in
set_option maxRecDepth 100000 in
/-- the helper dimension -/
theorem tL_dimension (l : Launch) {dC : Nat → ClassId} {dI : Nat → Nat → Nat} {cI cJ cB : ClassId} {ad : Nat → Nat} {lev val pkd : Nat → Int32} {cst : Nat → Int64} {chs : Nat → Int32} {D N F k : Nat} {L V : Nat → Nat} {p0 : Int32} {f : Nat → Int64} {sz : Nat} (had : zg_ap ad 7) (hst : l.stackTraces = false) (hR : zx_R D N F L V lev val pkd) : zt_Met l yL_dimension wL_dimension rL_dimension (va_Pc [.ref (ad 0), .int p0, .ref (ad 6)] (zg_V dC dI cI cJ cB (zx_w ad cI cJ lev val pkd cst chs D N F k ++ zo_w ad cJ f) sz)) (zg_H dC dI (zc_dim (zn p0) D N) (fun u : (Nat → Int32) × (Nat → Int64) => (∀ w, w < N * (zn p0 + 1) → u.1 w = nI (zq_pk (zq_up L D (zn p0)) (D + 1) w)) ∧ ∀ j, j < 512 → u.2 j = lN F) (zx_w ad cI cJ lev val pkd cst chs D N F k ++ zo_w ad cJ f) (fun u => (zx_w ad cI cJ (upd lev D (nI (zn p0))) val u.1 u.2 chs (D + 1) (N * (zn p0 + 1)) F 0 ++ zo_w ad cJ (vp_updL f 0 (lN D)))) (zg_A ad 7 sz)) 1 6 0 0 (zg_A ad 7 sz) := by
  refine zt_ofWith (cc := cL_dimension) (maxL := 4) (ret := some .int) (hs := [(0, 9, 12, 13), (0, 9, 15, 15)]) (by decide) rfl ?_
  intro p e s m args below meth c s₁ B hml htab hv
  obtain ⟨rfl, ⟨hsz, hP, hK, hTS⟩, hNc⟩ := hv
  have hx := B.exec
  have hb := B.bytes
  have hr := B.returns
  have hz : ∀ w ∈ zw0, w.before ([.ref (ad 0), .int p0, .ref (ad 6)] : List Value).toArray s = true := fun w h => atoms_spec (ws := wL_dimension) B.pre w (List.mem_cons_of_mem _ h)
  have hown : s.vm.findClass RL = some m.cls := findClass_of_methodNamed B.named
  have hlocks := B.notSynchronized
  subst hsz
  have hPx : va_P (dC, dI) zcl (zx_w ad cI cJ lev val pkd cst chs D N F k) s.heap := hP.sub [0, 1, 2, 3, 4, 5] rfl
  have hP6 : va_P (dC, dI) zcl (zo_w ad cJ f) s.heap := hP.sub [6] rfl
  have hl := lv_entry ([.ref (ad 0), .int p0, .ref (ad 6)]) (n := 4) (Nat.le_of_ble_eq_true rfl)
  rw [lg_entry_eq]
  generalize (lg_sl ([.ref (ad 0), .int p0, .ref (ad 6)]) ++ List.replicate (4 - (lg_sl ([.ref (ad 0), .int p0, .ref (ad 6)])).length) Slot.unset).toArray = ls at hl ⊢
  have hl : lv_has ls 4 [(0, .ref (ad 0)), (1, .int p0), (2, .ref (ad 6))] := hl
  refine lv_aload_n hx hb dL_dimension_0 rfl (lv_at hl 2 rfl) ?_
  refine lv_iconst (v := nI 0) hx hb dL_dimension_1 (by decide) ?_
  refine lv_aload_n hx hb dL_dimension_2 rfl (lv_at hl 0 rfl) ?_
  refine lv_iload_n hx hb dL_dimension_3 rfl (lv_at hl 1 rfl) ?_
  refine zh_call (w0 := zx_w ad cI cJ lev val pkd cst chs D N F k) (f := f) had (zg_runU (rest := [.int (nI 0), .ref (ad 6)]) hx hb hml hown (tX_dimension l (zg_ap6 had) hst hR) (wcL_7 hz (Nat.le_of_ble_eq_true rfl) (Nat.le_of_ble_eq_true rfl)) (hz _ ki_X_dimension) (hz _ ks_X_dimension) (hz _ kC_X_dimension) hPx hK hTS rfl (q0 := 0) rfl rfl hl.1 rfl (Nat.le_of_ble_eq_true rfl) dL_dimension_4 ⟨Nat.le_of_ble_eq_true rfl, Nat.le_of_ble_eq_true rfl⟩) hP hP6 (fun hcd u H locs hu hP hS => ?_) (fun hcd x H locs hX hP hS => ?_) (fun hcd x H locs hX hP hS => ?_)
  · refine W.eq (g2 := F0 m 7 ls [.int (nI D), .int (nI 0), .ref (ad 6)]) rfl ?_
    refine lv_i2l (v := lN D) hx hb dL_dimension_7 (nI_l (by have := hR.1; omega)) ?_
    refine zt_last hx hb hK hP (zh_D had) hS 6 1 rfl rfl (i := 0) (by decide) (by decide) dL_dimension_8 (fun H locs hP _ hS => ?_)
    have hP : va_P (dC, dI) zcl (zx_w ad cI cJ (upd lev D (nI (zn p0))) val u.1 u.2 chs (D + 1) (N * (zn p0 + 1)) F 0 ++ zo_w ad cJ (vp_updL f 0 (lN D))) H := hP
    refine lv_goto (tgt := 18) hx hb dL_dimension_9 (by decide) ?_
    refine lv_iconst (v := nI 0) hx hb dL_dimension_18 (by decide) ?_
    refine W.widen (k := 1) (n := 6) (by omega) (by omega) ?_
    exact zt_ri hx hb hr hlocks (fun t ht _ => Or.inl ⟨hcd, u, rfl, hu, by rw [ht]; exact hP, hS.F ht⟩) hS.2.2 dL_dimension_19
  · refine zt_catch1 htab (by decide) (by decide) (by decide) hown (hz _ kc_L_13) (hz _ kt_IllegalArgumentException) (hz _ kcast_IllegalArgumentException_IllegalArgumentException) hX ?_
    refine lv_astore_n (lv' := [(3, .ref x), (0, .ref (ad 0)), (1, .int p0), (2, .ref (ad 6))]) hx hb dL_dimension_12 rfl hl (by decide) rfl (fun ls hl => ?_)
    refine lv_iconst (v := nI 1) hx hb dL_dimension_13 (by decide) ?_
    exact zt_ri hx hb hr hlocks (fun t ht _ => Or.inr ⟨by rw [hcd]; decide, by rw [hcd], by rw [ht]; exact hP, hS.F ht⟩) hS.2.2 dL_dimension_14
  · refine zt_catch2 htab (by decide) (by decide) (by decide) (by decide) (by decide) (by decide) hown (hz _ kc_L_15) (hz _ kc_L_13) (hz _ kt_IllegalStateException) (hz _ kt_IllegalArgumentException) (hz _ kcast_IllegalStateException_IllegalStateException) hNc hX ?_
    refine lv_astore_n (lv' := [(3, .ref x), (0, .ref (ad 0)), (1, .int p0), (2, .ref (ad 6))]) hx hb dL_dimension_15 rfl hl (by decide) rfl (fun ls hl => ?_)
    refine lv_iconst (v := nI 2) hx hb dL_dimension_16 (by decide) ?_
    exact zt_ri hx hb hr hlocks (fun t ht _ => Or.inr ⟨by rw [hcd]; decide, by rw [hcd], by rw [ht]; exact hP, hS.F ht⟩) hS.2.2 dL_dimension_17
set_option maxHeartbeats 4000000 in
set_option maxRecDepth 100000 in
/-- the helper values -/
theorem tL_values (l : Launch) {dC : Nat → ClassId} {dI : Nat → Nat → Nat} {cI cJ cB : ClassId} {ad : Nat → Nat} {lev val pkd : Nat → Int32} {cst : Nat → Int64} {chs : Nat → Int32} {D N F k : Nat} {L V : Nat → Nat} {p0 p1 p2 : Int32} {f : Nat → Int64} {sz : Nat} (had : zg_ap ad 7) (hst : l.stackTraces = false) (hR : zx_R D N F L V lev val pkd) : zt_Met l yL_values wL_values rL_values (va_Pc [.ref (ad 0), .int p0, .int p1, .int p2, .ref (ad 6)] (zg_V dC dI cI cJ cB (zx_w ad cI cJ lev val pkd cst chs D N F k ++ zo_w ad cJ f) sz)) (zg_H dC dI (zc_val (zn p0) (zn p1) (zn p2) D L) (fun u : Nat → Int64 => ∀ j, j < 512 → u j = lN F) (zx_w ad cI cJ lev val pkd cst chs D N F k ++ zo_w ad cJ f) (fun u => (zx_w ad cI cJ lev (upd val (4 * zn p0 + zn p1) (nI (zn p2))) pkd u chs D N F 0 ++ zo_w ad cJ (vp_updL f 0 (lN (V (4 * zn p0 + zn p1)))))) (zg_A ad 7 sz)) 1 6 0 0 (zg_A ad 7 sz) := by
  refine zt_ofWith (cc := cL_values) (maxL := 6) (ret := some .int) (hs := [(0, 12, 15, 13)]) (by decide) rfl ?_
  intro p e s m args below meth c s₁ B hml htab hv
  obtain ⟨rfl, ⟨hsz, hP, hK, hTS⟩, hNc⟩ := hv
  have hx := B.exec
  have hb := B.bytes
  have hr := B.returns
  have hz : ∀ w ∈ zw0, w.before ([.ref (ad 0), .int p0, .int p1, .int p2, .ref (ad 6)] : List Value).toArray s = true := fun w h => atoms_spec (ws := wL_values) B.pre w (List.mem_cons_of_mem _ h)
  have hown : s.vm.findClass RL = some m.cls := findClass_of_methodNamed B.named
  have hlocks := B.notSynchronized
  subst hsz
  have hPx : va_P (dC, dI) zcl (zx_w ad cI cJ lev val pkd cst chs D N F k) s.heap := hP.sub [0, 1, 2, 3, 4, 5] rfl
  have hP6 : va_P (dC, dI) zcl (zo_w ad cJ f) s.heap := hP.sub [6] rfl
  have hl := lv_entry ([.ref (ad 0), .int p0, .int p1, .int p2, .ref (ad 6)]) (n := 6) (Nat.le_of_ble_eq_true rfl)
  rw [lg_entry_eq]
  generalize (lg_sl ([.ref (ad 0), .int p0, .int p1, .int p2, .ref (ad 6)]) ++ List.replicate (6 - (lg_sl ([.ref (ad 0), .int p0, .int p1, .int p2, .ref (ad 6)])).length) Slot.unset).toArray = ls at hl ⊢
  have hl : lv_has ls 6 [(0, .ref (ad 0)), (1, .int p0), (2, .int p1), (3, .int p2), (4, .ref (ad 6))] := hl
  refine lv_aload hx hb dL_values_0 (lv_at hl 4 rfl) ?_
  refine lv_iconst (v := nI 0) hx hb dL_values_2 (by decide) ?_
  refine lv_aload_n hx hb dL_values_3 rfl (lv_at hl 0 rfl) ?_
  refine lv_iload_n hx hb dL_values_4 rfl (lv_at hl 1 rfl) ?_
  refine lv_iload_n hx hb dL_values_5 rfl (lv_at hl 2 rfl) ?_
  refine lv_iload_n hx hb dL_values_6 rfl (lv_at hl 3 rfl) ?_
  refine zh_call (w0 := zx_w ad cI cJ lev val pkd cst chs D N F k) (f := f) had (zg_runU (rest := [.int (nI 0), .ref (ad 6)]) hx hb hml hown (tX_values l (zg_ap6 had) hst hR) (wcL_17 hz (Nat.le_of_ble_eq_true rfl) (Nat.le_of_ble_eq_true rfl)) (hz _ ki_X_values) (hz _ ks_X_values) (hz _ kC_X_values) hPx hK hTS rfl (q0 := 0) rfl rfl hl.1 rfl (Nat.le_of_ble_eq_true rfl) dL_values_7 ⟨Nat.le_of_ble_eq_true rfl, Nat.le_of_ble_eq_true rfl⟩) hP hP6 (fun hcd u H locs hu hP hS => ?_) (fun hcd x H locs hX hP hS => ?_) (fun hcd x H locs hX hP hS => ?_)
  · refine W.eq (g2 := F0 m 10 ls [.int (nI (V (4 * zn p0 + zn p1))), .int (nI 0), .ref (ad 6)]) rfl ?_
    refine lv_i2l (v := lN (V (4 * zn p0 + zn p1))) hx hb dL_values_10 (nI_l (by have := hR.2.2.2.2.2.1 (4 * zn p0 + zn p1); omega)) ?_
    refine zt_last hx hb hK hP (zh_D had) hS 6 1 rfl rfl (i := 0) (by decide) (by decide) dL_values_11 (fun H locs hP _ hS => ?_)
    have hP : va_P (dC, dI) zcl (zx_w ad cI cJ lev (upd val (4 * zn p0 + zn p1) (nI (zn p2))) pkd u chs D N F 0 ++ zo_w ad cJ (vp_updL f 0 (lN (V (4 * zn p0 + zn p1))))) H := hP
    refine lv_goto (tgt := 19) hx hb dL_values_12 (by decide) ?_
    refine lv_iconst (v := nI 0) hx hb dL_values_19 (by decide) ?_
    refine W.widen (k := 1) (n := 6) (by omega) (by omega) ?_
    exact zt_ri hx hb hr hlocks (fun t ht _ => Or.inl ⟨hcd, u, rfl, hu, by rw [ht]; exact hP, hS.F ht⟩) hS.2.2 dL_values_20
  · refine zt_catch1 htab (by decide) (by decide) (by decide) hown (hz _ kc_L_13) (hz _ kt_IllegalArgumentException) (hz _ kcast_IllegalArgumentException_IllegalArgumentException) hX ?_
    refine lv_astore (lv' := [(5, .ref x), (0, .ref (ad 0)), (1, .int p0), (2, .int p1), (3, .int p2), (4, .ref (ad 6))]) hx hb dL_values_15 hl (by decide) rfl (fun ls hl => ?_)
    refine lv_iconst (v := nI 1) hx hb dL_values_17 (by decide) ?_
    exact zt_ri hx hb hr hlocks (fun t ht _ => Or.inr ⟨by rw [hcd]; decide, by rw [hcd], by rw [ht]; exact hP, hS.F ht⟩) hS.2.2 dL_values_18
  · exact absurd hcd (by unfold zc_val; split <;> decide)
set_option maxHeartbeats 4000000 in
set_option maxRecDepth 100000 in
/-- the helper facts -/
theorem tL_facts (l : Launch) {dC : Nat → ClassId} {dI : Nat → Nat → Nat} {cI cJ cB : ClassId} {ad : Nat → Nat} {lev val pkd : Nat → Int32} {cst : Nat → Int64} {chs : Nat → Int32} {D N F k : Nat} {p0 : Int32} {f : Nat → Int64} {sz : Nat} (had : zg_ap ad 7) (hst : l.stackTraces = false) (hF : F < 2 ^ 31) : zt_Met l yL_facts wL_facts rL_facts (va_Pc [.ref (ad 0), .int p0, .ref (ad 6)] (zg_V dC dI cI cJ cB (zx_w ad cI cJ lev val pkd cst chs D N F k ++ zo_w ad cJ f) sz)) (zg_H dC dI (zc_fac (zn p0)) (fun u : Nat → Int64 => ∀ j, j < 512 → u j = lN (zn p0)) (zx_w ad cI cJ lev val pkd cst chs D N F k ++ zo_w ad cJ f) (fun u => (zx_w ad cI cJ lev val pkd u chs D N (zn p0) 0 ++ zo_w ad cJ (vp_updL f 0 (lN F)))) (zg_A ad 7 sz)) 1 6 0 0 (zg_A ad 7 sz) := by
  refine zt_ofWith (cc := cL_facts) (maxL := 4) (ret := some .int) (hs := [(0, 9, 12, 13)]) (by decide) rfl ?_
  intro p e s m args below meth c s₁ B hml htab hv
  obtain ⟨rfl, ⟨hsz, hP, hK, hTS⟩, hNc⟩ := hv
  have hx := B.exec
  have hb := B.bytes
  have hr := B.returns
  have hz : ∀ w ∈ zw0, w.before ([.ref (ad 0), .int p0, .ref (ad 6)] : List Value).toArray s = true := fun w h => atoms_spec (ws := wL_facts) B.pre w (List.mem_cons_of_mem _ h)
  have hown : s.vm.findClass RL = some m.cls := findClass_of_methodNamed B.named
  have hlocks := B.notSynchronized
  subst hsz
  have hPx : va_P (dC, dI) zcl (zx_w ad cI cJ lev val pkd cst chs D N F k) s.heap := hP.sub [0, 1, 2, 3, 4, 5] rfl
  have hP6 : va_P (dC, dI) zcl (zo_w ad cJ f) s.heap := hP.sub [6] rfl
  have hl := lv_entry ([.ref (ad 0), .int p0, .ref (ad 6)]) (n := 4) (Nat.le_of_ble_eq_true rfl)
  rw [lg_entry_eq]
  generalize (lg_sl ([.ref (ad 0), .int p0, .ref (ad 6)]) ++ List.replicate (4 - (lg_sl ([.ref (ad 0), .int p0, .ref (ad 6)])).length) Slot.unset).toArray = ls at hl ⊢
  have hl : lv_has ls 4 [(0, .ref (ad 0)), (1, .int p0), (2, .ref (ad 6))] := hl
  refine lv_aload_n hx hb dL_facts_0 rfl (lv_at hl 2 rfl) ?_
  refine lv_iconst (v := nI 0) hx hb dL_facts_1 (by decide) ?_
  refine lv_aload_n hx hb dL_facts_2 rfl (lv_at hl 0 rfl) ?_
  refine lv_iload_n hx hb dL_facts_3 rfl (lv_at hl 1 rfl) ?_
  refine zh_call (w0 := zx_w ad cI cJ lev val pkd cst chs D N F k) (f := f) had (zg_runU (rest := [.int (nI 0), .ref (ad 6)]) hx hb hml hown (tX_facts l (zg_ap6 had) hst) (wcL_21 hz (Nat.le_of_ble_eq_true rfl) (Nat.le_of_ble_eq_true rfl)) (hz _ ki_X_facts) (hz _ ks_X_facts) (hz _ kC_X_facts) hPx hK hTS rfl (q0 := 0) rfl rfl hl.1 rfl (Nat.le_of_ble_eq_true rfl) dL_facts_4 ⟨Nat.le_of_ble_eq_true rfl, Nat.le_of_ble_eq_true rfl⟩) hP hP6 (fun hcd u H locs hu hP hS => ?_) (fun hcd x H locs hX hP hS => ?_) (fun hcd x H locs hX hP hS => ?_)
  · refine W.eq (g2 := F0 m 7 ls [.int (nI F), .int (nI 0), .ref (ad 6)]) rfl ?_
    refine lv_i2l (v := lN F) hx hb dL_facts_7 (nI_l hF) ?_
    refine zt_last hx hb hK hP (zh_D had) hS 6 1 rfl rfl (i := 0) (by decide) (by decide) dL_facts_8 (fun H locs hP _ hS => ?_)
    have hP : va_P (dC, dI) zcl (zx_w ad cI cJ lev val pkd u chs D N (zn p0) 0 ++ zo_w ad cJ (vp_updL f 0 (lN F))) H := hP
    refine lv_goto (tgt := 15) hx hb dL_facts_9 (by decide) ?_
    refine lv_iconst (v := nI 0) hx hb dL_facts_15 (by decide) ?_
    refine W.widen (k := 1) (n := 6) (by omega) (by omega) ?_
    exact zt_ri hx hb hr hlocks (fun t ht _ => Or.inl ⟨hcd, u, rfl, hu, by rw [ht]; exact hP, hS.F ht⟩) hS.2.2 dL_facts_16
  · refine zt_catch1 htab (by decide) (by decide) (by decide) hown (hz _ kc_L_13) (hz _ kt_IllegalArgumentException) (hz _ kcast_IllegalArgumentException_IllegalArgumentException) hX ?_
    refine lv_astore_n (lv' := [(3, .ref x), (0, .ref (ad 0)), (1, .int p0), (2, .ref (ad 6))]) hx hb dL_facts_12 rfl hl (by decide) rfl (fun ls hl => ?_)
    refine lv_iconst (v := nI 1) hx hb dL_facts_13 (by decide) ?_
    exact zt_ri hx hb hr hlocks (fun t ht _ => Or.inr ⟨by rw [hcd]; decide, by rw [hcd], by rw [ht]; exact hP, hS.F ht⟩) hS.2.2 dL_facts_14
  · exact absurd hcd (by unfold zc_fac; split <;> decide)
set_option maxHeartbeats 4000000 in
set_option maxRecDepth 100000 in
/-- the helper digit -/
theorem tL_digit (l : Launch) {dC : Nat → ClassId} {dI : Nat → Nat → Nat} {cI cJ cB : ClassId} {ad : Nat → Nat} {lev val pkd : Nat → Int32} {cst : Nat → Int64} {chs : Nat → Int32} {D N F k : Nat} {L V : Nat → Nat} {p0 p1 : Int32} {f : Nat → Int64} {sz : Nat} (had : zg_ap ad 7) (hst : l.stackTraces = false) (hR : zx_R D N F L V lev val pkd) : zt_Met l yL_digit wL_digit rL_digit (va_Pc [.ref (ad 0), .int p0, .int p1, .ref (ad 6)] (zg_V dC dI cI cJ cB (zx_w ad cI cJ lev val pkd cst chs D N F k ++ zo_w ad cJ f) sz)) (zg_H dC dI (zc_b (zb_in p0 N && zb_in p1 D)) (fun u : Unit => True) (zx_w ad cI cJ lev val pkd cst chs D N F k ++ zo_w ad cJ f) (fun u => (zx_w ad cI cJ lev val pkd cst chs D N F k ++ zo_w ad cJ (vp_updL f 0 ((nI (zq_dg L D p0.toNatClampNeg p1.toNatClampNeg)).toInt64)))) (zg_A ad 7 sz)) 1 6 0 0 (zg_A ad 7 sz) := by
  refine zt_ofWith (cc := cL_digit) (maxL := 5) (ret := some .int) (hs := [(0, 10, 13, 13)]) (by decide) rfl ?_
  intro p e s m args below meth c s₁ B hml htab hv
  obtain ⟨rfl, ⟨hsz, hP, hK, hTS⟩, hNc⟩ := hv
  have hx := B.exec
  have hb := B.bytes
  have hr := B.returns
  have hz : ∀ w ∈ zw0, w.before ([.ref (ad 0), .int p0, .int p1, .ref (ad 6)] : List Value).toArray s = true := fun w h => atoms_spec (ws := wL_digit) B.pre w (List.mem_cons_of_mem _ h)
  have hown : s.vm.findClass RL = some m.cls := findClass_of_methodNamed B.named
  have hlocks := B.notSynchronized
  subst hsz
  have hPx : va_P (dC, dI) zcl (zx_w ad cI cJ lev val pkd cst chs D N F k) s.heap := hP.sub [0, 1, 2, 3, 4, 5] rfl
  have hP6 : va_P (dC, dI) zcl (zo_w ad cJ f) s.heap := hP.sub [6] rfl
  have hl := lv_entry ([.ref (ad 0), .int p0, .int p1, .ref (ad 6)]) (n := 5) (Nat.le_of_ble_eq_true rfl)
  rw [lg_entry_eq]
  generalize (lg_sl ([.ref (ad 0), .int p0, .int p1, .ref (ad 6)]) ++ List.replicate (5 - (lg_sl ([.ref (ad 0), .int p0, .int p1, .ref (ad 6)])).length) Slot.unset).toArray = ls at hl ⊢
  have hl : lv_has ls 5 [(0, .ref (ad 0)), (1, .int p0), (2, .int p1), (3, .ref (ad 6))] := hl
  refine lv_aload_n hx hb dL_digit_0 rfl (lv_at hl 3 rfl) ?_
  refine lv_iconst (v := nI 0) hx hb dL_digit_1 (by decide) ?_
  refine lv_aload_n hx hb dL_digit_2 rfl (lv_at hl 0 rfl) ?_
  refine lv_iload_n hx hb dL_digit_3 rfl (lv_at hl 1 rfl) ?_
  refine lv_iload_n hx hb dL_digit_4 rfl (lv_at hl 2 rfl) ?_
  refine zh_call (w0 := zx_w ad cI cJ lev val pkd cst chs D N F k) (f := f) had (zt_Run_mono (zt_Qp_X_at (cd := zc_b (zb_in p0 N && zb_in p1 D)) (fun h => if_pos h) (fun h => if_neg h) hPx) (fun q h => h.elim) (zg_runT (rest := [.int (nI 0), .ref (ad 6)]) hx hb hml hown (tX_digit l hst hR) (wcL_24 hz (Nat.le_of_ble_eq_true rfl) (Nat.le_of_ble_eq_true rfl)) (hz _ ki_X_digit) (hz _ ks_X_digit) (hz _ kC_X_digit) hPx hK hTS rfl (q0 := 0) rfl rfl hl.1 rfl (Nat.le_of_ble_eq_true rfl) dL_digit_5 ⟨Nat.le_of_ble_eq_true rfl, Nat.le_of_ble_eq_true rfl⟩)) hP hP6 (fun hcd u H locs hu hP hS => ?_) (fun hcd x H locs hX hP hS => ?_) (fun hcd x H locs hX hP hS => ?_)
  · refine W.eq (g2 := F0 m 8 ls [.int (nI (zq_dg L D p0.toNatClampNeg p1.toNatClampNeg)), .int (nI 0), .ref (ad 6)]) rfl ?_
    refine lv_i2l (v := (nI (zq_dg L D p0.toNatClampNeg p1.toNatClampNeg)).toInt64) hx hb dL_digit_8 (rfl) ?_
    refine zt_last hx hb hK hP (zh_D had) hS 6 1 rfl rfl (i := 0) (by decide) (by decide) dL_digit_9 (fun H locs hP _ hS => ?_)
    have hP : va_P (dC, dI) zcl (zx_w ad cI cJ lev val pkd cst chs D N F k ++ zo_w ad cJ (vp_updL f 0 ((nI (zq_dg L D p0.toNatClampNeg p1.toNatClampNeg)).toInt64))) H := hP
    refine lv_goto (tgt := 17) hx hb dL_digit_10 (by decide) ?_
    refine lv_iconst (v := nI 0) hx hb dL_digit_17 (by decide) ?_
    refine W.widen (k := 1) (n := 6) (by omega) (by omega) ?_
    exact zt_ri hx hb hr hlocks (fun t ht _ => Or.inl ⟨hcd, u, rfl, hu, by rw [ht]; exact hP, hS.F ht⟩) hS.2.2 dL_digit_18
  · refine zt_catch1 htab (by decide) (by decide) (by decide) hown (hz _ kc_L_13) (hz _ kt_IllegalArgumentException) (hz _ kcast_IllegalArgumentException_IllegalArgumentException) hX ?_
    refine lv_astore (lv' := [(4, .ref x), (0, .ref (ad 0)), (1, .int p0), (2, .int p1), (3, .ref (ad 6))]) hx hb dL_digit_13 hl (by decide) rfl (fun ls hl => ?_)
    refine lv_iconst (v := nI 1) hx hb dL_digit_15 (by decide) ?_
    exact zt_ri hx hb hr hlocks (fun t ht _ => Or.inr ⟨by rw [hcd]; decide, by rw [hcd], by rw [ht]; exact hP, hS.F ht⟩) hS.2.2 dL_digit_16
  · exact absurd hcd (by unfold zc_b; split <;> decide)
set_option maxHeartbeats 4000000 in
set_option maxRecDepth 100000 in
/-- the helper isAbove -/
theorem tL_isAbove (l : Launch) {dC : Nat → ClassId} {dI : Nat → Nat → Nat} {cI cJ cB : ClassId} {ad : Nat → Nat} {lev val pkd : Nat → Int32} {cst : Nat → Int64} {chs : Nat → Int32} {D N F k : Nat} {L V : Nat → Nat} {p0 p1 : Int32} {f : Nat → Int64} {sz : Nat} (had : zg_ap ad 7) (hst : l.stackTraces = false) (hR : zx_R D N F L V lev val pkd) : zt_Met l yL_isAbove wL_isAbove rL_isAbove (va_Pc [.ref (ad 0), .int p0, .int p1, .ref (ad 6)] (zg_V dC dI cI cJ cB (zx_w ad cI cJ lev val pkd cst chs D N F k ++ zo_w ad cJ f) sz)) (zg_H dC dI (zc_b (zb_in p0 N && zb_in p1 N)) (fun u : Unit => True) (zx_w ad cI cJ lev val pkd cst chs D N F k ++ zo_w ad cJ f) (fun u => (zx_w ad cI cJ lev val pkd cst chs D N F k ++ zo_w ad cJ (vp_updL f 0 (if zq_ab L D p0.toNatClampNeg p1.toNatClampNeg = true then 1 else 0)))) (zg_A ad 7 sz)) 1 6 0 0 (zg_A ad 7 sz) := by
  refine zt_ofWith (cc := cL_isAbove) (maxL := 5) (ret := some .int) (hs := [(0, 17, 20, 13)]) (by decide) rfl ?_
  intro p e s m args below meth c s₁ B hml htab hv
  obtain ⟨rfl, ⟨hsz, hP, hK, hTS⟩, hNc⟩ := hv
  have hx := B.exec
  have hb := B.bytes
  have hr := B.returns
  have hz : ∀ w ∈ zw0, w.before ([.ref (ad 0), .int p0, .int p1, .ref (ad 6)] : List Value).toArray s = true := fun w h => atoms_spec (ws := wL_isAbove) B.pre w (List.mem_cons_of_mem _ h)
  have hown : s.vm.findClass RL = some m.cls := findClass_of_methodNamed B.named
  have hlocks := B.notSynchronized
  subst hsz
  have hPx : va_P (dC, dI) zcl (zx_w ad cI cJ lev val pkd cst chs D N F k) s.heap := hP.sub [0, 1, 2, 3, 4, 5] rfl
  have hP6 : va_P (dC, dI) zcl (zo_w ad cJ f) s.heap := hP.sub [6] rfl
  have hl := lv_entry ([.ref (ad 0), .int p0, .int p1, .ref (ad 6)]) (n := 5) (Nat.le_of_ble_eq_true rfl)
  rw [lg_entry_eq]
  generalize (lg_sl ([.ref (ad 0), .int p0, .int p1, .ref (ad 6)]) ++ List.replicate (5 - (lg_sl ([.ref (ad 0), .int p0, .int p1, .ref (ad 6)])).length) Slot.unset).toArray = ls at hl ⊢
  have hl : lv_has ls 5 [(0, .ref (ad 0)), (1, .int p0), (2, .int p1), (3, .ref (ad 6))] := hl
  refine lv_aload_n hx hb dL_isAbove_0 rfl (lv_at hl 3 rfl) ?_
  refine lv_iconst (v := nI 0) hx hb dL_isAbove_1 (by decide) ?_
  refine lv_aload_n hx hb dL_isAbove_2 rfl (lv_at hl 0 rfl) ?_
  refine lv_iload_n hx hb dL_isAbove_3 rfl (lv_at hl 1 rfl) ?_
  refine lv_iload_n hx hb dL_isAbove_4 rfl (lv_at hl 2 rfl) ?_
  refine zh_call (w0 := zx_w ad cI cJ lev val pkd cst chs D N F k) (f := f) had (zt_Run_mono (zt_Qp_X_at (cd := zc_b (zb_in p0 N && zb_in p1 N)) (fun h => if_pos h) (fun h => if_neg h) hPx) (fun q h => h.elim) (zg_runT (rest := [.int (nI 0), .ref (ad 6)]) hx hb hml hown (tX_isAbove l hst hR) (wcL_28 hz (Nat.le_of_ble_eq_true rfl) (Nat.le_of_ble_eq_true rfl)) (hz _ ki_X_isAbove) (hz _ ks_X_isAbove) (hz _ kC_X_isAbove) hPx hK hTS rfl (q0 := 0) rfl rfl hl.1 rfl (Nat.le_of_ble_eq_true rfl) dL_isAbove_5 ⟨Nat.le_of_ble_eq_true rfl, Nat.le_of_ble_eq_true rfl⟩)) hP hP6 (fun hcd u H locs hu hP hS => ?_) (fun hcd x H locs hX hP hS => ?_) (fun hcd x H locs hX hP hS => ?_)
  · refine W.eq (g2 := F0 m 8 ls [.int (if zq_ab L D p0.toNatClampNeg p1.toNatClampNeg = true then 1 else 0), .int (nI 0), .ref (ad 6)]) rfl ?_
    generalize zq_ab L D p0.toNatClampNeg p1.toNatClampNeg = bb
    cases bb
    · refine W.eq (g2 := F0 m 8 ls [.int (nI 0), .int (nI 0), .ref (ad 6)]) rfl ?_
      refine lv_if_eq (tgt := 15) hx hb dL_isAbove_8 (by decide) (fun _ => ?_) (fun c8 => absurd c8 (not_not_intro (by decide)))
      refine lv_lconst (v := lN 0) hx hb dL_isAbove_15 (by decide) ?_
      refine zt_last hx hb hK hP (zh_D had) hS 6 1 rfl rfl (i := 0) (by decide) (by decide) dL_isAbove_16 (fun H locs hP _ hS => ?_)
      have hP : va_P (dC, dI) zcl (zx_w ad cI cJ lev val pkd cst chs D N F k ++ zo_w ad cJ (vp_updL f 0 (lN 0))) H := hP
      refine lv_goto (tgt := 24) hx hb dL_isAbove_17 (by decide) ?_
      refine lv_iconst (v := nI 0) hx hb dL_isAbove_24 (by decide) ?_
      refine W.widen (k := 1) (n := 6) (by omega) (by omega) ?_
      exact zt_ri hx hb hr hlocks (fun t ht _ => Or.inl ⟨hcd, u, rfl, hu, by rw [ht]; exact hP, hS.F ht⟩) hS.2.2 dL_isAbove_25
    · refine W.eq (g2 := F0 m 8 ls [.int (nI 1), .int (nI 0), .ref (ad 6)]) rfl ?_
      refine lv_if_eq (tgt := 15) hx hb dL_isAbove_8 (by decide) (fun c8 => absurd c8 (by decide)) (fun _ => ?_)
      refine lv_lconst (v := lN 1) hx hb dL_isAbove_11 (by decide) ?_
      refine lv_goto (tgt := 16) hx hb dL_isAbove_12 (by decide) ?_
      refine zt_last hx hb hK hP (zh_D had) hS 6 1 rfl rfl (i := 0) (by decide) (by decide) dL_isAbove_16 (fun H locs hP _ hS => ?_)
      have hP : va_P (dC, dI) zcl (zx_w ad cI cJ lev val pkd cst chs D N F k ++ zo_w ad cJ (vp_updL f 0 (lN 1))) H := hP
      refine lv_goto (tgt := 24) hx hb dL_isAbove_17 (by decide) ?_
      refine lv_iconst (v := nI 0) hx hb dL_isAbove_24 (by decide) ?_
      refine W.widen (k := 1) (n := 6) (by omega) (by omega) ?_
      exact zt_ri hx hb hr hlocks (fun t ht _ => Or.inl ⟨hcd, u, rfl, hu, by rw [ht]; exact hP, hS.F ht⟩) hS.2.2 dL_isAbove_25
  · refine zt_catch1 htab (by decide) (by decide) (by decide) hown (hz _ kc_L_13) (hz _ kt_IllegalArgumentException) (hz _ kcast_IllegalArgumentException_IllegalArgumentException) hX ?_
    refine lv_astore (lv' := [(4, .ref x), (0, .ref (ad 0)), (1, .int p0), (2, .int p1), (3, .ref (ad 6))]) hx hb dL_isAbove_20 hl (by decide) rfl (fun ls hl => ?_)
    refine lv_iconst (v := nI 1) hx hb dL_isAbove_22 (by decide) ?_
    exact zt_ri hx hb hr hlocks (fun t ht _ => Or.inr ⟨by rw [hcd]; decide, by rw [hcd], by rw [ht]; exact hP, hS.F ht⟩) hS.2.2 dL_isAbove_23
  · exact absurd hcd (by unfold zc_b; split <;> decide)
set_option maxHeartbeats 4000000 in
set_option maxRecDepth 100000 in
/-- the helper told -/
theorem tL_told (l : Launch) {dC : Nat → ClassId} {dI : Nat → Nat → Nat} {cI cJ cB : ClassId} {ad : Nat → Nat} {lev val pkd : Nat → Int32} {cst : Nat → Int64} {chs : Nat → Int32} {D N F k : Nat} {L V : Nat → Nat} {p0 p1 : Int32} {cw : Nat → Nat} {f : Nat → Int64} {sz : Nat} (had : zg_ap ad 7) (hc : ∀ w, w < N → cst w = lN (cw w) ∧ cw w ≤ F) (hst : l.stackTraces = false) (hR : zx_R D N F L V lev val pkd) : zt_Met l yL_told wL_told rL_told (va_Pc [.ref (ad 0), .int p0, .int p1, .ref (ad 6)] (zg_V dC dI cI cJ cB (zx_w ad cI cJ lev val pkd cst chs D N F k ++ zo_w ad cJ f) sz)) (zg_H dC dI (zc_b (zb_in p0 N && zb_in p1 3)) (fun u : Unit => True) (zx_w ad cI cJ lev val pkd cst chs D N F k ++ zo_w ad cJ f) (fun u => (zx_w ad cI cJ lev val pkd cst chs D N F k ++ zo_w ad cJ (vp_updL f 0 (lN (zq_told (zq_es L V D F) (zq_ab L D) cw N p0.toNatClampNeg p1.toNatClampNeg))))) (zg_A ad 7 sz)) 1 6 0 0 (zg_A ad 7 sz) := by
  refine zt_ofWith (cc := cL_told) (maxL := 5) (ret := some .int) (hs := [(0, 9, 12, 13)]) (by decide) rfl ?_
  intro p e s m args below meth c s₁ B hml htab hv
  obtain ⟨rfl, ⟨hsz, hP, hK, hTS⟩, hNc⟩ := hv
  have hx := B.exec
  have hb := B.bytes
  have hr := B.returns
  have hz : ∀ w ∈ zw0, w.before ([.ref (ad 0), .int p0, .int p1, .ref (ad 6)] : List Value).toArray s = true := fun w h => atoms_spec (ws := wL_told) B.pre w (List.mem_cons_of_mem _ h)
  have hown : s.vm.findClass RL = some m.cls := findClass_of_methodNamed B.named
  have hlocks := B.notSynchronized
  subst hsz
  have hPx : va_P (dC, dI) zcl (zx_w ad cI cJ lev val pkd cst chs D N F k) s.heap := hP.sub [0, 1, 2, 3, 4, 5] rfl
  have hP6 : va_P (dC, dI) zcl (zo_w ad cJ f) s.heap := hP.sub [6] rfl
  have hl := lv_entry ([.ref (ad 0), .int p0, .int p1, .ref (ad 6)]) (n := 5) (Nat.le_of_ble_eq_true rfl)
  rw [lg_entry_eq]
  generalize (lg_sl ([.ref (ad 0), .int p0, .int p1, .ref (ad 6)]) ++ List.replicate (5 - (lg_sl ([.ref (ad 0), .int p0, .int p1, .ref (ad 6)])).length) Slot.unset).toArray = ls at hl ⊢
  have hl : lv_has ls 5 [(0, .ref (ad 0)), (1, .int p0), (2, .int p1), (3, .ref (ad 6))] := hl
  refine lv_aload_n hx hb dL_told_0 rfl (lv_at hl 3 rfl) ?_
  refine lv_iconst (v := nI 0) hx hb dL_told_1 (by decide) ?_
  refine lv_aload_n hx hb dL_told_2 rfl (lv_at hl 0 rfl) ?_
  refine lv_iload_n hx hb dL_told_3 rfl (lv_at hl 1 rfl) ?_
  refine lv_iload_n hx hb dL_told_4 rfl (lv_at hl 2 rfl) ?_
  refine zh_call (w0 := zx_w ad cI cJ lev val pkd cst chs D N F k) (f := f) had (zt_Run_mono (zt_Qp_X_at (cd := zc_b (zb_in p0 N && zb_in p1 3)) (fun h => if_pos h) (fun h => if_neg h) hPx) (fun q h => h.elim) (zg_runT (rest := [.int (nI 0), .ref (ad 6)]) hx hb hml hown (tX_told l hc hst hR) (wcL_32 hz (Nat.le_of_ble_eq_true rfl) (Nat.le_of_ble_eq_true rfl)) (hz _ ki_X_told) (hz _ ks_X_told) (hz _ kC_X_told) hPx hK hTS rfl (q0 := 0) rfl rfl hl.1 rfl (Nat.le_of_ble_eq_true rfl) dL_told_5 ⟨Nat.le_of_ble_eq_true rfl, Nat.le_of_ble_eq_true rfl⟩)) hP hP6 (fun hcd u H locs hu hP hS => ?_) (fun hcd x H locs hX hP hS => ?_) (fun hcd x H locs hX hP hS => ?_)
  · refine W.eq (g2 := F0 m 8 ls [.long (lN (zq_told (zq_es L V D F) (zq_ab L D) cw N p0.toNatClampNeg p1.toNatClampNeg)), .int (nI 0), .ref (ad 6)]) rfl ?_
    refine zt_last hx hb hK hP (zh_D had) hS 6 1 rfl rfl (i := 0) (by decide) (by decide) dL_told_8 (fun H locs hP _ hS => ?_)
    have hP : va_P (dC, dI) zcl (zx_w ad cI cJ lev val pkd cst chs D N F k ++ zo_w ad cJ (vp_updL f 0 (lN (zq_told (zq_es L V D F) (zq_ab L D) cw N p0.toNatClampNeg p1.toNatClampNeg)))) H := hP
    refine lv_goto (tgt := 16) hx hb dL_told_9 (by decide) ?_
    refine lv_iconst (v := nI 0) hx hb dL_told_16 (by decide) ?_
    refine W.widen (k := 1) (n := 6) (by omega) (by omega) ?_
    exact zt_ri hx hb hr hlocks (fun t ht _ => Or.inl ⟨hcd, u, rfl, hu, by rw [ht]; exact hP, hS.F ht⟩) hS.2.2 dL_told_17
  · refine zt_catch1 htab (by decide) (by decide) (by decide) hown (hz _ kc_L_13) (hz _ kt_IllegalArgumentException) (hz _ kcast_IllegalArgumentException_IllegalArgumentException) hX ?_
    refine lv_astore (lv' := [(4, .ref x), (0, .ref (ad 0)), (1, .int p0), (2, .int p1), (3, .ref (ad 6))]) hx hb dL_told_12 hl (by decide) rfl (fun ls hl => ?_)
    refine lv_iconst (v := nI 1) hx hb dL_told_14 (by decide) ?_
    exact zt_ri hx hb hr hlocks (fun t ht _ => Or.inr ⟨by rw [hcd]; decide, by rw [hcd], by rw [ht]; exact hP, hS.F ht⟩) hS.2.2 dL_told_15
  · exact absurd hcd (by unfold zc_b; split <;> decide)
set_option maxHeartbeats 4000000 in
set_option maxRecDepth 100000 in
/-- the helper take -/
theorem tL_take (l : Launch) {dC : Nat → ClassId} {dI : Nat → Nat → Nat} {cI cJ cB : ClassId} {ad : Nat → Nat} {lev val pkd : Nat → Int32} {cst : Nat → Int64} {chs : Nat → Int32} {D N F k : Nat} {L V S : Nat → Nat} {p0 : Int32} {f : Nat → Int64} {sz : Nat} (had : zg_ap ad 7) (hst : l.stackTraces = false) (hR : zx_R D N F L V lev val pkd) (hJ : zx_J D N F k L V S cst chs) (hk : k ≤ 16) : zt_Met l yL_take wL_take rL_take (va_Pc [.ref (ad 0), .int p0, .ref (ad 6)] (zg_V dC dI cI cJ cB (zx_w ad cI cJ lev val pkd cst chs D N F k ++ zo_w ad cJ f) sz)) (zg_H dC dI (zc_take (zn p0) N k) (fun u : (Nat → Int64) × (Nat → Int32) => zx_J D N F (k + 1) L V (zq_up S k (zn p0)) u.1 u.2) (zx_w ad cI cJ lev val pkd cst chs D N F k ++ zo_w ad cJ f) (fun u => (zx_w ad cI cJ lev val pkd u.1 u.2 D N F (k + 1) ++ zo_w ad cJ (vp_updL f 0 (lN (k + 1))))) (zg_A ad 7 sz)) 1 6 0 0 (zg_A ad 7 sz) := by
  refine zt_ofWith (cc := cL_take) (maxL := 4) (ret := some .int) (hs := [(0, 9, 12, 13), (0, 9, 15, 15)]) (by decide) rfl ?_
  intro p e s m args below meth c s₁ B hml htab hv
  obtain ⟨rfl, ⟨hsz, hP, hK, hTS⟩, hNc⟩ := hv
  have hx := B.exec
  have hb := B.bytes
  have hr := B.returns
  have hz : ∀ w ∈ zw0, w.before ([.ref (ad 0), .int p0, .ref (ad 6)] : List Value).toArray s = true := fun w h => atoms_spec (ws := wL_take) B.pre w (List.mem_cons_of_mem _ h)
  have hown : s.vm.findClass RL = some m.cls := findClass_of_methodNamed B.named
  have hlocks := B.notSynchronized
  subst hsz
  have hPx : va_P (dC, dI) zcl (zx_w ad cI cJ lev val pkd cst chs D N F k) s.heap := hP.sub [0, 1, 2, 3, 4, 5] rfl
  have hP6 : va_P (dC, dI) zcl (zo_w ad cJ f) s.heap := hP.sub [6] rfl
  have hl := lv_entry ([.ref (ad 0), .int p0, .ref (ad 6)]) (n := 4) (Nat.le_of_ble_eq_true rfl)
  rw [lg_entry_eq]
  generalize (lg_sl ([.ref (ad 0), .int p0, .ref (ad 6)]) ++ List.replicate (4 - (lg_sl ([.ref (ad 0), .int p0, .ref (ad 6)])).length) Slot.unset).toArray = ls at hl ⊢
  have hl : lv_has ls 4 [(0, .ref (ad 0)), (1, .int p0), (2, .ref (ad 6))] := hl
  refine lv_aload_n hx hb dL_take_0 rfl (lv_at hl 2 rfl) ?_
  refine lv_iconst (v := nI 0) hx hb dL_take_1 (by decide) ?_
  refine lv_aload_n hx hb dL_take_2 rfl (lv_at hl 0 rfl) ?_
  refine lv_iload_n hx hb dL_take_3 rfl (lv_at hl 1 rfl) ?_
  refine zh_call (w0 := zx_w ad cI cJ lev val pkd cst chs D N F k) (f := f) had (zg_runU (rest := [.int (nI 0), .ref (ad 6)]) hx hb hml hown (tX_take l (zg_ap6 had) hst hR hJ hk) (wcL_36 hz (Nat.le_of_ble_eq_true rfl) (Nat.le_of_ble_eq_true rfl)) (hz _ ki_X_take) (hz _ ks_X_take) (hz _ kC_X_take) hPx hK hTS rfl (q0 := 0) rfl rfl hl.1 rfl (Nat.le_of_ble_eq_true rfl) dL_take_4 ⟨Nat.le_of_ble_eq_true rfl, Nat.le_of_ble_eq_true rfl⟩) hP hP6 (fun hcd u H locs hu hP hS => ?_) (fun hcd x H locs hX hP hS => ?_) (fun hcd x H locs hX hP hS => ?_)
  · refine W.eq (g2 := F0 m 7 ls [.int (nI (k + 1)), .int (nI 0), .ref (ad 6)]) rfl ?_
    refine lv_i2l (v := lN (k + 1)) hx hb dL_take_7 (nI_l (by omega)) ?_
    refine zt_last hx hb hK hP (zh_D had) hS 6 1 rfl rfl (i := 0) (by decide) (by decide) dL_take_8 (fun H locs hP _ hS => ?_)
    have hP : va_P (dC, dI) zcl (zx_w ad cI cJ lev val pkd u.1 u.2 D N F (k + 1) ++ zo_w ad cJ (vp_updL f 0 (lN (k + 1)))) H := hP
    refine lv_goto (tgt := 18) hx hb dL_take_9 (by decide) ?_
    refine lv_iconst (v := nI 0) hx hb dL_take_18 (by decide) ?_
    refine W.widen (k := 1) (n := 6) (by omega) (by omega) ?_
    exact zt_ri hx hb hr hlocks (fun t ht _ => Or.inl ⟨hcd, u, rfl, hu, by rw [ht]; exact hP, hS.F ht⟩) hS.2.2 dL_take_19
  · refine zt_catch1 htab (by decide) (by decide) (by decide) hown (hz _ kc_L_13) (hz _ kt_IllegalArgumentException) (hz _ kcast_IllegalArgumentException_IllegalArgumentException) hX ?_
    refine lv_astore_n (lv' := [(3, .ref x), (0, .ref (ad 0)), (1, .int p0), (2, .ref (ad 6))]) hx hb dL_take_12 rfl hl (by decide) rfl (fun ls hl => ?_)
    refine lv_iconst (v := nI 1) hx hb dL_take_13 (by decide) ?_
    exact zt_ri hx hb hr hlocks (fun t ht _ => Or.inr ⟨by rw [hcd]; decide, by rw [hcd], by rw [ht]; exact hP, hS.F ht⟩) hS.2.2 dL_take_14
  · refine zt_catch2 htab (by decide) (by decide) (by decide) (by decide) (by decide) (by decide) hown (hz _ kc_L_15) (hz _ kc_L_13) (hz _ kt_IllegalStateException) (hz _ kt_IllegalArgumentException) (hz _ kcast_IllegalStateException_IllegalStateException) hNc hX ?_
    refine lv_astore_n (lv' := [(3, .ref x), (0, .ref (ad 0)), (1, .int p0), (2, .ref (ad 6))]) hx hb dL_take_15 rfl hl (by decide) rfl (fun ls hl => ?_)
    refine lv_iconst (v := nI 2) hx hb dL_take_16 (by decide) ?_
    exact zt_ri hx hb hr hlocks (fun t ht _ => Or.inr ⟨by rw [hcd]; decide, by rw [hcd], by rw [ht]; exact hP, hS.F ht⟩) hS.2.2 dL_take_17
set_option maxHeartbeats 4000000 in
set_option maxRecDepth 100000 in
/-- the helper step -/
theorem tL_step (l : Launch) {dC : Nat → ClassId} {dI : Nat → Nat → Nat} {cI cJ cB : ClassId} {ad : Nat → Nat} {lev val pkd : Nat → Int32} {cst : Nat → Int64} {chs : Nat → Int32} {D N F k : Nat} {L V S : Nat → Nat} {f : Nat → Int64} {sz : Nat} (had : zg_ap ad 7) (hst : l.stackTraces = false) (hR : zx_R D N F L V lev val pkd) (hJ : zx_J D N F k L V S cst chs) (hk : k ≤ 16) : zt_Met l yL_step wL_step rL_step (va_Pc [.ref (ad 0), .ref (ad 6)] (zg_V dC dI cI cJ cB (zx_w ad cI cJ lev val pkd cst chs D N F k ++ zo_w ad cJ f) sz)) (zg_H dC dI (zc_st k) (fun u : (Nat → Int64) × (Nat → Int32) => zx_J D N F (zq_go (zq_pick D N F L V) 1 k S).1 L V (zq_go (zq_pick D N F L V) 1 k S).2 u.1 u.2) (zx_w ad cI cJ lev val pkd cst chs D N F k ++ zo_w ad cJ f) (fun u => (zx_w ad cI cJ lev val pkd u.1 u.2 D N F ((zq_go (zq_pick D N F L V) 1 k S).1) ++ zo_w ad cJ (vp_updL f 0 ((nI (zq_pick D N F L V k S) - 1).toInt64)))) (zg_A ad 7 sz)) 1 6 0 0 (zg_A ad 7 sz) := by
  refine zt_ofWith (cc := cL_step) (maxL := 3) (ret := some .int) (hs := [(0, 8, 11, 15)]) (by decide) rfl ?_
  intro p e s m args below meth c s₁ B hml htab hv
  obtain ⟨rfl, ⟨hsz, hP, hK, hTS⟩, hNc⟩ := hv
  have hx := B.exec
  have hb := B.bytes
  have hr := B.returns
  have hz : ∀ w ∈ zw0, w.before ([.ref (ad 0), .ref (ad 6)] : List Value).toArray s = true := fun w h => atoms_spec (ws := wL_step) B.pre w (List.mem_cons_of_mem _ h)
  have hown : s.vm.findClass RL = some m.cls := findClass_of_methodNamed B.named
  have hlocks := B.notSynchronized
  subst hsz
  have hPx : va_P (dC, dI) zcl (zx_w ad cI cJ lev val pkd cst chs D N F k) s.heap := hP.sub [0, 1, 2, 3, 4, 5] rfl
  have hP6 : va_P (dC, dI) zcl (zo_w ad cJ f) s.heap := hP.sub [6] rfl
  have hl := lv_entry ([.ref (ad 0), .ref (ad 6)]) (n := 3) (Nat.le_of_ble_eq_true rfl)
  rw [lg_entry_eq]
  generalize (lg_sl ([.ref (ad 0), .ref (ad 6)]) ++ List.replicate (3 - (lg_sl ([.ref (ad 0), .ref (ad 6)])).length) Slot.unset).toArray = ls at hl ⊢
  have hl : lv_has ls 3 [(0, .ref (ad 0)), (1, .ref (ad 6))] := hl
  refine lv_aload_n hx hb dL_step_0 rfl (lv_at hl 1 rfl) ?_
  refine lv_iconst (v := nI 0) hx hb dL_step_1 (by decide) ?_
  refine lv_aload_n hx hb dL_step_2 rfl (lv_at hl 0 rfl) ?_
  refine zh_call (w0 := zx_w ad cI cJ lev val pkd cst chs D N F k) (f := f) had (zg_runU (rest := [.int (nI 0), .ref (ad 6)]) hx hb hml hown (tX_step l (zg_ap6 had) hst hR hJ hk) (wcL_39 hz (Nat.le_of_ble_eq_true rfl) (Nat.le_of_ble_eq_true rfl)) (hz _ ki_X_step) (hz _ ks_X_step) (hz _ kC_X_step) hPx hK hTS rfl (q0 := 0) rfl rfl hl.1 rfl (Nat.le_of_ble_eq_true rfl) dL_step_3 ⟨Nat.le_of_ble_eq_true rfl, Nat.le_of_ble_eq_true rfl⟩) hP hP6 (fun hcd u H locs hu hP hS => ?_) (fun hcd x H locs hX hP hS => ?_) (fun hcd x H locs hX hP hS => ?_)
  · refine W.eq (g2 := F0 m 6 ls [.int (nI (zq_pick D N F L V k S) - 1), .int (nI 0), .ref (ad 6)]) rfl ?_
    refine lv_i2l (v := (nI (zq_pick D N F L V k S) - 1).toInt64) hx hb dL_step_6 (rfl) ?_
    refine zt_last hx hb hK hP (zh_D had) hS 6 1 rfl rfl (i := 0) (by decide) (by decide) dL_step_7 (fun H locs hP _ hS => ?_)
    have hP : va_P (dC, dI) zcl (zx_w ad cI cJ lev val pkd u.1 u.2 D N F ((zq_go (zq_pick D N F L V) 1 k S).1) ++ zo_w ad cJ (vp_updL f 0 ((nI (zq_pick D N F L V k S) - 1).toInt64))) H := hP
    refine lv_goto (tgt := 14) hx hb dL_step_8 (by decide) ?_
    refine lv_iconst (v := nI 0) hx hb dL_step_14 (by decide) ?_
    refine W.widen (k := 1) (n := 6) (by omega) (by omega) ?_
    exact zt_ri hx hb hr hlocks (fun t ht _ => Or.inl ⟨by unfold zc_step at hcd; unfold zc_st; by_cases q : k < 16 <;> simp_all, u, rfl, hu, by rw [ht]; exact hP, hS.F ht⟩) hS.2.2 dL_step_15
  · exact absurd hcd (by unfold zc_step; by_cases q : k < 16 <;> simp [q])
  · refine zt_catch1 htab (by decide) (by decide) (by decide) hown (hz _ kc_L_15) (hz _ kt_IllegalStateException) (hz _ kcast_IllegalStateException_IllegalStateException) hX ?_
    refine lv_astore_n (lv' := [(2, .ref x), (0, .ref (ad 0)), (1, .ref (ad 6))]) hx hb dL_step_11 rfl hl (by decide) rfl (fun ls hl => ?_)
    refine lv_iconst (v := nI 1) hx hb dL_step_12 (by decide) ?_
    have hc9 : zc_st k = 1 := by unfold zc_step at hcd; unfold zc_st; by_cases q : k < 16 <;> simp_all
    exact zt_ri hx hb hr hlocks (fun t ht _ => Or.inr ⟨by rw [hc9]; decide, by rw [hc9], by rw [ht]; exact hP, hS.F ht⟩) hS.2.2 dL_step_13
set_option maxHeartbeats 4000000 in
set_option maxRecDepth 100000 in
/-- the helper choose -/
theorem tL_choose (l : Launch) {dC : Nat → ClassId} {dI : Nat → Nat → Nat} {cI cJ cB : ClassId} {ad : Nat → Nat} {lev val pkd : Nat → Int32} {cst : Nat → Int64} {chs : Nat → Int32} {D N F k : Nat} {L V S : Nat → Nat} {p0 : Int32} {f : Nat → Int64} {sz : Nat} (had : zg_ap ad 7) (hst : l.stackTraces = false) (hR : zx_R D N F L V lev val pkd) (hJ : zx_J D N F k L V S cst chs) (hk : k ≤ 16) : zt_Met l yL_choose wL_choose rL_choose (va_Pc [.ref (ad 0), .int p0, .ref (ad 6)] (zg_V dC dI cI cJ cB (zx_w ad cI cJ lev val pkd cst chs D N F k ++ zo_w ad cJ f) sz)) (zg_H dC dI (zc_cho (zn p0)) (fun u : (Nat → Int64) × (Nat → Int32) => zx_J D N F (zq_go (zq_pick D N F L V) (zn p0 - k) k S).1 L V (zq_go (zq_pick D N F L V) (zn p0 - k) k S).2 u.1 u.2) (zx_w ad cI cJ lev val pkd cst chs D N F k ++ zo_w ad cJ f) (fun u => (zx_w ad cI cJ lev val pkd u.1 u.2 D N F ((zq_go (zq_pick D N F L V) (zn p0 - k) k S).1) ++ zo_w ad cJ (vp_updL f 0 ((nI (zq_go (zq_pick D N F L V) (zn p0 - k) k S).1).toInt64)))) (zg_A ad 7 sz)) 1 6 0 0 (zg_A ad 7 sz) := by
  refine zt_ofWith (cc := cL_choose) (maxL := 4) (ret := some .int) (hs := [(0, 9, 12, 13)]) (by decide) rfl ?_
  intro p e s m args below meth c s₁ B hml htab hv
  obtain ⟨rfl, ⟨hsz, hP, hK, hTS⟩, hNc⟩ := hv
  have hx := B.exec
  have hb := B.bytes
  have hr := B.returns
  have hz : ∀ w ∈ zw0, w.before ([.ref (ad 0), .int p0, .ref (ad 6)] : List Value).toArray s = true := fun w h => atoms_spec (ws := wL_choose) B.pre w (List.mem_cons_of_mem _ h)
  have hown : s.vm.findClass RL = some m.cls := findClass_of_methodNamed B.named
  have hlocks := B.notSynchronized
  subst hsz
  have hPx : va_P (dC, dI) zcl (zx_w ad cI cJ lev val pkd cst chs D N F k) s.heap := hP.sub [0, 1, 2, 3, 4, 5] rfl
  have hP6 : va_P (dC, dI) zcl (zo_w ad cJ f) s.heap := hP.sub [6] rfl
  have hl := lv_entry ([.ref (ad 0), .int p0, .ref (ad 6)]) (n := 4) (Nat.le_of_ble_eq_true rfl)
  rw [lg_entry_eq]
  generalize (lg_sl ([.ref (ad 0), .int p0, .ref (ad 6)]) ++ List.replicate (4 - (lg_sl ([.ref (ad 0), .int p0, .ref (ad 6)])).length) Slot.unset).toArray = ls at hl ⊢
  have hl : lv_has ls 4 [(0, .ref (ad 0)), (1, .int p0), (2, .ref (ad 6))] := hl
  refine lv_aload_n hx hb dL_choose_0 rfl (lv_at hl 2 rfl) ?_
  refine lv_iconst (v := nI 0) hx hb dL_choose_1 (by decide) ?_
  refine lv_aload_n hx hb dL_choose_2 rfl (lv_at hl 0 rfl) ?_
  refine lv_iload_n hx hb dL_choose_3 rfl (lv_at hl 1 rfl) ?_
  refine zh_call (w0 := zx_w ad cI cJ lev val pkd cst chs D N F k) (f := f) had (zg_runU (rest := [.int (nI 0), .ref (ad 6)]) hx hb hml hown (tX_choose l (zg_ap6 had) hst hR hJ hk) (wcL_43 hz (Nat.le_of_ble_eq_true rfl) (Nat.le_of_ble_eq_true rfl)) (hz _ ki_X_choose) (hz _ ks_X_choose) (hz _ kC_X_choose) hPx hK hTS rfl (q0 := 0) rfl rfl hl.1 rfl (Nat.le_of_ble_eq_true rfl) dL_choose_4 ⟨Nat.le_of_ble_eq_true rfl, Nat.le_of_ble_eq_true rfl⟩) hP hP6 (fun hcd u H locs hu hP hS => ?_) (fun hcd x H locs hX hP hS => ?_) (fun hcd x H locs hX hP hS => ?_)
  · refine W.eq (g2 := F0 m 7 ls [.int (nI (zq_go (zq_pick D N F L V) (zn p0 - k) k S).1), .int (nI 0), .ref (ad 6)]) rfl ?_
    refine lv_i2l (v := (nI (zq_go (zq_pick D N F L V) (zn p0 - k) k S).1).toInt64) hx hb dL_choose_7 (rfl) ?_
    refine zt_last hx hb hK hP (zh_D had) hS 6 1 rfl rfl (i := 0) (by decide) (by decide) dL_choose_8 (fun H locs hP _ hS => ?_)
    have hP : va_P (dC, dI) zcl (zx_w ad cI cJ lev val pkd u.1 u.2 D N F ((zq_go (zq_pick D N F L V) (zn p0 - k) k S).1) ++ zo_w ad cJ (vp_updL f 0 ((nI (zq_go (zq_pick D N F L V) (zn p0 - k) k S).1).toInt64))) H := hP
    refine lv_goto (tgt := 15) hx hb dL_choose_9 (by decide) ?_
    refine lv_iconst (v := nI 0) hx hb dL_choose_15 (by decide) ?_
    refine W.widen (k := 1) (n := 6) (by omega) (by omega) ?_
    exact zt_ri hx hb hr hlocks (fun t ht _ => Or.inl ⟨hcd, u, rfl, hu, by rw [ht]; exact hP, hS.F ht⟩) hS.2.2 dL_choose_16
  · refine zt_catch1 htab (by decide) (by decide) (by decide) hown (hz _ kc_L_13) (hz _ kt_IllegalArgumentException) (hz _ kcast_IllegalArgumentException_IllegalArgumentException) hX ?_
    refine lv_astore_n (lv' := [(3, .ref x), (0, .ref (ad 0)), (1, .int p0), (2, .ref (ad 6))]) hx hb dL_choose_12 rfl hl (by decide) rfl (fun ls hl => ?_)
    refine lv_iconst (v := nI 1) hx hb dL_choose_13 (by decide) ?_
    exact zt_ri hx hb hr hlocks (fun t ht _ => Or.inr ⟨by rw [hcd]; decide, by rw [hcd], by rw [ht]; exact hP, hS.F ht⟩) hS.2.2 dL_choose_14
  · exact absurd hcd (by unfold zc_cho; split <;> decide)
set_option maxHeartbeats 4000000 in
set_option maxRecDepth 100000 in
/-- the helper chosen -/
theorem tL_chosen (l : Launch) {dC : Nat → ClassId} {dI : Nat → Nat → Nat} {cI cJ cB : ClassId} {ad : Nat → Nat} {lev val pkd : Nat → Int32} {cst : Nat → Int64} {chs : Nat → Int32} {D N F k : Nat} {S : Nat → Nat} {p0 : Int32} {f : Nat → Int64} {sz : Nat} (had : zg_ap ad 7) (hst : l.stackTraces = false) (h5 : k ≤ 16) (hs : ∀ i, i < k → chs i = nI (S i)) : zt_Met l yL_chosen wL_chosen rL_chosen (va_Pc [.ref (ad 0), .int p0, .ref (ad 6)] (zg_V dC dI cI cJ cB (zx_w ad cI cJ lev val pkd cst chs D N F k ++ zo_w ad cJ f) sz)) (zg_H dC dI (zc_b (zb_in p0 k)) (fun u : Unit => True) (zx_w ad cI cJ lev val pkd cst chs D N F k ++ zo_w ad cJ f) (fun u => (zx_w ad cI cJ lev val pkd cst chs D N F k ++ zo_w ad cJ (vp_updL f 0 ((nI (S p0.toNatClampNeg)).toInt64)))) (zg_A ad 7 sz)) 1 6 0 0 (zg_A ad 7 sz) := by
  refine zt_ofWith (cc := cL_chosen) (maxL := 4) (ret := some .int) (hs := [(0, 9, 12, 13)]) (by decide) rfl ?_
  intro p e s m args below meth c s₁ B hml htab hv
  obtain ⟨rfl, ⟨hsz, hP, hK, hTS⟩, hNc⟩ := hv
  have hx := B.exec
  have hb := B.bytes
  have hr := B.returns
  have hz : ∀ w ∈ zw0, w.before ([.ref (ad 0), .int p0, .ref (ad 6)] : List Value).toArray s = true := fun w h => atoms_spec (ws := wL_chosen) B.pre w (List.mem_cons_of_mem _ h)
  have hown : s.vm.findClass RL = some m.cls := findClass_of_methodNamed B.named
  have hlocks := B.notSynchronized
  subst hsz
  have hPx : va_P (dC, dI) zcl (zx_w ad cI cJ lev val pkd cst chs D N F k) s.heap := hP.sub [0, 1, 2, 3, 4, 5] rfl
  have hP6 : va_P (dC, dI) zcl (zo_w ad cJ f) s.heap := hP.sub [6] rfl
  have hl := lv_entry ([.ref (ad 0), .int p0, .ref (ad 6)]) (n := 4) (Nat.le_of_ble_eq_true rfl)
  rw [lg_entry_eq]
  generalize (lg_sl ([.ref (ad 0), .int p0, .ref (ad 6)]) ++ List.replicate (4 - (lg_sl ([.ref (ad 0), .int p0, .ref (ad 6)])).length) Slot.unset).toArray = ls at hl ⊢
  have hl : lv_has ls 4 [(0, .ref (ad 0)), (1, .int p0), (2, .ref (ad 6))] := hl
  refine lv_aload_n hx hb dL_chosen_0 rfl (lv_at hl 2 rfl) ?_
  refine lv_iconst (v := nI 0) hx hb dL_chosen_1 (by decide) ?_
  refine lv_aload_n hx hb dL_chosen_2 rfl (lv_at hl 0 rfl) ?_
  refine lv_iload_n hx hb dL_chosen_3 rfl (lv_at hl 1 rfl) ?_
  refine zh_call (w0 := zx_w ad cI cJ lev val pkd cst chs D N F k) (f := f) had (zt_Run_mono (zt_Qp_X_at (cd := zc_b (zb_in p0 k)) (fun h => if_pos h) (fun h => if_neg h) hPx) (fun q h => h.elim) (zg_runT (rest := [.int (nI 0), .ref (ad 6)]) hx hb hml hown (tX_chosen l hst h5 hs) (wcL_46 hz (Nat.le_of_ble_eq_true rfl) (Nat.le_of_ble_eq_true rfl)) (hz _ ki_X_chosen) (hz _ ks_X_chosen) (hz _ kC_X_chosen) hPx hK hTS rfl (q0 := 0) rfl rfl hl.1 rfl (Nat.le_of_ble_eq_true rfl) dL_chosen_4 ⟨Nat.le_of_ble_eq_true rfl, Nat.le_of_ble_eq_true rfl⟩)) hP hP6 (fun hcd u H locs hu hP hS => ?_) (fun hcd x H locs hX hP hS => ?_) (fun hcd x H locs hX hP hS => ?_)
  · refine W.eq (g2 := F0 m 7 ls [.int (nI (S p0.toNatClampNeg)), .int (nI 0), .ref (ad 6)]) rfl ?_
    refine lv_i2l (v := (nI (S p0.toNatClampNeg)).toInt64) hx hb dL_chosen_7 (rfl) ?_
    refine zt_last hx hb hK hP (zh_D had) hS 6 1 rfl rfl (i := 0) (by decide) (by decide) dL_chosen_8 (fun H locs hP _ hS => ?_)
    have hP : va_P (dC, dI) zcl (zx_w ad cI cJ lev val pkd cst chs D N F k ++ zo_w ad cJ (vp_updL f 0 ((nI (S p0.toNatClampNeg)).toInt64))) H := hP
    refine lv_goto (tgt := 15) hx hb dL_chosen_9 (by decide) ?_
    refine lv_iconst (v := nI 0) hx hb dL_chosen_15 (by decide) ?_
    refine W.widen (k := 1) (n := 6) (by omega) (by omega) ?_
    exact zt_ri hx hb hr hlocks (fun t ht _ => Or.inl ⟨hcd, u, rfl, hu, by rw [ht]; exact hP, hS.F ht⟩) hS.2.2 dL_chosen_16
  · refine zt_catch1 htab (by decide) (by decide) (by decide) hown (hz _ kc_L_13) (hz _ kt_IllegalArgumentException) (hz _ kcast_IllegalArgumentException_IllegalArgumentException) hX ?_
    refine lv_astore_n (lv' := [(3, .ref x), (0, .ref (ad 0)), (1, .int p0), (2, .ref (ad 6))]) hx hb dL_chosen_12 rfl hl (by decide) rfl (fun ls hl => ?_)
    refine lv_iconst (v := nI 1) hx hb dL_chosen_13 (by decide) ?_
    exact zt_ri hx hb hr hlocks (fun t ht _ => Or.inr ⟨by rw [hcd]; decide, by rw [hcd], by rw [ht]; exact hP, hS.F ht⟩) hS.2.2 dL_chosen_14
  · exact absurd hcd (by unfold zc_b; split <;> decide)
