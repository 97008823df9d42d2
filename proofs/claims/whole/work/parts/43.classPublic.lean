/-! the chooser: its public writers: by program (wip/gen/class_pub.py) -/
set_option maxHeartbeats 4000000 in
set_option maxRecDepth 100000 in
/-- drop -/
theorem tX_drop (l : Launch) {dC : Nat → ClassId} {dI : Nat → Nat → Nat} {cI cJ cB : ClassId} {ad : Nat → Nat} {lev val pkd : Nat → Int32} {cst : Nat → Int64} {chs : Nat → Int32} {D N F k : Nat} {sz : Nat} (had : zg_ap ad 6) (hF : F < 2 ^ 31) : zt_Met l yX_drop wX_drop rX_drop (va_Pc [.ref (ad 0)] (zg_C dC dI cI cJ cB (zx_w ad cI cJ lev val pkd cst chs D N F k) sz)) (zg_Q dC dI (fun _ => some (.int (nI k))) (fun f : Nat → Int64 => ∀ j, j < 512 → f j = lN F) (fun f => zx_w ad cI cJ lev val pkd f chs D N F 0) (zg_A ad 6 sz)) 0 0 0 0 (zg_A ad 6 sz) := by
  refine zt_ofW (cc := cX_drop) (maxL := 2) (ret := (some .int)) (by decide) rfl ?_
  intro p e s m args below meth c s₁ B hml hout hv
  obtain ⟨rfl, hsz, hP, hK⟩ := hv
  have hx := B.exec
  have hb := B.bytes
  have hr := B.returns
  have hz : ∀ w ∈ zw0, w.before ([.ref (ad 0)] : List Value).toArray s = true := fun w h => atoms_spec (ws := wX_drop) B.pre w (List.mem_cons_of_mem _ h)
  have hown : s.vm.findClass RX = some m.cls := findClass_of_methodNamed B.named
  have hlocks := B.notSynchronized
  subst hsz
  have hS : va_S (zg_A ad 6 s.heap.size) s.heap s.heap [] := va_S.rf
  have hl := lv_entry ([.ref (ad 0)]) (n := 2) (Nat.le_of_ble_eq_true rfl)
  rw [lg_entry_eq]
  generalize (lg_sl ([.ref (ad 0)]) ++ List.replicate (2 - (lg_sl ([.ref (ad 0)])).length) Slot.unset).toArray = ls at hl ⊢
  have hl : lv_has ls 2 [(0, .ref (ad 0))] := hl
  refine lv_aload_n hx hb dX_drop_0 rfl (lv_at hl 0 rfl) ?_
  refine va_get (D := (dC, dI)) (ci := 0) (v := .int (nI k)) (C := RX) (T := TX) (N := 9) hx hb hz in_X hown hK hP 0 rfl rfl 8 (by decide) (hz _ kf_X_36) (fun _ h9 => h9) rfl dX_drop_1 ?_
  refine lv_istore_n (lv' := [(1, .int (nI k)), (0, .ref (ad 0))]) hx hb dX_drop_4 rfl hl (by decide) rfl (fun ls hl => ?_)
  refine lv_aload_n hx hb dX_drop_5 rfl (lv_at hl 1 rfl) ?_
  refine zg_callW (zg_runC (rest := []) hx hb hml hown (tX_forgetChosen l had hF) (wcX_57 hz (Nat.le_of_ble_eq_true rfl) (Nat.le_of_ble_eq_true rfl)) (hz _ ki_X_forgetChosen) (hz _ ks_X_forgetChosen) (hz _ kC_X_forgetChosen) hP hK rfl (q0 := 0) rfl rfl hl.1 rfl (Nat.le_of_ble_eq_true rfl) dX_drop_6 ⟨Nat.le_of_ble_eq_true rfl, Nat.le_of_ble_eq_true rfl⟩) hS (fun q h => zg_A_up hS.1 h) (fun q h => zg_A_up hS.1 h) (fun f H locs hf hP hz9 hk9 hS => ?_)
  refine W.eq (g2 := F0 m 9 ls []) rfl ?_
  refine lv_iload_n hx hb dX_drop_9 rfl (lv_at hl 0 rfl) ?_
  exact zt_ri hx hb hr hlocks (fun t ht _ => ⟨f, rfl, hf, by rw [ht]; exact hP, hS.F ht⟩) (hS.2.2) dX_drop_10
set_option maxHeartbeats 4000000 in
set_option maxRecDepth 100000 in
/-- facts -/
theorem tX_facts (l : Launch) {dC : Nat → ClassId} {dI : Nat → Nat → Nat} {cI cJ cB : ClassId} {ad : Nat → Nat} {lev val pkd : Nat → Int32} {cst : Nat → Int64} {chs : Nat → Int32} {D N F k : Nat} {p0 : Int32} {sz : Nat} (had : zg_ap ad 6) (hst : l.stackTraces = false) : zt_Met l yX_facts wX_facts rX_facts (va_Pc [.ref (ad 0), .int p0] (zg_U dC dI cI cJ cB (zx_w ad cI cJ lev val pkd cst chs D N F k) sz)) (zg_X dC dI (zc_fac (zn p0)) (fun _ => some (.int (nI F))) (fun f : Nat → Int64 => ∀ j, j < 512 → f j = lN (zn p0)) (fun f => zx_w ad cI cJ lev val pkd f chs D N (zn p0) 0) (zg_A ad 6 sz)) 0 0 1 6 (zg_A ad 6 sz) := by
  generalize ha : zn p0 = a
  refine zt_ofW (cc := cX_facts) (maxL := 3) (ret := (some .int)) (by decide) rfl ?_
  intro p e s m args below meth c s₁ B hml hout hv
  obtain ⟨rfl, hsz, hP, hK, hTS⟩ := hv
  have hx := B.exec
  have hb := B.bytes
  have hr := B.returns
  have hz : ∀ w ∈ zw0, w.before ([.ref (ad 0), .int p0] : List Value).toArray s = true := fun w h => atoms_spec (ws := wX_facts) B.pre w (List.mem_cons_of_mem _ h)
  have hown : s.vm.findClass RX = some m.cls := findClass_of_methodNamed B.named
  have hlocks := B.notSynchronized
  subst hsz
  have hS : va_S (zg_A ad 6 s.heap.size) s.heap s.heap [] := va_S.rf
  have hl := lv_entry ([.ref (ad 0), .int p0]) (n := 3) (Nat.le_of_ble_eq_true rfl)
  rw [lg_entry_eq]
  generalize (lg_sl ([.ref (ad 0), .int p0]) ++ List.replicate (3 - (lg_sl ([.ref (ad 0), .int p0])).length) Slot.unset).toArray = ls at hl ⊢
  have hl : lv_has ls 3 [(0, .ref (ad 0)), (1, .int p0)] := hl
  have htr : e.platform.stackTraces = false := (show e.platform.stackTraces = l.stackTraces by rw [B.admits.platform]).trans hst
  rcases zn_cases p0 with ⟨h0, e0⟩ | ⟨n, hn, rfl, e0⟩
  · have ea : a = 2 ^ 31 := ha.symm.trans e0
    refine lv_iload_n hx hb dX_facts_0 rfl (lv_at hl 1 rfl) ?_
    refine lv_if_ge (tgt := 14) hx hb dX_facts_1 (by decide) (fun c1 => absurd c1 (fun q => Int32.lt_irrefl (Int32.lt_of_lt_of_le h0 q))) (fun _ => ?_)
    exact zt_throwA (tx := "n is below 0") hx hb htr (hl.1.trans hml.symm) hown hz hTS (by decide +kernel) hout hlocks dX_facts_4 dX_facts_7 dX_facts_8 dX_facts_10 dX_facts_13 (Nat.le_of_ble_eq_true rfl) (Nat.le_of_ble_eq_true rfl) (Nat.le_of_ble_eq_true rfl) (Nat.le_of_ble_eq_true rfl) (Nat.le_of_ble_eq_true rfl) (Nat.le_of_ble_eq_true rfl) (fun t x hTh hW => Or.inr (Or.inl ⟨by unfold zc_fac; rw [if_neg (by omega)], x, rfl, hTh⟩))
  · have ea : a = n := ha.symm.trans e0
    subst ea
    refine lv_iload_n hx hb dX_facts_0 rfl (lv_at hl 1 rfl) ?_
    refine lv_if_ge (tgt := 14) hx hb dX_facts_1 (by decide) (fun _ => ?_) (fun c1 => absurd c1 (not_not_intro (nI_pos' hn)))
    refine lv_aload_n hx hb dX_facts_14 rfl (lv_at hl 0 rfl) ?_
    refine va_get (D := (dC, dI)) (ci := 0) (v := .int (nI F)) (C := RX) (T := TX) (N := 9) hx hb hz in_X hown hK hP 0 rfl rfl 7 (by decide) (hz _ kf_X_33) (fun _ h9 => h9) rfl dX_facts_15 ?_
    refine lv_istore_n (lv' := [(2, .int (nI F)), (0, .ref (ad 0)), (1, .int (nI a))]) hx hb dX_facts_18 rfl hl (by decide) rfl (fun ls hl => ?_)
    refine lv_aload_n hx hb dX_facts_19 rfl (lv_at hl 1 rfl) ?_
    refine lv_iload_n hx hb dX_facts_20 rfl (lv_at hl 2 rfl) ?_
    refine va_put (D := (dC, dI)) (ci := 0) (v := .int (nI a)) (ty := .int) (C := RX) (T := TX) (N := 9) hx hb hz in_X tyX tyX_ok nmX hown hK hP (zx_D had) hS 0 rfl rfl 7 (by decide) (hz _ kf_X_33) (fun _ h9 => h9) rfl (by decide +kernel) rfl rfl (Nat.le_of_ble_eq_true rfl) dX_facts_21 (fun H locs hP _ hS => ?_)
    have hP : va_P (dC, dI) zcl (zx_w ad cI cJ lev val pkd cst chs D N a k) H := hP
    refine lv_aload_n hx hb dX_facts_24 rfl (lv_at hl 1 rfl) ?_
    refine zg_callW (zg_runC (rest := []) hx hb hml hown (tX_forgetChosen l had hn) (wcX_57 hz (Nat.le_of_ble_eq_true rfl) (Nat.le_of_ble_eq_true rfl)) (hz _ ki_X_forgetChosen) (hz _ ks_X_forgetChosen) (hz _ kC_X_forgetChosen) hP hK rfl (q0 := 0) rfl rfl hl.1 rfl (Nat.le_of_ble_eq_true rfl) dX_facts_25 ⟨Nat.le_of_ble_eq_true rfl, Nat.le_of_ble_eq_true rfl⟩) hS (fun q h => zg_A_up hS.1 h) (fun q h => zg_A_up hS.1 h) (fun f H locs hf hP hz9 hk9 hS => ?_)
    refine W.eq (g2 := F0 m 28 ls []) rfl ?_
    refine lv_iload_n hx hb dX_facts_28 rfl (lv_at hl 0 rfl) ?_
    exact zt_ri hx hb hr hlocks (fun t ht _ => Or.inl ⟨by unfold zc_fac; rw [if_pos hn], f, rfl, hf, by rw [ht]; exact hP, hS.F ht⟩) (hS.2.2) dX_facts_29
set_option maxHeartbeats 4000000 in
set_option maxRecDepth 100000 in
/-- values -/
theorem tX_values (l : Launch) {dC : Nat → ClassId} {dI : Nat → Nat → Nat} {cI cJ cB : ClassId} {ad : Nat → Nat} {lev val pkd : Nat → Int32} {cst : Nat → Int64} {chs : Nat → Int32} {D N F k : Nat} {L V : Nat → Nat} {p0 p1 p2 : Int32} {sz : Nat} (had : zg_ap ad 6) (hst : l.stackTraces = false) (hR : zx_R D N F L V lev val pkd) : zt_Met l yX_values wX_values rX_values (va_Pc [.ref (ad 0), .int p0, .int p1, .int p2] (zg_U dC dI cI cJ cB (zx_w ad cI cJ lev val pkd cst chs D N F k) sz)) (zg_X dC dI (zc_val (zn p0) (zn p1) (zn p2) D L) (fun _ => some (.int (nI (V (4 * zn p0 + zn p1))))) (fun f : Nat → Int64 => ∀ j, j < 512 → f j = lN F) (fun f => zx_w ad cI cJ lev (upd val (4 * zn p0 + zn p1) (nI (zn p2))) pkd f chs D N F 0) (zg_A ad 6 sz)) 0 0 1 6 (zg_A ad 6 sz) := by
  generalize ha1 : zn p0 = a1
  generalize ha2 : zn p1 = a2
  generalize ha3 : zn p2 = a3
  refine zt_ofW (cc := cX_values) (maxL := 6) (ret := (some .int)) (by decide) rfl ?_
  intro p e s m args below meth c s₁ B hml hout hv
  obtain ⟨rfl, hsz, hP, hK, hTS⟩ := hv
  have hx := B.exec
  have hb := B.bytes
  have hr := B.returns
  have hz : ∀ w ∈ zw0, w.before ([.ref (ad 0), .int p0, .int p1, .int p2] : List Value).toArray s = true := fun w h => atoms_spec (ws := wX_values) B.pre w (List.mem_cons_of_mem _ h)
  have hown : s.vm.findClass RX = some m.cls := findClass_of_methodNamed B.named
  have hlocks := B.notSynchronized
  subst hsz
  have hS : va_S (zg_A ad 6 s.heap.size) s.heap s.heap [] := va_S.rf
  have hl := lv_entry ([.ref (ad 0), .int p0, .int p1, .int p2]) (n := 6) (Nat.le_of_ble_eq_true rfl)
  rw [lg_entry_eq]
  generalize (lg_sl ([.ref (ad 0), .int p0, .int p1, .int p2]) ++ List.replicate (6 - (lg_sl ([.ref (ad 0), .int p0, .int p1, .int p2])).length) Slot.unset).toArray = ls at hl ⊢
  have hl : lv_has ls 6 [(0, .ref (ad 0)), (1, .int p0), (2, .int p1), (3, .int p2)] := hl
  have htr : e.platform.stackTraces = false := (show e.platform.stackTraces = l.stackTraces by rw [B.admits.platform]).trans hst
  obtain ⟨hD, hL, hN, hN5, hF, hVb, hlev, hval, hpk⟩ := hR
  have hi0 := zn_in p0 (n := D) (by omega)
  rw [ha1] at hi0
  refine lv_aload_n hx hb dX_values_0 rfl (lv_at hl 0 rfl) ?_
  refine lv_iload_n hx hb dX_values_1 rfl (lv_at hl 1 rfl) ?_
  refine zt_callP (zg_runT (rest := []) hx hb hml hown (tX_checkDimension l hst (by omega)) (wcX_60 hz (Nat.le_of_ble_eq_true rfl) (Nat.le_of_ble_eq_true rfl)) (hz _ ki_X_checkDimension) (hz _ ks_X_checkDimension) (hz _ kC_X_checkDimension) hP hK hTS rfl (q0 := 0) rfl rfl hl.1 rfl (Nat.le_of_ble_eq_true rfl) dX_values_2 ⟨Nat.le_of_ble_eq_true rfl, Nat.le_of_ble_eq_true rfl⟩) hout hlocks (Nat.le_of_ble_eq_true rfl) (Nat.le_of_ble_eq_true rfl) (fun hno t x hTh hW => Or.inr (Or.inl ⟨by unfold zc_val; rw [if_neg (fun q => hno (by rw [hi0]; exact decide_eq_true q.1))], x, rfl, hTh⟩)) (fun hok => ?_)
  refine W.eq (g2 := F0 m 5 ls []) rfl ?_
  rw [hi0] at hok
  have hok := of_decide_eq_true hok
  obtain ⟨d, hd, rfl, e0⟩ : ∃ d, d < 2 ^ 31 ∧ p0 = nI d ∧ zn p0 = d := (zn_cases p0).resolve_left (fun q => by have := q.2; omega)
  have ea : a1 = d := ha1.symm.trans e0
  subst ea
  have hLa := hL a1 hok
  rcases zn_cases p1 with ⟨h1, e1⟩ | ⟨b2, hb2, rfl, e1⟩
  · have eb : a2 = 2 ^ 31 := ha2.symm.trans e1
    refine lv_iload_n hx hb dX_values_5 rfl (lv_at hl 2 rfl) ?_
    refine lv_if_lt (tgt := 19) hx hb dX_values_6 (by decide) (fun _ => ?_) (fun c6 => absurd c6 (not_not_intro h1))
    exact zt_throwA (tx := "there is no such level") hx hb htr (hl.1.trans hml.symm) hown hz hTS (by decide +kernel) hout hlocks dX_values_19 dX_values_22 dX_values_23 dX_values_25 dX_values_28 (Nat.le_of_ble_eq_true rfl) (Nat.le_of_ble_eq_true rfl) (Nat.le_of_ble_eq_true rfl) (Nat.le_of_ble_eq_true rfl) (Nat.le_of_ble_eq_true rfl) (Nat.le_of_ble_eq_true rfl) (fun t x hTh hW => Or.inr (Or.inl ⟨by unfold zc_val; rw [if_neg (by omega)], x, rfl, hTh⟩))
  · have eb : a2 = b2 := ha2.symm.trans e1
    subst eb
    refine lv_iload_n hx hb dX_values_5 rfl (lv_at hl 2 rfl) ?_
    refine lv_if_lt (tgt := 19) hx hb dX_values_6 (by decide) (fun c6 => absurd c6 (nI_pos hb2)) (fun _ => ?_)
    refine lv_iload_n hx hb dX_values_9 rfl (lv_at hl 2 rfl) ?_
    refine lv_aload_n hx hb dX_values_10 rfl (lv_at hl 0 rfl) ?_
    refine va_get (D := (dC, dI)) (ci := 0) (v := .ref (ad 1)) (C := RX) (T := TX) (N := 9) hx hb hz in_X hown hK hP 0 rfl rfl 0 (by decide) (hz _ kf_X_9) (fun _ h9 => h9) rfl dX_values_11 ?_
    refine lv_iload_n hx hb dX_values_14 rfl (lv_at hl 1 rfl) ?_
    refine zt_iald hx hb hK hP 1 0 rfl rfl (i := a1) (by omega) (by decide) (v := (nI (L a1))) (hlev a1 hok) dX_values_15 ?_
    refine zj_lt (tgt := 29) hx hb dX_values_16 (by decide) (by omega) (by omega) (fun c16 => ?_) (fun c16 => ?_)
    · rcases zn_cases p2 with ⟨h2, e2⟩ | ⟨n2, hn2, rfl, e2⟩
      · have ec : a3 = 2 ^ 31 := ha3.symm.trans e2
        refine lv_iload_n hx hb dX_values_29 rfl (lv_at hl 3 rfl) ?_
        refine lv_if_lt (tgt := 39) hx hb dX_values_30 (by decide) (fun _ => ?_) (fun c30 => absurd c30 (not_not_intro h2))
        exact zt_throwA (tx := "n is not 0 .. 1000000") hx hb htr (hl.1.trans hml.symm) hown hz hTS (by decide +kernel) hout hlocks dX_values_39 dX_values_42 dX_values_43 dX_values_45 dX_values_48 (Nat.le_of_ble_eq_true rfl) (Nat.le_of_ble_eq_true rfl) (Nat.le_of_ble_eq_true rfl) (Nat.le_of_ble_eq_true rfl) (Nat.le_of_ble_eq_true rfl) (Nat.le_of_ble_eq_true rfl) (fun t x hTh hW => Or.inr (Or.inl ⟨by unfold zc_val; rw [if_neg (by omega)], x, rfl, hTh⟩))
      · have ec : a3 = n2 := ha3.symm.trans e2
        subst ec
        refine lv_iload_n hx hb dX_values_29 rfl (lv_at hl 3 rfl) ?_
        refine lv_if_lt (tgt := 39) hx hb dX_values_30 (by decide) (fun c30 => absurd c30 (nI_pos hn2)) (fun _ => ?_)
        refine lv_iload_n hx hb dX_values_33 rfl (lv_at hl 3 rfl) ?_
        refine lv_ldc hx hb hown (hz _ kn_X_66) dX_values_34 ?_
        refine zt_ti (y := nI 1000000) (by decide) ?_
        refine zj_le (tgt := 49) hx hb dX_values_36 (by decide) (by omega) (by omega) (fun c36 => ?_) (fun c36 => ?_)
        · refine lv_iload_n hx hb dX_values_49 rfl (lv_at hl 1 rfl) ?_
          refine lv_iconst (v := nI 4) hx hb dX_values_50 (by decide) ?_
          refine lv_imul hx hb dX_values_51 ?_
          refine zt_ti (pk_mul _ _) ?_
          refine lv_iload_n hx hb dX_values_52 rfl (lv_at hl 2 rfl) ?_
          refine lv_iadd hx hb dX_values_53 ?_
          refine zt_ti (nI_add _ _) ?_
          refine zt_ti (y := nI (4 * a1 + a2)) (by rw [Nat.mul_comm a1 4]) ?_
          refine lv_istore (lv' := [(4, .int (nI (4 * a1 + a2))), (0, .ref (ad 0)), (1, .int (nI a1)), (2, .int (nI a2)), (3, .int (nI a3))]) hx hb dX_values_54 hl (by decide) rfl (fun ls hl => ?_)
          refine lv_aload_n hx hb dX_values_56 rfl (lv_at hl 1 rfl) ?_
          refine va_get (D := (dC, dI)) (ci := 0) (v := .ref (ad 2)) (C := RX) (T := TX) (N := 9) hx hb hz in_X hown hK hP 0 rfl rfl 1 (by decide) (hz _ kf_X_13) (fun _ h9 => h9) rfl dX_values_57 ?_
          refine lv_iload hx hb dX_values_60 (lv_at hl 0 rfl) ?_
          refine zt_iald hx hb hK hP 2 0 rfl rfl (i := (4 * a1 + a2)) (by omega) (by decide) (v := (nI (V (4 * a1 + a2)))) (hval _ (by omega)) dX_values_62 ?_
          refine lv_istore (lv' := [(5, .int (nI (V (4 * a1 + a2)))), (4, .int (nI (4 * a1 + a2))), (0, .ref (ad 0)), (1, .int (nI a1)), (2, .int (nI a2)), (3, .int (nI a3))]) hx hb dX_values_63 hl (by decide) rfl (fun ls hl => ?_)
          refine lv_aload_n hx hb dX_values_65 rfl (lv_at hl 2 rfl) ?_
          refine va_get (D := (dC, dI)) (ci := 0) (v := .ref (ad 2)) (C := RX) (T := TX) (N := 9) hx hb hz in_X hown hK hP 0 rfl rfl 1 (by decide) (hz _ kf_X_13) (fun _ h9 => h9) rfl dX_values_66 ?_
          refine lv_iload hx hb dX_values_69 (lv_at hl 1 rfl) ?_
          refine lv_iload_n hx hb dX_values_71 rfl (lv_at hl 5 rfl) ?_
          refine zt_iast hx hb hK hP (zx_D had) hS 2 0 rfl rfl (i := (4 * a1 + a2)) (by omega) (by decide) dX_values_72 (fun H locs hP _ hS => ?_)
          have hP : va_P (dC, dI) zcl (zx_w ad cI cJ lev (upd val (4 * a1 + a2) (nI a3)) pkd cst chs D N F k) H := hP
          refine lv_aload_n hx hb dX_values_73 rfl (lv_at hl 2 rfl) ?_
          refine zg_callW (zg_runC (rest := []) hx hb hml hown (tX_forgetChosen l had hF) (wcX_57 hz (Nat.le_of_ble_eq_true rfl) (Nat.le_of_ble_eq_true rfl)) (hz _ ki_X_forgetChosen) (hz _ ks_X_forgetChosen) (hz _ kC_X_forgetChosen) hP hK rfl (q0 := 0) rfl rfl hl.1 rfl (Nat.le_of_ble_eq_true rfl) dX_values_74 ⟨Nat.le_of_ble_eq_true rfl, Nat.le_of_ble_eq_true rfl⟩) hS (fun q h => zg_A_up hS.1 h) (fun q h => zg_A_up hS.1 h) (fun f H locs hf hP hz9 hk9 hS => ?_)
          refine W.eq (g2 := F0 m 77 ls []) rfl ?_
          refine lv_iload hx hb dX_values_77 (lv_at hl 0 rfl) ?_
          exact zt_ri hx hb hr hlocks (fun t ht _ => Or.inl ⟨by unfold zc_val; rw [if_pos ⟨by omega, by omega, by omega⟩], f, rfl, hf, by rw [ht]; exact hP, hS.F ht⟩) (hS.2.2) dX_values_79
        · exact zt_throwA (tx := "n is not 0 .. 1000000") hx hb htr (hl.1.trans hml.symm) hown hz hTS (by decide +kernel) hout hlocks dX_values_39 dX_values_42 dX_values_43 dX_values_45 dX_values_48 (Nat.le_of_ble_eq_true rfl) (Nat.le_of_ble_eq_true rfl) (Nat.le_of_ble_eq_true rfl) (Nat.le_of_ble_eq_true rfl) (Nat.le_of_ble_eq_true rfl) (Nat.le_of_ble_eq_true rfl) (fun t x hTh hW => Or.inr (Or.inl ⟨by unfold zc_val; rw [if_neg (by omega)], x, rfl, hTh⟩))
    · exact zt_throwA (tx := "there is no such level") hx hb htr (hl.1.trans hml.symm) hown hz hTS (by decide +kernel) hout hlocks dX_values_19 dX_values_22 dX_values_23 dX_values_25 dX_values_28 (Nat.le_of_ble_eq_true rfl) (Nat.le_of_ble_eq_true rfl) (Nat.le_of_ble_eq_true rfl) (Nat.le_of_ble_eq_true rfl) (Nat.le_of_ble_eq_true rfl) (Nat.le_of_ble_eq_true rfl) (fun t x hTh hW => Or.inr (Or.inl ⟨by unfold zc_val; rw [if_neg (by omega)], x, rfl, hTh⟩))
set_option maxHeartbeats 4000000 in
set_option maxRecDepth 100000 in
/-- dimension -/
theorem tX_dimension (l : Launch) {dC : Nat → ClassId} {dI : Nat → Nat → Nat} {cI cJ cB : ClassId} {ad : Nat → Nat} {lev val pkd : Nat → Int32} {cst : Nat → Int64} {chs : Nat → Int32} {D N F k : Nat} {L V : Nat → Nat} {p0 : Int32} {sz : Nat} (had : zg_ap ad 6) (hst : l.stackTraces = false) (hR : zx_R D N F L V lev val pkd) : zt_Met l yX_dimension wX_dimension rX_dimension (va_Pc [.ref (ad 0), .int p0] (zg_U dC dI cI cJ cB (zx_w ad cI cJ lev val pkd cst chs D N F k) sz)) (zg_X dC dI (zc_dim (zn p0) D N) (fun _ => some (.int (nI D))) (fun u : (Nat → Int32) × (Nat → Int64) => (∀ w, w < N * (zn p0 + 1) → u.1 w = nI (zq_pk (zq_up L D (zn p0)) (D + 1) w)) ∧ ∀ j, j < 512 → u.2 j = lN F) (fun u => zx_w ad cI cJ (upd lev D (nI (zn p0))) val u.1 u.2 chs (D + 1) (N * (zn p0 + 1)) F 0) (zg_A ad 6 sz)) 0 0 1 6 (zg_A ad 6 sz) := by
  generalize ha1 : zn p0 = a1
  refine zt_ofW (cc := cX_dimension) (maxL := 3) (ret := (some .int)) (by decide) rfl ?_
  intro p e s m args below meth c s₁ B hml hout hv
  obtain ⟨rfl, hsz, hP, hK, hTS⟩ := hv
  have hx := B.exec
  have hb := B.bytes
  have hr := B.returns
  have hz : ∀ w ∈ zw0, w.before ([.ref (ad 0), .int p0] : List Value).toArray s = true := fun w h => atoms_spec (ws := wX_dimension) B.pre w (List.mem_cons_of_mem _ h)
  have hown : s.vm.findClass RX = some m.cls := findClass_of_methodNamed B.named
  have hlocks := B.notSynchronized
  subst hsz
  have hS : va_S (zg_A ad 6 s.heap.size) s.heap s.heap [] := va_S.rf
  have hl := lv_entry ([.ref (ad 0), .int p0]) (n := 3) (Nat.le_of_ble_eq_true rfl)
  rw [lg_entry_eq]
  generalize (lg_sl ([.ref (ad 0), .int p0]) ++ List.replicate (3 - (lg_sl ([.ref (ad 0), .int p0])).length) Slot.unset).toArray = ls at hl ⊢
  have hl : lv_has ls 3 [(0, .ref (ad 0)), (1, .int p0)] := hl
  have htr : e.platform.stackTraces = false := (show e.platform.stackTraces = l.stackTraces by rw [B.admits.platform]).trans hst
  obtain ⟨hD, hL, hN, hN5, hF, hVb, hlev, hval, hpk⟩ := hR
  have hL4 : ∀ j, j < D → L j ≤ 4 := fun j hj => (hL j hj).2
  have hN0 : 0 < N := by rw [hN]; exact zq_nv_pos L D
  rcases zn_cases p0 with ⟨h0, e0⟩ | ⟨n, hn, rfl, e0⟩
  · have ea : a1 = 2 ^ 31 := ha1.symm.trans e0
    refine lv_iload_n hx hb dX_dimension_0 rfl (lv_at hl 1 rfl) ?_
    refine lv_iconst (v := nI 1) hx hb dX_dimension_1 (by decide) ?_
    refine lv_icmp_lt (tgt := 10) hx hb dX_dimension_2 (by decide) (fun _ => ?_) (fun c2 => absurd c2 (not_not_intro (Int32.lt_trans h0 (show (0 : Int32) < nI 1 by decide))))
    exact zt_throwA (tx := "levels are not 1 .. 4") hx hb htr (hl.1.trans hml.symm) hown hz hTS (by decide +kernel) hout hlocks dX_dimension_10 dX_dimension_13 dX_dimension_14 dX_dimension_16 dX_dimension_19 (Nat.le_of_ble_eq_true rfl) (Nat.le_of_ble_eq_true rfl) (Nat.le_of_ble_eq_true rfl) (Nat.le_of_ble_eq_true rfl) (Nat.le_of_ble_eq_true rfl) (Nat.le_of_ble_eq_true rfl) (fun t x hTh hW => Or.inr (Or.inl ⟨by unfold zc_dim; rw [if_neg (by omega)], x, rfl, hTh⟩))
  · have ea : a1 = n := ha1.symm.trans e0
    subst ea
    refine lv_iload_n hx hb dX_dimension_0 rfl (lv_at hl 1 rfl) ?_
    refine lv_iconst (v := nI 1) hx hb dX_dimension_1 (by decide) ?_
    refine zj_lt (tgt := 10) hx hb dX_dimension_2 (by decide) (by omega) (by omega) (fun c2 => ?_) (fun c2 => ?_)
    · exact zt_throwA (tx := "levels are not 1 .. 4") hx hb htr (hl.1.trans hml.symm) hown hz hTS (by decide +kernel) hout hlocks dX_dimension_10 dX_dimension_13 dX_dimension_14 dX_dimension_16 dX_dimension_19 (Nat.le_of_ble_eq_true rfl) (Nat.le_of_ble_eq_true rfl) (Nat.le_of_ble_eq_true rfl) (Nat.le_of_ble_eq_true rfl) (Nat.le_of_ble_eq_true rfl) (Nat.le_of_ble_eq_true rfl) (fun t x hTh hW => Or.inr (Or.inl ⟨by unfold zc_dim; rw [if_neg (by omega)], x, rfl, hTh⟩))
    · refine lv_iload_n hx hb dX_dimension_5 rfl (lv_at hl 1 rfl) ?_
      refine lv_iconst (v := nI 4) hx hb dX_dimension_6 (by decide) ?_
      refine zj_le (tgt := 20) hx hb dX_dimension_7 (by decide) (by omega) (by omega) (fun c7 => ?_) (fun c7 => ?_)
      · have hmul : N * (a1 + 1) ≤ 512 * 5 := Nat.mul_le_mul hN5 (by omega)
        refine lv_aload_n hx hb dX_dimension_20 rfl (lv_at hl 0 rfl) ?_
        refine va_get (D := (dC, dI)) (ci := 0) (v := .int (nI D)) (C := RX) (T := TX) (N := 9) hx hb hz in_X hown hK hP 0 rfl rfl 5 (by decide) (hz _ kf_X_26) (fun _ h9 => h9) rfl dX_dimension_21 ?_
        refine lv_bipush (v := nI 8) hx hb dX_dimension_24 (by decide) ?_
        refine zj_lt (tgt := 39) hx hb dX_dimension_26 (by decide) (by omega) (by omega) (fun c26 => ?_) (fun c26 => ?_)
        · refine lv_aload_n hx hb dX_dimension_39 rfl (lv_at hl 0 rfl) ?_
          refine va_get (D := (dC, dI)) (ci := 0) (v := .int (nI N)) (C := RX) (T := TX) (N := 9) hx hb hz in_X hown hK hP 0 rfl rfl 6 (by decide) (hz _ kf_X_30) (fun _ h9 => h9) rfl dX_dimension_40 ?_
          refine lv_iload_n hx hb dX_dimension_43 rfl (lv_at hl 1 rfl) ?_
          refine lv_iconst (v := nI 1) hx hb dX_dimension_44 (by decide) ?_
          refine lv_iadd hx hb dX_dimension_45 ?_
          refine zt_ti (nI_add _ _) ?_
          refine lv_imul hx hb dX_dimension_46 ?_
          refine zt_ti (pk_mul _ _) ?_
          refine lv_sipush (v := nI 512) hx hb dX_dimension_47 (by decide) ?_
          refine zj_le (tgt := 63) hx hb dX_dimension_50 (by decide) (by omega) (by omega) (fun c50 => ?_) (fun c50 => ?_)
          · refine lv_aload_n hx hb dX_dimension_63 rfl (lv_at hl 0 rfl) ?_
            refine va_get (D := (dC, dI)) (ci := 0) (v := .int (nI D)) (C := RX) (T := TX) (N := 9) hx hb hz in_X hown hK hP 0 rfl rfl 5 (by decide) (hz _ kf_X_26) (fun _ h9 => h9) rfl dX_dimension_64 ?_
            refine lv_istore_n (lv' := [(2, .int (nI D)), (0, .ref (ad 0)), (1, .int (nI a1))]) hx hb dX_dimension_67 rfl hl (by decide) rfl (fun ls hl => ?_)
            refine lv_aload_n hx hb dX_dimension_68 rfl (lv_at hl 1 rfl) ?_
            refine lv_iload_n hx hb dX_dimension_69 rfl (lv_at hl 0 rfl) ?_
            refine lv_iload_n hx hb dX_dimension_70 rfl (lv_at hl 2 rfl) ?_
            refine lv_iconst (v := nI 1) hx hb dX_dimension_71 (by decide) ?_
            refine lv_iadd hx hb dX_dimension_72 ?_
            refine zt_ti (nI_add _ _) ?_
            refine zg_callW (zg_runC (rest := []) hx hb hml hown (tX_splitViews l (L := L) (n := a1) had (by omega) hL4 (by omega) hN0 (by omega) hpk) (wcX_53 hz (Nat.le_of_ble_eq_true rfl) (Nat.le_of_ble_eq_true rfl)) (hz _ ki_X_splitViews) (hz _ ks_X_splitViews) (hz _ kC_X_splitViews) hP hK rfl (q0 := 0) rfl rfl hl.1 rfl (Nat.le_of_ble_eq_true rfl) dX_dimension_73 ⟨Nat.le_of_ble_eq_true rfl, Nat.le_of_ble_eq_true rfl⟩) hS (fun q h => zg_A_up hS.1 h) (fun q h => zg_A_up hS.1 h) (fun g9 H locs hg9 hP hz9 hk9 hS => ?_)
            refine W.eq (g2 := F0 m 76 ls []) rfl ?_
            refine lv_aload_n hx hb dX_dimension_76 rfl (lv_at hl 1 rfl) ?_
            refine va_get (D := (dC, dI)) (ci := 0) (v := .ref (ad 1)) (C := RX) (T := TX) (N := 9) hx hb hz in_X hown hK hP 0 rfl rfl 0 (by decide) (hz _ kf_X_9) (fun _ h9 => h9) rfl dX_dimension_77 ?_
            refine lv_iload_n hx hb dX_dimension_80 rfl (lv_at hl 0 rfl) ?_
            refine lv_iload_n hx hb dX_dimension_81 rfl (lv_at hl 2 rfl) ?_
            refine zt_iast hx hb hK hP (zx_D had) hS 1 0 rfl rfl (i := D) (by omega) (by decide) dX_dimension_82 (fun H locs hP _ hS => ?_)
            have hP : va_P (dC, dI) zcl (zx_w ad cI cJ (upd lev D (nI a1)) val g9 cst chs D (N * (a1 + 1)) F k) H := hP
            refine lv_aload_n hx hb dX_dimension_83 rfl (lv_at hl 1 rfl) ?_
            refine lv_iload_n hx hb dX_dimension_84 rfl (lv_at hl 0 rfl) ?_
            refine lv_iconst (v := nI 1) hx hb dX_dimension_85 (by decide) ?_
            refine lv_iadd hx hb dX_dimension_86 ?_
            refine zt_ti (nI_add _ _) ?_
            refine va_put (D := (dC, dI)) (ci := 0) (v := .int (nI (D + 1))) (ty := .int) (C := RX) (T := TX) (N := 9) hx hb hz in_X tyX tyX_ok nmX hown hK hP (zx_D had) hS 0 rfl rfl 5 (by decide) (hz _ kf_X_26) (fun _ h9 => h9) rfl (by decide +kernel) rfl rfl (Nat.le_of_ble_eq_true rfl) dX_dimension_87 (fun H locs hP _ hS => ?_)
            have hP : va_P (dC, dI) zcl (zx_w ad cI cJ (upd lev D (nI a1)) val g9 cst chs (D + 1) (N * (a1 + 1)) F k) H := hP
            refine lv_aload_n hx hb dX_dimension_90 rfl (lv_at hl 1 rfl) ?_
            refine zg_callW (zg_runC (rest := []) hx hb hml hown (tX_forgetChosen l had hF) (wcX_57 hz (Nat.le_of_ble_eq_true rfl) (Nat.le_of_ble_eq_true rfl)) (hz _ ki_X_forgetChosen) (hz _ ks_X_forgetChosen) (hz _ kC_X_forgetChosen) hP hK rfl (q0 := 0) rfl rfl hl.1 rfl (Nat.le_of_ble_eq_true rfl) dX_dimension_91 ⟨Nat.le_of_ble_eq_true rfl, Nat.le_of_ble_eq_true rfl⟩) hS (fun q h => zg_A_up hS.1 h) (fun q h => zg_A_up hS.1 h) (fun f H locs hf hP hz9 hk9 hS => ?_)
            refine W.eq (g2 := F0 m 94 ls []) rfl ?_
            refine lv_iload_n hx hb dX_dimension_94 rfl (lv_at hl 0 rfl) ?_
            exact zt_ri hx hb hr hlocks (fun t ht _ => Or.inl ⟨by unfold zc_dim; rw [if_pos ⟨by omega, by omega⟩, if_pos ⟨by omega, by omega⟩], (g9, f), rfl, ⟨hg9, hf⟩, by rw [ht]; exact hP, hS.F ht⟩) (hS.2.2) dX_dimension_95
          · exact zt_throwI (tx := "there would be more than 512 views") hx hb htr (hl.1.trans hml.symm) hown hz hTS (by decide +kernel) hout hlocks dX_dimension_53 dX_dimension_56 dX_dimension_57 dX_dimension_59 dX_dimension_62 (Nat.le_of_ble_eq_true rfl) (Nat.le_of_ble_eq_true rfl) (Nat.le_of_ble_eq_true rfl) (Nat.le_of_ble_eq_true rfl) (Nat.le_of_ble_eq_true rfl) (Nat.le_of_ble_eq_true rfl) (fun t x hTh hW => Or.inr (Or.inr ⟨by unfold zc_dim; rw [if_pos ⟨by omega, by omega⟩, if_neg (by omega)], x, rfl, hTh⟩))
        · exact zt_throwI (tx := "there are 8 dimensions") hx hb htr (hl.1.trans hml.symm) hown hz hTS (by decide +kernel) hout hlocks dX_dimension_29 dX_dimension_32 dX_dimension_33 dX_dimension_35 dX_dimension_38 (Nat.le_of_ble_eq_true rfl) (Nat.le_of_ble_eq_true rfl) (Nat.le_of_ble_eq_true rfl) (Nat.le_of_ble_eq_true rfl) (Nat.le_of_ble_eq_true rfl) (Nat.le_of_ble_eq_true rfl) (fun t x hTh hW => Or.inr (Or.inr ⟨by unfold zc_dim; rw [if_pos ⟨by omega, by omega⟩, if_neg (by omega)], x, rfl, hTh⟩))
      · exact zt_throwA (tx := "levels are not 1 .. 4") hx hb htr (hl.1.trans hml.symm) hown hz hTS (by decide +kernel) hout hlocks dX_dimension_10 dX_dimension_13 dX_dimension_14 dX_dimension_16 dX_dimension_19 (Nat.le_of_ble_eq_true rfl) (Nat.le_of_ble_eq_true rfl) (Nat.le_of_ble_eq_true rfl) (Nat.le_of_ble_eq_true rfl) (Nat.le_of_ble_eq_true rfl) (Nat.le_of_ble_eq_true rfl) (fun t x hTh hW => Or.inr (Or.inl ⟨by unfold zc_dim; rw [if_neg (by omega)], x, rfl, hTh⟩))
set_option maxHeartbeats 4000000 in
set_option maxRecDepth 100000 in
/-- take -/
theorem tX_take (l : Launch) {dC : Nat → ClassId} {dI : Nat → Nat → Nat} {cI cJ cB : ClassId} {ad : Nat → Nat} {lev val pkd : Nat → Int32} {cst : Nat → Int64} {chs : Nat → Int32} {D N F k : Nat} {L V S : Nat → Nat} {p0 : Int32} {sz : Nat} (had : zg_ap ad 6) (hst : l.stackTraces = false) (hR : zx_R D N F L V lev val pkd) (hJ : zx_J D N F k L V S cst chs) (hk : k ≤ 16) : zt_Met l yX_take wX_take rX_take (va_Pc [.ref (ad 0), .int p0] (zg_U dC dI cI cJ cB (zx_w ad cI cJ lev val pkd cst chs D N F k) sz)) (zg_X dC dI (zc_take (zn p0) N k) (fun _ => some (.int (nI (k + 1)))) (fun u : (Nat → Int64) × (Nat → Int32) => zx_J D N F (k + 1) L V (zq_up S k (zn p0)) u.1 u.2) (fun u => zx_w ad cI cJ lev val pkd u.1 u.2 D N F (k + 1)) (zg_A ad 6 sz)) 0 0 1 6 (zg_A ad 6 sz) := by
  generalize ha1 : zn p0 = a1
  refine zt_ofW (cc := cX_take) (maxL := 2) (ret := (some .int)) (by decide) rfl ?_
  intro p e s m args below meth c s₁ B hml hout hv
  obtain ⟨rfl, hsz, hP, hK, hTS⟩ := hv
  have hx := B.exec
  have hb := B.bytes
  have hr := B.returns
  have hz : ∀ w ∈ zw0, w.before ([.ref (ad 0), .int p0] : List Value).toArray s = true := fun w h => atoms_spec (ws := wX_take) B.pre w (List.mem_cons_of_mem _ h)
  have hown : s.vm.findClass RX = some m.cls := findClass_of_methodNamed B.named
  have hlocks := B.notSynchronized
  subst hsz
  have hS : va_S (zg_A ad 6 s.heap.size) s.heap s.heap [] := va_S.rf
  have hl := lv_entry ([.ref (ad 0), .int p0]) (n := 2) (Nat.le_of_ble_eq_true rfl)
  rw [lg_entry_eq]
  generalize (lg_sl ([.ref (ad 0), .int p0]) ++ List.replicate (2 - (lg_sl ([.ref (ad 0), .int p0])).length) Slot.unset).toArray = ls at hl ⊢
  have hl : lv_has ls 2 [(0, .ref (ad 0)), (1, .int p0)] := hl
  have htr : e.platform.stackTraces = false := (show e.platform.stackTraces = l.stackTraces by rw [B.admits.platform]).trans hst
  have hR9 := hR
  obtain ⟨hD, hL, hN, hN5, hF, hVb, hlev, hval, hpk⟩ := hR
  have hi0 := zn_in p0 (n := N) (by omega)
  rw [ha1] at hi0
  refine lv_aload_n hx hb dX_take_0 rfl (lv_at hl 0 rfl) ?_
  refine lv_iload_n hx hb dX_take_1 rfl (lv_at hl 1 rfl) ?_
  refine zt_callP (zg_runT (rest := []) hx hb hml hown (tX_checkView l hst hN5) (wcX_71 hz (Nat.le_of_ble_eq_true rfl) (Nat.le_of_ble_eq_true rfl)) (hz _ ki_X_checkView) (hz _ ks_X_checkView) (hz _ kC_X_checkView) hP hK hTS rfl (q0 := 0) rfl rfl hl.1 rfl (Nat.le_of_ble_eq_true rfl) dX_take_2 ⟨Nat.le_of_ble_eq_true rfl, Nat.le_of_ble_eq_true rfl⟩) hout hlocks (Nat.le_of_ble_eq_true rfl) (Nat.le_of_ble_eq_true rfl) (fun hno t x hTh hW => Or.inr (Or.inl ⟨by unfold zc_take; rw [if_neg (fun q => hno (by rw [hi0]; exact decide_eq_true q))], x, rfl, hTh⟩)) (fun hok => ?_)
  refine W.eq (g2 := F0 m 5 ls []) rfl ?_
  rw [hi0] at hok
  have hok := of_decide_eq_true hok
  refine lv_aload_n hx hb dX_take_5 rfl (lv_at hl 0 rfl) ?_
  refine zt_callP (zg_runT (rest := []) hx hb hml hown (tX_checkRoomForChosen l hst hk) (wcX_91 hz (Nat.le_of_ble_eq_true rfl) (Nat.le_of_ble_eq_true rfl)) (hz _ ki_X_checkRoomForChosen) (hz _ ks_X_checkRoomForChosen) (hz _ kC_X_checkRoomForChosen) hP hK hTS rfl (q0 := 0) rfl rfl hl.1 rfl (Nat.le_of_ble_eq_true rfl) dX_take_6 ⟨Nat.le_of_ble_eq_true rfl, Nat.le_of_ble_eq_true rfl⟩) hout hlocks (Nat.le_of_ble_eq_true rfl) (Nat.le_of_ble_eq_true rfl) (fun hno t x hTh hW => Or.inr (Or.inr ⟨by unfold zc_take; rw [if_pos hok, if_neg hno], x, rfl, hTh⟩)) (fun hk2 => ?_)
  refine W.eq (g2 := F0 m 9 ls []) rfl ?_
  obtain ⟨d, hd, rfl, e0⟩ : ∃ d, d < 2 ^ 31 ∧ p0 = nI d ∧ zn p0 = d := (zn_cases p0).resolve_left (fun q => by have := q.2; omega)
  have ea : a1 = d := ha1.symm.trans e0
  subst ea
  refine lv_aload_n hx hb dX_take_9 rfl (lv_at hl 0 rfl) ?_
  refine lv_iload_n hx hb dX_take_10 rfl (lv_at hl 1 rfl) ?_
  refine zg_callW (zg_runC (rest := []) hx hb hml hown (tX_addChosen l (zx_J_c hJ) had hR9 hok hk2) (wcX_94 hz (Nat.le_of_ble_eq_true rfl) (Nat.le_of_ble_eq_true rfl)) (hz _ ki_X_addChosen) (hz _ ks_X_addChosen) (hz _ kC_X_addChosen) hP hK rfl (q0 := 0) rfl rfl hl.1 rfl (Nat.le_of_ble_eq_true rfl) dX_take_11 ⟨Nat.le_of_ble_eq_true rfl, Nat.le_of_ble_eq_true rfl⟩) hS (fun q h => zg_A_up hS.1 h) (fun q h => zg_A_up hS.1 h) (fun f H locs hf hP hz9 hk9 hS => ?_)
  refine W.eq (g2 := F0 m 14 ls []) rfl ?_
  refine lv_aload_n hx hb dX_take_14 rfl (lv_at hl 0 rfl) ?_
  refine va_get (D := (dC, dI)) (ci := 0) (v := .int (nI (k + 1))) (C := RX) (T := TX) (N := 9) hx hb hz in_X hown hK hP 0 rfl rfl 8 (by decide) (hz _ kf_X_36) (fun _ h9 => h9) rfl dX_take_15 ?_
  exact zt_ri hx hb hr hlocks (fun t ht _ => Or.inl ⟨by unfold zc_take; rw [if_pos hok, if_pos hk2], (f, upd chs k (nI a1)), rfl, zx_J_up hJ hf, by rw [ht]; exact hP, hS.F ht⟩) (hS.2.2) dX_take_18
set_option maxHeartbeats 4000000 in
set_option maxRecDepth 100000 in
/-- step -/
theorem tX_step (l : Launch) {dC : Nat → ClassId} {dI : Nat → Nat → Nat} {cI cJ cB : ClassId} {ad : Nat → Nat} {lev val pkd : Nat → Int32} {cst : Nat → Int64} {chs : Nat → Int32} {D N F k : Nat} {L V S : Nat → Nat} {sz : Nat} (had : zg_ap ad 6) (hst : l.stackTraces = false) (hR : zx_R D N F L V lev val pkd) (hJ : zx_J D N F k L V S cst chs) (hk : k ≤ 16) : zt_Met l yX_step wX_step rX_step (va_Pc [.ref (ad 0)] (zg_U dC dI cI cJ cB (zx_w ad cI cJ lev val pkd cst chs D N F k) sz)) (zg_X dC dI (zc_step k) (fun _ => some (.int (nI (zq_pick D N F L V k S) - 1))) (fun u : (Nat → Int64) × (Nat → Int32) => zx_J D N F (zq_go (zq_pick D N F L V) 1 k S).1 L V (zq_go (zq_pick D N F L V) 1 k S).2 u.1 u.2) (fun u => zx_w ad cI cJ lev val pkd u.1 u.2 D N F ((zq_go (zq_pick D N F L V) 1 k S).1)) (zg_A ad 6 sz)) 0 0 1 6 (zg_A ad 6 sz) := by
  refine zt_ofW (cc := cX_step) (maxL := 2) (ret := (some .int)) (by decide) rfl ?_
  intro p e s m args below meth c s₁ B hml hout hv
  obtain ⟨rfl, hsz, hP, hK, hTS⟩ := hv
  have hx := B.exec
  have hb := B.bytes
  have hr := B.returns
  have hz : ∀ w ∈ zw0, w.before ([.ref (ad 0)] : List Value).toArray s = true := fun w h => atoms_spec (ws := wX_step) B.pre w (List.mem_cons_of_mem _ h)
  have hown : s.vm.findClass RX = some m.cls := findClass_of_methodNamed B.named
  have hlocks := B.notSynchronized
  subst hsz
  have hS : va_S (zg_A ad 6 s.heap.size) s.heap s.heap [] := va_S.rf
  have hl := lv_entry ([.ref (ad 0)]) (n := 2) (Nat.le_of_ble_eq_true rfl)
  rw [lg_entry_eq]
  generalize (lg_sl ([.ref (ad 0)]) ++ List.replicate (2 - (lg_sl ([.ref (ad 0)])).length) Slot.unset).toArray = ls at hl ⊢
  have hl : lv_has ls 2 [(0, .ref (ad 0))] := hl
  have htr : e.platform.stackTraces = false := (show e.platform.stackTraces = l.stackTraces by rw [B.admits.platform]).trans hst
  have hR9 := hR
  obtain ⟨hD, hL, hN, hN5, hF, hVb, hlev, hval, hpk⟩ := hR
  refine lv_aload_n hx hb dX_step_0 rfl (lv_at hl 0 rfl) ?_
  refine zt_callP (zg_runT (rest := []) hx hb hml hown (tX_checkRoomForChosen l hst hk) (wcX_91 hz (Nat.le_of_ble_eq_true rfl) (Nat.le_of_ble_eq_true rfl)) (hz _ ki_X_checkRoomForChosen) (hz _ ks_X_checkRoomForChosen) (hz _ kC_X_checkRoomForChosen) hP hK hTS rfl (q0 := 0) rfl rfl hl.1 rfl (Nat.le_of_ble_eq_true rfl) dX_step_1 ⟨Nat.le_of_ble_eq_true rfl, Nat.le_of_ble_eq_true rfl⟩) hout hlocks (Nat.le_of_ble_eq_true rfl) (Nat.le_of_ble_eq_true rfl) (fun hno t x hTh hW => Or.inr (Or.inr ⟨by unfold zc_step; rw [if_neg hno], x, rfl, hTh⟩)) (fun hk2 => ?_)
  refine W.eq (g2 := F0 m 4 ls []) rfl ?_
  refine lv_aload_n hx hb dX_step_4 rfl (lv_at hl 0 rfl) ?_
  refine zt_callRi (zg_run (rest := []) hx hb hml hown (tX_mostBeneficial l (zx_J_c hJ) hR9) (wcX_97 hz (Nat.le_of_ble_eq_true rfl) (Nat.le_of_ble_eq_true rfl)) (hz _ ki_X_mostBeneficial) (hz _ ks_X_mostBeneficial) (hz _ kC_X_mostBeneficial) hP hK rfl (q0 := 0) rfl rfl hl.1 rfl (Nat.le_of_ble_eq_true rfl) dX_step_5 ⟨Nat.le_of_ble_eq_true rfl, Nat.le_of_ble_eq_true rfl⟩) ?_
  refine lv_istore_n (lv' := [(1, .int (nI (zq_pick D N F L V k S) - 1)), (0, .ref (ad 0))]) hx hb dX_step_8 rfl hl (by decide) rfl (fun ls hl => ?_)
  refine lv_iload_n hx hb dX_step_9 rfl (lv_at hl 0 rfl) ?_
  refine lv_iconst (v := -1) hx hb dX_step_10 (by decide) ?_
  have hpl := zq_pick_le D N F L V k S
  have hgo : zq_go (zq_pick D N F L V) 1 k S = if zq_pick D N F L V k S = 0 then (k, S) else (k + 1, zq_up S k (zq_pick D N F L V k S - 1)) := rfl
  rw [hgo]
  generalize hpk9 : zq_pick D N F L V k S = b at hpl hl ⊢
  rcases b with _ | b
  · rw [if_pos rfl]
    refine lv_icmp_eq (tgt := 19) hx hb dX_step_11 (by decide) (fun _ => ?_) (fun c11 => absurd c11 (by decide))
    refine lv_iload_n hx hb dX_step_19 rfl (lv_at hl 0 rfl) ?_
    exact zt_ri hx hb hr hlocks (fun t ht _ => Or.inl ⟨by unfold zc_step; rw [if_pos hk2], (cst, chs), rfl, hJ, by rw [ht]; exact hP, hS.F ht⟩) (hS.2.2) dX_step_20
  · rw [if_neg (Nat.succ_ne_zero b), Nat.add_sub_cancel]
    rw [nI_pred] at hl ⊢
    refine lv_icmp_eq (tgt := 19) hx hb dX_step_11 (by decide) (fun c11 => absurd c11 (fun q => absurd (show nI b < 0 by rw [q]; decide) (nI_pos (by omega)))) (fun _ => ?_)
    refine lv_aload_n hx hb dX_step_14 rfl (lv_at hl 1 rfl) ?_
    refine lv_iload_n hx hb dX_step_15 rfl (lv_at hl 0 rfl) ?_
    refine zg_callW (zg_runC (rest := []) hx hb hml hown (tX_addChosen l (zx_J_c hJ) had hR9 (v := b) (by omega) hk2) (wcX_94 hz (Nat.le_of_ble_eq_true rfl) (Nat.le_of_ble_eq_true rfl)) (hz _ ki_X_addChosen) (hz _ ks_X_addChosen) (hz _ kC_X_addChosen) hP hK rfl (q0 := 0) rfl rfl hl.1 rfl (Nat.le_of_ble_eq_true rfl) dX_step_16 ⟨Nat.le_of_ble_eq_true rfl, Nat.le_of_ble_eq_true rfl⟩) hS (fun q h => zg_A_up hS.1 h) (fun q h => zg_A_up hS.1 h) (fun f H locs hf hP hz9 hk9 hS => ?_)
    refine W.eq (g2 := F0 m 19 ls []) rfl ?_
    refine lv_iload_n hx hb dX_step_19 rfl (lv_at hl 0 rfl) ?_
    exact zt_ri hx hb hr hlocks (fun t ht _ => Or.inl ⟨by unfold zc_step; rw [if_pos hk2], (f, upd chs k (nI b)), rfl, zx_J_up hJ hf, by rw [ht]; exact hP, hS.F ht⟩) (hS.2.2) dX_step_20
set_option maxHeartbeats 4000000 in
set_option maxRecDepth 100000 in
/-- choose -/
theorem tX_choose (l : Launch) {dC : Nat → ClassId} {dI : Nat → Nat → Nat} {cI cJ cB : ClassId} {ad : Nat → Nat} {lev val pkd : Nat → Int32} {cst : Nat → Int64} {chs : Nat → Int32} {D N F k : Nat} {L V S : Nat → Nat} {p0 : Int32} {sz : Nat} (had : zg_ap ad 6) (hst : l.stackTraces = false) (hR : zx_R D N F L V lev val pkd) (hJ : zx_J D N F k L V S cst chs) (hk : k ≤ 16) : zt_Met l yX_choose wX_choose rX_choose (va_Pc [.ref (ad 0), .int p0] (zg_U dC dI cI cJ cB (zx_w ad cI cJ lev val pkd cst chs D N F k) sz)) (zg_X dC dI (zc_cho (zn p0)) (fun _ => some (.int (nI (zq_go (zq_pick D N F L V) (zn p0 - k) k S).1))) (fun u : (Nat → Int64) × (Nat → Int32) => zx_J D N F (zq_go (zq_pick D N F L V) (zn p0 - k) k S).1 L V (zq_go (zq_pick D N F L V) (zn p0 - k) k S).2 u.1 u.2) (fun u => zx_w ad cI cJ lev val pkd u.1 u.2 D N F ((zq_go (zq_pick D N F L V) (zn p0 - k) k S).1)) (zg_A ad 6 sz)) 0 0 1 6 (zg_A ad 6 sz) := by
  generalize ha1 : zn p0 = a1
  refine zt_ofW (cc := cX_choose) (maxL := 4) (ret := (some .int)) (by decide) rfl ?_
  intro p e s m args below meth c s₁ B hml hout hv
  obtain ⟨rfl, hsz, hP, hK, hTS⟩ := hv
  have hx := B.exec
  have hb := B.bytes
  have hr := B.returns
  have hz : ∀ w ∈ zw0, w.before ([.ref (ad 0), .int p0] : List Value).toArray s = true := fun w h => atoms_spec (ws := wX_choose) B.pre w (List.mem_cons_of_mem _ h)
  have hown : s.vm.findClass RX = some m.cls := findClass_of_methodNamed B.named
  have hlocks := B.notSynchronized
  subst hsz
  have hS : va_S (zg_A ad 6 s.heap.size) s.heap s.heap [] := va_S.rf
  have hl := lv_entry ([.ref (ad 0), .int p0]) (n := 4) (Nat.le_of_ble_eq_true rfl)
  rw [lg_entry_eq]
  generalize (lg_sl ([.ref (ad 0), .int p0]) ++ List.replicate (4 - (lg_sl ([.ref (ad 0), .int p0])).length) Slot.unset).toArray = ls at hl ⊢
  have hl : lv_has ls 4 [(0, .ref (ad 0)), (1, .int p0)] := hl
  have htr : e.platform.stackTraces = false := (show e.platform.stackTraces = l.stackTraces by rw [B.admits.platform]).trans hst
  have hR9 := hR
  obtain ⟨hD, hL, hN, hN5, hF, hVb, hlev, hval, hpk⟩ := hR
  rcases zn_cases p0 with ⟨h0, e0⟩ | ⟨n, hn, rfl, e0⟩
  · have ea : a1 = 2 ^ 31 := ha1.symm.trans e0
    refine lv_iload_n hx hb dX_choose_0 rfl (lv_at hl 1 rfl) ?_
    refine lv_if_lt (tgt := 10) hx hb dX_choose_1 (by decide) (fun _ => ?_) (fun c1 => absurd c1 (not_not_intro h0))
    exact zt_throwA (tx := "k is not 0 .. 16") hx hb htr (hl.1.trans hml.symm) hown hz hTS (by decide +kernel) hout hlocks dX_choose_10 dX_choose_13 dX_choose_14 dX_choose_16 dX_choose_19 (Nat.le_of_ble_eq_true rfl) (Nat.le_of_ble_eq_true rfl) (Nat.le_of_ble_eq_true rfl) (Nat.le_of_ble_eq_true rfl) (Nat.le_of_ble_eq_true rfl) (Nat.le_of_ble_eq_true rfl) (fun t x hTh hW => Or.inr (Or.inl ⟨by unfold zc_cho; rw [if_neg (by omega)], x, rfl, hTh⟩))
  · have ea : a1 = n := ha1.symm.trans e0
    subst ea
    refine lv_iload_n hx hb dX_choose_0 rfl (lv_at hl 1 rfl) ?_
    refine lv_if_lt (tgt := 10) hx hb dX_choose_1 (by decide) (fun c1 => absurd c1 (nI_pos hn)) (fun _ => ?_)
    refine lv_iload_n hx hb dX_choose_4 rfl (lv_at hl 1 rfl) ?_
    refine lv_bipush (v := nI 16) hx hb dX_choose_5 (by decide) ?_
    refine zj_le (tgt := 20) hx hb dX_choose_7 (by decide) (by omega) (by omega) (fun c7 => ?_) (fun c7 => ?_)
    · refine lv_aload_n hx hb dX_choose_20 rfl (lv_at hl 0 rfl) ?_
      refine va_get (D := (dC, dI)) (ci := 0) (v := .int (nI k)) (C := RX) (T := TX) (N := 9) hx hb hz in_X hown hK hP 0 rfl rfl 8 (by decide) (hz _ kf_X_36) (fun _ h9 => h9) rfl dX_choose_21 ?_
      refine lv_istore_n (lv' := [(2, .int (nI k)), (0, .ref (ad 0)), (1, .int (nI a1))]) hx hb dX_choose_24 rfl hl (by decide) rfl (fun ls hl => ?_)
      have loop : ∀ (r k9 : Nat) (S9 : Nat → Nat), a1 - k9 = r → zq_go (zq_pick D N F L V) r k9 S9 = (zq_go (zq_pick D N F L V) (a1 - k) k S) → k9 ≤ 16 → ∀ (f : Nat → Int64) (g : Nat → Int32) (H : Heap) (locs : List Loc), zx_J D N F k9 L V S9 f g → va_P (dC, dI) zcl (zx_w ad cI cJ lev val pkd f g D N F k9) H → va_S (zg_A ad 6 s.heap.size) s.heap H locs → ∀ ls : Array Slot, lv_has ls 4 [(0, .ref (ad 0)), (1, .int (nI a1)), (2, .int (nI k9))] → W p l e (headSpec wX_choose rX_choose).room s m ([.ref (ad 0), .int (nI a1)] : List Value).toArray below meth c H locs 0 0 (zt_MQ below (zg_X dC dI (zc_cho a1) (fun _ => some (.int (nI (zq_go (zq_pick D N F L V) (a1 - k) k S).1))) (fun u : (Nat → Int64) × (Nat → Int32) => zx_J D N F (zq_go (zq_pick D N F L V) (a1 - k) k S).1 L V (zq_go (zq_pick D N F L V) (a1 - k) k S).2 u.1 u.2) (fun u => zx_w ad cI cJ lev val pkd u.1 u.2 D N F ((zq_go (zq_pick D N F L V) (a1 - k) k S).1)) (zg_A ad 6 s.heap.size)) ([.ref (ad 0), .int (nI a1)] : List Value).toArray s 0 0 1 6 (zg_A ad 6 s.heap.size)) (F0 m 25 ls []) := by
        intro r
        induction r with
        | zero =>
          intro k9 S9 hr9 hgo hk9 f g H locs hJ9 hP hS ls hl
          have hgo : (k9, S9) = (zq_go (zq_pick D N F L V) (a1 - k) k S) := hgo
          refine lv_iload_n hx hb dX_choose_25 rfl (lv_at hl 2 rfl) ?_
          refine lv_iload_n hx hb dX_choose_26 rfl (lv_at hl 1 rfl) ?_
          refine zj_ge (tgt := 54) hx hb dX_choose_27 (by decide) (by omega) (by omega) (fun _ => ?_) (fun c27 => absurd c27 (by omega))
          refine lv_aload_n hx hb dX_choose_54 rfl (lv_at hl 0 rfl) ?_
          refine va_get (D := (dC, dI)) (ci := 0) (v := .int (nI k9)) (C := RX) (T := TX) (N := 9) hx hb hz in_X hown hK hP 0 rfl rfl 8 (by decide) (hz _ kf_X_36) (fun _ h9 => h9) rfl dX_choose_55 ?_
          rw [← hgo]
          exact zt_ri hx hb hr hlocks (fun t ht _ => Or.inl ⟨by unfold zc_cho; rw [if_pos (by omega)], (f, g), rfl, hJ9, by rw [ht]; exact hP, hS.F ht⟩) (hS.2.2) dX_choose_58
        | succ r ih =>
          intro k9 S9 hr9 hgo hk9 f g H locs hJ9 hP hS ls hl
          have hgo : (if zq_pick D N F L V k9 S9 = 0 then (k9, S9) else zq_go (zq_pick D N F L V) r (k9 + 1) (zq_up S9 k9 (zq_pick D N F L V k9 S9 - 1))) = (zq_go (zq_pick D N F L V) (a1 - k) k S) := hgo
          refine lv_iload_n hx hb dX_choose_25 rfl (lv_at hl 2 rfl) ?_
          refine lv_iload_n hx hb dX_choose_26 rfl (lv_at hl 1 rfl) ?_
          refine zj_ge (tgt := 54) hx hb dX_choose_27 (by decide) (by omega) (by omega) (fun c27 => absurd c27 (by omega)) (fun _ => ?_)
          refine lv_aload_n hx hb dX_choose_30 rfl (lv_at hl 0 rfl) ?_
          refine zt_callRi (zg_run (rest := []) hx hb hml hown (tX_mostBeneficial l (zx_J_c hJ9) hR9) (wcX_97 hz (Nat.le_of_ble_eq_true rfl) (Nat.le_of_ble_eq_true rfl)) (hz _ ki_X_mostBeneficial) (hz _ ks_X_mostBeneficial) (hz _ kC_X_mostBeneficial) hP hK rfl (q0 := 0) rfl rfl hl.1 rfl (Nat.le_of_ble_eq_true rfl) dX_choose_31 ⟨Nat.le_of_ble_eq_true rfl, Nat.le_of_ble_eq_true rfl⟩) ?_
          refine lv_istore_n (lv' := [(3, .int (nI (zq_pick D N F L V k9 S9) - 1)), (0, .ref (ad 0)), (1, .int (nI a1)), (2, .int (nI k9))]) hx hb dX_choose_34 rfl hl (by decide) rfl (fun ls hl => ?_)
          refine lv_iload_n hx hb dX_choose_35 rfl (lv_at hl 0 rfl) ?_
          refine lv_iconst (v := -1) hx hb dX_choose_36 (by decide) ?_
          have hpl := zq_pick_le D N F L V k9 S9
          generalize hpk9 : zq_pick D N F L V k9 S9 = b at hpl hl hgo ⊢
          rcases b with _ | b
          · rw [if_pos rfl] at hgo
            refine lv_icmp_ne (tgt := 43) hx hb dX_choose_37 (by decide) (fun c37 => absurd c37 (fun q => q (by decide))) (fun _ => ?_)
            refine lv_goto (tgt := 54) hx hb dX_choose_40 (by decide) ?_
            refine lv_aload_n hx hb dX_choose_54 rfl (lv_at hl 1 rfl) ?_
            refine va_get (D := (dC, dI)) (ci := 0) (v := .int (nI k9)) (C := RX) (T := TX) (N := 9) hx hb hz in_X hown hK hP 0 rfl rfl 8 (by decide) (hz _ kf_X_36) (fun _ h9 => h9) rfl dX_choose_55 ?_
            rw [← hgo]
            exact zt_ri hx hb hr hlocks (fun t ht _ => Or.inl ⟨by unfold zc_cho; rw [if_pos (by omega)], (f, g), rfl, hJ9, by rw [ht]; exact hP, hS.F ht⟩) (hS.2.2) dX_choose_58
          · rw [if_neg (Nat.succ_ne_zero b), Nat.add_sub_cancel] at hgo
            rw [nI_pred] at hl ⊢
            refine lv_icmp_ne (tgt := 43) hx hb dX_choose_37 (by decide) (fun _ => ?_) (fun c37 => absurd c37 (fun q => absurd (show nI b < 0 by rw [q]; decide) (nI_pos (by omega))))
            refine lv_aload_n hx hb dX_choose_43 rfl (lv_at hl 1 rfl) ?_
            refine lv_iload_n hx hb dX_choose_44 rfl (lv_at hl 0 rfl) ?_
            refine zg_callW (zg_runC (rest := []) hx hb hml hown (tX_addChosen l (zx_J_c hJ9) had hR9 (v := b) (by omega) (by omega)) (wcX_94 hz (Nat.le_of_ble_eq_true rfl) (Nat.le_of_ble_eq_true rfl)) (hz _ ki_X_addChosen) (hz _ ks_X_addChosen) (hz _ kC_X_addChosen) hP hK rfl (q0 := 0) rfl rfl hl.1 rfl (Nat.le_of_ble_eq_true rfl) dX_choose_45 ⟨Nat.le_of_ble_eq_true rfl, Nat.le_of_ble_eq_true rfl⟩) hS (fun q h => zg_A_up hS.1 h) (fun q h => zg_A_up hS.1 h) (fun f2 H locs hf2 hP hz9 hk9 hS => ?_)
            refine W.eq (g2 := F0 m 48 ls []) rfl ?_
            refine lv_iinc (v := nI (k9 + 1)) (lv' := [(2, .int (nI (k9 + 1))), (3, .int (nI b)), (0, .ref (ad 0)), (1, .int (nI a1))]) hx hb dX_choose_48 hl (k := 3) rfl (nI_1 _) (by decide) rfl (fun ls hl => ?_)
            refine lv_goto (tgt := 25) hx hb dX_choose_51 (by decide) ?_
            exact ih (k9 + 1) (zq_up S9 k9 b) (by omega) hgo (by omega) f2 _ H locs (zx_J_up hJ9 hf2) hP hS ls (lv_sub hl [2, 3, 0] rfl)
      exact loop (a1 - k) k S rfl rfl hk cst chs s.heap [] hJ hP hS ls (lv_sub hl [1, 2, 0] rfl)
    · exact zt_throwA (tx := "k is not 0 .. 16") hx hb htr (hl.1.trans hml.symm) hown hz hTS (by decide +kernel) hout hlocks dX_choose_10 dX_choose_13 dX_choose_14 dX_choose_16 dX_choose_19 (Nat.le_of_ble_eq_true rfl) (Nat.le_of_ble_eq_true rfl) (Nat.le_of_ble_eq_true rfl) (Nat.le_of_ble_eq_true rfl) (Nat.le_of_ble_eq_true rfl) (Nat.le_of_ble_eq_true rfl) (fun t x hTh hW => Or.inr (Or.inl ⟨by unfold zc_cho; rw [if_neg (by omega)], x, rfl, hTh⟩))
