/-! the chooser reads: by program (wip/gen/class_reads.py) -/
set_option maxHeartbeats 4000000 in
set_option maxRecDepth 100000 in
/-- the digit of a packed view -/
theorem tX_unpackDigit (l : Launch) {L : Nat → Nat} {D v d : Nat} (hD : D ≤ 8) (hL : ∀ j, j < D → L j ≤ 4) (hd : d < D) : zt_Met l yX_unpackDigit wX_unpackDigit rX_unpackDigit (va_Pc [.int (nI (zq_pk L D v)), .int (nI d)] (fun _ => True)) (zt_Qr (some (.int (nI (zq_dg L D v d))))) 0 0 0 0 (fun _ => False) := by
  refine zt_ofW (cc := cX_unpackDigit) (maxL := 2) (ret := (some .int)) (by decide) rfl ?_
  intro p e s m args below meth c s₁ B hml hout hv
  obtain ⟨rfl, -⟩ := hv
  have hx := B.exec
  have hb := B.bytes
  have hr := B.returns
  have hz : ∀ w ∈ zw0, w.before ([.int (nI (zq_pk L D v)), .int (nI d)] : List Value).toArray s = true := fun w h => atoms_spec (ws := wX_unpackDigit) B.pre w (List.mem_cons_of_mem _ h)
  have hown : s.vm.findClass RX = some m.cls := findClass_of_methodNamed B.named
  have hlocks := B.notSynchronized
  have hl := lv_entry ([.int (nI (zq_pk L D v)), .int (nI d)]) (n := 2) (Nat.le_of_ble_eq_true rfl)
  rw [lg_entry_eq]
  generalize (lg_sl ([.int (nI (zq_pk L D v)), .int (nI d)]) ++ List.replicate (2 - (lg_sl ([.int (nI (zq_pk L D v)), .int (nI d)])).length) Slot.unset).toArray = ls at hl ⊢
  have hl : lv_has ls 2 [(0, .int (nI (zq_pk L D v))), (1, .int (nI d))] := hl
  refine lv_iload_n hx hb dX_unpackDigit_0 rfl (lv_at hl 0 rfl) ?_
  refine lv_iload_n hx hb dX_unpackDigit_1 rfl (lv_at hl 1 rfl) ?_
  refine lv_iconst (v := nI 4) hx hb dX_unpackDigit_2 (by decide) ?_
  refine lv_imul hx hb dX_unpackDigit_3 ?_
  refine zt_ti (pk_mul _ _) ?_
  refine lv_iushr hx hb dX_unpackDigit_4 rfl ?_
  refine lv_bipush (v := 15) hx hb dX_unpackDigit_5 (by decide) ?_
  refine lv_iand hx hb dX_unpackDigit_7 ?_
  refine zt_ti (zq_unp L v hD hL hd) ?_
  exact zt_ri hx hb hr hlocks (fun t ht _ => ⟨rfl, ht⟩) (fun q h => by cases h) dX_unpackDigit_8
set_option maxHeartbeats 4000000 in
set_option maxRecDepth 100000 in
/-- all digits at once -/
theorem tX_isAbovePacked (l : Launch) {L : Nat → Nat} {D u v : Nat} (hD : D ≤ 8) (hL : ∀ j, j < D → L j ≤ 4) : zt_Met l yX_isAbovePacked wX_isAbovePacked rX_isAbovePacked (va_Pc [.int (nI (zq_pk L D u)), .int (nI (zq_pk L D v))] (fun _ => True)) (zt_Qr (some (.int (if zq_ab L D u v = true then 1 else 0)))) 0 0 0 0 (fun _ => False) := by
  refine zt_ofW (cc := cX_isAbovePacked) (maxL := 2) (ret := (some .boolean)) (by decide) rfl ?_
  intro p e s m args below meth c s₁ B hml hout hv
  obtain ⟨rfl, -⟩ := hv
  have hx := B.exec
  have hb := B.bytes
  have hr := B.returns
  have hz : ∀ w ∈ zw0, w.before ([.int (nI (zq_pk L D u)), .int (nI (zq_pk L D v))] : List Value).toArray s = true := fun w h => atoms_spec (ws := wX_isAbovePacked) B.pre w (List.mem_cons_of_mem _ h)
  have hown : s.vm.findClass RX = some m.cls := findClass_of_methodNamed B.named
  have hlocks := B.notSynchronized
  have hl := lv_entry ([.int (nI (zq_pk L D u)), .int (nI (zq_pk L D v))]) (n := 2) (Nat.le_of_ble_eq_true rfl)
  rw [lg_entry_eq]
  generalize (lg_sl ([.int (nI (zq_pk L D u)), .int (nI (zq_pk L D v))]) ++ List.replicate (2 - (lg_sl ([.int (nI (zq_pk L D u)), .int (nI (zq_pk L D v))])).length) Slot.unset).toArray = ls at hl ⊢
  have hl : lv_has ls 2 [(0, .int (nI (zq_pk L D u))), (1, .int (nI (zq_pk L D v)))] := hl
  refine lv_iload_n hx hb dX_isAbovePacked_0 rfl (lv_at hl 1 rfl) ?_
  refine lv_ldc hx hb hown (hz _ kn_X_125) dX_isAbovePacked_1 ?_
  refine lv_ior hx hb dX_isAbovePacked_3 ?_
  refine lv_iload_n hx hb dX_isAbovePacked_4 rfl (lv_at hl 0 rfl) ?_
  refine lv_isub hx hb dX_isAbovePacked_5 ?_
  refine lv_ldc hx hb hown (hz _ kn_X_125) dX_isAbovePacked_6 ?_
  refine lv_iand hx hb dX_isAbovePacked_8 ?_
  refine lv_ldc hx hb hown (hz _ kn_X_125) dX_isAbovePacked_9 ?_
  refine lv_icmp_ne (tgt := 18) hx hb dX_isAbovePacked_11 (by decide) (fun c11 => ?_) (fun c11 => ?_)
  · have e1 : ¬ zq_ab L D u v = true := fun q => c11 ((zq_abI L u v hD hL).mpr q)
    refine lv_iconst (v := nI 0) hx hb dX_isAbovePacked_18 (by decide) ?_
    exact zt_rz hx hb hr hlocks (rfl) (fun t ht _ => ⟨by rw [if_neg e1]; rfl, ht⟩) (fun q h => by cases h) dX_isAbovePacked_19
  · have e1 : zq_ab L D u v = true := (zq_abI L u v hD hL).mp c11
    refine lv_iconst (v := nI 1) hx hb dX_isAbovePacked_14 (by decide) ?_
    refine lv_goto (tgt := 19) hx hb dX_isAbovePacked_15 (by decide) ?_
    exact zt_rz hx hb hr hlocks (rfl) (fun t ht _ => ⟨by rw [if_pos e1]; rfl, ht⟩) (fun q h => by cases h) dX_isAbovePacked_19
set_option maxHeartbeats 4000000 in
set_option maxRecDepth 100000 in
/-- the estimate of a view -/
theorem tX_estimateOf (l : Launch) {dC : Nat → ClassId} {dI : Nat → Nat → Nat} {cI cJ cB : ClassId} {ad : Nat → Nat} {lev val pkd : Nat → Int32} {cst : Nat → Int64} {chs : Nat → Int32} {D N F k : Nat} {L V : Nat → Nat} {v : Nat} (hR : zx_R D N F L V lev val pkd) (hv : v < N) : zt_Met l yX_estimateOf wX_estimateOf rX_estimateOf (va_Pc [.ref (ad 0), .int (nI v)] (zg_B dC dI cI cJ cB (zx_w ad cI cJ lev val pkd cst chs D N F k))) (zt_Qr (some (.long (lN (zq_es L V D F v))))) 0 0 0 0 (fun _ => False) := by
  refine zt_ofW (cc := cX_estimateOf) (maxL := 7) (ret := (some .long)) (by decide) rfl ?_
  intro p e s m args below meth c s₁ B hml hout hv
  obtain ⟨rfl, hP, hK⟩ := hv
  have hx := B.exec
  have hb := B.bytes
  have hr := B.returns
  have hz : ∀ w ∈ zw0, w.before ([.ref (ad 0), .int (nI v)] : List Value).toArray s = true := fun w h => atoms_spec (ws := wX_estimateOf) B.pre w (List.mem_cons_of_mem _ h)
  have hown : s.vm.findClass RX = some m.cls := findClass_of_methodNamed B.named
  have hlocks := B.notSynchronized
  have hl := lv_entry ([.ref (ad 0), .int (nI v)]) (n := 7) (Nat.le_of_ble_eq_true rfl)
  rw [lg_entry_eq]
  generalize (lg_sl ([.ref (ad 0), .int (nI v)]) ++ List.replicate (7 - (lg_sl ([.ref (ad 0), .int (nI v)])).length) Slot.unset).toArray = ls at hl ⊢
  have hl : lv_has ls 7 [(0, .ref (ad 0)), (1, .int (nI v))] := hl
  obtain ⟨hD, hL, hN, hN5, hF, hVb, hlev, hval, hpk⟩ := hR
  have hL4 : ∀ j, j < D → L j ≤ 4 := fun j hj => (hL j hj).2
  refine lv_aload_n hx hb dX_estimateOf_0 rfl (lv_at hl 0 rfl) ?_
  refine va_get (D := (dC, dI)) (ci := 0) (v := .ref (ad 3)) (C := RX) (T := TX) (N := 9) hx hb hz in_X hown hK hP 0 rfl rfl 2 (by decide) (hz _ kf_X_16) (fun _ h9 => h9) rfl dX_estimateOf_1 ?_
  refine lv_iload_n hx hb dX_estimateOf_4 rfl (lv_at hl 1 rfl) ?_
  refine zt_iald hx hb hK hP 3 0 rfl rfl (i := v) (by omega) (by decide) (v := (nI (zq_pk L D v))) (hpk v hv) dX_estimateOf_5 ?_
  refine lv_istore_n (lv' := [(2, .int (nI (zq_pk L D v))), (0, .ref (ad 0)), (1, .int (nI v))]) hx hb dX_estimateOf_6 rfl hl (by decide) rfl (fun ls hl => ?_)
  refine lv_iconst (v := nI 1) hx hb dX_estimateOf_7 (by decide) ?_
  refine lv_aload_n hx hb dX_estimateOf_8 rfl (lv_at hl 1 rfl) ?_
  refine va_get (D := (dC, dI)) (ci := 0) (v := .int (nI F)) (C := RX) (T := TX) (N := 9) hx hb hz in_X hown hK hP 0 rfl rfl 7 (by decide) (hz _ kf_X_33) (fun _ h9 => h9) rfl dX_estimateOf_9 ?_
  refine va_mmin hx hb (hml.trans hl.1.symm) hown (hz _ kl_X_117) (hz _ kst_min) (hz _ kin_Math) (hz _ kC_min) (Nat.le_of_ble_eq_true rfl) (Nat.le_of_ble_eq_true rfl) (Nat.le_of_ble_eq_true rfl) (Nat.le_of_ble_eq_true rfl) dX_estimateOf_12 ?_
  refine zt_ti (zq_minI hF (by decide)) ?_
  refine lv_i2l (v := lN (min F 1)) hx hb dX_estimateOf_15 (nI_l (by omega)) ?_
  refine lv_lstore_n (lv' := [(3, .long (lN (min F 1))), (2, .int (nI (zq_pk L D v))), (0, .ref (ad 0)), (1, .int (nI v))]) hx hb dX_estimateOf_16 rfl hl (by decide) rfl (fun ls hl => ?_)
  refine lv_iconst (v := nI 0) hx hb dX_estimateOf_17 (by decide) ?_
  refine lv_istore (lv' := [(5, .int (nI 0)), (3, .long (lN (min F 1))), (2, .int (nI (zq_pk L D v))), (0, .ref (ad 0)), (1, .int (nI v))]) hx hb dX_estimateOf_18 hl (by decide) rfl (fun ls hl => ?_)
  have loop : ∀ (n i : Nat), i + n = D → ∀ ls : Array Slot, lv_has ls 7 [(0, .ref (ad 0)), (1, .int (nI v)), (2, .int (nI (zq_pk L D v))), (3, .long (lN (min F (zq_pr L V D v i)))), (5, .int (nI i))] → W p l e (headSpec wX_estimateOf rX_estimateOf).room s m ([.ref (ad 0), .int (nI v)] : List Value).toArray below meth c s.heap [] 0 0 (zt_MQ below (zt_Qr (some (.long (lN (zq_es L V D F v))))) ([.ref (ad 0), .int (nI v)] : List Value).toArray s 0 0 0 0 (fun _ => False)) (F0 m 20 ls []) := by
    intro n
    induction n with
    | zero =>
      intro i hi ls hl
      refine lv_iload hx hb dX_estimateOf_20 (lv_at hl 4 rfl) ?_
      refine lv_aload_n hx hb dX_estimateOf_22 rfl (lv_at hl 0 rfl) ?_
      refine va_get (D := (dC, dI)) (ci := 0) (v := .int (nI D)) (C := RX) (T := TX) (N := 9) hx hb hz in_X hown hK hP 0 rfl rfl 5 (by decide) (hz _ kf_X_26) (fun _ h9 => h9) rfl dX_estimateOf_23 ?_
      refine zj_ge (tgt := 79) hx hb dX_estimateOf_26 (by decide) (by omega) (by omega) (fun _ => ?_) (fun c26 => absurd c26 (by omega))
      refine lv_lload_n hx hb dX_estimateOf_79 rfl (lv_at hl 3 rfl) ?_
      have e1 : i = D := by omega
      subst e1
      exact zt_rl hx hb hr hlocks (fun t ht _ => ⟨rfl, ht⟩) (fun q h => by cases h) dX_estimateOf_80
    | succ n ih =>
      intro i hi ls hl
      refine lv_iload hx hb dX_estimateOf_20 (lv_at hl 4 rfl) ?_
      refine lv_aload_n hx hb dX_estimateOf_22 rfl (lv_at hl 0 rfl) ?_
      refine va_get (D := (dC, dI)) (ci := 0) (v := .int (nI D)) (C := RX) (T := TX) (N := 9) hx hb hz in_X hown hK hP 0 rfl rfl 5 (by decide) (hz _ kf_X_26) (fun _ h9 => h9) rfl dX_estimateOf_23 ?_
      refine zj_ge (tgt := 79) hx hb dX_estimateOf_26 (by decide) (by omega) (by omega) (fun c26 => absurd c26 (by omega)) (fun _ => ?_)
      refine lv_iload_n hx hb dX_estimateOf_29 rfl (lv_at hl 2 rfl) ?_
      refine lv_iload hx hb dX_estimateOf_30 (lv_at hl 4 rfl) ?_
      refine zt_callRi (zs_run (rest := []) hx hb hml hown (tX_unpackDigit l hD hL4 (by omega)) (wcX_74 hz (Nat.le_of_ble_eq_true rfl) (Nat.le_of_ble_eq_true rfl)) (hz _ kst_X_unpackDigit) (hz _ kC_X_unpackDigit) rfl hl.1 rfl (Nat.le_of_ble_eq_true rfl) dX_estimateOf_32 ⟨Nat.le_of_ble_eq_true rfl, Nat.le_of_ble_eq_true rfl⟩) ?_
      refine lv_istore (lv' := [(6, .int (nI (zq_dg L D v i))), (0, .ref (ad 0)), (1, .int (nI v)), (2, .int (nI (zq_pk L D v))), (3, .long (lN (min F (zq_pr L V D v i)))), (5, .int (nI i))]) hx hb dX_estimateOf_35 hl (by decide) rfl (fun ls hl => ?_)
      refine lv_iload hx hb dX_estimateOf_37 (lv_at hl 0 rfl) ?_
      refine lv_aload_n hx hb dX_estimateOf_39 rfl (lv_at hl 1 rfl) ?_
      refine va_get (D := (dC, dI)) (ci := 0) (v := .ref (ad 1)) (C := RX) (T := TX) (N := 9) hx hb hz in_X hown hK hP 0 rfl rfl 0 (by decide) (hz _ kf_X_9) (fun _ h9 => h9) rfl dX_estimateOf_40 ?_
      refine lv_iload hx hb dX_estimateOf_43 (lv_at hl 5 rfl) ?_
      refine zt_iald hx hb hK hP 1 0 rfl rfl (i := i) (by omega) (by decide) (v := (nI (L i))) (hlev i (by omega)) dX_estimateOf_45 ?_
      have hdg := zq_dg_le L D v i (by omega)
      have hLi := hL i (by omega)
      refine zj_ge (tgt := 73) hx hb dX_estimateOf_46 (by decide) (by omega) (by omega) (fun c46 => ?_) (fun c46 => ?_)
      · have e1 := zq_pr_n L V D v i (by omega)
        refine lv_iinc (v := nI (i + 1)) (lv' := [(5, .int (nI (i + 1))), (6, .int (nI (zq_dg L D v i))), (0, .ref (ad 0)), (1, .int (nI v)), (2, .int (nI (zq_pk L D v))), (3, .long (lN (min F (zq_pr L V D v i))))]) hx hb dX_estimateOf_73 hl (k := 5) rfl (nI_1 _) (by decide) rfl (fun ls hl => ?_)
        refine lv_goto (tgt := 20) hx hb dX_estimateOf_76 (by decide) ?_
        exact ih (i + 1) (by omega) ls (by rw [e1]; exact lv_sub hl [2, 3, 4, 5, 0] rfl)
      · refine lv_lload_n hx hb dX_estimateOf_49 rfl (lv_at hl 4 rfl) ?_
        refine lv_aload_n hx hb dX_estimateOf_50 rfl (lv_at hl 1 rfl) ?_
        refine va_get (D := (dC, dI)) (ci := 0) (v := .ref (ad 2)) (C := RX) (T := TX) (N := 9) hx hb hz in_X hown hK hP 0 rfl rfl 1 (by decide) (hz _ kf_X_13) (fun _ h9 => h9) rfl dX_estimateOf_51 ?_
        refine lv_iload hx hb dX_estimateOf_54 (lv_at hl 5 rfl) ?_
        refine lv_iconst (v := nI 4) hx hb dX_estimateOf_56 (by decide) ?_
        refine lv_imul hx hb dX_estimateOf_57 ?_
        refine zt_ti (pk_mul _ _) ?_
        refine lv_iload hx hb dX_estimateOf_58 (lv_at hl 0 rfl) ?_
        refine lv_iadd hx hb dX_estimateOf_60 ?_
        refine zt_ti (nI_add _ _) ?_
        refine zt_iald hx hb hK hP 2 0 rfl rfl (i := ((i * 4) + (zq_dg L D v i))) (by omega) (by decide) (v := (nI (V (4 * i + zq_dg L D v i)))) (by rw [hval _ (by omega), Nat.mul_comm i 4]) dX_estimateOf_61 ?_
        refine lv_i2l (v := lN (V (4 * i + zq_dg L D v i))) hx hb dX_estimateOf_62 (nI_l (by have := hVb (4 * i + zq_dg L D v i); omega)) ?_
        refine lv_lmul hx hb dX_estimateOf_63 ?_
        refine zt_tl (lN_mul _ _) ?_
        refine lv_aload_n hx hb dX_estimateOf_64 rfl (lv_at hl 1 rfl) ?_
        refine va_get (D := (dC, dI)) (ci := 0) (v := .int (nI F)) (C := RX) (T := TX) (N := 9) hx hb hz in_X hown hK hP 0 rfl rfl 7 (by decide) (hz _ kf_X_33) (fun _ h9 => h9) rfl dX_estimateOf_65 ?_
        refine lv_i2l (v := lN F) hx hb dX_estimateOf_68 (nI_l (by omega)) ?_
        refine va_mmin_long hx hb (hml.trans hl.1.symm) hown (hz _ kl_X_122) (hz _ kst_lmin) (hz _ kin_Math) (hz _ kC_lmin) (Nat.le_of_ble_eq_true rfl) (Nat.le_of_ble_eq_true rfl) (Nat.le_of_ble_eq_true rfl) (Nat.le_of_ble_eq_true rfl) dX_estimateOf_69 ?_
        refine zt_tl (y := lN (min F (zq_pr L V D v (i + 1)))) (by rw [zq_minL (by omega) (zq_fac hF (hVb _)), zq_cap, zq_pr_s L V D v i (by omega)]) ?_
        refine lv_lstore_n (lv' := [(3, .long (lN (min F (zq_pr L V D v (i + 1))))), (6, .int (nI (zq_dg L D v i))), (0, .ref (ad 0)), (1, .int (nI v)), (2, .int (nI (zq_pk L D v))), (5, .int (nI i))]) hx hb dX_estimateOf_72 rfl hl (by decide) rfl (fun ls hl => ?_)
        refine lv_iinc (v := nI (i + 1)) (lv' := [(5, .int (nI (i + 1))), (3, .long (lN (min F (zq_pr L V D v (i + 1))))), (6, .int (nI (zq_dg L D v i))), (0, .ref (ad 0)), (1, .int (nI v)), (2, .int (nI (zq_pk L D v)))]) hx hb dX_estimateOf_73 hl (k := 5) rfl (nI_1 _) (by decide) rfl (fun ls hl => ?_)
        refine lv_goto (tgt := 20) hx hb dX_estimateOf_76 (by decide) ?_
        exact ih (i + 1) (by omega) ls (lv_sub hl [3, 4, 5, 1, 0] rfl)
  exact loop D 0 (by omega) ls (lv_sub hl [3, 4, 2, 1, 0] rfl)
set_option maxHeartbeats 4000000 in
set_option maxRecDepth 100000 in
/-- the benefit of a view -/
theorem tX_benefitOf (l : Launch) {dC : Nat → ClassId} {dI : Nat → Nat → Nat} {cI cJ cB : ClassId} {ad : Nat → Nat} {lev val pkd : Nat → Int32} {cst : Nat → Int64} {chs : Nat → Int32} {D N F k : Nat} {L V : Nat → Nat} {v : Nat} {cw : Nat → Nat} (hc : ∀ w, w < N → cst w = lN (cw w) ∧ cw w ≤ F) (hR : zx_R D N F L V lev val pkd) (hv : v < N) : zt_Met l yX_benefitOf wX_benefitOf rX_benefitOf (va_Pc [.ref (ad 0), .int (nI v)] (zg_B dC dI cI cJ cB (zx_w ad cI cJ lev val pkd cst chs D N F k))) (zt_Qr (some (.long (lN (zq_bn (zq_es L V D F) (zq_ab L D) cw N v))))) 0 0 0 0 (fun _ => False) := by
  refine zt_ofW (cc := cX_benefitOf) (maxL := 8) (ret := (some .long)) (by decide) rfl ?_
  intro p e s m args below meth c s₁ B hml hout hv
  obtain ⟨rfl, hP, hK⟩ := hv
  have hx := B.exec
  have hb := B.bytes
  have hr := B.returns
  have hz : ∀ w ∈ zw0, w.before ([.ref (ad 0), .int (nI v)] : List Value).toArray s = true := fun w h => atoms_spec (ws := wX_benefitOf) B.pre w (List.mem_cons_of_mem _ h)
  have hown : s.vm.findClass RX = some m.cls := findClass_of_methodNamed B.named
  have hlocks := B.notSynchronized
  have hl := lv_entry ([.ref (ad 0), .int (nI v)]) (n := 8) (Nat.le_of_ble_eq_true rfl)
  rw [lg_entry_eq]
  generalize (lg_sl ([.ref (ad 0), .int (nI v)]) ++ List.replicate (8 - (lg_sl ([.ref (ad 0), .int (nI v)])).length) Slot.unset).toArray = ls at hl ⊢
  have hl : lv_has ls 8 [(0, .ref (ad 0)), (1, .int (nI v))] := hl
  have hR9 := hR
  obtain ⟨hD, hL, hN, hN5, hF, hVb, hlev, hval, hpk⟩ := hR
  have hL4 : ∀ j, j < D → L j ≤ 4 := fun j hj => (hL j hj).2
  have he : zq_es L V D F v ≤ F := zq_es_le L V D F v
  refine lv_aload_n hx hb dX_benefitOf_0 rfl (lv_at hl 0 rfl) ?_
  refine lv_iload_n hx hb dX_benefitOf_1 rfl (lv_at hl 1 rfl) ?_
  refine zt_callRl (zg_run (rest := []) hx hb hml hown (tX_estimateOf l hR9 hv) (wcX_82 hz (Nat.le_of_ble_eq_true rfl) (Nat.le_of_ble_eq_true rfl)) (hz _ ki_X_estimateOf) (hz _ ks_X_estimateOf) (hz _ kC_X_estimateOf) hP hK rfl (q0 := 0) rfl rfl hl.1 rfl (Nat.le_of_ble_eq_true rfl) dX_benefitOf_2 ⟨Nat.le_of_ble_eq_true rfl, Nat.le_of_ble_eq_true rfl⟩) ?_
  refine lv_lstore_n (lv' := [(2, .long (lN (zq_es L V D F v))), (0, .ref (ad 0)), (1, .int (nI v))]) hx hb dX_benefitOf_5 rfl hl (by decide) rfl (fun ls hl => ?_)
  refine lv_aload_n hx hb dX_benefitOf_6 rfl (lv_at hl 1 rfl) ?_
  refine va_get (D := (dC, dI)) (ci := 0) (v := .ref (ad 3)) (C := RX) (T := TX) (N := 9) hx hb hz in_X hown hK hP 0 rfl rfl 2 (by decide) (hz _ kf_X_16) (fun _ h9 => h9) rfl dX_benefitOf_7 ?_
  refine lv_iload_n hx hb dX_benefitOf_10 rfl (lv_at hl 2 rfl) ?_
  refine zt_iald hx hb hK hP 3 0 rfl rfl (i := v) (by omega) (by decide) (v := (nI (zq_pk L D v))) (hpk v hv) dX_benefitOf_11 ?_
  refine lv_istore (lv' := [(4, .int (nI (zq_pk L D v))), (2, .long (lN (zq_es L V D F v))), (0, .ref (ad 0)), (1, .int (nI v))]) hx hb dX_benefitOf_12 hl (by decide) rfl (fun ls hl => ?_)
  refine lv_lconst (v := lN 0) hx hb dX_benefitOf_14 (by decide) ?_
  refine lv_lstore (lv' := [(5, .long (lN 0)), (4, .int (nI (zq_pk L D v))), (2, .long (lN (zq_es L V D F v))), (0, .ref (ad 0)), (1, .int (nI v))]) hx hb dX_benefitOf_15 hl (by decide) rfl (fun ls hl => ?_)
  refine lv_iload_n hx hb dX_benefitOf_17 rfl (lv_at hl 4 rfl) ?_
  refine lv_istore (lv' := [(7, .int (nI v)), (5, .long (lN 0)), (4, .int (nI (zq_pk L D v))), (2, .long (lN (zq_es L V D F v))), (0, .ref (ad 0)), (1, .int (nI v))]) hx hb dX_benefitOf_18 hl (by decide) rfl (fun ls hl => ?_)
  have loop : ∀ (n i : Nat), i + n = N → ∀ ls : Array Slot, lv_has ls 8 [(0, .ref (ad 0)), (1, .int (nI v)), (2, .long (lN (zq_es L V D F v))), (4, .int (nI (zq_pk L D v))), (5, .long (lN (zq_sm (zq_bf (zq_es L V D F) (zq_ab L D) cw v) i))), (7, .int (nI i))] → W p l e (headSpec wX_benefitOf rX_benefitOf).room s m ([.ref (ad 0), .int (nI v)] : List Value).toArray below meth c s.heap [] 0 0 (zt_MQ below (zt_Qr (some (.long (lN (zq_bn (zq_es L V D F) (zq_ab L D) cw N v))))) ([.ref (ad 0), .int (nI v)] : List Value).toArray s 0 0 0 0 (fun _ => False)) (F0 m 20 ls []) := by
    intro n
    induction n with
    | zero =>
      intro i hi ls hl
      refine lv_iload hx hb dX_benefitOf_20 (lv_at hl 5 rfl) ?_
      refine lv_aload_n hx hb dX_benefitOf_22 rfl (lv_at hl 0 rfl) ?_
      refine va_get (D := (dC, dI)) (ci := 0) (v := .int (nI N)) (C := RX) (T := TX) (N := 9) hx hb hz in_X hown hK hP 0 rfl rfl 6 (by decide) (hz _ kf_X_30) (fun _ h9 => h9) rfl dX_benefitOf_23 ?_
      refine zj_ge (tgt := 76) hx hb dX_benefitOf_26 (by decide) (by omega) (by omega) (fun _ => ?_) (fun c26 => absurd c26 (by omega))
      refine lv_lload hx hb dX_benefitOf_76 (lv_at hl 4 rfl) ?_
      have e1 : i = N := by omega
      subst e1
      exact zt_rl hx hb hr hlocks (fun t ht _ => ⟨rfl, ht⟩) (fun q h => by cases h) dX_benefitOf_78
    | succ n ih =>
      intro i hi ls hl
      have hci := hc i (by omega)
      refine lv_iload hx hb dX_benefitOf_20 (lv_at hl 5 rfl) ?_
      refine lv_aload_n hx hb dX_benefitOf_22 rfl (lv_at hl 0 rfl) ?_
      refine va_get (D := (dC, dI)) (ci := 0) (v := .int (nI N)) (C := RX) (T := TX) (N := 9) hx hb hz in_X hown hK hP 0 rfl rfl 6 (by decide) (hz _ kf_X_30) (fun _ h9 => h9) rfl dX_benefitOf_23 ?_
      refine zj_ge (tgt := 76) hx hb dX_benefitOf_26 (by decide) (by omega) (by omega) (fun c26 => absurd c26 (by omega)) (fun _ => ?_)
      refine lv_aload_n hx hb dX_benefitOf_29 rfl (lv_at hl 0 rfl) ?_
      refine va_get (D := (dC, dI)) (ci := 0) (v := .ref (ad 4)) (C := RX) (T := TX) (N := 9) hx hb hz in_X hown hK hP 0 rfl rfl 3 (by decide) (hz _ kf_X_19) (fun _ h9 => h9) rfl dX_benefitOf_30 ?_
      refine lv_iload hx hb dX_benefitOf_33 (lv_at hl 5 rfl) ?_
      refine zt_lald hx hb hK hP 4 1 rfl rfl (i := i) (by omega) (by decide) (v := (lN (cw i))) (hci.1) dX_benefitOf_35 ?_
      refine lv_lload_n hx hb dX_benefitOf_36 rfl (lv_at hl 2 rfl) ?_
      refine zl_le (tgt := 70) hx hb dX_benefitOf_37 dX_benefitOf_38 (by decide) (by omega) (by omega) (fun c37 => ?_) (fun c37 => ?_)
      · have e1 : zq_sm (zq_bf (zq_es L V D F) (zq_ab L D) cw v) (i + 1) = zq_sm (zq_bf (zq_es L V D F) (zq_ab L D) cw v) i := by
          show zq_sm (zq_bf (zq_es L V D F) (zq_ab L D) cw v) i + zq_bf (zq_es L V D F) (zq_ab L D) cw v i = _
          rw [zq_bf_f (fun q => by have := q.1; omega)]
          rfl
        refine lv_iinc (v := nI (i + 1)) (lv' := [(7, .int (nI (i + 1))), (0, .ref (ad 0)), (1, .int (nI v)), (2, .long (lN (zq_es L V D F v))), (4, .int (nI (zq_pk L D v))), (5, .long (lN (zq_sm (zq_bf (zq_es L V D F) (zq_ab L D) cw v) i)))]) hx hb dX_benefitOf_70 hl (k := 5) rfl (nI_1 _) (by decide) rfl (fun ls hl => ?_)
        refine lv_goto (tgt := 20) hx hb dX_benefitOf_73 (by decide) ?_
        exact ih (i + 1) (by omega) ls (by rw [e1]; exact (lv_sub hl [1, 2, 3, 4, 5, 0] rfl))
      · refine lv_iload hx hb dX_benefitOf_41 (lv_at hl 3 rfl) ?_
        refine lv_aload_n hx hb dX_benefitOf_43 rfl (lv_at hl 0 rfl) ?_
        refine va_get (D := (dC, dI)) (ci := 0) (v := .ref (ad 3)) (C := RX) (T := TX) (N := 9) hx hb hz in_X hown hK hP 0 rfl rfl 2 (by decide) (hz _ kf_X_16) (fun _ h9 => h9) rfl dX_benefitOf_44 ?_
        refine lv_iload hx hb dX_benefitOf_47 (lv_at hl 5 rfl) ?_
        refine zt_iald hx hb hK hP 3 0 rfl rfl (i := i) (by omega) (by decide) (v := (nI (zq_pk L D i))) (hpk i (by omega)) dX_benefitOf_49 ?_
        refine zt_callRi (zs_run (rest := []) hx hb hml hown (tX_isAbovePacked l hD hL4) (wcX_78 hz (Nat.le_of_ble_eq_true rfl) (Nat.le_of_ble_eq_true rfl)) (hz _ kst_X_isAbovePacked) (hz _ kC_X_isAbovePacked) rfl hl.1 rfl (Nat.le_of_ble_eq_true rfl) dX_benefitOf_50 ⟨Nat.le_of_ble_eq_true rfl, Nat.le_of_ble_eq_true rfl⟩) ?_
        refine zb_eq (tgt := 70) hx hb dX_benefitOf_53 (by decide) (fun c53 => ?_) (fun c53 => ?_)
        · have e1 : zq_sm (zq_bf (zq_es L V D F) (zq_ab L D) cw v) (i + 1) = zq_sm (zq_bf (zq_es L V D F) (zq_ab L D) cw v) i := by
            show zq_sm (zq_bf (zq_es L V D F) (zq_ab L D) cw v) i + zq_bf (zq_es L V D F) (zq_ab L D) cw v i = _
            rw [zq_bf_f (fun q => by have := q.2; rw [c53] at this; cases this)]
            rfl
          refine lv_iinc (v := nI (i + 1)) (lv' := [(7, .int (nI (i + 1))), (0, .ref (ad 0)), (1, .int (nI v)), (2, .long (lN (zq_es L V D F v))), (4, .int (nI (zq_pk L D v))), (5, .long (lN (zq_sm (zq_bf (zq_es L V D F) (zq_ab L D) cw v) i)))]) hx hb dX_benefitOf_70 hl (k := 5) rfl (nI_1 _) (by decide) rfl (fun ls hl => ?_)
          refine lv_goto (tgt := 20) hx hb dX_benefitOf_73 (by decide) ?_
          exact ih (i + 1) (by omega) ls (by rw [e1]; exact (lv_sub hl [1, 2, 3, 4, 5, 0] rfl))
        · refine lv_lload hx hb dX_benefitOf_56 (lv_at hl 4 rfl) ?_
          refine lv_aload_n hx hb dX_benefitOf_58 rfl (lv_at hl 0 rfl) ?_
          refine va_get (D := (dC, dI)) (ci := 0) (v := .ref (ad 4)) (C := RX) (T := TX) (N := 9) hx hb hz in_X hown hK hP 0 rfl rfl 3 (by decide) (hz _ kf_X_19) (fun _ h9 => h9) rfl dX_benefitOf_59 ?_
          refine lv_iload hx hb dX_benefitOf_62 (lv_at hl 5 rfl) ?_
          refine zt_lald hx hb hK hP 4 1 rfl rfl (i := i) (by omega) (by decide) (v := (lN (cw i))) (hci.1) dX_benefitOf_64 ?_
          refine lv_lload_n hx hb dX_benefitOf_65 rfl (lv_at hl 2 rfl) ?_
          refine lv_lsub hx hb dX_benefitOf_66 ?_
          refine zt_tl (lN_sub (by omega)) ?_
          refine lv_ladd hx hb dX_benefitOf_67 ?_
          refine zt_tl (lN_add _ _) ?_
          refine zt_tl (y := lN (zq_sm (zq_bf (zq_es L V D F) (zq_ab L D) cw v) (i + 1))) (by
            show _ = lN (zq_sm (zq_bf (zq_es L V D F) (zq_ab L D) cw v) i + zq_bf (zq_es L V D F) (zq_ab L D) cw v i)
            rw [zq_bf_t (by omega) c53]) ?_
          refine lv_lstore (lv' := [(5, .long (lN (zq_sm (zq_bf (zq_es L V D F) (zq_ab L D) cw v) (i + 1)))), (0, .ref (ad 0)), (1, .int (nI v)), (2, .long (lN (zq_es L V D F v))), (4, .int (nI (zq_pk L D v))), (7, .int (nI i))]) hx hb dX_benefitOf_68 hl (by decide) rfl (fun ls hl => ?_)
          refine lv_iinc (v := nI (i + 1)) (lv' := [(7, .int (nI (i + 1))), (5, .long (lN (zq_sm (zq_bf (zq_es L V D F) (zq_ab L D) cw v) (i + 1)))), (0, .ref (ad 0)), (1, .int (nI v)), (2, .long (lN (zq_es L V D F v))), (4, .int (nI (zq_pk L D v)))]) hx hb dX_benefitOf_70 hl (k := 5) rfl (nI_1 _) (by decide) rfl (fun ls hl => ?_)
          refine lv_goto (tgt := 20) hx hb dX_benefitOf_73 (by decide) ?_
          exact ih (i + 1) (by omega) ls (lv_sub hl [2, 3, 4, 5, 1, 0] rfl)
  have e0 := zq_from L (zq_es L V D F) cw hN hv
  exact loop (N - v) v (by omega) ls (by rw [e0]; exact (lv_sub hl [4, 5, 3, 2, 1, 0] rfl))
set_option maxHeartbeats 4000000 in
set_option maxRecDepth 100000 in
/-- the view of the greatest benefit -/
theorem tX_mostBeneficial (l : Launch) {dC : Nat → ClassId} {dI : Nat → Nat → Nat} {cI cJ cB : ClassId} {ad : Nat → Nat} {lev val pkd : Nat → Int32} {cst : Nat → Int64} {chs : Nat → Int32} {D N F k : Nat} {L V : Nat → Nat} {cw : Nat → Nat} (hc : ∀ w, w < N → cst w = lN (cw w) ∧ cw w ≤ F) (hR : zx_R D N F L V lev val pkd) : zt_Met l yX_mostBeneficial wX_mostBeneficial rX_mostBeneficial (va_Pc [.ref (ad 0)] (zg_B dC dI cI cJ cB (zx_w ad cI cJ lev val pkd cst chs D N F k))) (zt_Qr (some (.int (nI (zq_mx (zq_bn (zq_es L V D F) (zq_ab L D) cw N) N).2 - 1)))) 0 0 0 0 (fun _ => False) := by
  refine zt_ofW (cc := cX_mostBeneficial) (maxL := 7) (ret := (some .int)) (by decide) rfl ?_
  intro p e s m args below meth c s₁ B hml hout hv
  obtain ⟨rfl, hP, hK⟩ := hv
  have hx := B.exec
  have hb := B.bytes
  have hr := B.returns
  have hz : ∀ w ∈ zw0, w.before ([.ref (ad 0)] : List Value).toArray s = true := fun w h => atoms_spec (ws := wX_mostBeneficial) B.pre w (List.mem_cons_of_mem _ h)
  have hown : s.vm.findClass RX = some m.cls := findClass_of_methodNamed B.named
  have hlocks := B.notSynchronized
  have hl := lv_entry ([.ref (ad 0)]) (n := 7) (Nat.le_of_ble_eq_true rfl)
  rw [lg_entry_eq]
  generalize (lg_sl ([.ref (ad 0)]) ++ List.replicate (7 - (lg_sl ([.ref (ad 0)])).length) Slot.unset).toArray = ls at hl ⊢
  have hl : lv_has ls 7 [(0, .ref (ad 0))] := hl
  have hR9 := hR
  obtain ⟨hD, hL, hN, hN5, hF, hVb, hlev, hval, hpk⟩ := hR
  refine lv_iconst (v := -1) hx hb dX_mostBeneficial_0 (by decide) ?_
  refine lv_istore_n (lv' := [(1, .int (-1)), (0, .ref (ad 0))]) hx hb dX_mostBeneficial_1 rfl hl (by decide) rfl (fun ls hl => ?_)
  refine lv_lconst (v := lN 0) hx hb dX_mostBeneficial_2 (by decide) ?_
  refine lv_lstore_n (lv' := [(2, .long (lN 0)), (1, .int (-1)), (0, .ref (ad 0))]) hx hb dX_mostBeneficial_3 rfl hl (by decide) rfl (fun ls hl => ?_)
  refine lv_iconst (v := nI 0) hx hb dX_mostBeneficial_4 (by decide) ?_
  refine lv_istore (lv' := [(4, .int (nI 0)), (2, .long (lN 0)), (1, .int (-1)), (0, .ref (ad 0))]) hx hb dX_mostBeneficial_5 hl (by decide) rfl (fun ls hl => ?_)
  have hbn : ∀ v, zq_bn (zq_es L V D F) (zq_ab L D) cw N v < 2 ^ 63 := fun v => zq_bn_le hN5 hF (fun i hi => (hc i hi).2)
  have loop : ∀ (n i : Nat), i + n = N → ∀ ls : Array Slot, lv_has ls 7 [(0, .ref (ad 0)), (1, .int (nI (zq_mx (zq_bn (zq_es L V D F) (zq_ab L D) cw N) i).2 - 1)), (2, .long (lN ((zq_mx (zq_bn (zq_es L V D F) (zq_ab L D) cw N) i).1))), (4, .int (nI i))] → W p l e (headSpec wX_mostBeneficial rX_mostBeneficial).room s m ([.ref (ad 0)] : List Value).toArray below meth c s.heap [] 0 0 (zt_MQ below (zt_Qr (some (.int (nI (zq_mx (zq_bn (zq_es L V D F) (zq_ab L D) cw N) N).2 - 1)))) ([.ref (ad 0)] : List Value).toArray s 0 0 0 0 (fun _ => False)) (F0 m 7 ls []) := by
    intro n
    induction n with
    | zero =>
      intro i hi ls hl
      refine lv_iload hx hb dX_mostBeneficial_7 (lv_at hl 3 rfl) ?_
      refine lv_aload_n hx hb dX_mostBeneficial_9 rfl (lv_at hl 0 rfl) ?_
      refine va_get (D := (dC, dI)) (ci := 0) (v := .int (nI N)) (C := RX) (T := TX) (N := 9) hx hb hz in_X hown hK hP 0 rfl rfl 6 (by decide) (hz _ kf_X_30) (fun _ h9 => h9) rfl dX_mostBeneficial_10 ?_
      refine zj_ge (tgt := 43) hx hb dX_mostBeneficial_13 (by decide) (by omega) (by omega) (fun _ => ?_) (fun c13 => absurd c13 (by omega))
      refine lv_iload_n hx hb dX_mostBeneficial_43 rfl (lv_at hl 1 rfl) ?_
      have e1 : i = N := by omega
      subst e1
      exact zt_ri hx hb hr hlocks (fun t ht _ => ⟨rfl, ht⟩) (fun q h => by cases h) dX_mostBeneficial_44
    | succ n ih =>
      intro i hi ls hl
      refine lv_iload hx hb dX_mostBeneficial_7 (lv_at hl 3 rfl) ?_
      refine lv_aload_n hx hb dX_mostBeneficial_9 rfl (lv_at hl 0 rfl) ?_
      refine va_get (D := (dC, dI)) (ci := 0) (v := .int (nI N)) (C := RX) (T := TX) (N := 9) hx hb hz in_X hown hK hP 0 rfl rfl 6 (by decide) (hz _ kf_X_30) (fun _ h9 => h9) rfl dX_mostBeneficial_10 ?_
      refine zj_ge (tgt := 43) hx hb dX_mostBeneficial_13 (by decide) (by omega) (by omega) (fun c13 => absurd c13 (by omega)) (fun _ => ?_)
      refine lv_aload_n hx hb dX_mostBeneficial_16 rfl (lv_at hl 0 rfl) ?_
      refine lv_iload hx hb dX_mostBeneficial_17 (lv_at hl 3 rfl) ?_
      refine zt_callRl (zg_run (rest := []) hx hb hml hown (tX_benefitOf l hc hR9 (by omega)) (wcX_86 hz (Nat.le_of_ble_eq_true rfl) (Nat.le_of_ble_eq_true rfl)) (hz _ ki_X_benefitOf) (hz _ ks_X_benefitOf) (hz _ kC_X_benefitOf) hP hK rfl (q0 := 0) rfl rfl hl.1 rfl (Nat.le_of_ble_eq_true rfl) dX_mostBeneficial_19 ⟨Nat.le_of_ble_eq_true rfl, Nat.le_of_ble_eq_true rfl⟩) ?_
      have hm : (zq_mx (zq_bn (zq_es L V D F) (zq_ab L D) cw N) i).1 < 2 ^ 63 := Nat.lt_of_le_of_lt (zq_mx_bd (B := 2 ^ 63 - 1) i (fun j _ => by have := hbn j; omega)) (by decide)
      refine lv_lstore (lv' := [(5, .long (lN (zq_bn (zq_es L V D F) (zq_ab L D) cw N i))), (0, .ref (ad 0)), (1, .int (nI (zq_mx (zq_bn (zq_es L V D F) (zq_ab L D) cw N) i).2 - 1)), (2, .long (lN ((zq_mx (zq_bn (zq_es L V D F) (zq_ab L D) cw N) i).1))), (4, .int (nI i))]) hx hb dX_mostBeneficial_22 hl (by decide) rfl (fun ls hl => ?_)
      refine lv_lload hx hb dX_mostBeneficial_24 (lv_at hl 0 rfl) ?_
      refine lv_lload_n hx hb dX_mostBeneficial_26 rfl (lv_at hl 3 rfl) ?_
      refine zl_le (tgt := 37) hx hb dX_mostBeneficial_27 dX_mostBeneficial_28 (by decide) (hbn i) (hm) (fun c27 => ?_) (fun c27 => ?_)
      · have e1 : zq_mx (zq_bn (zq_es L V D F) (zq_ab L D) cw N) (i + 1) = zq_mx (zq_bn (zq_es L V D F) (zq_ab L D) cw N) i := zq_mx_f (by omega)
        refine lv_iinc (v := nI (i + 1)) (lv' := [(4, .int (nI (i + 1))), (5, .long (lN (zq_bn (zq_es L V D F) (zq_ab L D) cw N i))), (0, .ref (ad 0)), (1, .int (nI (zq_mx (zq_bn (zq_es L V D F) (zq_ab L D) cw N) i).2 - 1)), (2, .long (lN ((zq_mx (zq_bn (zq_es L V D F) (zq_ab L D) cw N) i).1)))]) hx hb dX_mostBeneficial_37 hl (k := 4) rfl (nI_1 _) (by decide) rfl (fun ls hl => ?_)
        refine lv_goto (tgt := 7) hx hb dX_mostBeneficial_40 (by decide) ?_
        exact ih (i + 1) (by omega) ls (by rw [e1]; exact (lv_sub hl [2, 3, 4, 0] rfl))
      · have e1 : zq_mx (zq_bn (zq_es L V D F) (zq_ab L D) cw N) (i + 1) = (zq_bn (zq_es L V D F) (zq_ab L D) cw N i, i + 1) := zq_mx_t (by omega)
        refine lv_lload hx hb dX_mostBeneficial_31 (lv_at hl 0 rfl) ?_
        refine lv_lstore_n (lv' := [(2, .long (lN (zq_bn (zq_es L V D F) (zq_ab L D) cw N i))), (5, .long (lN (zq_bn (zq_es L V D F) (zq_ab L D) cw N i))), (0, .ref (ad 0)), (1, .int (nI (zq_mx (zq_bn (zq_es L V D F) (zq_ab L D) cw N) i).2 - 1)), (4, .int (nI i))]) hx hb dX_mostBeneficial_33 rfl hl (by decide) rfl (fun ls hl => ?_)
        refine lv_iload hx hb dX_mostBeneficial_34 (lv_at hl 4 rfl) ?_
        refine zt_ti (y := nI (i + 1) - 1) (nI_pred i).symm ?_
        refine lv_istore_n (lv' := [(1, .int (nI (i + 1) - 1)), (2, .long (lN (zq_bn (zq_es L V D F) (zq_ab L D) cw N i))), (5, .long (lN (zq_bn (zq_es L V D F) (zq_ab L D) cw N i))), (0, .ref (ad 0)), (4, .int (nI i))]) hx hb dX_mostBeneficial_36 rfl hl (by decide) rfl (fun ls hl => ?_)
        refine lv_iinc (v := nI (i + 1)) (lv' := [(4, .int (nI (i + 1))), (1, .int (nI (i + 1) - 1)), (2, .long (lN (zq_bn (zq_es L V D F) (zq_ab L D) cw N i))), (5, .long (lN (zq_bn (zq_es L V D F) (zq_ab L D) cw N i))), (0, .ref (ad 0))]) hx hb dX_mostBeneficial_37 hl (k := 4) rfl (nI_1 _) (by decide) rfl (fun ls hl => ?_)
        refine lv_goto (tgt := 7) hx hb dX_mostBeneficial_40 (by decide) ?_
        exact ih (i + 1) (by omega) ls (by rw [e1]; exact (lv_sub hl [4, 1, 2, 0] rfl))
  exact loop N 0 (by omega) ls (lv_sub hl [3, 2, 1, 0] rfl)
set_option maxHeartbeats 4000000 in
set_option maxRecDepth 100000 in
/-- the sum of all costs -/
theorem tX_total (l : Launch) {dC : Nat → ClassId} {dI : Nat → Nat → Nat} {cI cJ cB : ClassId} {ad : Nat → Nat} {lev val pkd : Nat → Int32} {cst : Nat → Int64} {chs : Nat → Int32} {D N F k : Nat} {cw : Nat → Nat} (hc : ∀ w, w < N → cst w = lN (cw w) ∧ cw w ≤ F) (hN5 : N ≤ 512) : zt_Met l yX_total wX_total rX_total (va_Pc [.ref (ad 0)] (zg_B dC dI cI cJ cB (zx_w ad cI cJ lev val pkd cst chs D N F k))) (zt_Qr (some (.long (lN (zq_sm cw N))))) 0 0 0 0 (fun _ => False) := by
  refine zt_ofW (cc := cX_total) (maxL := 4) (ret := (some .long)) (by decide) rfl ?_
  intro p e s m args below meth c s₁ B hml hout hv
  obtain ⟨rfl, hP, hK⟩ := hv
  have hx := B.exec
  have hb := B.bytes
  have hr := B.returns
  have hz : ∀ w ∈ zw0, w.before ([.ref (ad 0)] : List Value).toArray s = true := fun w h => atoms_spec (ws := wX_total) B.pre w (List.mem_cons_of_mem _ h)
  have hown : s.vm.findClass RX = some m.cls := findClass_of_methodNamed B.named
  have hlocks := B.notSynchronized
  have hl := lv_entry ([.ref (ad 0)]) (n := 4) (Nat.le_of_ble_eq_true rfl)
  rw [lg_entry_eq]
  generalize (lg_sl ([.ref (ad 0)]) ++ List.replicate (4 - (lg_sl ([.ref (ad 0)])).length) Slot.unset).toArray = ls at hl ⊢
  have hl : lv_has ls 4 [(0, .ref (ad 0))] := hl
  refine lv_lconst (v := lN 0) hx hb dX_total_0 (by decide) ?_
  refine lv_lstore_n (lv' := [(1, .long (lN 0)), (0, .ref (ad 0))]) hx hb dX_total_1 rfl hl (by decide) rfl (fun ls hl => ?_)
  refine lv_iconst (v := nI 0) hx hb dX_total_2 (by decide) ?_
  refine lv_istore_n (lv' := [(3, .int (nI 0)), (1, .long (lN 0)), (0, .ref (ad 0))]) hx hb dX_total_3 rfl hl (by decide) rfl (fun ls hl => ?_)
  have loop : ∀ (n i : Nat), i + n = N → ∀ ls : Array Slot, lv_has ls 4 [(0, .ref (ad 0)), (1, .long (lN (zq_sm cw i))), (3, .int (nI i))] → W p l e (headSpec wX_total rX_total).room s m ([.ref (ad 0)] : List Value).toArray below meth c s.heap [] 0 0 (zt_MQ below (zt_Qr (some (.long (lN (zq_sm cw N))))) ([.ref (ad 0)] : List Value).toArray s 0 0 0 0 (fun _ => False)) (F0 m 4 ls []) := by
    intro n
    induction n with
    | zero =>
      intro i hi ls hl
      refine lv_iload_n hx hb dX_total_4 rfl (lv_at hl 2 rfl) ?_
      refine lv_aload_n hx hb dX_total_5 rfl (lv_at hl 0 rfl) ?_
      refine va_get (D := (dC, dI)) (ci := 0) (v := .int (nI N)) (C := RX) (T := TX) (N := 9) hx hb hz in_X hown hK hP 0 rfl rfl 6 (by decide) (hz _ kf_X_30) (fun _ h9 => h9) rfl dX_total_6 ?_
      refine zj_ge (tgt := 27) hx hb dX_total_9 (by decide) (by omega) (by omega) (fun _ => ?_) (fun c9 => absurd c9 (by omega))
      refine lv_lload_n hx hb dX_total_27 rfl (lv_at hl 1 rfl) ?_
      have e1 : i = N := by omega
      subst e1
      exact zt_rl hx hb hr hlocks (fun t ht _ => ⟨rfl, ht⟩) (fun q h => by cases h) dX_total_28
    | succ n ih =>
      intro i hi ls hl
      refine lv_iload_n hx hb dX_total_4 rfl (lv_at hl 2 rfl) ?_
      refine lv_aload_n hx hb dX_total_5 rfl (lv_at hl 0 rfl) ?_
      refine va_get (D := (dC, dI)) (ci := 0) (v := .int (nI N)) (C := RX) (T := TX) (N := 9) hx hb hz in_X hown hK hP 0 rfl rfl 6 (by decide) (hz _ kf_X_30) (fun _ h9 => h9) rfl dX_total_6 ?_
      refine zj_ge (tgt := 27) hx hb dX_total_9 (by decide) (by omega) (by omega) (fun c9 => absurd c9 (by omega)) (fun _ => ?_)
      refine lv_lload_n hx hb dX_total_12 rfl (lv_at hl 1 rfl) ?_
      refine lv_aload_n hx hb dX_total_13 rfl (lv_at hl 0 rfl) ?_
      refine va_get (D := (dC, dI)) (ci := 0) (v := .ref (ad 4)) (C := RX) (T := TX) (N := 9) hx hb hz in_X hown hK hP 0 rfl rfl 3 (by decide) (hz _ kf_X_19) (fun _ h9 => h9) rfl dX_total_14 ?_
      refine lv_iload_n hx hb dX_total_17 rfl (lv_at hl 2 rfl) ?_
      refine zt_lald hx hb hK hP 4 1 rfl rfl (i := i) (by omega) (by decide) (v := (lN (cw i))) ((hc i (by omega)).1) dX_total_18 ?_
      refine lv_ladd hx hb dX_total_19 ?_
      refine zt_tl (lN_add _ _) ?_
      refine lv_lstore_n (lv' := [(1, .long (lN ((zq_sm cw i) + (cw i)))), (0, .ref (ad 0)), (3, .int (nI i))]) hx hb dX_total_20 rfl hl (by decide) rfl (fun ls hl => ?_)
      refine lv_iinc (v := nI (i + 1)) (lv' := [(3, .int (nI (i + 1))), (1, .long (lN ((zq_sm cw i) + (cw i)))), (0, .ref (ad 0))]) hx hb dX_total_21 hl (k := 2) rfl (nI_1 _) (by decide) rfl (fun ls hl => ?_)
      refine lv_goto (tgt := 4) hx hb dX_total_24 (by decide) ?_
      exact ih (i + 1) (by omega) ls (lv_sub hl [2, 1, 0] rfl)
  exact loop N 0 (by omega) ls (lv_sub hl [2, 1, 0] rfl)
set_option maxHeartbeats 4000000 in
set_option maxRecDepth 100000 in
/-- how many views -/
theorem tX_views (l : Launch) {dC : Nat → ClassId} {dI : Nat → Nat → Nat} {cI cJ cB : ClassId} {ad : Nat → Nat} {lev val pkd : Nat → Int32} {cst : Nat → Int64} {chs : Nat → Int32} {D N F k : Nat} : zt_Met l yX_views wX_views rX_views (va_Pc [.ref (ad 0)] (zg_B dC dI cI cJ cB (zx_w ad cI cJ lev val pkd cst chs D N F k))) (zt_Qr (some (.int (nI N)))) 0 0 0 0 (fun _ => False) := by
  refine zt_ofW (cc := cX_views) (maxL := 1) (ret := (some .int)) (by decide) rfl ?_
  intro p e s m args below meth c s₁ B hml hout hv
  obtain ⟨rfl, hP, hK⟩ := hv
  have hx := B.exec
  have hb := B.bytes
  have hr := B.returns
  have hz : ∀ w ∈ zw0, w.before ([.ref (ad 0)] : List Value).toArray s = true := fun w h => atoms_spec (ws := wX_views) B.pre w (List.mem_cons_of_mem _ h)
  have hown : s.vm.findClass RX = some m.cls := findClass_of_methodNamed B.named
  have hlocks := B.notSynchronized
  have hl := lv_entry ([.ref (ad 0)]) (n := 1) (Nat.le_of_ble_eq_true rfl)
  rw [lg_entry_eq]
  generalize (lg_sl ([.ref (ad 0)]) ++ List.replicate (1 - (lg_sl ([.ref (ad 0)])).length) Slot.unset).toArray = ls at hl ⊢
  have hl : lv_has ls 1 [(0, .ref (ad 0))] := hl
  refine lv_aload_n hx hb dX_views_0 rfl (lv_at hl 0 rfl) ?_
  refine va_get (D := (dC, dI)) (ci := 0) (v := .int (nI N)) (C := RX) (T := TX) (N := 9) hx hb hz in_X hown hK hP 0 rfl rfl 6 (by decide) (hz _ kf_X_30) (fun _ h9 => h9) rfl dX_views_1 ?_
  exact zt_ri hx hb hr hlocks (fun t ht _ => ⟨rfl, ht⟩) (fun q h => by cases h) dX_views_4
