/-! the law's cases, one after the other: by program (wip/gen/law_cases.py) -/
/-- what doesn't change while the law runs -/
def zl_C (p : Program) (l : Launch) (s : State) (m : MethodId) (c : Code) (b n : Nat) (xs : Nat → Int32) (dC : Nat → ClassId) (dI : Nat → Nat → Nat) (cI cJ cB : ClassId) (aX aM : Nat → Nat) : Prop :=
  p.tables.exec = Jvm.exec ∧ c.code = cL_law ∧ c.maxLocals = 8 ∧ s.vm.findClass RL = some m.cls ∧ (∀ w ∈ zw0, w.before #[Value.ref b] s = true) ∧ va_K (dC, dI) zcl (zg_T cI cJ cB) s ∧ zt_TS s ∧ va_Nc zE_S zE_A s ∧ l.stackTraces = false ∧ zg_ap aX 7 ∧ zg_ap aM 7 ∧ (∀ i j, i < 7 → j < 7 → aX i ≠ aM j) ∧ (∀ i, i < 7 → s.heap.size ≤ aX i) ∧ (∀ i, i < 7 → s.heap.size ≤ aM i) ∧ va_X b n xs s s.heap ∧ b < s.heap.size ∧ n ≤ 2048
set_option maxHeartbeats 4000000 in
set_option maxRecDepth 100000 in
/-- case 0: dimension -/
theorem zl_c0 {p : Program} {l : Launch} {e : Env} {s : State} {m : MethodId} {below : List Frame} {meth : Method} {c : Code} {b n : Nat} {xs : Nat → Int32} {dC : Nat → ClassId} {dI : Nat → Nat → Nat} {cI cJ cB : ClassId} {aX aM : Nat → Nat} (C : zl_C p l s m c b n xs dC dI cI cJ cB aX aM) {cells slots i : Nat} (hc9 : cells + 1 ≤ 1050) (hs9 : slots + 6 ≤ 14541) (hi : i + 4 ≤ n) {H : Heap} (hS : va_S (zl_A s.heap.size) s.heap H []) {D N F k : Nat} {L V S : Nat → Nat} (hI : zl_I dC dI cI cJ cB aX aM H D N F k L V S) {ls : Array Slot} (hl : lv_has ls 8 [(0, .ref b), (1, .ref (aX 0)), (2, .ref (aM 0)), (3, .ref (aX 6)), (4, .int (nI i))]) {Q : State → Prop}
    (kk : ∀ (H : Heap) (D N F k : Nat) (L V S : Nat → Nat), va_S (zl_A s.heap.size) s.heap H [] → zl_I dC dI cI cJ cB aX aM H D N F k L V S → ∀ ls : Array Slot, lv_has ls 8 [(0, .ref b), (1, .ref (aX 0)), (2, .ref (aM 0)), (3, .ref (aX 6)), (4, .int (nI i))] → W p l e room_1 s m #[Value.ref b] below meth c H [] (cells + 1) (slots + 6) Q (F0 m 758 ls [])) : W p l e room_1 s m #[Value.ref b] below meth c H [] cells slots Q (F0 m 104 ls []) := by
  obtain ⟨hx, hb, hml, hown, hz, hK, hTS, hNc, hst, hadX, hadM, hdis, hgX, hgM, hXs, hbl, hn⟩ := C
  obtain ⟨lev, val, pkd, cst, chs, f, levm, valm, chsm, dig, est, cstm, code, hR, hJ, hRm, hs, hV0, hP, hPM⟩ := hI
  have hk := hs.1
  have hdis2 : ∀ i j, i < 7 → j < 7 → aM i ≠ aX j := fun i j hi hj e => hdis j i hj hi e.symm
  refine lv_aload_n hx hb dL_law_104 rfl (lv_at hl 1 rfl) ?_
  refine lv_aload_n hx hb dL_law_105 rfl (lv_at hl 0 rfl) ?_
  refine lv_iload hx hb dL_law_106 (lv_at hl 4 rfl) ?_
  refine lv_iconst (v := nI 1) hx hb dL_law_108 (by decide) ?_
  refine lv_iadd hx hb dL_law_109 ?_
  refine zt_ti (nI_add _ _) ?_
  refine zl_sld hx hb hXs hbl hS (i := i + 1) (by omega) (by omega) dL_law_110 ?_
  refine lv_aload_n hx hb dL_law_111 rfl (lv_at hl 3 rfl) ?_
  refine zl_callH (aX := aX) (aM := aM) (zl_runH (rest := []) hx hb hml hown (tL_dimension l hadX hst hR) (wcL_53 hz (Nat.le_of_ble_eq_true rfl) (Nat.le_of_ble_eq_true rfl)) (hz _ kst_L_dimension) (hz _ kC_L_dimension) hP hK hTS hNc hS rfl hl.1 rfl (Nat.le_of_ble_eq_true rfl) dL_law_112 ⟨by show cells + 1 ≤ 1050; omega, by show slots + 6 ≤ 14541; omega⟩) hdis hgX zl_atM hPM hS (fun hcd v H hv hP hPM hS => ?_) (fun hcd H hP hPM hS => ?_)
  · refine lv_istore (lv' := [(5, .int (nI 0)), (0, .ref b), (1, .ref (aX 0)), (2, .ref (aM 0)), (3, .ref (aX 6)), (4, .int (nI i))]) hx hb dL_law_115 hl (by decide) rfl (fun ls hl => ?_)
    refine lv_aload_n hx hb dL_law_117 rfl (lv_at hl 3 rfl) ?_
    refine lv_aload_n hx hb dL_law_118 rfl (lv_at hl 1 rfl) ?_
    refine lv_iload hx hb dL_law_119 (lv_at hl 5 rfl) ?_
    refine lv_iconst (v := nI 1) hx hb dL_law_121 (by decide) ?_
    refine lv_iadd hx hb dL_law_122 ?_
    refine zt_ti (nI_add _ _) ?_
    refine zl_sld hx hb hXs hbl hS (i := i + 1) (by omega) (by omega) dL_law_123 ?_
    refine zl_callM (aX := aM) (aM := aX) (zg_runC (rest := []) hx hb hml hown (tM_dimension l hadM hRm hV0) (wcL_58 hz (Nat.le_of_ble_eq_true rfl) (Nat.le_of_ble_eq_true rfl)) (hz _ ki_M_dimension) (hz _ ks_M_dimension) (hz _ kC_M_dimension) hPM hK rfl (q0 := 0) rfl rfl hl.1 rfl (Nat.le_of_ble_eq_true rfl) dL_law_124 ⟨by show cells + 1 + 0 ≤ 1050; omega, by show slots + 6 + 0 ≤ 14541; omega⟩) (fun _ h => h) hdis2 hgM zl_atX hP hS (fun ⟨u1, u2, u3, u4, u5, u6, u7⟩ H hu hPM hP _ hS => ?_)
    refine W.eq (g2 := F0 m 127 ls [.int u1]) rfl ?_
    rcases hu with ⟨-, e1, e2, e3, e4, e5⟩ | ⟨q, -⟩
    · dsimp only at e1 e2 e3 e4 e5
      cases e5
      subst e1
      subst e2
      refine W.eq (g2 := F0 m 127 ls [.int (nI D)]) rfl ?_
      refine lv_istore (lv' := [(6, .int (nI D)), (5, .int (nI 0)), (0, .ref b), (1, .ref (aX 0)), (2, .ref (aM 0)), (3, .ref (aX 6)), (4, .int (nI i))]) hx hb dL_law_127 hl (by decide) rfl (fun ls hl => ?_)
      refine lv_aload_n hx hb dL_law_129 rfl (lv_at hl 4 rfl) ?_
      refine zt_callRi (r := nI (zc_dim (zn (xs (i + 1))) D N)) (zg_run (rest := []) hx hb hml hown (tM_thrown l) (wcL_59 hz (Nat.le_of_ble_eq_true rfl) (Nat.le_of_ble_eq_true rfl)) (hz _ ki_M_thrown) (hz _ ks_M_thrown) (hz _ kC_M_thrown) hPM hK rfl (q0 := 0) rfl rfl hl.1 rfl (Nat.le_of_ble_eq_true rfl) dL_law_130 ⟨by show cells + 1 + 0 ≤ 1050; omega, by show slots + 6 + 0 ≤ 14541; omega⟩) ?_
      refine lv_iload hx hb dL_law_133 (lv_at hl 1 rfl) ?_
      refine lv_icmp_eq (tgt := 140) hx hb dL_law_135 (by decide) (fun _ => ?_) (fun c135 => absurd c135 (not_not_intro (by rw [hcd])))
      refine lv_iload hx hb dL_law_140 (lv_at hl 1 rfl) ?_
      refine lv_if_ne (tgt := 157) hx hb dL_law_142 (by decide) (fun c142 => absurd c142 (not_not_intro (by decide))) (fun _ => ?_)
      refine lv_aload_n hx hb dL_law_145 rfl (lv_at hl 5 rfl) ?_
      refine lv_iconst (v := nI 0) hx hb dL_law_146 (by decide) ?_
      refine zt_lald hx hb hK hP 6 1 rfl rfl (i := 0) (by decide) (by decide) (v := lN D) (if_pos rfl) dL_law_147 ?_
      refine lv_iload hx hb dL_law_148 (lv_at hl 0 rfl) ?_
      refine lv_i2l (v := lN D) hx hb dL_law_150 (nI_l (by have := hR.1; omega)) ?_
      refine zl_same (tgt := 157) hx hb rfl dL_law_151 dL_law_152 (by decide) ?_
      refine lv_goto (tgt := 758) hx hb dL_law_157 (by decide) ?_
      exact kk H (D + 1) (N * (zn (xs (i + 1)) + 1)) F 0 (zq_up L D (zn (xs (i + 1)))) V S hS ⟨_, _, _, _, _, _, _, _, _, _, _, _, _, zx_R_dim hR hcd hv.1, zx_J0 (zc_dim_0 hcd).2.2 hv.2, zm_R_dim hRm hcd e3 e4, zm_S0, fun j hj => hV0 j (by omega), hP, hPM⟩ ls (lv_sub hl [2, 3, 4, 5, 6] rfl)
    · exact absurd hcd q
  · refine lv_istore (lv' := [(5, .int (nI (zc_dim (zn (xs (i + 1))) D N))), (0, .ref b), (1, .ref (aX 0)), (2, .ref (aM 0)), (3, .ref (aX 6)), (4, .int (nI i))]) hx hb dL_law_115 hl (by decide) rfl (fun ls hl => ?_)
    refine lv_aload_n hx hb dL_law_117 rfl (lv_at hl 3 rfl) ?_
    refine lv_aload_n hx hb dL_law_118 rfl (lv_at hl 1 rfl) ?_
    refine lv_iload hx hb dL_law_119 (lv_at hl 5 rfl) ?_
    refine lv_iconst (v := nI 1) hx hb dL_law_121 (by decide) ?_
    refine lv_iadd hx hb dL_law_122 ?_
    refine zt_ti (nI_add _ _) ?_
    refine zl_sld hx hb hXs hbl hS (i := i + 1) (by omega) (by omega) dL_law_123 ?_
    refine zl_callM (aX := aM) (aM := aX) (zg_runC (rest := []) hx hb hml hown (tM_dimension l hadM hRm hV0) (wcL_58 hz (Nat.le_of_ble_eq_true rfl) (Nat.le_of_ble_eq_true rfl)) (hz _ ki_M_dimension) (hz _ ks_M_dimension) (hz _ kC_M_dimension) hPM hK rfl (q0 := 0) rfl rfl hl.1 rfl (Nat.le_of_ble_eq_true rfl) dL_law_124 ⟨by show cells + 1 + 0 ≤ 1050; omega, by show slots + 6 + 0 ≤ 14541; omega⟩) (fun _ h => h) hdis2 hgM zl_atX hP hS (fun ⟨u1, u2, u3, u4, u5, u6, u7⟩ H hu hPM hP _ hS => ?_)
    refine W.eq (g2 := F0 m 127 ls [.int u1]) rfl ?_
    rcases hu with ⟨q, -⟩ | ⟨-, e1⟩
    · exact absurd q hcd
    · dsimp only at e1
      cases e1
      refine lv_istore (lv' := [(6, .int u1), (5, .int (nI (zc_dim (zn (xs (i + 1))) D N))), (0, .ref b), (1, .ref (aX 0)), (2, .ref (aM 0)), (3, .ref (aX 6)), (4, .int (nI i))]) hx hb dL_law_127 hl (by decide) rfl (fun ls hl => ?_)
      refine lv_aload_n hx hb dL_law_129 rfl (lv_at hl 4 rfl) ?_
      refine zt_callRi (r := nI (zc_dim (zn (xs (i + 1))) D N)) (zg_run (rest := []) hx hb hml hown (tM_thrown l) (wcL_59 hz (Nat.le_of_ble_eq_true rfl) (Nat.le_of_ble_eq_true rfl)) (hz _ ki_M_thrown) (hz _ ks_M_thrown) (hz _ kC_M_thrown) hPM hK rfl (q0 := 0) rfl rfl hl.1 rfl (Nat.le_of_ble_eq_true rfl) dL_law_130 ⟨by show cells + 1 + 0 ≤ 1050; omega, by show slots + 6 + 0 ≤ 14541; omega⟩) ?_
      refine lv_iload hx hb dL_law_133 (lv_at hl 1 rfl) ?_
      refine lv_icmp_eq (tgt := 140) hx hb dL_law_135 (by decide) (fun _ => ?_) (fun c135 => absurd c135 (not_not_intro rfl))
      refine lv_iload hx hb dL_law_140 (lv_at hl 1 rfl) ?_
      refine lv_if_ne (tgt := 157) hx hb dL_law_142 (by decide) (fun _ => ?_) (fun c142 => absurd c142 (zc_ne hcd (zc_dim_le _ _ _)))
      refine lv_goto (tgt := 758) hx hb dL_law_157 (by decide) ?_
      exact kk H D N F k L V S hS ⟨_, _, _, _, _, _, _, _, _, _, _, _, _, hR, hJ, hRm, hs, hV0, hP, hPM⟩ ls (lv_sub hl [2, 3, 4, 5, 6] rfl)
set_option maxHeartbeats 4000000 in
set_option maxRecDepth 100000 in
/-- case 1: values -/
theorem zl_c1 {p : Program} {l : Launch} {e : Env} {s : State} {m : MethodId} {below : List Frame} {meth : Method} {c : Code} {b n : Nat} {xs : Nat → Int32} {dC : Nat → ClassId} {dI : Nat → Nat → Nat} {cI cJ cB : ClassId} {aX aM : Nat → Nat} (C : zl_C p l s m c b n xs dC dI cI cJ cB aX aM) {cells slots i : Nat} (hc9 : cells + 1 ≤ 1050) (hs9 : slots + 6 ≤ 14541) (hi : i + 4 ≤ n) {H : Heap} (hS : va_S (zl_A s.heap.size) s.heap H []) {D N F k : Nat} {L V S : Nat → Nat} (hI : zl_I dC dI cI cJ cB aX aM H D N F k L V S) {ls : Array Slot} (hl : lv_has ls 8 [(0, .ref b), (1, .ref (aX 0)), (2, .ref (aM 0)), (3, .ref (aX 6)), (4, .int (nI i))]) {Q : State → Prop}
    (kk : ∀ (H : Heap) (D N F k : Nat) (L V S : Nat → Nat), va_S (zl_A s.heap.size) s.heap H [] → zl_I dC dI cI cJ cB aX aM H D N F k L V S → ∀ ls : Array Slot, lv_has ls 8 [(0, .ref b), (1, .ref (aX 0)), (2, .ref (aM 0)), (3, .ref (aX 6)), (4, .int (nI i))] → W p l e room_1 s m #[Value.ref b] below meth c H [] (cells + 1) (slots + 6) Q (F0 m 758 ls [])) : W p l e room_1 s m #[Value.ref b] below meth c H [] cells slots Q (F0 m 160 ls []) := by
  obtain ⟨hx, hb, hml, hown, hz, hK, hTS, hNc, hst, hadX, hadM, hdis, hgX, hgM, hXs, hbl, hn⟩ := C
  obtain ⟨lev, val, pkd, cst, chs, f, levm, valm, chsm, dig, est, cstm, code, hR, hJ, hRm, hs, hV0, hP, hPM⟩ := hI
  have hk := hs.1
  have hdis2 : ∀ i j, i < 7 → j < 7 → aM i ≠ aX j := fun i j hi hj e => hdis j i hj hi e.symm
  refine lv_aload_n hx hb dL_law_160 rfl (lv_at hl 1 rfl) ?_
  refine lv_aload_n hx hb dL_law_161 rfl (lv_at hl 0 rfl) ?_
  refine lv_iload hx hb dL_law_162 (lv_at hl 4 rfl) ?_
  refine lv_iconst (v := nI 1) hx hb dL_law_164 (by decide) ?_
  refine lv_iadd hx hb dL_law_165 ?_
  refine zt_ti (nI_add _ _) ?_
  refine zl_sld hx hb hXs hbl hS (i := i + 1) (by omega) (by omega) dL_law_166 ?_
  refine lv_aload_n hx hb dL_law_167 rfl (lv_at hl 0 rfl) ?_
  refine lv_iload hx hb dL_law_168 (lv_at hl 4 rfl) ?_
  refine lv_iconst (v := nI 2) hx hb dL_law_170 (by decide) ?_
  refine lv_iadd hx hb dL_law_171 ?_
  refine zt_ti (nI_add _ _) ?_
  refine zl_sld hx hb hXs hbl hS (i := i + 2) (by omega) (by omega) dL_law_172 ?_
  refine lv_aload_n hx hb dL_law_173 rfl (lv_at hl 0 rfl) ?_
  refine lv_iload hx hb dL_law_174 (lv_at hl 4 rfl) ?_
  refine lv_iconst (v := nI 3) hx hb dL_law_176 (by decide) ?_
  refine lv_iadd hx hb dL_law_177 ?_
  refine zt_ti (nI_add _ _) ?_
  refine zl_sld hx hb hXs hbl hS (i := i + 3) (by omega) (by omega) dL_law_178 ?_
  refine lv_aload_n hx hb dL_law_179 rfl (lv_at hl 3 rfl) ?_
  refine zl_callH (aX := aX) (aM := aM) (zl_runH (rest := []) hx hb hml hown (tL_values l hadX hst hR) (wcL_62 hz (Nat.le_of_ble_eq_true rfl) (Nat.le_of_ble_eq_true rfl)) (hz _ kst_L_values) (hz _ kC_L_values) hP hK hTS hNc hS rfl hl.1 rfl (Nat.le_of_ble_eq_true rfl) dL_law_180 ⟨by show cells + 1 ≤ 1050; omega, by show slots + 6 ≤ 14541; omega⟩) hdis hgX zl_atM hPM hS (fun hcd v H hv hP hPM hS => ?_) (fun hcd H hP hPM hS => ?_)
  · refine lv_istore (lv' := [(5, .int (nI 0)), (0, .ref b), (1, .ref (aX 0)), (2, .ref (aM 0)), (3, .ref (aX 6)), (4, .int (nI i))]) hx hb dL_law_183 hl (by decide) rfl (fun ls hl => ?_)
    refine lv_aload_n hx hb dL_law_185 rfl (lv_at hl 3 rfl) ?_
    refine lv_aload_n hx hb dL_law_186 rfl (lv_at hl 1 rfl) ?_
    refine lv_iload hx hb dL_law_187 (lv_at hl 5 rfl) ?_
    refine lv_iconst (v := nI 1) hx hb dL_law_189 (by decide) ?_
    refine lv_iadd hx hb dL_law_190 ?_
    refine zt_ti (nI_add _ _) ?_
    refine zl_sld hx hb hXs hbl hS (i := i + 1) (by omega) (by omega) dL_law_191 ?_
    refine lv_aload_n hx hb dL_law_192 rfl (lv_at hl 1 rfl) ?_
    refine lv_iload hx hb dL_law_193 (lv_at hl 5 rfl) ?_
    refine lv_iconst (v := nI 2) hx hb dL_law_195 (by decide) ?_
    refine lv_iadd hx hb dL_law_196 ?_
    refine zt_ti (nI_add _ _) ?_
    refine zl_sld hx hb hXs hbl hS (i := i + 2) (by omega) (by omega) dL_law_197 ?_
    refine lv_aload_n hx hb dL_law_198 rfl (lv_at hl 1 rfl) ?_
    refine lv_iload hx hb dL_law_199 (lv_at hl 5 rfl) ?_
    refine lv_iconst (v := nI 3) hx hb dL_law_201 (by decide) ?_
    refine lv_iadd hx hb dL_law_202 ?_
    refine zt_ti (nI_add _ _) ?_
    refine zl_sld hx hb hXs hbl hS (i := i + 3) (by omega) (by omega) dL_law_203 ?_
    refine zl_callM (aX := aM) (aM := aX) (zg_runC (rest := []) hx hb hml hown (tM_values l hadM hRm) (wcL_65 hz (Nat.le_of_ble_eq_true rfl) (Nat.le_of_ble_eq_true rfl)) (hz _ ki_M_values) (hz _ ks_M_values) (hz _ kC_M_values) hPM hK rfl (q0 := 0) rfl rfl hl.1 rfl (Nat.le_of_ble_eq_true rfl) dL_law_204 ⟨by show cells + 1 + 0 ≤ 1050; omega, by show slots + 6 + 0 ≤ 14541; omega⟩) (fun _ h => h) hdis2 hgM zl_atX hP hS (fun ⟨u1, u2, u3⟩ H hu hPM hP _ hS => ?_)
    refine W.eq (g2 := F0 m 207 ls [.int u1]) rfl ?_
    rcases hu with ⟨-, e5⟩ | ⟨q, -⟩
    · cases e5
      refine W.eq (g2 := F0 m 207 ls [.int (nI (V (4 * zn (xs (i + 1)) + zn (xs (i + 2)))))]) rfl ?_
      refine lv_istore (lv' := [(6, .int (nI (V (4 * zn (xs (i + 1)) + zn (xs (i + 2)))))), (5, .int (nI 0)), (0, .ref b), (1, .ref (aX 0)), (2, .ref (aM 0)), (3, .ref (aX 6)), (4, .int (nI i))]) hx hb dL_law_207 hl (by decide) rfl (fun ls hl => ?_)
      refine lv_aload_n hx hb dL_law_209 rfl (lv_at hl 4 rfl) ?_
      refine zt_callRi (r := nI (zc_val (zn (xs (i + 1))) (zn (xs (i + 2))) (zn (xs (i + 3))) D L)) (zg_run (rest := []) hx hb hml hown (tM_thrown l) (wcL_59 hz (Nat.le_of_ble_eq_true rfl) (Nat.le_of_ble_eq_true rfl)) (hz _ ki_M_thrown) (hz _ ks_M_thrown) (hz _ kC_M_thrown) hPM hK rfl (q0 := 0) rfl rfl hl.1 rfl (Nat.le_of_ble_eq_true rfl) dL_law_210 ⟨by show cells + 1 + 0 ≤ 1050; omega, by show slots + 6 + 0 ≤ 14541; omega⟩) ?_
      refine lv_iload hx hb dL_law_213 (lv_at hl 1 rfl) ?_
      refine lv_icmp_eq (tgt := 220) hx hb dL_law_215 (by decide) (fun _ => ?_) (fun c215 => absurd c215 (not_not_intro (by rw [hcd])))
      refine lv_iload hx hb dL_law_220 (lv_at hl 1 rfl) ?_
      refine lv_if_ne (tgt := 237) hx hb dL_law_222 (by decide) (fun c222 => absurd c222 (not_not_intro (by decide))) (fun _ => ?_)
      refine lv_aload_n hx hb dL_law_225 rfl (lv_at hl 5 rfl) ?_
      refine lv_iconst (v := nI 0) hx hb dL_law_226 (by decide) ?_
      refine zt_lald hx hb hK hP 6 1 rfl rfl (i := 0) (by decide) (by decide) (v := lN (V (4 * zn (xs (i + 1)) + zn (xs (i + 2))))) (if_pos rfl) dL_law_227 ?_
      refine lv_iload hx hb dL_law_228 (lv_at hl 0 rfl) ?_
      refine lv_i2l (v := lN (V (4 * zn (xs (i + 1)) + zn (xs (i + 2))))) hx hb dL_law_230 (nI_l (by have := hR.2.2.2.2.2.1 (4 * zn (xs (i + 1)) + zn (xs (i + 2))); omega)) ?_
      refine zl_same (tgt := 237) hx hb rfl dL_law_231 dL_law_232 (by decide) ?_
      refine lv_goto (tgt := 758) hx hb dL_law_237 (by decide) ?_
      exact kk H D N F 0 L (zq_up V (4 * zn (xs (i + 1)) + zn (xs (i + 2))) (zn (xs (i + 3)))) S hS ⟨_, _, _, _, _, _, _, _, _, _, _, _, _, zx_R_val hR (zc_val_0 hcd).2.2, zx_J0 hR.2.2.2.1 hv, zm_R_val hRm (zc_val_0 hcd).2.2, zm_S0, fun j hj => by obtain ⟨g1, g2, -⟩ := zc_val_0 hcd; have g3 := (hR.2.1 _ g1).2; rw [zq_up_n V (by omega)]; exact hV0 j hj, hP, hPM⟩ ls (lv_sub hl [2, 3, 4, 5, 6] rfl)
    · exact absurd hcd q
  · refine lv_istore (lv' := [(5, .int (nI (zc_val (zn (xs (i + 1))) (zn (xs (i + 2))) (zn (xs (i + 3))) D L))), (0, .ref b), (1, .ref (aX 0)), (2, .ref (aM 0)), (3, .ref (aX 6)), (4, .int (nI i))]) hx hb dL_law_183 hl (by decide) rfl (fun ls hl => ?_)
    refine lv_aload_n hx hb dL_law_185 rfl (lv_at hl 3 rfl) ?_
    refine lv_aload_n hx hb dL_law_186 rfl (lv_at hl 1 rfl) ?_
    refine lv_iload hx hb dL_law_187 (lv_at hl 5 rfl) ?_
    refine lv_iconst (v := nI 1) hx hb dL_law_189 (by decide) ?_
    refine lv_iadd hx hb dL_law_190 ?_
    refine zt_ti (nI_add _ _) ?_
    refine zl_sld hx hb hXs hbl hS (i := i + 1) (by omega) (by omega) dL_law_191 ?_
    refine lv_aload_n hx hb dL_law_192 rfl (lv_at hl 1 rfl) ?_
    refine lv_iload hx hb dL_law_193 (lv_at hl 5 rfl) ?_
    refine lv_iconst (v := nI 2) hx hb dL_law_195 (by decide) ?_
    refine lv_iadd hx hb dL_law_196 ?_
    refine zt_ti (nI_add _ _) ?_
    refine zl_sld hx hb hXs hbl hS (i := i + 2) (by omega) (by omega) dL_law_197 ?_
    refine lv_aload_n hx hb dL_law_198 rfl (lv_at hl 1 rfl) ?_
    refine lv_iload hx hb dL_law_199 (lv_at hl 5 rfl) ?_
    refine lv_iconst (v := nI 3) hx hb dL_law_201 (by decide) ?_
    refine lv_iadd hx hb dL_law_202 ?_
    refine zt_ti (nI_add _ _) ?_
    refine zl_sld hx hb hXs hbl hS (i := i + 3) (by omega) (by omega) dL_law_203 ?_
    refine zl_callM (aX := aM) (aM := aX) (zg_runC (rest := []) hx hb hml hown (tM_values l hadM hRm) (wcL_65 hz (Nat.le_of_ble_eq_true rfl) (Nat.le_of_ble_eq_true rfl)) (hz _ ki_M_values) (hz _ ks_M_values) (hz _ kC_M_values) hPM hK rfl (q0 := 0) rfl rfl hl.1 rfl (Nat.le_of_ble_eq_true rfl) dL_law_204 ⟨by show cells + 1 + 0 ≤ 1050; omega, by show slots + 6 + 0 ≤ 14541; omega⟩) (fun _ h => h) hdis2 hgM zl_atX hP hS (fun ⟨u1, u2, u3⟩ H hu hPM hP _ hS => ?_)
    refine W.eq (g2 := F0 m 207 ls [.int u1]) rfl ?_
    rcases hu with ⟨q, -⟩ | ⟨-, e1⟩
    · exact absurd q hcd
    · dsimp only at e1
      cases e1
      refine lv_istore (lv' := [(6, .int u1), (5, .int (nI (zc_val (zn (xs (i + 1))) (zn (xs (i + 2))) (zn (xs (i + 3))) D L))), (0, .ref b), (1, .ref (aX 0)), (2, .ref (aM 0)), (3, .ref (aX 6)), (4, .int (nI i))]) hx hb dL_law_207 hl (by decide) rfl (fun ls hl => ?_)
      refine lv_aload_n hx hb dL_law_209 rfl (lv_at hl 4 rfl) ?_
      refine zt_callRi (r := nI (zc_val (zn (xs (i + 1))) (zn (xs (i + 2))) (zn (xs (i + 3))) D L)) (zg_run (rest := []) hx hb hml hown (tM_thrown l) (wcL_59 hz (Nat.le_of_ble_eq_true rfl) (Nat.le_of_ble_eq_true rfl)) (hz _ ki_M_thrown) (hz _ ks_M_thrown) (hz _ kC_M_thrown) hPM hK rfl (q0 := 0) rfl rfl hl.1 rfl (Nat.le_of_ble_eq_true rfl) dL_law_210 ⟨by show cells + 1 + 0 ≤ 1050; omega, by show slots + 6 + 0 ≤ 14541; omega⟩) ?_
      refine lv_iload hx hb dL_law_213 (lv_at hl 1 rfl) ?_
      refine lv_icmp_eq (tgt := 220) hx hb dL_law_215 (by decide) (fun _ => ?_) (fun c215 => absurd c215 (not_not_intro rfl))
      refine lv_iload hx hb dL_law_220 (lv_at hl 1 rfl) ?_
      refine lv_if_ne (tgt := 237) hx hb dL_law_222 (by decide) (fun _ => ?_) (fun c222 => absurd c222 (zc_ne hcd (zc_val_le _ _ _ _ _)))
      refine lv_goto (tgt := 758) hx hb dL_law_237 (by decide) ?_
      exact kk H D N F k L V S hS ⟨_, _, _, _, _, _, _, _, _, _, _, _, _, hR, hJ, hRm, hs, hV0, hP, hPM⟩ ls (lv_sub hl [2, 3, 4, 5, 6] rfl)
set_option maxHeartbeats 4000000 in
set_option maxRecDepth 100000 in
/-- case 2: facts -/
theorem zl_c2 {p : Program} {l : Launch} {e : Env} {s : State} {m : MethodId} {below : List Frame} {meth : Method} {c : Code} {b n : Nat} {xs : Nat → Int32} {dC : Nat → ClassId} {dI : Nat → Nat → Nat} {cI cJ cB : ClassId} {aX aM : Nat → Nat} (C : zl_C p l s m c b n xs dC dI cI cJ cB aX aM) {cells slots i : Nat} (hc9 : cells + 1 ≤ 1050) (hs9 : slots + 6 ≤ 14541) (hi : i + 4 ≤ n) {H : Heap} (hS : va_S (zl_A s.heap.size) s.heap H []) {D N F k : Nat} {L V S : Nat → Nat} (hI : zl_I dC dI cI cJ cB aX aM H D N F k L V S) {ls : Array Slot} (hl : lv_has ls 8 [(0, .ref b), (1, .ref (aX 0)), (2, .ref (aM 0)), (3, .ref (aX 6)), (4, .int (nI i))]) {Q : State → Prop}
    (kk : ∀ (H : Heap) (D N F k : Nat) (L V S : Nat → Nat), va_S (zl_A s.heap.size) s.heap H [] → zl_I dC dI cI cJ cB aX aM H D N F k L V S → ∀ ls : Array Slot, lv_has ls 8 [(0, .ref b), (1, .ref (aX 0)), (2, .ref (aM 0)), (3, .ref (aX 6)), (4, .int (nI i))] → W p l e room_1 s m #[Value.ref b] below meth c H [] (cells + 1) (slots + 6) Q (F0 m 758 ls [])) : W p l e room_1 s m #[Value.ref b] below meth c H [] cells slots Q (F0 m 240 ls []) := by
  obtain ⟨hx, hb, hml, hown, hz, hK, hTS, hNc, hst, hadX, hadM, hdis, hgX, hgM, hXs, hbl, hn⟩ := C
  obtain ⟨lev, val, pkd, cst, chs, f, levm, valm, chsm, dig, est, cstm, code, hR, hJ, hRm, hs, hV0, hP, hPM⟩ := hI
  have hk := hs.1
  have hdis2 : ∀ i j, i < 7 → j < 7 → aM i ≠ aX j := fun i j hi hj e => hdis j i hj hi e.symm
  refine lv_aload_n hx hb dL_law_240 rfl (lv_at hl 1 rfl) ?_
  refine lv_aload_n hx hb dL_law_241 rfl (lv_at hl 0 rfl) ?_
  refine lv_iload hx hb dL_law_242 (lv_at hl 4 rfl) ?_
  refine lv_iconst (v := nI 1) hx hb dL_law_244 (by decide) ?_
  refine lv_iadd hx hb dL_law_245 ?_
  refine zt_ti (nI_add _ _) ?_
  refine zl_sld hx hb hXs hbl hS (i := i + 1) (by omega) (by omega) dL_law_246 ?_
  refine lv_aload_n hx hb dL_law_247 rfl (lv_at hl 3 rfl) ?_
  refine zl_callH (aX := aX) (aM := aM) (zl_runH (rest := []) hx hb hml hown (tL_facts l hadX hst hR.2.2.2.2.1) (wcL_66 hz (Nat.le_of_ble_eq_true rfl) (Nat.le_of_ble_eq_true rfl)) (hz _ kst_L_facts) (hz _ kC_L_facts) hP hK hTS hNc hS rfl hl.1 rfl (Nat.le_of_ble_eq_true rfl) dL_law_248 ⟨by show cells + 1 ≤ 1050; omega, by show slots + 6 ≤ 14541; omega⟩) hdis hgX zl_atM hPM hS (fun hcd v H hv hP hPM hS => ?_) (fun hcd H hP hPM hS => ?_)
  · refine lv_istore (lv' := [(5, .int (nI 0)), (0, .ref b), (1, .ref (aX 0)), (2, .ref (aM 0)), (3, .ref (aX 6)), (4, .int (nI i))]) hx hb dL_law_251 hl (by decide) rfl (fun ls hl => ?_)
    refine lv_aload_n hx hb dL_law_253 rfl (lv_at hl 3 rfl) ?_
    refine lv_aload_n hx hb dL_law_254 rfl (lv_at hl 1 rfl) ?_
    refine lv_iload hx hb dL_law_255 (lv_at hl 5 rfl) ?_
    refine lv_iconst (v := nI 1) hx hb dL_law_257 (by decide) ?_
    refine lv_iadd hx hb dL_law_258 ?_
    refine zt_ti (nI_add _ _) ?_
    refine zl_sld hx hb hXs hbl hS (i := i + 1) (by omega) (by omega) dL_law_259 ?_
    refine zl_callM (aX := aM) (aM := aX) (zg_runC (rest := []) hx hb hml hown (tM_facts l hadM) (wcL_68 hz (Nat.le_of_ble_eq_true rfl) (Nat.le_of_ble_eq_true rfl)) (hz _ ki_M_facts) (hz _ ks_M_facts) (hz _ kC_M_facts) hPM hK rfl (q0 := 0) rfl rfl hl.1 rfl (Nat.le_of_ble_eq_true rfl) dL_law_260 ⟨by show cells + 1 + 0 ≤ 1050; omega, by show slots + 6 + 0 ≤ 14541; omega⟩) (fun _ h => h) hdis2 hgM zl_atX hP hS (fun ⟨u1, u2, u3⟩ H hu hPM hP _ hS => ?_)
    refine W.eq (g2 := F0 m 263 ls [.int u1]) rfl ?_
    rcases hu with ⟨-, e5⟩ | ⟨q, -⟩
    · cases e5
      refine W.eq (g2 := F0 m 263 ls [.int (nI F)]) rfl ?_
      refine lv_istore (lv' := [(6, .int (nI F)), (5, .int (nI 0)), (0, .ref b), (1, .ref (aX 0)), (2, .ref (aM 0)), (3, .ref (aX 6)), (4, .int (nI i))]) hx hb dL_law_263 hl (by decide) rfl (fun ls hl => ?_)
      refine lv_aload_n hx hb dL_law_265 rfl (lv_at hl 4 rfl) ?_
      refine zt_callRi (r := nI (zc_fac (zn (xs (i + 1))))) (zg_run (rest := []) hx hb hml hown (tM_thrown l) (wcL_59 hz (Nat.le_of_ble_eq_true rfl) (Nat.le_of_ble_eq_true rfl)) (hz _ ki_M_thrown) (hz _ ks_M_thrown) (hz _ kC_M_thrown) hPM hK rfl (q0 := 0) rfl rfl hl.1 rfl (Nat.le_of_ble_eq_true rfl) dL_law_266 ⟨by show cells + 1 + 0 ≤ 1050; omega, by show slots + 6 + 0 ≤ 14541; omega⟩) ?_
      refine lv_iload hx hb dL_law_269 (lv_at hl 1 rfl) ?_
      refine lv_icmp_eq (tgt := 276) hx hb dL_law_271 (by decide) (fun _ => ?_) (fun c271 => absurd c271 (not_not_intro (by rw [hcd])))
      refine lv_iload hx hb dL_law_276 (lv_at hl 1 rfl) ?_
      refine lv_if_ne (tgt := 293) hx hb dL_law_278 (by decide) (fun c278 => absurd c278 (not_not_intro (by decide))) (fun _ => ?_)
      refine lv_aload_n hx hb dL_law_281 rfl (lv_at hl 5 rfl) ?_
      refine lv_iconst (v := nI 0) hx hb dL_law_282 (by decide) ?_
      refine zt_lald hx hb hK hP 6 1 rfl rfl (i := 0) (by decide) (by decide) (v := lN F) (if_pos rfl) dL_law_283 ?_
      refine lv_iload hx hb dL_law_284 (lv_at hl 0 rfl) ?_
      refine lv_i2l (v := lN F) hx hb dL_law_286 (nI_l hR.2.2.2.2.1) ?_
      refine zl_same (tgt := 293) hx hb rfl dL_law_287 dL_law_288 (by decide) ?_
      refine lv_goto (tgt := 758) hx hb dL_law_293 (by decide) ?_
      exact kk H D N (zn (xs (i + 1))) 0 L V S hS ⟨_, _, _, _, _, _, _, _, _, _, _, _, _, zx_R_fac hR (zc_fac_0 hcd), zx_J0 hR.2.2.2.1 hv, zm_R_fac hRm (zc_fac_0 hcd), zm_S0, hV0, hP, hPM⟩ ls (lv_sub hl [2, 3, 4, 5, 6] rfl)
    · exact absurd hcd q
  · refine lv_istore (lv' := [(5, .int (nI (zc_fac (zn (xs (i + 1)))))), (0, .ref b), (1, .ref (aX 0)), (2, .ref (aM 0)), (3, .ref (aX 6)), (4, .int (nI i))]) hx hb dL_law_251 hl (by decide) rfl (fun ls hl => ?_)
    refine lv_aload_n hx hb dL_law_253 rfl (lv_at hl 3 rfl) ?_
    refine lv_aload_n hx hb dL_law_254 rfl (lv_at hl 1 rfl) ?_
    refine lv_iload hx hb dL_law_255 (lv_at hl 5 rfl) ?_
    refine lv_iconst (v := nI 1) hx hb dL_law_257 (by decide) ?_
    refine lv_iadd hx hb dL_law_258 ?_
    refine zt_ti (nI_add _ _) ?_
    refine zl_sld hx hb hXs hbl hS (i := i + 1) (by omega) (by omega) dL_law_259 ?_
    refine zl_callM (aX := aM) (aM := aX) (zg_runC (rest := []) hx hb hml hown (tM_facts l hadM) (wcL_68 hz (Nat.le_of_ble_eq_true rfl) (Nat.le_of_ble_eq_true rfl)) (hz _ ki_M_facts) (hz _ ks_M_facts) (hz _ kC_M_facts) hPM hK rfl (q0 := 0) rfl rfl hl.1 rfl (Nat.le_of_ble_eq_true rfl) dL_law_260 ⟨by show cells + 1 + 0 ≤ 1050; omega, by show slots + 6 + 0 ≤ 14541; omega⟩) (fun _ h => h) hdis2 hgM zl_atX hP hS (fun ⟨u1, u2, u3⟩ H hu hPM hP _ hS => ?_)
    refine W.eq (g2 := F0 m 263 ls [.int u1]) rfl ?_
    rcases hu with ⟨q, -⟩ | ⟨-, e1⟩
    · exact absurd q hcd
    · dsimp only at e1
      cases e1
      refine lv_istore (lv' := [(6, .int u1), (5, .int (nI (zc_fac (zn (xs (i + 1)))))), (0, .ref b), (1, .ref (aX 0)), (2, .ref (aM 0)), (3, .ref (aX 6)), (4, .int (nI i))]) hx hb dL_law_263 hl (by decide) rfl (fun ls hl => ?_)
      refine lv_aload_n hx hb dL_law_265 rfl (lv_at hl 4 rfl) ?_
      refine zt_callRi (r := nI (zc_fac (zn (xs (i + 1))))) (zg_run (rest := []) hx hb hml hown (tM_thrown l) (wcL_59 hz (Nat.le_of_ble_eq_true rfl) (Nat.le_of_ble_eq_true rfl)) (hz _ ki_M_thrown) (hz _ ks_M_thrown) (hz _ kC_M_thrown) hPM hK rfl (q0 := 0) rfl rfl hl.1 rfl (Nat.le_of_ble_eq_true rfl) dL_law_266 ⟨by show cells + 1 + 0 ≤ 1050; omega, by show slots + 6 + 0 ≤ 14541; omega⟩) ?_
      refine lv_iload hx hb dL_law_269 (lv_at hl 1 rfl) ?_
      refine lv_icmp_eq (tgt := 276) hx hb dL_law_271 (by decide) (fun _ => ?_) (fun c271 => absurd c271 (not_not_intro rfl))
      refine lv_iload hx hb dL_law_276 (lv_at hl 1 rfl) ?_
      refine lv_if_ne (tgt := 293) hx hb dL_law_278 (by decide) (fun _ => ?_) (fun c278 => absurd c278 (zc_ne hcd (zc_fac_le _)))
      refine lv_goto (tgt := 758) hx hb dL_law_293 (by decide) ?_
      exact kk H D N F k L V S hS ⟨_, _, _, _, _, _, _, _, _, _, _, _, _, hR, hJ, hRm, hs, hV0, hP, hPM⟩ ls (lv_sub hl [2, 3, 4, 5, 6] rfl)
set_option maxHeartbeats 4000000 in
set_option maxRecDepth 100000 in
/-- case 4: digit -/
theorem zl_c4 {p : Program} {l : Launch} {e : Env} {s : State} {m : MethodId} {below : List Frame} {meth : Method} {c : Code} {b n : Nat} {xs : Nat → Int32} {dC : Nat → ClassId} {dI : Nat → Nat → Nat} {cI cJ cB : ClassId} {aX aM : Nat → Nat} (C : zl_C p l s m c b n xs dC dI cI cJ cB aX aM) {cells slots i : Nat} (hc9 : cells + 1 ≤ 1050) (hs9 : slots + 6 ≤ 14541) (hi : i + 4 ≤ n) {H : Heap} (hS : va_S (zl_A s.heap.size) s.heap H []) {D N F k : Nat} {L V S : Nat → Nat} (hI : zl_I dC dI cI cJ cB aX aM H D N F k L V S) {ls : Array Slot} (hl : lv_has ls 8 [(0, .ref b), (1, .ref (aX 0)), (2, .ref (aM 0)), (3, .ref (aX 6)), (4, .int (nI i))]) {Q : State → Prop}
    (kk : ∀ (H : Heap) (D N F k : Nat) (L V S : Nat → Nat), va_S (zl_A s.heap.size) s.heap H [] → zl_I dC dI cI cJ cB aX aM H D N F k L V S → ∀ ls : Array Slot, lv_has ls 8 [(0, .ref b), (1, .ref (aX 0)), (2, .ref (aM 0)), (3, .ref (aX 6)), (4, .int (nI i))] → W p l e room_1 s m #[Value.ref b] below meth c H [] (cells + 1) (slots + 6) Q (F0 m 758 ls [])) : W p l e room_1 s m #[Value.ref b] below meth c H [] cells slots Q (F0 m 309 ls []) := by
  obtain ⟨hx, hb, hml, hown, hz, hK, hTS, hNc, hst, hadX, hadM, hdis, hgX, hgM, hXs, hbl, hn⟩ := C
  obtain ⟨lev, val, pkd, cst, chs, f, levm, valm, chsm, dig, est, cstm, code, hR, hJ, hRm, hs, hV0, hP, hPM⟩ := hI
  have hk := hs.1
  have hdis2 : ∀ i j, i < 7 → j < 7 → aM i ≠ aX j := fun i j hi hj e => hdis j i hj hi e.symm
  refine lv_aload_n hx hb dL_law_309 rfl (lv_at hl 1 rfl) ?_
  refine lv_aload_n hx hb dL_law_310 rfl (lv_at hl 0 rfl) ?_
  refine lv_iload hx hb dL_law_311 (lv_at hl 4 rfl) ?_
  refine lv_iconst (v := nI 1) hx hb dL_law_313 (by decide) ?_
  refine lv_iadd hx hb dL_law_314 ?_
  refine zt_ti (nI_add _ _) ?_
  refine zl_sld hx hb hXs hbl hS (i := i + 1) (by omega) (by omega) dL_law_315 ?_
  refine lv_aload_n hx hb dL_law_316 rfl (lv_at hl 0 rfl) ?_
  refine lv_iload hx hb dL_law_317 (lv_at hl 4 rfl) ?_
  refine lv_iconst (v := nI 2) hx hb dL_law_319 (by decide) ?_
  refine lv_iadd hx hb dL_law_320 ?_
  refine zt_ti (nI_add _ _) ?_
  refine zl_sld hx hb hXs hbl hS (i := i + 2) (by omega) (by omega) dL_law_321 ?_
  refine lv_aload_n hx hb dL_law_322 rfl (lv_at hl 3 rfl) ?_
  refine zl_callH (aX := aX) (aM := aM) (zl_runH (rest := []) hx hb hml hown (tL_digit l hadX hst hR) (wcL_73 hz (Nat.le_of_ble_eq_true rfl) (Nat.le_of_ble_eq_true rfl)) (hz _ kst_L_digit) (hz _ kC_L_digit) hP hK hTS hNc hS rfl hl.1 rfl (Nat.le_of_ble_eq_true rfl) dL_law_323 ⟨by show cells + 1 ≤ 1050; omega, by show slots + 6 ≤ 14541; omega⟩) hdis hgX zl_atM hPM hS (fun hcd v H hv hP hPM hS => ?_) (fun hcd H hP hPM hS => ?_)
  · refine lv_istore (lv' := [(5, .int (nI 0)), (0, .ref b), (1, .ref (aX 0)), (2, .ref (aM 0)), (3, .ref (aX 6)), (4, .int (nI i))]) hx hb dL_law_326 hl (by decide) rfl (fun ls hl => ?_)
    refine lv_aload_n hx hb dL_law_328 rfl (lv_at hl 3 rfl) ?_
    refine lv_aload_n hx hb dL_law_329 rfl (lv_at hl 1 rfl) ?_
    refine lv_iload hx hb dL_law_330 (lv_at hl 5 rfl) ?_
    refine lv_iconst (v := nI 1) hx hb dL_law_332 (by decide) ?_
    refine lv_iadd hx hb dL_law_333 ?_
    refine zt_ti (nI_add _ _) ?_
    refine zl_sld hx hb hXs hbl hS (i := i + 1) (by omega) (by omega) dL_law_334 ?_
    refine lv_aload_n hx hb dL_law_335 rfl (lv_at hl 1 rfl) ?_
    refine lv_iload hx hb dL_law_336 (lv_at hl 5 rfl) ?_
    refine lv_iconst (v := nI 2) hx hb dL_law_338 (by decide) ?_
    refine lv_iadd hx hb dL_law_339 ?_
    refine zt_ti (nI_add _ _) ?_
    refine zl_sld hx hb hXs hbl hS (i := i + 2) (by omega) (by omega) dL_law_340 ?_
    refine zl_callM (aX := aM) (aM := aX) (zg_runC (rest := []) hx hb hml hown (tM_digit l hadM hRm) (wcL_76 hz (Nat.le_of_ble_eq_true rfl) (Nat.le_of_ble_eq_true rfl)) (hz _ ki_M_digit) (hz _ ks_M_digit) (hz _ kC_M_digit) hPM hK rfl (q0 := 0) rfl rfl hl.1 rfl (Nat.le_of_ble_eq_true rfl) dL_law_341 ⟨by show cells + 1 + 0 ≤ 1050; omega, by show slots + 6 + 0 ≤ 14541; omega⟩) (fun _ h => h) hdis2 hgM zl_atX hP hS (fun u1 H hu hPM hP _ hS => ?_)
    refine W.eq (g2 := F0 m 344 ls [.int u1]) rfl ?_
    have e1 := hu (zc_b_0 hcd)
    subst e1
    refine W.eq (g2 := F0 m 344 ls [.int (nI (zq_dg L D (xs (i + 1)).toNatClampNeg (xs (i + 2)).toNatClampNeg))]) rfl ?_
    refine lv_istore (lv' := [(6, .int (nI (zq_dg L D (xs (i + 1)).toNatClampNeg (xs (i + 2)).toNatClampNeg))), (5, .int (nI 0)), (0, .ref b), (1, .ref (aX 0)), (2, .ref (aM 0)), (3, .ref (aX 6)), (4, .int (nI i))]) hx hb dL_law_344 hl (by decide) rfl (fun ls hl => ?_)
    refine lv_aload_n hx hb dL_law_346 rfl (lv_at hl 4 rfl) ?_
    refine zt_callRi (r := nI (zc_b (zb_in (xs (i + 1)) N && zb_in (xs (i + 2)) D))) (zg_run (rest := []) hx hb hml hown (tM_thrown l) (wcL_59 hz (Nat.le_of_ble_eq_true rfl) (Nat.le_of_ble_eq_true rfl)) (hz _ ki_M_thrown) (hz _ ks_M_thrown) (hz _ kC_M_thrown) hPM hK rfl (q0 := 0) rfl rfl hl.1 rfl (Nat.le_of_ble_eq_true rfl) dL_law_347 ⟨by show cells + 1 + 0 ≤ 1050; omega, by show slots + 6 + 0 ≤ 14541; omega⟩) ?_
    refine lv_iload hx hb dL_law_350 (lv_at hl 1 rfl) ?_
    refine lv_icmp_eq (tgt := 357) hx hb dL_law_352 (by decide) (fun _ => ?_) (fun c352 => absurd c352 (not_not_intro (by rw [hcd])))
    refine lv_iload hx hb dL_law_357 (lv_at hl 1 rfl) ?_
    refine lv_if_ne (tgt := 374) hx hb dL_law_359 (by decide) (fun c359 => absurd c359 (not_not_intro (by decide))) (fun _ => ?_)
    refine lv_aload_n hx hb dL_law_362 rfl (lv_at hl 5 rfl) ?_
    refine lv_iconst (v := nI 0) hx hb dL_law_363 (by decide) ?_
    refine zt_lald hx hb hK hP 6 1 rfl rfl (i := 0) (by decide) (by decide) (v := (nI (zq_dg L D (xs (i + 1)).toNatClampNeg (xs (i + 2)).toNatClampNeg)).toInt64) (if_pos rfl) dL_law_364 ?_
    refine lv_iload hx hb dL_law_365 (lv_at hl 0 rfl) ?_
    refine lv_i2l (v := (nI (zq_dg L D (xs (i + 1)).toNatClampNeg (xs (i + 2)).toNatClampNeg)).toInt64) hx hb dL_law_367 (rfl) ?_
    refine zl_same (tgt := 374) hx hb rfl dL_law_368 dL_law_369 (by decide) ?_
    refine lv_goto (tgt := 758) hx hb dL_law_374 (by decide) ?_
    exact kk H D N F k L V S hS ⟨_, _, _, _, _, _, _, _, _, _, _, _, _, hR, hJ, hRm, hs, hV0, hP, hPM⟩ ls (lv_sub hl [2, 3, 4, 5, 6] rfl)
  · refine lv_istore (lv' := [(5, .int (nI (zc_b (zb_in (xs (i + 1)) N && zb_in (xs (i + 2)) D)))), (0, .ref b), (1, .ref (aX 0)), (2, .ref (aM 0)), (3, .ref (aX 6)), (4, .int (nI i))]) hx hb dL_law_326 hl (by decide) rfl (fun ls hl => ?_)
    refine lv_aload_n hx hb dL_law_328 rfl (lv_at hl 3 rfl) ?_
    refine lv_aload_n hx hb dL_law_329 rfl (lv_at hl 1 rfl) ?_
    refine lv_iload hx hb dL_law_330 (lv_at hl 5 rfl) ?_
    refine lv_iconst (v := nI 1) hx hb dL_law_332 (by decide) ?_
    refine lv_iadd hx hb dL_law_333 ?_
    refine zt_ti (nI_add _ _) ?_
    refine zl_sld hx hb hXs hbl hS (i := i + 1) (by omega) (by omega) dL_law_334 ?_
    refine lv_aload_n hx hb dL_law_335 rfl (lv_at hl 1 rfl) ?_
    refine lv_iload hx hb dL_law_336 (lv_at hl 5 rfl) ?_
    refine lv_iconst (v := nI 2) hx hb dL_law_338 (by decide) ?_
    refine lv_iadd hx hb dL_law_339 ?_
    refine zt_ti (nI_add _ _) ?_
    refine zl_sld hx hb hXs hbl hS (i := i + 2) (by omega) (by omega) dL_law_340 ?_
    refine zl_callM (aX := aM) (aM := aX) (zg_runC (rest := []) hx hb hml hown (tM_digit l hadM hRm) (wcL_76 hz (Nat.le_of_ble_eq_true rfl) (Nat.le_of_ble_eq_true rfl)) (hz _ ki_M_digit) (hz _ ks_M_digit) (hz _ kC_M_digit) hPM hK rfl (q0 := 0) rfl rfl hl.1 rfl (Nat.le_of_ble_eq_true rfl) dL_law_341 ⟨by show cells + 1 + 0 ≤ 1050; omega, by show slots + 6 + 0 ≤ 14541; omega⟩) (fun _ h => h) hdis2 hgM zl_atX hP hS (fun u1 H hu hPM hP _ hS => ?_)
    refine W.eq (g2 := F0 m 344 ls [.int u1]) rfl ?_
    refine lv_istore (lv' := [(6, .int u1), (5, .int (nI (zc_b (zb_in (xs (i + 1)) N && zb_in (xs (i + 2)) D)))), (0, .ref b), (1, .ref (aX 0)), (2, .ref (aM 0)), (3, .ref (aX 6)), (4, .int (nI i))]) hx hb dL_law_344 hl (by decide) rfl (fun ls hl => ?_)
    refine lv_aload_n hx hb dL_law_346 rfl (lv_at hl 4 rfl) ?_
    refine zt_callRi (r := nI (zc_b (zb_in (xs (i + 1)) N && zb_in (xs (i + 2)) D))) (zg_run (rest := []) hx hb hml hown (tM_thrown l) (wcL_59 hz (Nat.le_of_ble_eq_true rfl) (Nat.le_of_ble_eq_true rfl)) (hz _ ki_M_thrown) (hz _ ks_M_thrown) (hz _ kC_M_thrown) hPM hK rfl (q0 := 0) rfl rfl hl.1 rfl (Nat.le_of_ble_eq_true rfl) dL_law_347 ⟨by show cells + 1 + 0 ≤ 1050; omega, by show slots + 6 + 0 ≤ 14541; omega⟩) ?_
    refine lv_iload hx hb dL_law_350 (lv_at hl 1 rfl) ?_
    refine lv_icmp_eq (tgt := 357) hx hb dL_law_352 (by decide) (fun _ => ?_) (fun c352 => absurd c352 (not_not_intro rfl))
    refine lv_iload hx hb dL_law_357 (lv_at hl 1 rfl) ?_
    refine lv_if_ne (tgt := 374) hx hb dL_law_359 (by decide) (fun _ => ?_) (fun c359 => absurd c359 (zc_ne hcd (zc_b_le _)))
    refine lv_goto (tgt := 758) hx hb dL_law_374 (by decide) ?_
    exact kk H D N F k L V S hS ⟨_, _, _, _, _, _, _, _, _, _, _, _, _, hR, hJ, hRm, hs, hV0, hP, hPM⟩ ls (lv_sub hl [2, 3, 4, 5, 6] rfl)
set_option maxHeartbeats 4000000 in
set_option maxRecDepth 100000 in
/-- case 5: isAbove -/
theorem zl_c5 {p : Program} {l : Launch} {e : Env} {s : State} {m : MethodId} {below : List Frame} {meth : Method} {c : Code} {b n : Nat} {xs : Nat → Int32} {dC : Nat → ClassId} {dI : Nat → Nat → Nat} {cI cJ cB : ClassId} {aX aM : Nat → Nat} (C : zl_C p l s m c b n xs dC dI cI cJ cB aX aM) {cells slots i : Nat} (hc9 : cells + 1 ≤ 1050) (hs9 : slots + 6 ≤ 14541) (hi : i + 4 ≤ n) {H : Heap} (hS : va_S (zl_A s.heap.size) s.heap H []) {D N F k : Nat} {L V S : Nat → Nat} (hI : zl_I dC dI cI cJ cB aX aM H D N F k L V S) {ls : Array Slot} (hl : lv_has ls 8 [(0, .ref b), (1, .ref (aX 0)), (2, .ref (aM 0)), (3, .ref (aX 6)), (4, .int (nI i))]) {Q : State → Prop}
    (kk : ∀ (H : Heap) (D N F k : Nat) (L V S : Nat → Nat), va_S (zl_A s.heap.size) s.heap H [] → zl_I dC dI cI cJ cB aX aM H D N F k L V S → ∀ ls : Array Slot, lv_has ls 8 [(0, .ref b), (1, .ref (aX 0)), (2, .ref (aM 0)), (3, .ref (aX 6)), (4, .int (nI i))] → W p l e room_1 s m #[Value.ref b] below meth c H [] (cells + 1) (slots + 6) Q (F0 m 758 ls [])) : W p l e room_1 s m #[Value.ref b] below meth c H [] cells slots Q (F0 m 377 ls []) := by
  obtain ⟨hx, hb, hml, hown, hz, hK, hTS, hNc, hst, hadX, hadM, hdis, hgX, hgM, hXs, hbl, hn⟩ := C
  obtain ⟨lev, val, pkd, cst, chs, f, levm, valm, chsm, dig, est, cstm, code, hR, hJ, hRm, hs, hV0, hP, hPM⟩ := hI
  have hk := hs.1
  have hdis2 : ∀ i j, i < 7 → j < 7 → aM i ≠ aX j := fun i j hi hj e => hdis j i hj hi e.symm
  refine lv_aload_n hx hb dL_law_377 rfl (lv_at hl 1 rfl) ?_
  refine lv_aload_n hx hb dL_law_378 rfl (lv_at hl 0 rfl) ?_
  refine lv_iload hx hb dL_law_379 (lv_at hl 4 rfl) ?_
  refine lv_iconst (v := nI 1) hx hb dL_law_381 (by decide) ?_
  refine lv_iadd hx hb dL_law_382 ?_
  refine zt_ti (nI_add _ _) ?_
  refine zl_sld hx hb hXs hbl hS (i := i + 1) (by omega) (by omega) dL_law_383 ?_
  refine lv_aload_n hx hb dL_law_384 rfl (lv_at hl 0 rfl) ?_
  refine lv_iload hx hb dL_law_385 (lv_at hl 4 rfl) ?_
  refine lv_iconst (v := nI 2) hx hb dL_law_387 (by decide) ?_
  refine lv_iadd hx hb dL_law_388 ?_
  refine zt_ti (nI_add _ _) ?_
  refine zl_sld hx hb hXs hbl hS (i := i + 2) (by omega) (by omega) dL_law_389 ?_
  refine lv_aload_n hx hb dL_law_390 rfl (lv_at hl 3 rfl) ?_
  refine zl_callH (aX := aX) (aM := aM) (zl_runH (rest := []) hx hb hml hown (tL_isAbove l hadX hst hR) (wcL_77 hz (Nat.le_of_ble_eq_true rfl) (Nat.le_of_ble_eq_true rfl)) (hz _ kst_L_isAbove) (hz _ kC_L_isAbove) hP hK hTS hNc hS rfl hl.1 rfl (Nat.le_of_ble_eq_true rfl) dL_law_391 ⟨by show cells + 1 ≤ 1050; omega, by show slots + 6 ≤ 14541; omega⟩) hdis hgX zl_atM hPM hS (fun hcd v H hv hP hPM hS => ?_) (fun hcd H hP hPM hS => ?_)
  · refine lv_istore (lv' := [(5, .int (nI 0)), (0, .ref b), (1, .ref (aX 0)), (2, .ref (aM 0)), (3, .ref (aX 6)), (4, .int (nI i))]) hx hb dL_law_394 hl (by decide) rfl (fun ls hl => ?_)
    refine lv_aload_n hx hb dL_law_396 rfl (lv_at hl 3 rfl) ?_
    refine lv_aload_n hx hb dL_law_397 rfl (lv_at hl 1 rfl) ?_
    refine lv_iload hx hb dL_law_398 (lv_at hl 5 rfl) ?_
    refine lv_iconst (v := nI 1) hx hb dL_law_400 (by decide) ?_
    refine lv_iadd hx hb dL_law_401 ?_
    refine zt_ti (nI_add _ _) ?_
    refine zl_sld hx hb hXs hbl hS (i := i + 1) (by omega) (by omega) dL_law_402 ?_
    refine lv_aload_n hx hb dL_law_403 rfl (lv_at hl 1 rfl) ?_
    refine lv_iload hx hb dL_law_404 (lv_at hl 5 rfl) ?_
    refine lv_iconst (v := nI 2) hx hb dL_law_406 (by decide) ?_
    refine lv_iadd hx hb dL_law_407 ?_
    refine zt_ti (nI_add _ _) ?_
    refine zl_sld hx hb hXs hbl hS (i := i + 2) (by omega) (by omega) dL_law_408 ?_
    refine zl_callM (aX := aM) (aM := aX) (zg_runC (rest := []) hx hb hml hown (tM_isAbove l hadM hRm) (wcL_79 hz (Nat.le_of_ble_eq_true rfl) (Nat.le_of_ble_eq_true rfl)) (hz _ ki_M_isAbove) (hz _ ks_M_isAbove) (hz _ kC_M_isAbove) hPM hK rfl (q0 := 0) rfl rfl hl.1 rfl (Nat.le_of_ble_eq_true rfl) dL_law_409 ⟨by show cells + 1 + 0 ≤ 1050; omega, by show slots + 6 + 0 ≤ 14541; omega⟩) (fun _ h => h) hdis2 hgM zl_atX hP hS (fun u1 H hu hPM hP _ hS => ?_)
    refine W.eq (g2 := F0 m 412 ls [.int u1]) rfl ?_
    have e1 := hu.1 (zc_b_0 hcd)
    subst e1
    refine W.eq (g2 := F0 m 412 ls [.int (if zq_ab L D (xs (i + 1)).toNatClampNeg (xs (i + 2)).toNatClampNeg = true then 1 else 0)]) rfl ?_
    refine lv_istore (lv' := [(6, .int (if zq_ab L D (xs (i + 1)).toNatClampNeg (xs (i + 2)).toNatClampNeg = true then 1 else 0)), (5, .int (nI 0)), (0, .ref b), (1, .ref (aX 0)), (2, .ref (aM 0)), (3, .ref (aX 6)), (4, .int (nI i))]) hx hb dL_law_412 hl (by decide) rfl (fun ls hl => ?_)
    refine lv_aload_n hx hb dL_law_414 rfl (lv_at hl 4 rfl) ?_
    refine zt_callRi (r := nI (zc_b (zb_in (xs (i + 1)) N && zb_in (xs (i + 2)) N))) (zg_run (rest := []) hx hb hml hown (tM_thrown l) (wcL_59 hz (Nat.le_of_ble_eq_true rfl) (Nat.le_of_ble_eq_true rfl)) (hz _ ki_M_thrown) (hz _ ks_M_thrown) (hz _ kC_M_thrown) hPM hK rfl (q0 := 0) rfl rfl hl.1 rfl (Nat.le_of_ble_eq_true rfl) dL_law_415 ⟨by show cells + 1 + 0 ≤ 1050; omega, by show slots + 6 + 0 ≤ 14541; omega⟩) ?_
    refine lv_iload hx hb dL_law_418 (lv_at hl 1 rfl) ?_
    refine lv_icmp_eq (tgt := 425) hx hb dL_law_420 (by decide) (fun _ => ?_) (fun c420 => absurd c420 (not_not_intro (by rw [hcd])))
    refine lv_iload hx hb dL_law_425 (lv_at hl 1 rfl) ?_
    refine lv_if_ne (tgt := 449) hx hb dL_law_427 (by decide) (fun c427 => absurd c427 (not_not_intro (by decide))) (fun _ => ?_)
    refine lv_aload_n hx hb dL_law_430 rfl (lv_at hl 5 rfl) ?_
    refine lv_iconst (v := nI 0) hx hb dL_law_431 (by decide) ?_
    refine zt_lald hx hb hK hP 6 1 rfl rfl (i := 0) (by decide) (by decide) (v := if zq_ab L D (xs (i + 1)).toNatClampNeg (xs (i + 2)).toNatClampNeg = true then 1 else 0) (if_pos rfl) dL_law_432 ?_
    refine lv_iload hx hb dL_law_433 (lv_at hl 0 rfl) ?_
    generalize hab : zq_ab L D (xs (i + 1)).toNatClampNeg (xs (i + 2)).toNatClampNeg = bb at hl ⊢
    refine zb_eq (tgt := 442) hx hb dL_law_435 (by decide) (fun c435 => ?_) (fun c435 => ?_)
    · subst c435
      refine W.eq (g2 := F0 m 442 ls [.long (lN 0)]) rfl ?_
      refine lv_lconst (v := lN 0) hx hb dL_law_442 (by decide) ?_
      refine zl_same (tgt := 449) hx hb rfl dL_law_443 dL_law_444 (by decide) ?_
      refine lv_goto (tgt := 758) hx hb dL_law_449 (by decide) ?_
      exact kk H D N F k L V S hS ⟨_, _, _, _, _, _, _, _, _, _, _, _, _, hR, hJ, hRm, hs, hV0, hP, hPM⟩ ls (lv_sub hl [2, 3, 4, 5, 6] rfl)
    · subst c435
      refine W.eq (g2 := F0 m 438 ls [.long (lN 1)]) rfl ?_
      refine lv_lconst (v := lN 1) hx hb dL_law_438 (by decide) ?_
      refine lv_goto (tgt := 443) hx hb dL_law_439 (by decide) ?_
      refine zl_same (tgt := 449) hx hb rfl dL_law_443 dL_law_444 (by decide) ?_
      refine lv_goto (tgt := 758) hx hb dL_law_449 (by decide) ?_
      exact kk H D N F k L V S hS ⟨_, _, _, _, _, _, _, _, _, _, _, _, _, hR, hJ, hRm, hs, hV0, hP, hPM⟩ ls (lv_sub hl [2, 3, 4, 5, 6] rfl)
  · refine lv_istore (lv' := [(5, .int (nI (zc_b (zb_in (xs (i + 1)) N && zb_in (xs (i + 2)) N)))), (0, .ref b), (1, .ref (aX 0)), (2, .ref (aM 0)), (3, .ref (aX 6)), (4, .int (nI i))]) hx hb dL_law_394 hl (by decide) rfl (fun ls hl => ?_)
    refine lv_aload_n hx hb dL_law_396 rfl (lv_at hl 3 rfl) ?_
    refine lv_aload_n hx hb dL_law_397 rfl (lv_at hl 1 rfl) ?_
    refine lv_iload hx hb dL_law_398 (lv_at hl 5 rfl) ?_
    refine lv_iconst (v := nI 1) hx hb dL_law_400 (by decide) ?_
    refine lv_iadd hx hb dL_law_401 ?_
    refine zt_ti (nI_add _ _) ?_
    refine zl_sld hx hb hXs hbl hS (i := i + 1) (by omega) (by omega) dL_law_402 ?_
    refine lv_aload_n hx hb dL_law_403 rfl (lv_at hl 1 rfl) ?_
    refine lv_iload hx hb dL_law_404 (lv_at hl 5 rfl) ?_
    refine lv_iconst (v := nI 2) hx hb dL_law_406 (by decide) ?_
    refine lv_iadd hx hb dL_law_407 ?_
    refine zt_ti (nI_add _ _) ?_
    refine zl_sld hx hb hXs hbl hS (i := i + 2) (by omega) (by omega) dL_law_408 ?_
    refine zl_callM (aX := aM) (aM := aX) (zg_runC (rest := []) hx hb hml hown (tM_isAbove l hadM hRm) (wcL_79 hz (Nat.le_of_ble_eq_true rfl) (Nat.le_of_ble_eq_true rfl)) (hz _ ki_M_isAbove) (hz _ ks_M_isAbove) (hz _ kC_M_isAbove) hPM hK rfl (q0 := 0) rfl rfl hl.1 rfl (Nat.le_of_ble_eq_true rfl) dL_law_409 ⟨by show cells + 1 + 0 ≤ 1050; omega, by show slots + 6 + 0 ≤ 14541; omega⟩) (fun _ h => h) hdis2 hgM zl_atX hP hS (fun u1 H hu hPM hP _ hS => ?_)
    refine W.eq (g2 := F0 m 412 ls [.int u1]) rfl ?_
    refine lv_istore (lv' := [(6, .int u1), (5, .int (nI (zc_b (zb_in (xs (i + 1)) N && zb_in (xs (i + 2)) N)))), (0, .ref b), (1, .ref (aX 0)), (2, .ref (aM 0)), (3, .ref (aX 6)), (4, .int (nI i))]) hx hb dL_law_412 hl (by decide) rfl (fun ls hl => ?_)
    refine lv_aload_n hx hb dL_law_414 rfl (lv_at hl 4 rfl) ?_
    refine zt_callRi (r := nI (zc_b (zb_in (xs (i + 1)) N && zb_in (xs (i + 2)) N))) (zg_run (rest := []) hx hb hml hown (tM_thrown l) (wcL_59 hz (Nat.le_of_ble_eq_true rfl) (Nat.le_of_ble_eq_true rfl)) (hz _ ki_M_thrown) (hz _ ks_M_thrown) (hz _ kC_M_thrown) hPM hK rfl (q0 := 0) rfl rfl hl.1 rfl (Nat.le_of_ble_eq_true rfl) dL_law_415 ⟨by show cells + 1 + 0 ≤ 1050; omega, by show slots + 6 + 0 ≤ 14541; omega⟩) ?_
    refine lv_iload hx hb dL_law_418 (lv_at hl 1 rfl) ?_
    refine lv_icmp_eq (tgt := 425) hx hb dL_law_420 (by decide) (fun _ => ?_) (fun c420 => absurd c420 (not_not_intro rfl))
    refine lv_iload hx hb dL_law_425 (lv_at hl 1 rfl) ?_
    refine lv_if_ne (tgt := 449) hx hb dL_law_427 (by decide) (fun _ => ?_) (fun c427 => absurd c427 (zc_ne hcd (zc_b_le _)))
    refine lv_goto (tgt := 758) hx hb dL_law_449 (by decide) ?_
    exact kk H D N F k L V S hS ⟨_, _, _, _, _, _, _, _, _, _, _, _, _, hR, hJ, hRm, hs, hV0, hP, hPM⟩ ls (lv_sub hl [2, 3, 4, 5, 6] rfl)
set_option maxHeartbeats 4000000 in
set_option maxRecDepth 100000 in
/-- case 6: told -/
theorem zl_c6 {p : Program} {l : Launch} {e : Env} {s : State} {m : MethodId} {below : List Frame} {meth : Method} {c : Code} {b n : Nat} {xs : Nat → Int32} {dC : Nat → ClassId} {dI : Nat → Nat → Nat} {cI cJ cB : ClassId} {aX aM : Nat → Nat} (C : zl_C p l s m c b n xs dC dI cI cJ cB aX aM) {cells slots i : Nat} (hc9 : cells + 1 ≤ 1050) (hs9 : slots + 6 ≤ 14541) (hi : i + 4 ≤ n) {H : Heap} (hS : va_S (zl_A s.heap.size) s.heap H []) {D N F k : Nat} {L V S : Nat → Nat} (hI : zl_I dC dI cI cJ cB aX aM H D N F k L V S) {ls : Array Slot} (hl : lv_has ls 8 [(0, .ref b), (1, .ref (aX 0)), (2, .ref (aM 0)), (3, .ref (aX 6)), (4, .int (nI i))]) {Q : State → Prop}
    (kk : ∀ (H : Heap) (D N F k : Nat) (L V S : Nat → Nat), va_S (zl_A s.heap.size) s.heap H [] → zl_I dC dI cI cJ cB aX aM H D N F k L V S → ∀ ls : Array Slot, lv_has ls 8 [(0, .ref b), (1, .ref (aX 0)), (2, .ref (aM 0)), (3, .ref (aX 6)), (4, .int (nI i))] → W p l e room_1 s m #[Value.ref b] below meth c H [] (cells + 1) (slots + 6) Q (F0 m 758 ls [])) : W p l e room_1 s m #[Value.ref b] below meth c H [] cells slots Q (F0 m 452 ls []) := by
  obtain ⟨hx, hb, hml, hown, hz, hK, hTS, hNc, hst, hadX, hadM, hdis, hgX, hgM, hXs, hbl, hn⟩ := C
  obtain ⟨lev, val, pkd, cst, chs, f, levm, valm, chsm, dig, est, cstm, code, hR, hJ, hRm, hs, hV0, hP, hPM⟩ := hI
  have hk := hs.1
  have hdis2 : ∀ i j, i < 7 → j < 7 → aM i ≠ aX j := fun i j hi hj e => hdis j i hj hi e.symm
  refine lv_aload_n hx hb dL_law_452 rfl (lv_at hl 1 rfl) ?_
  refine lv_aload_n hx hb dL_law_453 rfl (lv_at hl 0 rfl) ?_
  refine lv_iload hx hb dL_law_454 (lv_at hl 4 rfl) ?_
  refine lv_iconst (v := nI 1) hx hb dL_law_456 (by decide) ?_
  refine lv_iadd hx hb dL_law_457 ?_
  refine zt_ti (nI_add _ _) ?_
  refine zl_sld hx hb hXs hbl hS (i := i + 1) (by omega) (by omega) dL_law_458 ?_
  refine lv_aload_n hx hb dL_law_459 rfl (lv_at hl 0 rfl) ?_
  refine lv_iload hx hb dL_law_460 (lv_at hl 4 rfl) ?_
  refine lv_iconst (v := nI 2) hx hb dL_law_462 (by decide) ?_
  refine lv_iadd hx hb dL_law_463 ?_
  refine zt_ti (nI_add _ _) ?_
  refine zl_sld hx hb hXs hbl hS (i := i + 2) (by omega) (by omega) dL_law_464 ?_
  refine lv_aload_n hx hb dL_law_465 rfl (lv_at hl 3 rfl) ?_
  refine zl_callH (aX := aX) (aM := aM) (zl_runH (rest := []) hx hb hml hown (tL_told l hadX (zx_J_c hJ) hst hR) (wcL_80 hz (Nat.le_of_ble_eq_true rfl) (Nat.le_of_ble_eq_true rfl)) (hz _ kst_L_told) (hz _ kC_L_told) hP hK hTS hNc hS rfl hl.1 rfl (Nat.le_of_ble_eq_true rfl) dL_law_466 ⟨by show cells + 1 ≤ 1050; omega, by show slots + 6 ≤ 14541; omega⟩) hdis hgX zl_atM hPM hS (fun hcd v H hv hP hPM hS => ?_) (fun hcd H hP hPM hS => ?_)
  · refine lv_istore (lv' := [(5, .int (nI 0)), (0, .ref b), (1, .ref (aX 0)), (2, .ref (aM 0)), (3, .ref (aX 6)), (4, .int (nI i))]) hx hb dL_law_469 hl (by decide) rfl (fun ls hl => ?_)
    refine lv_aload_n hx hb dL_law_471 rfl (lv_at hl 3 rfl) ?_
    refine lv_aload_n hx hb dL_law_472 rfl (lv_at hl 1 rfl) ?_
    refine lv_iload hx hb dL_law_473 (lv_at hl 5 rfl) ?_
    refine lv_iconst (v := nI 1) hx hb dL_law_475 (by decide) ?_
    refine lv_iadd hx hb dL_law_476 ?_
    refine zt_ti (nI_add _ _) ?_
    refine zl_sld hx hb hXs hbl hS (i := i + 1) (by omega) (by omega) dL_law_477 ?_
    refine lv_aload_n hx hb dL_law_478 rfl (lv_at hl 1 rfl) ?_
    refine lv_iload hx hb dL_law_479 (lv_at hl 5 rfl) ?_
    refine lv_iconst (v := nI 2) hx hb dL_law_481 (by decide) ?_
    refine lv_iadd hx hb dL_law_482 ?_
    refine zt_ti (nI_add _ _) ?_
    refine zl_sld hx hb hXs hbl hS (i := i + 2) (by omega) (by omega) dL_law_483 ?_
    refine zl_callM (aX := aM) (aM := aX) (zg_runC (rest := []) hx hb hml hown (tM_told l hadM hRm hs) (wcL_82 hz (Nat.le_of_ble_eq_true rfl) (Nat.le_of_ble_eq_true rfl)) (hz _ ki_M_told) (hz _ ks_M_told) (hz _ kC_M_told) hPM hK rfl (q0 := 0) rfl rfl hl.1 rfl (Nat.le_of_ble_eq_true rfl) dL_law_484 ⟨by show cells + 1 + 0 ≤ 1050; omega, by show slots + 6 + 0 ≤ 14541; omega⟩) (fun _ h => h) hdis2 hgM zl_atX hP hS (fun ⟨u1, u2, u3⟩ H hu hPM hP _ hS => ?_)
    refine W.eq (g2 := F0 m 487 ls [.long u1]) rfl ?_
    have e1 := hu (zc_b_0 hcd)
    dsimp only at e1
    subst e1
    refine W.eq (g2 := F0 m 487 ls [.long (lN (zq_told (zq_es L V D F) (zq_ab L D) (zq_ct (zq_es L V D F) (zq_ab L D) F S k) N (xs (i + 1)).toNatClampNeg (xs (i + 2)).toNatClampNeg))]) rfl ?_
    refine lv_lstore (lv' := [(6, .long (lN (zq_told (zq_es L V D F) (zq_ab L D) (zq_ct (zq_es L V D F) (zq_ab L D) F S k) N (xs (i + 1)).toNatClampNeg (xs (i + 2)).toNatClampNeg))), (5, .int (nI 0)), (0, .ref b), (1, .ref (aX 0)), (2, .ref (aM 0)), (3, .ref (aX 6)), (4, .int (nI i))]) hx hb dL_law_487 hl (by decide) rfl (fun ls hl => ?_)
    refine lv_aload_n hx hb dL_law_489 rfl (lv_at hl 4 rfl) ?_
    refine zt_callRi (r := nI (zc_b (zb_in (xs (i + 1)) N && zb_in (xs (i + 2)) 3))) (zg_run (rest := []) hx hb hml hown (tM_thrown l) (wcL_59 hz (Nat.le_of_ble_eq_true rfl) (Nat.le_of_ble_eq_true rfl)) (hz _ ki_M_thrown) (hz _ ks_M_thrown) (hz _ kC_M_thrown) hPM hK rfl (q0 := 0) rfl rfl hl.1 rfl (Nat.le_of_ble_eq_true rfl) dL_law_490 ⟨by show cells + 1 + 0 ≤ 1050; omega, by show slots + 6 + 0 ≤ 14541; omega⟩) ?_
    refine lv_iload hx hb dL_law_493 (lv_at hl 1 rfl) ?_
    refine lv_icmp_eq (tgt := 500) hx hb dL_law_495 (by decide) (fun _ => ?_) (fun c495 => absurd c495 (not_not_intro (by rw [hcd])))
    refine lv_iload hx hb dL_law_500 (lv_at hl 1 rfl) ?_
    refine lv_if_ne (tgt := 516) hx hb dL_law_502 (by decide) (fun c502 => absurd c502 (not_not_intro (by decide))) (fun _ => ?_)
    refine lv_aload_n hx hb dL_law_505 rfl (lv_at hl 5 rfl) ?_
    refine lv_iconst (v := nI 0) hx hb dL_law_506 (by decide) ?_
    refine zt_lald hx hb hK hP 6 1 rfl rfl (i := 0) (by decide) (by decide) (v := lN (zq_told (zq_es L V D F) (zq_ab L D) (zq_ct (zq_es L V D F) (zq_ab L D) F S k) N (xs (i + 1)).toNatClampNeg (xs (i + 2)).toNatClampNeg)) (if_pos rfl) dL_law_507 ?_
    refine lv_lload hx hb dL_law_508 (lv_at hl 0 rfl) ?_
    refine zl_same (tgt := 516) hx hb rfl dL_law_510 dL_law_511 (by decide) ?_
    refine lv_goto (tgt := 758) hx hb dL_law_516 (by decide) ?_
    exact kk H D N F k L V S hS ⟨_, _, _, _, _, _, _, _, _, _, _, _, _, hR, hJ, hRm, hs, hV0, hP, hPM⟩ ls (lv_sub hl [2, 3, 4, 5, 6] rfl)
  · refine lv_istore (lv' := [(5, .int (nI (zc_b (zb_in (xs (i + 1)) N && zb_in (xs (i + 2)) 3)))), (0, .ref b), (1, .ref (aX 0)), (2, .ref (aM 0)), (3, .ref (aX 6)), (4, .int (nI i))]) hx hb dL_law_469 hl (by decide) rfl (fun ls hl => ?_)
    refine lv_aload_n hx hb dL_law_471 rfl (lv_at hl 3 rfl) ?_
    refine lv_aload_n hx hb dL_law_472 rfl (lv_at hl 1 rfl) ?_
    refine lv_iload hx hb dL_law_473 (lv_at hl 5 rfl) ?_
    refine lv_iconst (v := nI 1) hx hb dL_law_475 (by decide) ?_
    refine lv_iadd hx hb dL_law_476 ?_
    refine zt_ti (nI_add _ _) ?_
    refine zl_sld hx hb hXs hbl hS (i := i + 1) (by omega) (by omega) dL_law_477 ?_
    refine lv_aload_n hx hb dL_law_478 rfl (lv_at hl 1 rfl) ?_
    refine lv_iload hx hb dL_law_479 (lv_at hl 5 rfl) ?_
    refine lv_iconst (v := nI 2) hx hb dL_law_481 (by decide) ?_
    refine lv_iadd hx hb dL_law_482 ?_
    refine zt_ti (nI_add _ _) ?_
    refine zl_sld hx hb hXs hbl hS (i := i + 2) (by omega) (by omega) dL_law_483 ?_
    refine zl_callM (aX := aM) (aM := aX) (zg_runC (rest := []) hx hb hml hown (tM_told l hadM hRm hs) (wcL_82 hz (Nat.le_of_ble_eq_true rfl) (Nat.le_of_ble_eq_true rfl)) (hz _ ki_M_told) (hz _ ks_M_told) (hz _ kC_M_told) hPM hK rfl (q0 := 0) rfl rfl hl.1 rfl (Nat.le_of_ble_eq_true rfl) dL_law_484 ⟨by show cells + 1 + 0 ≤ 1050; omega, by show slots + 6 + 0 ≤ 14541; omega⟩) (fun _ h => h) hdis2 hgM zl_atX hP hS (fun ⟨u1, u2, u3⟩ H hu hPM hP _ hS => ?_)
    refine W.eq (g2 := F0 m 487 ls [.long u1]) rfl ?_
    refine lv_lstore (lv' := [(6, .long u1), (5, .int (nI (zc_b (zb_in (xs (i + 1)) N && zb_in (xs (i + 2)) 3)))), (0, .ref b), (1, .ref (aX 0)), (2, .ref (aM 0)), (3, .ref (aX 6)), (4, .int (nI i))]) hx hb dL_law_487 hl (by decide) rfl (fun ls hl => ?_)
    refine lv_aload_n hx hb dL_law_489 rfl (lv_at hl 4 rfl) ?_
    refine zt_callRi (r := nI (zc_b (zb_in (xs (i + 1)) N && zb_in (xs (i + 2)) 3))) (zg_run (rest := []) hx hb hml hown (tM_thrown l) (wcL_59 hz (Nat.le_of_ble_eq_true rfl) (Nat.le_of_ble_eq_true rfl)) (hz _ ki_M_thrown) (hz _ ks_M_thrown) (hz _ kC_M_thrown) hPM hK rfl (q0 := 0) rfl rfl hl.1 rfl (Nat.le_of_ble_eq_true rfl) dL_law_490 ⟨by show cells + 1 + 0 ≤ 1050; omega, by show slots + 6 + 0 ≤ 14541; omega⟩) ?_
    refine lv_iload hx hb dL_law_493 (lv_at hl 1 rfl) ?_
    refine lv_icmp_eq (tgt := 500) hx hb dL_law_495 (by decide) (fun _ => ?_) (fun c495 => absurd c495 (not_not_intro rfl))
    refine lv_iload hx hb dL_law_500 (lv_at hl 1 rfl) ?_
    refine lv_if_ne (tgt := 516) hx hb dL_law_502 (by decide) (fun _ => ?_) (fun c502 => absurd c502 (zc_ne hcd (zc_b_le _)))
    refine lv_goto (tgt := 758) hx hb dL_law_516 (by decide) ?_
    exact kk H D N F k L V S hS ⟨_, _, _, _, _, _, _, _, _, _, _, _, _, hR, hJ, hRm, hs, hV0, hP, hPM⟩ ls (lv_sub hl [2, 3, 4, 5, 6] rfl)
set_option maxHeartbeats 4000000 in
set_option maxRecDepth 100000 in
/-- case 7: take -/
theorem zl_c7 {p : Program} {l : Launch} {e : Env} {s : State} {m : MethodId} {below : List Frame} {meth : Method} {c : Code} {b n : Nat} {xs : Nat → Int32} {dC : Nat → ClassId} {dI : Nat → Nat → Nat} {cI cJ cB : ClassId} {aX aM : Nat → Nat} (C : zl_C p l s m c b n xs dC dI cI cJ cB aX aM) {cells slots i : Nat} (hc9 : cells + 1 ≤ 1050) (hs9 : slots + 6 ≤ 14541) (hi : i + 4 ≤ n) {H : Heap} (hS : va_S (zl_A s.heap.size) s.heap H []) {D N F k : Nat} {L V S : Nat → Nat} (hI : zl_I dC dI cI cJ cB aX aM H D N F k L V S) {ls : Array Slot} (hl : lv_has ls 8 [(0, .ref b), (1, .ref (aX 0)), (2, .ref (aM 0)), (3, .ref (aX 6)), (4, .int (nI i))]) {Q : State → Prop}
    (kk : ∀ (H : Heap) (D N F k : Nat) (L V S : Nat → Nat), va_S (zl_A s.heap.size) s.heap H [] → zl_I dC dI cI cJ cB aX aM H D N F k L V S → ∀ ls : Array Slot, lv_has ls 8 [(0, .ref b), (1, .ref (aX 0)), (2, .ref (aM 0)), (3, .ref (aX 6)), (4, .int (nI i))] → W p l e room_1 s m #[Value.ref b] below meth c H [] (cells + 1) (slots + 6) Q (F0 m 758 ls [])) : W p l e room_1 s m #[Value.ref b] below meth c H [] cells slots Q (F0 m 519 ls []) := by
  obtain ⟨hx, hb, hml, hown, hz, hK, hTS, hNc, hst, hadX, hadM, hdis, hgX, hgM, hXs, hbl, hn⟩ := C
  obtain ⟨lev, val, pkd, cst, chs, f, levm, valm, chsm, dig, est, cstm, code, hR, hJ, hRm, hs, hV0, hP, hPM⟩ := hI
  have hk := hs.1
  have hdis2 : ∀ i j, i < 7 → j < 7 → aM i ≠ aX j := fun i j hi hj e => hdis j i hj hi e.symm
  refine lv_aload_n hx hb dL_law_519 rfl (lv_at hl 1 rfl) ?_
  refine lv_aload_n hx hb dL_law_520 rfl (lv_at hl 0 rfl) ?_
  refine lv_iload hx hb dL_law_521 (lv_at hl 4 rfl) ?_
  refine lv_iconst (v := nI 1) hx hb dL_law_523 (by decide) ?_
  refine lv_iadd hx hb dL_law_524 ?_
  refine zt_ti (nI_add _ _) ?_
  refine zl_sld hx hb hXs hbl hS (i := i + 1) (by omega) (by omega) dL_law_525 ?_
  refine lv_aload_n hx hb dL_law_526 rfl (lv_at hl 3 rfl) ?_
  refine zl_callH (aX := aX) (aM := aM) (zl_runH (rest := []) hx hb hml hown (tL_take l hadX hst hR hJ hk) (wcL_83 hz (Nat.le_of_ble_eq_true rfl) (Nat.le_of_ble_eq_true rfl)) (hz _ kst_L_take) (hz _ kC_L_take) hP hK hTS hNc hS rfl hl.1 rfl (Nat.le_of_ble_eq_true rfl) dL_law_527 ⟨by show cells + 1 ≤ 1050; omega, by show slots + 6 ≤ 14541; omega⟩) hdis hgX zl_atM hPM hS (fun hcd v H hv hP hPM hS => ?_) (fun hcd H hP hPM hS => ?_)
  · refine lv_istore (lv' := [(5, .int (nI 0)), (0, .ref b), (1, .ref (aX 0)), (2, .ref (aM 0)), (3, .ref (aX 6)), (4, .int (nI i))]) hx hb dL_law_530 hl (by decide) rfl (fun ls hl => ?_)
    refine lv_aload_n hx hb dL_law_532 rfl (lv_at hl 3 rfl) ?_
    refine lv_aload_n hx hb dL_law_533 rfl (lv_at hl 1 rfl) ?_
    refine lv_iload hx hb dL_law_534 (lv_at hl 5 rfl) ?_
    refine lv_iconst (v := nI 1) hx hb dL_law_536 (by decide) ?_
    refine lv_iadd hx hb dL_law_537 ?_
    refine zt_ti (nI_add _ _) ?_
    refine zl_sld hx hb hXs hbl hS (i := i + 1) (by omega) (by omega) dL_law_538 ?_
    refine zl_callM (aX := aM) (aM := aX) (zg_runC (rest := []) hx hb hml hown (tM_take l hadM hR.2.2.2.1 hk) (wcL_85 hz (Nat.le_of_ble_eq_true rfl) (Nat.le_of_ble_eq_true rfl)) (hz _ ki_M_take) (hz _ ks_M_take) (hz _ kC_M_take) hPM hK rfl (q0 := 0) rfl rfl hl.1 rfl (Nat.le_of_ble_eq_true rfl) dL_law_539 ⟨by show cells + 1 + 0 ≤ 1050; omega, by show slots + 6 + 0 ≤ 14541; omega⟩) (fun _ h => h) hdis2 hgM zl_atX hP hS (fun ⟨u1, u2, u3⟩ H hu hPM hP _ hS => ?_)
    refine W.eq (g2 := F0 m 542 ls [.int u1]) rfl ?_
    rcases hu with ⟨-, e5⟩ | ⟨q, -⟩
    · cases e5
      refine W.eq (g2 := F0 m 542 ls [.int (nI (k + 1))]) rfl ?_
      refine lv_istore (lv' := [(6, .int (nI (k + 1))), (5, .int (nI 0)), (0, .ref b), (1, .ref (aX 0)), (2, .ref (aM 0)), (3, .ref (aX 6)), (4, .int (nI i))]) hx hb dL_law_542 hl (by decide) rfl (fun ls hl => ?_)
      refine lv_aload_n hx hb dL_law_544 rfl (lv_at hl 4 rfl) ?_
      refine zt_callRi (r := nI (zc_take (zn (xs (i + 1))) N k)) (zg_run (rest := []) hx hb hml hown (tM_thrown l) (wcL_59 hz (Nat.le_of_ble_eq_true rfl) (Nat.le_of_ble_eq_true rfl)) (hz _ ki_M_thrown) (hz _ ks_M_thrown) (hz _ kC_M_thrown) hPM hK rfl (q0 := 0) rfl rfl hl.1 rfl (Nat.le_of_ble_eq_true rfl) dL_law_545 ⟨by show cells + 1 + 0 ≤ 1050; omega, by show slots + 6 + 0 ≤ 14541; omega⟩) ?_
      refine lv_iload hx hb dL_law_548 (lv_at hl 1 rfl) ?_
      refine lv_icmp_eq (tgt := 555) hx hb dL_law_550 (by decide) (fun _ => ?_) (fun c550 => absurd c550 (not_not_intro (by rw [hcd])))
      refine lv_iload hx hb dL_law_555 (lv_at hl 1 rfl) ?_
      refine lv_if_ne (tgt := 572) hx hb dL_law_557 (by decide) (fun c557 => absurd c557 (not_not_intro (by decide))) (fun _ => ?_)
      refine lv_aload_n hx hb dL_law_560 rfl (lv_at hl 5 rfl) ?_
      refine lv_iconst (v := nI 0) hx hb dL_law_561 (by decide) ?_
      refine zt_lald hx hb hK hP 6 1 rfl rfl (i := 0) (by decide) (by decide) (v := lN (k + 1)) (if_pos rfl) dL_law_562 ?_
      refine lv_iload hx hb dL_law_563 (lv_at hl 0 rfl) ?_
      refine lv_i2l (v := lN (k + 1)) hx hb dL_law_565 (nI_l (by omega)) ?_
      refine zl_same (tgt := 572) hx hb rfl dL_law_566 dL_law_567 (by decide) ?_
      refine lv_goto (tgt := 758) hx hb dL_law_572 (by decide) ?_
      exact kk H D N F (k + 1) L V (zq_up S k (zn (xs (i + 1)))) hS ⟨_, _, _, _, _, _, _, _, _, _, _, _, _, hR, hv, hRm, zm_S_up hs (zc_take_0 hcd).2 (zc_take_0 hcd).1, hV0, hP, hPM⟩ ls (lv_sub hl [2, 3, 4, 5, 6] rfl)
    · exact absurd hcd q
  · refine lv_istore (lv' := [(5, .int (nI (zc_take (zn (xs (i + 1))) N k))), (0, .ref b), (1, .ref (aX 0)), (2, .ref (aM 0)), (3, .ref (aX 6)), (4, .int (nI i))]) hx hb dL_law_530 hl (by decide) rfl (fun ls hl => ?_)
    refine lv_aload_n hx hb dL_law_532 rfl (lv_at hl 3 rfl) ?_
    refine lv_aload_n hx hb dL_law_533 rfl (lv_at hl 1 rfl) ?_
    refine lv_iload hx hb dL_law_534 (lv_at hl 5 rfl) ?_
    refine lv_iconst (v := nI 1) hx hb dL_law_536 (by decide) ?_
    refine lv_iadd hx hb dL_law_537 ?_
    refine zt_ti (nI_add _ _) ?_
    refine zl_sld hx hb hXs hbl hS (i := i + 1) (by omega) (by omega) dL_law_538 ?_
    refine zl_callM (aX := aM) (aM := aX) (zg_runC (rest := []) hx hb hml hown (tM_take l hadM hR.2.2.2.1 hk) (wcL_85 hz (Nat.le_of_ble_eq_true rfl) (Nat.le_of_ble_eq_true rfl)) (hz _ ki_M_take) (hz _ ks_M_take) (hz _ kC_M_take) hPM hK rfl (q0 := 0) rfl rfl hl.1 rfl (Nat.le_of_ble_eq_true rfl) dL_law_539 ⟨by show cells + 1 + 0 ≤ 1050; omega, by show slots + 6 + 0 ≤ 14541; omega⟩) (fun _ h => h) hdis2 hgM zl_atX hP hS (fun ⟨u1, u2, u3⟩ H hu hPM hP _ hS => ?_)
    refine W.eq (g2 := F0 m 542 ls [.int u1]) rfl ?_
    rcases hu with ⟨q, -⟩ | ⟨-, e1⟩
    · exact absurd q hcd
    · dsimp only at e1
      cases e1
      refine lv_istore (lv' := [(6, .int u1), (5, .int (nI (zc_take (zn (xs (i + 1))) N k))), (0, .ref b), (1, .ref (aX 0)), (2, .ref (aM 0)), (3, .ref (aX 6)), (4, .int (nI i))]) hx hb dL_law_542 hl (by decide) rfl (fun ls hl => ?_)
      refine lv_aload_n hx hb dL_law_544 rfl (lv_at hl 4 rfl) ?_
      refine zt_callRi (r := nI (zc_take (zn (xs (i + 1))) N k)) (zg_run (rest := []) hx hb hml hown (tM_thrown l) (wcL_59 hz (Nat.le_of_ble_eq_true rfl) (Nat.le_of_ble_eq_true rfl)) (hz _ ki_M_thrown) (hz _ ks_M_thrown) (hz _ kC_M_thrown) hPM hK rfl (q0 := 0) rfl rfl hl.1 rfl (Nat.le_of_ble_eq_true rfl) dL_law_545 ⟨by show cells + 1 + 0 ≤ 1050; omega, by show slots + 6 + 0 ≤ 14541; omega⟩) ?_
      refine lv_iload hx hb dL_law_548 (lv_at hl 1 rfl) ?_
      refine lv_icmp_eq (tgt := 555) hx hb dL_law_550 (by decide) (fun _ => ?_) (fun c550 => absurd c550 (not_not_intro rfl))
      refine lv_iload hx hb dL_law_555 (lv_at hl 1 rfl) ?_
      refine lv_if_ne (tgt := 572) hx hb dL_law_557 (by decide) (fun _ => ?_) (fun c557 => absurd c557 (zc_ne hcd (zc_take_le _ _ _)))
      refine lv_goto (tgt := 758) hx hb dL_law_572 (by decide) ?_
      exact kk H D N F k L V S hS ⟨_, _, _, _, _, _, _, _, _, _, _, _, _, hR, hJ, hRm, hs, hV0, hP, hPM⟩ ls (lv_sub hl [2, 3, 4, 5, 6] rfl)
set_option maxHeartbeats 4000000 in
set_option maxRecDepth 100000 in
/-- case 8: step -/
theorem zl_c8 {p : Program} {l : Launch} {e : Env} {s : State} {m : MethodId} {below : List Frame} {meth : Method} {c : Code} {b n : Nat} {xs : Nat → Int32} {dC : Nat → ClassId} {dI : Nat → Nat → Nat} {cI cJ cB : ClassId} {aX aM : Nat → Nat} (C : zl_C p l s m c b n xs dC dI cI cJ cB aX aM) {cells slots i : Nat} (hc9 : cells + 1 ≤ 1050) (hs9 : slots + 6 ≤ 14541) (hi : i + 4 ≤ n) {H : Heap} (hS : va_S (zl_A s.heap.size) s.heap H []) {D N F k : Nat} {L V S : Nat → Nat} (hI : zl_I dC dI cI cJ cB aX aM H D N F k L V S) {ls : Array Slot} (hl : lv_has ls 8 [(0, .ref b), (1, .ref (aX 0)), (2, .ref (aM 0)), (3, .ref (aX 6)), (4, .int (nI i))]) {Q : State → Prop}
    (kk : ∀ (H : Heap) (D N F k : Nat) (L V S : Nat → Nat), va_S (zl_A s.heap.size) s.heap H [] → zl_I dC dI cI cJ cB aX aM H D N F k L V S → ∀ ls : Array Slot, lv_has ls 8 [(0, .ref b), (1, .ref (aX 0)), (2, .ref (aM 0)), (3, .ref (aX 6)), (4, .int (nI i))] → W p l e room_1 s m #[Value.ref b] below meth c H [] (cells + 1) (slots + 6) Q (F0 m 758 ls [])) : W p l e room_1 s m #[Value.ref b] below meth c H [] cells slots Q (F0 m 575 ls []) := by
  obtain ⟨hx, hb, hml, hown, hz, hK, hTS, hNc, hst, hadX, hadM, hdis, hgX, hgM, hXs, hbl, hn⟩ := C
  obtain ⟨lev, val, pkd, cst, chs, f, levm, valm, chsm, dig, est, cstm, code, hR, hJ, hRm, hs, hV0, hP, hPM⟩ := hI
  have hk := hs.1
  have hdis2 : ∀ i j, i < 7 → j < 7 → aM i ≠ aX j := fun i j hi hj e => hdis j i hj hi e.symm
  refine lv_aload_n hx hb dL_law_575 rfl (lv_at hl 1 rfl) ?_
  refine lv_aload_n hx hb dL_law_576 rfl (lv_at hl 3 rfl) ?_
  refine zl_callH (aX := aX) (aM := aM) (zl_runH (rest := []) hx hb hml hown (tL_step l hadX hst hR hJ hk) (wcL_86 hz (Nat.le_of_ble_eq_true rfl) (Nat.le_of_ble_eq_true rfl)) (hz _ kst_L_step) (hz _ kC_L_step) hP hK hTS hNc hS rfl hl.1 rfl (Nat.le_of_ble_eq_true rfl) dL_law_577 ⟨by show cells + 1 ≤ 1050; omega, by show slots + 6 ≤ 14541; omega⟩) hdis hgX zl_atM hPM hS (fun hcd v H hv hP hPM hS => ?_) (fun hcd H hP hPM hS => ?_)
  · refine lv_istore (lv' := [(5, .int (nI 0)), (0, .ref b), (1, .ref (aX 0)), (2, .ref (aM 0)), (3, .ref (aX 6)), (4, .int (nI i))]) hx hb dL_law_580 hl (by decide) rfl (fun ls hl => ?_)
    refine lv_aload_n hx hb dL_law_582 rfl (lv_at hl 3 rfl) ?_
    refine zl_callM (aX := aM) (aM := aX) (zg_runC (rest := []) hx hb hml hown (tM_step l hadM hRm hs) (wcL_89 hz (Nat.le_of_ble_eq_true rfl) (Nat.le_of_ble_eq_true rfl)) (hz _ ki_M_step) (hz _ ks_M_step) (hz _ kC_M_step) hPM hK rfl (q0 := 0) rfl rfl hl.1 rfl (Nat.le_of_ble_eq_true rfl) dL_law_583 ⟨by show cells + 1 + 0 ≤ 1050; omega, by show slots + 6 + 0 ≤ 14541; omega⟩) (fun _ h => h) hdis2 hgM zl_atX hP hS (fun ⟨u1, u2, u3, u4, u5⟩ H hu hPM hP _ hS => ?_)
    refine W.eq (g2 := F0 m 586 ls [.int u1]) rfl ?_
    rcases hu with ⟨-, e1, e2, e3⟩ | ⟨q, -⟩
    · dsimp only at e1 e2 e3
      subst e1
      subst e2
      refine W.eq (g2 := F0 m 586 ls [.int (nI (zq_pick D N F L V k S) - 1)]) rfl ?_
      refine lv_istore (lv' := [(6, .int (nI (zq_pick D N F L V k S) - 1)), (5, .int (nI 0)), (0, .ref b), (1, .ref (aX 0)), (2, .ref (aM 0)), (3, .ref (aX 6)), (4, .int (nI i))]) hx hb dL_law_586 hl (by decide) rfl (fun ls hl => ?_)
      refine lv_aload_n hx hb dL_law_588 rfl (lv_at hl 4 rfl) ?_
      refine zt_callRi (r := nI (zc_st k)) (zg_run (rest := []) hx hb hml hown (tM_thrown l) (wcL_59 hz (Nat.le_of_ble_eq_true rfl) (Nat.le_of_ble_eq_true rfl)) (hz _ ki_M_thrown) (hz _ ks_M_thrown) (hz _ kC_M_thrown) hPM hK rfl (q0 := 0) rfl rfl hl.1 rfl (Nat.le_of_ble_eq_true rfl) dL_law_589 ⟨by show cells + 1 + 0 ≤ 1050; omega, by show slots + 6 + 0 ≤ 14541; omega⟩) ?_
      refine lv_iload hx hb dL_law_592 (lv_at hl 1 rfl) ?_
      refine lv_icmp_eq (tgt := 599) hx hb dL_law_594 (by decide) (fun _ => ?_) (fun c594 => absurd c594 (not_not_intro (by rw [hcd])))
      refine lv_iload hx hb dL_law_599 (lv_at hl 1 rfl) ?_
      refine lv_if_ne (tgt := 616) hx hb dL_law_601 (by decide) (fun c601 => absurd c601 (not_not_intro (by decide))) (fun _ => ?_)
      refine lv_aload_n hx hb dL_law_604 rfl (lv_at hl 5 rfl) ?_
      refine lv_iconst (v := nI 0) hx hb dL_law_605 (by decide) ?_
      refine zt_lald hx hb hK hP 6 1 rfl rfl (i := 0) (by decide) (by decide) (v := (nI (zq_pick D N F L V k S) - 1).toInt64) (if_pos rfl) dL_law_606 ?_
      refine lv_iload hx hb dL_law_607 (lv_at hl 0 rfl) ?_
      refine lv_i2l (v := (nI (zq_pick D N F L V k S) - 1).toInt64) hx hb dL_law_609 (rfl) ?_
      refine zl_same (tgt := 616) hx hb rfl dL_law_610 dL_law_611 (by decide) ?_
      refine lv_goto (tgt := 758) hx hb dL_law_616 (by decide) ?_
      exact kk H D N F (zq_go (zq_pick D N F L V) 1 k S).1 L V (zq_go (zq_pick D N F L V) 1 k S).2 hS ⟨_, _, _, _, _, _, _, _, _, _, _, _, _, hR, hv, hRm, e3, hV0, hP, hPM⟩ ls (lv_sub hl [2, 3, 4, 5, 6] rfl)
    · exact absurd hcd q
  · refine lv_istore (lv' := [(5, .int (nI (zc_st k))), (0, .ref b), (1, .ref (aX 0)), (2, .ref (aM 0)), (3, .ref (aX 6)), (4, .int (nI i))]) hx hb dL_law_580 hl (by decide) rfl (fun ls hl => ?_)
    refine lv_aload_n hx hb dL_law_582 rfl (lv_at hl 3 rfl) ?_
    refine zl_callM (aX := aM) (aM := aX) (zg_runC (rest := []) hx hb hml hown (tM_step l hadM hRm hs) (wcL_89 hz (Nat.le_of_ble_eq_true rfl) (Nat.le_of_ble_eq_true rfl)) (hz _ ki_M_step) (hz _ ks_M_step) (hz _ kC_M_step) hPM hK rfl (q0 := 0) rfl rfl hl.1 rfl (Nat.le_of_ble_eq_true rfl) dL_law_583 ⟨by show cells + 1 + 0 ≤ 1050; omega, by show slots + 6 + 0 ≤ 14541; omega⟩) (fun _ h => h) hdis2 hgM zl_atX hP hS (fun ⟨u1, u2, u3, u4, u5⟩ H hu hPM hP _ hS => ?_)
    refine W.eq (g2 := F0 m 586 ls [.int u1]) rfl ?_
    rcases hu with ⟨q, -⟩ | ⟨-, e1⟩
    · exact absurd q hcd
    · dsimp only at e1
      cases e1
      refine lv_istore (lv' := [(6, .int u1), (5, .int (nI (zc_st k))), (0, .ref b), (1, .ref (aX 0)), (2, .ref (aM 0)), (3, .ref (aX 6)), (4, .int (nI i))]) hx hb dL_law_586 hl (by decide) rfl (fun ls hl => ?_)
      refine lv_aload_n hx hb dL_law_588 rfl (lv_at hl 4 rfl) ?_
      refine zt_callRi (r := nI (zc_st k)) (zg_run (rest := []) hx hb hml hown (tM_thrown l) (wcL_59 hz (Nat.le_of_ble_eq_true rfl) (Nat.le_of_ble_eq_true rfl)) (hz _ ki_M_thrown) (hz _ ks_M_thrown) (hz _ kC_M_thrown) hPM hK rfl (q0 := 0) rfl rfl hl.1 rfl (Nat.le_of_ble_eq_true rfl) dL_law_589 ⟨by show cells + 1 + 0 ≤ 1050; omega, by show slots + 6 + 0 ≤ 14541; omega⟩) ?_
      refine lv_iload hx hb dL_law_592 (lv_at hl 1 rfl) ?_
      refine lv_icmp_eq (tgt := 599) hx hb dL_law_594 (by decide) (fun _ => ?_) (fun c594 => absurd c594 (not_not_intro rfl))
      refine lv_iload hx hb dL_law_599 (lv_at hl 1 rfl) ?_
      refine lv_if_ne (tgt := 616) hx hb dL_law_601 (by decide) (fun _ => ?_) (fun c601 => absurd c601 (zc_ne hcd (zc_st_le _)))
      refine lv_goto (tgt := 758) hx hb dL_law_616 (by decide) ?_
      exact kk H D N F k L V S hS ⟨_, _, _, _, _, _, _, _, _, _, _, _, _, hR, hJ, hRm, hs, hV0, hP, hPM⟩ ls (lv_sub hl [2, 3, 4, 5, 6] rfl)
set_option maxHeartbeats 4000000 in
set_option maxRecDepth 100000 in
/-- case 9: choose -/
theorem zl_c9 {p : Program} {l : Launch} {e : Env} {s : State} {m : MethodId} {below : List Frame} {meth : Method} {c : Code} {b n : Nat} {xs : Nat → Int32} {dC : Nat → ClassId} {dI : Nat → Nat → Nat} {cI cJ cB : ClassId} {aX aM : Nat → Nat} (C : zl_C p l s m c b n xs dC dI cI cJ cB aX aM) {cells slots i : Nat} (hc9 : cells + 1 ≤ 1050) (hs9 : slots + 6 ≤ 14541) (hi : i + 4 ≤ n) {H : Heap} (hS : va_S (zl_A s.heap.size) s.heap H []) {D N F k : Nat} {L V S : Nat → Nat} (hI : zl_I dC dI cI cJ cB aX aM H D N F k L V S) {ls : Array Slot} (hl : lv_has ls 8 [(0, .ref b), (1, .ref (aX 0)), (2, .ref (aM 0)), (3, .ref (aX 6)), (4, .int (nI i))]) {Q : State → Prop}
    (kk : ∀ (H : Heap) (D N F k : Nat) (L V S : Nat → Nat), va_S (zl_A s.heap.size) s.heap H [] → zl_I dC dI cI cJ cB aX aM H D N F k L V S → ∀ ls : Array Slot, lv_has ls 8 [(0, .ref b), (1, .ref (aX 0)), (2, .ref (aM 0)), (3, .ref (aX 6)), (4, .int (nI i))] → W p l e room_1 s m #[Value.ref b] below meth c H [] (cells + 1) (slots + 6) Q (F0 m 758 ls [])) : W p l e room_1 s m #[Value.ref b] below meth c H [] cells slots Q (F0 m 619 ls []) := by
  obtain ⟨hx, hb, hml, hown, hz, hK, hTS, hNc, hst, hadX, hadM, hdis, hgX, hgM, hXs, hbl, hn⟩ := C
  obtain ⟨lev, val, pkd, cst, chs, f, levm, valm, chsm, dig, est, cstm, code, hR, hJ, hRm, hs, hV0, hP, hPM⟩ := hI
  have hk := hs.1
  have hdis2 : ∀ i j, i < 7 → j < 7 → aM i ≠ aX j := fun i j hi hj e => hdis j i hj hi e.symm
  refine lv_aload_n hx hb dL_law_619 rfl (lv_at hl 1 rfl) ?_
  refine lv_aload_n hx hb dL_law_620 rfl (lv_at hl 0 rfl) ?_
  refine lv_iload hx hb dL_law_621 (lv_at hl 4 rfl) ?_
  refine lv_iconst (v := nI 1) hx hb dL_law_623 (by decide) ?_
  refine lv_iadd hx hb dL_law_624 ?_
  refine zt_ti (nI_add _ _) ?_
  refine zl_sld hx hb hXs hbl hS (i := i + 1) (by omega) (by omega) dL_law_625 ?_
  refine lv_aload_n hx hb dL_law_626 rfl (lv_at hl 3 rfl) ?_
  refine zl_callH (aX := aX) (aM := aM) (zl_runH (rest := []) hx hb hml hown (tL_choose l hadX hst hR hJ hk) (wcL_90 hz (Nat.le_of_ble_eq_true rfl) (Nat.le_of_ble_eq_true rfl)) (hz _ kst_L_choose) (hz _ kC_L_choose) hP hK hTS hNc hS rfl hl.1 rfl (Nat.le_of_ble_eq_true rfl) dL_law_627 ⟨by show cells + 1 ≤ 1050; omega, by show slots + 6 ≤ 14541; omega⟩) hdis hgX zl_atM hPM hS (fun hcd v H hv hP hPM hS => ?_) (fun hcd H hP hPM hS => ?_)
  · refine lv_istore (lv' := [(5, .int (nI 0)), (0, .ref b), (1, .ref (aX 0)), (2, .ref (aM 0)), (3, .ref (aX 6)), (4, .int (nI i))]) hx hb dL_law_630 hl (by decide) rfl (fun ls hl => ?_)
    refine lv_aload_n hx hb dL_law_632 rfl (lv_at hl 3 rfl) ?_
    refine lv_aload_n hx hb dL_law_633 rfl (lv_at hl 1 rfl) ?_
    refine lv_iload hx hb dL_law_634 (lv_at hl 5 rfl) ?_
    refine lv_iconst (v := nI 1) hx hb dL_law_636 (by decide) ?_
    refine lv_iadd hx hb dL_law_637 ?_
    refine zt_ti (nI_add _ _) ?_
    refine zl_sld hx hb hXs hbl hS (i := i + 1) (by omega) (by omega) dL_law_638 ?_
    refine zl_callM (aX := aM) (aM := aX) (zg_runC (rest := []) hx hb hml hown (tM_choose l hadM hRm hs) (wcL_92 hz (Nat.le_of_ble_eq_true rfl) (Nat.le_of_ble_eq_true rfl)) (hz _ ki_M_choose) (hz _ ks_M_choose) (hz _ kC_M_choose) hPM hK rfl (q0 := 0) rfl rfl hl.1 rfl (Nat.le_of_ble_eq_true rfl) dL_law_639 ⟨by show cells + 1 + 0 ≤ 1050; omega, by show slots + 6 + 0 ≤ 14541; omega⟩) (fun _ h => h) hdis2 hgM zl_atX hP hS (fun ⟨u1, u2, u3, u4, u5⟩ H hu hPM hP _ hS => ?_)
    refine W.eq (g2 := F0 m 642 ls [.int u1]) rfl ?_
    rcases hu with ⟨-, e1, e2, e3⟩ | ⟨q, -⟩
    · dsimp only at e1 e2 e3
      subst e1
      subst e2
      refine W.eq (g2 := F0 m 642 ls [.int (nI (zq_go (zq_pick D N F L V) (zn (xs (i + 1)) - k) k S).1)]) rfl ?_
      refine lv_istore (lv' := [(6, .int (nI (zq_go (zq_pick D N F L V) (zn (xs (i + 1)) - k) k S).1)), (5, .int (nI 0)), (0, .ref b), (1, .ref (aX 0)), (2, .ref (aM 0)), (3, .ref (aX 6)), (4, .int (nI i))]) hx hb dL_law_642 hl (by decide) rfl (fun ls hl => ?_)
      refine lv_aload_n hx hb dL_law_644 rfl (lv_at hl 4 rfl) ?_
      refine zt_callRi (r := nI (zc_cho (zn (xs (i + 1))))) (zg_run (rest := []) hx hb hml hown (tM_thrown l) (wcL_59 hz (Nat.le_of_ble_eq_true rfl) (Nat.le_of_ble_eq_true rfl)) (hz _ ki_M_thrown) (hz _ ks_M_thrown) (hz _ kC_M_thrown) hPM hK rfl (q0 := 0) rfl rfl hl.1 rfl (Nat.le_of_ble_eq_true rfl) dL_law_645 ⟨by show cells + 1 + 0 ≤ 1050; omega, by show slots + 6 + 0 ≤ 14541; omega⟩) ?_
      refine lv_iload hx hb dL_law_648 (lv_at hl 1 rfl) ?_
      refine lv_icmp_eq (tgt := 655) hx hb dL_law_650 (by decide) (fun _ => ?_) (fun c650 => absurd c650 (not_not_intro (by rw [hcd])))
      refine lv_iload hx hb dL_law_655 (lv_at hl 1 rfl) ?_
      refine lv_if_ne (tgt := 672) hx hb dL_law_657 (by decide) (fun c657 => absurd c657 (not_not_intro (by decide))) (fun _ => ?_)
      refine lv_aload_n hx hb dL_law_660 rfl (lv_at hl 5 rfl) ?_
      refine lv_iconst (v := nI 0) hx hb dL_law_661 (by decide) ?_
      refine zt_lald hx hb hK hP 6 1 rfl rfl (i := 0) (by decide) (by decide) (v := (nI (zq_go (zq_pick D N F L V) (zn (xs (i + 1)) - k) k S).1).toInt64) (if_pos rfl) dL_law_662 ?_
      refine lv_iload hx hb dL_law_663 (lv_at hl 0 rfl) ?_
      refine lv_i2l (v := (nI (zq_go (zq_pick D N F L V) (zn (xs (i + 1)) - k) k S).1).toInt64) hx hb dL_law_665 (rfl) ?_
      refine zl_same (tgt := 672) hx hb rfl dL_law_666 dL_law_667 (by decide) ?_
      refine lv_goto (tgt := 758) hx hb dL_law_672 (by decide) ?_
      exact kk H D N F (zq_go (zq_pick D N F L V) (zn (xs (i + 1)) - k) k S).1 L V (zq_go (zq_pick D N F L V) (zn (xs (i + 1)) - k) k S).2 hS ⟨_, _, _, _, _, _, _, _, _, _, _, _, _, hR, hv, hRm, e3, hV0, hP, hPM⟩ ls (lv_sub hl [2, 3, 4, 5, 6] rfl)
    · exact absurd hcd q
  · refine lv_istore (lv' := [(5, .int (nI (zc_cho (zn (xs (i + 1)))))), (0, .ref b), (1, .ref (aX 0)), (2, .ref (aM 0)), (3, .ref (aX 6)), (4, .int (nI i))]) hx hb dL_law_630 hl (by decide) rfl (fun ls hl => ?_)
    refine lv_aload_n hx hb dL_law_632 rfl (lv_at hl 3 rfl) ?_
    refine lv_aload_n hx hb dL_law_633 rfl (lv_at hl 1 rfl) ?_
    refine lv_iload hx hb dL_law_634 (lv_at hl 5 rfl) ?_
    refine lv_iconst (v := nI 1) hx hb dL_law_636 (by decide) ?_
    refine lv_iadd hx hb dL_law_637 ?_
    refine zt_ti (nI_add _ _) ?_
    refine zl_sld hx hb hXs hbl hS (i := i + 1) (by omega) (by omega) dL_law_638 ?_
    refine zl_callM (aX := aM) (aM := aX) (zg_runC (rest := []) hx hb hml hown (tM_choose l hadM hRm hs) (wcL_92 hz (Nat.le_of_ble_eq_true rfl) (Nat.le_of_ble_eq_true rfl)) (hz _ ki_M_choose) (hz _ ks_M_choose) (hz _ kC_M_choose) hPM hK rfl (q0 := 0) rfl rfl hl.1 rfl (Nat.le_of_ble_eq_true rfl) dL_law_639 ⟨by show cells + 1 + 0 ≤ 1050; omega, by show slots + 6 + 0 ≤ 14541; omega⟩) (fun _ h => h) hdis2 hgM zl_atX hP hS (fun ⟨u1, u2, u3, u4, u5⟩ H hu hPM hP _ hS => ?_)
    refine W.eq (g2 := F0 m 642 ls [.int u1]) rfl ?_
    rcases hu with ⟨q, -⟩ | ⟨-, e1⟩
    · exact absurd q hcd
    · dsimp only at e1
      cases e1
      refine lv_istore (lv' := [(6, .int u1), (5, .int (nI (zc_cho (zn (xs (i + 1)))))), (0, .ref b), (1, .ref (aX 0)), (2, .ref (aM 0)), (3, .ref (aX 6)), (4, .int (nI i))]) hx hb dL_law_642 hl (by decide) rfl (fun ls hl => ?_)
      refine lv_aload_n hx hb dL_law_644 rfl (lv_at hl 4 rfl) ?_
      refine zt_callRi (r := nI (zc_cho (zn (xs (i + 1))))) (zg_run (rest := []) hx hb hml hown (tM_thrown l) (wcL_59 hz (Nat.le_of_ble_eq_true rfl) (Nat.le_of_ble_eq_true rfl)) (hz _ ki_M_thrown) (hz _ ks_M_thrown) (hz _ kC_M_thrown) hPM hK rfl (q0 := 0) rfl rfl hl.1 rfl (Nat.le_of_ble_eq_true rfl) dL_law_645 ⟨by show cells + 1 + 0 ≤ 1050; omega, by show slots + 6 + 0 ≤ 14541; omega⟩) ?_
      refine lv_iload hx hb dL_law_648 (lv_at hl 1 rfl) ?_
      refine lv_icmp_eq (tgt := 655) hx hb dL_law_650 (by decide) (fun _ => ?_) (fun c650 => absurd c650 (not_not_intro rfl))
      refine lv_iload hx hb dL_law_655 (lv_at hl 1 rfl) ?_
      refine lv_if_ne (tgt := 672) hx hb dL_law_657 (by decide) (fun _ => ?_) (fun c657 => absurd c657 (zc_ne hcd (zc_cho_le _)))
      refine lv_goto (tgt := 758) hx hb dL_law_672 (by decide) ?_
      exact kk H D N F k L V S hS ⟨_, _, _, _, _, _, _, _, _, _, _, _, _, hR, hJ, hRm, hs, hV0, hP, hPM⟩ ls (lv_sub hl [2, 3, 4, 5, 6] rfl)
set_option maxHeartbeats 4000000 in
set_option maxRecDepth 100000 in
/-- case 10: chosen -/
theorem zl_c10 {p : Program} {l : Launch} {e : Env} {s : State} {m : MethodId} {below : List Frame} {meth : Method} {c : Code} {b n : Nat} {xs : Nat → Int32} {dC : Nat → ClassId} {dI : Nat → Nat → Nat} {cI cJ cB : ClassId} {aX aM : Nat → Nat} (C : zl_C p l s m c b n xs dC dI cI cJ cB aX aM) {cells slots i : Nat} (hc9 : cells + 1 ≤ 1050) (hs9 : slots + 6 ≤ 14541) (hi : i + 4 ≤ n) {H : Heap} (hS : va_S (zl_A s.heap.size) s.heap H []) {D N F k : Nat} {L V S : Nat → Nat} (hI : zl_I dC dI cI cJ cB aX aM H D N F k L V S) {ls : Array Slot} (hl : lv_has ls 8 [(0, .ref b), (1, .ref (aX 0)), (2, .ref (aM 0)), (3, .ref (aX 6)), (4, .int (nI i))]) {Q : State → Prop}
    (kk : ∀ (H : Heap) (D N F k : Nat) (L V S : Nat → Nat), va_S (zl_A s.heap.size) s.heap H [] → zl_I dC dI cI cJ cB aX aM H D N F k L V S → ∀ ls : Array Slot, lv_has ls 8 [(0, .ref b), (1, .ref (aX 0)), (2, .ref (aM 0)), (3, .ref (aX 6)), (4, .int (nI i))] → W p l e room_1 s m #[Value.ref b] below meth c H [] (cells + 1) (slots + 6) Q (F0 m 758 ls [])) : W p l e room_1 s m #[Value.ref b] below meth c H [] cells slots Q (F0 m 675 ls []) := by
  obtain ⟨hx, hb, hml, hown, hz, hK, hTS, hNc, hst, hadX, hadM, hdis, hgX, hgM, hXs, hbl, hn⟩ := C
  obtain ⟨lev, val, pkd, cst, chs, f, levm, valm, chsm, dig, est, cstm, code, hR, hJ, hRm, hs, hV0, hP, hPM⟩ := hI
  have hk := hs.1
  have hdis2 : ∀ i j, i < 7 → j < 7 → aM i ≠ aX j := fun i j hi hj e => hdis j i hj hi e.symm
  refine lv_aload_n hx hb dL_law_675 rfl (lv_at hl 1 rfl) ?_
  refine lv_aload_n hx hb dL_law_676 rfl (lv_at hl 0 rfl) ?_
  refine lv_iload hx hb dL_law_677 (lv_at hl 4 rfl) ?_
  refine lv_iconst (v := nI 1) hx hb dL_law_679 (by decide) ?_
  refine lv_iadd hx hb dL_law_680 ?_
  refine zt_ti (nI_add _ _) ?_
  refine zl_sld hx hb hXs hbl hS (i := i + 1) (by omega) (by omega) dL_law_681 ?_
  refine lv_aload_n hx hb dL_law_682 rfl (lv_at hl 3 rfl) ?_
  refine zl_callH (aX := aX) (aM := aM) (zl_runH (rest := []) hx hb hml hown (tL_chosen l hadX hst hk hJ.2) (wcL_93 hz (Nat.le_of_ble_eq_true rfl) (Nat.le_of_ble_eq_true rfl)) (hz _ kst_L_chosen) (hz _ kC_L_chosen) hP hK hTS hNc hS rfl hl.1 rfl (Nat.le_of_ble_eq_true rfl) dL_law_683 ⟨by show cells + 1 ≤ 1050; omega, by show slots + 6 ≤ 14541; omega⟩) hdis hgX zl_atM hPM hS (fun hcd v H hv hP hPM hS => ?_) (fun hcd H hP hPM hS => ?_)
  · refine lv_istore (lv' := [(5, .int (nI 0)), (0, .ref b), (1, .ref (aX 0)), (2, .ref (aM 0)), (3, .ref (aX 6)), (4, .int (nI i))]) hx hb dL_law_686 hl (by decide) rfl (fun ls hl => ?_)
    refine lv_aload_n hx hb dL_law_688 rfl (lv_at hl 3 rfl) ?_
    refine lv_aload_n hx hb dL_law_689 rfl (lv_at hl 1 rfl) ?_
    refine lv_iload hx hb dL_law_690 (lv_at hl 5 rfl) ?_
    refine lv_iconst (v := nI 1) hx hb dL_law_692 (by decide) ?_
    refine lv_iadd hx hb dL_law_693 ?_
    refine zt_ti (nI_add _ _) ?_
    refine zl_sld hx hb hXs hbl hS (i := i + 1) (by omega) (by omega) dL_law_694 ?_
    refine zl_callM (aX := aM) (aM := aX) (zg_runC (rest := []) hx hb hml hown (tM_chosen l hadM hs) (wcL_95 hz (Nat.le_of_ble_eq_true rfl) (Nat.le_of_ble_eq_true rfl)) (hz _ ki_M_chosen) (hz _ ks_M_chosen) (hz _ kC_M_chosen) hPM hK rfl (q0 := 0) rfl rfl hl.1 rfl (Nat.le_of_ble_eq_true rfl) dL_law_695 ⟨by show cells + 1 + 0 ≤ 1050; omega, by show slots + 6 + 0 ≤ 14541; omega⟩) (fun _ h => h) hdis2 hgM zl_atX hP hS (fun u1 H hu hPM hP _ hS => ?_)
    refine W.eq (g2 := F0 m 698 ls [.int u1]) rfl ?_
    have e1 := hu (zc_b_0 hcd)
    subst e1
    refine W.eq (g2 := F0 m 698 ls [.int (nI (S (xs (i + 1)).toNatClampNeg))]) rfl ?_
    refine lv_istore (lv' := [(6, .int (nI (S (xs (i + 1)).toNatClampNeg))), (5, .int (nI 0)), (0, .ref b), (1, .ref (aX 0)), (2, .ref (aM 0)), (3, .ref (aX 6)), (4, .int (nI i))]) hx hb dL_law_698 hl (by decide) rfl (fun ls hl => ?_)
    refine lv_aload_n hx hb dL_law_700 rfl (lv_at hl 4 rfl) ?_
    refine zt_callRi (r := nI (zc_b (zb_in (xs (i + 1)) k))) (zg_run (rest := []) hx hb hml hown (tM_thrown l) (wcL_59 hz (Nat.le_of_ble_eq_true rfl) (Nat.le_of_ble_eq_true rfl)) (hz _ ki_M_thrown) (hz _ ks_M_thrown) (hz _ kC_M_thrown) hPM hK rfl (q0 := 0) rfl rfl hl.1 rfl (Nat.le_of_ble_eq_true rfl) dL_law_701 ⟨by show cells + 1 + 0 ≤ 1050; omega, by show slots + 6 + 0 ≤ 14541; omega⟩) ?_
    refine lv_iload hx hb dL_law_704 (lv_at hl 1 rfl) ?_
    refine lv_icmp_eq (tgt := 711) hx hb dL_law_706 (by decide) (fun _ => ?_) (fun c706 => absurd c706 (not_not_intro (by rw [hcd])))
    refine lv_iload hx hb dL_law_711 (lv_at hl 1 rfl) ?_
    refine lv_if_ne (tgt := 728) hx hb dL_law_713 (by decide) (fun c713 => absurd c713 (not_not_intro (by decide))) (fun _ => ?_)
    refine lv_aload_n hx hb dL_law_716 rfl (lv_at hl 5 rfl) ?_
    refine lv_iconst (v := nI 0) hx hb dL_law_717 (by decide) ?_
    refine zt_lald hx hb hK hP 6 1 rfl rfl (i := 0) (by decide) (by decide) (v := (nI (S (xs (i + 1)).toNatClampNeg)).toInt64) (if_pos rfl) dL_law_718 ?_
    refine lv_iload hx hb dL_law_719 (lv_at hl 0 rfl) ?_
    refine lv_i2l (v := (nI (S (xs (i + 1)).toNatClampNeg)).toInt64) hx hb dL_law_721 (rfl) ?_
    refine zl_same (tgt := 728) hx hb rfl dL_law_722 dL_law_723 (by decide) ?_
    refine lv_goto (tgt := 758) hx hb dL_law_728 (by decide) ?_
    exact kk H D N F k L V S hS ⟨_, _, _, _, _, _, _, _, _, _, _, _, _, hR, hJ, hRm, hs, hV0, hP, hPM⟩ ls (lv_sub hl [2, 3, 4, 5, 6] rfl)
  · refine lv_istore (lv' := [(5, .int (nI (zc_b (zb_in (xs (i + 1)) k)))), (0, .ref b), (1, .ref (aX 0)), (2, .ref (aM 0)), (3, .ref (aX 6)), (4, .int (nI i))]) hx hb dL_law_686 hl (by decide) rfl (fun ls hl => ?_)
    refine lv_aload_n hx hb dL_law_688 rfl (lv_at hl 3 rfl) ?_
    refine lv_aload_n hx hb dL_law_689 rfl (lv_at hl 1 rfl) ?_
    refine lv_iload hx hb dL_law_690 (lv_at hl 5 rfl) ?_
    refine lv_iconst (v := nI 1) hx hb dL_law_692 (by decide) ?_
    refine lv_iadd hx hb dL_law_693 ?_
    refine zt_ti (nI_add _ _) ?_
    refine zl_sld hx hb hXs hbl hS (i := i + 1) (by omega) (by omega) dL_law_694 ?_
    refine zl_callM (aX := aM) (aM := aX) (zg_runC (rest := []) hx hb hml hown (tM_chosen l hadM hs) (wcL_95 hz (Nat.le_of_ble_eq_true rfl) (Nat.le_of_ble_eq_true rfl)) (hz _ ki_M_chosen) (hz _ ks_M_chosen) (hz _ kC_M_chosen) hPM hK rfl (q0 := 0) rfl rfl hl.1 rfl (Nat.le_of_ble_eq_true rfl) dL_law_695 ⟨by show cells + 1 + 0 ≤ 1050; omega, by show slots + 6 + 0 ≤ 14541; omega⟩) (fun _ h => h) hdis2 hgM zl_atX hP hS (fun u1 H hu hPM hP _ hS => ?_)
    refine W.eq (g2 := F0 m 698 ls [.int u1]) rfl ?_
    refine lv_istore (lv' := [(6, .int u1), (5, .int (nI (zc_b (zb_in (xs (i + 1)) k)))), (0, .ref b), (1, .ref (aX 0)), (2, .ref (aM 0)), (3, .ref (aX 6)), (4, .int (nI i))]) hx hb dL_law_698 hl (by decide) rfl (fun ls hl => ?_)
    refine lv_aload_n hx hb dL_law_700 rfl (lv_at hl 4 rfl) ?_
    refine zt_callRi (r := nI (zc_b (zb_in (xs (i + 1)) k))) (zg_run (rest := []) hx hb hml hown (tM_thrown l) (wcL_59 hz (Nat.le_of_ble_eq_true rfl) (Nat.le_of_ble_eq_true rfl)) (hz _ ki_M_thrown) (hz _ ks_M_thrown) (hz _ kC_M_thrown) hPM hK rfl (q0 := 0) rfl rfl hl.1 rfl (Nat.le_of_ble_eq_true rfl) dL_law_701 ⟨by show cells + 1 + 0 ≤ 1050; omega, by show slots + 6 + 0 ≤ 14541; omega⟩) ?_
    refine lv_iload hx hb dL_law_704 (lv_at hl 1 rfl) ?_
    refine lv_icmp_eq (tgt := 711) hx hb dL_law_706 (by decide) (fun _ => ?_) (fun c706 => absurd c706 (not_not_intro rfl))
    refine lv_iload hx hb dL_law_711 (lv_at hl 1 rfl) ?_
    refine lv_if_ne (tgt := 728) hx hb dL_law_713 (by decide) (fun _ => ?_) (fun c713 => absurd c713 (zc_ne hcd (zc_b_le _)))
    refine lv_goto (tgt := 758) hx hb dL_law_728 (by decide) ?_
    exact kk H D N F k L V S hS ⟨_, _, _, _, _, _, _, _, _, _, _, _, _, hR, hJ, hRm, hs, hV0, hP, hPM⟩ ls (lv_sub hl [2, 3, 4, 5, 6] rfl)
set_option maxHeartbeats 4000000 in
set_option maxRecDepth 100000 in
/-- case 3: views -/
theorem zl_c3 {p : Program} {l : Launch} {e : Env} {s : State} {m : MethodId} {below : List Frame} {meth : Method} {c : Code} {b n : Nat} {xs : Nat → Int32} {dC : Nat → ClassId} {dI : Nat → Nat → Nat} {cI cJ cB : ClassId} {aX aM : Nat → Nat} (C : zl_C p l s m c b n xs dC dI cI cJ cB aX aM) {cells slots i : Nat} (hc9 : cells + 1 ≤ 1050) (hs9 : slots + 6 ≤ 14541) (hi : i + 4 ≤ n) {H : Heap} (hS : va_S (zl_A s.heap.size) s.heap H []) {D N F k : Nat} {L V S : Nat → Nat} (hI : zl_I dC dI cI cJ cB aX aM H D N F k L V S) {ls : Array Slot} (hl : lv_has ls 8 [(0, .ref b), (1, .ref (aX 0)), (2, .ref (aM 0)), (3, .ref (aX 6)), (4, .int (nI i))]) {Q : State → Prop}
    (kk : ∀ (H : Heap) (D N F k : Nat) (L V S : Nat → Nat), va_S (zl_A s.heap.size) s.heap H [] → zl_I dC dI cI cJ cB aX aM H D N F k L V S → ∀ ls : Array Slot, lv_has ls 8 [(0, .ref b), (1, .ref (aX 0)), (2, .ref (aM 0)), (3, .ref (aX 6)), (4, .int (nI i))] → W p l e room_1 s m #[Value.ref b] below meth c H [] (cells + 1) (slots + 6) Q (F0 m 758 ls [])) : W p l e room_1 s m #[Value.ref b] below meth c H [] cells slots Q (F0 m 296 ls []) := by
  obtain ⟨hx, hb, hml, hown, hz, hK, hTS, hNc, hst, hadX, hadM, hdis, hgX, hgM, hXs, hbl, hn⟩ := C
  obtain ⟨lev, val, pkd, cst, chs, f, levm, valm, chsm, dig, est, cstm, code, hR, hJ, hRm, hs, hV0, hP, hPM⟩ := hI
  have hk := hs.1
  have hdis2 : ∀ i j, i < 7 → j < 7 → aM i ≠ aX j := fun i j hi hj e => hdis j i hj hi e.symm
  have hPx := hP.sub (ws' := zx_w aX cI cJ lev val pkd cst chs D N F k) [0, 1, 2, 3, 4, 5] rfl
  refine lv_aload_n hx hb dL_law_296 rfl (lv_at hl 1 rfl) ?_
  refine zt_callRi (zg_run (rest := []) hx hb hml hown (tX_views l) (wcL_69 hz (Nat.le_of_ble_eq_true rfl) (Nat.le_of_ble_eq_true rfl)) (hz _ ki_X_views) (hz _ ks_X_views) (hz _ kC_X_views) hPx hK rfl (q0 := 0) rfl rfl hl.1 rfl (Nat.le_of_ble_eq_true rfl) dL_law_297 ⟨by show cells + 0 ≤ 1050; omega, by show slots + 0 ≤ 14541; omega⟩) ?_
  refine lv_aload_n hx hb dL_law_300 rfl (lv_at hl 2 rfl) ?_
  refine zl_callM (aX := aM) (aM := aX) (zg_runC (rest := [.int (nI N)]) hx hb hml hown (tM_views l hadM) (wcL_72 hz (Nat.le_of_ble_eq_true rfl) (Nat.le_of_ble_eq_true rfl)) (hz _ ki_M_views) (hz _ ks_M_views) (hz _ kC_M_views) hPM hK rfl (q0 := 0) rfl rfl hl.1 rfl (Nat.le_of_ble_eq_true rfl) dL_law_301 ⟨by show cells + 0 ≤ 1050; omega, by show slots + 0 ≤ 14541; omega⟩) (fun _ h => h) hdis2 hgM zl_atX hP hS (fun u H _ hPM hP _ hS => ?_)
  refine W.eq (g2 := F0 m 304 ls [.int (nI N), .int (nI N)]) rfl ?_
  refine lv_icmp_eq (tgt := 758) hx hb dL_law_304 (by decide) (fun _ => ?_) (fun c304 => absurd c304 (not_not_intro rfl))
  refine W.widen (k := cells + 1) (n := slots + 6) (by omega) (by omega) ?_
  exact kk H D N F k L V S hS ⟨_, _, _, _, _, _, _, _, _, _, _, _, _, hR, hJ, hRm, hs, hV0, hP, hPM⟩ ls (lv_sub hl [0, 1, 2, 3, 4] rfl)
set_option maxHeartbeats 4000000 in
set_option maxRecDepth 100000 in
/-- case 11: drop -/
theorem zl_c11 {p : Program} {l : Launch} {e : Env} {s : State} {m : MethodId} {below : List Frame} {meth : Method} {c : Code} {b n : Nat} {xs : Nat → Int32} {dC : Nat → ClassId} {dI : Nat → Nat → Nat} {cI cJ cB : ClassId} {aX aM : Nat → Nat} (C : zl_C p l s m c b n xs dC dI cI cJ cB aX aM) {cells slots i : Nat} (hc9 : cells + 1 ≤ 1050) (hs9 : slots + 6 ≤ 14541) (hi : i + 4 ≤ n) {H : Heap} (hS : va_S (zl_A s.heap.size) s.heap H []) {D N F k : Nat} {L V S : Nat → Nat} (hI : zl_I dC dI cI cJ cB aX aM H D N F k L V S) {ls : Array Slot} (hl : lv_has ls 8 [(0, .ref b), (1, .ref (aX 0)), (2, .ref (aM 0)), (3, .ref (aX 6)), (4, .int (nI i))]) {Q : State → Prop}
    (kk : ∀ (H : Heap) (D N F k : Nat) (L V S : Nat → Nat), va_S (zl_A s.heap.size) s.heap H [] → zl_I dC dI cI cJ cB aX aM H D N F k L V S → ∀ ls : Array Slot, lv_has ls 8 [(0, .ref b), (1, .ref (aX 0)), (2, .ref (aM 0)), (3, .ref (aX 6)), (4, .int (nI i))] → W p l e room_1 s m #[Value.ref b] below meth c H [] (cells + 1) (slots + 6) Q (F0 m 758 ls [])) : W p l e room_1 s m #[Value.ref b] below meth c H [] cells slots Q (F0 m 731 ls []) := by
  obtain ⟨hx, hb, hml, hown, hz, hK, hTS, hNc, hst, hadX, hadM, hdis, hgX, hgM, hXs, hbl, hn⟩ := C
  obtain ⟨lev, val, pkd, cst, chs, f, levm, valm, chsm, dig, est, cstm, code, hR, hJ, hRm, hs, hV0, hP, hPM⟩ := hI
  have hk := hs.1
  have hdis2 : ∀ i j, i < 7 → j < 7 → aM i ≠ aX j := fun i j hi hj e => hdis j i hj hi e.symm
  have hPx := hP.sub (ws' := zx_w aX cI cJ lev val pkd cst chs D N F k) [0, 1, 2, 3, 4, 5] rfl
  refine lv_aload_n hx hb dL_law_731 rfl (lv_at hl 1 rfl) ?_
  have hP6 := hP.sub (ws' := zo_w aX cJ f) [6] rfl
  have h6 : aX 6 < H.size := (hP6 0 _ rfl).lt
  refine zl_callM (aX := aX) (aM := aM) (zg_runC (rest := []) hx hb hml hown (tX_drop l (zg_ap6 hadX) hR.2.2.2.2.1) (wcL_96 hz (Nat.le_of_ble_eq_true rfl) (Nat.le_of_ble_eq_true rfl)) (hz _ ki_X_drop) (hz _ ks_X_drop) (hz _ kC_X_drop) hPx hK rfl (q0 := 0) rfl rfl hl.1 rfl (Nat.le_of_ble_eq_true rfl) dL_law_732 ⟨by show cells + 0 ≤ 1050; omega, by show slots + 0 ≤ 14541; omega⟩) (fun _ h => zg_A67 h) hdis hgX zl_atM hPM hS (fun v H hv hPx hPM hk9 hS => ?_)
  refine W.eq (g2 := F0 m 735 ls [.int (nI k)]) rfl ?_
  have hP := hPx.app (hP6.kept (H1 := H) (fun j q hjq => ?_))
  rotate_left
  · have hz1 : j < 1 := (List.getElem?_eq_some_iff.mp hjq).1
    rw [show j = 0 by omega] at hjq
    cases hjq
    exact hk9 _ h6 (zg_not6 hadX h6)
  refine lv_aload_n hx hb dL_law_735 rfl (lv_at hl 2 rfl) ?_
  refine zl_callM (aX := aM) (aM := aX) (zg_runC (rest := [.int (nI k)]) hx hb hml hown (tM_drop l hadM) (wcL_99 hz (Nat.le_of_ble_eq_true rfl) (Nat.le_of_ble_eq_true rfl)) (hz _ ki_M_drop) (hz _ ks_M_drop) (hz _ kC_M_drop) hPM hK rfl (q0 := 0) rfl rfl hl.1 rfl (Nat.le_of_ble_eq_true rfl) dL_law_736 ⟨by show cells + 0 ≤ 1050; omega, by show slots + 0 ≤ 14541; omega⟩) (fun _ h => h) hdis2 hgM zl_atX hP hS (fun u H _ hPM hP _ hS => ?_)
  refine W.eq (g2 := F0 m 739 ls [.int (nI k), .int (nI k)]) rfl ?_
  refine lv_icmp_eq (tgt := 758) hx hb dL_law_739 (by decide) (fun _ => ?_) (fun c739 => absurd c739 (not_not_intro rfl))
  refine W.widen (k := cells + 1) (n := slots + 6) (by omega) (by omega) ?_
  exact kk H D N F 0 L V S hS ⟨_, _, _, _, _, _, _, _, _, _, _, _, _, hR, zx_J0 hR.2.2.2.1 hv, hRm, zm_S0, hV0, hP, hPM⟩ ls (lv_sub hl [0, 1, 2, 3, 4] rfl)
set_option maxHeartbeats 4000000 in
set_option maxRecDepth 100000 in
/-- case 12: total -/
theorem zl_c12 {p : Program} {l : Launch} {e : Env} {s : State} {m : MethodId} {below : List Frame} {meth : Method} {c : Code} {b n : Nat} {xs : Nat → Int32} {dC : Nat → ClassId} {dI : Nat → Nat → Nat} {cI cJ cB : ClassId} {aX aM : Nat → Nat} (C : zl_C p l s m c b n xs dC dI cI cJ cB aX aM) {cells slots i : Nat} (hc9 : cells + 1 ≤ 1050) (hs9 : slots + 6 ≤ 14541) (hi : i + 4 ≤ n) {H : Heap} (hS : va_S (zl_A s.heap.size) s.heap H []) {D N F k : Nat} {L V S : Nat → Nat} (hI : zl_I dC dI cI cJ cB aX aM H D N F k L V S) {ls : Array Slot} (hl : lv_has ls 8 [(0, .ref b), (1, .ref (aX 0)), (2, .ref (aM 0)), (3, .ref (aX 6)), (4, .int (nI i))]) {Q : State → Prop}
    (kk : ∀ (H : Heap) (D N F k : Nat) (L V S : Nat → Nat), va_S (zl_A s.heap.size) s.heap H [] → zl_I dC dI cI cJ cB aX aM H D N F k L V S → ∀ ls : Array Slot, lv_has ls 8 [(0, .ref b), (1, .ref (aX 0)), (2, .ref (aM 0)), (3, .ref (aX 6)), (4, .int (nI i))] → W p l e room_1 s m #[Value.ref b] below meth c H [] (cells + 1) (slots + 6) Q (F0 m 758 ls [])) : W p l e room_1 s m #[Value.ref b] below meth c H [] cells slots Q (F0 m 744 ls []) := by
  obtain ⟨hx, hb, hml, hown, hz, hK, hTS, hNc, hst, hadX, hadM, hdis, hgX, hgM, hXs, hbl, hn⟩ := C
  obtain ⟨lev, val, pkd, cst, chs, f, levm, valm, chsm, dig, est, cstm, code, hR, hJ, hRm, hs, hV0, hP, hPM⟩ := hI
  have hk := hs.1
  have hdis2 : ∀ i j, i < 7 → j < 7 → aM i ≠ aX j := fun i j hi hj e => hdis j i hj hi e.symm
  have hPx := hP.sub (ws' := zx_w aX cI cJ lev val pkd cst chs D N F k) [0, 1, 2, 3, 4, 5] rfl
  refine lv_aload_n hx hb dL_law_744 rfl (lv_at hl 1 rfl) ?_
  refine zt_callRl (zg_run (rest := []) hx hb hml hown (tX_total l (zx_J_c hJ) hR.2.2.2.1) (wcL_100 hz (Nat.le_of_ble_eq_true rfl) (Nat.le_of_ble_eq_true rfl)) (hz _ ki_X_total) (hz _ ks_X_total) (hz _ kC_X_total) hPx hK rfl (q0 := 0) rfl rfl hl.1 rfl (Nat.le_of_ble_eq_true rfl) dL_law_745 ⟨by show cells + 0 ≤ 1050; omega, by show slots + 0 ≤ 14541; omega⟩) ?_
  refine lv_aload_n hx hb dL_law_748 rfl (lv_at hl 2 rfl) ?_
  refine zl_callM (aX := aM) (aM := aX) (zg_runC (rest := [.long (lN (zq_sm (zq_ct (zq_es L V D F) (zq_ab L D) F S k) N))]) hx hb hml hown (tM_total l hadM hRm hs) (wcL_104 hz (Nat.le_of_ble_eq_true rfl) (Nat.le_of_ble_eq_true rfl)) (hz _ ki_M_total) (hz _ ks_M_total) (hz _ kC_M_total) hPM hK rfl (q0 := 0) rfl rfl hl.1 rfl (Nat.le_of_ble_eq_true rfl) dL_law_749 ⟨by show cells + 0 ≤ 1050; omega, by show slots + 0 ≤ 14541; omega⟩) (fun _ h => h) hdis2 hgM zl_atX hP hS (fun ⟨u1, u2⟩ H _ hPM hP _ hS => ?_)
  refine W.eq (g2 := F0 m 752 ls [.long (lN (zq_sm (zq_ct (zq_es L V D F) (zq_ab L D) F S k) N)), .long (lN (zq_sm (zq_ct (zq_es L V D F) (zq_ab L D) F S k) N))]) rfl ?_
  refine zl_same (tgt := 758) hx hb rfl dL_law_752 dL_law_753 (by decide) ?_
  refine W.widen (k := cells + 1) (n := slots + 6) (by omega) (by omega) ?_
  exact kk H D N F k L V S hS ⟨_, _, _, _, _, _, _, _, _, _, _, _, _, hR, hJ, hRm, hs, hV0, hP, hPM⟩ ls (lv_sub hl [0, 1, 2, 3, 4] rfl)
