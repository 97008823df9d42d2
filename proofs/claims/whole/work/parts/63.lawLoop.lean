/-! the law's loop: by program (wip/gen/law_loop.py) -/
theorem zl_lt {n i : Nat} (hn : n ≤ 2048) (hi : i ≤ 2048) : nI n - nI 4 < nI i ↔ n < i + 4 := by
  by_cases h : 4 ≤ n
  · rw [pk_sub h, nI_ltI (by omega) (by omega)]
    omega
  · have h1 : nI n - nI 4 < 0 := by
      rcases (show n = 0 ∨ n = 1 ∨ n = 2 ∨ n = 3 by omega) with rfl | rfl | rfl | rfl <;> decide
    exact ⟨fun _ => by omega, fun _ => Int32.lt_of_lt_of_le h1 (nI_pos' (by omega))⟩
set_option maxHeartbeats 4000000 in
set_option maxRecDepth 100000 in
/-- the script is done -/
theorem zl_exit {p : Program} {l : Launch} {e : Env} {s : State} {m : MethodId} {below : List Frame} {meth : Method} {c : Code} {b n : Nat} {xs : Nat → Int32} {dC : Nat → ClassId} {dI : Nat → Nat → Nat} {cI cJ cB : ClassId} {aX aM : Nat → Nat} (C : zl_C p l s m c b n xs dC dI cI cJ cB aX aM) (hr : meth.sig.returnType = ret) (hlocks : meth.locks = false) {cells slots i : Nat} (hc9 : cells ≤ 1050) (hs9 : slots ≤ 14541) (hi : i ≤ n) (hi2 : n < i + 4) {H : Heap} (hS : va_S (zl_A s.heap.size) s.heap H []) {ls : Array Slot} (hl : lv_has ls 8 [(0, .ref b), (1, .ref (aX 0)), (2, .ref (aM 0)), (3, .ref (aX 6)), (4, .int (nI i))]) : W p l e room_1 s m #[Value.ref b] below meth c H [] cells slots (lw_Z below #[Value.ref b] s) (F0 m 23 ls []) := by
  obtain ⟨hx, hb, hml, hown, hz, hK, hTS, hNc, hst, hadX, hadM, hdis, hgX, hgM, hXs, hbl, hn⟩ := C
  refine lv_iload hx hb dL_law_23 (lv_at hl 4 rfl) ?_
  refine lv_aload_n hx hb dL_law_25 rfl (lv_at hl 0 rfl) ?_
  refine zl_slen hx hb hXs hbl hS dL_law_26 ?_
  refine lv_iconst (v := nI 4) hx hb dL_law_27 (by decide) ?_
  refine lv_isub hx hb dL_law_28 ?_
  refine lv_icmp_gt (tgt := 764) hx hb dL_law_29 (by decide) (fun _ => ?_) (fun c29 => absurd c29 (not_not_intro ((zl_lt hn (by omega)).mpr hi2)))
  refine lv_iconst (v := 1) hx hb dL_law_764 (by decide) ?_
  refine W.widen (k := 1050) (n := 14541) hc9 hs9 ?_
  exact lw_ret hx hb hr hlocks dL_law_765
set_option maxHeartbeats 4000000 in
set_option maxRecDepth 100000 in
/-- one call of the script -/
theorem zl_step {p : Program} {l : Launch} {e : Env} {s : State} {m : MethodId} {below : List Frame} {meth : Method} {c : Code} {b n : Nat} {xs : Nat → Int32} {dC : Nat → ClassId} {dI : Nat → Nat → Nat} {cI cJ cB : ClassId} {aX aM : Nat → Nat} (C : zl_C p l s m c b n xs dC dI cI cJ cB aX aM) {cells slots i : Nat} (hc9 : cells + 1 ≤ 1050) (hs9 : slots + 6 ≤ 14541) (hi : i + 4 ≤ n) {H : Heap} (hS : va_S (zl_A s.heap.size) s.heap H []) {D N F k : Nat} {L V S : Nat → Nat} (hI : zl_I dC dI cI cJ cB aX aM H D N F k L V S) {ls : Array Slot} (hl : lv_has ls 8 [(0, .ref b), (1, .ref (aX 0)), (2, .ref (aM 0)), (3, .ref (aX 6)), (4, .int (nI i))]) {Q : State → Prop}
    (kk : ∀ (H : Heap) (D N F k : Nat) (L V S : Nat → Nat), va_S (zl_A s.heap.size) s.heap H [] → zl_I dC dI cI cJ cB aX aM H D N F k L V S → ∀ ls : Array Slot, lv_has ls 8 [(0, .ref b), (1, .ref (aX 0)), (2, .ref (aM 0)), (3, .ref (aX 6)), (4, .int (nI (i + 4)))] → W p l e room_1 s m #[Value.ref b] below meth c H [] (cells + 1) (slots + 6) Q (F0 m 23 ls [])) : W p l e room_1 s m #[Value.ref b] below meth c H [] cells slots Q (F0 m 23 ls []) := by
  have C0 := C
  obtain ⟨hx, hb, hml, hown, hz, hK, hTS, hNc, hst, hadX, hadM, hdis, hgX, hgM, hXs, hbl, hn⟩ := C
  have kk2 : ∀ (H : Heap) (D N F k : Nat) (L V S : Nat → Nat), va_S (zl_A s.heap.size) s.heap H [] → zl_I dC dI cI cJ cB aX aM H D N F k L V S → ∀ ls : Array Slot, lv_has ls 8 [(0, .ref b), (1, .ref (aX 0)), (2, .ref (aM 0)), (3, .ref (aX 6)), (4, .int (nI i))] → W p l e room_1 s m #[Value.ref b] below meth c H [] (cells + 1) (slots + 6) Q (F0 m 758 ls []) := by
    intro H D N F k L V S hS hI ls hl
    refine lv_iinc (v := nI (i + 4)) (lv' := [(4, .int (nI (i + 4))), (0, .ref b), (1, .ref (aX 0)), (2, .ref (aM 0)), (3, .ref (aX 6))]) hx hb dL_law_758 hl (k := 4) rfl (nI_add i 4) (by decide) rfl (fun ls hl => ?_)
    refine lv_goto (tgt := 23) hx hb dL_law_761 (by decide) ?_
    exact kk H D N F k L V S hS hI ls (lv_sub hl [1, 2, 3, 4, 0] rfl)
  refine lv_iload hx hb dL_law_23 (lv_at hl 4 rfl) ?_
  refine lv_aload_n hx hb dL_law_25 rfl (lv_at hl 0 rfl) ?_
  refine zl_slen hx hb hXs hbl hS dL_law_26 ?_
  refine lv_iconst (v := nI 4) hx hb dL_law_27 (by decide) ?_
  refine lv_isub hx hb dL_law_28 ?_
  refine lv_icmp_gt (tgt := 764) hx hb dL_law_29 (by decide) (fun c29 => absurd c29 (fun q => absurd ((zl_lt hn (by omega)).mp q) (by omega))) (fun _ => ?_)
  refine lv_aload_n hx hb dL_law_32 rfl (lv_at hl 0 rfl) ?_
  refine lv_iload hx hb dL_law_33 (lv_at hl 4 rfl) ?_
  refine zl_sld hx hb hXs hbl hS (i := i) (by omega) (by omega) dL_law_35 ?_
  refine lv_bipush (v := nI 15) hx hb dL_law_36 (by decide) ?_
  refine lv_iand hx hb dL_law_38 ?_
  obtain ⟨t, ht, et⟩ := pk_andE (xs i) (m := nI 15) 4 (by decide)
  rw [et]
  rcases (show t = 0 ∨ t = 1 ∨ t = 2 ∨ t = 3 ∨ t = 4 ∨ t = 5 ∨ t = 6 ∨ t = 7 ∨ t = 8 ∨ t = 9 ∨ t = 10 ∨ t = 11 ∨ t = 12 ∨ t = 13 ∨ t = 14 ∨ t = 15 by have h16 : t < 16 := ht; omega) with rfl | rfl | rfl | rfl | rfl | rfl | rfl | rfl | rfl | rfl | rfl | rfl | rfl | rfl | rfl | rfl
  · exact lv_tableIn (off := 65) (tgt := 104) hx hb dL_law_39 (by decide) (by decide) (by decide) (by decide) (zl_c0 C0 hc9 hs9 hi hS hI hl kk2)
  · exact lv_tableIn (off := 121) (tgt := 160) hx hb dL_law_39 (by decide) (by decide) (by decide) (by decide) (zl_c1 C0 hc9 hs9 hi hS hI hl kk2)
  · exact lv_tableIn (off := 201) (tgt := 240) hx hb dL_law_39 (by decide) (by decide) (by decide) (by decide) (zl_c2 C0 hc9 hs9 hi hS hI hl kk2)
  · exact lv_tableIn (off := 257) (tgt := 296) hx hb dL_law_39 (by decide) (by decide) (by decide) (by decide) (zl_c3 C0 hc9 hs9 hi hS hI hl kk2)
  · exact lv_tableIn (off := 270) (tgt := 309) hx hb dL_law_39 (by decide) (by decide) (by decide) (by decide) (zl_c4 C0 hc9 hs9 hi hS hI hl kk2)
  · exact lv_tableIn (off := 338) (tgt := 377) hx hb dL_law_39 (by decide) (by decide) (by decide) (by decide) (zl_c5 C0 hc9 hs9 hi hS hI hl kk2)
  · exact lv_tableIn (off := 413) (tgt := 452) hx hb dL_law_39 (by decide) (by decide) (by decide) (by decide) (zl_c6 C0 hc9 hs9 hi hS hI hl kk2)
  · exact lv_tableIn (off := 480) (tgt := 519) hx hb dL_law_39 (by decide) (by decide) (by decide) (by decide) (zl_c7 C0 hc9 hs9 hi hS hI hl kk2)
  · exact lv_tableIn (off := 536) (tgt := 575) hx hb dL_law_39 (by decide) (by decide) (by decide) (by decide) (zl_c8 C0 hc9 hs9 hi hS hI hl kk2)
  · exact lv_tableIn (off := 580) (tgt := 619) hx hb dL_law_39 (by decide) (by decide) (by decide) (by decide) (zl_c9 C0 hc9 hs9 hi hS hI hl kk2)
  · exact lv_tableIn (off := 636) (tgt := 675) hx hb dL_law_39 (by decide) (by decide) (by decide) (by decide) (zl_c10 C0 hc9 hs9 hi hS hI hl kk2)
  · exact lv_tableIn (off := 692) (tgt := 731) hx hb dL_law_39 (by decide) (by decide) (by decide) (by decide) (zl_c11 C0 hc9 hs9 hi hS hI hl kk2)
  · exact lv_tableIn (off := 705) (tgt := 744) hx hb dL_law_39 (by decide) (by decide) (by decide) (by decide) (zl_c12 C0 hc9 hs9 hi hS hI hl kk2)
  · exact lv_tableOut (tgt := 758) hx hb dL_law_39 (by decide) (by decide) (W.widen (k := cells + 1) (n := slots + 6) (by omega) (by omega) (kk2 H D N F k L V S hS hI ls hl))
  · exact lv_tableOut (tgt := 758) hx hb dL_law_39 (by decide) (by decide) (W.widen (k := cells + 1) (n := slots + 6) (by omega) (by omega) (kk2 H D N F k L V S hS hI ls hl))
  · exact lv_tableOut (tgt := 758) hx hb dL_law_39 (by decide) (by decide) (W.widen (k := cells + 1) (n := slots + 6) (by omega) (by omega) (kk2 H D N F k L V S hS hI ls hl))
set_option maxHeartbeats 4000000 in
set_option maxRecDepth 100000 in
/-- the loop -/
theorem zl_loop {p : Program} {l : Launch} {e : Env} {s : State} {m : MethodId} {below : List Frame} {meth : Method} {c : Code} {b n : Nat} {xs : Nat → Int32} {dC : Nat → ClassId} {dI : Nat → Nat → Nat} {cI cJ cB : ClassId} {aX aM : Nat → Nat} (C : zl_C p l s m c b n xs dC dI cI cJ cB aX aM) (hr : meth.sig.returnType = ret) (hlocks : meth.locks = false) : ∀ (r j : Nat), n ≤ 4 * j + r → 4 * j ≤ n → ∀ (H : Heap) (D N F k : Nat) (L V S : Nat → Nat), va_S (zl_A s.heap.size) s.heap H [] → zl_I dC dI cI cJ cB aX aM H D N F k L V S → ∀ ls : Array Slot, lv_has ls 8 [(0, .ref b), (1, .ref (aX 0)), (2, .ref (aM 0)), (3, .ref (aX 6)), (4, .int (nI (4 * j)))] → W p l e room_1 s m #[Value.ref b] below meth c H [] (14 + j) (6277 + 6 * j) (lw_Z below #[Value.ref b] s) (F0 m 23 ls []) := by
  have hn : n ≤ 2048 := C.2.2.2.2.2.2.2.2.2.2.2.2.2.2.2.2
  intro r
  induction r with
  | zero =>
    intro j h1 h2 H D N F k L V S hS hI ls hl
    exact zl_exit C hr hlocks (by omega) (by omega) h2 (by omega) hS hl
  | succ r ih =>
    intro j h1 h2 H D N F k L V S hS hI ls hl
    by_cases h : 4 * j + 4 ≤ n
    · refine zl_step C (by omega) (by omega) h hS hI hl (fun H D N F k L V S hS hI ls hl => ?_)
      exact ih (j + 1) (by omega) (by omega) H D N F k L V S hS hI ls hl
    · exact zl_exit C hr hlocks (by omega) (by omega) h2 (by omega) hS hl
