/-! the law's start: by program (wip/gen/law_start.py) -/
theorem zs_w1 : ∀ q ∈ zs_list, Cond.stringRef RX q.1 q.2 ∈ lw_tbl := by decide +kernel
theorem zs_w2 : ∀ q ∈ zs_list, Cond.exactly (.string RX q.1) "java/lang/String" ∈ flatC (Jvm.Cond.and given_1 narrow_1) := by decide +kernel
theorem zs_w3 : Cond.laysStatic Bundle.tN "UNASSIGNED_STACK" Bundle.steD ∈ lw_tbl ∧ Cond.laysStatic Bundle.tN "SUPPRESSED_SENTINEL" Bundle.listD ∈ lw_tbl ∧ Cond.initialized Bundle.tN ∈ lw_tbl := by decide +kernel
theorem zs_w4 : Cond.isRef (.static Bundle.tN "UNASSIGNED_STACK" Bundle.steD) ∈ flatC (Jvm.Cond.and given_1 narrow_1) ∧ Cond.isRef (.static Bundle.tN "SUPPRESSED_SENTINEL" Bundle.listD) ∈ flatC (Jvm.Cond.and given_1 narrow_1) ∧ Cond.not (.castable zE_S zE_A) ∈ flatC (Jvm.Cond.and given_1 narrow_1) := by decide +kernel
theorem zl_given {b : Nat} {s : State} (hts : ∀ w ∈ lw_tbl, w.before #[Value.ref b] s = true) (hgv : (Jvm.Cond.and given_1 narrow_1).before #[Value.ref b] s = true) : zt_TS s ∧ va_Nc zE_S zE_A s := by
  have hg := flat_of_before _ hgv
  refine ⟨⟨vx_Zqof (hts _ zs_w3.1) (hts _ zs_w3.2.2) (hg _ zs_w4.1) (fun _ _ h => h), vx_Zqof (hts _ zs_w3.2.1) (hts _ zs_w3.2.2) (hg _ zs_w4.2.1) (fun _ _ h => h), fun q hq => ?_⟩, va_Nc.of (hg _ zs_w4.2.2)⟩
  have h1 := hts _ (zs_w1 q hq)
  obtain ⟨a, c, cA, kA, q1, -⟩ := Cond.exactly_spec (args := #[Value.ref b]) (first := s) (o := none) (s := s) (idx := []) (t := .string RX q.1) (cls := "java/lang/String") (hg _ (zs_w2 q hq))
  exact ⟨a, h1, q1⟩
theorem zl_Karr {b : Nat} {s : State} {ty : FieldType} (hty : ty = .int ∨ ty = .long ∨ ty = .byte) (h : (Cond.arrayClass ty).before #[Value.ref b] s = true) : ∃ cA : ClassId, ArrOfT s cA ty ∧ va_RA s cA ty := by
  obtain ⟨cA, kA, comp, h1, h2, h3⟩ := Cond.arrayClass_spec h
  refine ⟨cA, fun n z => ⟨fun k h => (by cases h), kA, h2, comp, h3⟩, ?_⟩
  rcases hty with rfl | rfl | rfl <;> exact h1
theorem zl_K {b : Nat} {s : State} (hz : ∀ w ∈ zw0, w.before #[Value.ref b] s = true) : ∃ (dC : Nat → ClassId) (dI : Nat → Nat → Nat) (cI cJ cB : ClassId), va_K (dC, dI) zcl (zg_T cI cJ cB) s := by
  obtain ⟨cX, iX, hX⟩ := u_known (C := RX) (T := TX) (N := 9) hz in_X (hz _ kt_ViewChooser)
  obtain ⟨cM, iM, hM⟩ := u_known (C := RM) (T := TM) (N := 11) hz in_M (hz _ kt_ViewChooserModel)
  obtain ⟨cI, hI⟩ := zl_Karr (Or.inl rfl) (hz _ ka_int)
  obtain ⟨cJ, hJ⟩ := zl_Karr (Or.inr (Or.inl rfl)) (hz _ ka_long)
  obtain ⟨cB, hB⟩ := zl_Karr (Or.inr (Or.inr rfl)) (hz _ ka_byte)
  refine ⟨fun k => match k with | 0 => cX | _ => cM, fun k => match k with | 0 => iX | _ => iM, cI, cJ, cB, fun k q hq => ?_, fun k q hq => ?_⟩
  · match k, hq with
    | 0, hq => cases hq; exact hX
    | 1, hq => cases hq; exact hM
    | k + 2, hq => simp at hq
  · match k, hq with
    | 0, hq => cases hq; exact hI
    | 1, hq => cases hq; exact hJ
    | 2, hq => cases hq; exact hB
    | k + 3, hq => simp at hq
/-- both objects as they are new -/
theorem zl_I0 {dC : Nat → ClassId} {dI : Nat → Nat → Nat} {cI cJ cB : ClassId} {aX aM : Nat → Nat} {H : Heap} (hP : va_P (dC, dI) zcl (zx_w aX cI cJ (fun _ => 0) (fun _ => 0) (fun _ => 0) (fun _ => 0) (fun _ => 0) 0 1 0 0 ++ zo_w aX cJ (fun _ => 0)) H) (hPM : va_P (dC, dI) zcl (zm_w aM cI cJ cB (fun _ => 0) (fun _ => 0) (fun _ => 0) (fun _ => 0) (fun _ => 0) (fun _ => 0) 0 0 1 0 0) H) :
    zl_I dC dI cI cJ cB aX aM H 0 1 0 0 (fun _ => 0) (fun _ => 0) (fun _ => 0) := by
  refine ⟨_, _, _, _, _, _, _, _, _, _, _, _, _, ⟨by decide, fun j hj => absurd hj (Nat.not_lt_zero j), rfl, by decide, by decide, fun _ => Nat.zero_le _, fun j hj => absurd hj (Nat.not_lt_zero j), fun _ _ => (by decide : (0 : Int32) = nI 0), fun _ _ => (by decide : (0 : Int32) = nI 0)⟩, zx_J0 (by decide) (fun _ _ => by decide), ⟨by decide, fun j hj => absurd hj (Nat.not_lt_zero j), rfl, by decide, by decide, fun _ => Nat.zero_le _, fun j hj => absurd hj (Nat.not_lt_zero j), fun _ _ => (by decide : (0 : Int32) = nI 0), fun _ _ d hd => absurd hd (Nat.not_lt_zero d)⟩, zm_S0, fun _ _ => rfl, hP, hPM⟩
set_option maxHeartbeats 4000000 in
set_option maxRecDepth 100000 in
/-- YOUR PART: from the entry, for every script of at most 2048 ints, the law comes to its end with true -/
theorem whole_start {p : Program} {e : Env} {s : State} {m : MethodId} {below : List Frame} {meth : Method} {c : Code} (l : Launch) (hst : l.stackTraces = false) {b n : Nat} {xs : Nat → Int32} (hn : n ≤ 2048) (C0 : lw_At p s m meth c b n xs) : W p l e room_1 s m #[Value.ref b] below meth c s.heap [] 0 0 (lw_Z below #[Value.ref b] s) (entryFrame m ([Value.ref b] : List Value).toArray 8) := by
  obtain ⟨hx, hb, hr, hml, hown, hts, hXs, hbl, hlocks, hgv⟩ := C0
  have hz : ∀ w ∈ zw0, w.before #[Value.ref b] s = true := fun w hw => hts w (List.mem_filter.mp hw).1
  obtain ⟨hTS, hNc⟩ := zl_given hts hgv
  obtain ⟨dC, dI, cI, cJ, cB, hK⟩ := zl_K hz
  have hl := lv_entry ([.ref b]) (n := 8) (Nat.le_of_ble_eq_true rfl)
  rw [lg_entry_eq]
  generalize (lg_sl ([.ref b]) ++ List.replicate (8 - (lg_sl ([.ref b])).length) Slot.unset).toArray = ls at hl ⊢
  have hl : lv_has ls 8 [(0, .ref b)] := hl
  have hS : va_S (zl_A s.heap.size) s.heap s.heap [] := va_S.rf
  have hA : ∀ q : Nat, s.heap.size ≤ q → zl_A s.heap.size q := fun q h => h
  have hP : va_P (dC, dI) zcl [] s.heap := fun k q h => by simp at h
  have hD : va_D (zl_A s.heap.size) [] := ⟨fun i j p q h => by simp at h, fun k q h => by simp at h⟩
  refine va_new (D := (dC, dI)) (ci := 0) (fs := [.null, .null, .null, .null, .null, .int 0, .int 0, .int 0, .int 0]) (C := RX) (T := TX) (N := 9) hx hb hz in_X tyX tyX_ok hown (hz _ kc_L_8) (hz _ kt_ViewChooser) (hz _ kin_ViewChooser) hK hP hD hS hA rfl (fun j hj => by rcases (show j = 0 ∨ j = 1 ∨ j = 2 ∨ j = 3 ∨ j = 4 ∨ j = 5 ∨ j = 6 ∨ j = 7 ∨ j = 8 by omega) with rfl | rfl | rfl | rfl | rfl | rfl | rfl | rfl | rfl <;> rfl) (Nat.le_of_ble_eq_true rfl) (Nat.le_of_ble_eq_true rfl) dL_law_0 (fun q H hP hD hS => ?_)
  have hP : va_P (dC, dI) zcl [(q, .inr (0, [.null, .null, .null, .null, .null, .int 0, .int 0, .int 0, .int 0]))] H := hP
  have hq : s.heap.size ≤ q := hD.2 0 _ rfl
  refine lv_dup hx hb dL_law_3 rfl ?_
  refine zg_callW (zt_runI (rest := [.ref q]) hx hb hml hown (tX_init l (h0 := q) (sz := H.size)) (wcL_49 hz (Nat.le_of_ble_eq_true rfl) (Nat.le_of_ble_eq_true rfl)) rfl (hz _ ki_X_init) (hz _ kC_X_init) ⟨zg_C_blind, fun U hU hW => ⟨rfl, by rw [hU], by rw [hU]; exact hP, va_K.moved hW.alike hK⟩⟩ rfl rfl hl.1 rfl (lv_room (Nat.le_of_ble_eq_true rfl)) dL_law_4 ⟨Nat.le_of_ble_eq_true rfl, Nat.le_of_ble_eq_true rfl⟩) hS (fun z hz => hz.elim (fun h => by rw [h]; exact hq) (fun h => Nat.le_trans hS.1 h)) (fun z hz => hz.elim (fun h => by rw [h]; exact hq) (fun h => Nat.le_trans hS.1 h)) (fun ad H1 locs hfr hP1 hz1 hk1 hS1 => ?_)
  refine va_forget (fun z hz => hS1.2.2 z hz) ?_
  have hS : va_S (zl_A s.heap.size) s.heap H1 [] := ⟨hS1.1, hS1.2.1, fun z hz => by cases hz⟩
  refine W.eq (g2 := F0 m 7 ls [.ref q]) rfl ?_
  obtain ⟨e0, had, hge⟩ := hfr
  have hgX : ∀ i, i < 6 → s.heap.size ≤ ad i := fun i hi => by
    by_cases h : i = 0
    · rw [h, e0]; exact hq
    · exact Nat.le_trans (Nat.le_trans (Nat.le_of_lt (Nat.lt_of_le_of_lt hq (hP 0 _ rfl).lt)) (Nat.le_refl _)) (hge i (by omega) hi)
  rw [← e0]
  refine lv_astore_n (lv' := [(1, .ref (ad 0)), (0, .ref b)]) hx hb dL_law_7 rfl hl (by decide) rfl (fun ls hl => ?_)
  have hDX : va_D (zl_A s.heap.size) (zx_w ad cI cJ (fun _ => 0) (fun _ => 0) (fun _ => 0) (fun _ => 0) (fun _ => 0) 0 1 0 0) := (zx_D (sz := H1.size) had).weaken (fun k x hk hx => by obtain ⟨h1, h2⟩ := zx_w_at hk; show s.heap.size ≤ x.1; rw [h2]; exact hgX k h1)
  refine va_new (D := (dC, dI)) (ci := 1) (fs := [.int 0, .int 0, .null, .null, .int 0, .int 0, .int 0, .null, .null, .null, .null]) (C := RM) (T := TM) (N := 11) hx hb hz in_M tyM tyM_ok hown (hz _ kc_L_50) (hz _ kt_ViewChooserModel) (hz _ kin_ViewChooserModel) hK hP1 hDX hS hA rfl (fun j hj => by rcases (show j = 0 ∨ j = 1 ∨ j = 2 ∨ j = 3 ∨ j = 4 ∨ j = 5 ∨ j = 6 ∨ j = 7 ∨ j = 8 ∨ j = 9 ∨ j = 10 by omega) with rfl | rfl | rfl | rfl | rfl | rfl | rfl | rfl | rfl | rfl | rfl <;> rfl) (Nat.le_of_ble_eq_true rfl) (Nat.le_of_ble_eq_true rfl) dL_law_8 (fun q2 H hP2 hD2 hS => ?_)
  clear hP
  have hP : va_P (dC, dI) zcl [(q2, .inr (1, [.int 0, .int 0, .null, .null, .int 0, .int 0, .int 0, .null, .null, .null, .null]))] H := hP2.sub [6] rfl
  have hPX : va_P (dC, dI) zcl (zx_w ad cI cJ (fun _ => 0) (fun _ => 0) (fun _ => 0) (fun _ => 0) (fun _ => 0) 0 1 0 0) H := hP2.sub [0, 1, 2, 3, 4, 5] rfl
  have hq2 : s.heap.size ≤ q2 := hD2.2 6 _ rfl
  have hne : ∀ i, i < 6 → ad i ≠ q2 := fun i hi h => by
    rcases (show i = 0 ∨ i = 1 ∨ i = 2 ∨ i = 3 ∨ i = 4 ∨ i = 5 by omega) with rfl | rfl | rfl | rfl | rfl | rfl
    · exact absurd (hD2.1 0 6 _ _ rfl rfl h) (by decide)
    · exact absurd (hD2.1 1 6 _ _ rfl rfl h) (by decide)
    · exact absurd (hD2.1 2 6 _ _ rfl rfl h) (by decide)
    · exact absurd (hD2.1 3 6 _ _ rfl rfl h) (by decide)
    · exact absurd (hD2.1 4 6 _ _ rfl rfl h) (by decide)
    · exact absurd (hD2.1 5 6 _ _ rfl rfl h) (by decide)
  refine lv_dup hx hb dL_law_11 rfl ?_
  refine zg_callW (zt_runI (rest := [.ref q2]) hx hb hml hown (tM_init l (h0 := q2) (sz := H.size)) (wcL_52 hz (Nat.le_of_ble_eq_true rfl) (Nat.le_of_ble_eq_true rfl)) rfl (hz _ ki_M_init) (hz _ kC_M_init) ⟨zg_C_blind, fun U hU hW => ⟨rfl, by rw [hU], by rw [hU]; exact hP, va_K.moved hW.alike hK⟩⟩ rfl rfl hl.1 rfl (lv_room (Nat.le_of_ble_eq_true rfl)) dL_law_12 ⟨Nat.le_of_ble_eq_true rfl, Nat.le_of_ble_eq_true rfl⟩) hS (fun z hz => hz.elim (fun h => by rw [h]; exact hq2) (fun h => Nat.le_trans hS.1 h)) (fun z hz => hz.elim (fun h => by rw [h]; exact hq2) (fun h => Nat.le_trans hS.1 h)) (fun aM H1 locs hfm hP1 hz1 hk1 hS1 => ?_)
  refine va_forget (fun z hz => hS1.2.2 z hz) ?_
  have hS9 : va_S (zl_A s.heap.size) s.heap H1 [] := ⟨hS1.1, hS1.2.1, fun z hz => by cases hz⟩
  refine W.eq (g2 := F0 m 15 ls [.ref q2]) rfl ?_
  obtain ⟨f0, hadM, hgeM⟩ := hfm
  have hltX : ∀ i, i < 6 → ad i < H.size := fun i hi => by
    rcases (show i = 0 ∨ i = 1 ∨ i = 2 ∨ i = 3 ∨ i = 4 ∨ i = 5 by omega) with rfl | rfl | rfl | rfl | rfl | rfl
    · exact (hPX 0 _ rfl).lt
    · exact (hPX 1 _ rfl).lt
    · exact (hPX 2 _ rfl).lt
    · exact (hPX 3 _ rfl).lt
    · exact (hPX 4 _ rfl).lt
    · exact (hPX 5 _ rfl).lt
  have hgM : ∀ i, i < 7 → s.heap.size ≤ aM i := fun i hi => by
    by_cases h : i = 0
    · rw [h, f0]; exact hq2
    · exact Nat.le_trans hS.1 (hgeM i (by omega) hi)
  have hdis6 : ∀ i j, i < 6 → j < 7 → ad i ≠ aM j := fun i j hi hj h => by
    by_cases h0 : j = 0
    · rw [h0, f0] at h; exact hne i hi h
    · have h1 := hgeM j (by omega) hj; have h2 := hltX i hi; omega
  have hPX : va_P (dC, dI) zcl (zx_w ad cI cJ (fun _ => 0) (fun _ => 0) (fun _ => 0) (fun _ => 0) (fun _ => 0) 0 1 0 0) H1 := hPX.kept (fun k x hk => by obtain ⟨h1, h2⟩ := zx_w_at hk; refine hk1 _ (by rw [h2]; exact hltX k h1) (fun z => ?_); rcases z with z | z; (exact hne k h1 (by rw [← h2]; exact z)); (have h3 := hltX k h1; rw [h2] at z; omega))
  rw [← f0]
  refine lv_astore_n (lv' := [(2, .ref (aM 0)), (1, .ref (ad 0)), (0, .ref b)]) hx hb dL_law_15 rfl hl (by decide) rfl (fun ls hl => ?_)
  have hDM : va_D (zl_A s.heap.size) (zm_w aM cI cJ cB (fun _ => 0) (fun _ => 0) (fun _ => 0) (fun _ => 0) (fun _ => 0) (fun _ => 0) 0 0 1 0 0) := (zm_D (sz := H1.size) hadM).weaken (fun k x hk hx => by obtain ⟨h1, h2⟩ := zm_w_at hk; show s.heap.size ≤ x.1; rw [h2]; exact hgM k h1)
  have hD9 : va_D (zl_A s.heap.size) (zx_w ad cI cJ (fun _ => 0) (fun _ => 0) (fun _ => 0) (fun _ => 0) (fun _ => 0) 0 1 0 0 ++ zm_w aM cI cJ cB (fun _ => 0) (fun _ => 0) (fun _ => 0) (fun _ => 0) (fun _ => 0) (fun _ => 0) 0 0 1 0 0) := hDX.app hDM (fun i j x y h1 h2 h3 => by obtain ⟨g1, g2⟩ := zx_w_at h1; obtain ⟨g3, g4⟩ := zm_w_at h2; exact hdis6 i j g1 g3 (by rw [← g2, ← g4]; exact h3))
  refine lv_iconst (v := nI 1) hx hb dL_law_16 (by decide) ?_
  refine va_newa (atype := .long) (ty := .long) (N' := 1) (a0 := (1, .inr (.inl (fun _ : Nat => (0 : Int64))))) hx hb (hz _ ka_long) rfl hK (hPX.app hP1) hD9 hS9 hA (fun _ => rfl) (by decide) (by decide) (Nat.le_of_ble_eq_true rfl) (Nat.le_of_ble_eq_true rfl) (Nat.le_of_ble_eq_true rfl) dL_law_17 (fun q3 cA H2 hK9 hP9 hD9 hS => ?_)
  have hc9 : cA = cJ := zg_cA hK9 3 1 rfl rfl (by simp)
  rw [hc9] at hP9 hD9
  have h3 : s.heap.size ≤ q3 := hD9.2 13 _ rfl
  obtain ⟨aX, haX, haX6⟩ : ∃ aX : Nat → Nat, (∀ i, i < 6 → aX i = ad i) ∧ aX 6 = q3 := ⟨fun i => if i = 6 then q3 else ad i, fun i hi => if_neg (by omega), if_pos rfl⟩
  have hw0 := haX 0 (by decide)
  have hw1 := haX 1 (by decide)
  have hw2 := haX 2 (by decide)
  have hw3 := haX 3 (by decide)
  have hw4 := haX 4 (by decide)
  have hw5 := haX 5 (by decide)
  have hP : va_P (dC, dI) zcl (zx_w aX cI cJ (fun _ => 0) (fun _ => 0) (fun _ => 0) (fun _ => 0) (fun _ => 0) 0 1 0 0 ++ zo_w aX cJ (fun _ => 0)) H2 := by
    have h := hP9.sub [0, 1, 2, 3, 4, 5, 13] rfl
    show va_P (dC, dI) zcl [(aX 0, .inr (0, [.ref (aX 1), .ref (aX 2), .ref (aX 3), .ref (aX 4), .ref (aX 5), .int (nI 0), .int (nI 1), .int (nI 0), .int (nI 0)])), (aX 1, .inl (cI, 8, .inl (fun _ => 0))), (aX 2, .inl (cI, 32, .inl (fun _ => 0))), (aX 3, .inl (cI, 512, .inl (fun _ => 0))), (aX 4, .inl (cJ, 512, .inr (.inl (fun _ => 0)))), (aX 5, .inl (cI, 16, .inl (fun _ => 0))), (aX 6, .inl (cJ, 1, .inr (.inl (fun _ => 0))))] H2
    rw [hw0, hw1, hw2, hw3, hw4, hw5, haX6]
    exact h
  have hPM : va_P (dC, dI) zcl (zm_w aM cI cJ cB (fun _ => 0) (fun _ => 0) (fun _ => 0) (fun _ => 0) (fun _ => 0) (fun _ => 0) 0 0 1 0 0) H2 := hP9.sub [6, 7, 8, 9, 10, 11, 12] rfl
  have hne3 : ∀ i, i < 6 → ad i ≠ q3 := fun i hi h => by
    rcases (show i = 0 ∨ i = 1 ∨ i = 2 ∨ i = 3 ∨ i = 4 ∨ i = 5 by omega) with rfl | rfl | rfl | rfl | rfl | rfl
    · exact absurd (hD9.1 0 13 _ _ rfl rfl h) (by decide)
    · exact absurd (hD9.1 1 13 _ _ rfl rfl h) (by decide)
    · exact absurd (hD9.1 2 13 _ _ rfl rfl h) (by decide)
    · exact absurd (hD9.1 3 13 _ _ rfl rfl h) (by decide)
    · exact absurd (hD9.1 4 13 _ _ rfl rfl h) (by decide)
    · exact absurd (hD9.1 5 13 _ _ rfl rfl h) (by decide)
  have hneM : ∀ i, i < 7 → aM i ≠ q3 := fun i hi h => by
    rcases (show i = 0 ∨ i = 1 ∨ i = 2 ∨ i = 3 ∨ i = 4 ∨ i = 5 ∨ i = 6 by omega) with rfl | rfl | rfl | rfl | rfl | rfl | rfl
    · exact absurd (hD9.1 6 13 _ _ rfl rfl h) (by decide)
    · exact absurd (hD9.1 7 13 _ _ rfl rfl h) (by decide)
    · exact absurd (hD9.1 8 13 _ _ rfl rfl h) (by decide)
    · exact absurd (hD9.1 9 13 _ _ rfl rfl h) (by decide)
    · exact absurd (hD9.1 10 13 _ _ rfl rfl h) (by decide)
    · exact absurd (hD9.1 11 13 _ _ rfl rfl h) (by decide)
    · exact absurd (hD9.1 12 13 _ _ rfl rfl h) (by decide)
  have hadX : zg_ap aX 7 := fun i j hi hj h => by
    by_cases h1 : i = 6
    · by_cases h2 : j = 6
      · omega
      · rw [h1, haX6, haX j (by omega)] at h; exact absurd h.symm (hne3 j (by omega))
    · by_cases h2 : j = 6
      · rw [h2, haX6, haX i (by omega)] at h; exact absurd h (hne3 i (by omega))
      · rw [haX i (by omega), haX j (by omega)] at h; exact had i j (by omega) (by omega) h
  have hdis : ∀ i j, i < 7 → j < 7 → aX i ≠ aM j := fun i j hi hj h => by
    by_cases h1 : i = 6
    · rw [h1, haX6] at h; exact hneM j hj h.symm
    · rw [haX i (by omega)] at h; exact hdis6 i j (by omega) hj h
  have hgX7 : ∀ i, i < 7 → s.heap.size ≤ aX i := fun i hi => by
    by_cases h1 : i = 6
    · rw [h1, haX6]; exact h3
    · rw [haX i (by omega)]; exact hgX i (by omega)
  rw [← hw0] at hl
  rw [← haX6]
  refine lv_astore_n (lv' := [(3, .ref (aX 6)), (2, .ref (aM 0)), (1, .ref (aX 0)), (0, .ref b)]) hx hb dL_law_19 rfl hl (by decide) rfl (fun ls hl => ?_)
  refine lv_iconst (v := nI 0) hx hb dL_law_20 (by decide) ?_
  refine lv_istore (lv' := [(4, .int (nI 0)), (3, .ref (aX 6)), (2, .ref (aM 0)), (1, .ref (aX 0)), (0, .ref b)]) hx hb dL_law_21 hl (by decide) rfl (fun ls hl => ?_)
  exact zl_loop (aX := aX) (aM := aM) ⟨hx, hb, hml, hown, hz, hK, hTS, hNc, hst, hadX, hadM, hdis, hgX7, hgM, hXs, hbl, hn⟩ hr hlocks n 0 (by omega) (by omega) H2 0 1 0 0 _ _ _ hS (zl_I0 hP hPM) ls (lv_sub hl [4, 3, 2, 1, 0] rfl)
