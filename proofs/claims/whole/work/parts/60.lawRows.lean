/-! the law's own rows -/
/-- what the law may change: cells that it, or what it calls, has made -/
def zl_A (sz : Nat) : Nat → Prop := fun q => sz ≤ q
theorem zh_w_at {ad : Nat → Nat} {cI cJ : ClassId} {lev val pkd chs : Nat → Int32} {cst f : Nat → Int64} {D N F k i : Nat} {q : Nat × va_E} (h : (zx_w ad cI cJ lev val pkd cst chs D N F k ++ zo_w ad cJ f)[i]? = some q) : i < 7 ∧ q.1 = ad i := by
  match i, h with
  | 0, h => cases h; exact ⟨by decide, rfl⟩
  | 1, h => cases h; exact ⟨by decide, rfl⟩
  | 2, h => cases h; exact ⟨by decide, rfl⟩
  | 3, h => cases h; exact ⟨by decide, rfl⟩
  | 4, h => cases h; exact ⟨by decide, rfl⟩
  | 5, h => cases h; exact ⟨by decide, rfl⟩
  | 6, h => cases h; exact ⟨by decide, rfl⟩
  | i + 7, h => simp at h
/-- a world at these cells -/
def zl_at (ad : Nat → Nat) (w : va_W) : Prop := ∀ (i : Nat) (q : Nat × va_E), w[i]? = some q → ∃ j, j < 7 ∧ q.1 = ad j
theorem zl_keep {dC : Nat → ClassId} {dI : Nat → Nat → Nat} {aX aM : Nat → Nat} {w : va_W} {H H1 : Heap} (hdis : ∀ i j, i < 7 → j < 7 → aX i ≠ aM j) (hw : zl_at aM w) (hP : va_P (dC, dI) zcl w H) (hk : ∀ q : Nat, q < H.size → ¬ zg_A aX 7 H.size q → H1[q]? = H[q]?) : va_P (dC, dI) zcl w H1 := by
  refine hP.kept (fun k q hkq => ?_)
  have hlt := (hP k q hkq).lt
  obtain ⟨j, hj, e⟩ := hw k q hkq
  refine hk _ hlt (fun z => ?_)
  rcases z with ⟨i, hi, e2⟩ | z
  · exact hdis i j hi hj (by rw [← e2, e])
  · omega
theorem zl_atX {ad : Nat → Nat} {cI cJ : ClassId} {lev val pkd chs : Nat → Int32} {cst f : Nat → Int64} {D N F k : Nat} : zl_at ad (zx_w ad cI cJ lev val pkd cst chs D N F k ++ zo_w ad cJ f) := fun i _ h => ⟨i, zh_w_at h⟩
theorem zl_atM {ad : Nat → Nat} {cI cJ cB : ClassId} {lev val chs dig : Nat → Int32} {est cst : Nat → Int64} {code : Int32} {D N F k : Nat} : zl_at ad (zm_w ad cI cJ cB lev val chs dig est cst code D N F k) := fun i _ h => ⟨i, zm_w_at h⟩
theorem zl_AA {ad : Nat → Nat} {sz s0 q : Nat} (h : ∀ i, i < 7 → s0 ≤ ad i) (h2 : s0 ≤ sz) (hq : zg_A ad 7 sz q) : zl_A s0 q := by
  rcases hq with ⟨i, hi, e⟩ | hq
  · show s0 ≤ q
    rw [e]
    exact h i hi
  · exact Nat.le_trans h2 hq
theorem zl_S {ad : Nat → Nat} {H0 H H1 : Heap} (h : ∀ i, i < 7 → H0.size ≤ ad i) (hS : va_S (zl_A H0.size) H0 H []) (h1 : H.size ≤ H1.size) (hk : ∀ q : Nat, q < H.size → ¬ zg_A ad 7 H.size q → H1[q]? = H[q]?) : va_S (zl_A H0.size) H0 H1 [] := by
  refine ⟨Nat.le_trans hS.1 h1, fun q g1 g2 => ?_, fun q hq => by cases hq⟩
  rw [hk q (Nat.lt_of_lt_of_le g1 hS.1) (fun z => g2 (zl_AA h hS.1 z))]
  exact hS.2.1 q g1 g2
section ZLR
variable {p : Program} {l : Launch} {e : Env} {R : Room} {s : State} {m : MethodId} {args : Array Value} {below : List Frame} {meth : Method} {c : Code} {H : Heap} {locs : List Loc} {cells slots : Nat} {Q : State → Prop}
variable {cc : ByteArray} {pc : Nat} {ls : Array Slot} {rest st0 : List Value} {kr nr kt nt : Nat} {free : Addr → Prop}
/-- script[i] -/
theorem zl_sld (hexec : p.tables.exec = Jvm.exec) (hb : c.code = cc) {b n : Nat} {xs : Nat → Int32} (hX : va_X b n xs s s.heap) (hbl : b < s.heap.size) (hS : va_S (zl_A s.heap.size) s.heap H locs) {i : Nat} (hi : i < n) (hn : n < 2 ^ 31) (hdg : decode cc pc = .ok (.iaload, 1))
    (kk : W p l e R s m args below meth c H locs cells slots Q (F0 m (pc + 1) ls (.int (xs i) :: rest))) : W p l e R s m args below meth c H locs cells slots Q (F0 m pc ls (.int (nI i) :: .ref b :: rest)) := by
  refine va_sld hexec hb hX hbl (fun z => ?_) hS (vp_in_nI hi hn) hdg ?_
  · exact absurd hbl (Nat.not_lt.mpr z)
  · rw [nI_clamp (by omega)]
    exact kk
/-- script.length -/
theorem zl_slen (hexec : p.tables.exec = Jvm.exec) (hb : c.code = cc) {b n : Nat} {xs : Nat → Int32} (hX : va_X b n xs s s.heap) (hbl : b < s.heap.size) (hS : va_S (zl_A s.heap.size) s.heap H locs) (hdg : decode cc pc = .ok (.arraylength, 1))
    (kk : W p l e R s m args below meth c H locs cells slots Q (F0 m (pc + 1) ls (.int (nI n) :: rest))) : W p l e R s m args below meth c H locs cells slots Q (F0 m pc ls (.ref b :: rest)) :=
  va_slen hexec hb hX hbl (fun z => absurd hbl (Nat.not_lt.mpr z)) hS hdg kk
/-- lcmp; ifeq of two that are one -/
theorem zl_same (hexec : p.tables.exec = Jvm.exec) (hb : c.code = cc) {x y : Int64} (hxy : x = y) {off : Int} {tgt : Nat} (hd1 : decode cc pc = .ok (.lcmp, 1)) (hdg : decode cc (pc + 1) = .ok (.ifCond .eq off, 3)) (ht : ((pc + 1 : Nat) : Int) + off = (tgt : Int))
    (k : W p l e R s m args below meth c H locs cells slots Q (F0 m tgt ls rest)) : W p l e R s m args below meth c H locs cells slots Q (F0 m pc ls (.long y :: .long x :: rest)) :=
  W.lcmp hexec hb hd1 (lv_if_eq hexec hb hdg ht (fun _ => k) (fun q => absurd ((lg_cmp_eq x y).mpr hxy) q))
/-- a helper's call -/
theorem zl_runH {dC : Nat → ClassId} {dI : Nat → Nat → Nat} {cI cJ cB : ClassId} {w : va_W} {y : MethodName} {bytes : ByteArray} {maxL nL n index : Nat} {ret : Option FieldType} {hs : List (Nat × Nat × Nat × Nat)} {ws : List Cond} {rm : Room} {Qc : Array Value → State → Outcome → State → Prop} {own : String} {As : List Value}
    (hexec : p.tables.exec = Jvm.exec) (hb : c.code = cc) (hml : c.maxLocals = nL) (hown : s.vm.findClass own = some m.cls)
    (hM : zt_Met l y ws rm (va_Pc As (zg_V dC dI cI cJ cB w H.size)) Qc kr nr kt nt free) (cw : zt_Cw R s args own index y maxL ws rm n) (hst9 : (Cond.static y).before args s = true) (hcode : (Cond.codeWith y bytes maxL ret hs).before args s = true)
    (hP : va_P (dC, dI) zcl w H) (hK : va_K (dC, dI) zcl (zg_T cI cJ cB) s) (hT : zt_TS s) (hNc : va_Nc zE_S zE_A s) (hS : va_S (zl_A s.heap.size) s.heap H locs) (hn : As.length = n) (hsize : ls.size = nL) (hst : st0 = As.reverse ++ rest) (hW : (rest.map fun v => v.category).sum ≤ 8) (hdg : decode cc pc = .ok (.invokestatic index, 3)) (hf : cells + rm.cells ≤ R.cells ∧ slots + rm.slots ≤ R.slots) :
    zt_Run p l e R s m args below meth c H locs cells slots kr nr kt nt (F0 m pc ls st0) rest (Qc As.toArray) free := by
  refine zt_runS hexec hb hml hown hM cw hst9 ?_ ⟨zg_V_blind, fun U hU hW => ⟨rfl, ⟨by rw [hU], by rw [hU]; exact hP, va_K.moved hW.alike hK, zt_TS_to hT hW (fun q hq => by rw [hU]; exact hS.2.1 q hq (fun z => absurd hq (Nat.not_lt.mpr z)))⟩, va_Nc.moved hW.alike hNc⟩⟩ rfl hn hsize hst (lv_room hW) hdg hf
  obtain ⟨mk, methM, cM, h1, h2, h3, -, h5, -, -, -, h9⟩ := Cond.codeWith_spec hcode
  exact ⟨mk, methM, cM, h1, h2, h3, h5, h9⟩
/-- behind a helper -/
theorem zl_callH {S : Type} {dC : Nat → ClassId} {dI : Nat → Nat → Nat} {aX aM : Nat → Nat} {cd : Nat} {post : S → Prop} {w0 wM : va_W} {w : S → va_W} {a : Array Value} (hr : zt_Run p l e R s m args below meth c H [] cells slots 1 6 0 0 (F0 m pc ls st0) rest (zg_H dC dI cd post w0 w (zg_A aX 7 H.size) a) (zg_A aX 7 H.size))
    (hdis : ∀ i j, i < 7 → j < 7 → aX i ≠ aM j) (hge : ∀ i, i < 7 → s.heap.size ≤ aX i) (hat : zl_at aM wM) (hPM : va_P (dC, dI) zcl wM H) (hS : va_S (zl_A s.heap.size) s.heap H [])
    (k0 : cd = 0 → ∀ (u : S) (H1 : Heap), post u → va_P (dC, dI) zcl (w u) H1 → va_P (dC, dI) zcl wM H1 → va_S (zl_A s.heap.size) s.heap H1 [] → W p l e R s m args below meth c H1 [] (cells + 1) (slots + 6) Q (F0 m (pc + 3) ls (.int (nI 0) :: rest)))
    (k1 : cd ≠ 0 → ∀ H1 : Heap, va_P (dC, dI) zcl w0 H1 → va_P (dC, dI) zcl wM H1 → va_S (zl_A s.heap.size) s.heap H1 [] → W p l e R s m args below meth c H1 [] (cells + 1) (slots + 6) Q (F0 m (pc + 3) ls (.int (nI cd) :: rest))) :
    W p l e R s m args below meth c H [] cells slots Q (F0 m pc ls st0) := by
  refine zt_callr hr (fun x st t hq => ?_) (fun v st t L h0 hW0 hWt hL hq => ?_)
  · rcases hq with ⟨_, u, h, _⟩ | ⟨_, h, _⟩ <;> cases h
  · refine zt_W_forget (L := L) (fun q hq => zl_AA hge hS.1 (hL q hq)) ?_
    rcases hq with ⟨hcd, u, hv, hp, hP, hz, hk⟩ | ⟨hcd, hv, hP, hz, hk⟩
    · cases hv
      rw [h0] at hz hk
      exact k0 hcd u t.heap hp hP (zl_keep hdis hat hPM hk) (zl_S hge hS hz hk)
    · cases hv
      rw [h0] at hz hk
      exact k1 hcd t.heap hP (zl_keep hdis hat hPM hk) (zl_S hge hS hz hk)
/-- behind a writer of either object -/
theorem zl_callM {S : Type} {dC : Nat → ClassId} {dI : Nat → Nat → Nat} {aX aM : Nat → Nat} {r : S → Option Value} {post : S → Prop} {wM : va_W} {w : S → va_W} {A : Nat → Prop} {a : Array Value} (hr : zt_Run p l e R s m args below meth c H [] cells slots 0 0 0 0 (F0 m pc ls st0) rest (zg_Q dC dI r post w A a) A) (hA : ∀ q, A q → zg_A aX 7 H.size q)
    (hdis : ∀ i j, i < 7 → j < 7 → aX i ≠ aM j) (hge : ∀ i, i < 7 → s.heap.size ≤ aX i) (hat : zl_at aM wM) (hPM : va_P (dC, dI) zcl wM H) (hS : va_S (zl_A s.heap.size) s.heap H [])
    (k0 : ∀ (u : S) (H1 : Heap), post u → va_P (dC, dI) zcl (w u) H1 → va_P (dC, dI) zcl wM H1 → (∀ q : Nat, q < H.size → ¬ A q → H1[q]? = H[q]?) → va_S (zl_A s.heap.size) s.heap H1 [] → W p l e R s m args below meth c H1 [] cells slots Q (F0 m (pc + 3) ls ((r u).toList ++ rest))) :
    W p l e R s m args below meth c H [] cells slots Q (F0 m pc ls st0) := by
  refine zt_callr hr (fun x st t hq => ?_) (fun v st t L h0 hW0 hWt hL hq => ?_)
  · obtain ⟨u, h, _⟩ := hq
    cases h
  · refine zt_W_forget (L := L) (fun q hq => zl_AA hge hS.1 (hA _ (hL q hq))) ?_
    obtain ⟨u, hv, hp, hP, hz, hk⟩ := hq
    cases hv
    rw [h0] at hz hk
    have hk7 : ∀ q : Nat, q < H.size → ¬ zg_A aX 7 H.size q → t.heap[q]? = H[q]? := fun q h1 h2 => hk q h1 (fun z => h2 (hA q z))
    exact k0 u t.heap hp hP (zl_keep hdis hat hPM hk7) hk (zl_S hge hS hz hk7)
end ZLR
theorem zc_dim_le (a D N : Nat) : zc_dim a D N < 2 ^ 31 := by unfold zc_dim; split <;> (try split) <;> decide
theorem zc_val_le (a b n D : Nat) (L : Nat → Nat) : zc_val a b n D L < 2 ^ 31 := by unfold zc_val; split <;> decide
theorem zc_fac_le (a : Nat) : zc_fac a < 2 ^ 31 := by unfold zc_fac; split <;> decide
theorem zc_take_le (a N k : Nat) : zc_take a N k < 2 ^ 31 := by unfold zc_take; split <;> (try split) <;> decide
theorem zc_st_le (k : Nat) : zc_st k < 2 ^ 31 := by unfold zc_st; split <;> decide
theorem zc_cho_le (a : Nat) : zc_cho a < 2 ^ 31 := by unfold zc_cho; split <;> decide
theorem zc_b_le (b : Bool) : zc_b b < 2 ^ 31 := by unfold zc_b; split <;> decide
theorem zc_ne {cd : Nat} (h : cd ≠ 0) (h2 : cd < 2 ^ 31) : ¬ nI cd = 0 := nI_ne0 (Nat.pos_of_ne_zero h) h2
/-! what both objects hold, between two calls of the law -/
def zl_I (dC : Nat → ClassId) (dI : Nat → Nat → Nat) (cI cJ cB : ClassId) (aX aM : Nat → Nat) (H : Heap) (D N F k : Nat) (L V S : Nat → Nat) : Prop :=
  ∃ (lev val pkd : Nat → Int32) (cst : Nat → Int64) (chs : Nat → Int32) (f : Nat → Int64) (levm valm chsm dig : Nat → Int32) (est cstm : Nat → Int64) (code : Int32), zx_R D N F L V lev val pkd ∧ zx_J D N F k L V S cst chs ∧ zm_R D N F L V levm valm dig ∧ zm_S N k S chsm ∧ (∀ j, 4 * D ≤ j → V j = 0) ∧
    va_P (dC, dI) zcl (zx_w aX cI cJ lev val pkd cst chs D N F k ++ zo_w aX cJ f) H ∧ va_P (dC, dI) zcl (zm_w aM cI cJ cB levm valm chsm dig est cstm code D N F k) H
/-- nothing chosen -/
theorem zx_J0 {D N F : Nat} {L V S : Nat → Nat} {cst : Nat → Int64} {chs : Nat → Int32} (hN : N ≤ 512) (h : ∀ j, j < 512 → cst j = lN F) : zx_J D N F 0 L V S cst chs := ⟨fun w hw => h w (by omega), fun i hi => absurd hi (Nat.not_lt_zero i)⟩
theorem zm_S0 {N : Nat} {S : Nat → Nat} {chs : Nat → Int32} : zm_S N 0 S chs := ⟨Nat.zero_le _, fun i hi => absurd hi (Nat.not_lt_zero i), fun i hi => absurd hi (Nat.not_lt_zero i)⟩
theorem zq_nv_up (L : Nat → Nat) (D a : Nat) : zq_nv (zq_up L D a) (D + 1) = zq_nv L D * (a + 1) := by
  have h : ∀ n, n ≤ D → zq_nv (zq_up L D a) n = zq_nv L n := by
    intro n
    induction n with
    | zero => intro _; rfl
    | succ n ih =>
      intro hn
      show zq_nv (zq_up L D a) n * (zq_up L D a n + 1) = zq_nv L n * (L n + 1)
      rw [ih (by omega), zq_up_n L (by omega)]
  show zq_nv (zq_up L D a) D * (zq_up L D a D + 1) = _
  rw [h D (Nat.le_refl _), zq_up_s]
theorem zc_dim_0 {a D N : Nat} (h : zc_dim a D N = 0) : (1 ≤ a ∧ a ≤ 4) ∧ D < 8 ∧ N * (a + 1) ≤ 512 := by
  unfold zc_dim at h
  split at h
  · split at h
    · exact ⟨by assumption, by assumption⟩
    · cases h
  · cases h
theorem zc_val_0 {a b n D : Nat} {L : Nat → Nat} (h : zc_val a b n D L = 0) : a < D ∧ b < L a ∧ n ≤ 1000000 := by
  unfold zc_val at h
  split at h
  · assumption
  · cases h
theorem zc_fac_0 {a : Nat} (h : zc_fac a = 0) : a < 2 ^ 31 := by
  unfold zc_fac at h
  split at h
  · assumption
  · cases h
theorem zc_take_0 {a N k : Nat} (h : zc_take a N k = 0) : a < N ∧ k < 16 := by
  unfold zc_take at h
  split at h
  · split at h
    · exact ⟨by assumption, by assumption⟩
    · cases h
  · cases h
theorem zc_b_0 {b : Bool} (h : zc_b b = 0) : b = true := by
  unfold zc_b at h
  split at h
  · assumption
  · cases h
theorem zx_R_dim {D N F a : Nat} {L V : Nat → Nat} {lev val pkd pkd' : Nat → Int32} (h : zx_R D N F L V lev val pkd) (hc : zc_dim a D N = 0) (hp : ∀ w, w < N * (a + 1) → pkd' w = nI (zq_pk (zq_up L D a) (D + 1) w)) : zx_R (D + 1) (N * (a + 1)) F (zq_up L D a) V (upd lev D (nI a)) val pkd' := by
  obtain ⟨h1, h2, h3, h4, h5, h6, h7, h8, h9⟩ := h
  obtain ⟨⟨g1, g2⟩, g3, g4⟩ := zc_dim_0 hc
  exact ⟨by omega, zq_upL h2 g1 g2, by rw [zq_nv_up, h3], g4, h5, h6, zq_upV h7, h8, hp⟩
theorem zm_R_dim {D N F a : Nat} {L V : Nat → Nat} {lev val dig val' dig' : Nat → Int32} (h : zm_R D N F L V lev val dig) (hc : zc_dim a D N = 0) (hv : ∀ j, j < 32 → val' j = nI (V j)) (hp : ∀ w, w < N * (a + 1) → ∀ d, d < D + 1 → dig' (8 * w + d) = nI (zq_dg (zq_up L D a) (D + 1) w d)) : zm_R (D + 1) (N * (a + 1)) F (zq_up L D a) V (upd lev D (nI a)) val' dig' := by
  obtain ⟨h1, h2, h3, h4, h5, h6, h7, h8, h9⟩ := h
  obtain ⟨⟨g1, g2⟩, g3, g4⟩ := zc_dim_0 hc
  exact ⟨by omega, zq_upL h2 g1 g2, by rw [zq_nv_up, h3], g4, h5, h6, zq_upV h7, hv, hp⟩
theorem zq_upB {V : Nat → Nat} {i n : Nat} (h : ∀ j, V j ≤ 1000000) (hn : n ≤ 1000000) : ∀ j, zq_up V i n j ≤ 1000000 := by
  intro j
  by_cases e : j = i
  · rw [e, zq_up_s]; exact hn
  · rw [zq_up_n V e]; exact h j
theorem zq_upW {V : Nat → Nat} {i n : Nat} {val : Nat → Int32} (h : ∀ j, j < 32 → val j = nI (V j)) : ∀ j, j < 32 → upd val i (nI n) j = nI (zq_up V i n j) := by
  intro j hj
  by_cases e : j = i
  · rw [e, pk_us, zq_up_s]
  · rw [pk_un e, zq_up_n V e]; exact h j hj
theorem zx_R_val {D N F i n : Nat} {L V : Nat → Nat} {lev val pkd : Nat → Int32} (h : zx_R D N F L V lev val pkd) (hn : n ≤ 1000000) : zx_R D N F L (zq_up V i n) lev (upd val i (nI n)) pkd := by
  obtain ⟨h1, h2, h3, h4, h5, h6, h7, h8, h9⟩ := h
  exact ⟨h1, h2, h3, h4, h5, zq_upB h6 hn, h7, zq_upW h8, h9⟩
theorem zm_R_val {D N F i n : Nat} {L V : Nat → Nat} {lev val dig : Nat → Int32} (h : zm_R D N F L V lev val dig) (hn : n ≤ 1000000) : zm_R D N F L (zq_up V i n) lev (upd val i (nI n)) dig := by
  obtain ⟨h1, h2, h3, h4, h5, h6, h7, h8, h9⟩ := h
  exact ⟨h1, h2, h3, h4, h5, zq_upB h6 hn, h7, zq_upW h8, h9⟩
theorem zx_R_fac {D N F F' : Nat} {L V : Nat → Nat} {lev val pkd : Nat → Int32} (h : zx_R D N F L V lev val pkd) (hF : F' < 2 ^ 31) : zx_R D N F' L V lev val pkd := by
  obtain ⟨h1, h2, h3, h4, h5, h6, h7, h8, h9⟩ := h
  exact ⟨h1, h2, h3, h4, hF, h6, h7, h8, h9⟩
theorem zm_R_fac {D N F F' : Nat} {L V : Nat → Nat} {lev val dig : Nat → Int32} (h : zm_R D N F L V lev val dig) (hF : F' < 2 ^ 31) : zm_R D N F' L V lev val dig := by
  obtain ⟨h1, h2, h3, h4, h5, h6, h7, h8, h9⟩ := h
  exact ⟨h1, h2, h3, h4, hF, h6, h7, h8, h9⟩
