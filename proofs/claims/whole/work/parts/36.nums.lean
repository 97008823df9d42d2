/-! an argument as a number: 2^31 where it is below 0 -/
def zn (x : Int32) : Nat := if x < 0 then 2 ^ 31 else x.toNatClampNeg
theorem zn_neg {x : Int32} (h : x < 0) : zn x = 2 ^ 31 := by unfold zn; rw [if_pos h]
theorem zn_nI {n : Nat} (h : n < 2 ^ 31) : zn (nI n) = n := by
  unfold zn
  rw [if_neg (nI_pos h), nI_clamp h]
theorem zn_cases (x : Int32) : (x < 0 ∧ zn x = 2 ^ 31) ∨ ∃ n, n < 2 ^ 31 ∧ x = nI n ∧ zn x = n := by
  by_cases h : x < 0
  · exact Or.inl ⟨h, zn_neg h⟩
  · obtain ⟨n, hn, rfl⟩ := nI_of h
    exact Or.inr ⟨n, hn, rfl, zn_nI hn⟩
theorem zn_in (x : Int32) {n : Nat} (hn : n < 2 ^ 31) : zb_in x n = decide (zn x < n) := by
  rcases zn_cases x with ⟨h, e⟩ | ⟨j, hj, rfl, e⟩
  · rw [e]
    have h1 := zb_neg (n := n) h
    have h2 : ¬ 2 ^ 31 < n := by omega
    rw [decide_eq_false h2]
    cases hz : zb_in x n
    · rfl
    · exact absurd hz h1
  · rw [e]
    by_cases h : j < n
    · rw [zb_t h hn, decide_eq_true h]
    · rw [decide_eq_false h]
      cases hz : zb_in (nI j) n
      · rfl
      · exact absurd hz (zb_big (by omega) hj)
/-! what both objects do, by numbers -/
def zc_dim (a D N : Nat) : Nat := if 1 ≤ a ∧ a ≤ 4 then (if D < 8 ∧ N * (a + 1) ≤ 512 then 0 else 2) else 1
def zc_val (a b n D : Nat) (L : Nat → Nat) : Nat := if a < D ∧ b < L a ∧ n ≤ 1000000 then 0 else 1
def zc_fac (a : Nat) : Nat := if a < 2 ^ 31 then 0 else 1
def zc_take (a N k : Nat) : Nat := if a < N then (if k < 16 then 0 else 2) else 1
def zc_step (k : Nat) : Nat := if k < 16 then 0 else 2
def zc_cho (a : Nat) : Nat := if a ≤ 16 then 0 else 1
/-- the costs and the chosen, as they are held -/
def zx_J (D N F k : Nat) (L V S : Nat → Nat) (cst : Nat → Int64) (chs : Nat → Int32) : Prop := (∀ w, w < N → cst w = lN (zq_ct (zq_es L V D F) (zq_ab L D) F S k w)) ∧ ∀ i, i < k → chs i = nI (S i)
/-- one more than the view that the next step takes; 0: none -/
def zq_pick (D N F : Nat) (L V : Nat → Nat) (k : Nat) (S : Nat → Nat) : Nat := (zq_mx (zq_bn (zq_es L V D F) (zq_ab L D) (zq_ct (zq_es L V D F) (zq_ab L D) F S k) N) N).2
theorem zq_pick_le (D N F : Nat) (L V : Nat → Nat) (k : Nat) (S : Nat → Nat) : zq_pick D N F L V k S ≤ N := zq_mx_le _ _
theorem zq_ct_up (e : Nat → Nat) (ab : Nat → Nat → Bool) (F : Nat) (S : Nat → Nat) (k v w : Nat) : zq_ct e ab F (zq_up S k v) (k + 1) w = if e v < zq_ct e ab F S k w ∧ ab v w = true then e v else zq_ct e ab F S k w := by
  have h : zq_ct e ab F (zq_up S k v) k w = zq_ct e ab F S k w := zq_ct_congr e ab F k w (fun i hi => zq_up_n S (by omega))
  show (if e (zq_up S k v k) < zq_ct e ab F (zq_up S k v) k w ∧ ab (zq_up S k v k) w = true then e (zq_up S k v k) else zq_ct e ab F (zq_up S k v) k w) = _
  rw [zq_up_s, h]
theorem zx_J_up {D N F k v : Nat} {L V S : Nat → Nat} {cst cst' : Nat → Int64} {chs : Nat → Int32} (h : zx_J D N F k L V S cst chs) (hc : ∀ w, w < N → cst' w = lN (if zq_es L V D F v < zq_ct (zq_es L V D F) (zq_ab L D) F S k w ∧ zq_ab L D v w = true then zq_es L V D F v else zq_ct (zq_es L V D F) (zq_ab L D) F S k w)) : zx_J D N F (k + 1) L V (zq_up S k v) cst' (upd chs k (nI v)) := by
  refine ⟨fun w hw => by rw [hc w hw, zq_ct_up], fun i hi => ?_⟩
  by_cases e : i = k
  · subst e
    rw [pk_us, zq_up_s]
  · rw [pk_un e, zq_up_n S e]
    exact h.2 i (by omega)
theorem zx_J_c {D N F k : Nat} {L V S : Nat → Nat} {cst : Nat → Int64} {chs : Nat → Int32} (h : zx_J D N F k L V S cst chs) : ∀ w, w < N → cst w = lN (zq_ct (zq_es L V D F) (zq_ab L D) F S k w) ∧ zq_ct (zq_es L V D F) (zq_ab L D) F S k w ≤ F := fun w hw => ⟨h.1 w hw, zq_ct_le _ _ _ _ _ _⟩
section ZSC
variable {p : Program} {l : Launch} {e : Env} {R : Room} {s : State} {m : MethodId} {args : Array Value} {below : List Frame} {meth : Method} {c : Code} {H : Heap} {locs : List Loc} {cells slots : Nat} {Q : State → Prop}
variable {cc : ByteArray} {pc : Nat} {ls : Array Slot} {rest st0 : List Value} {kr nr kt nt : Nat} {free : Addr → Prop}
theorem zg_runSC {dC : Nat → ClassId} {dI : Nat → Nat → Nat} {cI cJ cB : ClassId} {w : va_W} {y : MethodName} {bytes : ByteArray} {maxL nL n index : Nat} {ret : Option FieldType} {ws : List Cond} {rm : Room} {Qc : Array Value → State → Outcome → State → Prop} {own : String} {As : List Value}
    (hexec : p.tables.exec = Jvm.exec) (hb : c.code = cc) (hml : c.maxLocals = nL) (hown : s.vm.findClass own = some m.cls)
    (hM : zt_Met l y ws rm (va_Pc As (zg_C dC dI cI cJ cB w H.size)) Qc kr nr kt nt free) (cw : zt_Cw R s args own index y maxL ws rm n) (hst9 : (Cond.static y).before args s = true) (hcode : (Cond.code y bytes maxL ret).before args s = true)
    (hP : va_P (dC, dI) zcl w H) (hK : va_K (dC, dI) zcl (zg_T cI cJ cB) s) (hn : As.length = n) (hsize : ls.size = nL) (hst : st0 = As.reverse ++ rest) (hW : (rest.map fun v => v.category).sum ≤ 8) (hdg : decode cc pc = .ok (.invokestatic index, 3)) (hf : cells + rm.cells ≤ R.cells ∧ slots + rm.slots ≤ R.slots) :
    zt_Run p l e R s m args below meth c H locs cells slots kr nr kt nt (F0 m pc ls st0) rest (Qc As.toArray) free := by
  refine zt_runS hexec hb hml hown hM cw hst9 ?_ ⟨zg_C_blind, fun U hU hW => ⟨rfl, by rw [hU], by rw [hU]; exact hP, va_K.moved hW.alike hK⟩⟩ rfl hn hsize hst (lv_room hW) hdg hf
  obtain ⟨mk, hnamed⟩ := Cond.code_named hcode
  obtain ⟨methM, cM, h1, h2, -, h4, -, -, -, h8⟩ := Cond.code_spec hnamed hcode
  exact ⟨mk, methM, cM, hnamed, h1, h2, h4, h8⟩
end ZSC
