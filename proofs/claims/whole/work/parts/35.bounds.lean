/-! a number within bounds -/
def zb_in (x : Int32) (n : Nat) : Bool := decide (¬ (x < 0 ∨ n ≤ x.toNatClampNeg))
theorem zb_iff {x : Int32} {n : Nat} : zb_in x n = true ↔ vp_in x n := by
  unfold zb_in vp_in
  rw [decide_eq_true_iff]
theorem zb_of {x : Int32} {n : Nat} (h : zb_in x n = true) (hn : n < 2 ^ 31) : ∃ j : Nat, j < n ∧ x = nI j := vp_in_of (zb_iff.mp h) hn
theorem zb_t {j n : Nat} (h : j < n) (hn : n < 2 ^ 31) : zb_in (nI j) n = true := zb_iff.mpr (vp_in_nI h hn)
theorem zb_neg {x : Int32} {n : Nat} (h : x < 0) : ¬ zb_in x n = true := fun q => zb_iff.mp q (Or.inl h)
theorem zb_big {j n : Nat} (h : n ≤ j) (hj : j < 2 ^ 31) : ¬ zb_in (nI j) n = true := fun q => zb_iff.mp q (Or.inr (by rw [nI_clamp hj]; exact h))
theorem zb_bigI {x : Int32} {n : Nat} (h : nI n ≤ x) (hn : n < 2 ^ 31) : ¬ zb_in x n = true := fun q => by
  obtain ⟨j, hj, rfl⟩ := zb_of q hn
  exact nI_ge hj hn h
/-- a writer that may throw: how it ends, by its number -/
def zg_X {S : Type} (dC : Nat → ClassId) (dI : Nat → Nat → Nat) (cd : Nat) (r : S → Option Value) (post : S → Prop) (w : S → va_W) (A : Nat → Prop) : Array Value → State → Outcome → State → Prop := fun a st o t =>
  (cd = 0 ∧ zg_Q dC dI r post w A a st o t) ∨ (cd = 1 ∧ ∃ x, o = .threw x ∧ zt_Th zE_A x st t) ∨ (cd = 2 ∧ ∃ x, o = .threw x ∧ zt_Th zE_S x st t)
/-- a reader that may throw, by its number -/
def zg_P (cd : Nat) (r : Option Value) (E : String) : Array Value → State → Outcome → State → Prop := fun _ st o t =>
  (cd = 0 ∧ o = .returned r ∧ t.heap = st.heap) ∨ (cd = 1 ∧ ∃ x, o = .threw x ∧ zt_Th E x st t)
/-- what 'told' tells -/
def zq_told (e : Nat → Nat) (ab : Nat → Nat → Bool) (c : Nat → Nat) (N v what : Nat) : Nat := if what = 0 then e v else if what = 1 then c v else zq_bn e ab c N v
