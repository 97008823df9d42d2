/-! what is read of the reference -/
def zm_R (D N F : Nat) (L V : Nat → Nat) (lev val dig : Nat → Int32) : Prop := D ≤ 8 ∧ (∀ j, j < D → 1 ≤ L j ∧ L j ≤ 4) ∧ N = zq_nv L D ∧ N ≤ 512 ∧ F < 2 ^ 31 ∧ (∀ j, V j ≤ 1000000) ∧ (∀ j, j < D → lev j = nI (L j)) ∧ (∀ j, j < 32 → val j = nI (V j)) ∧ ∀ w, w < N → ∀ d, d < D → dig (8 * w + d) = nI (zq_dg L D w d)
def zq_abn (L : Nat → Nat) (D u v i : Nat) : Bool := decide (∀ d, d < i → zq_dg L D u d ≤ zq_dg L D v d)
theorem zq_abn_0 (L : Nat → Nat) (D u v : Nat) : zq_abn L D u v 0 = true := decide_eq_true fun d h => absurd h (Nat.not_lt_zero d)
theorem zq_abn_t {L : Nat → Nat} {D u v i : Nat} (h : zq_abn L D u v i = true) (h2 : zq_dg L D u i ≤ zq_dg L D v i) : zq_abn L D u v (i + 1) = true := by
  refine decide_eq_true fun d hd => ?_
  by_cases e : d = i
  · rw [e]; exact h2
  · exact of_decide_eq_true h d (by omega)
theorem zq_abn_f {L : Nat → Nat} {D u v i : Nat} (h2 : ¬ zq_dg L D u i ≤ zq_dg L D v i) : zq_abn L D u v (i + 1) = false := decide_eq_false fun q => h2 (q i (Nat.lt_succ_self i))
theorem zq_abn_up {L : Nat → Nat} {D u v i : Nat} (h : zq_abn L D u v i = false) (hi : i ≤ D) : zq_ab L D u v = false := by
  cases h9 : zq_ab L D u v
  · rfl
  · have h8 : zq_abn L D u v i = true := decide_eq_true fun d hd => of_decide_eq_true h9 d (by omega)
    rw [h] at h8
    cases h8
theorem zq_i8 : ∀ n, n < 128 → (nI n).toInt8.toInt32 = nI n := by decide +kernel
theorem zq_cap5 {F P : Nat} (hF : F < 2 ^ 31) : min F (min 5000000000 P) = min F P := by omega
theorem zq_fac5 {P V : Nat} (hV : V ≤ 1000000) : min 5000000000 P * V < 2 ^ 63 := by
  have h2 : min 5000000000 P * V ≤ 5000000000 * 1000000 := Nat.mul_le_mul (Nat.min_le_left _ _) hV
  exact Nat.lt_of_le_of_lt h2 (by decide)
theorem zq_sdiv (L : Nat → Nat) {k x d : Nat} (h : d ≠ k + 1) : zq_dg L (k + 1) (x / (L (k + 1) + 1)) d = zq_dg L (k + 2) x d := (zq_dg_lower L h).symm
