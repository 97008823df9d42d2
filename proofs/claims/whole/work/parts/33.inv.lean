/-! what is read of the chooser -/
def zx_R (D N F : Nat) (L V : Nat → Nat) (lev val pkd : Nat → Int32) : Prop := D ≤ 8 ∧ (∀ j, j < D → 1 ≤ L j ∧ L j ≤ 4) ∧ N = zq_nv L D ∧ N ≤ 512 ∧ F < 2 ^ 31 ∧ (∀ j, V j ≤ 1000000) ∧ (∀ j, j < D → lev j = nI (L j)) ∧ (∀ j, j < 32 → val j = nI (V j)) ∧ ∀ w, w < N → pkd w = nI (zq_pk L D w)
theorem zq_pr_s (L V : Nat → Nat) (D v d : Nat) (h : zq_dg L D v d < L d) : zq_pr L V D v (d + 1) = zq_pr L V D v d * V (4 * d + zq_dg L D v d) := by
  show (if zq_dg L D v d < L d then _ else _) = _
  rw [if_pos h]
theorem zq_pr_n (L V : Nat → Nat) (D v d : Nat) (h : ¬ zq_dg L D v d < L d) : zq_pr L V D v (d + 1) = zq_pr L V D v d := by
  show (if zq_dg L D v d < L d then _ else _) = _
  rw [if_neg h]
theorem zq_fac {F P V : Nat} (hF : F < 2 ^ 31) (hV : V ≤ 1000000) : min F P * V < 2 ^ 63 := by
  have h1 : min F P ≤ F := Nat.min_le_left _ _
  have h2 : min F P * V ≤ 2 ^ 31 * 1000000 := Nat.mul_le_mul (by omega) hV
  exact Nat.lt_of_le_of_lt h2 (by decide)
theorem zq_bf_t {e : Nat → Nat} {ab : Nat → Nat → Bool} {c : Nat → Nat} {v i : Nat} (h1 : e v < c i) (h2 : ab v i = true) : zq_bf e ab c v i = c i - e v := by
  unfold zq_bf
  rw [if_pos ⟨h1, h2⟩]
theorem zq_bf_f {e : Nat → Nat} {ab : Nat → Nat → Bool} {c : Nat → Nat} {v i : Nat} (h : ¬ (e v < c i ∧ ab v i = true)) : zq_bf e ab c v i = 0 := by
  unfold zq_bf
  rw [if_neg h]
theorem zq_mx_t {b : Nat → Nat} {n : Nat} (h : (zq_mx b n).1 < b n) : zq_mx b (n + 1) = (b n, n + 1) := by
  show (if (zq_mx b n).1 < b n then _ else _) = _
  rw [if_pos h]
theorem zq_mx_f {b : Nat → Nat} {n : Nat} (h : ¬ (zq_mx b n).1 < b n) : zq_mx b (n + 1) = zq_mx b n := by
  show (if (zq_mx b n).1 < b n then _ else _) = _
  rw [if_neg h]
theorem zq_bn_le {e : Nat → Nat} {ab : Nat → Nat → Bool} {c : Nat → Nat} {N F v : Nat} (hN : N ≤ 512) (hF : F < 2 ^ 31) (h : ∀ i, i < N → c i ≤ F) : zq_bn e ab c N v < 2 ^ 63 := by
  have h1 : zq_bn e ab c N v ≤ N * F := zq_sm_le N (fun i hi => Nat.le_trans (zq_bf_le e ab c v i) (h i hi))
  have h2 : N * F ≤ 512 * 2 ^ 31 := Nat.mul_le_mul hN (by omega)
  exact Nat.lt_of_le_of_lt (Nat.le_trans h1 h2) (by decide)
/-- the steps, from a view on: none before it counts -/
theorem zq_from (L : Nat → Nat) {D N v : Nat} (e c : Nat → Nat) (hN : N = zq_nv L D) (hv : v < N) : zq_sm (zq_bf e (zq_ab L D) c v) v = 0 :=
  zq_sm_zero v (fun i hi => zq_bf_f (fun q => by have := zq_ab_le L D v i (by omega) q.2; omega))
