/-! steps keep what is legal -/
theorem zq_ct_s (e : Nat → Nat) (ab : Nat → Nat → Bool) (F : Nat) (S : Nat → Nat) (k v : Nat) : zq_ct e ab F S (k + 1) v = if e (S k) < zq_ct e ab F S k v ∧ ab (S k) v = true then e (S k) else zq_ct e ab F S k v := rfl
theorem zq_go_ok {pick : Nat → (Nat → Nat) → Nat} {N : Nat} (hp : ∀ k S, pick k S ≤ N) : ∀ (n k : Nat) (S : Nat → Nat), (∀ i, i < k → S i < N) → (∀ i, i < (zq_go pick n k S).1 → (zq_go pick n k S).2 i < N) ∧ k ≤ (zq_go pick n k S).1 ∧ (zq_go pick n k S).1 ≤ k + n
  | 0, k, S, h => ⟨h, Nat.le_refl _, Nat.le_refl _⟩
  | n + 1, k, S, h => by
    by_cases e : pick k S = 0
    · have e1 : zq_go pick (n + 1) k S = (k, S) := by show (if _ then _ else _) = _; rw [if_pos e]
      rw [e1]
      exact ⟨h, Nat.le_refl _, Nat.le_add_right _ _⟩
    · have e1 : zq_go pick (n + 1) k S = zq_go pick n (k + 1) (zq_up S k (pick k S - 1)) := by show (if _ then _ else _) = _; rw [if_neg e]
      rw [e1]
      have h2 : ∀ i, i < k + 1 → zq_up S k (pick k S - 1) i < N := by
        intro i hi
        by_cases q : i = k
        · rw [q, zq_up_s]
          have := hp k S
          omega
        · rw [zq_up_n S q]
          exact h i (by omega)
      have ih := zq_go_ok hp n (k + 1) (zq_up S k (pick k S - 1)) h2
      exact ⟨ih.1, by omega, by omega⟩
/-- what is chosen, as the reference holds it -/
def zm_S (N k : Nat) (S : Nat → Nat) (chs : Nat → Int32) : Prop := k ≤ 16 ∧ (∀ i, i < k → chs i = nI (S i)) ∧ ∀ i, i < k → S i < N
theorem zm_S_up {N k v : Nat} {S : Nat → Nat} {chs : Nat → Int32} (h : zm_S N k S chs) (hk : k < 16) (hv : v < N) : zm_S N (k + 1) (zq_up S k v) (upd chs k (nI v)) := by
  refine ⟨by omega, fun i hi => ?_, fun i hi => ?_⟩
  · by_cases e : i = k
    · rw [e, pk_us, zq_up_s]
    · rw [pk_un e, zq_up_n S e]
      exact h.2.1 i (by omega)
  · by_cases e : i = k
    · rw [e, zq_up_s]
      exact hv
    · rw [zq_up_n S e]
      exact h.2.2 i (by omega)
