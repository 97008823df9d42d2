/-! the reference's numbers of what it refuses -/
def zc_b (b : Bool) : Nat := if b = true then 0 else 1
def zc_st (k : Nat) : Nat := if k < 16 then 0 else 1
theorem zq_upL {L : Nat → Nat} {D a : Nat} (hL : ∀ j, j < D → 1 ≤ L j ∧ L j ≤ 4) (h1 : 1 ≤ a) (h2 : a ≤ 4) : ∀ j, j < D + 1 → 1 ≤ zq_up L D a j ∧ zq_up L D a j ≤ 4 := by
  intro j hj
  by_cases e : j = D
  · rw [e, zq_up_s]; exact ⟨h1, h2⟩
  · rw [zq_up_n L e]; exact hL j (by omega)
theorem zq_upV {L : Nat → Nat} {D a : Nat} {lev : Nat → Int32} (hl : ∀ j, j < D → lev j = nI (L j)) : ∀ j, j < D + 1 → upd lev D (nI a) j = nI (zq_up L D a j) := by
  intro j hj
  by_cases e : j = D
  · rw [e, pk_us, zq_up_s]
  · rw [pk_un e, zq_up_n L e]; exact hl j (by omega)
