/-! the packed digits as ints -/
theorem zq_orI (a b : Nat) : nI a ||| nI b = nI (a ||| b) := by
  apply Int32.toBitVec_inj.1
  show BitVec.ofNat 32 a ||| BitVec.ofNat 32 b = BitVec.ofNat 32 (a ||| b)
  apply BitVec.eq_of_getLsbD_eq
  intro i hi
  simp [hi]
theorem zq_andI (a b : Nat) : nI a &&& nI b = nI (a &&& b) := by
  apply Int32.toBitVec_inj.1
  show BitVec.ofNat 32 a &&& BitVec.ofNat 32 b = BitVec.ofNat 32 (a &&& b)
  apply BitVec.eq_of_getLsbD_eq
  intro i hi
  simp [hi]
theorem zq_injI {a b : Nat} (ha : a < 2 ^ 32) (hb : b < 2 ^ 32) : nI a = nI b ↔ a = b := by
  constructor
  · intro h
    have := congrArg (fun z : Int32 => z.toBitVec.toNat) h
    simpa only [pk_tn ha, pk_tn hb] using this
  · intro h
    rw [h]
theorem zq_free : (-2004318072 : Int32) = nI (zq_fb 8) := by decide +kernel
theorem zq_fb_lt : zq_fb 8 < 2 ^ 32 := by decide +kernel
/-- the program's comparison of all digits at once -/
theorem zq_aboveI {u w : Nat} (hu : u < 16 ^ 8) (hw : w < 16 ^ 8) (du : ∀ d, d < 8 → u / 16 ^ d % 16 < 8) (dw : ∀ d, d < 8 → w / 16 ^ d % 16 < 8) :
    ((nI w ||| (-2004318072)) - nI u) &&& (-2004318072) = (-2004318072) ↔ ∀ d, d < 8 → u / 16 ^ d % 16 ≤ w / 16 ^ d % 16 := by
  obtain ⟨h1, h2, h3⟩ := zq_above 8 u w hu hw du dw
  rw [zq_free, zq_orI, h1, pk_sub h2, zq_andI, zq_injI (Nat.lt_of_le_of_lt Nat.and_le_right zq_fb_lt) zq_fb_lt]
  exact h3
theorem zq_pk32 (L : Nat → Nat) {D : Nat} (v : Nat) (hD : D ≤ 8) (h : ∀ j, j < D → L j ≤ 4) : zq_pk L D v < 16 ^ 8 := Nat.lt_of_lt_of_le (zq_pk_lt L D v h) (Nat.pow_le_pow_right (by decide) hD)
theorem zq_pk_d (L : Nat → Nat) {D : Nat} (v d : Nat) (h : ∀ j, j < D → L j ≤ 4) : zq_pk L D v / 16 ^ d % 16 = if d < D then zq_dg L D v d else 0 := by
  by_cases hd : d < D
  · rw [if_pos hd, zq_pk_nib L D v d h hd]
  · rw [if_neg hd, zq_pk_hi L D v d h (by omega)]
theorem zq_pk_7 (L : Nat → Nat) {D : Nat} (v d : Nat) (h : ∀ j, j < D → L j ≤ 4) : zq_pk L D v / 16 ^ d % 16 < 8 := by
  rw [zq_pk_d L v d h]
  split
  · next hd => have := zq_dg_le L D v d hd; have := h d hd; omega
  · decide
theorem zq_abI (L : Nat → Nat) {D : Nat} (u v : Nat) (hD : D ≤ 8) (h : ∀ j, j < D → L j ≤ 4) :
    ((nI (zq_pk L D v) ||| (-2004318072)) - nI (zq_pk L D u)) &&& (-2004318072) = (-2004318072) ↔ zq_ab L D u v = true := by
  rw [zq_aboveI (zq_pk32 L u hD h) (zq_pk32 L v hD h) (fun d _ => zq_pk_7 L u d h) (fun d _ => zq_pk_7 L v d h)]
  unfold zq_ab
  rw [decide_eq_true_iff]
  constructor
  · intro q d hd
    have := q d (by omega)
    rwa [zq_pk_d L u d h, zq_pk_d L v d h, if_pos hd, if_pos hd] at this
  · intro q d _
    rw [zq_pk_d L u d h, zq_pk_d L v d h]
    by_cases hd : d < D
    · rw [if_pos hd, if_pos hd]
      exact q d hd
    · rw [if_neg hd, if_neg hd]
      exact Nat.le_refl _
theorem zq_sh : ∀ d, d < 8 → (((nI (d * 4)).toUInt32 &&& Int32.toUInt32 31).toBitVec % 32).toNat = 4 * d := by decide +kernel
theorem zq_shl : ∀ d, d < 8 → ((nI (d * 4) &&& 31).toBitVec.smod 32).toNat = 4 * d := by decide +kernel
/-- the program's digit -/
theorem zq_unp (L : Nat → Nat) {D : Nat} (v : Nat) {d : Nat} (hD : D ≤ 8) (h : ∀ j, j < D → L j ≤ 4) (hd : d < D) :
    ((nI (zq_pk L D v)).toUInt32 >>> ((nI (d * 4)).toUInt32 &&& Int32.toUInt32 31)).toInt32 &&& 15 = nI (zq_dg L D v d) := by
  have h16 : zq_pk L D v < 2 ^ 32 := zq_pk32 L v hD h
  rw [pk_ushrN h16 (nI (d * 4)) (4 * d) (zq_sh d (by omega)), pk_andN (Nat.lt_of_le_of_lt (Nat.div_le_self _ _) h16) 4 (by decide +kernel), Nat.pow_mul]
  rw [show (2 ^ 4 : Nat) = 16 from rfl, zq_pk_nib L D v d h hd]
theorem zq_or_add {a b k : Nat} (h : a < 2 ^ k) : a ||| b * 2 ^ k = a + b * 2 ^ k := by
  rw [Nat.mul_comm b, Nat.add_comm, Nat.two_pow_add_eq_or_of_lt h, Nat.or_comm]
/-- what splitting a view writes -/
theorem zq_split (L : Nat → Nat) {D : Nat} (v n j : Nat) (hD : D < 8) (h : ∀ i, i < D → L i ≤ 4) (hn : n ≤ 4) (hj : j ≤ n) :
    nI (zq_pk L D v) ||| (nI j <<< (nI (D * 4) &&& 31)) = nI (zq_pk (zq_up L D n) (D + 1) (v * (n + 1) + j)) := by
  have e0 : ∀ i, i < D → zq_up L D n i = L i := fun i hi => zq_up_n L (by omega)
  have e1 : zq_pk (zq_up L D n) (D + 1) (v * (n + 1) + j) = zq_pk L D v + j * 16 ^ D := by
    show zq_pk (zq_up L D n) D ((v * (n + 1) + j) / (zq_up L D n D + 1)) + (v * (n + 1) + j) % (zq_up L D n D + 1) * 16 ^ D = _
    rw [zq_up_s, zq_pk_congr D _ e0, Nat.mul_comm v, Nat.mul_add_div (Nat.succ_pos n), Nat.div_eq_of_lt (by omega), Nat.mul_add_mod, Nat.mod_eq_of_lt (by omega), Nat.add_zero]
  have h1 := zq_pk_lt L D v h
  have e16 : (16 : Nat) ^ D = 2 ^ (4 * D) := by rw [Nat.pow_mul]
  have h2 : 2 ^ (4 * D) ≤ 2 ^ 28 := Nat.pow_le_pow_right (by decide) (by omega)
  have h3 : j * 2 ^ (4 * D) ≤ 4 * 2 ^ 28 := Nat.mul_le_mul (by omega) h2
  rw [pk_shlN _ (4 * D) (zq_shl D hD) (Nat.lt_of_le_of_lt h3 (by decide)), zq_orI, e1]
  rw [e16] at h1 ⊢
  rw [zq_or_add h1]
