/-! PURE: the views' numbers, digits, estimates, costs, benefits; the packed digits -/
/-- the digit of dimension d in view v, of D dimensions with the levels L -/
def zq_dg (L : Nat → Nat) : Nat → Nat → Nat → Nat
  | 0, _, _ => 0
  | D + 1, v, d => if d = D then v % (L D + 1) else zq_dg L D (v / (L D + 1)) d
/-- how many views -/
def zq_nv (L : Nat → Nat) : Nat → Nat
  | 0 => 1
  | D + 1 => zq_nv L D * (L D + 1)
def zq_ab (L : Nat → Nat) (D u v : Nat) : Bool := decide (∀ d, d < D → zq_dg L D u d ≤ zq_dg L D v d)
def zq_pr (L V : Nat → Nat) (D v : Nat) : Nat → Nat
  | 0 => 1
  | d + 1 => if zq_dg L D v d < L d then zq_pr L V D v d * V (4 * d + zq_dg L D v d) else zq_pr L V D v d
def zq_es (L V : Nat → Nat) (D F v : Nat) : Nat := min F (zq_pr L V D v D)
def zq_ct (e : Nat → Nat) (ab : Nat → Nat → Bool) (F : Nat) (S : Nat → Nat) : Nat → Nat → Nat
  | 0, _ => F
  | k + 1, v => if e (S k) < zq_ct e ab F S k v ∧ ab (S k) v = true then e (S k) else zq_ct e ab F S k v
def zq_sm (f : Nat → Nat) : Nat → Nat
  | 0 => 0
  | n + 1 => zq_sm f n + f n
def zq_bf (e : Nat → Nat) (ab : Nat → Nat → Bool) (c : Nat → Nat) (v i : Nat) : Nat := if e v < c i ∧ ab v i = true then c i - e v else 0
def zq_bn (e : Nat → Nat) (ab : Nat → Nat → Bool) (c : Nat → Nat) (N v : Nat) : Nat := zq_sm (zq_bf e ab c v) N
/-- the greatest so far, and one more than its place (0: none) -/
def zq_mx (b : Nat → Nat) : Nat → Nat × Nat
  | 0 => (0, 0)
  | n + 1 => if (zq_mx b n).1 < b n then (b n, n + 1) else zq_mx b n
def zq_up (f : Nat → Nat) (k x : Nat) : Nat → Nat := fun j => if j = k then x else f j
theorem zq_up_s (f : Nat → Nat) (k x : Nat) : zq_up f k x k = x := by simp [zq_up]
theorem zq_up_n (f : Nat → Nat) {k x j : Nat} (h : j ≠ k) : zq_up f k x j = f j := by simp [zq_up, h]
/-- steps: pick gives one more than the view that is taken, 0 if none -/
def zq_go (pick : Nat → (Nat → Nat) → Nat) : Nat → Nat → (Nat → Nat) → Nat × (Nat → Nat)
  | 0, k, S => (k, S)
  | n + 1, k, S => if pick k S = 0 then (k, S) else zq_go pick n (k + 1) (zq_up S k (pick k S - 1))
theorem zq_nv_pos (L : Nat → Nat) (D : Nat) : 0 < zq_nv L D := by
  induction D with
  | zero => exact Nat.one_pos
  | succ D ih => exact Nat.mul_pos ih (Nat.succ_pos _)
theorem zq_dg_le (L : Nat → Nat) : ∀ (D v d : Nat), d < D → zq_dg L D v d ≤ L d
  | 0, _, _, h => absurd h (Nat.not_lt_zero _)
  | D + 1, v, d, h => by
    unfold zq_dg
    by_cases hd : d = D
    · subst hd
      rw [if_pos rfl]
      exact Nat.le_of_lt_succ (Nat.mod_lt _ (Nat.succ_pos _))
    · rw [if_neg hd]
      exact zq_dg_le L D _ d (by omega)
theorem zq_dg_congr {L L' : Nat → Nat} : ∀ (D v d : Nat), (∀ j, j < D → L j = L' j) → zq_dg L D v d = zq_dg L' D v d
  | 0, _, _, _ => rfl
  | D + 1, v, d, h => by
    unfold zq_dg
    rw [h D (Nat.lt_succ_self D), zq_dg_congr D _ d (fun j hj => h j (Nat.lt_succ_of_lt hj))]
theorem zq_nv_congr {L L' : Nat → Nat} : ∀ (D : Nat), (∀ j, j < D → L j = L' j) → zq_nv L D = zq_nv L' D
  | 0, _ => rfl
  | D + 1, h => by
    unfold zq_nv
    rw [h D (Nat.lt_succ_self D), zq_nv_congr D (fun j hj => h j (Nat.lt_succ_of_lt hj))]
theorem zq_dg_last (L : Nat → Nat) (D v : Nat) : zq_dg L (D + 1) v D = v % (L D + 1) := by simp [zq_dg]
theorem zq_dg_lower (L : Nat → Nat) {D v d : Nat} (h : d ≠ D) : zq_dg L (D + 1) v d = zq_dg L D (v / (L D + 1)) d := by simp [zq_dg, h]
/-- a view is above none with a lesser number -/
theorem zq_ab_le (L : Nat → Nat) : ∀ (D u v : Nat), u < zq_nv L D → zq_ab L D u v = true → u ≤ v
  | 0, u, v, h, _ => by
    have h : u < 1 := h
    omega
  | D + 1, u, v, h, ha => by
    have h : u < zq_nv L D * (L D + 1) := h
    have ha := of_decide_eq_true ha
    have hq : u / (L D + 1) < zq_nv L D := (Nat.div_lt_iff_lt_mul (Nat.succ_pos _)).mpr h
    have h1 : u / (L D + 1) ≤ v / (L D + 1) := by
      refine zq_ab_le L D _ _ hq (decide_eq_true fun d hd => ?_)
      have := ha d (Nat.lt_succ_of_lt hd)
      rwa [zq_dg_lower L (by omega), zq_dg_lower L (by omega)] at this
    have h2 : u % (L D + 1) ≤ v % (L D + 1) := by
      have := ha D (Nat.lt_succ_self D)
      rwa [zq_dg_last, zq_dg_last] at this
    have e1 := Nat.div_add_mod u (L D + 1)
    have e2 := Nat.div_add_mod v (L D + 1)
    have h3 := Nat.mul_le_mul_left (L D + 1) h1
    omega
theorem zq_cap (c P v : Nat) : min c (min c P * v) = min c (P * v) := by
  rcases Nat.le_total c P with h | h
  · rw [Nat.min_eq_left h]
    rcases Nat.eq_zero_or_pos v with rfl | hv
    · simp
    · have h1 : c ≤ c * v := Nat.le_mul_of_pos_right c hv
      have h2 : c ≤ P * v := Nat.le_trans h1 (Nat.mul_le_mul_right v h)
      rw [Nat.min_eq_left h1, Nat.min_eq_left h2]
  · rw [Nat.min_eq_right h]
theorem zq_es_le (L V : Nat → Nat) (D F v : Nat) : zq_es L V D F v ≤ F := Nat.min_le_left _ _
theorem zq_ct_le (e : Nat → Nat) (ab : Nat → Nat → Bool) (F : Nat) (S : Nat → Nat) (k v : Nat) : zq_ct e ab F S k v ≤ F := by
  induction k with
  | zero => exact Nat.le_refl _
  | succ k ih =>
    unfold zq_ct
    split
    · omega
    · exact ih
theorem zq_ct_congr (e : Nat → Nat) (ab : Nat → Nat → Bool) (F : Nat) {S S' : Nat → Nat} : ∀ (k v : Nat), (∀ i, i < k → S i = S' i) → zq_ct e ab F S k v = zq_ct e ab F S' k v
  | 0, _, _ => rfl
  | k + 1, v, h => by
    unfold zq_ct
    rw [h k (Nat.lt_succ_self k), zq_ct_congr e ab F k v (fun i hi => h i (Nat.lt_succ_of_lt hi))]
theorem zq_sm_congr {f g : Nat → Nat} : ∀ (n : Nat), (∀ i, i < n → f i = g i) → zq_sm f n = zq_sm g n
  | 0, _ => rfl
  | n + 1, h => by
    unfold zq_sm
    rw [h n (Nat.lt_succ_self n), zq_sm_congr n (fun i hi => h i (Nat.lt_succ_of_lt hi))]
theorem zq_sm_le {f : Nat → Nat} {B : Nat} : ∀ (n : Nat), (∀ i, i < n → f i ≤ B) → zq_sm f n ≤ n * B
  | 0, _ => by simp [zq_sm]
  | n + 1, h => by
    unfold zq_sm
    have h1 := zq_sm_le n (fun i hi => h i (Nat.lt_succ_of_lt hi))
    have h2 := h n (Nat.lt_succ_self n)
    rw [Nat.succ_mul]
    omega
theorem zq_sm_zero {f : Nat → Nat} : ∀ (n : Nat), (∀ i, i < n → f i = 0) → zq_sm f n = 0
  | 0, _ => rfl
  | n + 1, h => by
    unfold zq_sm
    rw [zq_sm_zero n (fun i hi => h i (Nat.lt_succ_of_lt hi)), h n (Nat.lt_succ_self n)]
theorem zq_bf_le (e : Nat → Nat) (ab : Nat → Nat → Bool) (c : Nat → Nat) (v i : Nat) : zq_bf e ab c v i ≤ c i := by
  unfold zq_bf
  split <;> omega
theorem zq_bf_congr (e : Nat → Nat) (ab : Nat → Nat → Bool) {c c' : Nat → Nat} (v : Nat) {i : Nat} (h : c i = c' i) : zq_bf e ab c v i = zq_bf e ab c' v i := by
  unfold zq_bf
  rw [h]
theorem zq_mx_congr {b b' : Nat → Nat} : ∀ (n : Nat), (∀ i, i < n → b i = b' i) → zq_mx b n = zq_mx b' n
  | 0, _ => rfl
  | n + 1, h => by
    unfold zq_mx
    rw [h n (Nat.lt_succ_self n), zq_mx_congr n (fun i hi => h i (Nat.lt_succ_of_lt hi))]
theorem zq_mx_le (b : Nat → Nat) (n : Nat) : (zq_mx b n).2 ≤ n := by
  induction n with
  | zero => exact Nat.le_refl _
  | succ n ih =>
    unfold zq_mx
    split
    · exact Nat.le_refl _
    · exact Nat.le_succ_of_le ih
theorem zq_mx_bd {b : Nat → Nat} {B : Nat} : ∀ (n : Nat), (∀ i, i < n → b i ≤ B) → (zq_mx b n).1 ≤ B
  | 0, _ => Nat.zero_le _
  | n + 1, h => by
    unfold zq_mx
    split
    · exact h n (Nat.lt_succ_self n)
    · exact zq_mx_bd n (fun i hi => h i (Nat.lt_succ_of_lt hi))
/-! the packed digits: four bits each -/
def zq_pk (L : Nat → Nat) : Nat → Nat → Nat
  | 0, _ => 0
  | D + 1, v => zq_pk L D (v / (L D + 1)) + v % (L D + 1) * 16 ^ D
theorem zq_pk_congr {L L' : Nat → Nat} : ∀ (D v : Nat), (∀ j, j < D → L j = L' j) → zq_pk L D v = zq_pk L' D v
  | 0, _, _ => rfl
  | D + 1, v, h => by
    unfold zq_pk
    rw [h D (Nat.lt_succ_self D), zq_pk_congr D _ (fun j hj => h j (Nat.lt_succ_of_lt hj))]
theorem zq_pk_lt (L : Nat → Nat) : ∀ (D v : Nat), (∀ j, j < D → L j ≤ 4) → zq_pk L D v < 16 ^ D
  | 0, _, _ => Nat.one_pos
  | D + 1, v, h => by
    unfold zq_pk
    have h1 := zq_pk_lt L D (v / (L D + 1)) (fun j hj => h j (Nat.lt_succ_of_lt hj))
    have h2 : v % (L D + 1) ≤ 4 := Nat.le_trans (Nat.le_of_lt_succ (Nat.mod_lt _ (Nat.succ_pos _))) (h D (Nat.lt_succ_self D))
    have h3 := Nat.mul_le_mul_right (16 ^ D) h2
    rw [Nat.pow_succ]
    omega
theorem zq_pk_nib (L : Nat → Nat) : ∀ (D v d : Nat), (∀ j, j < D → L j ≤ 4) → d < D → zq_pk L D v / 16 ^ d % 16 = zq_dg L D v d
  | 0, _, _, _, h => absurd h (Nat.not_lt_zero _)
  | D + 1, v, d, h, hd => by
    have hL := fun j hj => h j (Nat.lt_succ_of_lt hj)
    have h2 : v % (L D + 1) ≤ 4 := Nat.le_trans (Nat.le_of_lt_succ (Nat.mod_lt _ (Nat.succ_pos _))) (h D (Nat.lt_succ_self D))
    have h1 := zq_pk_lt L D (v / (L D + 1)) hL
    unfold zq_pk
    by_cases e : d = D
    · subst e
      rw [zq_dg_last, Nat.add_mul_div_right _ _ (Nat.pow_pos (by decide)), Nat.div_eq_of_lt h1]
      omega
    · have hlt : d < D := by omega
      rw [zq_dg_lower L e, ← zq_pk_nib L D _ d hL hlt]
      have e1 : 16 ^ D = 16 ^ d * (16 * 16 ^ (D - d - 1)) := by
        rw [← Nat.pow_succ', ← Nat.pow_add]
        congr 1
        omega
      rw [e1, show v % (L D + 1) * (16 ^ d * (16 * 16 ^ (D - d - 1))) = 16 ^ d * (16 * (v % (L D + 1) * 16 ^ (D - d - 1))) by
        rw [Nat.mul_left_comm, Nat.mul_left_comm (v % (L D + 1))], Nat.add_mul_div_left _ _ (Nat.pow_pos (by decide)), Nat.add_mul_mod_self_left]
theorem zq_pk_hi (L : Nat → Nat) (D v d : Nat) (h : ∀ j, j < D → L j ≤ 4) (hd : D ≤ d) : zq_pk L D v / 16 ^ d = 0 :=
  Nat.div_eq_of_lt (Nat.lt_of_lt_of_le (zq_pk_lt L D v h) (Nat.pow_le_pow_right (by decide) hd))
/-- the free bits of n digits -/
def zq_fb : Nat → Nat
  | 0 => 0
  | n + 1 => 16 * zq_fb n + 8
theorem zq_nib_or : ∀ w, w < 8 → w ||| 8 = w + 8 := by decide
theorem zq_nib_and : ∀ w, w < 16 → (w &&& 8 = 8 ↔ 8 ≤ w) := by decide
theorem zq_nib_and0 : ∀ w, w < 16 → w &&& 8 ≤ 8 := by decide
theorem zq_split16 (x : Nat) : x = 16 * (x / 16) + x % 16 := (Nat.div_add_mod x 16).symm
theorem zq_and16 (x y : Nat) : x &&& y = 16 * (x / 16 &&& y / 16) + (x % 16 &&& y % 16) := by
  rw [zq_split16 (x &&& y), Nat.and_div_two_pow (n := 4) (a := x) (b := y), Nat.and_mod_two_pow (n := 4) (a := x) (b := y)]
theorem zq_or16 (x y : Nat) : x ||| y = 16 * (x / 16 ||| y / 16) + (x % 16 ||| y % 16) := by
  rw [zq_split16 (x ||| y), Nat.or_div_two_pow (n := 4) (a := x) (b := y), Nat.or_mod_two_pow (n := 4) (a := x) (b := y)]
/-- all digits at once: none of u's is greater than w's just where every free bit is left -/
theorem zq_above : ∀ (n u w : Nat), u < 16 ^ n → w < 16 ^ n → (∀ d, d < n → u / 16 ^ d % 16 < 8) → (∀ d, d < n → w / 16 ^ d % 16 < 8) →
    w ||| zq_fb n = w + zq_fb n ∧ u ≤ w + zq_fb n ∧ ((w + zq_fb n - u) &&& zq_fb n = zq_fb n ↔ ∀ d, d < n → u / 16 ^ d % 16 ≤ w / 16 ^ d % 16)
  | 0, u, w, hu, hw, _, _ => by
    have hu : u < 1 := hu
    have hw : w < 1 := hw
    have e1 : u = 0 := by omega
    have e2 : w = 0 := by omega
    subst e1; subst e2
    exact ⟨rfl, Nat.le_refl _, ⟨fun _ d h => absurd h (Nat.not_lt_zero _), fun _ => rfl⟩⟩
  | n + 1, u, w, hu, hw, du, dw => by
    rw [Nat.pow_succ] at hu hw
    have sh : ∀ (x d : Nat), x / 16 / 16 ^ d = x / 16 ^ (d + 1) := fun x d => by rw [Nat.div_div_eq_div_mul, Nat.pow_succ, Nat.mul_comm]
    obtain ⟨i1, i2, i3⟩ := zq_above n (u / 16) (w / 16) (by omega) (by omega) (fun d hd => by rw [sh]; exact du (d + 1) (by omega)) (fun d hd => by rw [sh]; exact dw (d + 1) (by omega))
    have u0 : u % 16 < 8 := by simpa using du 0 (Nat.succ_pos n)
    have w0 : w % 16 < 8 := by simpa using dw 0 (Nat.succ_pos n)
    have f3 : zq_fb (n + 1) = 16 * zq_fb n + 8 := rfl
    have f1 : zq_fb (n + 1) / 16 = zq_fb n := by omega
    have f2 : zq_fb (n + 1) % 16 = 8 := by omega
    have eu := zq_split16 u
    have ew := zq_split16 w
    have g1 : w ||| zq_fb (n + 1) = w + zq_fb (n + 1) := by
      rw [zq_or16, f1, f2, i1, zq_nib_or _ w0, f3]
      omega
    refine ⟨g1, by omega, ?_⟩
    have k1 : (w + zq_fb (n + 1) - u) / 16 = w / 16 + zq_fb n - u / 16 := by omega
    have k2 : (w + zq_fb (n + 1) - u) % 16 = w % 16 + 8 - u % 16 := by omega
    rw [zq_and16, k1, k2, f1, f2, f3]
    have b1 := zq_nib_and0 (w % 16 + 8 - u % 16) (by omega)
    have b2 := zq_nib_and (w % 16 + 8 - u % 16) (by omega)
    have b3 : (w / 16 + zq_fb n - u / 16) &&& zq_fb n ≤ zq_fb n := Nat.and_le_right
    constructor
    · intro h d hd
      have h4 : (w / 16 + zq_fb n - u / 16) &&& zq_fb n = zq_fb n := by omega
      have h5 : (w % 16 + 8 - u % 16) &&& 8 = 8 := by omega
      cases d with
      | zero =>
        have := b2.mp h5
        simp only [Nat.pow_zero, Nat.div_one]
        omega
      | succ d =>
        have := i3.mp h4 d (by omega)
        rwa [sh, sh] at this
    · intro h
      have h4 := i3.mpr (fun d hd => by rw [sh, sh]; exact h (d + 1) (by omega))
      have h0 := h 0 (Nat.succ_pos n)
      simp only [Nat.pow_zero, Nat.div_one] at h0
      have h5 := b2.mpr (by omega)
      omega
