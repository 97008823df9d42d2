section
-- ===== PART A: goes FIRST, ahead of the names: the tables' words, and 'selects' of the private methods out of them =====
/-- a private method of a class that the tables say can be made, by its rows of tables_1 -/
def lw_okq (q : MethodName × Nat) : Prop := (q.1.cls ≠ "java/lang/invoke/MethodHandle" ∧ q.1.cls ≠ "java/lang/invoke/VarHandle") ∧ Cond.instantiable q.1.cls q.2 ∈ tables_1 ∧ Cond.privateMethod q.1 ∈ tables_1 ∧ Cond.instanceMethod q.1 ∈ tables_1
theorem lw_p0 : lw_okq (⟨"ViewChooser", "forgetChosen", "()V"⟩, 9) := ⟨⟨by decide +kernel, by decide +kernel⟩, List.mem_of_getElem? (i := 11) (by decide +kernel), List.mem_of_getElem? (i := 57) (by decide +kernel), List.mem_of_getElem? (i := 58) (by decide +kernel)⟩
theorem lw_p1 : lw_okq (⟨"java/lang/Throwable", "fillInStackTrace", "(I)Ljava/lang/Throwable;"⟩, 6) := ⟨⟨by decide +kernel, by decide +kernel⟩, List.mem_of_getElem? (i := 114) (by decide +kernel), List.mem_of_getElem? (i := 112) (by decide +kernel), List.mem_of_getElem? (i := 113) (by decide +kernel)⟩
theorem lw_p2 : lw_okq (⟨"ViewChooser", "splitViews", "(II)V"⟩, 9) := ⟨⟨by decide +kernel, by decide +kernel⟩, List.mem_of_getElem? (i := 11) (by decide +kernel), List.mem_of_getElem? (i := 161) (by decide +kernel), List.mem_of_getElem? (i := 162) (by decide +kernel)⟩
theorem lw_p3 : lw_okq (⟨"ViewChooser", "checkDimension", "(I)V"⟩, 9) := ⟨⟨by decide +kernel, by decide +kernel⟩, List.mem_of_getElem? (i := 11) (by decide +kernel), List.mem_of_getElem? (i := 172) (by decide +kernel), List.mem_of_getElem? (i := 173) (by decide +kernel)⟩
theorem lw_p4 : lw_okq (⟨"ViewChooser", "checkView", "(I)V"⟩, 9) := ⟨⟨by decide +kernel, by decide +kernel⟩, List.mem_of_getElem? (i := 11) (by decide +kernel), List.mem_of_getElem? (i := 195) (by decide +kernel), List.mem_of_getElem? (i := 196) (by decide +kernel)⟩
theorem lw_p5 : lw_okq (⟨"ViewChooser", "estimateOf", "(I)J"⟩, 9) := ⟨⟨by decide +kernel, by decide +kernel⟩, List.mem_of_getElem? (i := 11) (by decide +kernel), List.mem_of_getElem? (i := 221) (by decide +kernel), List.mem_of_getElem? (i := 222) (by decide +kernel)⟩
theorem lw_p6 : lw_okq (⟨"ViewChooser", "benefitOf", "(I)J"⟩, 9) := ⟨⟨by decide +kernel, by decide +kernel⟩, List.mem_of_getElem? (i := 11) (by decide +kernel), List.mem_of_getElem? (i := 231) (by decide +kernel), List.mem_of_getElem? (i := 232) (by decide +kernel)⟩
theorem lw_p7 : lw_okq (⟨"ViewChooser", "checkRoomForChosen", "()V"⟩, 9) := ⟨⟨by decide +kernel, by decide +kernel⟩, List.mem_of_getElem? (i := 11) (by decide +kernel), List.mem_of_getElem? (i := 243) (by decide +kernel), List.mem_of_getElem? (i := 244) (by decide +kernel)⟩
theorem lw_p8 : lw_okq (⟨"ViewChooser", "addChosen", "(I)V"⟩, 9) := ⟨⟨by decide +kernel, by decide +kernel⟩, List.mem_of_getElem? (i := 11) (by decide +kernel), List.mem_of_getElem? (i := 248) (by decide +kernel), List.mem_of_getElem? (i := 249) (by decide +kernel)⟩
theorem lw_p9 : lw_okq (⟨"ViewChooser", "mostBeneficial", "()I"⟩, 9) := ⟨⟨by decide +kernel, by decide +kernel⟩, List.mem_of_getElem? (i := 11) (by decide +kernel), List.mem_of_getElem? (i := 259) (by decide +kernel), List.mem_of_getElem? (i := 260) (by decide +kernel)⟩
theorem lw_p10 : lw_okq (⟨"ViewChooserModel", "spread", "()V"⟩, 11) := ⟨⟨by decide +kernel, by decide +kernel⟩, List.mem_of_getElem? (i := 279) (by decide +kernel), List.mem_of_getElem? (i := 327) (by decide +kernel), List.mem_of_getElem? (i := 328) (by decide +kernel)⟩
theorem lw_p11 : lw_okq (⟨"ViewChooserModel", "divided", "(II)I"⟩, 11) := ⟨⟨by decide +kernel, by decide +kernel⟩, List.mem_of_getElem? (i := 279) (by decide +kernel), List.mem_of_getElem? (i := 331) (by decide +kernel), List.mem_of_getElem? (i := 332) (by decide +kernel)⟩
theorem lw_p12 : lw_okq (⟨"ViewChooserModel", "isDimension", "(I)Z"⟩, 11) := ⟨⟨by decide +kernel, by decide +kernel⟩, List.mem_of_getElem? (i := 279) (by decide +kernel), List.mem_of_getElem? (i := 339) (by decide +kernel), List.mem_of_getElem? (i := 340) (by decide +kernel)⟩
theorem lw_p13 : lw_okq (⟨"ViewChooserModel", "isView", "(I)Z"⟩, 11) := ⟨⟨by decide +kernel, by decide +kernel⟩, List.mem_of_getElem? (i := 279) (by decide +kernel), List.mem_of_getElem? (i := 356) (by decide +kernel), List.mem_of_getElem? (i := 357) (by decide +kernel)⟩
theorem lw_p14 : lw_okq (⟨"ViewChooserModel", "digitOf", "(II)I"⟩, 11) := ⟨⟨by decide +kernel, by decide +kernel⟩, List.mem_of_getElem? (i := 279) (by decide +kernel), List.mem_of_getElem? (i := 360) (by decide +kernel), List.mem_of_getElem? (i := 361) (by decide +kernel)⟩
theorem lw_p15 : lw_okq (⟨"ViewChooserModel", "above", "(II)Z"⟩, 11) := ⟨⟨by decide +kernel, by decide +kernel⟩, List.mem_of_getElem? (i := 279) (by decide +kernel), List.mem_of_getElem? (i := 368) (by decide +kernel), List.mem_of_getElem? (i := 369) (by decide +kernel)⟩
def lw_privs_1 : List (MethodName × Nat) := [(⟨"ViewChooser", "forgetChosen", "()V"⟩, 9), (⟨"java/lang/Throwable", "fillInStackTrace", "(I)Ljava/lang/Throwable;"⟩, 6), (⟨"ViewChooser", "splitViews", "(II)V"⟩, 9), (⟨"ViewChooser", "checkDimension", "(I)V"⟩, 9), (⟨"ViewChooser", "checkView", "(I)V"⟩, 9), (⟨"ViewChooser", "estimateOf", "(I)J"⟩, 9), (⟨"ViewChooser", "benefitOf", "(I)J"⟩, 9), (⟨"ViewChooser", "checkRoomForChosen", "()V"⟩, 9), (⟨"ViewChooser", "addChosen", "(I)V"⟩, 9), (⟨"ViewChooser", "mostBeneficial", "()I"⟩, 9), (⟨"ViewChooserModel", "spread", "()V"⟩, 11), (⟨"ViewChooserModel", "divided", "(II)I"⟩, 11), (⟨"ViewChooserModel", "isDimension", "(I)Z"⟩, 11), (⟨"ViewChooserModel", "isView", "(I)Z"⟩, 11), (⟨"ViewChooserModel", "digitOf", "(II)I"⟩, 11), (⟨"ViewChooserModel", "above", "(II)Z"⟩, 11)]
theorem lw_r1 : ∀ q ∈ lw_privs_1, lw_okq q := List.forall_mem_cons.mpr ⟨lw_p0, List.forall_mem_cons.mpr ⟨lw_p1, List.forall_mem_cons.mpr ⟨lw_p2, List.forall_mem_cons.mpr ⟨lw_p3, List.forall_mem_cons.mpr ⟨lw_p4, List.forall_mem_cons.mpr ⟨lw_p5, List.forall_mem_cons.mpr ⟨lw_p6, List.forall_mem_cons.mpr ⟨lw_p7, List.forall_mem_cons.mpr ⟨lw_p8, List.forall_mem_cons.mpr ⟨lw_p9, List.forall_mem_cons.mpr ⟨lw_p10, List.forall_mem_cons.mpr ⟨lw_p11, List.forall_mem_cons.mpr ⟨lw_p12, List.forall_mem_cons.mpr ⟨lw_p13, List.forall_mem_cons.mpr ⟨lw_p14, List.forall_mem_cons.mpr ⟨lw_p15, fun _ h => absurd h List.not_mem_nil⟩⟩⟩⟩⟩⟩⟩⟩⟩⟩⟩⟩⟩⟩⟩⟩
theorem lw_p16 : lw_okq (⟨"ViewChooserModel", "reckon", "()V"⟩, 11) := ⟨⟨by decide +kernel, by decide +kernel⟩, List.mem_of_getElem? (i := 279) (by decide +kernel), List.mem_of_getElem? (i := 376) (by decide +kernel), List.mem_of_getElem? (i := 377) (by decide +kernel)⟩
theorem lw_p17 : lw_okq (⟨"ViewChooserModel", "estimateOf", "(I)J"⟩, 11) := ⟨⟨by decide +kernel, by decide +kernel⟩, List.mem_of_getElem? (i := 279) (by decide +kernel), List.mem_of_getElem? (i := 380) (by decide +kernel), List.mem_of_getElem? (i := 381) (by decide +kernel)⟩
theorem lw_p18 : lw_okq (⟨"ViewChooserModel", "benefitOf", "(I)J"⟩, 11) := ⟨⟨by decide +kernel, by decide +kernel⟩, List.mem_of_getElem? (i := 279) (by decide +kernel), List.mem_of_getElem? (i := 385) (by decide +kernel), List.mem_of_getElem? (i := 386) (by decide +kernel)⟩
theorem lw_p19 : lw_okq (⟨"ViewChooserModel", "choosesOne", "()I"⟩, 11) := ⟨⟨by decide +kernel, by decide +kernel⟩, List.mem_of_getElem? (i := 279) (by decide +kernel), List.mem_of_getElem? (i := 397) (by decide +kernel), List.mem_of_getElem? (i := 398) (by decide +kernel)⟩
def lw_privs_2 : List (MethodName × Nat) := [(⟨"ViewChooserModel", "reckon", "()V"⟩, 11), (⟨"ViewChooserModel", "estimateOf", "(I)J"⟩, 11), (⟨"ViewChooserModel", "benefitOf", "(I)J"⟩, 11), (⟨"ViewChooserModel", "choosesOne", "()I"⟩, 11)]
theorem lw_r2 : ∀ q ∈ lw_privs_2, lw_okq q := List.forall_mem_cons.mpr ⟨lw_p16, List.forall_mem_cons.mpr ⟨lw_p17, List.forall_mem_cons.mpr ⟨lw_p18, List.forall_mem_cons.mpr ⟨lw_p19, fun _ h => absurd h List.not_mem_nil⟩⟩⟩⟩
def lw_privs : List (MethodName × Nat) := lw_privs_1 ++ (lw_privs_2)
def lw_tbl : List Cond := k2_sels lw_privs ++ tables_1
theorem lw_privs_ok : ∀ q ∈ lw_privs, lw_okq q := by
  show ∀ q ∈ lw_privs_1 ++ (lw_privs_2), lw_okq q
  exact List.forall_mem_append.mpr ⟨lw_r1, lw_r2⟩
end
section
/-! PURE: the views' numbers, digits, estimates, costs, benefits; the packed digits -/
/-- the digit of dimension d in view v, of D dimensions with the levels L -/
def zq_dg (L : Nat → Nat) : Nat → Nat → Nat → Nat
  | 0, _, _ => 0
  | D + 1, v, d => if d = D then v % (L D + 1) else zq_dg L D (v / (L D + 1)) d
/-- how many views -/
def zq_nv (L : Nat → Nat) : Nat → Nat
  | 0 => 1
  | D + 1 => zq_nv L D * (L D + 1)
def zq_ab (L : Nat → Nat) (D u v : Nat) : Bool := decide (∀ d, d < D → zq_dg L D u d ≤ zq_dg L D v d)
def zq_pr (L V : Nat → Nat) (D v : Nat) : Nat → Nat
  | 0 => 1
  | d + 1 => if zq_dg L D v d < L d then zq_pr L V D v d * V (4 * d + zq_dg L D v d) else zq_pr L V D v d
def zq_es (L V : Nat → Nat) (D F v : Nat) : Nat := min F (zq_pr L V D v D)
def zq_ct (e : Nat → Nat) (ab : Nat → Nat → Bool) (F : Nat) (S : Nat → Nat) : Nat → Nat → Nat
  | 0, _ => F
  | k + 1, v => if e (S k) < zq_ct e ab F S k v ∧ ab (S k) v = true then e (S k) else zq_ct e ab F S k v
def zq_sm (f : Nat → Nat) : Nat → Nat
  | 0 => 0
  | n + 1 => zq_sm f n + f n
def zq_bf (e : Nat → Nat) (ab : Nat → Nat → Bool) (c : Nat → Nat) (v i : Nat) : Nat := if e v < c i ∧ ab v i = true then c i - e v else 0
def zq_bn (e : Nat → Nat) (ab : Nat → Nat → Bool) (c : Nat → Nat) (N v : Nat) : Nat := zq_sm (zq_bf e ab c v) N
/-- the greatest so far, and one more than its place (0: none) -/
def zq_mx (b : Nat → Nat) : Nat → Nat × Nat
  | 0 => (0, 0)
  | n + 1 => if (zq_mx b n).1 < b n then (b n, n + 1) else zq_mx b n
def zq_up (f : Nat → Nat) (k x : Nat) : Nat → Nat := fun j => if j = k then x else f j
theorem zq_up_s (f : Nat → Nat) (k x : Nat) : zq_up f k x k = x := by simp [zq_up]
theorem zq_up_n (f : Nat → Nat) {k x j : Nat} (h : j ≠ k) : zq_up f k x j = f j := by simp [zq_up, h]
/-- steps: pick gives one more than the view that is taken, 0 if none -/
def zq_go (pick : Nat → (Nat → Nat) → Nat) : Nat → Nat → (Nat → Nat) → Nat × (Nat → Nat)
  | 0, k, S => (k, S)
  | n + 1, k, S => if pick k S = 0 then (k, S) else zq_go pick n (k + 1) (zq_up S k (pick k S - 1))
theorem zq_nv_pos (L : Nat → Nat) (D : Nat) : 0 < zq_nv L D := by
  induction D with
  | zero => exact Nat.one_pos
  | succ D ih => exact Nat.mul_pos ih (Nat.succ_pos _)
theorem zq_dg_le (L : Nat → Nat) : ∀ (D v d : Nat), d < D → zq_dg L D v d ≤ L d
  | 0, _, _, h => absurd h (Nat.not_lt_zero _)
  | D + 1, v, d, h => by
    unfold zq_dg
    by_cases hd : d = D
    · subst hd
      rw [if_pos rfl]
      exact Nat.le_of_lt_succ (Nat.mod_lt _ (Nat.succ_pos _))
    · rw [if_neg hd]
      exact zq_dg_le L D _ d (by omega)
theorem zq_dg_congr {L L' : Nat → Nat} : ∀ (D v d : Nat), (∀ j, j < D → L j = L' j) → zq_dg L D v d = zq_dg L' D v d
  | 0, _, _, _ => rfl
  | D + 1, v, d, h => by
    unfold zq_dg
    rw [h D (Nat.lt_succ_self D), zq_dg_congr D _ d (fun j hj => h j (Nat.lt_succ_of_lt hj))]
theorem zq_nv_congr {L L' : Nat → Nat} : ∀ (D : Nat), (∀ j, j < D → L j = L' j) → zq_nv L D = zq_nv L' D
  | 0, _ => rfl
  | D + 1, h => by
    unfold zq_nv
    rw [h D (Nat.lt_succ_self D), zq_nv_congr D (fun j hj => h j (Nat.lt_succ_of_lt hj))]
theorem zq_dg_last (L : Nat → Nat) (D v : Nat) : zq_dg L (D + 1) v D = v % (L D + 1) := by simp [zq_dg]
theorem zq_dg_lower (L : Nat → Nat) {D v d : Nat} (h : d ≠ D) : zq_dg L (D + 1) v d = zq_dg L D (v / (L D + 1)) d := by simp [zq_dg, h]
/-- a view is above none with a lesser number -/
theorem zq_ab_le (L : Nat → Nat) : ∀ (D u v : Nat), u < zq_nv L D → zq_ab L D u v = true → u ≤ v
  | 0, u, v, h, _ => by
    have h : u < 1 := h
    omega
  | D + 1, u, v, h, ha => by
    have h : u < zq_nv L D * (L D + 1) := h
    have ha := of_decide_eq_true ha
    have hq : u / (L D + 1) < zq_nv L D := (Nat.div_lt_iff_lt_mul (Nat.succ_pos _)).mpr h
    have h1 : u / (L D + 1) ≤ v / (L D + 1) := by
      refine zq_ab_le L D _ _ hq (decide_eq_true fun d hd => ?_)
      have := ha d (Nat.lt_succ_of_lt hd)
      rwa [zq_dg_lower L (by omega), zq_dg_lower L (by omega)] at this
    have h2 : u % (L D + 1) ≤ v % (L D + 1) := by
      have := ha D (Nat.lt_succ_self D)
      rwa [zq_dg_last, zq_dg_last] at this
    have e1 := Nat.div_add_mod u (L D + 1)
    have e2 := Nat.div_add_mod v (L D + 1)
    have h3 := Nat.mul_le_mul_left (L D + 1) h1
    omega
theorem zq_cap (c P v : Nat) : min c (min c P * v) = min c (P * v) := by
  rcases Nat.le_total c P with h | h
  · rw [Nat.min_eq_left h]
    rcases Nat.eq_zero_or_pos v with rfl | hv
    · simp
    · have h1 : c ≤ c * v := Nat.le_mul_of_pos_right c hv
      have h2 : c ≤ P * v := Nat.le_trans h1 (Nat.mul_le_mul_right v h)
      rw [Nat.min_eq_left h1, Nat.min_eq_left h2]
  · rw [Nat.min_eq_right h]
theorem zq_es_le (L V : Nat → Nat) (D F v : Nat) : zq_es L V D F v ≤ F := Nat.min_le_left _ _
theorem zq_ct_le (e : Nat → Nat) (ab : Nat → Nat → Bool) (F : Nat) (S : Nat → Nat) (k v : Nat) : zq_ct e ab F S k v ≤ F := by
  induction k with
  | zero => exact Nat.le_refl _
  | succ k ih =>
    unfold zq_ct
    split
    · omega
    · exact ih
theorem zq_ct_congr (e : Nat → Nat) (ab : Nat → Nat → Bool) (F : Nat) {S S' : Nat → Nat} : ∀ (k v : Nat), (∀ i, i < k → S i = S' i) → zq_ct e ab F S k v = zq_ct e ab F S' k v
  | 0, _, _ => rfl
  | k + 1, v, h => by
    unfold zq_ct
    rw [h k (Nat.lt_succ_self k), zq_ct_congr e ab F k v (fun i hi => h i (Nat.lt_succ_of_lt hi))]
theorem zq_sm_congr {f g : Nat → Nat} : ∀ (n : Nat), (∀ i, i < n → f i = g i) → zq_sm f n = zq_sm g n
  | 0, _ => rfl
  | n + 1, h => by
    unfold zq_sm
    rw [h n (Nat.lt_succ_self n), zq_sm_congr n (fun i hi => h i (Nat.lt_succ_of_lt hi))]
theorem zq_sm_le {f : Nat → Nat} {B : Nat} : ∀ (n : Nat), (∀ i, i < n → f i ≤ B) → zq_sm f n ≤ n * B
  | 0, _ => by simp [zq_sm]
  | n + 1, h => by
    unfold zq_sm
    have h1 := zq_sm_le n (fun i hi => h i (Nat.lt_succ_of_lt hi))
    have h2 := h n (Nat.lt_succ_self n)
    rw [Nat.succ_mul]
    omega
theorem zq_sm_zero {f : Nat → Nat} : ∀ (n : Nat), (∀ i, i < n → f i = 0) → zq_sm f n = 0
  | 0, _ => rfl
  | n + 1, h => by
    unfold zq_sm
    rw [zq_sm_zero n (fun i hi => h i (Nat.lt_succ_of_lt hi)), h n (Nat.lt_succ_self n)]
theorem zq_bf_le (e : Nat → Nat) (ab : Nat → Nat → Bool) (c : Nat → Nat) (v i : Nat) : zq_bf e ab c v i ≤ c i := by
  unfold zq_bf
  split <;> omega
theorem zq_bf_congr (e : Nat → Nat) (ab : Nat → Nat → Bool) {c c' : Nat → Nat} (v : Nat) {i : Nat} (h : c i = c' i) : zq_bf e ab c v i = zq_bf e ab c' v i := by
  unfold zq_bf
  rw [h]
theorem zq_mx_congr {b b' : Nat → Nat} : ∀ (n : Nat), (∀ i, i < n → b i = b' i) → zq_mx b n = zq_mx b' n
  | 0, _ => rfl
  | n + 1, h => by
    unfold zq_mx
    rw [h n (Nat.lt_succ_self n), zq_mx_congr n (fun i hi => h i (Nat.lt_succ_of_lt hi))]
theorem zq_mx_le (b : Nat → Nat) (n : Nat) : (zq_mx b n).2 ≤ n := by
  induction n with
  | zero => exact Nat.le_refl _
  | succ n ih =>
    unfold zq_mx
    split
    · exact Nat.le_refl _
    · exact Nat.le_succ_of_le ih
theorem zq_mx_bd {b : Nat → Nat} {B : Nat} : ∀ (n : Nat), (∀ i, i < n → b i ≤ B) → (zq_mx b n).1 ≤ B
  | 0, _ => Nat.zero_le _
  | n + 1, h => by
    unfold zq_mx
    split
    · exact h n (Nat.lt_succ_self n)
    · exact zq_mx_bd n (fun i hi => h i (Nat.lt_succ_of_lt hi))
/-! the packed digits: four bits each -/
def zq_pk (L : Nat → Nat) : Nat → Nat → Nat
  | 0, _ => 0
  | D + 1, v => zq_pk L D (v / (L D + 1)) + v % (L D + 1) * 16 ^ D
theorem zq_pk_congr {L L' : Nat → Nat} : ∀ (D v : Nat), (∀ j, j < D → L j = L' j) → zq_pk L D v = zq_pk L' D v
  | 0, _, _ => rfl
  | D + 1, v, h => by
    unfold zq_pk
    rw [h D (Nat.lt_succ_self D), zq_pk_congr D _ (fun j hj => h j (Nat.lt_succ_of_lt hj))]
theorem zq_pk_lt (L : Nat → Nat) : ∀ (D v : Nat), (∀ j, j < D → L j ≤ 4) → zq_pk L D v < 16 ^ D
  | 0, _, _ => Nat.one_pos
  | D + 1, v, h => by
    unfold zq_pk
    have h1 := zq_pk_lt L D (v / (L D + 1)) (fun j hj => h j (Nat.lt_succ_of_lt hj))
    have h2 : v % (L D + 1) ≤ 4 := Nat.le_trans (Nat.le_of_lt_succ (Nat.mod_lt _ (Nat.succ_pos _))) (h D (Nat.lt_succ_self D))
    have h3 := Nat.mul_le_mul_right (16 ^ D) h2
    rw [Nat.pow_succ]
    omega
theorem zq_pk_nib (L : Nat → Nat) : ∀ (D v d : Nat), (∀ j, j < D → L j ≤ 4) → d < D → zq_pk L D v / 16 ^ d % 16 = zq_dg L D v d
  | 0, _, _, _, h => absurd h (Nat.not_lt_zero _)
  | D + 1, v, d, h, hd => by
    have hL := fun j hj => h j (Nat.lt_succ_of_lt hj)
    have h2 : v % (L D + 1) ≤ 4 := Nat.le_trans (Nat.le_of_lt_succ (Nat.mod_lt _ (Nat.succ_pos _))) (h D (Nat.lt_succ_self D))
    have h1 := zq_pk_lt L D (v / (L D + 1)) hL
    unfold zq_pk
    by_cases e : d = D
    · subst e
      rw [zq_dg_last, Nat.add_mul_div_right _ _ (Nat.pow_pos (by decide)), Nat.div_eq_of_lt h1]
      omega
    · have hlt : d < D := by omega
      rw [zq_dg_lower L e, ← zq_pk_nib L D _ d hL hlt]
      have e1 : 16 ^ D = 16 ^ d * (16 * 16 ^ (D - d - 1)) := by
        rw [← Nat.pow_succ', ← Nat.pow_add]
        congr 1
        omega
      rw [e1, show v % (L D + 1) * (16 ^ d * (16 * 16 ^ (D - d - 1))) = 16 ^ d * (16 * (v % (L D + 1) * 16 ^ (D - d - 1))) by
        rw [Nat.mul_left_comm, Nat.mul_left_comm (v % (L D + 1))], Nat.add_mul_div_left _ _ (Nat.pow_pos (by decide)), Nat.add_mul_mod_self_left]
theorem zq_pk_hi (L : Nat → Nat) (D v d : Nat) (h : ∀ j, j < D → L j ≤ 4) (hd : D ≤ d) : zq_pk L D v / 16 ^ d = 0 :=
  Nat.div_eq_of_lt (Nat.lt_of_lt_of_le (zq_pk_lt L D v h) (Nat.pow_le_pow_right (by decide) hd))
/-- the free bits of n digits -/
def zq_fb : Nat → Nat
  | 0 => 0
  | n + 1 => 16 * zq_fb n + 8
theorem zq_nib_or : ∀ w, w < 8 → w ||| 8 = w + 8 := by decide
theorem zq_nib_and : ∀ w, w < 16 → (w &&& 8 = 8 ↔ 8 ≤ w) := by decide
theorem zq_nib_and0 : ∀ w, w < 16 → w &&& 8 ≤ 8 := by decide
theorem zq_split16 (x : Nat) : x = 16 * (x / 16) + x % 16 := (Nat.div_add_mod x 16).symm
theorem zq_and16 (x y : Nat) : x &&& y = 16 * (x / 16 &&& y / 16) + (x % 16 &&& y % 16) := by
  rw [zq_split16 (x &&& y), Nat.and_div_two_pow (n := 4) (a := x) (b := y), Nat.and_mod_two_pow (n := 4) (a := x) (b := y)]
theorem zq_or16 (x y : Nat) : x ||| y = 16 * (x / 16 ||| y / 16) + (x % 16 ||| y % 16) := by
  rw [zq_split16 (x ||| y), Nat.or_div_two_pow (n := 4) (a := x) (b := y), Nat.or_mod_two_pow (n := 4) (a := x) (b := y)]
/-- all digits at once: none of u's is greater than w's just where every free bit is left -/
theorem zq_above : ∀ (n u w : Nat), u < 16 ^ n → w < 16 ^ n → (∀ d, d < n → u / 16 ^ d % 16 < 8) → (∀ d, d < n → w / 16 ^ d % 16 < 8) →
    w ||| zq_fb n = w + zq_fb n ∧ u ≤ w + zq_fb n ∧ ((w + zq_fb n - u) &&& zq_fb n = zq_fb n ↔ ∀ d, d < n → u / 16 ^ d % 16 ≤ w / 16 ^ d % 16)
  | 0, u, w, hu, hw, _, _ => by
    have hu : u < 1 := hu
    have hw : w < 1 := hw
    have e1 : u = 0 := by omega
    have e2 : w = 0 := by omega
    subst e1; subst e2
    exact ⟨rfl, Nat.le_refl _, ⟨fun _ d h => absurd h (Nat.not_lt_zero _), fun _ => rfl⟩⟩
  | n + 1, u, w, hu, hw, du, dw => by
    rw [Nat.pow_succ] at hu hw
    have sh : ∀ (x d : Nat), x / 16 / 16 ^ d = x / 16 ^ (d + 1) := fun x d => by rw [Nat.div_div_eq_div_mul, Nat.pow_succ, Nat.mul_comm]
    obtain ⟨i1, i2, i3⟩ := zq_above n (u / 16) (w / 16) (by omega) (by omega) (fun d hd => by rw [sh]; exact du (d + 1) (by omega)) (fun d hd => by rw [sh]; exact dw (d + 1) (by omega))
    have u0 : u % 16 < 8 := by simpa using du 0 (Nat.succ_pos n)
    have w0 : w % 16 < 8 := by simpa using dw 0 (Nat.succ_pos n)
    have f3 : zq_fb (n + 1) = 16 * zq_fb n + 8 := rfl
    have f1 : zq_fb (n + 1) / 16 = zq_fb n := by omega
    have f2 : zq_fb (n + 1) % 16 = 8 := by omega
    have eu := zq_split16 u
    have ew := zq_split16 w
    have g1 : w ||| zq_fb (n + 1) = w + zq_fb (n + 1) := by
      rw [zq_or16, f1, f2, i1, zq_nib_or _ w0, f3]
      omega
    refine ⟨g1, by omega, ?_⟩
    have k1 : (w + zq_fb (n + 1) - u) / 16 = w / 16 + zq_fb n - u / 16 := by omega
    have k2 : (w + zq_fb (n + 1) - u) % 16 = w % 16 + 8 - u % 16 := by omega
    rw [zq_and16, k1, k2, f1, f2, f3]
    have b1 := zq_nib_and0 (w % 16 + 8 - u % 16) (by omega)
    have b2 := zq_nib_and (w % 16 + 8 - u % 16) (by omega)
    have b3 : (w / 16 + zq_fb n - u / 16) &&& zq_fb n ≤ zq_fb n := Nat.and_le_right
    constructor
    · intro h d hd
      have h4 : (w / 16 + zq_fb n - u / 16) &&& zq_fb n = zq_fb n := by omega
      have h5 : (w % 16 + 8 - u % 16) &&& 8 = 8 := by omega
      cases d with
      | zero =>
        have := b2.mp h5
        simp only [Nat.pow_zero, Nat.div_one]
        omega
      | succ d =>
        have := i3.mp h4 d (by omega)
        rwa [sh, sh] at this
    · intro h
      have h4 := i3.mpr (fun d hd => by rw [sh, sh]; exact h (d + 1) (by omega))
      have h0 := h 0 (Nat.succ_pos n)
      simp only [Nat.pow_zero, Nat.div_one] at h0
      have h5 := b2.mpr (by omega)
      omega
end
section
/-! the packed digits as ints -/
theorem zq_orI (a b : Nat) : nI a ||| nI b = nI (a ||| b) := by
  apply Int32.toBitVec_inj.1
  show BitVec.ofNat 32 a ||| BitVec.ofNat 32 b = BitVec.ofNat 32 (a ||| b)
  apply BitVec.eq_of_getLsbD_eq
  intro i hi
  simp [hi]
theorem zq_andI (a b : Nat) : nI a &&& nI b = nI (a &&& b) := by
  apply Int32.toBitVec_inj.1
  show BitVec.ofNat 32 a &&& BitVec.ofNat 32 b = BitVec.ofNat 32 (a &&& b)
  apply BitVec.eq_of_getLsbD_eq
  intro i hi
  simp [hi]
theorem zq_injI {a b : Nat} (ha : a < 2 ^ 32) (hb : b < 2 ^ 32) : nI a = nI b ↔ a = b := by
  constructor
  · intro h
    have := congrArg (fun z : Int32 => z.toBitVec.toNat) h
    simpa only [pk_tn ha, pk_tn hb] using this
  · intro h
    rw [h]
theorem zq_free : (-2004318072 : Int32) = nI (zq_fb 8) := by decide +kernel
theorem zq_fb_lt : zq_fb 8 < 2 ^ 32 := by decide +kernel
/-- the program's comparison of all digits at once -/
theorem zq_aboveI {u w : Nat} (hu : u < 16 ^ 8) (hw : w < 16 ^ 8) (du : ∀ d, d < 8 → u / 16 ^ d % 16 < 8) (dw : ∀ d, d < 8 → w / 16 ^ d % 16 < 8) :
    ((nI w ||| (-2004318072)) - nI u) &&& (-2004318072) = (-2004318072) ↔ ∀ d, d < 8 → u / 16 ^ d % 16 ≤ w / 16 ^ d % 16 := by
  obtain ⟨h1, h2, h3⟩ := zq_above 8 u w hu hw du dw
  rw [zq_free, zq_orI, h1, pk_sub h2, zq_andI, zq_injI (Nat.lt_of_le_of_lt Nat.and_le_right zq_fb_lt) zq_fb_lt]
  exact h3
theorem zq_pk32 (L : Nat → Nat) {D : Nat} (v : Nat) (hD : D ≤ 8) (h : ∀ j, j < D → L j ≤ 4) : zq_pk L D v < 16 ^ 8 := Nat.lt_of_lt_of_le (zq_pk_lt L D v h) (Nat.pow_le_pow_right (by decide) hD)
theorem zq_pk_d (L : Nat → Nat) {D : Nat} (v d : Nat) (h : ∀ j, j < D → L j ≤ 4) : zq_pk L D v / 16 ^ d % 16 = if d < D then zq_dg L D v d else 0 := by
  by_cases hd : d < D
  · rw [if_pos hd, zq_pk_nib L D v d h hd]
  · rw [if_neg hd, zq_pk_hi L D v d h (by omega)]
theorem zq_pk_7 (L : Nat → Nat) {D : Nat} (v d : Nat) (h : ∀ j, j < D → L j ≤ 4) : zq_pk L D v / 16 ^ d % 16 < 8 := by
  rw [zq_pk_d L v d h]
  split
  · next hd => have := zq_dg_le L D v d hd; have := h d hd; omega
  · decide
theorem zq_abI (L : Nat → Nat) {D : Nat} (u v : Nat) (hD : D ≤ 8) (h : ∀ j, j < D → L j ≤ 4) :
    ((nI (zq_pk L D v) ||| (-2004318072)) - nI (zq_pk L D u)) &&& (-2004318072) = (-2004318072) ↔ zq_ab L D u v = true := by
  rw [zq_aboveI (zq_pk32 L u hD h) (zq_pk32 L v hD h) (fun d _ => zq_pk_7 L u d h) (fun d _ => zq_pk_7 L v d h)]
  unfold zq_ab
  rw [decide_eq_true_iff]
  constructor
  · intro q d hd
    have := q d (by omega)
    rwa [zq_pk_d L u d h, zq_pk_d L v d h, if_pos hd, if_pos hd] at this
  · intro q d _
    rw [zq_pk_d L u d h, zq_pk_d L v d h]
    by_cases hd : d < D
    · rw [if_pos hd, if_pos hd]
      exact q d hd
    · rw [if_neg hd, if_neg hd]
      exact Nat.le_refl _
theorem zq_sh : ∀ d, d < 8 → (((nI (d * 4)).toUInt32 &&& Int32.toUInt32 31).toBitVec % 32).toNat = 4 * d := by decide +kernel
theorem zq_shl : ∀ d, d < 8 → ((nI (d * 4) &&& 31).toBitVec.smod 32).toNat = 4 * d := by decide +kernel
/-- the program's digit -/
theorem zq_unp (L : Nat → Nat) {D : Nat} (v : Nat) {d : Nat} (hD : D ≤ 8) (h : ∀ j, j < D → L j ≤ 4) (hd : d < D) :
    ((nI (zq_pk L D v)).toUInt32 >>> ((nI (d * 4)).toUInt32 &&& Int32.toUInt32 31)).toInt32 &&& 15 = nI (zq_dg L D v d) := by
  have h16 : zq_pk L D v < 2 ^ 32 := zq_pk32 L v hD h
  rw [pk_ushrN h16 (nI (d * 4)) (4 * d) (zq_sh d (by omega)), pk_andN (Nat.lt_of_le_of_lt (Nat.div_le_self _ _) h16) 4 (by decide +kernel), Nat.pow_mul]
  rw [show (2 ^ 4 : Nat) = 16 from rfl, zq_pk_nib L D v d h hd]
theorem zq_or_add {a b k : Nat} (h : a < 2 ^ k) : a ||| b * 2 ^ k = a + b * 2 ^ k := by
  rw [Nat.mul_comm b, Nat.add_comm, Nat.two_pow_add_eq_or_of_lt h, Nat.or_comm]
/-- what splitting a view writes -/
theorem zq_split (L : Nat → Nat) {D : Nat} (v n j : Nat) (hD : D < 8) (h : ∀ i, i < D → L i ≤ 4) (hn : n ≤ 4) (hj : j ≤ n) :
    nI (zq_pk L D v) ||| (nI j <<< (nI (D * 4) &&& 31)) = nI (zq_pk (zq_up L D n) (D + 1) (v * (n + 1) + j)) := by
  have e0 : ∀ i, i < D → zq_up L D n i = L i := fun i hi => zq_up_n L (by omega)
  have e1 : zq_pk (zq_up L D n) (D + 1) (v * (n + 1) + j) = zq_pk L D v + j * 16 ^ D := by
    show zq_pk (zq_up L D n) D ((v * (n + 1) + j) / (zq_up L D n D + 1)) + (v * (n + 1) + j) % (zq_up L D n D + 1) * 16 ^ D = _
    rw [zq_up_s, zq_pk_congr D _ e0, Nat.mul_comm v, Nat.mul_add_div (Nat.succ_pos n), Nat.div_eq_of_lt (by omega), Nat.mul_add_mod, Nat.mod_eq_of_lt (by omega), Nat.add_zero]
  have h1 := zq_pk_lt L D v h
  have e16 : (16 : Nat) ^ D = 2 ^ (4 * D) := by rw [Nat.pow_mul]
  have h2 : 2 ^ (4 * D) ≤ 2 ^ 28 := Nat.pow_le_pow_right (by decide) (by omega)
  have h3 : j * 2 ^ (4 * D) ≤ 4 * 2 ^ 28 := Nat.mul_le_mul (by omega) h2
  rw [pk_shlN _ (4 * D) (zq_shl D hD) (Nat.lt_of_le_of_lt h3 (by decide)), zq_orI, e1]
  rw [e16] at h1 ⊢
  rw [zq_or_add h1]
end
section
/-! CALLS THAT MAY THROW: contracts whose outcome is a return or a throw -/
section ZT
variable {p : Program} {l : Launch} {e : Env} {R : Room} {s : State} {m : MethodId} {args : Array Value} {below : List Frame} {meth : Method} {c : Code} {H : Heap} {locs : List Loc} {cells slots : Nat} {Q Q' : State → Prop}
def zt_FE (st t : State) (L : List Loc) (k n : Nat) : Prop := st.WarmedH t.vm ∧ st.sameButNew ({ t with vm := st.vm } : State) L k n
/-- what a return makes, what a throw makes -/
def zt_k (a b : Nat) : Outcome → Nat
  | .returned _ => a
  | .threw _ => b
def zt_Met (l : Launch) (y : MethodName) (ws : List Cond) (rm : Room) (Pc : Array Value → State → Prop) (Qc : Array Value → State → Outcome → State → Prop) (kr nr kt nt : Nat) (free : Addr → Prop) : Prop :=
  MetFree l y (headSpec ws rm) Pc (fun _ _ _ _ _ => True) (fun a st o t => Qc a st o t ∧ ∃ L, zt_FE st t L (zt_k kr kt o) (zt_k nr nt o) ∧ ∀ q ∈ L, free q.base)
def zt_MQ (below : List Frame) (Qc : Array Value → State → Outcome → State → Prop) (a : Array Value) (s : State) (kr nr kt nt : Nat) (free : Addr → Prop) : State → Prop := fun t =>
  ∃ o, t.status = .running ∧ Ended t below o ∧ Qc a s o t ∧ ∃ L, zt_FE s t L (zt_k kr kt o) (zt_k nr nt o) ∧ ∀ q ∈ L, free q.base
theorem zt_MQ_of {Qc : Array Value → State → Outcome → State → Prop} {a : Array Value} {kr nr kt nt : Nat} {free : Addr → Prop} (t : State) (h : MQ below Qc a s kr nr free t) : zt_MQ below Qc a s kr nr kt nt free t := by
  obtain ⟨o, h1, h2, h3, L, ⟨⟨v, hv⟩, h4⟩, h5⟩ := h
  subst hv
  exact ⟨_, h1, h2, h3, L, ⟨h4.1, h4.2⟩, h5⟩
theorem zt_mono {g : JFrame} (hQ : ∀ t, Q t → Q' t) (k : W p l e R s m args below meth c H locs cells slots Q g) : W p l e R s m args below meth c H locs cells slots Q' g := by
  intro T hT X
  obtain ⟨t, a, b⟩ := k T hT X
  exact ⟨t, a, hQ t b⟩
theorem zt_ofW {y : MethodName} {ws ws' : List Cond} {rm : Room} {Pc : Array Value → State → Prop} {Qc : Array Value → State → Outcome → State → Prop} {kr nr kt nt : Nat} {free : Addr → Prop} {cc : ByteArray} {maxL : Nat} {ret : Option FieldType}
    (hy : plainName y.cls = true) (hw : ws = Cond.code y cc maxL ret :: ws')
    (body : ∀ p e s m args below meth c s₁, BodyLoose p l y (headSpec ws rm) cc maxL ret e s m args below meth c s₁ → c.maxLocals = maxL → c.exceptionTable.toList = [] → Pc args s →
      W p l e (headSpec ws rm).room s m args below meth c s.heap [] 0 0 (zt_MQ below Qc args s kr nr kt nt free) (entryFrame m args maxL)) : zt_Met l y ws rm Pc Qc kr nr kt nt free := by
  refine MetFree.of_bodyS (code := cc) (maxLocals := maxL) (ret := ret) hy ?_ ?_
  · intro args s m h hn
    obtain ⟨meth, c, h1, h2, h3, h4, h5, h6, -, -⟩ := Cond.code_spec hn (atoms_spec (ws := ws) h _ (by rw [hw]; exact List.mem_cons_self))
    exact ⟨meth, c, h1, h2, h3, h4, h5, h6⟩
  · intro p e s m args below meth c s₁ B hml hP _
    have hcw : (Cond.code y cc maxL ret).before args s = true := atoms_spec (ws := ws) B.pre _ (by rw [hw]; exact List.mem_cons_self)
    have h0 := B.noHandlers hcw
    have h1 : c.exceptionTable.toList = [] := List.eq_nil_of_length_eq_zero (by simpa [Array.isEmpty] using h0)
    have hh0 : s₁.heap = s.heap := by rw [B.state]; rfl
    obtain ⟨t, a1, o, b1, b2, b3, b4⟩ := body p e s m args below meth c s₁ B hml h1 hP s₁ hh0 (Stand.of_body B)
    exact ⟨t, o, a1, b1, b2, b3, b4⟩
/-- .. of a method with a table of handlers -/
theorem zt_ofWith {y : MethodName} {ws ws' : List Cond} {rm : Room} {Pc : Array Value → State → Prop} {Qc : Array Value → State → Outcome → State → Prop} {kr nr kt nt : Nat} {free : Addr → Prop} {cc : ByteArray} {maxL : Nat} {ret : Option FieldType} {hs : List (Nat × Nat × Nat × Nat)}
    (hy : plainName y.cls = true) (hw : ws = Cond.codeWith y cc maxL ret hs :: ws')
    (body : ∀ p e s m args below meth c s₁, BodyLoose p l y (headSpec ws rm) cc maxL ret e s m args below meth c s₁ → c.maxLocals = maxL → c.exceptionTable.toList.map (fun h => (h.startPc, h.endPc, h.handlerPc, h.catchType)) = hs → Pc args s →
      W p l e (headSpec ws rm).room s m args below meth c s.heap [] 0 0 (zt_MQ below Qc args s kr nr kt nt free) (entryFrame m args maxL)) : zt_Met l y ws rm Pc Qc kr nr kt nt free := by
  refine MetFree.of_bodyS (code := cc) (maxLocals := maxL) (ret := ret) hy ?_ ?_
  · intro args s m h hn
    obtain ⟨m', meth, c, h0, h1, h2, h3, h4, -, h5, h6, -⟩ := Cond.codeWith_spec (atoms_spec (ws := ws) h (Cond.codeWith y cc maxL ret hs) (by rw [hw]; exact List.mem_cons_self))
    cases hn.symm.trans h0
    exact ⟨meth, c, h1, h2, h3, h4, h5, h6⟩
  · intro p e s m args below meth c s₁ B hml hP _
    have hcw : (Cond.codeWith y cc maxL ret hs).before args s = true := atoms_spec (ws := ws) B.pre _ (by rw [hw]; exact List.mem_cons_self)
    obtain ⟨m', meth', c', hn', hm', hc', -, -, he', -⟩ := Cond.codeWith_spec hcw
    cases B.named.symm.trans hn'
    cases B.method.symm.trans hm'
    cases (Stand.of_body B).code.symm.trans hc'
    have hh0 : s₁.heap = s.heap := by rw [B.state]; rfl
    obtain ⟨t, a1, o, b1, b2, b3, b4⟩ := body p e s m args below meth c s₁ B hml he' hP s₁ hh0 (Stand.of_body B)
    exact ⟨t, o, a1, b1, b2, b3, b4⟩
/-- a word that any state with warmer tables still bears -/
def zt_gw (w : Cond) : Bool := (w.onTables && w.keepsFace) || goodWord w
theorem zt_word_at {a a' : Array Value} {s U : State} (hW : s.WarmedH U.vm) {w : Cond} (hc : zt_gw w = true) (h : w.before a s = true) : w.before a' U = true := by
  simp only [zt_gw, Bool.or_eq_true] at hc
  rcases hc with hc | hc
  · simp only [Bool.and_eq_true] at hc
    have h1 : w.before a (s.setVm U.vm) = true := Cond.before_shiftedFace (State.Shifted.of_warmed hW) w hc.2 h
    exact va_tabs hc.1 (rfl : (s.setVm U.vm).vm = U.vm) h1
  · exact word_at hW (good_of_word hc) h
/-- the callee's run, from the point where the invoking instruction has linked -/
theorem zt_in {T : State} {y : MethodName} {ws : List Cond} {rm : Room} {Pc : Array Value → State → Prop} {Qc : Array Value → State → Outcome → State → Prop} {kr nr kt nt maxL : Nat} {free : Addr → Prop}
    (X : Stand p l e R s m args below meth c T locs cells slots) (hM : zt_Met l y ws rm Pc Qc kr nr kt nt free)
    (hfr : rm.frames + 1 ≤ R.frames) (hlo : 8 + (maxL + 11) + rm.locals ≤ R.locals) (hf : cells + rm.cells ≤ R.cells ∧ slots + rm.slots ≤ R.slots)
    {mk : MethodId} {methY : Method} {cY : Code} (hn : T.methodNamed? y = some mk) (hmY : T.vm.method? mk = some methY) (hcY : methY.code = some cY) (hlY : cY.maxLocals = maxL) {a0 : Array Value} (hinit : (Cond.initialized y.cls).before a0 T = true)
    {g : JFrame} (hg : g.method = m) (hsize : g.locals.size = c.maxLocals) {ig : Instr} {len : Nat} (hdg : decode c.code g.pc = .ok (ig, len)) (hW : 2 * g.monitorRoom + (g.stack.map fun v => v.category).sum ≤ 8)
    {a : Array Value} (hws : ∀ w ∈ ws, w.before a T = true) (hP : Pc a (T.calling g mk a)) :
    ∃ (o : Outcome) (t T' : State) (L : List Loc), Stand p l e R s m args below meth c T' (locs ++ L) (cells + zt_k kr kt o) (slots + zt_k nr nt o) ∧ (∀ q ∈ L, free q.base) ∧ T'.heap = t.heap ∧ T'.vm = t.vm ∧ Qc a (T.calling g mk a) o t ∧
      Steps p.tables e below (doInvoke e (T.setTop g) [] mk a).1 t ∧ (∀ v, o = .returned v → t = T'.setTop { g with pc := g.pc + len, stack := v.toList ++ g.stack }) ∧ (∀ x, o = .threw x → t = (T'.setTop g).pushFrame (.throwing x)) := by
  obtain ⟨kY, hkY, -⟩ := className_of_methodNamed hn
  have hinitY : kY.init = .initialized := Cond.initialized_spec (findClass_of_methodNamed hn) hkY hinit
  have h : At T g.method c below := by rw [hg]; exact X.here
  have happ : (headSpec ws rm).appliesLoose y e.platform (T.calling g mk a) = true :=
    Spec.appliesLoose_calling (g := g) h hdg hn hkY hinitY (X.room_calling (g := g) (R' := rm) hsize hmY hcY hfr (by rw [hlY]; omega) hf.1 hf.2) (atoms_intro hws)
  obtain ⟨mid, hmid⟩ := h.above
  have hfr' : (T.setTop g).frames = (.java g :: mid) ++ below := by rw [State.frames_setTop' g h.top, hmid]; rfl
  obtain ⟨o, t, hsteps, -, hend, hq, L, ⟨hW₂, hsame⟩, hL⟩ := Steps.callFree hM p X.admits X.cas X.clock (acts := []) hfr' happ hP trivial
  rw [State.frames_setTop' g h.top, X.tail] at hend
  cases o with
  | returned v =>
    obtain ⟨T', X', -, -, ht⟩ := X.outOf hg hdg hend hW₂ hsame
    refine ⟨.returned v, t, T', L, X', hL, ?_, ?_, hq, hsteps, fun w hw => by cases hw; exact ht, fun x hx => by cases hx⟩
    · rw [ht]; simp [State.setTop, State.modifyTopJava, State.setFrames]
    · rw [ht]; simp [State.setTop, State.modifyTopJava, State.setFrames]
  | threw x =>
    obtain ⟨T', X', -, -, ht⟩ := X.outOfThrown hg hend hW₂ hsame
    refine ⟨.threw x, t, T', L, X', hL, ?_, ?_, hq, hsteps, fun w hw => by (cases hw), fun z hz => by cases hz; exact ht⟩
    · rw [ht]; exact (Stand.throwing_heap T' g x).symm
    · rw [ht]; exact (Stand.throwing_vm T' g x).symm
/-- a call that may throw -/
def zt_Run (p : Program) (l : Launch) (e : Env) (R : Room) (s : State) (m : MethodId) (args : Array Value) (below : List Frame) (meth : Method) (c : Code) (H : Heap) (locs : List Loc) (cells slots kr nr kt nt : Nat) (g : JFrame) (rest : List Value) (Qa : State → Outcome → State → Prop) (free : Addr → Prop) : Prop :=
  ∀ T : State, T.heap = H → Stand p l e R s m args below meth c T locs cells slots → ∃ (o : Outcome) (st₀ t T' : State) (L : List Loc), st₀.heap = H ∧ s.WarmedH st₀.vm ∧ Stand p l e R s m args below meth c T' (locs ++ L) (cells + zt_k kr kt o) (slots + zt_k nr nt o) ∧ (∀ q ∈ L, free q.base) ∧ T'.heap = t.heap ∧ T'.vm = t.vm ∧ Qa st₀ o t ∧
    (∀ v, o = .returned v → Goes p e below T g T' { g with pc := g.pc + 3, stack := v.toList ++ rest }) ∧ (∀ x, o = .threw x → ∀ target, Steps p.tables e below ((T'.setTop { g with stack := rest }).pushFrame (.throwing x)) target → Steps p.tables e below (T.setTop g) target)
/-- what a call asks of the tables and the room -/
def zt_Cw (R : Room) (s : State) (args : Array Value) (own : String) (index : Nat) (y : MethodName) (maxL : Nat) (ws : List Cond) (rm : Room) (n : Nat) : Prop :=
  rm.frames + 1 ≤ R.frames ∧ 8 + (maxL + 11) + rm.locals ≤ R.locals ∧ (∀ w ∈ ws, zt_gw w = true ∧ w.before args s = true) ∧ (Cond.initialized y.cls).before args s = true ∧ (Cond.methodLink own index y).before args s = true ∧
    (y.cls ≠ "java/lang/invoke/MethodHandle" ∧ y.cls ≠ "java/lang/invoke/VarHandle") ∧ (parseMethodDescriptor y.desc).map (fun d => d.parameters.length) = some n
theorem zt_runV {y : MethodName} {bytes cc : ByteArray} {maxL nL kr nr kt nt n index : Nat} {ret : Option FieldType} {ws : List Cond} {rm : Room} {Pc : Array Value → State → Prop} {Qc : Array Value → State → Outcome → State → Prop} {free : Addr → Prop} {own C : String} {b : Addr} {As rest : List Value} {g : JFrame}
    (hexec : p.tables.exec = Jvm.exec) (hb : c.code = cc) (hml : c.maxLocals = nL) (hown : s.vm.findClass own = some m.cls)
    (hM : zt_Met l y ws rm Pc Qc kr nr kt nt free) (cw : zt_Cw R s args own index y maxL ws rm n) (hinst : (Cond.instanceMethod y).before args s = true) (hsel : (Cond.selects C y y).before args s = true) (hcode : (Cond.code y bytes maxL ret).before args s = true)
    (hp : PreV s H C b Pc As) (hg : g.method = m) (hn : As.length = n) (hsize : g.locals.size = nL) (hstack : g.stack = As.reverse ++ .ref b :: rest) (hW : 2 * g.monitorRoom + (rest.map fun v => v.category).sum ≤ 8) (hdg : decode cc g.pc = .ok (.invokevirtual index, 3)) (hf : cells + rm.cells ≤ R.cells ∧ slots + rm.slots ≤ R.slots) :
    zt_Run p l e R s m args below meth c H locs cells slots kr nr kt nt g rest (Qc (Value.ref b :: As).toArray) free := by
  obtain ⟨hfr, hlo, hws, hini, hlink, hy, hlen⟩ := cw
  obtain ⟨hbl, ⟨cellB, hcB, hoB, hclB⟩, hPc⟩ := hp
  intro T hT X
  obtain ⟨mk, methM, hnamed, hmethM, hstM, habM⟩ := Cond.instanceMethod_spec hinst
  obtain ⟨methM', cM, hmethM', hcM, -, hlM, -, -, -, hsigM⟩ := Cond.code_spec hnamed hcode
  cases hmethM.symm.trans hmethM'
  obtain ⟨c2, r2, m2, q1, q2, q3, q4, kP, hkP, hkPi⟩ := Cond.selects_spec hsel
  cases hclB.symm.trans q1
  cases (State.methodFound?_of_named hnamed hy).symm.trans q2
  cases hnamed.symm.trans q3
  have hselP : selectMethod e.platform s.vm cellB.cls mk = .method mk := by rw [Launch.admits_selectMethod X.admits]; exact q4
  have hlenA : As.length = methM.sig.parameters.length := by
    rw [hsigM] at hlen
    have h1 : methM.sig.parameters.length = n := Option.some.inj hlen
    rw [hn, h1]
  obtain ⟨vm₁, X₁, hstep₁⟩ := X.invokevirtual hexec hown hlink hnamed hmethM hstM hkP hkPi hy (a := b) (cell := cellB) (by rw [hT]; exact hcB)
    (fun z h => by rw [h] at hoB; cases hoB) hselP hmethM habM hkP hkPi (g := g) hg (argsL := As) (rest := rest) hlenA hstack (by rw [hb]; exact hdg)
  have hmk₁ : (T.setVm vm₁).vm.method? mk = some methM := by
    have := X₁.warmed.alike.method? (m := mk)
    exact this.trans hmethM
  obtain ⟨o, t, T', L, X', hL, e1, e2, hq, hst, hr, hx⟩ := zt_in (g := { g with stack := rest }) X₁ hM hfr hlo hf (X₁.named hnamed) hmk₁ hcM hlM (a0 := args) (zt_word_at X₁.warmed (by simp [zt_gw, Cond.onTables, Cond.keepsFace, Cond.keeps, Cond.steady]) hini) hg (hsize.trans hml.symm) (ig := .invokevirtual index) (len := 3) (by rw [hb]; exact hdg) hW
    (a := (Value.ref b :: As).toArray) (fun w hw => zt_word_at X₁.warmed (hws w hw).1 (hws w hw).2) (hbl _ _ _ _ (hPc (T.setVm vm₁) hT X₁.warmed))
  refine ⟨o, _, t, T', L, ?_, ?_, X', hL, e1, e2, hq, fun v hv target h => hstep₁ _ fun acts => ?_, fun x hx' target h => hstep₁ _ fun acts => ?_⟩
  · exact hT
  · exact X₁.warmed
  · rw [doInvoke_state]; exact hst.trans (by rw [hr v hv]; exact h)
  · rw [doInvoke_state]; exact hst.trans (by rw [hx x hx']; exact h)
theorem zt_runS {y : MethodName} {cc : ByteArray} {maxL nL kr nr kt nt n index : Nat} {ws : List Cond} {rm : Room} {Pc : Array Value → State → Prop} {Qc : Array Value → State → Outcome → State → Prop} {free : Addr → Prop} {own : String} {As rest : List Value} {g : JFrame}
    (hexec : p.tables.exec = Jvm.exec) (hb : c.code = cc) (hml : c.maxLocals = nL) (hown : s.vm.findClass own = some m.cls)
    (hM : zt_Met l y ws rm Pc Qc kr nr kt nt free) (cw : zt_Cw R s args own index y maxL ws rm n) (hstat : (Cond.static y).before args s = true)
    (hcode : ∃ (mk : MethodId) (methM : Method) (cM : Code), s.methodNamed? y = some mk ∧ s.vm.method? mk = some methM ∧ methM.code = some cM ∧ cM.maxLocals = maxL ∧ parseMethodDescriptor y.desc = some methM.sig)
    (hp : PreS s H Pc As) (hg : g.method = m) (hn : As.length = n) (hsize : g.locals.size = nL) (hstack : g.stack = As.reverse ++ rest) (hW : 2 * g.monitorRoom + (rest.map fun v => v.category).sum ≤ 8) (hdg : decode cc g.pc = .ok (.invokestatic index, 3)) (hf : cells + rm.cells ≤ R.cells ∧ slots + rm.slots ≤ R.slots) :
    zt_Run p l e R s m args below meth c H locs cells slots kr nr kt nt g rest (Qc As.toArray) free := by
  obtain ⟨hfr, hlo, hws, hini, hlink, hy, hlen⟩ := cw
  obtain ⟨hbl, hPc⟩ := hp
  intro T hT X
  obtain ⟨mk, methM, cM, hnamed, hmethM, hcM, hlM, hsigM⟩ := hcode
  have hstatic : methM.isStatic = true := Cond.static_spec hnamed hmethM hstat
  obtain ⟨kP, hkP, -⟩ := className_of_methodNamed hnamed
  have hinitP : kP.init = .initialized := Cond.initialized_spec (findClass_of_methodNamed hnamed) hkP hini
  have hlenA : As.length = methM.sig.parameters.length := by
    rw [hsigM] at hlen
    have h1 : methM.sig.parameters.length = n := Option.some.inj hlen
    rw [hn, h1]
  obtain ⟨vm₁, X₁, hstep₁⟩ := X.invokestatic hexec hown hlink hnamed hmethM hstatic hkP hinitP hy (g := g) hg (argsL := As) (rest := rest) hlenA hstack (by rw [hb]; exact hdg)
  have hmk₁ : (T.setVm vm₁).vm.method? mk = some methM := by
    have := X₁.warmed.alike.method? (m := mk)
    exact this.trans hmethM
  obtain ⟨o, t, T', L, X', hL, e1, e2, hq, hst, hr, hx⟩ := zt_in (g := { g with stack := rest }) X₁ hM hfr hlo hf (X₁.named hnamed) hmk₁ hcM hlM (a0 := args) (zt_word_at X₁.warmed (by simp [zt_gw, Cond.onTables, Cond.keepsFace, Cond.keeps, Cond.steady]) hini) hg (hsize.trans hml.symm) (ig := .invokestatic index) (len := 3) (by rw [hb]; exact hdg) hW
    (a := As.toArray) (fun w hw => zt_word_at X₁.warmed (hws w hw).1 (hws w hw).2) (hbl _ _ _ _ (hPc (T.setVm vm₁) hT X₁.warmed))
  refine ⟨o, _, t, T', L, ?_, ?_, X', hL, e1, e2, hq, fun v hv target h => hstep₁ _ fun acts => ?_, fun x hx' target h => hstep₁ _ fun acts => ?_⟩
  · exact hT
  · exact X₁.warmed
  · rw [doInvoke_state]; exact hst.trans (by rw [hr v hv]; exact h)
  · rw [doInvoke_state]; exact hst.trans (by rw [hx x hx']; exact h)
/-- what has been thrown: a new cell of the class named; nothing that was there has changed -/
def zt_Th (E : String) (x : Addr) (st t : State) : Prop := st.heap.size ≤ x ∧ st.heap.size ≤ t.heap.size ∧ (∀ q : Nat, q < st.heap.size → t.heap[q]? = st.heap[q]?) ∧ ∃ ce : Cell, t.heap[x]? = some ce ∧ st.vm.findClass E = some ce.cls ∧ ce.vm = .none
theorem zt_same_old {s t : State} {k n : Nat} (h : s.sameButNew t [] k n) : s.heap.size ≤ t.heap.size ∧ ∀ q : Nat, q < s.heap.size → t.heap[q]? = s.heap[q]? := by
  obtain ⟨-, h2, -, -, -, h6⟩ := h
  refine ⟨h2, fun q hq => ?_⟩
  have hc : s.heap[q]? = some s.heap[q] := Array.getElem?_eq_getElem hq
  obtain ⟨c', h1, e1, hs, hi⟩ := h6 q _ hc
  rw [h1, hc]
  congr 1
  rw [e1]
  have : c'.slots = (s.heap[q]).slots := by
    apply Array.ext_getElem?
    intro i
    exact hi i (by simp)
  rw [this]
/-- the walked method is left by what its callee has thrown -/
theorem zt_out {T' : State} {x : Addr} {g : JFrame} {Qc : Array Value → State → Outcome → State → Prop} {free : Addr → Prop} {kr nr : Nat} (X : Stand p l e R s m args below meth c T' locs cells slots) (hg : g.method = m) (hlocked : g.locked = none) (hentered : g.entered = [])
    (hout : c.exceptionTable.toList = []) (hlocks : meth.locks = false) (hL : ∀ q ∈ locs, free q.base) (hq : ∀ t : State, t.heap = T'.heap → t.vm = T'.vm → s.WarmedH t.vm → Qc args s (.threw x) t) :
    ∃ t, Steps p.tables e below ((T'.setTop g).pushFrame (.throwing x)) t ∧ zt_MQ below Qc args s kr nr cells slots free t := by
  obtain ⟨h1, h2, h3, h4, h5⟩ := X.leaveThrown x (g := g) hg hlocked hentered (fun y hy => by rw [hout] at hy; cases hy) hlocks
  exact ⟨_, h1, _, h2, h3, hq _ rfl rfl h4, locs, ⟨h4, h5⟩, hL⟩
end ZT
end
section
/-! rows for calls that may throw, for throws of one's own, for handlers -/
section ZU
variable {p : Program} {l : Launch} {e : Env} {R : Room} {s : State} {m : MethodId} {args : Array Value} {below : List Frame} {meth : Method} {c : Code} {H : Heap} {locs : List Loc} {cells slots : Nat} {Q Q' : State → Prop}
variable {cc : ByteArray} {pc : Nat} {ls : Array Slot} {rest st0 : List Value} {kr nr kt nt : Nat} {free : Addr → Prop} {Qa : State → Outcome → State → Prop}
theorem zt_ti {x y : Int32} (h : x = y) (k : W p l e R s m args below meth c H locs cells slots Q (F0 m pc ls (.int y :: rest))) : W p l e R s m args below meth c H locs cells slots Q (F0 m pc ls (.int x :: rest)) := h ▸ k
theorem zt_tl {x y : Int64} (h : x = y) (k : W p l e R s m args below meth c H locs cells slots Q (F0 m pc ls (.long y :: rest))) : W p l e R s m args below meth c H locs cells slots Q (F0 m pc ls (.long x :: rest)) := h ▸ k
/-- x is being thrown over the method's own frame g -/
def zt_X (p : Program) (l : Launch) (e : Env) (R : Room) (s : State) (m : MethodId) (args : Array Value) (below : List Frame) (meth : Method) (c : Code) (H : Heap) (locs : List Loc) (cells slots : Nat) (Q : State → Prop) (g : JFrame) (x : Addr) : Prop :=
  ∀ T : State, T.heap = H → Stand p l e R s m args below meth c T locs cells slots → ∃ t, Steps p.tables e below ((T.setTop g).pushFrame (.throwing x)) t ∧ Q t
theorem zt_call (hr : zt_Run p l e R s m args below meth c H locs cells slots kr nr kt nt (F0 m pc ls st0) rest Qa free)
    (kr : ∀ (v : Option Value) (st t : State) (L : List Loc), st.heap = H → s.WarmedH st.vm → s.WarmedH t.vm → (∀ q ∈ L, free q.base) → Qa st (.returned v) t → W p l e R s m args below meth c t.heap (locs ++ L) (cells + kr) (slots + nr) Q (F0 m (pc + 3) ls (v.toList ++ rest)))
    (kt : ∀ (x : Addr) (st t : State) (L : List Loc), st.heap = H → s.WarmedH st.vm → s.WarmedH t.vm → (∀ q ∈ L, free q.base) → Qa st (.threw x) t → zt_X p l e R s m args below meth c t.heap (locs ++ L) (cells + kt) (slots + nt) Q (F0 m pc ls rest) x) :
    W p l e R s m args below meth c H locs cells slots Q (F0 m pc ls st0) := by
  intro T hT X
  obtain ⟨o, st₀, t, T', L, h0, hW0, X', hL, e1, e2, hq, hret, hthr⟩ := hr T hT X
  have hWt : s.WarmedH t.vm := e2 ▸ X'.warmed
  cases o with
  | returned v =>
    obtain ⟨t2, a1, b1⟩ := kr v st₀ t L h0 hW0 hWt hL hq T' e1 X'
    exact ⟨t2, hret v rfl t2 a1, b1⟩
  | threw x =>
    obtain ⟨t2, a1, b1⟩ := kt x st₀ t L h0 hW0 hWt hL hq T' e1 X'
    exact ⟨t2, hthr x rfl t2 a1, b1⟩
/-- a call that only returns -/
theorem zt_callr (hr : zt_Run p l e R s m args below meth c H locs cells slots kr nr kt nt (F0 m pc ls st0) rest Qa free) (hn : ∀ x st t, ¬ Qa st (.threw x) t)
    (kr : ∀ (v : Option Value) (st t : State) (L : List Loc), st.heap = H → s.WarmedH st.vm → s.WarmedH t.vm → (∀ q ∈ L, free q.base) → Qa st (.returned v) t → W p l e R s m args below meth c t.heap (locs ++ L) (cells + kr) (slots + nr) Q (F0 m (pc + 3) ls (v.toList ++ rest))) :
    W p l e R s m args below meth c H locs cells slots Q (F0 m pc ls st0) :=
  zt_call hr kr (fun x st t _ _ _ _ _ hq => absurd hq (hn x st t))
theorem zt_X_out {x : Addr} {Qc : Array Value → State → Outcome → State → Prop} (hout : c.exceptionTable.toList = []) (hlocks : meth.locks = false) (hL : ∀ q ∈ locs, free q.base) (hq : ∀ t : State, t.heap = H → s.WarmedH t.vm → Qc args s (.threw x) t) :
    zt_X p l e R s m args below meth c H locs cells slots (zt_MQ below Qc args s kr nr cells slots free) (F0 m pc ls rest) x := by
  intro T hT X
  exact zt_out X rfl rfl rfl hout hlocks hL (fun t ht hv hW => hq t (ht.trans hT) hW)
theorem zt_X_widen {x : Addr} {g : JFrame} {k n : Nat} (h1 : cells ≤ k) (h2 : slots ≤ n) (kk : zt_X p l e R s m args below meth c H locs k n Q g x) : zt_X p l e R s m args below meth c H locs cells slots Q g x := fun T hT X => kk T hT (stand_widen X h1 h2)
theorem zt_X_forget {x : Addr} {g : JFrame} {L : List Loc} (hL : ∀ q ∈ L, s.heap.size ≤ q.base) (kk : zt_X p l e R s m args below meth c H locs cells slots Q g x) : zt_X p l e R s m args below meth c H (locs ++ L) cells slots Q g x := fun T hT X => kk T hT (Stand.forget X hL)
theorem zt_W_forget {g : JFrame} {L : List Loc} (hL : ∀ q ∈ L, s.heap.size ≤ q.base) (kk : W p l e R s m args below meth c H locs cells slots Q g) : W p l e R s m args below meth c H (locs ++ L) cells slots Q g := fun T hT X => kk T hT (Stand.forget X hL)
/-- a read, or a throw of a new E that changes nothing -/
def zt_Qp (ok : Prop) (r : Option Value) (E : String) : Array Value → State → Outcome → State → Prop := fun _ st o t => (ok ∧ o = .returned r ∧ t.heap = st.heap) ∨ (¬ ok ∧ ∃ x, o = .threw x ∧ zt_Th E x st t)
/-- a read -/
def zt_Qr (r : Option Value) : Array Value → State → Outcome → State → Prop := fun _ st o t => o = .returned r ∧ t.heap = st.heap
theorem zt_Th_to {E : String} {x : Addr} {st t st' t' : State} (h : zt_Th E x st t) (h1 : st'.heap = st.heap) (hW : st'.WarmedH st.vm) (h2 : t'.heap = t.heap) : zt_Th E x st' t' := by
  obtain ⟨a1, a2, a3, ce, a4, a5, a6⟩ := h
  rw [← h1] at a1 a2 a3
  refine ⟨a1, by rw [h2]; exact a2, fun q hq => by rw [h2]; exact a3 q hq, ce, by rw [h2]; exact a4, ?_, a6⟩
  rw [← hW.alike.findClass]
  exact a5
/-- a call of a reader that may throw, from an unchanged heap; what it throws goes on -/
theorem zt_callP {ok : Prop} {r : Option Value} {E : String} {a : Array Value} {Qc : Array Value → State → Outcome → State → Prop} {free' : Addr → Prop} {ar br kc ks : Nat} (hr : zt_Run p l e R s m args below meth c s.heap [] cells slots kr nr kt nt (F0 m pc ls st0) rest (zt_Qp ok r E a) (fun _ => False)) (hout : c.exceptionTable.toList = []) (hlocks : meth.locks = false)
    (hkc : cells + kt ≤ kc) (hks : slots + nt ≤ ks) (hth : ¬ ok → ∀ (t : State) (x : Addr), zt_Th E x s t → s.WarmedH t.vm → Qc args s (.threw x) t)
    (k : ok → W p l e R s m args below meth c s.heap [] (cells + kr) (slots + nr) (zt_MQ below Qc args s ar br kc ks free') (F0 m (pc + 3) ls (r.toList ++ rest))) : W p l e R s m args below meth c s.heap [] cells slots (zt_MQ below Qc args s ar br kc ks free') (F0 m pc ls st0) := by
  refine zt_call hr (fun v st t L h0 hW0 hWt hL hq => ?_) (fun x st t L h0 hW0 hWt hL hq => ?_)
  · rcases hq with ⟨hok, hv, hh⟩ | ⟨_, x, hx, _⟩
    · cases hv
      rw [hh, h0]
      exact zt_W_forget (fun q h => (hL q h).elim) (k hok)
    · cases hx
  · rcases hq with ⟨_, hv, _⟩ | ⟨hno, x', hx, hTh⟩
    · cases hv
    · cases hx
      refine zt_X_forget (fun q h => (hL q h).elim) (zt_X_widen hkc hks ?_)
      exact zt_X_out hout hlocks (fun q h => by cases h) (fun t' ht' hW => hth hno t' x (zt_Th_to hTh h0.symm hW0 ht') hW)
/-- a call of a reader, from any heap -/
theorem zt_callR {r : Option Value} {a : Array Value} (hr : zt_Run p l e R s m args below meth c H locs cells slots kr nr kt nt (F0 m pc ls st0) rest (zt_Qr r a) (fun _ => False))
    (k : W p l e R s m args below meth c H locs (cells + kr) (slots + nr) Q (F0 m (pc + 3) ls (r.toList ++ rest))) : W p l e R s m args below meth c H locs cells slots Q (F0 m pc ls st0) := by
  refine zt_callr hr (fun x st t hq => by have := hq.1; cases this) (fun v st t L h0 hW0 hWt hL hq => ?_)
  obtain ⟨hv, hh⟩ := hq
  cases hv
  rw [hh, h0]
  exact zt_W_forget (fun q h => (hL q h).elim) k
/-- throw new E("..") -/
theorem zt_throwNew {Qc : Array Value → State → Outcome → State → Prop} {free' : Addr → Prop} {ar br kc ks : Nat} (hexec : p.tables.exec = Jvm.exec) (hb : c.code = cc) (htr : e.platform.stackTraces = false) (hml : ls.size = c.maxLocals) {own cls tx : String} {names : List String} {ix is ic q : Nat}
    (hown : s.vm.findClass own = some m.cls) (hcls : Bundle.fit cls = true) (hnames : ∀ n ∈ names, Bundle.fit n = true) (h : ∀ a ∈ Bundle.ownAtoms own ic cls names, a.before args s = true)
    (hclink : (Cond.classLink own ix cls).before args s = true) (hins : (Cond.instantiable cls 6).before args s = true) (hinit : (Cond.initialized cls).before args s = true) (hZ : vk_R own is tx q s)
    (hout : c.exceptionTable.toList = []) (hlocks : meth.locks = false)
    (d0 : decode cc pc = .ok (.new ix, 3)) (d3 : decode cc (pc + 3) = .ok (.dup, 1)) (d4 : decode cc (pc + 3 + 1) = .ok (.ldc is, 2)) (d6 : decode cc (pc + 3 + 1 + 2) = .ok (.invokespecial ic, 3)) (d9 : decode cc (pc + 3 + 1 + 2 + 3) = .ok (.athrow, 1))
    (hcells : cells + 1 ≤ R.cells) (hslots : slots + 6 ≤ R.slots) (hkc : cells + 1 ≤ kc) (hks : slots + 6 ≤ ks) (hfr : names.length + 3 < R.frames) (hlo : (rest.map fun v => v.category).sum + (13 * (names.length + 1) + 44) ≤ R.locals)
    (hq : ∀ (t : State) (x : Addr), zt_Th cls x s t → s.WarmedH t.vm → Qc args s (.threw x) t) :
    W p l e R s m args below meth c s.heap [] cells slots (zt_MQ below Qc args s ar br kc ks free') (F0 m pc ls rest) := by
  refine W.newc hexec hb hown hclink hins hinit rfl d0 hcells hslots (fun cC kC hfc hkC hord hn => ?_)
  refine W.eq (g2 := F0 m (pc + 3) ls (.ref s.heap.size :: rest)) rfl ?_
  refine lv_dup hexec hb d3 rfl ?_
  refine va_ldcS hexec hb hown hZ d4 ?_
  intro T hT X
  have hcell : T.heap[s.heap.size]? = some (freshCell cC kC) := by rw [hT]; simp
  have hmr : 2 * (F0 m (pc + 3 + 1 + 2) ls (.ref q :: .ref s.heap.size :: .ref s.heap.size :: rest)).monitorRoom = 0 := rfl
  have hcat : (Value.ref s.heap.size).category = 1 := rfl
  obtain ⟨U, h1, h2, h3, h4, h5, ce, h6, h7⟩ := X.ctorThrowS hexec htr hown hcls hnames h (fun x hx => by cases hx) hfc hkC hcell (Nat.le_refl _) (msg := .ref q) rfl (g := F0 m (pc + 3 + 1 + 2) ls (.ref q :: .ref s.heap.size :: .ref s.heap.size :: rest)) rfl hml rfl rfl (rest := rest) rfl
    (by rw [hb]; exact d6) (by rw [hb]; exact d9) (fun y hy => by rw [hout] at hy; cases hy) hfr (by rw [hmr]; simp only [List.map_cons, List.sum_cons, hcat]; omega) hlocks
  refine ⟨U, h1, .threw _, h2, h3, ?_, [], ⟨h4, h5.mono hkc hks⟩, fun q hq => by cases hq⟩
  have h8 := zt_same_old h5
  exact hq U _ ⟨Nat.le_refl _, h8.1, h8.2, ce, h6, h7.cls, h7.vm⟩ h4
end ZU
end
section
/-! HANDLERS whose class may not be resolved yet: the search resolves it -/
section ZV
variable {e : Env} {u : State} {f : JFrame} {a : Addr}
/-- one entry that covers the pc, its class found cold or warm -/
theorem zt_go_cold {Q : Handler → Pre} {E : CtlPost} {d : Bool} {acts : List Action} {x : ExceptionTableEntry} {t : List ExceptionTableEntry} {cl : ClassId} {cell : Cell} {vm' : Vm} (hx : covers x f.pc = true) (h0 : x.catchType ≠ 0)
    (hg : (Jvm.resolveClass f.method.cls x.catchType).Gives e.toSetting u.vm (.ok cl) vm') (hsz : vm'.classes.size ≤ u.vm.classes.size) (hcell : u.heap[a]? = some cell) (hobj : ∀ k, cell.vm ≠ .statics k) (hk : ∃ k, vm'.classes[cell.cls]? = some k) (hc : ∃ k, vm'.classes[cl]? = some k) :
    wp (findHandler.go f a (x :: t)) Q E e d acts u ↔ if vm'.assignable cell.cls cl = true then Q (.found x.handlerPc) d acts (u.setVm vm') else wp (findHandler.go f a t) Q E e d acts (u.setVm vm') := by
  simp only [covers] at hx
  obtain ⟨ha, ht⟩ := hg.op (op := VmOp.resolveClass f.method.cls x.catchType) rfl
  cases hfit : vm'.assignable cell.cls cl <;>
    simp [findHandler.go, hx, h0, ha, ht, hsz, hcell, hobj, hk, hc, hfit, VmOp.dirties, VmOp.acts]
theorem zt_stepCatch {r : List Frame} {pc : Nat} {vm' : Vm} (hfind : ∀ (Q : Handler → Pre) (E : CtlPost) (d : Bool) (acts : List Action), wp (findHandler f a) Q E e d acts u ↔ Q (.found pc) d acts (u.setVm vm')) :
    (stepThrowing e u a (.java f :: r)).Is ((u.setVm vm').setFrames (.java { f with pc := pc, stack := [.ref a] } :: r)) [] := by
  simp only [stepThrowing, searchFrame, vmDo]
  generalize hr : Sem.go _ e false [] u = res
  obtain ⟨as, rfl, ha⟩ := Sem.eq_ok_of hr (a := Handler.found pc) (s' := u.setVm vm') (acts' := []) (by simp [hfind _ _ _ _])
  exact ⟨rfl, ha⟩
theorem zt_caught {tb : Tables} {s target : State} {g : JFrame} {c : Code} {below : List Frame} {pc : Nat} {vm' : Vm} (h : At s g.method c below)
    (hfind : ∀ (Q : Handler → Pre) (E : CtlPost) (d : Bool) (acts : List Action), wp (findHandler g a) Q E e d acts ((s.setTop g).pushFrame (.throwing a)) ↔ Q (.found pc) d acts (((s.setTop g).pushFrame (.throwing a)).setVm vm'))
    (hrest : Steps tb e below ((s.setVm vm').setTop { g with pc := pc, stack := [.ref a] }) target) :
    Steps tb e below ((s.setTop g).pushFrame (.throwing a)) target := by
  obtain ⟨hgo, hw⟩ := h.throwing a
  refine Steps.head hgo hw ?_
  rw [stepThread_throwing (frames_entered h.top _), (zt_stepCatch (u := (s.setTop g).pushFrame (.throwing a)) hfind).1]
  obtain ⟨g₀, hg⟩ := Option.isSome_iff_exists.mp h.top
  obtain ⟨r, hr⟩ := State.topJava?_eq_some.mp hg
  have hr' : (s.setVm vm').frames = .java g₀ :: r := hr
  rw [State.setTop_of_frames _ hr'] at hrest
  have e1 : (((s.setTop g).pushFrame (.throwing a)).setVm vm').setFrames (.java { g with pc := pc, stack := [.ref a] } :: s.frames.tail) = (s.setVm vm').setFrames (.java { g with pc := pc, stack := [.ref a] } :: r) := by
    show (((s.setTop g).pushFrame (.throwing a)).setFrames (.java { g with pc := pc, stack := [.ref a] } :: s.frames.tail)).setVm vm' = (s.setFrames (.java { g with pc := pc, stack := [.ref a] } :: r)).setVm vm'
    rw [State.pushFrame, State.setFrames_setFrames, State.setTop_of_frames _ hr, State.setFrames_setFrames, hr]
    rfl
  rw [e1]
  exact hrest
end ZV
section ZY
variable {p : Program} {l : Launch} {e : Env} {R : Room} {s : State} {m : MethodId} {args : Array Value} {below : List Frame} {meth : Method} {c : Code} {H : Heap} {locs : List Loc} {cells slots : Nat} {Q : State → Prop}
variable {pc : Nat} {ls : Array Slot} {rest : List Value} {x : Addr}
/-- what an entry's class gives, cold or warm -/
theorem zt_link {T : State} (X : Stand p l e R s m args below meth c T locs cells slots) {own E : String} {idx : Nat} (hown : s.vm.findClass own = some m.cls) (hlink : (Cond.classLink own idx E).before args s = true) :
    ∃ cl, s.vm.findClass E = some cl ∧ (Jvm.resolveClass m.cls idx).Gives e.toSetting T.vm (.ok cl) (T.vm.noted m.cls idx (.cls cl)) ∧ s.WarmedH (T.vm.noted m.cls idx (.cls cl)) := by
  have hpl : e.platform.magicAccessors = ({} : Platform).magicAccessors := by rw [X.admits.platform]
  obtain ⟨c', hc', hcl⟩ := Cond.classLink_spec hown hlink e.platform hpl
  obtain ⟨dk, _, _, kt, hd, _, _, _, _, hkt, _, hopen⟩ := hcl.here
  exact ⟨c', hc', resolveClass_links e.toSetting (X.warmed.classLinks hcl), X.warmed.noted hd hopen (State.rightAt_cls hcl)⟩
end ZY
end
section
/-! array rows with a number as index -/
section ZA
variable {p : Program} {l : Launch} {e : Env} {R : Room} {s : State} {m : MethodId} {args : Array Value} {below : List Frame} {meth : Method} {c : Code} {H : Heap} {locs : List Loc} {cells slots : Nat} {Q : State → Prop}
variable {cc : ByteArray} {pc : Nat} {ls : Array Slot} {rest : List Value} {D : va_G} {cl : List vw_C} {A : Nat → Prop} {a : Nat} {tys : List (ClassId × FieldType)} {ws : va_W} {H0 : Heap}
theorem zt_iald (hexec : p.tables.exec = Jvm.exec) (hb : c.code = cc) (hK : va_K D cl tys s) (hP : va_P D cl ws H) (q0 t0 : Nat) {cA : ClassId} {n i : Nat} {f : Nat → Int32} (ha : ws[q0]? = some (a, .inl (cA, n, .inl f))) (ht : tys[t0]? = some (cA, .int)) (hi : i < n) (hn : n < 2 ^ 31) {v : Int32} (hv : f i = v) (hdg : decode cc pc = .ok (.iaload, 1))
    (kk : W p l e R s m args below meth c H locs cells slots Q (F0 m (pc + 1) ls (.int v :: rest))) : W p l e R s m args below meth c H locs cells slots Q (F0 m pc ls (.int (nI i) :: .ref a :: rest)) := by
  refine va_iald hexec hb hK hP q0 t0 ha ht (vp_in_nI hi hn) hdg ?_
  rw [nI_clamp (by omega), hv]
  exact kk
theorem zt_bald (hexec : p.tables.exec = Jvm.exec) (hb : c.code = cc) (hK : va_K D cl tys s) (hP : va_P D cl ws H) (q0 t0 : Nat) {cA : ClassId} {n i : Nat} {f : Nat → Int32} (ha : ws[q0]? = some (a, .inl (cA, n, .inl f))) (ht : tys[t0]? = some (cA, .byte)) (hi : i < n) (hn : n < 2 ^ 31) {v : Int32} (hv : f i = v) (hdg : decode cc pc = .ok (.baload, 1))
    (kk : W p l e R s m args below meth c H locs cells slots Q (F0 m (pc + 1) ls (.int v :: rest))) : W p l e R s m args below meth c H locs cells slots Q (F0 m pc ls (.int (nI i) :: .ref a :: rest)) := by
  refine va_bald hexec hb hK hP q0 t0 ha ht (vp_in_nI hi hn) hdg ?_
  rw [nI_clamp (by omega), hv]
  exact kk
theorem zt_lald (hexec : p.tables.exec = Jvm.exec) (hb : c.code = cc) (hK : va_K D cl tys s) (hP : va_P D cl ws H) (q0 t0 : Nat) {cA : ClassId} {n i : Nat} {f : Nat → Int64} (ha : ws[q0]? = some (a, .inl (cA, n, .inr (.inl f)))) (ht : tys[t0]? = some (cA, .long)) (hi : i < n) (hn : n < 2 ^ 31) {v : Int64} (hv : f i = v) (hdg : decode cc pc = .ok (.laload, 1))
    (kk : W p l e R s m args below meth c H locs cells slots Q (F0 m (pc + 1) ls (.long v :: rest))) : W p l e R s m args below meth c H locs cells slots Q (F0 m pc ls (.int (nI i) :: .ref a :: rest)) := by
  refine va_lald hexec hb hK hP q0 t0 ha ht (vp_in_nI hi hn) hdg ?_
  rw [nI_clamp (by omega), hv]
  exact kk
theorem zt_iast (hexec : p.tables.exec = Jvm.exec) (hb : c.code = cc) (hK : va_K D cl tys s) (hP : va_P D cl ws H) (hD : va_D A ws) (hS : va_S A H0 H locs) (q0 t0 : Nat) {cA : ClassId} {n i : Nat} {f : Nat → Int32} (ha : ws[q0]? = some (a, .inl (cA, n, .inl f))) (ht : tys[t0]? = some (cA, .int)) {x : Int32} (hi : i < n) (hn : n < 2 ^ 31) (hdg : decode cc pc = .ok (.iastore, 1))
    (kk : ∀ (H1 : Heap) (locs1 : List Loc), va_P D cl (ws.set q0 (a, .inl (cA, n, .inl (upd f i x)))) H1 → va_D A (ws.set q0 (a, .inl (cA, n, .inl (upd f i x)))) → va_S A H0 H1 locs1 → W p l e R s m args below meth c H1 locs1 cells slots Q (F0 m (pc + 1) ls rest)) : W p l e R s m args below meth c H locs cells slots Q (F0 m pc ls (.int x :: .int (nI i) :: .ref a :: rest)) := by
  refine va_iast hexec hb hK hP hD hS q0 t0 ha ht (vp_in_nI hi hn) hdg ?_
  rw [nI_clamp (by omega)]
  exact kk
theorem zt_last (hexec : p.tables.exec = Jvm.exec) (hb : c.code = cc) (hK : va_K D cl tys s) (hP : va_P D cl ws H) (hD : va_D A ws) (hS : va_S A H0 H locs) (q0 t0 : Nat) {cA : ClassId} {n i : Nat} {f : Nat → Int64} (ha : ws[q0]? = some (a, .inl (cA, n, .inr (.inl f)))) (ht : tys[t0]? = some (cA, .long)) {x : Int64} (hi : i < n) (hn : n < 2 ^ 31) (hdg : decode cc pc = .ok (.lastore, 1))
    (kk : ∀ (H1 : Heap) (locs1 : List Loc), va_P D cl (ws.set q0 (a, .inl (cA, n, .inr (.inl (vp_updL f i x))))) H1 → va_D A (ws.set q0 (a, .inl (cA, n, .inr (.inl (vp_updL f i x))))) → va_S A H0 H1 locs1 → W p l e R s m args below meth c H1 locs1 cells slots Q (F0 m (pc + 1) ls rest)) : W p l e R s m args below meth c H locs cells slots Q (F0 m pc ls (.long x :: .int (nI i) :: .ref a :: rest)) := by
  refine va_last hexec hb hK hP hD hS q0 t0 ha ht (vp_in_nI hi hn) hdg ?_
  rw [nI_clamp (by omega)]
  exact kk
theorem zt_bast (hexec : p.tables.exec = Jvm.exec) (hb : c.code = cc) (hK : va_K D cl tys s) (hP : va_P D cl ws H) (hD : va_D A ws) (hS : va_S A H0 H locs) (q0 t0 : Nat) {cA : ClassId} {n i : Nat} {f : Nat → Int32} (ha : ws[q0]? = some (a, .inl (cA, n, .inl f))) (ht : tys[t0]? = some (cA, .byte)) {x y : Int32} (hi : i < n) (hn : n < 2 ^ 31) (hy : vp_nar .byte x = y) (hdg : decode cc pc = .ok (.bastore, 1))
    (kk : ∀ (H1 : Heap) (locs1 : List Loc), va_P D cl (ws.set q0 (a, .inl (cA, n, .inl (upd f i y)))) H1 → va_D A (ws.set q0 (a, .inl (cA, n, .inl (upd f i y)))) → va_S A H0 H1 locs1 → W p l e R s m args below meth c H1 locs1 cells slots Q (F0 m (pc + 1) ls rest)) : W p l e R s m args below meth c H locs cells slots Q (F0 m pc ls (.int x :: .int (nI i) :: .ref a :: rest)) := by
  refine va_bast hexec hb hK hP hD hS q0 t0 ha ht (vp_in_nI hi hn) hdg ?_
  rw [nI_clamp (by omega), hy]
  exact kk
end ZA
end
section
/-! names, fields, words: by program (wip/gen/gen_names.py) -/
def RX : String := "ViewChooser"
def RM : String := "ViewChooserModel"
def RL : String := "ViewChooserLaw"
def RA : String := "java/util/Arrays"
def TX : u_T := fun k => match k with
  | 0 => ("ViewChooser", "levelCounts", "[I", true)
  | 1 => ("ViewChooser", "valueCounts", "[I", true)
  | 2 => ("ViewChooser", "packedDigits", "[I", true)
  | 3 => ("ViewChooser", "costs", "[J", true)
  | 4 => ("ViewChooser", "chosenViews", "[I", true)
  | 5 => ("ViewChooser", "dimensionCount", "I", false)
  | 6 => ("ViewChooser", "viewCount", "I", false)
  | 7 => ("ViewChooser", "factCount", "I", false)
  | _ => ("ViewChooser", "chosenCount", "I", false)
def tyX : Nat → FieldType := fun k => match k with
  | 0 => .array .int
  | 1 => .array .int
  | 2 => .array .int
  | 3 => .array .long
  | 4 => .array .int
  | 5 => .int
  | 6 => .int
  | 7 => .int
  | _ => .int
theorem nmX : ∀ a, a < 9 → ∀ b, b < 9 → a ≠ b → (TX a).2.1 ≠ (TX b).2.1 := by decide +kernel
theorem tyX_ok : ∀ k, k < 9 → parseFieldDescriptor (TX k).2.2.1 = some (tyX k) := by decide +kernel
def TM : u_T := fun k => match k with
  | 0 => ("ViewChooserModel", "code", "I", false)
  | 1 => ("ViewChooserModel", "dimensions", "I", false)
  | 2 => ("ViewChooserModel", "levels", "[I", true)
  | 3 => ("ViewChooserModel", "values", "[I", true)
  | 4 => ("ViewChooserModel", "facts", "I", false)
  | 5 => ("ViewChooserModel", "views", "I", false)
  | 6 => ("ViewChooserModel", "taken", "I", false)
  | 7 => ("ViewChooserModel", "chosen", "[I", true)
  | 8 => ("ViewChooserModel", "digits", "[B", true)
  | 9 => ("ViewChooserModel", "estimate", "[J", true)
  | _ => ("ViewChooserModel", "cost", "[J", true)
def tyM : Nat → FieldType := fun k => match k with
  | 0 => .int
  | 1 => .int
  | 2 => .array .int
  | 3 => .array .int
  | 4 => .int
  | 5 => .int
  | 6 => .int
  | 7 => .array .int
  | 8 => .array .byte
  | 9 => .array .long
  | _ => .array .long
theorem nmM : ∀ a, a < 11 → ∀ b, b < 11 → a ≠ b → (TM a).2.1 ≠ (TM b).2.1 := by decide +kernel
theorem tyM_ok : ∀ k, k < 11 → parseFieldDescriptor (TM k).2.2.1 = some (tyM k) := by decide +kernel
abbrev zcl : List vw_C := [(RX, TX, 9), (RM, TM, 11)]
abbrev cX_init : ByteArray := prog_1_method_1_code
def yX_init : MethodName := ⟨RX, "<init>", "()V"⟩
abbrev cX_views : ByteArray := prog_1_method_5_code
def yX_views : MethodName := ⟨RX, "views", "()I"⟩
abbrev cX_drop : ByteArray := prog_1_method_13_code
def yX_drop : MethodName := ⟨RX, "drop", "()I"⟩
abbrev cX_forgetChosen : ByteArray := prog_1_method_19_code
def yX_forgetChosen : MethodName := ⟨RX, "forgetChosen", "()V"⟩
abbrev cA_fill : ByteArray := prog_11_method_101_code
def yA_fill : MethodName := ⟨RA, "fill", "([JJ)V"⟩
abbrev cX_total : ByteArray := prog_1_method_14_code
def yX_total : MethodName := ⟨RX, "total", "()J"⟩
abbrev cL_dimension : ByteArray := method_3_code
def yL_dimension : MethodName := ⟨RL, "dimension", "(LViewChooser;I[J)I"⟩
abbrev cX_dimension : ByteArray := prog_1_method_2_code
def yX_dimension : MethodName := ⟨RX, "dimension", "(I)I"⟩
abbrev cX_splitViews : ByteArray := prog_1_method_18_code
def yX_splitViews : MethodName := ⟨RX, "splitViews", "(II)V"⟩
abbrev cL_values : ByteArray := method_4_code
def yL_values : MethodName := ⟨RL, "values", "(LViewChooser;III[J)I"⟩
abbrev cX_values : ByteArray := prog_1_method_3_code
def yX_values : MethodName := ⟨RX, "values", "(III)I"⟩
abbrev cX_checkDimension : ByteArray := prog_1_method_16_code
def yX_checkDimension : MethodName := ⟨RX, "checkDimension", "(I)V"⟩
abbrev cL_facts : ByteArray := method_5_code
def yL_facts : MethodName := ⟨RL, "facts", "(LViewChooser;I[J)I"⟩
abbrev cX_facts : ByteArray := prog_1_method_4_code
def yX_facts : MethodName := ⟨RX, "facts", "(I)I"⟩
abbrev cL_digit : ByteArray := method_6_code
def yL_digit : MethodName := ⟨RL, "digit", "(LViewChooser;II[J)I"⟩
abbrev cX_digit : ByteArray := prog_1_method_6_code
def yX_digit : MethodName := ⟨RX, "digit", "(II)I"⟩
abbrev cX_checkView : ByteArray := prog_1_method_15_code
def yX_checkView : MethodName := ⟨RX, "checkView", "(I)V"⟩
abbrev cX_unpackDigit : ByteArray := prog_1_method_24_code
def yX_unpackDigit : MethodName := ⟨RX, "unpackDigit", "(II)I"⟩
abbrev cL_isAbove : ByteArray := method_7_code
def yL_isAbove : MethodName := ⟨RL, "isAbove", "(LViewChooser;II[J)I"⟩
abbrev cX_isAbove : ByteArray := prog_1_method_7_code
def yX_isAbove : MethodName := ⟨RX, "isAbove", "(II)Z"⟩
abbrev cX_isAbovePacked : ByteArray := prog_1_method_25_code
def yX_isAbovePacked : MethodName := ⟨RX, "isAbovePacked", "(II)Z"⟩
abbrev cL_told : ByteArray := method_8_code
def yL_told : MethodName := ⟨RL, "told", "(LViewChooser;II[J)I"⟩
abbrev cX_told : ByteArray := prog_1_method_8_code
def yX_told : MethodName := ⟨RX, "told", "(II)J"⟩
abbrev cX_estimateOf : ByteArray := prog_1_method_23_code
def yX_estimateOf : MethodName := ⟨RX, "estimateOf", "(I)J"⟩
abbrev cX_benefitOf : ByteArray := prog_1_method_22_code
def yX_benefitOf : MethodName := ⟨RX, "benefitOf", "(I)J"⟩
abbrev cL_take : ByteArray := method_9_code
def yL_take : MethodName := ⟨RL, "take", "(LViewChooser;I[J)I"⟩
abbrev cX_take : ByteArray := prog_1_method_9_code
def yX_take : MethodName := ⟨RX, "take", "(I)I"⟩
abbrev cX_checkRoomForChosen : ByteArray := prog_1_method_17_code
def yX_checkRoomForChosen : MethodName := ⟨RX, "checkRoomForChosen", "()V"⟩
abbrev cX_addChosen : ByteArray := prog_1_method_20_code
def yX_addChosen : MethodName := ⟨RX, "addChosen", "(I)V"⟩
abbrev cL_step : ByteArray := method_10_code
def yL_step : MethodName := ⟨RL, "step", "(LViewChooser;[J)I"⟩
abbrev cX_step : ByteArray := prog_1_method_10_code
def yX_step : MethodName := ⟨RX, "step", "()I"⟩
abbrev cX_mostBeneficial : ByteArray := prog_1_method_21_code
def yX_mostBeneficial : MethodName := ⟨RX, "mostBeneficial", "()I"⟩
abbrev cL_choose : ByteArray := method_11_code
def yL_choose : MethodName := ⟨RL, "choose", "(LViewChooser;I[J)I"⟩
abbrev cX_choose : ByteArray := prog_1_method_11_code
def yX_choose : MethodName := ⟨RX, "choose", "(I)I"⟩
abbrev cL_chosen : ByteArray := method_12_code
def yL_chosen : MethodName := ⟨RL, "chosen", "(LViewChooser;I[J)I"⟩
abbrev cX_chosen : ByteArray := prog_1_method_12_code
def yX_chosen : MethodName := ⟨RX, "chosen", "(I)I"⟩
abbrev cM_init : ByteArray := prog_3_method_1_code
def yM_init : MethodName := ⟨RM, "<init>", "()V"⟩
abbrev cM_thrown : ByteArray := prog_3_method_2_code
def yM_thrown : MethodName := ⟨RM, "thrown", "()I"⟩
abbrev cM_dimension : ByteArray := prog_3_method_3_code
def yM_dimension : MethodName := ⟨RM, "dimension", "(I)I"⟩
abbrev cM_spread : ByteArray := prog_3_method_9_code
def yM_spread : MethodName := ⟨RM, "spread", "()V"⟩
abbrev cM_divided : ByteArray := prog_3_method_11_code
def yM_divided : MethodName := ⟨RM, "divided", "(II)I"⟩
abbrev cM_values : ByteArray := prog_3_method_6_code
def yM_values : MethodName := ⟨RM, "values", "(III)I"⟩
abbrev cM_isDimension : ByteArray := prog_3_method_4_code
def yM_isDimension : MethodName := ⟨RM, "isDimension", "(I)Z"⟩
abbrev cM_facts : ByteArray := prog_3_method_7_code
def yM_facts : MethodName := ⟨RM, "facts", "(I)I"⟩
abbrev cM_views : ByteArray := prog_3_method_8_code
def yM_views : MethodName := ⟨RM, "views", "()I"⟩
abbrev cM_digit : ByteArray := prog_3_method_16_code
def yM_digit : MethodName := ⟨RM, "digit", "(II)I"⟩
abbrev cM_isView : ByteArray := prog_3_method_5_code
def yM_isView : MethodName := ⟨RM, "isView", "(I)Z"⟩
abbrev cM_digitOf : ByteArray := prog_3_method_10_code
def yM_digitOf : MethodName := ⟨RM, "digitOf", "(II)I"⟩
abbrev cM_isAbove : ByteArray := prog_3_method_17_code
def yM_isAbove : MethodName := ⟨RM, "isAbove", "(II)Z"⟩
abbrev cM_above : ByteArray := prog_3_method_12_code
def yM_above : MethodName := ⟨RM, "above", "(II)Z"⟩
abbrev cM_told : ByteArray := prog_3_method_18_code
def yM_told : MethodName := ⟨RM, "told", "(II)J"⟩
abbrev cM_reckon : ByteArray := prog_3_method_14_code
def yM_reckon : MethodName := ⟨RM, "reckon", "()V"⟩
abbrev cM_estimateOf : ByteArray := prog_3_method_13_code
def yM_estimateOf : MethodName := ⟨RM, "estimateOf", "(I)J"⟩
abbrev cM_benefitOf : ByteArray := prog_3_method_15_code
def yM_benefitOf : MethodName := ⟨RM, "benefitOf", "(I)J"⟩
abbrev cM_take : ByteArray := prog_3_method_19_code
def yM_take : MethodName := ⟨RM, "take", "(I)I"⟩
abbrev cM_step : ByteArray := prog_3_method_21_code
def yM_step : MethodName := ⟨RM, "step", "()I"⟩
abbrev cM_choosesOne : ByteArray := prog_3_method_20_code
def yM_choosesOne : MethodName := ⟨RM, "choosesOne", "()I"⟩
abbrev cM_choose : ByteArray := prog_3_method_22_code
def yM_choose : MethodName := ⟨RM, "choose", "(I)I"⟩
abbrev cM_chosen : ByteArray := prog_3_method_23_code
def yM_chosen : MethodName := ⟨RM, "chosen", "(I)I"⟩
abbrev cM_drop : ByteArray := prog_3_method_24_code
def yM_drop : MethodName := ⟨RM, "drop", "()I"⟩
abbrev cM_total : ByteArray := prog_3_method_25_code
def yM_total : MethodName := ⟨RM, "total", "()J"⟩
abbrev cL_law : ByteArray := code
def yL_law : MethodName := ⟨RL, "law", "([I)Z"⟩
/-- all words that the tables alone decide -/
def zw0 : List Cond := lw_tbl.filter zt_gw
theorem zw0_t {w : Cond} (i : Nat) (h : tables_1[i]? = some w) (g : zt_gw w = true) : w ∈ zw0 := List.mem_filter.mpr ⟨List.mem_append_right _ (List.mem_of_getElem? h), g⟩
theorem zw0_s {w : Cond} (i : Nat) (h : (k2_sels lw_privs)[i]? = some w) (g : zt_gw w = true) : w ∈ zw0 := List.mem_filter.mpr ⟨List.mem_append_left _ (List.mem_of_getElem? h), g⟩
theorem zw0_g : ∀ w ∈ zw0, zt_gw w = true := fun w h => (List.mem_filter.mp h).2
theorem zw0_tbl {args : Array Value} {s : State} (h : ∀ w ∈ lw_tbl, w.before args s = true) : ∀ w ∈ zw0, w.before args s = true := fun w hw => h w (List.mem_filter.mp hw).1
end
section
/-! words among the tables: by program -/
theorem kin_ViewChooserLaw : Cond.initialized RL ∈ zw0 := zw0_t 0 (by decide +kernel) (by decide +kernel)
theorem kin_ViewChooser : Cond.initialized RX ∈ zw0 := zw0_t 1 (by decide +kernel) (by decide +kernel)
theorem kin_ViewChooserModel : Cond.initialized RM ∈ zw0 := zw0_t 2 (by decide +kernel) (by decide +kernel)
theorem kin_Throwable : Cond.initialized "java/lang/Throwable" ∈ zw0 := zw0_t 3 (by decide +kernel) (by decide +kernel)
theorem kin_Exception : Cond.initialized "java/lang/Exception" ∈ zw0 := zw0_t 4 (by decide +kernel) (by decide +kernel)
theorem kin_RuntimeException : Cond.initialized "java/lang/RuntimeException" ∈ zw0 := zw0_t 5 (by decide +kernel) (by decide +kernel)
theorem kin_IllegalArgumentException : Cond.initialized "java/lang/IllegalArgumentException" ∈ zw0 := zw0_t 6 (by decide +kernel) (by decide +kernel)
theorem kin_IllegalStateException : Cond.initialized "java/lang/IllegalStateException" ∈ zw0 := zw0_t 7 (by decide +kernel) (by decide +kernel)
theorem kin_Arrays : Cond.initialized RA ∈ zw0 := zw0_t 8 (by decide +kernel) (by decide +kernel)
theorem kin_Math : Cond.initialized "java/lang/Math" ∈ zw0 := zw0_t 9 (by decide +kernel) (by decide +kernel)
theorem kc_L_8 : Cond.classLink RL 8 RX ∈ zw0 := zw0_t 10 (by decide +kernel) (by decide +kernel)
theorem kt_ViewChooser : Cond.instantiable RX 9 ∈ zw0 := zw0_t 11 (by decide +kernel) (by decide +kernel)
theorem kl_L_49 : Cond.methodLink RL 49 yX_init ∈ zw0 := zw0_t 12 (by decide +kernel) (by decide +kernel)
theorem ki_X_init : Cond.instanceMethod yX_init ∈ zw0 := zw0_t 13 (by decide +kernel) (by decide +kernel)
theorem kl_X_1 : Cond.methodLink RX 1 objectInit ∈ zw0 := zw0_t 15 (by decide +kernel) (by decide +kernel)
theorem ki_object : Cond.instanceMethod objectInit ∈ zw0 := zw0_t 16 (by decide +kernel) (by decide +kernel)
theorem kf_X_9 : Cond.fieldLink RX 9 RX "levelCounts" "[I" ∈ zw0 := zw0_t 18 (by decide +kernel) (by decide +kernel)
theorem kf_X_13 : Cond.fieldLink RX 13 RX "valueCounts" "[I" ∈ zw0 := zw0_t 19 (by decide +kernel) (by decide +kernel)
theorem kf_X_16 : Cond.fieldLink RX 16 RX "packedDigits" "[I" ∈ zw0 := zw0_t 20 (by decide +kernel) (by decide +kernel)
theorem kf_X_19 : Cond.fieldLink RX 19 RX "costs" "[J" ∈ zw0 := zw0_t 21 (by decide +kernel) (by decide +kernel)
theorem kf_X_23 : Cond.fieldLink RX 23 RX "chosenViews" "[I" ∈ zw0 := zw0_t 22 (by decide +kernel) (by decide +kernel)
theorem kf_X_26 : Cond.fieldLink RX 26 RX "dimensionCount" "I" ∈ zw0 := zw0_t 23 (by decide +kernel) (by decide +kernel)
theorem kf_X_30 : Cond.fieldLink RX 30 RX "viewCount" "I" ∈ zw0 := zw0_t 24 (by decide +kernel) (by decide +kernel)
theorem kf_X_33 : Cond.fieldLink RX 33 RX "factCount" "I" ∈ zw0 := zw0_t 25 (by decide +kernel) (by decide +kernel)
theorem kf_X_36 : Cond.fieldLink RX 36 RX "chosenCount" "I" ∈ zw0 := zw0_t 26 (by decide +kernel) (by decide +kernel)
theorem ka_int : Cond.arrayClass .int ∈ zw0 := zw0_t 46 (by decide +kernel) (by decide +kernel)
theorem ka_long : Cond.arrayClass .long ∈ zw0 := zw0_t 47 (by decide +kernel) (by decide +kernel)
theorem kl_L_69 : Cond.methodLink RL 69 yX_views ∈ zw0 := zw0_t 48 (by decide +kernel) (by decide +kernel)
theorem ki_X_views : Cond.instanceMethod yX_views ∈ zw0 := zw0_t 49 (by decide +kernel) (by decide +kernel)
theorem ks_X_views : Cond.selects RX yX_views yX_views ∈ zw0 := zw0_t 50 (by decide +kernel) (by decide +kernel)
theorem kl_L_96 : Cond.methodLink RL 96 yX_drop ∈ zw0 := zw0_t 52 (by decide +kernel) (by decide +kernel)
theorem ki_X_drop : Cond.instanceMethod yX_drop ∈ zw0 := zw0_t 53 (by decide +kernel) (by decide +kernel)
theorem ks_X_drop : Cond.selects RX yX_drop yX_drop ∈ zw0 := zw0_t 54 (by decide +kernel) (by decide +kernel)
theorem kl_X_57 : Cond.methodLink RX 57 yX_forgetChosen ∈ zw0 := zw0_t 56 (by decide +kernel) (by decide +kernel)
theorem ki_X_forgetChosen : Cond.instanceMethod yX_forgetChosen ∈ zw0 := zw0_t 58 (by decide +kernel) (by decide +kernel)
theorem kl_X_111 : Cond.methodLink RX 111 yA_fill ∈ zw0 := zw0_t 60 (by decide +kernel) (by decide +kernel)
theorem kst_A_fill : Cond.static yA_fill ∈ zw0 := zw0_t 61 (by decide +kernel) (by decide +kernel)
theorem kl_L_100 : Cond.methodLink RL 100 yX_total ∈ zw0 := zw0_t 63 (by decide +kernel) (by decide +kernel)
theorem ki_X_total : Cond.instanceMethod yX_total ∈ zw0 := zw0_t 64 (by decide +kernel) (by decide +kernel)
theorem ks_X_total : Cond.selects RX yX_total yX_total ∈ zw0 := zw0_t 65 (by decide +kernel) (by decide +kernel)
theorem kl_L_53 : Cond.methodLink RL 53 yL_dimension ∈ zw0 := zw0_t 67 (by decide +kernel) (by decide +kernel)
theorem kst_L_dimension : Cond.static yL_dimension ∈ zw0 := zw0_t 68 (by decide +kernel) (by decide +kernel)
theorem kc_L_13 : Cond.classLink RL 13 "java/lang/IllegalArgumentException" ∈ zw0 := zw0_t 70 (by decide +kernel) (by decide +kernel)
theorem kc_L_15 : Cond.classLink RL 15 "java/lang/IllegalStateException" ∈ zw0 := zw0_t 71 (by decide +kernel) (by decide +kernel)
theorem kl_L_7 : Cond.methodLink RL 7 yX_dimension ∈ zw0 := zw0_t 72 (by decide +kernel) (by decide +kernel)
theorem ki_X_dimension : Cond.instanceMethod yX_dimension ∈ zw0 := zw0_t 73 (by decide +kernel) (by decide +kernel)
theorem ks_X_dimension : Cond.selects RX yX_dimension yX_dimension ∈ zw0 := zw0_t 74 (by decide +kernel) (by decide +kernel)
theorem kc_X_39 : Cond.classLink RX 39 "java/lang/IllegalArgumentException" ∈ zw0 := zw0_t 76 (by decide +kernel) (by decide +kernel)
theorem kt_IllegalArgumentException : Cond.instantiable "java/lang/IllegalArgumentException" 6 ∈ zw0 := zw0_t 77 (by decide +kernel) (by decide +kernel)
theorem kcast_IllegalArgumentException_IllegalArgumentException : Cond.castable "java/lang/IllegalArgumentException" "java/lang/IllegalArgumentException" ∈ zw0 := zw0_t 78 (by decide +kernel) (by decide +kernel)
theorem kt_Throwable : Cond.instantiable "java/lang/Throwable" 6 ∈ zw0 := zw0_t 114 (by decide +kernel) (by decide +kernel)
theorem kl_X_43 : Cond.methodLink RX 43 (⟨"java/lang/IllegalArgumentException", "<init>", "(Ljava/lang/String;)V"⟩ : MethodName) ∈ zw0 := zw0_t 117 (by decide +kernel) (by decide +kernel)
theorem ka_byte : Cond.arrayClass .byte ∈ zw0 := zw0_t 142 (by decide +kernel) (by decide +kernel)
theorem kc_X_46 : Cond.classLink RX 46 "java/lang/IllegalStateException" ∈ zw0 := zw0_t 143 (by decide +kernel) (by decide +kernel)
theorem kt_IllegalStateException : Cond.instantiable "java/lang/IllegalStateException" 6 ∈ zw0 := zw0_t 144 (by decide +kernel) (by decide +kernel)
theorem kcast_IllegalStateException_IllegalStateException : Cond.castable "java/lang/IllegalStateException" "java/lang/IllegalStateException" ∈ zw0 := zw0_t 145 (by decide +kernel) (by decide +kernel)
theorem kl_X_50 : Cond.methodLink RX 50 (⟨"java/lang/IllegalStateException", "<init>", "(Ljava/lang/String;)V"⟩ : MethodName) ∈ zw0 := zw0_t 153 (by decide +kernel) (by decide +kernel)
theorem kl_X_53 : Cond.methodLink RX 53 yX_splitViews ∈ zw0 := zw0_t 160 (by decide +kernel) (by decide +kernel)
theorem ki_X_splitViews : Cond.instanceMethod yX_splitViews ∈ zw0 := zw0_t 162 (by decide +kernel) (by decide +kernel)
theorem kl_L_62 : Cond.methodLink RL 62 yL_values ∈ zw0 := zw0_t 164 (by decide +kernel) (by decide +kernel)
theorem kst_L_values : Cond.static yL_values ∈ zw0 := zw0_t 165 (by decide +kernel) (by decide +kernel)
theorem kl_L_17 : Cond.methodLink RL 17 yX_values ∈ zw0 := zw0_t 167 (by decide +kernel) (by decide +kernel)
theorem ki_X_values : Cond.instanceMethod yX_values ∈ zw0 := zw0_t 168 (by decide +kernel) (by decide +kernel)
theorem ks_X_values : Cond.selects RX yX_values yX_values ∈ zw0 := zw0_t 169 (by decide +kernel) (by decide +kernel)
theorem kl_X_60 : Cond.methodLink RX 60 yX_checkDimension ∈ zw0 := zw0_t 171 (by decide +kernel) (by decide +kernel)
theorem ki_X_checkDimension : Cond.instanceMethod yX_checkDimension ∈ zw0 := zw0_t 173 (by decide +kernel) (by decide +kernel)
theorem kn_X_66 : Cond.constant RX 66 (1000000) ∈ zw0 := zw0_t 177 (by decide +kernel) (by decide +kernel)
theorem kl_L_66 : Cond.methodLink RL 66 yL_facts ∈ zw0 := zw0_t 179 (by decide +kernel) (by decide +kernel)
theorem kst_L_facts : Cond.static yL_facts ∈ zw0 := zw0_t 180 (by decide +kernel) (by decide +kernel)
theorem kl_L_21 : Cond.methodLink RL 21 yX_facts ∈ zw0 := zw0_t 182 (by decide +kernel) (by decide +kernel)
theorem ki_X_facts : Cond.instanceMethod yX_facts ∈ zw0 := zw0_t 183 (by decide +kernel) (by decide +kernel)
theorem ks_X_facts : Cond.selects RX yX_facts yX_facts ∈ zw0 := zw0_t 184 (by decide +kernel) (by decide +kernel)
theorem kl_L_73 : Cond.methodLink RL 73 yL_digit ∈ zw0 := zw0_t 187 (by decide +kernel) (by decide +kernel)
theorem kst_L_digit : Cond.static yL_digit ∈ zw0 := zw0_t 188 (by decide +kernel) (by decide +kernel)
theorem kl_L_24 : Cond.methodLink RL 24 yX_digit ∈ zw0 := zw0_t 190 (by decide +kernel) (by decide +kernel)
theorem ki_X_digit : Cond.instanceMethod yX_digit ∈ zw0 := zw0_t 191 (by decide +kernel) (by decide +kernel)
theorem ks_X_digit : Cond.selects RX yX_digit yX_digit ∈ zw0 := zw0_t 192 (by decide +kernel) (by decide +kernel)
theorem kl_X_71 : Cond.methodLink RX 71 yX_checkView ∈ zw0 := zw0_t 194 (by decide +kernel) (by decide +kernel)
theorem ki_X_checkView : Cond.instanceMethod yX_checkView ∈ zw0 := zw0_t 196 (by decide +kernel) (by decide +kernel)
theorem kl_X_74 : Cond.methodLink RX 74 yX_unpackDigit ∈ zw0 := zw0_t 199 (by decide +kernel) (by decide +kernel)
theorem kst_X_unpackDigit : Cond.static yX_unpackDigit ∈ zw0 := zw0_t 200 (by decide +kernel) (by decide +kernel)
theorem kl_L_77 : Cond.methodLink RL 77 yL_isAbove ∈ zw0 := zw0_t 202 (by decide +kernel) (by decide +kernel)
theorem kst_L_isAbove : Cond.static yL_isAbove ∈ zw0 := zw0_t 203 (by decide +kernel) (by decide +kernel)
theorem kl_L_28 : Cond.methodLink RL 28 yX_isAbove ∈ zw0 := zw0_t 205 (by decide +kernel) (by decide +kernel)
theorem ki_X_isAbove : Cond.instanceMethod yX_isAbove ∈ zw0 := zw0_t 206 (by decide +kernel) (by decide +kernel)
theorem ks_X_isAbove : Cond.selects RX yX_isAbove yX_isAbove ∈ zw0 := zw0_t 207 (by decide +kernel) (by decide +kernel)
theorem kl_X_78 : Cond.methodLink RX 78 yX_isAbovePacked ∈ zw0 := zw0_t 209 (by decide +kernel) (by decide +kernel)
theorem kst_X_isAbovePacked : Cond.static yX_isAbovePacked ∈ zw0 := zw0_t 210 (by decide +kernel) (by decide +kernel)
theorem kn_X_125 : Cond.constant RX 125 (-2004318072) ∈ zw0 := zw0_t 212 (by decide +kernel) (by decide +kernel)
theorem kl_L_80 : Cond.methodLink RL 80 yL_told ∈ zw0 := zw0_t 213 (by decide +kernel) (by decide +kernel)
theorem kst_L_told : Cond.static yL_told ∈ zw0 := zw0_t 214 (by decide +kernel) (by decide +kernel)
theorem kl_L_32 : Cond.methodLink RL 32 yX_told ∈ zw0 := zw0_t 216 (by decide +kernel) (by decide +kernel)
theorem ki_X_told : Cond.instanceMethod yX_told ∈ zw0 := zw0_t 217 (by decide +kernel) (by decide +kernel)
theorem ks_X_told : Cond.selects RX yX_told yX_told ∈ zw0 := zw0_t 218 (by decide +kernel) (by decide +kernel)
theorem kl_X_82 : Cond.methodLink RX 82 yX_estimateOf ∈ zw0 := zw0_t 220 (by decide +kernel) (by decide +kernel)
theorem ki_X_estimateOf : Cond.instanceMethod yX_estimateOf ∈ zw0 := zw0_t 222 (by decide +kernel) (by decide +kernel)
theorem kl_X_117 : Cond.methodLink RX 117 Lib.Math.min.name ∈ zw0 := zw0_t 224 (by decide +kernel) (by decide +kernel)
theorem kst_min : Cond.static Lib.Math.min.name ∈ zw0 := zw0_t 225 (by decide +kernel) (by decide +kernel)
theorem kl_X_122 : Cond.methodLink RX 122 Lib.MathLoose.min_long.x ∈ zw0 := zw0_t 227 (by decide +kernel) (by decide +kernel)
theorem kst_lmin : Cond.static Lib.MathLoose.min_long.x ∈ zw0 := zw0_t 228 (by decide +kernel) (by decide +kernel)
theorem kl_X_86 : Cond.methodLink RX 86 yX_benefitOf ∈ zw0 := zw0_t 230 (by decide +kernel) (by decide +kernel)
theorem ki_X_benefitOf : Cond.instanceMethod yX_benefitOf ∈ zw0 := zw0_t 232 (by decide +kernel) (by decide +kernel)
theorem kl_L_83 : Cond.methodLink RL 83 yL_take ∈ zw0 := zw0_t 235 (by decide +kernel) (by decide +kernel)
theorem kst_L_take : Cond.static yL_take ∈ zw0 := zw0_t 236 (by decide +kernel) (by decide +kernel)
theorem kl_L_36 : Cond.methodLink RL 36 yX_take ∈ zw0 := zw0_t 238 (by decide +kernel) (by decide +kernel)
theorem ki_X_take : Cond.instanceMethod yX_take ∈ zw0 := zw0_t 239 (by decide +kernel) (by decide +kernel)
theorem ks_X_take : Cond.selects RX yX_take yX_take ∈ zw0 := zw0_t 240 (by decide +kernel) (by decide +kernel)
theorem kl_X_91 : Cond.methodLink RX 91 yX_checkRoomForChosen ∈ zw0 := zw0_t 242 (by decide +kernel) (by decide +kernel)
theorem ki_X_checkRoomForChosen : Cond.instanceMethod yX_checkRoomForChosen ∈ zw0 := zw0_t 244 (by decide +kernel) (by decide +kernel)
theorem kl_X_94 : Cond.methodLink RX 94 yX_addChosen ∈ zw0 := zw0_t 247 (by decide +kernel) (by decide +kernel)
theorem ki_X_addChosen : Cond.instanceMethod yX_addChosen ∈ zw0 := zw0_t 249 (by decide +kernel) (by decide +kernel)
theorem kl_L_86 : Cond.methodLink RL 86 yL_step ∈ zw0 := zw0_t 251 (by decide +kernel) (by decide +kernel)
theorem kst_L_step : Cond.static yL_step ∈ zw0 := zw0_t 252 (by decide +kernel) (by decide +kernel)
theorem kl_L_39 : Cond.methodLink RL 39 yX_step ∈ zw0 := zw0_t 254 (by decide +kernel) (by decide +kernel)
theorem ki_X_step : Cond.instanceMethod yX_step ∈ zw0 := zw0_t 255 (by decide +kernel) (by decide +kernel)
theorem ks_X_step : Cond.selects RX yX_step yX_step ∈ zw0 := zw0_t 256 (by decide +kernel) (by decide +kernel)
theorem kl_X_97 : Cond.methodLink RX 97 yX_mostBeneficial ∈ zw0 := zw0_t 258 (by decide +kernel) (by decide +kernel)
theorem ki_X_mostBeneficial : Cond.instanceMethod yX_mostBeneficial ∈ zw0 := zw0_t 260 (by decide +kernel) (by decide +kernel)
theorem kl_L_90 : Cond.methodLink RL 90 yL_choose ∈ zw0 := zw0_t 262 (by decide +kernel) (by decide +kernel)
theorem kst_L_choose : Cond.static yL_choose ∈ zw0 := zw0_t 263 (by decide +kernel) (by decide +kernel)
theorem kl_L_43 : Cond.methodLink RL 43 yX_choose ∈ zw0 := zw0_t 265 (by decide +kernel) (by decide +kernel)
theorem ki_X_choose : Cond.instanceMethod yX_choose ∈ zw0 := zw0_t 266 (by decide +kernel) (by decide +kernel)
theorem ks_X_choose : Cond.selects RX yX_choose yX_choose ∈ zw0 := zw0_t 267 (by decide +kernel) (by decide +kernel)
theorem kl_L_93 : Cond.methodLink RL 93 yL_chosen ∈ zw0 := zw0_t 270 (by decide +kernel) (by decide +kernel)
theorem kst_L_chosen : Cond.static yL_chosen ∈ zw0 := zw0_t 271 (by decide +kernel) (by decide +kernel)
theorem kl_L_46 : Cond.methodLink RL 46 yX_chosen ∈ zw0 := zw0_t 273 (by decide +kernel) (by decide +kernel)
theorem ki_X_chosen : Cond.instanceMethod yX_chosen ∈ zw0 := zw0_t 274 (by decide +kernel) (by decide +kernel)
theorem ks_X_chosen : Cond.selects RX yX_chosen yX_chosen ∈ zw0 := zw0_t 275 (by decide +kernel) (by decide +kernel)
theorem kc_L_50 : Cond.classLink RL 50 RM ∈ zw0 := zw0_t 278 (by decide +kernel) (by decide +kernel)
theorem kt_ViewChooserModel : Cond.instantiable RM 11 ∈ zw0 := zw0_t 279 (by decide +kernel) (by decide +kernel)
theorem kl_L_52 : Cond.methodLink RL 52 yM_init ∈ zw0 := zw0_t 280 (by decide +kernel) (by decide +kernel)
theorem ki_M_init : Cond.instanceMethod yM_init ∈ zw0 := zw0_t 281 (by decide +kernel) (by decide +kernel)
theorem kl_M_1 : Cond.methodLink RM 1 objectInit ∈ zw0 := zw0_t 283 (by decide +kernel) (by decide +kernel)
theorem kf_M_34 : Cond.fieldLink RM 34 RM "code" "I" ∈ zw0 := zw0_t 284 (by decide +kernel) (by decide +kernel)
theorem kf_M_37 : Cond.fieldLink RM 37 RM "dimensions" "I" ∈ zw0 := zw0_t 285 (by decide +kernel) (by decide +kernel)
theorem kf_M_7 : Cond.fieldLink RM 7 RM "levels" "[I" ∈ zw0 := zw0_t 286 (by decide +kernel) (by decide +kernel)
theorem kf_M_13 : Cond.fieldLink RM 13 RM "values" "[I" ∈ zw0 := zw0_t 287 (by decide +kernel) (by decide +kernel)
theorem kf_M_51 : Cond.fieldLink RM 51 RM "facts" "I" ∈ zw0 := zw0_t 288 (by decide +kernel) (by decide +kernel)
theorem kf_M_16 : Cond.fieldLink RM 16 RM "views" "I" ∈ zw0 := zw0_t 289 (by decide +kernel) (by decide +kernel)
theorem kf_M_40 : Cond.fieldLink RM 40 RM "taken" "I" ∈ zw0 := zw0_t 290 (by decide +kernel) (by decide +kernel)
theorem kf_M_20 : Cond.fieldLink RM 20 RM "chosen" "[I" ∈ zw0 := zw0_t 291 (by decide +kernel) (by decide +kernel)
theorem kf_M_23 : Cond.fieldLink RM 23 RM "digits" "[B" ∈ zw0 := zw0_t 292 (by decide +kernel) (by decide +kernel)
theorem kf_M_27 : Cond.fieldLink RM 27 RM "estimate" "[J" ∈ zw0 := zw0_t 293 (by decide +kernel) (by decide +kernel)
theorem kf_M_31 : Cond.fieldLink RM 31 RM "cost" "[J" ∈ zw0 := zw0_t 294 (by decide +kernel) (by decide +kernel)
theorem kl_L_59 : Cond.methodLink RL 59 yM_thrown ∈ zw0 := zw0_t 318 (by decide +kernel) (by decide +kernel)
theorem ki_M_thrown : Cond.instanceMethod yM_thrown ∈ zw0 := zw0_t 319 (by decide +kernel) (by decide +kernel)
theorem ks_M_thrown : Cond.selects RM yM_thrown yM_thrown ∈ zw0 := zw0_t 320 (by decide +kernel) (by decide +kernel)
theorem kl_L_58 : Cond.methodLink RL 58 yM_dimension ∈ zw0 := zw0_t 322 (by decide +kernel) (by decide +kernel)
theorem ki_M_dimension : Cond.instanceMethod yM_dimension ∈ zw0 := zw0_t 323 (by decide +kernel) (by decide +kernel)
theorem ks_M_dimension : Cond.selects RM yM_dimension yM_dimension ∈ zw0 := zw0_t 324 (by decide +kernel) (by decide +kernel)
theorem kl_M_43 : Cond.methodLink RM 43 yM_spread ∈ zw0 := zw0_t 326 (by decide +kernel) (by decide +kernel)
theorem ki_M_spread : Cond.instanceMethod yM_spread ∈ zw0 := zw0_t 328 (by decide +kernel) (by decide +kernel)
theorem kl_M_54 : Cond.methodLink RM 54 yM_divided ∈ zw0 := zw0_t 330 (by decide +kernel) (by decide +kernel)
theorem ki_M_divided : Cond.instanceMethod yM_divided ∈ zw0 := zw0_t 332 (by decide +kernel) (by decide +kernel)
theorem kl_L_65 : Cond.methodLink RL 65 yM_values ∈ zw0 := zw0_t 334 (by decide +kernel) (by decide +kernel)
theorem ki_M_values : Cond.instanceMethod yM_values ∈ zw0 := zw0_t 335 (by decide +kernel) (by decide +kernel)
theorem ks_M_values : Cond.selects RM yM_values yM_values ∈ zw0 := zw0_t 336 (by decide +kernel) (by decide +kernel)
theorem kl_M_46 : Cond.methodLink RM 46 yM_isDimension ∈ zw0 := zw0_t 338 (by decide +kernel) (by decide +kernel)
theorem ki_M_isDimension : Cond.instanceMethod yM_isDimension ∈ zw0 := zw0_t 340 (by decide +kernel) (by decide +kernel)
theorem kn_M_50 : Cond.constant RM 50 (1000000) ∈ zw0 := zw0_t 342 (by decide +kernel) (by decide +kernel)
theorem kl_L_68 : Cond.methodLink RL 68 yM_facts ∈ zw0 := zw0_t 343 (by decide +kernel) (by decide +kernel)
theorem ki_M_facts : Cond.instanceMethod yM_facts ∈ zw0 := zw0_t 344 (by decide +kernel) (by decide +kernel)
theorem ks_M_facts : Cond.selects RM yM_facts yM_facts ∈ zw0 := zw0_t 345 (by decide +kernel) (by decide +kernel)
theorem kl_L_72 : Cond.methodLink RL 72 yM_views ∈ zw0 := zw0_t 347 (by decide +kernel) (by decide +kernel)
theorem ki_M_views : Cond.instanceMethod yM_views ∈ zw0 := zw0_t 348 (by decide +kernel) (by decide +kernel)
theorem ks_M_views : Cond.selects RM yM_views yM_views ∈ zw0 := zw0_t 349 (by decide +kernel) (by decide +kernel)
theorem kl_L_76 : Cond.methodLink RL 76 yM_digit ∈ zw0 := zw0_t 351 (by decide +kernel) (by decide +kernel)
theorem ki_M_digit : Cond.instanceMethod yM_digit ∈ zw0 := zw0_t 352 (by decide +kernel) (by decide +kernel)
theorem ks_M_digit : Cond.selects RM yM_digit yM_digit ∈ zw0 := zw0_t 353 (by decide +kernel) (by decide +kernel)
theorem kl_M_71 : Cond.methodLink RM 71 yM_isView ∈ zw0 := zw0_t 355 (by decide +kernel) (by decide +kernel)
theorem ki_M_isView : Cond.instanceMethod yM_isView ∈ zw0 := zw0_t 357 (by decide +kernel) (by decide +kernel)
theorem kl_M_58 : Cond.methodLink RM 58 yM_digitOf ∈ zw0 := zw0_t 359 (by decide +kernel) (by decide +kernel)
theorem ki_M_digitOf : Cond.instanceMethod yM_digitOf ∈ zw0 := zw0_t 361 (by decide +kernel) (by decide +kernel)
theorem kl_L_79 : Cond.methodLink RL 79 yM_isAbove ∈ zw0 := zw0_t 363 (by decide +kernel) (by decide +kernel)
theorem ki_M_isAbove : Cond.instanceMethod yM_isAbove ∈ zw0 := zw0_t 364 (by decide +kernel) (by decide +kernel)
theorem ks_M_isAbove : Cond.selects RM yM_isAbove yM_isAbove ∈ zw0 := zw0_t 365 (by decide +kernel) (by decide +kernel)
theorem kl_M_67 : Cond.methodLink RM 67 yM_above ∈ zw0 := zw0_t 367 (by decide +kernel) (by decide +kernel)
theorem ki_M_above : Cond.instanceMethod yM_above ∈ zw0 := zw0_t 369 (by decide +kernel) (by decide +kernel)
theorem kl_L_82 : Cond.methodLink RL 82 yM_told ∈ zw0 := zw0_t 371 (by decide +kernel) (by decide +kernel)
theorem ki_M_told : Cond.instanceMethod yM_told ∈ zw0 := zw0_t 372 (by decide +kernel) (by decide +kernel)
theorem ks_M_told : Cond.selects RM yM_told yM_told ∈ zw0 := zw0_t 373 (by decide +kernel) (by decide +kernel)
theorem kl_M_74 : Cond.methodLink RM 74 yM_reckon ∈ zw0 := zw0_t 375 (by decide +kernel) (by decide +kernel)
theorem ki_M_reckon : Cond.instanceMethod yM_reckon ∈ zw0 := zw0_t 377 (by decide +kernel) (by decide +kernel)
theorem kl_M_63 : Cond.methodLink RM 63 yM_estimateOf ∈ zw0 := zw0_t 379 (by decide +kernel) (by decide +kernel)
theorem ki_M_estimateOf : Cond.instanceMethod yM_estimateOf ∈ zw0 := zw0_t 381 (by decide +kernel) (by decide +kernel)
theorem kn_M_61 : Cond.constantLong RM 61 (5000000000) ∈ zw0 := zw0_t 383 (by decide +kernel) (by decide +kernel)
theorem kl_M_77 : Cond.methodLink RM 77 yM_benefitOf ∈ zw0 := zw0_t 384 (by decide +kernel) (by decide +kernel)
theorem ki_M_benefitOf : Cond.instanceMethod yM_benefitOf ∈ zw0 := zw0_t 386 (by decide +kernel) (by decide +kernel)
theorem kl_L_85 : Cond.methodLink RL 85 yM_take ∈ zw0 := zw0_t 388 (by decide +kernel) (by decide +kernel)
theorem ki_M_take : Cond.instanceMethod yM_take ∈ zw0 := zw0_t 389 (by decide +kernel) (by decide +kernel)
theorem ks_M_take : Cond.selects RM yM_take yM_take ∈ zw0 := zw0_t 390 (by decide +kernel) (by decide +kernel)
theorem kl_L_89 : Cond.methodLink RL 89 yM_step ∈ zw0 := zw0_t 392 (by decide +kernel) (by decide +kernel)
theorem ki_M_step : Cond.instanceMethod yM_step ∈ zw0 := zw0_t 393 (by decide +kernel) (by decide +kernel)
theorem ks_M_step : Cond.selects RM yM_step yM_step ∈ zw0 := zw0_t 394 (by decide +kernel) (by decide +kernel)
theorem kl_M_80 : Cond.methodLink RM 80 yM_choosesOne ∈ zw0 := zw0_t 396 (by decide +kernel) (by decide +kernel)
theorem ki_M_choosesOne : Cond.instanceMethod yM_choosesOne ∈ zw0 := zw0_t 398 (by decide +kernel) (by decide +kernel)
theorem kl_L_92 : Cond.methodLink RL 92 yM_choose ∈ zw0 := zw0_t 400 (by decide +kernel) (by decide +kernel)
theorem ki_M_choose : Cond.instanceMethod yM_choose ∈ zw0 := zw0_t 401 (by decide +kernel) (by decide +kernel)
theorem ks_M_choose : Cond.selects RM yM_choose yM_choose ∈ zw0 := zw0_t 402 (by decide +kernel) (by decide +kernel)
theorem kl_L_95 : Cond.methodLink RL 95 yM_chosen ∈ zw0 := zw0_t 404 (by decide +kernel) (by decide +kernel)
theorem ki_M_chosen : Cond.instanceMethod yM_chosen ∈ zw0 := zw0_t 405 (by decide +kernel) (by decide +kernel)
theorem ks_M_chosen : Cond.selects RM yM_chosen yM_chosen ∈ zw0 := zw0_t 406 (by decide +kernel) (by decide +kernel)
theorem kl_L_99 : Cond.methodLink RL 99 yM_drop ∈ zw0 := zw0_t 408 (by decide +kernel) (by decide +kernel)
theorem ki_M_drop : Cond.instanceMethod yM_drop ∈ zw0 := zw0_t 409 (by decide +kernel) (by decide +kernel)
theorem ks_M_drop : Cond.selects RM yM_drop yM_drop ∈ zw0 := zw0_t 410 (by decide +kernel) (by decide +kernel)
theorem kl_L_104 : Cond.methodLink RL 104 yM_total ∈ zw0 := zw0_t 412 (by decide +kernel) (by decide +kernel)
theorem ki_M_total : Cond.instanceMethod yM_total ∈ zw0 := zw0_t 413 (by decide +kernel) (by decide +kernel)
theorem ks_M_total : Cond.selects RM yM_total yM_total ∈ zw0 := zw0_t 414 (by decide +kernel) (by decide +kernel)
theorem ks_X_forgetChosen : Cond.selects RX yX_forgetChosen yX_forgetChosen ∈ zw0 := zw0_s 0 (by decide +kernel) (by decide +kernel)
theorem ks_X_splitViews : Cond.selects RX yX_splitViews yX_splitViews ∈ zw0 := zw0_s 2 (by decide +kernel) (by decide +kernel)
theorem ks_X_checkDimension : Cond.selects RX yX_checkDimension yX_checkDimension ∈ zw0 := zw0_s 3 (by decide +kernel) (by decide +kernel)
theorem ks_X_checkView : Cond.selects RX yX_checkView yX_checkView ∈ zw0 := zw0_s 4 (by decide +kernel) (by decide +kernel)
theorem ks_X_estimateOf : Cond.selects RX yX_estimateOf yX_estimateOf ∈ zw0 := zw0_s 5 (by decide +kernel) (by decide +kernel)
theorem ks_X_benefitOf : Cond.selects RX yX_benefitOf yX_benefitOf ∈ zw0 := zw0_s 6 (by decide +kernel) (by decide +kernel)
theorem ks_X_checkRoomForChosen : Cond.selects RX yX_checkRoomForChosen yX_checkRoomForChosen ∈ zw0 := zw0_s 7 (by decide +kernel) (by decide +kernel)
theorem ks_X_addChosen : Cond.selects RX yX_addChosen yX_addChosen ∈ zw0 := zw0_s 8 (by decide +kernel) (by decide +kernel)
theorem ks_X_mostBeneficial : Cond.selects RX yX_mostBeneficial yX_mostBeneficial ∈ zw0 := zw0_s 9 (by decide +kernel) (by decide +kernel)
theorem ks_M_spread : Cond.selects RM yM_spread yM_spread ∈ zw0 := zw0_s 10 (by decide +kernel) (by decide +kernel)
theorem ks_M_divided : Cond.selects RM yM_divided yM_divided ∈ zw0 := zw0_s 11 (by decide +kernel) (by decide +kernel)
theorem ks_M_isDimension : Cond.selects RM yM_isDimension yM_isDimension ∈ zw0 := zw0_s 12 (by decide +kernel) (by decide +kernel)
theorem ks_M_isView : Cond.selects RM yM_isView yM_isView ∈ zw0 := zw0_s 13 (by decide +kernel) (by decide +kernel)
theorem ks_M_digitOf : Cond.selects RM yM_digitOf yM_digitOf ∈ zw0 := zw0_s 14 (by decide +kernel) (by decide +kernel)
theorem ks_M_above : Cond.selects RM yM_above yM_above ∈ zw0 := zw0_s 15 (by decide +kernel) (by decide +kernel)
theorem ks_M_reckon : Cond.selects RM yM_reckon yM_reckon ∈ zw0 := zw0_s 16 (by decide +kernel) (by decide +kernel)
theorem ks_M_estimateOf : Cond.selects RM yM_estimateOf yM_estimateOf ∈ zw0 := zw0_s 17 (by decide +kernel) (by decide +kernel)
theorem ks_M_benefitOf : Cond.selects RM yM_benefitOf yM_benefitOf ∈ zw0 := zw0_s 18 (by decide +kernel) (by decide +kernel)
theorem ks_M_choosesOne : Cond.selects RM yM_choosesOne yM_choosesOne ∈ zw0 := zw0_s 19 (by decide +kernel) (by decide +kernel)
theorem kC_X_init : Cond.code yX_init cX_init 1 none ∈ zw0 := zw0_t 14 (by decide +kernel) (by decide +kernel)
theorem kC_object : Cond.code objectInit ⟨#[0xb1]⟩ 1 none ∈ zw0 := zw0_t 17 (by decide +kernel) (by decide +kernel)
theorem kC_X_views : Cond.code yX_views cX_views 1 (some .int) ∈ zw0 := zw0_t 51 (by decide +kernel) (by decide +kernel)
theorem kC_X_drop : Cond.code yX_drop cX_drop 2 (some .int) ∈ zw0 := zw0_t 55 (by decide +kernel) (by decide +kernel)
theorem kC_X_forgetChosen : Cond.code yX_forgetChosen cX_forgetChosen 1 none ∈ zw0 := zw0_t 59 (by decide +kernel) (by decide +kernel)
theorem kC_A_fill : Cond.code yA_fill cA_fill 5 none ∈ zw0 := zw0_t 62 (by decide +kernel) (by decide +kernel)
theorem kC_X_total : Cond.code yX_total cX_total 4 (some .long) ∈ zw0 := zw0_t 66 (by decide +kernel) (by decide +kernel)
theorem kC_L_dimension : Cond.codeWith yL_dimension cL_dimension 4 (some .int) [(0, 9, 12, 13), (0, 9, 15, 15)] ∈ zw0 := zw0_t 69 (by decide +kernel) (by decide +kernel)
theorem kC_X_dimension : Cond.code yX_dimension cX_dimension 3 (some .int) ∈ zw0 := zw0_t 75 (by decide +kernel) (by decide +kernel)
theorem kC_X_splitViews : Cond.code yX_splitViews cX_splitViews 6 none ∈ zw0 := zw0_t 163 (by decide +kernel) (by decide +kernel)
theorem kC_L_values : Cond.codeWith yL_values cL_values 6 (some .int) [(0, 12, 15, 13)] ∈ zw0 := zw0_t 166 (by decide +kernel) (by decide +kernel)
theorem kC_X_values : Cond.code yX_values cX_values 6 (some .int) ∈ zw0 := zw0_t 170 (by decide +kernel) (by decide +kernel)
theorem kC_X_checkDimension : Cond.code yX_checkDimension cX_checkDimension 2 none ∈ zw0 := zw0_t 174 (by decide +kernel) (by decide +kernel)
theorem kC_L_facts : Cond.codeWith yL_facts cL_facts 4 (some .int) [(0, 9, 12, 13)] ∈ zw0 := zw0_t 181 (by decide +kernel) (by decide +kernel)
theorem kC_X_facts : Cond.code yX_facts cX_facts 3 (some .int) ∈ zw0 := zw0_t 185 (by decide +kernel) (by decide +kernel)
theorem kC_L_digit : Cond.codeWith yL_digit cL_digit 5 (some .int) [(0, 10, 13, 13)] ∈ zw0 := zw0_t 189 (by decide +kernel) (by decide +kernel)
theorem kC_X_digit : Cond.code yX_digit cX_digit 3 (some .int) ∈ zw0 := zw0_t 193 (by decide +kernel) (by decide +kernel)
theorem kC_X_checkView : Cond.code yX_checkView cX_checkView 2 none ∈ zw0 := zw0_t 197 (by decide +kernel) (by decide +kernel)
theorem kC_X_unpackDigit : Cond.code yX_unpackDigit cX_unpackDigit 2 (some .int) ∈ zw0 := zw0_t 201 (by decide +kernel) (by decide +kernel)
theorem kC_L_isAbove : Cond.codeWith yL_isAbove cL_isAbove 5 (some .int) [(0, 17, 20, 13)] ∈ zw0 := zw0_t 204 (by decide +kernel) (by decide +kernel)
theorem kC_X_isAbove : Cond.code yX_isAbove cX_isAbove 3 (some .boolean) ∈ zw0 := zw0_t 208 (by decide +kernel) (by decide +kernel)
theorem kC_X_isAbovePacked : Cond.code yX_isAbovePacked cX_isAbovePacked 2 (some .boolean) ∈ zw0 := zw0_t 211 (by decide +kernel) (by decide +kernel)
theorem kC_L_told : Cond.codeWith yL_told cL_told 5 (some .int) [(0, 9, 12, 13)] ∈ zw0 := zw0_t 215 (by decide +kernel) (by decide +kernel)
theorem kC_X_told : Cond.code yX_told cX_told 3 (some .long) ∈ zw0 := zw0_t 219 (by decide +kernel) (by decide +kernel)
theorem kC_X_estimateOf : Cond.code yX_estimateOf cX_estimateOf 7 (some .long) ∈ zw0 := zw0_t 223 (by decide +kernel) (by decide +kernel)
theorem kC_min : Cond.code Lib.Math.min.name Lib.Math.min.code 2 (some .int) ∈ zw0 := zw0_t 226 (by decide +kernel) (by decide +kernel)
theorem kC_lmin : Cond.code Lib.MathLoose.min_long.x Lib.MathLoose.min_long.code 4 (some .long) ∈ zw0 := zw0_t 229 (by decide +kernel) (by decide +kernel)
theorem kC_X_benefitOf : Cond.code yX_benefitOf cX_benefitOf 8 (some .long) ∈ zw0 := zw0_t 233 (by decide +kernel) (by decide +kernel)
theorem kC_L_take : Cond.codeWith yL_take cL_take 4 (some .int) [(0, 9, 12, 13), (0, 9, 15, 15)] ∈ zw0 := zw0_t 237 (by decide +kernel) (by decide +kernel)
theorem kC_X_take : Cond.code yX_take cX_take 2 (some .int) ∈ zw0 := zw0_t 241 (by decide +kernel) (by decide +kernel)
theorem kC_X_checkRoomForChosen : Cond.code yX_checkRoomForChosen cX_checkRoomForChosen 1 none ∈ zw0 := zw0_t 245 (by decide +kernel) (by decide +kernel)
theorem kC_X_addChosen : Cond.code yX_addChosen cX_addChosen 6 none ∈ zw0 := zw0_t 250 (by decide +kernel) (by decide +kernel)
theorem kC_L_step : Cond.codeWith yL_step cL_step 3 (some .int) [(0, 8, 11, 15)] ∈ zw0 := zw0_t 253 (by decide +kernel) (by decide +kernel)
theorem kC_X_step : Cond.code yX_step cX_step 2 (some .int) ∈ zw0 := zw0_t 257 (by decide +kernel) (by decide +kernel)
theorem kC_X_mostBeneficial : Cond.code yX_mostBeneficial cX_mostBeneficial 7 (some .int) ∈ zw0 := zw0_t 261 (by decide +kernel) (by decide +kernel)
theorem kC_L_choose : Cond.codeWith yL_choose cL_choose 4 (some .int) [(0, 9, 12, 13)] ∈ zw0 := zw0_t 264 (by decide +kernel) (by decide +kernel)
theorem kC_X_choose : Cond.code yX_choose cX_choose 4 (some .int) ∈ zw0 := zw0_t 268 (by decide +kernel) (by decide +kernel)
theorem kC_L_chosen : Cond.codeWith yL_chosen cL_chosen 4 (some .int) [(0, 9, 12, 13)] ∈ zw0 := zw0_t 272 (by decide +kernel) (by decide +kernel)
theorem kC_X_chosen : Cond.code yX_chosen cX_chosen 2 (some .int) ∈ zw0 := zw0_t 276 (by decide +kernel) (by decide +kernel)
theorem kC_M_init : Cond.code yM_init cM_init 1 none ∈ zw0 := zw0_t 282 (by decide +kernel) (by decide +kernel)
theorem kC_M_thrown : Cond.code yM_thrown cM_thrown 1 (some .int) ∈ zw0 := zw0_t 321 (by decide +kernel) (by decide +kernel)
theorem kC_M_dimension : Cond.code yM_dimension cM_dimension 3 (some .int) ∈ zw0 := zw0_t 325 (by decide +kernel) (by decide +kernel)
theorem kC_M_spread : Cond.code yM_spread cM_spread 3 none ∈ zw0 := zw0_t 329 (by decide +kernel) (by decide +kernel)
theorem kC_M_divided : Cond.code yM_divided cM_divided 5 (some .int) ∈ zw0 := zw0_t 333 (by decide +kernel) (by decide +kernel)
theorem kC_M_values : Cond.code yM_values cM_values 5 (some .int) ∈ zw0 := zw0_t 337 (by decide +kernel) (by decide +kernel)
theorem kC_M_isDimension : Cond.code yM_isDimension cM_isDimension 2 (some .boolean) ∈ zw0 := zw0_t 341 (by decide +kernel) (by decide +kernel)
theorem kC_M_facts : Cond.code yM_facts cM_facts 3 (some .int) ∈ zw0 := zw0_t 346 (by decide +kernel) (by decide +kernel)
theorem kC_M_views : Cond.code yM_views cM_views 1 (some .int) ∈ zw0 := zw0_t 350 (by decide +kernel) (by decide +kernel)
theorem kC_M_digit : Cond.code yM_digit cM_digit 3 (some .int) ∈ zw0 := zw0_t 354 (by decide +kernel) (by decide +kernel)
theorem kC_M_isView : Cond.code yM_isView cM_isView 2 (some .boolean) ∈ zw0 := zw0_t 358 (by decide +kernel) (by decide +kernel)
theorem kC_M_digitOf : Cond.code yM_digitOf cM_digitOf 3 (some .int) ∈ zw0 := zw0_t 362 (by decide +kernel) (by decide +kernel)
theorem kC_M_isAbove : Cond.code yM_isAbove cM_isAbove 3 (some .boolean) ∈ zw0 := zw0_t 366 (by decide +kernel) (by decide +kernel)
theorem kC_M_above : Cond.code yM_above cM_above 5 (some .boolean) ∈ zw0 := zw0_t 370 (by decide +kernel) (by decide +kernel)
theorem kC_M_told : Cond.code yM_told cM_told 3 (some .long) ∈ zw0 := zw0_t 374 (by decide +kernel) (by decide +kernel)
theorem kC_M_reckon : Cond.code yM_reckon cM_reckon 4 none ∈ zw0 := zw0_t 378 (by decide +kernel) (by decide +kernel)
theorem kC_M_estimateOf : Cond.code yM_estimateOf cM_estimateOf 6 (some .long) ∈ zw0 := zw0_t 382 (by decide +kernel) (by decide +kernel)
theorem kC_M_benefitOf : Cond.code yM_benefitOf cM_benefitOf 5 (some .long) ∈ zw0 := zw0_t 387 (by decide +kernel) (by decide +kernel)
theorem kC_M_take : Cond.code yM_take cM_take 2 (some .int) ∈ zw0 := zw0_t 391 (by decide +kernel) (by decide +kernel)
theorem kC_M_step : Cond.code yM_step cM_step 1 (some .int) ∈ zw0 := zw0_t 395 (by decide +kernel) (by decide +kernel)
theorem kC_M_choosesOne : Cond.code yM_choosesOne cM_choosesOne 7 (some .int) ∈ zw0 := zw0_t 399 (by decide +kernel) (by decide +kernel)
theorem kC_M_choose : Cond.code yM_choose cM_choose 3 (some .int) ∈ zw0 := zw0_t 403 (by decide +kernel) (by decide +kernel)
theorem kC_M_chosen : Cond.code yM_chosen cM_chosen 2 (some .int) ∈ zw0 := zw0_t 407 (by decide +kernel) (by decide +kernel)
theorem kC_M_drop : Cond.code yM_drop cM_drop 2 (some .int) ∈ zw0 := zw0_t 411 (by decide +kernel) (by decide +kernel)
theorem kC_M_total : Cond.code yM_total cM_total 4 (some .long) ∈ zw0 := zw0_t 415 (by decide +kernel) (by decide +kernel)
theorem ky_X_0 : Cond.laysFinal "ViewChooser" "ViewChooser" "levelCounts" "[I" ∈ zw0 := zw0_t 27 (by decide +kernel) (by decide +kernel)
theorem ky_X_1 : Cond.laysFinal "ViewChooser" "ViewChooser" "valueCounts" "[I" ∈ zw0 := zw0_t 29 (by decide +kernel) (by decide +kernel)
theorem ky_X_2 : Cond.laysFinal "ViewChooser" "ViewChooser" "packedDigits" "[I" ∈ zw0 := zw0_t 31 (by decide +kernel) (by decide +kernel)
theorem ky_X_3 : Cond.laysFinal "ViewChooser" "ViewChooser" "costs" "[J" ∈ zw0 := zw0_t 33 (by decide +kernel) (by decide +kernel)
theorem ky_X_4 : Cond.laysFinal "ViewChooser" "ViewChooser" "chosenViews" "[I" ∈ zw0 := zw0_t 35 (by decide +kernel) (by decide +kernel)
theorem ky_X_5 : Cond.lays "ViewChooser" "ViewChooser" "dimensionCount" "I" ∈ zw0 := zw0_t 37 (by decide +kernel) (by decide +kernel)
theorem ky_X_6 : Cond.lays "ViewChooser" "ViewChooser" "viewCount" "I" ∈ zw0 := zw0_t 39 (by decide +kernel) (by decide +kernel)
theorem ky_X_7 : Cond.lays "ViewChooser" "ViewChooser" "factCount" "I" ∈ zw0 := zw0_t 41 (by decide +kernel) (by decide +kernel)
theorem ky_X_8 : Cond.lays "ViewChooser" "ViewChooser" "chosenCount" "I" ∈ zw0 := zw0_t 43 (by decide +kernel) (by decide +kernel)
theorem in_X : ∀ w ∈ u_ws RX TX 9, w ∈ zw0 := List.forall_mem_cons.mpr ⟨ky_X_0, List.forall_mem_cons.mpr ⟨ky_X_1, List.forall_mem_cons.mpr ⟨ky_X_2, List.forall_mem_cons.mpr ⟨ky_X_3, List.forall_mem_cons.mpr ⟨ky_X_4, List.forall_mem_cons.mpr ⟨ky_X_5, List.forall_mem_cons.mpr ⟨ky_X_6, List.forall_mem_cons.mpr ⟨ky_X_7, List.forall_mem_cons.mpr ⟨ky_X_8, fun _ h => absurd h List.not_mem_nil⟩⟩⟩⟩⟩⟩⟩⟩⟩
theorem ky_M_0 : Cond.lays "ViewChooserModel" "ViewChooserModel" "code" "I" ∈ zw0 := zw0_t 295 (by decide +kernel) (by decide +kernel)
theorem ky_M_1 : Cond.lays "ViewChooserModel" "ViewChooserModel" "dimensions" "I" ∈ zw0 := zw0_t 297 (by decide +kernel) (by decide +kernel)
theorem ky_M_2 : Cond.laysFinal "ViewChooserModel" "ViewChooserModel" "levels" "[I" ∈ zw0 := zw0_t 299 (by decide +kernel) (by decide +kernel)
theorem ky_M_3 : Cond.laysFinal "ViewChooserModel" "ViewChooserModel" "values" "[I" ∈ zw0 := zw0_t 301 (by decide +kernel) (by decide +kernel)
theorem ky_M_4 : Cond.lays "ViewChooserModel" "ViewChooserModel" "facts" "I" ∈ zw0 := zw0_t 303 (by decide +kernel) (by decide +kernel)
theorem ky_M_5 : Cond.lays "ViewChooserModel" "ViewChooserModel" "views" "I" ∈ zw0 := zw0_t 305 (by decide +kernel) (by decide +kernel)
theorem ky_M_6 : Cond.lays "ViewChooserModel" "ViewChooserModel" "taken" "I" ∈ zw0 := zw0_t 307 (by decide +kernel) (by decide +kernel)
theorem ky_M_7 : Cond.laysFinal "ViewChooserModel" "ViewChooserModel" "chosen" "[I" ∈ zw0 := zw0_t 309 (by decide +kernel) (by decide +kernel)
theorem ky_M_8 : Cond.laysFinal "ViewChooserModel" "ViewChooserModel" "digits" "[B" ∈ zw0 := zw0_t 311 (by decide +kernel) (by decide +kernel)
theorem ky_M_9 : Cond.laysFinal "ViewChooserModel" "ViewChooserModel" "estimate" "[J" ∈ zw0 := zw0_t 313 (by decide +kernel) (by decide +kernel)
theorem ky_M_10 : Cond.laysFinal "ViewChooserModel" "ViewChooserModel" "cost" "[J" ∈ zw0 := zw0_t 315 (by decide +kernel) (by decide +kernel)
theorem in_M : ∀ w ∈ u_ws RM TM 11, w ∈ zw0 := List.forall_mem_cons.mpr ⟨ky_M_0, List.forall_mem_cons.mpr ⟨ky_M_1, List.forall_mem_cons.mpr ⟨ky_M_2, List.forall_mem_cons.mpr ⟨ky_M_3, List.forall_mem_cons.mpr ⟨ky_M_4, List.forall_mem_cons.mpr ⟨ky_M_5, List.forall_mem_cons.mpr ⟨ky_M_6, List.forall_mem_cons.mpr ⟨ky_M_7, List.forall_mem_cons.mpr ⟨ky_M_8, List.forall_mem_cons.mpr ⟨ky_M_9, List.forall_mem_cons.mpr ⟨ky_M_10, fun _ h => absurd h List.not_mem_nil⟩⟩⟩⟩⟩⟩⟩⟩⟩⟩⟩
end
section
/-! decode rows: by program -/
theorem dX_init_0 : decode cX_init 0 = .ok (.aload_n 0, 1) := by decide +kernel
theorem dX_init_1 : decode cX_init 1 = .ok (.invokespecial 1, 3) := by decide +kernel
theorem dX_init_4 : decode cX_init 4 = .ok (.aload_n 0, 1) := by decide +kernel
theorem dX_init_5 : decode cX_init 5 = .ok (.bipush 8, 2) := by decide +kernel
theorem dX_init_7 : decode cX_init 7 = .ok (.newarray .int, 2) := by decide +kernel
theorem dX_init_9 : decode cX_init 9 = .ok (.putfield 9, 3) := by decide +kernel
theorem dX_init_12 : decode cX_init 12 = .ok (.aload_n 0, 1) := by decide +kernel
theorem dX_init_13 : decode cX_init 13 = .ok (.bipush 32, 2) := by decide +kernel
theorem dX_init_15 : decode cX_init 15 = .ok (.newarray .int, 2) := by decide +kernel
theorem dX_init_17 : decode cX_init 17 = .ok (.putfield 13, 3) := by decide +kernel
theorem dX_init_20 : decode cX_init 20 = .ok (.aload_n 0, 1) := by decide +kernel
theorem dX_init_21 : decode cX_init 21 = .ok (.sipush 512, 3) := by decide +kernel
theorem dX_init_24 : decode cX_init 24 = .ok (.newarray .int, 2) := by decide +kernel
theorem dX_init_26 : decode cX_init 26 = .ok (.putfield 16, 3) := by decide +kernel
theorem dX_init_29 : decode cX_init 29 = .ok (.aload_n 0, 1) := by decide +kernel
theorem dX_init_30 : decode cX_init 30 = .ok (.sipush 512, 3) := by decide +kernel
theorem dX_init_33 : decode cX_init 33 = .ok (.newarray .long, 2) := by decide +kernel
theorem dX_init_35 : decode cX_init 35 = .ok (.putfield 19, 3) := by decide +kernel
theorem dX_init_38 : decode cX_init 38 = .ok (.aload_n 0, 1) := by decide +kernel
theorem dX_init_39 : decode cX_init 39 = .ok (.bipush 16, 2) := by decide +kernel
theorem dX_init_41 : decode cX_init 41 = .ok (.newarray .int, 2) := by decide +kernel
theorem dX_init_43 : decode cX_init 43 = .ok (.putfield 23, 3) := by decide +kernel
theorem dX_init_46 : decode cX_init 46 = .ok (.aload_n 0, 1) := by decide +kernel
theorem dX_init_47 : decode cX_init 47 = .ok (.iconst 0, 1) := by decide +kernel
theorem dX_init_48 : decode cX_init 48 = .ok (.putfield 26, 3) := by decide +kernel
theorem dX_init_51 : decode cX_init 51 = .ok (.aload_n 0, 1) := by decide +kernel
theorem dX_init_52 : decode cX_init 52 = .ok (.iconst 1, 1) := by decide +kernel
theorem dX_init_53 : decode cX_init 53 = .ok (.putfield 30, 3) := by decide +kernel
theorem dX_init_56 : decode cX_init 56 = .ok (.aload_n 0, 1) := by decide +kernel
theorem dX_init_57 : decode cX_init 57 = .ok (.iconst 0, 1) := by decide +kernel
theorem dX_init_58 : decode cX_init 58 = .ok (.putfield 33, 3) := by decide +kernel
theorem dX_init_61 : decode cX_init 61 = .ok (.aload_n 0, 1) := by decide +kernel
theorem dX_init_62 : decode cX_init 62 = .ok (.iconst 0, 1) := by decide +kernel
theorem dX_init_63 : decode cX_init 63 = .ok (.putfield 36, 3) := by decide +kernel
theorem dX_init_66 : decode cX_init 66 = .ok (.return_, 1) := by decide +kernel
theorem dX_dimension_0 : decode cX_dimension 0 = .ok (.iload_n 1, 1) := by decide +kernel
theorem dX_dimension_1 : decode cX_dimension 1 = .ok (.iconst 1, 1) := by decide +kernel
theorem dX_dimension_2 : decode cX_dimension 2 = .ok (.if_icmp .lt 8, 3) := by decide +kernel
theorem dX_dimension_5 : decode cX_dimension 5 = .ok (.iload_n 1, 1) := by decide +kernel
theorem dX_dimension_6 : decode cX_dimension 6 = .ok (.iconst 4, 1) := by decide +kernel
theorem dX_dimension_7 : decode cX_dimension 7 = .ok (.if_icmp .le 13, 3) := by decide +kernel
theorem dX_dimension_10 : decode cX_dimension 10 = .ok (.new 39, 3) := by decide +kernel
theorem dX_dimension_13 : decode cX_dimension 13 = .ok (.dup, 1) := by decide +kernel
theorem dX_dimension_14 : decode cX_dimension 14 = .ok (.ldc 41, 2) := by decide +kernel
theorem dX_dimension_16 : decode cX_dimension 16 = .ok (.invokespecial 43, 3) := by decide +kernel
theorem dX_dimension_19 : decode cX_dimension 19 = .ok (.athrow, 1) := by decide +kernel
theorem dX_dimension_20 : decode cX_dimension 20 = .ok (.aload_n 0, 1) := by decide +kernel
theorem dX_dimension_21 : decode cX_dimension 21 = .ok (.getfield 26, 3) := by decide +kernel
theorem dX_dimension_24 : decode cX_dimension 24 = .ok (.bipush 8, 2) := by decide +kernel
theorem dX_dimension_26 : decode cX_dimension 26 = .ok (.if_icmp .lt 13, 3) := by decide +kernel
theorem dX_dimension_29 : decode cX_dimension 29 = .ok (.new 46, 3) := by decide +kernel
theorem dX_dimension_32 : decode cX_dimension 32 = .ok (.dup, 1) := by decide +kernel
theorem dX_dimension_33 : decode cX_dimension 33 = .ok (.ldc 48, 2) := by decide +kernel
theorem dX_dimension_35 : decode cX_dimension 35 = .ok (.invokespecial 50, 3) := by decide +kernel
theorem dX_dimension_38 : decode cX_dimension 38 = .ok (.athrow, 1) := by decide +kernel
theorem dX_dimension_39 : decode cX_dimension 39 = .ok (.aload_n 0, 1) := by decide +kernel
theorem dX_dimension_40 : decode cX_dimension 40 = .ok (.getfield 30, 3) := by decide +kernel
theorem dX_dimension_43 : decode cX_dimension 43 = .ok (.iload_n 1, 1) := by decide +kernel
theorem dX_dimension_44 : decode cX_dimension 44 = .ok (.iconst 1, 1) := by decide +kernel
theorem dX_dimension_45 : decode cX_dimension 45 = .ok (.iadd, 1) := by decide +kernel
theorem dX_dimension_46 : decode cX_dimension 46 = .ok (.imul, 1) := by decide +kernel
theorem dX_dimension_47 : decode cX_dimension 47 = .ok (.sipush 512, 3) := by decide +kernel
theorem dX_dimension_50 : decode cX_dimension 50 = .ok (.if_icmp .le 13, 3) := by decide +kernel
theorem dX_dimension_53 : decode cX_dimension 53 = .ok (.new 46, 3) := by decide +kernel
theorem dX_dimension_56 : decode cX_dimension 56 = .ok (.dup, 1) := by decide +kernel
theorem dX_dimension_57 : decode cX_dimension 57 = .ok (.ldc 51, 2) := by decide +kernel
theorem dX_dimension_59 : decode cX_dimension 59 = .ok (.invokespecial 50, 3) := by decide +kernel
theorem dX_dimension_62 : decode cX_dimension 62 = .ok (.athrow, 1) := by decide +kernel
theorem dX_dimension_63 : decode cX_dimension 63 = .ok (.aload_n 0, 1) := by decide +kernel
theorem dX_dimension_64 : decode cX_dimension 64 = .ok (.getfield 26, 3) := by decide +kernel
theorem dX_dimension_67 : decode cX_dimension 67 = .ok (.istore_n 2, 1) := by decide +kernel
theorem dX_dimension_68 : decode cX_dimension 68 = .ok (.aload_n 0, 1) := by decide +kernel
theorem dX_dimension_69 : decode cX_dimension 69 = .ok (.iload_n 2, 1) := by decide +kernel
theorem dX_dimension_70 : decode cX_dimension 70 = .ok (.iload_n 1, 1) := by decide +kernel
theorem dX_dimension_71 : decode cX_dimension 71 = .ok (.iconst 1, 1) := by decide +kernel
theorem dX_dimension_72 : decode cX_dimension 72 = .ok (.iadd, 1) := by decide +kernel
theorem dX_dimension_73 : decode cX_dimension 73 = .ok (.invokevirtual 53, 3) := by decide +kernel
theorem dX_dimension_76 : decode cX_dimension 76 = .ok (.aload_n 0, 1) := by decide +kernel
theorem dX_dimension_77 : decode cX_dimension 77 = .ok (.getfield 9, 3) := by decide +kernel
theorem dX_dimension_80 : decode cX_dimension 80 = .ok (.iload_n 2, 1) := by decide +kernel
theorem dX_dimension_81 : decode cX_dimension 81 = .ok (.iload_n 1, 1) := by decide +kernel
theorem dX_dimension_82 : decode cX_dimension 82 = .ok (.iastore, 1) := by decide +kernel
theorem dX_dimension_83 : decode cX_dimension 83 = .ok (.aload_n 0, 1) := by decide +kernel
theorem dX_dimension_84 : decode cX_dimension 84 = .ok (.iload_n 2, 1) := by decide +kernel
theorem dX_dimension_85 : decode cX_dimension 85 = .ok (.iconst 1, 1) := by decide +kernel
theorem dX_dimension_86 : decode cX_dimension 86 = .ok (.iadd, 1) := by decide +kernel
theorem dX_dimension_87 : decode cX_dimension 87 = .ok (.putfield 26, 3) := by decide +kernel
theorem dX_dimension_90 : decode cX_dimension 90 = .ok (.aload_n 0, 1) := by decide +kernel
theorem dX_dimension_91 : decode cX_dimension 91 = .ok (.invokevirtual 57, 3) := by decide +kernel
theorem dX_dimension_94 : decode cX_dimension 94 = .ok (.iload_n 2, 1) := by decide +kernel
theorem dX_dimension_95 : decode cX_dimension 95 = .ok (.ireturn, 1) := by decide +kernel
theorem dX_values_0 : decode cX_values 0 = .ok (.aload_n 0, 1) := by decide +kernel
theorem dX_values_1 : decode cX_values 1 = .ok (.iload_n 1, 1) := by decide +kernel
theorem dX_values_2 : decode cX_values 2 = .ok (.invokevirtual 60, 3) := by decide +kernel
theorem dX_values_5 : decode cX_values 5 = .ok (.iload_n 2, 1) := by decide +kernel
theorem dX_values_6 : decode cX_values 6 = .ok (.ifCond .lt 13, 3) := by decide +kernel
theorem dX_values_9 : decode cX_values 9 = .ok (.iload_n 2, 1) := by decide +kernel
theorem dX_values_10 : decode cX_values 10 = .ok (.aload_n 0, 1) := by decide +kernel
theorem dX_values_11 : decode cX_values 11 = .ok (.getfield 9, 3) := by decide +kernel
theorem dX_values_14 : decode cX_values 14 = .ok (.iload_n 1, 1) := by decide +kernel
theorem dX_values_15 : decode cX_values 15 = .ok (.iaload, 1) := by decide +kernel
theorem dX_values_16 : decode cX_values 16 = .ok (.if_icmp .lt 13, 3) := by decide +kernel
theorem dX_values_19 : decode cX_values 19 = .ok (.new 39, 3) := by decide +kernel
theorem dX_values_22 : decode cX_values 22 = .ok (.dup, 1) := by decide +kernel
theorem dX_values_23 : decode cX_values 23 = .ok (.ldc 64, 2) := by decide +kernel
theorem dX_values_25 : decode cX_values 25 = .ok (.invokespecial 43, 3) := by decide +kernel
theorem dX_values_28 : decode cX_values 28 = .ok (.athrow, 1) := by decide +kernel
theorem dX_values_29 : decode cX_values 29 = .ok (.iload_n 3, 1) := by decide +kernel
theorem dX_values_30 : decode cX_values 30 = .ok (.ifCond .lt 9, 3) := by decide +kernel
theorem dX_values_33 : decode cX_values 33 = .ok (.iload_n 3, 1) := by decide +kernel
theorem dX_values_34 : decode cX_values 34 = .ok (.ldc 66, 2) := by decide +kernel
theorem dX_values_36 : decode cX_values 36 = .ok (.if_icmp .le 13, 3) := by decide +kernel
theorem dX_values_39 : decode cX_values 39 = .ok (.new 39, 3) := by decide +kernel
theorem dX_values_42 : decode cX_values 42 = .ok (.dup, 1) := by decide +kernel
theorem dX_values_43 : decode cX_values 43 = .ok (.ldc 67, 2) := by decide +kernel
theorem dX_values_45 : decode cX_values 45 = .ok (.invokespecial 43, 3) := by decide +kernel
theorem dX_values_48 : decode cX_values 48 = .ok (.athrow, 1) := by decide +kernel
theorem dX_values_49 : decode cX_values 49 = .ok (.iload_n 1, 1) := by decide +kernel
theorem dX_values_50 : decode cX_values 50 = .ok (.iconst 4, 1) := by decide +kernel
theorem dX_values_51 : decode cX_values 51 = .ok (.imul, 1) := by decide +kernel
theorem dX_values_52 : decode cX_values 52 = .ok (.iload_n 2, 1) := by decide +kernel
theorem dX_values_53 : decode cX_values 53 = .ok (.iadd, 1) := by decide +kernel
theorem dX_values_54 : decode cX_values 54 = .ok (.istore 4, 2) := by decide +kernel
theorem dX_values_56 : decode cX_values 56 = .ok (.aload_n 0, 1) := by decide +kernel
theorem dX_values_57 : decode cX_values 57 = .ok (.getfield 13, 3) := by decide +kernel
theorem dX_values_60 : decode cX_values 60 = .ok (.iload 4, 2) := by decide +kernel
theorem dX_values_62 : decode cX_values 62 = .ok (.iaload, 1) := by decide +kernel
theorem dX_values_63 : decode cX_values 63 = .ok (.istore 5, 2) := by decide +kernel
theorem dX_values_65 : decode cX_values 65 = .ok (.aload_n 0, 1) := by decide +kernel
theorem dX_values_66 : decode cX_values 66 = .ok (.getfield 13, 3) := by decide +kernel
theorem dX_values_69 : decode cX_values 69 = .ok (.iload 4, 2) := by decide +kernel
theorem dX_values_71 : decode cX_values 71 = .ok (.iload_n 3, 1) := by decide +kernel
theorem dX_values_72 : decode cX_values 72 = .ok (.iastore, 1) := by decide +kernel
theorem dX_values_73 : decode cX_values 73 = .ok (.aload_n 0, 1) := by decide +kernel
theorem dX_values_74 : decode cX_values 74 = .ok (.invokevirtual 57, 3) := by decide +kernel
theorem dX_values_77 : decode cX_values 77 = .ok (.iload 5, 2) := by decide +kernel
theorem dX_values_79 : decode cX_values 79 = .ok (.ireturn, 1) := by decide +kernel
theorem dX_facts_0 : decode cX_facts 0 = .ok (.iload_n 1, 1) := by decide +kernel
theorem dX_facts_1 : decode cX_facts 1 = .ok (.ifCond .ge 13, 3) := by decide +kernel
theorem dX_facts_4 : decode cX_facts 4 = .ok (.new 39, 3) := by decide +kernel
theorem dX_facts_7 : decode cX_facts 7 = .ok (.dup, 1) := by decide +kernel
theorem dX_facts_8 : decode cX_facts 8 = .ok (.ldc 69, 2) := by decide +kernel
theorem dX_facts_10 : decode cX_facts 10 = .ok (.invokespecial 43, 3) := by decide +kernel
theorem dX_facts_13 : decode cX_facts 13 = .ok (.athrow, 1) := by decide +kernel
theorem dX_facts_14 : decode cX_facts 14 = .ok (.aload_n 0, 1) := by decide +kernel
theorem dX_facts_15 : decode cX_facts 15 = .ok (.getfield 33, 3) := by decide +kernel
theorem dX_facts_18 : decode cX_facts 18 = .ok (.istore_n 2, 1) := by decide +kernel
theorem dX_facts_19 : decode cX_facts 19 = .ok (.aload_n 0, 1) := by decide +kernel
theorem dX_facts_20 : decode cX_facts 20 = .ok (.iload_n 1, 1) := by decide +kernel
theorem dX_facts_21 : decode cX_facts 21 = .ok (.putfield 33, 3) := by decide +kernel
theorem dX_facts_24 : decode cX_facts 24 = .ok (.aload_n 0, 1) := by decide +kernel
theorem dX_facts_25 : decode cX_facts 25 = .ok (.invokevirtual 57, 3) := by decide +kernel
theorem dX_facts_28 : decode cX_facts 28 = .ok (.iload_n 2, 1) := by decide +kernel
theorem dX_facts_29 : decode cX_facts 29 = .ok (.ireturn, 1) := by decide +kernel
theorem dX_views_0 : decode cX_views 0 = .ok (.aload_n 0, 1) := by decide +kernel
theorem dX_views_1 : decode cX_views 1 = .ok (.getfield 30, 3) := by decide +kernel
theorem dX_views_4 : decode cX_views 4 = .ok (.ireturn, 1) := by decide +kernel
theorem dX_digit_0 : decode cX_digit 0 = .ok (.aload_n 0, 1) := by decide +kernel
theorem dX_digit_1 : decode cX_digit 1 = .ok (.iload_n 1, 1) := by decide +kernel
theorem dX_digit_2 : decode cX_digit 2 = .ok (.invokevirtual 71, 3) := by decide +kernel
theorem dX_digit_5 : decode cX_digit 5 = .ok (.aload_n 0, 1) := by decide +kernel
theorem dX_digit_6 : decode cX_digit 6 = .ok (.iload_n 2, 1) := by decide +kernel
theorem dX_digit_7 : decode cX_digit 7 = .ok (.invokevirtual 60, 3) := by decide +kernel
theorem dX_digit_10 : decode cX_digit 10 = .ok (.aload_n 0, 1) := by decide +kernel
theorem dX_digit_11 : decode cX_digit 11 = .ok (.getfield 16, 3) := by decide +kernel
theorem dX_digit_14 : decode cX_digit 14 = .ok (.iload_n 1, 1) := by decide +kernel
theorem dX_digit_15 : decode cX_digit 15 = .ok (.iaload, 1) := by decide +kernel
theorem dX_digit_16 : decode cX_digit 16 = .ok (.iload_n 2, 1) := by decide +kernel
theorem dX_digit_17 : decode cX_digit 17 = .ok (.invokestatic 74, 3) := by decide +kernel
theorem dX_digit_20 : decode cX_digit 20 = .ok (.ireturn, 1) := by decide +kernel
theorem dX_isAbove_0 : decode cX_isAbove 0 = .ok (.aload_n 0, 1) := by decide +kernel
theorem dX_isAbove_1 : decode cX_isAbove 1 = .ok (.iload_n 1, 1) := by decide +kernel
theorem dX_isAbove_2 : decode cX_isAbove 2 = .ok (.invokevirtual 71, 3) := by decide +kernel
theorem dX_isAbove_5 : decode cX_isAbove 5 = .ok (.aload_n 0, 1) := by decide +kernel
theorem dX_isAbove_6 : decode cX_isAbove 6 = .ok (.iload_n 2, 1) := by decide +kernel
theorem dX_isAbove_7 : decode cX_isAbove 7 = .ok (.invokevirtual 71, 3) := by decide +kernel
theorem dX_isAbove_10 : decode cX_isAbove 10 = .ok (.aload_n 0, 1) := by decide +kernel
theorem dX_isAbove_11 : decode cX_isAbove 11 = .ok (.getfield 16, 3) := by decide +kernel
theorem dX_isAbove_14 : decode cX_isAbove 14 = .ok (.iload_n 1, 1) := by decide +kernel
theorem dX_isAbove_15 : decode cX_isAbove 15 = .ok (.iaload, 1) := by decide +kernel
theorem dX_isAbove_16 : decode cX_isAbove 16 = .ok (.aload_n 0, 1) := by decide +kernel
theorem dX_isAbove_17 : decode cX_isAbove 17 = .ok (.getfield 16, 3) := by decide +kernel
theorem dX_isAbove_20 : decode cX_isAbove 20 = .ok (.iload_n 2, 1) := by decide +kernel
theorem dX_isAbove_21 : decode cX_isAbove 21 = .ok (.iaload, 1) := by decide +kernel
theorem dX_isAbove_22 : decode cX_isAbove 22 = .ok (.invokestatic 78, 3) := by decide +kernel
theorem dX_isAbove_25 : decode cX_isAbove 25 = .ok (.ireturn, 1) := by decide +kernel
theorem dX_told_0 : decode cX_told 0 = .ok (.aload_n 0, 1) := by decide +kernel
theorem dX_told_1 : decode cX_told 1 = .ok (.iload_n 1, 1) := by decide +kernel
theorem dX_told_2 : decode cX_told 2 = .ok (.invokevirtual 71, 3) := by decide +kernel
theorem dX_told_5 : decode cX_told 5 = .ok (.iload_n 2, 1) := by decide +kernel
theorem dX_told_6 : decode cX_told 6 = .ok (.tableswitch 45 0 2 #[26, 32, 39], 26) := by decide +kernel
theorem dX_told_32 : decode cX_told 32 = .ok (.aload_n 0, 1) := by decide +kernel
theorem dX_told_33 : decode cX_told 33 = .ok (.iload_n 1, 1) := by decide +kernel
theorem dX_told_34 : decode cX_told 34 = .ok (.invokevirtual 82, 3) := by decide +kernel
theorem dX_told_37 : decode cX_told 37 = .ok (.lreturn, 1) := by decide +kernel
theorem dX_told_38 : decode cX_told 38 = .ok (.aload_n 0, 1) := by decide +kernel
theorem dX_told_39 : decode cX_told 39 = .ok (.getfield 19, 3) := by decide +kernel
theorem dX_told_42 : decode cX_told 42 = .ok (.iload_n 1, 1) := by decide +kernel
theorem dX_told_43 : decode cX_told 43 = .ok (.laload, 1) := by decide +kernel
theorem dX_told_44 : decode cX_told 44 = .ok (.lreturn, 1) := by decide +kernel
theorem dX_told_45 : decode cX_told 45 = .ok (.aload_n 0, 1) := by decide +kernel
theorem dX_told_46 : decode cX_told 46 = .ok (.iload_n 1, 1) := by decide +kernel
theorem dX_told_47 : decode cX_told 47 = .ok (.invokevirtual 86, 3) := by decide +kernel
theorem dX_told_50 : decode cX_told 50 = .ok (.lreturn, 1) := by decide +kernel
theorem dX_told_51 : decode cX_told 51 = .ok (.new 39, 3) := by decide +kernel
theorem dX_told_54 : decode cX_told 54 = .ok (.dup, 1) := by decide +kernel
theorem dX_told_55 : decode cX_told 55 = .ok (.ldc 89, 2) := by decide +kernel
theorem dX_told_57 : decode cX_told 57 = .ok (.invokespecial 43, 3) := by decide +kernel
theorem dX_told_60 : decode cX_told 60 = .ok (.athrow, 1) := by decide +kernel
theorem dX_take_0 : decode cX_take 0 = .ok (.aload_n 0, 1) := by decide +kernel
theorem dX_take_1 : decode cX_take 1 = .ok (.iload_n 1, 1) := by decide +kernel
theorem dX_take_2 : decode cX_take 2 = .ok (.invokevirtual 71, 3) := by decide +kernel
theorem dX_take_5 : decode cX_take 5 = .ok (.aload_n 0, 1) := by decide +kernel
theorem dX_take_6 : decode cX_take 6 = .ok (.invokevirtual 91, 3) := by decide +kernel
theorem dX_take_9 : decode cX_take 9 = .ok (.aload_n 0, 1) := by decide +kernel
theorem dX_take_10 : decode cX_take 10 = .ok (.iload_n 1, 1) := by decide +kernel
theorem dX_take_11 : decode cX_take 11 = .ok (.invokevirtual 94, 3) := by decide +kernel
theorem dX_take_14 : decode cX_take 14 = .ok (.aload_n 0, 1) := by decide +kernel
theorem dX_take_15 : decode cX_take 15 = .ok (.getfield 36, 3) := by decide +kernel
theorem dX_take_18 : decode cX_take 18 = .ok (.ireturn, 1) := by decide +kernel
theorem dX_step_0 : decode cX_step 0 = .ok (.aload_n 0, 1) := by decide +kernel
theorem dX_step_1 : decode cX_step 1 = .ok (.invokevirtual 91, 3) := by decide +kernel
theorem dX_step_4 : decode cX_step 4 = .ok (.aload_n 0, 1) := by decide +kernel
theorem dX_step_5 : decode cX_step 5 = .ok (.invokevirtual 97, 3) := by decide +kernel
theorem dX_step_8 : decode cX_step 8 = .ok (.istore_n 1, 1) := by decide +kernel
theorem dX_step_9 : decode cX_step 9 = .ok (.iload_n 1, 1) := by decide +kernel
theorem dX_step_10 : decode cX_step 10 = .ok (.iconst (-1), 1) := by decide +kernel
theorem dX_step_11 : decode cX_step 11 = .ok (.if_icmp .eq 8, 3) := by decide +kernel
theorem dX_step_14 : decode cX_step 14 = .ok (.aload_n 0, 1) := by decide +kernel
theorem dX_step_15 : decode cX_step 15 = .ok (.iload_n 1, 1) := by decide +kernel
theorem dX_step_16 : decode cX_step 16 = .ok (.invokevirtual 94, 3) := by decide +kernel
theorem dX_step_19 : decode cX_step 19 = .ok (.iload_n 1, 1) := by decide +kernel
theorem dX_step_20 : decode cX_step 20 = .ok (.ireturn, 1) := by decide +kernel
theorem dX_choose_0 : decode cX_choose 0 = .ok (.iload_n 1, 1) := by decide +kernel
theorem dX_choose_1 : decode cX_choose 1 = .ok (.ifCond .lt 9, 3) := by decide +kernel
theorem dX_choose_4 : decode cX_choose 4 = .ok (.iload_n 1, 1) := by decide +kernel
theorem dX_choose_5 : decode cX_choose 5 = .ok (.bipush 16, 2) := by decide +kernel
theorem dX_choose_7 : decode cX_choose 7 = .ok (.if_icmp .le 13, 3) := by decide +kernel
theorem dX_choose_10 : decode cX_choose 10 = .ok (.new 39, 3) := by decide +kernel
theorem dX_choose_13 : decode cX_choose 13 = .ok (.dup, 1) := by decide +kernel
theorem dX_choose_14 : decode cX_choose 14 = .ok (.ldc 101, 2) := by decide +kernel
theorem dX_choose_16 : decode cX_choose 16 = .ok (.invokespecial 43, 3) := by decide +kernel
theorem dX_choose_19 : decode cX_choose 19 = .ok (.athrow, 1) := by decide +kernel
theorem dX_choose_20 : decode cX_choose 20 = .ok (.aload_n 0, 1) := by decide +kernel
theorem dX_choose_21 : decode cX_choose 21 = .ok (.getfield 36, 3) := by decide +kernel
theorem dX_choose_24 : decode cX_choose 24 = .ok (.istore_n 2, 1) := by decide +kernel
theorem dX_choose_25 : decode cX_choose 25 = .ok (.iload_n 2, 1) := by decide +kernel
theorem dX_choose_26 : decode cX_choose 26 = .ok (.iload_n 1, 1) := by decide +kernel
theorem dX_choose_27 : decode cX_choose 27 = .ok (.if_icmp .ge 27, 3) := by decide +kernel
theorem dX_choose_30 : decode cX_choose 30 = .ok (.aload_n 0, 1) := by decide +kernel
theorem dX_choose_31 : decode cX_choose 31 = .ok (.invokevirtual 97, 3) := by decide +kernel
theorem dX_choose_34 : decode cX_choose 34 = .ok (.istore_n 3, 1) := by decide +kernel
theorem dX_choose_35 : decode cX_choose 35 = .ok (.iload_n 3, 1) := by decide +kernel
theorem dX_choose_36 : decode cX_choose 36 = .ok (.iconst (-1), 1) := by decide +kernel
theorem dX_choose_37 : decode cX_choose 37 = .ok (.if_icmp .ne 6, 3) := by decide +kernel
theorem dX_choose_40 : decode cX_choose 40 = .ok (.goto 14, 3) := by decide +kernel
theorem dX_choose_43 : decode cX_choose 43 = .ok (.aload_n 0, 1) := by decide +kernel
theorem dX_choose_44 : decode cX_choose 44 = .ok (.iload_n 3, 1) := by decide +kernel
theorem dX_choose_45 : decode cX_choose 45 = .ok (.invokevirtual 94, 3) := by decide +kernel
theorem dX_choose_48 : decode cX_choose 48 = .ok (.iinc 2 1, 3) := by decide +kernel
theorem dX_choose_51 : decode cX_choose 51 = .ok (.goto (-26), 3) := by decide +kernel
theorem dX_choose_54 : decode cX_choose 54 = .ok (.aload_n 0, 1) := by decide +kernel
theorem dX_choose_55 : decode cX_choose 55 = .ok (.getfield 36, 3) := by decide +kernel
theorem dX_choose_58 : decode cX_choose 58 = .ok (.ireturn, 1) := by decide +kernel
theorem dX_chosen_0 : decode cX_chosen 0 = .ok (.iload_n 1, 1) := by decide +kernel
theorem dX_chosen_1 : decode cX_chosen 1 = .ok (.ifCond .lt 11, 3) := by decide +kernel
theorem dX_chosen_4 : decode cX_chosen 4 = .ok (.iload_n 1, 1) := by decide +kernel
theorem dX_chosen_5 : decode cX_chosen 5 = .ok (.aload_n 0, 1) := by decide +kernel
theorem dX_chosen_6 : decode cX_chosen 6 = .ok (.getfield 36, 3) := by decide +kernel
theorem dX_chosen_9 : decode cX_chosen 9 = .ok (.if_icmp .lt 13, 3) := by decide +kernel
theorem dX_chosen_12 : decode cX_chosen 12 = .ok (.new 39, 3) := by decide +kernel
theorem dX_chosen_15 : decode cX_chosen 15 = .ok (.dup, 1) := by decide +kernel
theorem dX_chosen_16 : decode cX_chosen 16 = .ok (.ldc 103, 2) := by decide +kernel
theorem dX_chosen_18 : decode cX_chosen 18 = .ok (.invokespecial 43, 3) := by decide +kernel
theorem dX_chosen_21 : decode cX_chosen 21 = .ok (.athrow, 1) := by decide +kernel
theorem dX_chosen_22 : decode cX_chosen 22 = .ok (.aload_n 0, 1) := by decide +kernel
theorem dX_chosen_23 : decode cX_chosen 23 = .ok (.getfield 23, 3) := by decide +kernel
theorem dX_chosen_26 : decode cX_chosen 26 = .ok (.iload_n 1, 1) := by decide +kernel
theorem dX_chosen_27 : decode cX_chosen 27 = .ok (.iaload, 1) := by decide +kernel
theorem dX_chosen_28 : decode cX_chosen 28 = .ok (.ireturn, 1) := by decide +kernel
theorem dX_drop_0 : decode cX_drop 0 = .ok (.aload_n 0, 1) := by decide +kernel
theorem dX_drop_1 : decode cX_drop 1 = .ok (.getfield 36, 3) := by decide +kernel
theorem dX_drop_4 : decode cX_drop 4 = .ok (.istore_n 1, 1) := by decide +kernel
theorem dX_drop_5 : decode cX_drop 5 = .ok (.aload_n 0, 1) := by decide +kernel
theorem dX_drop_6 : decode cX_drop 6 = .ok (.invokevirtual 57, 3) := by decide +kernel
theorem dX_drop_9 : decode cX_drop 9 = .ok (.iload_n 1, 1) := by decide +kernel
theorem dX_drop_10 : decode cX_drop 10 = .ok (.ireturn, 1) := by decide +kernel
theorem dX_total_0 : decode cX_total 0 = .ok (.lconst 0, 1) := by decide +kernel
theorem dX_total_1 : decode cX_total 1 = .ok (.lstore_n 1, 1) := by decide +kernel
theorem dX_total_2 : decode cX_total 2 = .ok (.iconst 0, 1) := by decide +kernel
theorem dX_total_3 : decode cX_total 3 = .ok (.istore_n 3, 1) := by decide +kernel
theorem dX_total_4 : decode cX_total 4 = .ok (.iload_n 3, 1) := by decide +kernel
theorem dX_total_5 : decode cX_total 5 = .ok (.aload_n 0, 1) := by decide +kernel
theorem dX_total_6 : decode cX_total 6 = .ok (.getfield 30, 3) := by decide +kernel
theorem dX_total_9 : decode cX_total 9 = .ok (.if_icmp .ge 18, 3) := by decide +kernel
theorem dX_total_12 : decode cX_total 12 = .ok (.lload_n 1, 1) := by decide +kernel
theorem dX_total_13 : decode cX_total 13 = .ok (.aload_n 0, 1) := by decide +kernel
theorem dX_total_14 : decode cX_total 14 = .ok (.getfield 19, 3) := by decide +kernel
theorem dX_total_17 : decode cX_total 17 = .ok (.iload_n 3, 1) := by decide +kernel
theorem dX_total_18 : decode cX_total 18 = .ok (.laload, 1) := by decide +kernel
theorem dX_total_19 : decode cX_total 19 = .ok (.ladd, 1) := by decide +kernel
theorem dX_total_20 : decode cX_total 20 = .ok (.lstore_n 1, 1) := by decide +kernel
theorem dX_total_21 : decode cX_total 21 = .ok (.iinc 3 1, 3) := by decide +kernel
theorem dX_total_24 : decode cX_total 24 = .ok (.goto (-20), 3) := by decide +kernel
theorem dX_total_27 : decode cX_total 27 = .ok (.lload_n 1, 1) := by decide +kernel
theorem dX_total_28 : decode cX_total 28 = .ok (.lreturn, 1) := by decide +kernel
theorem dX_checkView_0 : decode cX_checkView 0 = .ok (.iload_n 1, 1) := by decide +kernel
theorem dX_checkView_1 : decode cX_checkView 1 = .ok (.ifCond .lt 11, 3) := by decide +kernel
theorem dX_checkView_4 : decode cX_checkView 4 = .ok (.iload_n 1, 1) := by decide +kernel
theorem dX_checkView_5 : decode cX_checkView 5 = .ok (.aload_n 0, 1) := by decide +kernel
theorem dX_checkView_6 : decode cX_checkView 6 = .ok (.getfield 30, 3) := by decide +kernel
theorem dX_checkView_9 : decode cX_checkView 9 = .ok (.if_icmp .lt 13, 3) := by decide +kernel
theorem dX_checkView_12 : decode cX_checkView 12 = .ok (.new 39, 3) := by decide +kernel
theorem dX_checkView_15 : decode cX_checkView 15 = .ok (.dup, 1) := by decide +kernel
theorem dX_checkView_16 : decode cX_checkView 16 = .ok (.ldc 105, 2) := by decide +kernel
theorem dX_checkView_18 : decode cX_checkView 18 = .ok (.invokespecial 43, 3) := by decide +kernel
theorem dX_checkView_21 : decode cX_checkView 21 = .ok (.athrow, 1) := by decide +kernel
theorem dX_checkView_22 : decode cX_checkView 22 = .ok (.return_, 1) := by decide +kernel
theorem dX_checkDimension_0 : decode cX_checkDimension 0 = .ok (.iload_n 1, 1) := by decide +kernel
theorem dX_checkDimension_1 : decode cX_checkDimension 1 = .ok (.ifCond .lt 11, 3) := by decide +kernel
theorem dX_checkDimension_4 : decode cX_checkDimension 4 = .ok (.iload_n 1, 1) := by decide +kernel
theorem dX_checkDimension_5 : decode cX_checkDimension 5 = .ok (.aload_n 0, 1) := by decide +kernel
theorem dX_checkDimension_6 : decode cX_checkDimension 6 = .ok (.getfield 26, 3) := by decide +kernel
theorem dX_checkDimension_9 : decode cX_checkDimension 9 = .ok (.if_icmp .lt 13, 3) := by decide +kernel
theorem dX_checkDimension_12 : decode cX_checkDimension 12 = .ok (.new 39, 3) := by decide +kernel
theorem dX_checkDimension_15 : decode cX_checkDimension 15 = .ok (.dup, 1) := by decide +kernel
theorem dX_checkDimension_16 : decode cX_checkDimension 16 = .ok (.ldc 107, 2) := by decide +kernel
theorem dX_checkDimension_18 : decode cX_checkDimension 18 = .ok (.invokespecial 43, 3) := by decide +kernel
theorem dX_checkDimension_21 : decode cX_checkDimension 21 = .ok (.athrow, 1) := by decide +kernel
theorem dX_checkDimension_22 : decode cX_checkDimension 22 = .ok (.return_, 1) := by decide +kernel
theorem dX_checkRoomForChosen_0 : decode cX_checkRoomForChosen 0 = .ok (.aload_n 0, 1) := by decide +kernel
theorem dX_checkRoomForChosen_1 : decode cX_checkRoomForChosen 1 = .ok (.getfield 36, 3) := by decide +kernel
theorem dX_checkRoomForChosen_4 : decode cX_checkRoomForChosen 4 = .ok (.bipush 16, 2) := by decide +kernel
theorem dX_checkRoomForChosen_6 : decode cX_checkRoomForChosen 6 = .ok (.if_icmp .lt 13, 3) := by decide +kernel
theorem dX_checkRoomForChosen_9 : decode cX_checkRoomForChosen 9 = .ok (.new 46, 3) := by decide +kernel
theorem dX_checkRoomForChosen_12 : decode cX_checkRoomForChosen 12 = .ok (.dup, 1) := by decide +kernel
theorem dX_checkRoomForChosen_13 : decode cX_checkRoomForChosen 13 = .ok (.ldc 109, 2) := by decide +kernel
theorem dX_checkRoomForChosen_15 : decode cX_checkRoomForChosen 15 = .ok (.invokespecial 50, 3) := by decide +kernel
theorem dX_checkRoomForChosen_18 : decode cX_checkRoomForChosen 18 = .ok (.athrow, 1) := by decide +kernel
theorem dX_checkRoomForChosen_19 : decode cX_checkRoomForChosen 19 = .ok (.return_, 1) := by decide +kernel
theorem dX_splitViews_0 : decode cX_splitViews 0 = .ok (.aload_n 0, 1) := by decide +kernel
theorem dX_splitViews_1 : decode cX_splitViews 1 = .ok (.getfield 30, 3) := by decide +kernel
theorem dX_splitViews_4 : decode cX_splitViews 4 = .ok (.iconst 1, 1) := by decide +kernel
theorem dX_splitViews_5 : decode cX_splitViews 5 = .ok (.isub, 1) := by decide +kernel
theorem dX_splitViews_6 : decode cX_splitViews 6 = .ok (.istore_n 3, 1) := by decide +kernel
theorem dX_splitViews_7 : decode cX_splitViews 7 = .ok (.iload_n 3, 1) := by decide +kernel
theorem dX_splitViews_8 : decode cX_splitViews 8 = .ok (.ifCond .lt 52, 3) := by decide +kernel
theorem dX_splitViews_11 : decode cX_splitViews 11 = .ok (.aload_n 0, 1) := by decide +kernel
theorem dX_splitViews_12 : decode cX_splitViews 12 = .ok (.getfield 16, 3) := by decide +kernel
theorem dX_splitViews_15 : decode cX_splitViews 15 = .ok (.iload_n 3, 1) := by decide +kernel
theorem dX_splitViews_16 : decode cX_splitViews 16 = .ok (.iaload, 1) := by decide +kernel
theorem dX_splitViews_17 : decode cX_splitViews 17 = .ok (.istore 4, 2) := by decide +kernel
theorem dX_splitViews_19 : decode cX_splitViews 19 = .ok (.iconst 0, 1) := by decide +kernel
theorem dX_splitViews_20 : decode cX_splitViews 20 = .ok (.istore 5, 2) := by decide +kernel
theorem dX_splitViews_22 : decode cX_splitViews 22 = .ok (.iload 5, 2) := by decide +kernel
theorem dX_splitViews_24 : decode cX_splitViews 24 = .ok (.iload_n 2, 1) := by decide +kernel
theorem dX_splitViews_25 : decode cX_splitViews 25 = .ok (.if_icmp .ge 29, 3) := by decide +kernel
theorem dX_splitViews_28 : decode cX_splitViews 28 = .ok (.aload_n 0, 1) := by decide +kernel
theorem dX_splitViews_29 : decode cX_splitViews 29 = .ok (.getfield 16, 3) := by decide +kernel
theorem dX_splitViews_32 : decode cX_splitViews 32 = .ok (.iload_n 3, 1) := by decide +kernel
theorem dX_splitViews_33 : decode cX_splitViews 33 = .ok (.iload_n 2, 1) := by decide +kernel
theorem dX_splitViews_34 : decode cX_splitViews 34 = .ok (.imul, 1) := by decide +kernel
theorem dX_splitViews_35 : decode cX_splitViews 35 = .ok (.iload 5, 2) := by decide +kernel
theorem dX_splitViews_37 : decode cX_splitViews 37 = .ok (.iadd, 1) := by decide +kernel
theorem dX_splitViews_38 : decode cX_splitViews 38 = .ok (.iload 4, 2) := by decide +kernel
theorem dX_splitViews_40 : decode cX_splitViews 40 = .ok (.iload 5, 2) := by decide +kernel
theorem dX_splitViews_42 : decode cX_splitViews 42 = .ok (.iload_n 1, 1) := by decide +kernel
theorem dX_splitViews_43 : decode cX_splitViews 43 = .ok (.iconst 4, 1) := by decide +kernel
theorem dX_splitViews_44 : decode cX_splitViews 44 = .ok (.imul, 1) := by decide +kernel
theorem dX_splitViews_45 : decode cX_splitViews 45 = .ok (.ishl, 1) := by decide +kernel
theorem dX_splitViews_46 : decode cX_splitViews 46 = .ok (.ior, 1) := by decide +kernel
theorem dX_splitViews_47 : decode cX_splitViews 47 = .ok (.iastore, 1) := by decide +kernel
theorem dX_splitViews_48 : decode cX_splitViews 48 = .ok (.iinc 5 1, 3) := by decide +kernel
theorem dX_splitViews_51 : decode cX_splitViews 51 = .ok (.goto (-29), 3) := by decide +kernel
theorem dX_splitViews_54 : decode cX_splitViews 54 = .ok (.iinc 3 (-1), 3) := by decide +kernel
theorem dX_splitViews_57 : decode cX_splitViews 57 = .ok (.goto (-50), 3) := by decide +kernel
theorem dX_splitViews_60 : decode cX_splitViews 60 = .ok (.aload_n 0, 1) := by decide +kernel
theorem dX_splitViews_61 : decode cX_splitViews 61 = .ok (.aload_n 0, 1) := by decide +kernel
theorem dX_splitViews_62 : decode cX_splitViews 62 = .ok (.getfield 30, 3) := by decide +kernel
theorem dX_splitViews_65 : decode cX_splitViews 65 = .ok (.iload_n 2, 1) := by decide +kernel
theorem dX_splitViews_66 : decode cX_splitViews 66 = .ok (.imul, 1) := by decide +kernel
theorem dX_splitViews_67 : decode cX_splitViews 67 = .ok (.putfield 30, 3) := by decide +kernel
theorem dX_splitViews_70 : decode cX_splitViews 70 = .ok (.return_, 1) := by decide +kernel
theorem dX_forgetChosen_0 : decode cX_forgetChosen 0 = .ok (.aload_n 0, 1) := by decide +kernel
theorem dX_forgetChosen_1 : decode cX_forgetChosen 1 = .ok (.iconst 0, 1) := by decide +kernel
theorem dX_forgetChosen_2 : decode cX_forgetChosen 2 = .ok (.putfield 36, 3) := by decide +kernel
theorem dX_forgetChosen_5 : decode cX_forgetChosen 5 = .ok (.aload_n 0, 1) := by decide +kernel
theorem dX_forgetChosen_6 : decode cX_forgetChosen 6 = .ok (.getfield 19, 3) := by decide +kernel
theorem dX_forgetChosen_9 : decode cX_forgetChosen 9 = .ok (.aload_n 0, 1) := by decide +kernel
theorem dX_forgetChosen_10 : decode cX_forgetChosen 10 = .ok (.getfield 33, 3) := by decide +kernel
theorem dX_forgetChosen_13 : decode cX_forgetChosen 13 = .ok (.i2l, 1) := by decide +kernel
theorem dX_forgetChosen_14 : decode cX_forgetChosen 14 = .ok (.invokestatic 111, 3) := by decide +kernel
theorem dX_forgetChosen_17 : decode cX_forgetChosen 17 = .ok (.return_, 1) := by decide +kernel
theorem dX_addChosen_0 : decode cX_addChosen 0 = .ok (.aload_n 0, 1) := by decide +kernel
theorem dX_addChosen_1 : decode cX_addChosen 1 = .ok (.getfield 23, 3) := by decide +kernel
theorem dX_addChosen_4 : decode cX_addChosen 4 = .ok (.aload_n 0, 1) := by decide +kernel
theorem dX_addChosen_5 : decode cX_addChosen 5 = .ok (.getfield 36, 3) := by decide +kernel
theorem dX_addChosen_8 : decode cX_addChosen 8 = .ok (.iload_n 1, 1) := by decide +kernel
theorem dX_addChosen_9 : decode cX_addChosen 9 = .ok (.iastore, 1) := by decide +kernel
theorem dX_addChosen_10 : decode cX_addChosen 10 = .ok (.aload_n 0, 1) := by decide +kernel
theorem dX_addChosen_11 : decode cX_addChosen 11 = .ok (.dup, 1) := by decide +kernel
theorem dX_addChosen_12 : decode cX_addChosen 12 = .ok (.getfield 36, 3) := by decide +kernel
theorem dX_addChosen_15 : decode cX_addChosen 15 = .ok (.iconst 1, 1) := by decide +kernel
theorem dX_addChosen_16 : decode cX_addChosen 16 = .ok (.iadd, 1) := by decide +kernel
theorem dX_addChosen_17 : decode cX_addChosen 17 = .ok (.putfield 36, 3) := by decide +kernel
theorem dX_addChosen_20 : decode cX_addChosen 20 = .ok (.aload_n 0, 1) := by decide +kernel
theorem dX_addChosen_21 : decode cX_addChosen 21 = .ok (.iload_n 1, 1) := by decide +kernel
theorem dX_addChosen_22 : decode cX_addChosen 22 = .ok (.invokevirtual 82, 3) := by decide +kernel
theorem dX_addChosen_25 : decode cX_addChosen 25 = .ok (.lstore_n 2, 1) := by decide +kernel
theorem dX_addChosen_26 : decode cX_addChosen 26 = .ok (.aload_n 0, 1) := by decide +kernel
theorem dX_addChosen_27 : decode cX_addChosen 27 = .ok (.getfield 16, 3) := by decide +kernel
theorem dX_addChosen_30 : decode cX_addChosen 30 = .ok (.iload_n 1, 1) := by decide +kernel
theorem dX_addChosen_31 : decode cX_addChosen 31 = .ok (.iaload, 1) := by decide +kernel
theorem dX_addChosen_32 : decode cX_addChosen 32 = .ok (.istore 4, 2) := by decide +kernel
theorem dX_addChosen_34 : decode cX_addChosen 34 = .ok (.iload_n 1, 1) := by decide +kernel
theorem dX_addChosen_35 : decode cX_addChosen 35 = .ok (.istore 5, 2) := by decide +kernel
theorem dX_addChosen_37 : decode cX_addChosen 37 = .ok (.iload 5, 2) := by decide +kernel
theorem dX_addChosen_39 : decode cX_addChosen 39 = .ok (.aload_n 0, 1) := by decide +kernel
theorem dX_addChosen_40 : decode cX_addChosen 40 = .ok (.getfield 30, 3) := by decide +kernel
theorem dX_addChosen_43 : decode cX_addChosen 43 = .ok (.if_icmp .ge 44, 3) := by decide +kernel
theorem dX_addChosen_46 : decode cX_addChosen 46 = .ok (.aload_n 0, 1) := by decide +kernel
theorem dX_addChosen_47 : decode cX_addChosen 47 = .ok (.getfield 19, 3) := by decide +kernel
theorem dX_addChosen_50 : decode cX_addChosen 50 = .ok (.iload 5, 2) := by decide +kernel
theorem dX_addChosen_52 : decode cX_addChosen 52 = .ok (.laload, 1) := by decide +kernel
theorem dX_addChosen_53 : decode cX_addChosen 53 = .ok (.lload_n 2, 1) := by decide +kernel
theorem dX_addChosen_54 : decode cX_addChosen 54 = .ok (.lcmp, 1) := by decide +kernel
theorem dX_addChosen_55 : decode cX_addChosen 55 = .ok (.ifCond .le 26, 3) := by decide +kernel
theorem dX_addChosen_58 : decode cX_addChosen 58 = .ok (.iload 4, 2) := by decide +kernel
theorem dX_addChosen_60 : decode cX_addChosen 60 = .ok (.aload_n 0, 1) := by decide +kernel
theorem dX_addChosen_61 : decode cX_addChosen 61 = .ok (.getfield 16, 3) := by decide +kernel
theorem dX_addChosen_64 : decode cX_addChosen 64 = .ok (.iload 5, 2) := by decide +kernel
theorem dX_addChosen_66 : decode cX_addChosen 66 = .ok (.iaload, 1) := by decide +kernel
theorem dX_addChosen_67 : decode cX_addChosen 67 = .ok (.invokestatic 78, 3) := by decide +kernel
theorem dX_addChosen_70 : decode cX_addChosen 70 = .ok (.ifCond .eq 11, 3) := by decide +kernel
theorem dX_addChosen_73 : decode cX_addChosen 73 = .ok (.aload_n 0, 1) := by decide +kernel
theorem dX_addChosen_74 : decode cX_addChosen 74 = .ok (.getfield 19, 3) := by decide +kernel
theorem dX_addChosen_77 : decode cX_addChosen 77 = .ok (.iload 5, 2) := by decide +kernel
theorem dX_addChosen_79 : decode cX_addChosen 79 = .ok (.lload_n 2, 1) := by decide +kernel
theorem dX_addChosen_80 : decode cX_addChosen 80 = .ok (.lastore, 1) := by decide +kernel
theorem dX_addChosen_81 : decode cX_addChosen 81 = .ok (.iinc 5 1, 3) := by decide +kernel
theorem dX_addChosen_84 : decode cX_addChosen 84 = .ok (.goto (-47), 3) := by decide +kernel
theorem dX_addChosen_87 : decode cX_addChosen 87 = .ok (.return_, 1) := by decide +kernel
theorem dX_mostBeneficial_0 : decode cX_mostBeneficial 0 = .ok (.iconst (-1), 1) := by decide +kernel
theorem dX_mostBeneficial_1 : decode cX_mostBeneficial 1 = .ok (.istore_n 1, 1) := by decide +kernel
theorem dX_mostBeneficial_2 : decode cX_mostBeneficial 2 = .ok (.lconst 0, 1) := by decide +kernel
theorem dX_mostBeneficial_3 : decode cX_mostBeneficial 3 = .ok (.lstore_n 2, 1) := by decide +kernel
theorem dX_mostBeneficial_4 : decode cX_mostBeneficial 4 = .ok (.iconst 0, 1) := by decide +kernel
theorem dX_mostBeneficial_5 : decode cX_mostBeneficial 5 = .ok (.istore 4, 2) := by decide +kernel
theorem dX_mostBeneficial_7 : decode cX_mostBeneficial 7 = .ok (.iload 4, 2) := by decide +kernel
theorem dX_mostBeneficial_9 : decode cX_mostBeneficial 9 = .ok (.aload_n 0, 1) := by decide +kernel
theorem dX_mostBeneficial_10 : decode cX_mostBeneficial 10 = .ok (.getfield 30, 3) := by decide +kernel
theorem dX_mostBeneficial_13 : decode cX_mostBeneficial 13 = .ok (.if_icmp .ge 30, 3) := by decide +kernel
theorem dX_mostBeneficial_16 : decode cX_mostBeneficial 16 = .ok (.aload_n 0, 1) := by decide +kernel
theorem dX_mostBeneficial_17 : decode cX_mostBeneficial 17 = .ok (.iload 4, 2) := by decide +kernel
theorem dX_mostBeneficial_19 : decode cX_mostBeneficial 19 = .ok (.invokevirtual 86, 3) := by decide +kernel
theorem dX_mostBeneficial_22 : decode cX_mostBeneficial 22 = .ok (.lstore 5, 2) := by decide +kernel
theorem dX_mostBeneficial_24 : decode cX_mostBeneficial 24 = .ok (.lload 5, 2) := by decide +kernel
theorem dX_mostBeneficial_26 : decode cX_mostBeneficial 26 = .ok (.lload_n 2, 1) := by decide +kernel
theorem dX_mostBeneficial_27 : decode cX_mostBeneficial 27 = .ok (.lcmp, 1) := by decide +kernel
theorem dX_mostBeneficial_28 : decode cX_mostBeneficial 28 = .ok (.ifCond .le 9, 3) := by decide +kernel
theorem dX_mostBeneficial_31 : decode cX_mostBeneficial 31 = .ok (.lload 5, 2) := by decide +kernel
theorem dX_mostBeneficial_33 : decode cX_mostBeneficial 33 = .ok (.lstore_n 2, 1) := by decide +kernel
theorem dX_mostBeneficial_34 : decode cX_mostBeneficial 34 = .ok (.iload 4, 2) := by decide +kernel
theorem dX_mostBeneficial_36 : decode cX_mostBeneficial 36 = .ok (.istore_n 1, 1) := by decide +kernel
theorem dX_mostBeneficial_37 : decode cX_mostBeneficial 37 = .ok (.iinc 4 1, 3) := by decide +kernel
theorem dX_mostBeneficial_40 : decode cX_mostBeneficial 40 = .ok (.goto (-33), 3) := by decide +kernel
theorem dX_mostBeneficial_43 : decode cX_mostBeneficial 43 = .ok (.iload_n 1, 1) := by decide +kernel
theorem dX_mostBeneficial_44 : decode cX_mostBeneficial 44 = .ok (.ireturn, 1) := by decide +kernel
theorem dX_benefitOf_0 : decode cX_benefitOf 0 = .ok (.aload_n 0, 1) := by decide +kernel
theorem dX_benefitOf_1 : decode cX_benefitOf 1 = .ok (.iload_n 1, 1) := by decide +kernel
theorem dX_benefitOf_2 : decode cX_benefitOf 2 = .ok (.invokevirtual 82, 3) := by decide +kernel
theorem dX_benefitOf_5 : decode cX_benefitOf 5 = .ok (.lstore_n 2, 1) := by decide +kernel
theorem dX_benefitOf_6 : decode cX_benefitOf 6 = .ok (.aload_n 0, 1) := by decide +kernel
theorem dX_benefitOf_7 : decode cX_benefitOf 7 = .ok (.getfield 16, 3) := by decide +kernel
theorem dX_benefitOf_10 : decode cX_benefitOf 10 = .ok (.iload_n 1, 1) := by decide +kernel
theorem dX_benefitOf_11 : decode cX_benefitOf 11 = .ok (.iaload, 1) := by decide +kernel
theorem dX_benefitOf_12 : decode cX_benefitOf 12 = .ok (.istore 4, 2) := by decide +kernel
theorem dX_benefitOf_14 : decode cX_benefitOf 14 = .ok (.lconst 0, 1) := by decide +kernel
theorem dX_benefitOf_15 : decode cX_benefitOf 15 = .ok (.lstore 5, 2) := by decide +kernel
theorem dX_benefitOf_17 : decode cX_benefitOf 17 = .ok (.iload_n 1, 1) := by decide +kernel
theorem dX_benefitOf_18 : decode cX_benefitOf 18 = .ok (.istore 7, 2) := by decide +kernel
theorem dX_benefitOf_20 : decode cX_benefitOf 20 = .ok (.iload 7, 2) := by decide +kernel
theorem dX_benefitOf_22 : decode cX_benefitOf 22 = .ok (.aload_n 0, 1) := by decide +kernel
theorem dX_benefitOf_23 : decode cX_benefitOf 23 = .ok (.getfield 30, 3) := by decide +kernel
theorem dX_benefitOf_26 : decode cX_benefitOf 26 = .ok (.if_icmp .ge 50, 3) := by decide +kernel
theorem dX_benefitOf_29 : decode cX_benefitOf 29 = .ok (.aload_n 0, 1) := by decide +kernel
theorem dX_benefitOf_30 : decode cX_benefitOf 30 = .ok (.getfield 19, 3) := by decide +kernel
theorem dX_benefitOf_33 : decode cX_benefitOf 33 = .ok (.iload 7, 2) := by decide +kernel
theorem dX_benefitOf_35 : decode cX_benefitOf 35 = .ok (.laload, 1) := by decide +kernel
theorem dX_benefitOf_36 : decode cX_benefitOf 36 = .ok (.lload_n 2, 1) := by decide +kernel
theorem dX_benefitOf_37 : decode cX_benefitOf 37 = .ok (.lcmp, 1) := by decide +kernel
theorem dX_benefitOf_38 : decode cX_benefitOf 38 = .ok (.ifCond .le 32, 3) := by decide +kernel
theorem dX_benefitOf_41 : decode cX_benefitOf 41 = .ok (.iload 4, 2) := by decide +kernel
theorem dX_benefitOf_43 : decode cX_benefitOf 43 = .ok (.aload_n 0, 1) := by decide +kernel
theorem dX_benefitOf_44 : decode cX_benefitOf 44 = .ok (.getfield 16, 3) := by decide +kernel
theorem dX_benefitOf_47 : decode cX_benefitOf 47 = .ok (.iload 7, 2) := by decide +kernel
theorem dX_benefitOf_49 : decode cX_benefitOf 49 = .ok (.iaload, 1) := by decide +kernel
theorem dX_benefitOf_50 : decode cX_benefitOf 50 = .ok (.invokestatic 78, 3) := by decide +kernel
theorem dX_benefitOf_53 : decode cX_benefitOf 53 = .ok (.ifCond .eq 17, 3) := by decide +kernel
theorem dX_benefitOf_56 : decode cX_benefitOf 56 = .ok (.lload 5, 2) := by decide +kernel
theorem dX_benefitOf_58 : decode cX_benefitOf 58 = .ok (.aload_n 0, 1) := by decide +kernel
theorem dX_benefitOf_59 : decode cX_benefitOf 59 = .ok (.getfield 19, 3) := by decide +kernel
theorem dX_benefitOf_62 : decode cX_benefitOf 62 = .ok (.iload 7, 2) := by decide +kernel
theorem dX_benefitOf_64 : decode cX_benefitOf 64 = .ok (.laload, 1) := by decide +kernel
theorem dX_benefitOf_65 : decode cX_benefitOf 65 = .ok (.lload_n 2, 1) := by decide +kernel
theorem dX_benefitOf_66 : decode cX_benefitOf 66 = .ok (.lsub, 1) := by decide +kernel
theorem dX_benefitOf_67 : decode cX_benefitOf 67 = .ok (.ladd, 1) := by decide +kernel
theorem dX_benefitOf_68 : decode cX_benefitOf 68 = .ok (.lstore 5, 2) := by decide +kernel
theorem dX_benefitOf_70 : decode cX_benefitOf 70 = .ok (.iinc 7 1, 3) := by decide +kernel
theorem dX_benefitOf_73 : decode cX_benefitOf 73 = .ok (.goto (-53), 3) := by decide +kernel
theorem dX_benefitOf_76 : decode cX_benefitOf 76 = .ok (.lload 5, 2) := by decide +kernel
theorem dX_benefitOf_78 : decode cX_benefitOf 78 = .ok (.lreturn, 1) := by decide +kernel
theorem dX_estimateOf_0 : decode cX_estimateOf 0 = .ok (.aload_n 0, 1) := by decide +kernel
theorem dX_estimateOf_1 : decode cX_estimateOf 1 = .ok (.getfield 16, 3) := by decide +kernel
theorem dX_estimateOf_4 : decode cX_estimateOf 4 = .ok (.iload_n 1, 1) := by decide +kernel
theorem dX_estimateOf_5 : decode cX_estimateOf 5 = .ok (.iaload, 1) := by decide +kernel
theorem dX_estimateOf_6 : decode cX_estimateOf 6 = .ok (.istore_n 2, 1) := by decide +kernel
theorem dX_estimateOf_7 : decode cX_estimateOf 7 = .ok (.iconst 1, 1) := by decide +kernel
theorem dX_estimateOf_8 : decode cX_estimateOf 8 = .ok (.aload_n 0, 1) := by decide +kernel
theorem dX_estimateOf_9 : decode cX_estimateOf 9 = .ok (.getfield 33, 3) := by decide +kernel
theorem dX_estimateOf_12 : decode cX_estimateOf 12 = .ok (.invokestatic 117, 3) := by decide +kernel
theorem dX_estimateOf_15 : decode cX_estimateOf 15 = .ok (.i2l, 1) := by decide +kernel
theorem dX_estimateOf_16 : decode cX_estimateOf 16 = .ok (.lstore_n 3, 1) := by decide +kernel
theorem dX_estimateOf_17 : decode cX_estimateOf 17 = .ok (.iconst 0, 1) := by decide +kernel
theorem dX_estimateOf_18 : decode cX_estimateOf 18 = .ok (.istore 5, 2) := by decide +kernel
theorem dX_estimateOf_20 : decode cX_estimateOf 20 = .ok (.iload 5, 2) := by decide +kernel
theorem dX_estimateOf_22 : decode cX_estimateOf 22 = .ok (.aload_n 0, 1) := by decide +kernel
theorem dX_estimateOf_23 : decode cX_estimateOf 23 = .ok (.getfield 26, 3) := by decide +kernel
theorem dX_estimateOf_26 : decode cX_estimateOf 26 = .ok (.if_icmp .ge 53, 3) := by decide +kernel
theorem dX_estimateOf_29 : decode cX_estimateOf 29 = .ok (.iload_n 2, 1) := by decide +kernel
theorem dX_estimateOf_30 : decode cX_estimateOf 30 = .ok (.iload 5, 2) := by decide +kernel
theorem dX_estimateOf_32 : decode cX_estimateOf 32 = .ok (.invokestatic 74, 3) := by decide +kernel
theorem dX_estimateOf_35 : decode cX_estimateOf 35 = .ok (.istore 6, 2) := by decide +kernel
theorem dX_estimateOf_37 : decode cX_estimateOf 37 = .ok (.iload 6, 2) := by decide +kernel
theorem dX_estimateOf_39 : decode cX_estimateOf 39 = .ok (.aload_n 0, 1) := by decide +kernel
theorem dX_estimateOf_40 : decode cX_estimateOf 40 = .ok (.getfield 9, 3) := by decide +kernel
theorem dX_estimateOf_43 : decode cX_estimateOf 43 = .ok (.iload 5, 2) := by decide +kernel
theorem dX_estimateOf_45 : decode cX_estimateOf 45 = .ok (.iaload, 1) := by decide +kernel
theorem dX_estimateOf_46 : decode cX_estimateOf 46 = .ok (.if_icmp .ge 27, 3) := by decide +kernel
theorem dX_estimateOf_49 : decode cX_estimateOf 49 = .ok (.lload_n 3, 1) := by decide +kernel
theorem dX_estimateOf_50 : decode cX_estimateOf 50 = .ok (.aload_n 0, 1) := by decide +kernel
theorem dX_estimateOf_51 : decode cX_estimateOf 51 = .ok (.getfield 13, 3) := by decide +kernel
theorem dX_estimateOf_54 : decode cX_estimateOf 54 = .ok (.iload 5, 2) := by decide +kernel
theorem dX_estimateOf_56 : decode cX_estimateOf 56 = .ok (.iconst 4, 1) := by decide +kernel
theorem dX_estimateOf_57 : decode cX_estimateOf 57 = .ok (.imul, 1) := by decide +kernel
theorem dX_estimateOf_58 : decode cX_estimateOf 58 = .ok (.iload 6, 2) := by decide +kernel
theorem dX_estimateOf_60 : decode cX_estimateOf 60 = .ok (.iadd, 1) := by decide +kernel
theorem dX_estimateOf_61 : decode cX_estimateOf 61 = .ok (.iaload, 1) := by decide +kernel
theorem dX_estimateOf_62 : decode cX_estimateOf 62 = .ok (.i2l, 1) := by decide +kernel
theorem dX_estimateOf_63 : decode cX_estimateOf 63 = .ok (.lmul, 1) := by decide +kernel
theorem dX_estimateOf_64 : decode cX_estimateOf 64 = .ok (.aload_n 0, 1) := by decide +kernel
theorem dX_estimateOf_65 : decode cX_estimateOf 65 = .ok (.getfield 33, 3) := by decide +kernel
theorem dX_estimateOf_68 : decode cX_estimateOf 68 = .ok (.i2l, 1) := by decide +kernel
theorem dX_estimateOf_69 : decode cX_estimateOf 69 = .ok (.invokestatic 122, 3) := by decide +kernel
theorem dX_estimateOf_72 : decode cX_estimateOf 72 = .ok (.lstore_n 3, 1) := by decide +kernel
theorem dX_estimateOf_73 : decode cX_estimateOf 73 = .ok (.iinc 5 1, 3) := by decide +kernel
theorem dX_estimateOf_76 : decode cX_estimateOf 76 = .ok (.goto (-56), 3) := by decide +kernel
theorem dX_estimateOf_79 : decode cX_estimateOf 79 = .ok (.lload_n 3, 1) := by decide +kernel
theorem dX_estimateOf_80 : decode cX_estimateOf 80 = .ok (.lreturn, 1) := by decide +kernel
theorem dX_unpackDigit_0 : decode cX_unpackDigit 0 = .ok (.iload_n 0, 1) := by decide +kernel
theorem dX_unpackDigit_1 : decode cX_unpackDigit 1 = .ok (.iload_n 1, 1) := by decide +kernel
theorem dX_unpackDigit_2 : decode cX_unpackDigit 2 = .ok (.iconst 4, 1) := by decide +kernel
theorem dX_unpackDigit_3 : decode cX_unpackDigit 3 = .ok (.imul, 1) := by decide +kernel
theorem dX_unpackDigit_4 : decode cX_unpackDigit 4 = .ok (.iushr, 1) := by decide +kernel
theorem dX_unpackDigit_5 : decode cX_unpackDigit 5 = .ok (.bipush 15, 2) := by decide +kernel
theorem dX_unpackDigit_7 : decode cX_unpackDigit 7 = .ok (.iand, 1) := by decide +kernel
theorem dX_unpackDigit_8 : decode cX_unpackDigit 8 = .ok (.ireturn, 1) := by decide +kernel
theorem dX_isAbovePacked_0 : decode cX_isAbovePacked 0 = .ok (.iload_n 1, 1) := by decide +kernel
theorem dX_isAbovePacked_1 : decode cX_isAbovePacked 1 = .ok (.ldc 125, 2) := by decide +kernel
theorem dX_isAbovePacked_3 : decode cX_isAbovePacked 3 = .ok (.ior, 1) := by decide +kernel
theorem dX_isAbovePacked_4 : decode cX_isAbovePacked 4 = .ok (.iload_n 0, 1) := by decide +kernel
theorem dX_isAbovePacked_5 : decode cX_isAbovePacked 5 = .ok (.isub, 1) := by decide +kernel
theorem dX_isAbovePacked_6 : decode cX_isAbovePacked 6 = .ok (.ldc 125, 2) := by decide +kernel
theorem dX_isAbovePacked_8 : decode cX_isAbovePacked 8 = .ok (.iand, 1) := by decide +kernel
theorem dX_isAbovePacked_9 : decode cX_isAbovePacked 9 = .ok (.ldc 125, 2) := by decide +kernel
theorem dX_isAbovePacked_11 : decode cX_isAbovePacked 11 = .ok (.if_icmp .ne 7, 3) := by decide +kernel
theorem dX_isAbovePacked_14 : decode cX_isAbovePacked 14 = .ok (.iconst 1, 1) := by decide +kernel
theorem dX_isAbovePacked_15 : decode cX_isAbovePacked 15 = .ok (.goto 4, 3) := by decide +kernel
theorem dX_isAbovePacked_18 : decode cX_isAbovePacked 18 = .ok (.iconst 0, 1) := by decide +kernel
theorem dX_isAbovePacked_19 : decode cX_isAbovePacked 19 = .ok (.ireturn, 1) := by decide +kernel
theorem dA_fill_0 : decode cA_fill 0 = .ok (.iconst 0, 1) := by decide +kernel
theorem dA_fill_1 : decode cA_fill 1 = .ok (.istore_n 3, 1) := by decide +kernel
theorem dA_fill_2 : decode cA_fill 2 = .ok (.aload_n 0, 1) := by decide +kernel
theorem dA_fill_3 : decode cA_fill 3 = .ok (.arraylength, 1) := by decide +kernel
theorem dA_fill_4 : decode cA_fill 4 = .ok (.istore 4, 2) := by decide +kernel
theorem dA_fill_6 : decode cA_fill 6 = .ok (.iload_n 3, 1) := by decide +kernel
theorem dA_fill_7 : decode cA_fill 7 = .ok (.iload 4, 2) := by decide +kernel
theorem dA_fill_9 : decode cA_fill 9 = .ok (.if_icmp .ge 13, 3) := by decide +kernel
theorem dA_fill_12 : decode cA_fill 12 = .ok (.aload_n 0, 1) := by decide +kernel
theorem dA_fill_13 : decode cA_fill 13 = .ok (.iload_n 3, 1) := by decide +kernel
theorem dA_fill_14 : decode cA_fill 14 = .ok (.lload_n 1, 1) := by decide +kernel
theorem dA_fill_15 : decode cA_fill 15 = .ok (.lastore, 1) := by decide +kernel
theorem dA_fill_16 : decode cA_fill 16 = .ok (.iinc 3 1, 3) := by decide +kernel
theorem dA_fill_19 : decode cA_fill 19 = .ok (.goto (-13), 3) := by decide +kernel
theorem dA_fill_22 : decode cA_fill 22 = .ok (.return_, 1) := by decide +kernel
end
section
/-! decode rows: by program -/
theorem dM_init_0 : decode cM_init 0 = .ok (.aload_n 0, 1) := by decide +kernel
theorem dM_init_1 : decode cM_init 1 = .ok (.invokespecial 1, 3) := by decide +kernel
theorem dM_init_4 : decode cM_init 4 = .ok (.aload_n 0, 1) := by decide +kernel
theorem dM_init_5 : decode cM_init 5 = .ok (.bipush 8, 2) := by decide +kernel
theorem dM_init_7 : decode cM_init 7 = .ok (.newarray .int, 2) := by decide +kernel
theorem dM_init_9 : decode cM_init 9 = .ok (.putfield 7, 3) := by decide +kernel
theorem dM_init_12 : decode cM_init 12 = .ok (.aload_n 0, 1) := by decide +kernel
theorem dM_init_13 : decode cM_init 13 = .ok (.bipush 32, 2) := by decide +kernel
theorem dM_init_15 : decode cM_init 15 = .ok (.newarray .int, 2) := by decide +kernel
theorem dM_init_17 : decode cM_init 17 = .ok (.putfield 13, 3) := by decide +kernel
theorem dM_init_20 : decode cM_init 20 = .ok (.aload_n 0, 1) := by decide +kernel
theorem dM_init_21 : decode cM_init 21 = .ok (.iconst 1, 1) := by decide +kernel
theorem dM_init_22 : decode cM_init 22 = .ok (.putfield 16, 3) := by decide +kernel
theorem dM_init_25 : decode cM_init 25 = .ok (.aload_n 0, 1) := by decide +kernel
theorem dM_init_26 : decode cM_init 26 = .ok (.bipush 16, 2) := by decide +kernel
theorem dM_init_28 : decode cM_init 28 = .ok (.newarray .int, 2) := by decide +kernel
theorem dM_init_30 : decode cM_init 30 = .ok (.putfield 20, 3) := by decide +kernel
theorem dM_init_33 : decode cM_init 33 = .ok (.aload_n 0, 1) := by decide +kernel
theorem dM_init_34 : decode cM_init 34 = .ok (.sipush 4096, 3) := by decide +kernel
theorem dM_init_37 : decode cM_init 37 = .ok (.newarray .byte, 2) := by decide +kernel
theorem dM_init_39 : decode cM_init 39 = .ok (.putfield 23, 3) := by decide +kernel
theorem dM_init_42 : decode cM_init 42 = .ok (.aload_n 0, 1) := by decide +kernel
theorem dM_init_43 : decode cM_init 43 = .ok (.sipush 512, 3) := by decide +kernel
theorem dM_init_46 : decode cM_init 46 = .ok (.newarray .long, 2) := by decide +kernel
theorem dM_init_48 : decode cM_init 48 = .ok (.putfield 27, 3) := by decide +kernel
theorem dM_init_51 : decode cM_init 51 = .ok (.aload_n 0, 1) := by decide +kernel
theorem dM_init_52 : decode cM_init 52 = .ok (.sipush 512, 3) := by decide +kernel
theorem dM_init_55 : decode cM_init 55 = .ok (.newarray .long, 2) := by decide +kernel
theorem dM_init_57 : decode cM_init 57 = .ok (.putfield 31, 3) := by decide +kernel
theorem dM_init_60 : decode cM_init 60 = .ok (.return_, 1) := by decide +kernel
theorem dM_thrown_0 : decode cM_thrown 0 = .ok (.aload_n 0, 1) := by decide +kernel
theorem dM_thrown_1 : decode cM_thrown 1 = .ok (.getfield 34, 3) := by decide +kernel
theorem dM_thrown_4 : decode cM_thrown 4 = .ok (.ireturn, 1) := by decide +kernel
theorem dM_dimension_0 : decode cM_dimension 0 = .ok (.aload_n 0, 1) := by decide +kernel
theorem dM_dimension_1 : decode cM_dimension 1 = .ok (.iload_n 1, 1) := by decide +kernel
theorem dM_dimension_2 : decode cM_dimension 2 = .ok (.iconst 1, 1) := by decide +kernel
theorem dM_dimension_3 : decode cM_dimension 3 = .ok (.if_icmp .lt 8, 3) := by decide +kernel
theorem dM_dimension_6 : decode cM_dimension 6 = .ok (.iload_n 1, 1) := by decide +kernel
theorem dM_dimension_7 : decode cM_dimension 7 = .ok (.iconst 4, 1) := by decide +kernel
theorem dM_dimension_8 : decode cM_dimension 8 = .ok (.if_icmp .le 7, 3) := by decide +kernel
theorem dM_dimension_11 : decode cM_dimension 11 = .ok (.iconst 1, 1) := by decide +kernel
theorem dM_dimension_12 : decode cM_dimension 12 = .ok (.goto 31, 3) := by decide +kernel
theorem dM_dimension_15 : decode cM_dimension 15 = .ok (.aload_n 0, 1) := by decide +kernel
theorem dM_dimension_16 : decode cM_dimension 16 = .ok (.getfield 37, 3) := by decide +kernel
theorem dM_dimension_19 : decode cM_dimension 19 = .ok (.bipush 8, 2) := by decide +kernel
theorem dM_dimension_21 : decode cM_dimension 21 = .ok (.if_icmp .eq 17, 3) := by decide +kernel
theorem dM_dimension_24 : decode cM_dimension 24 = .ok (.aload_n 0, 1) := by decide +kernel
theorem dM_dimension_25 : decode cM_dimension 25 = .ok (.getfield 16, 3) := by decide +kernel
theorem dM_dimension_28 : decode cM_dimension 28 = .ok (.iload_n 1, 1) := by decide +kernel
theorem dM_dimension_29 : decode cM_dimension 29 = .ok (.iconst 1, 1) := by decide +kernel
theorem dM_dimension_30 : decode cM_dimension 30 = .ok (.iadd, 1) := by decide +kernel
theorem dM_dimension_31 : decode cM_dimension 31 = .ok (.imul, 1) := by decide +kernel
theorem dM_dimension_32 : decode cM_dimension 32 = .ok (.sipush 512, 3) := by decide +kernel
theorem dM_dimension_35 : decode cM_dimension 35 = .ok (.if_icmp .le 7, 3) := by decide +kernel
theorem dM_dimension_38 : decode cM_dimension 38 = .ok (.iconst 2, 1) := by decide +kernel
theorem dM_dimension_39 : decode cM_dimension 39 = .ok (.goto 4, 3) := by decide +kernel
theorem dM_dimension_42 : decode cM_dimension 42 = .ok (.iconst 0, 1) := by decide +kernel
theorem dM_dimension_43 : decode cM_dimension 43 = .ok (.putfield 34, 3) := by decide +kernel
theorem dM_dimension_46 : decode cM_dimension 46 = .ok (.aload_n 0, 1) := by decide +kernel
theorem dM_dimension_47 : decode cM_dimension 47 = .ok (.getfield 34, 3) := by decide +kernel
theorem dM_dimension_50 : decode cM_dimension 50 = .ok (.ifCond .le 5, 3) := by decide +kernel
theorem dM_dimension_53 : decode cM_dimension 53 = .ok (.iconst 0, 1) := by decide +kernel
theorem dM_dimension_54 : decode cM_dimension 54 = .ok (.ireturn, 1) := by decide +kernel
theorem dM_dimension_55 : decode cM_dimension 55 = .ok (.aload_n 0, 1) := by decide +kernel
theorem dM_dimension_56 : decode cM_dimension 56 = .ok (.getfield 7, 3) := by decide +kernel
theorem dM_dimension_59 : decode cM_dimension 59 = .ok (.aload_n 0, 1) := by decide +kernel
theorem dM_dimension_60 : decode cM_dimension 60 = .ok (.getfield 37, 3) := by decide +kernel
theorem dM_dimension_63 : decode cM_dimension 63 = .ok (.iload_n 1, 1) := by decide +kernel
theorem dM_dimension_64 : decode cM_dimension 64 = .ok (.iastore, 1) := by decide +kernel
theorem dM_dimension_65 : decode cM_dimension 65 = .ok (.iconst 0, 1) := by decide +kernel
theorem dM_dimension_66 : decode cM_dimension 66 = .ok (.istore_n 2, 1) := by decide +kernel
theorem dM_dimension_67 : decode cM_dimension 67 = .ok (.iload_n 2, 1) := by decide +kernel
theorem dM_dimension_68 : decode cM_dimension 68 = .ok (.iload_n 1, 1) := by decide +kernel
theorem dM_dimension_69 : decode cM_dimension 69 = .ok (.if_icmp .ge 23, 3) := by decide +kernel
theorem dM_dimension_72 : decode cM_dimension 72 = .ok (.aload_n 0, 1) := by decide +kernel
theorem dM_dimension_73 : decode cM_dimension 73 = .ok (.getfield 13, 3) := by decide +kernel
theorem dM_dimension_76 : decode cM_dimension 76 = .ok (.iconst 4, 1) := by decide +kernel
theorem dM_dimension_77 : decode cM_dimension 77 = .ok (.aload_n 0, 1) := by decide +kernel
theorem dM_dimension_78 : decode cM_dimension 78 = .ok (.getfield 37, 3) := by decide +kernel
theorem dM_dimension_81 : decode cM_dimension 81 = .ok (.imul, 1) := by decide +kernel
theorem dM_dimension_82 : decode cM_dimension 82 = .ok (.iload_n 2, 1) := by decide +kernel
theorem dM_dimension_83 : decode cM_dimension 83 = .ok (.iadd, 1) := by decide +kernel
theorem dM_dimension_84 : decode cM_dimension 84 = .ok (.iconst 0, 1) := by decide +kernel
theorem dM_dimension_85 : decode cM_dimension 85 = .ok (.iastore, 1) := by decide +kernel
theorem dM_dimension_86 : decode cM_dimension 86 = .ok (.iinc 2 1, 3) := by decide +kernel
theorem dM_dimension_89 : decode cM_dimension 89 = .ok (.goto (-22), 3) := by decide +kernel
theorem dM_dimension_92 : decode cM_dimension 92 = .ok (.aload_n 0, 1) := by decide +kernel
theorem dM_dimension_93 : decode cM_dimension 93 = .ok (.dup, 1) := by decide +kernel
theorem dM_dimension_94 : decode cM_dimension 94 = .ok (.getfield 16, 3) := by decide +kernel
theorem dM_dimension_97 : decode cM_dimension 97 = .ok (.iload_n 1, 1) := by decide +kernel
theorem dM_dimension_98 : decode cM_dimension 98 = .ok (.iconst 1, 1) := by decide +kernel
theorem dM_dimension_99 : decode cM_dimension 99 = .ok (.iadd, 1) := by decide +kernel
theorem dM_dimension_100 : decode cM_dimension 100 = .ok (.imul, 1) := by decide +kernel
theorem dM_dimension_101 : decode cM_dimension 101 = .ok (.putfield 16, 3) := by decide +kernel
theorem dM_dimension_104 : decode cM_dimension 104 = .ok (.aload_n 0, 1) := by decide +kernel
theorem dM_dimension_105 : decode cM_dimension 105 = .ok (.iconst 0, 1) := by decide +kernel
theorem dM_dimension_106 : decode cM_dimension 106 = .ok (.putfield 40, 3) := by decide +kernel
theorem dM_dimension_109 : decode cM_dimension 109 = .ok (.aload_n 0, 1) := by decide +kernel
theorem dM_dimension_110 : decode cM_dimension 110 = .ok (.dup, 1) := by decide +kernel
theorem dM_dimension_111 : decode cM_dimension 111 = .ok (.getfield 37, 3) := by decide +kernel
theorem dM_dimension_114 : decode cM_dimension 114 = .ok (.iconst 1, 1) := by decide +kernel
theorem dM_dimension_115 : decode cM_dimension 115 = .ok (.iadd, 1) := by decide +kernel
theorem dM_dimension_116 : decode cM_dimension 116 = .ok (.putfield 37, 3) := by decide +kernel
theorem dM_dimension_119 : decode cM_dimension 119 = .ok (.aload_n 0, 1) := by decide +kernel
theorem dM_dimension_120 : decode cM_dimension 120 = .ok (.invokevirtual 43, 3) := by decide +kernel
theorem dM_dimension_123 : decode cM_dimension 123 = .ok (.aload_n 0, 1) := by decide +kernel
theorem dM_dimension_124 : decode cM_dimension 124 = .ok (.getfield 37, 3) := by decide +kernel
theorem dM_dimension_127 : decode cM_dimension 127 = .ok (.iconst 1, 1) := by decide +kernel
theorem dM_dimension_128 : decode cM_dimension 128 = .ok (.isub, 1) := by decide +kernel
theorem dM_dimension_129 : decode cM_dimension 129 = .ok (.ireturn, 1) := by decide +kernel
theorem dM_isDimension_0 : decode cM_isDimension 0 = .ok (.iload_n 1, 1) := by decide +kernel
theorem dM_isDimension_1 : decode cM_isDimension 1 = .ok (.ifCond .lt 15, 3) := by decide +kernel
theorem dM_isDimension_4 : decode cM_isDimension 4 = .ok (.iload_n 1, 1) := by decide +kernel
theorem dM_isDimension_5 : decode cM_isDimension 5 = .ok (.aload_n 0, 1) := by decide +kernel
theorem dM_isDimension_6 : decode cM_isDimension 6 = .ok (.getfield 37, 3) := by decide +kernel
theorem dM_isDimension_9 : decode cM_isDimension 9 = .ok (.if_icmp .ge 7, 3) := by decide +kernel
theorem dM_isDimension_12 : decode cM_isDimension 12 = .ok (.iconst 1, 1) := by decide +kernel
theorem dM_isDimension_13 : decode cM_isDimension 13 = .ok (.goto 4, 3) := by decide +kernel
theorem dM_isDimension_16 : decode cM_isDimension 16 = .ok (.iconst 0, 1) := by decide +kernel
theorem dM_isDimension_17 : decode cM_isDimension 17 = .ok (.ireturn, 1) := by decide +kernel
theorem dM_isView_0 : decode cM_isView 0 = .ok (.iload_n 1, 1) := by decide +kernel
theorem dM_isView_1 : decode cM_isView 1 = .ok (.ifCond .lt 15, 3) := by decide +kernel
theorem dM_isView_4 : decode cM_isView 4 = .ok (.iload_n 1, 1) := by decide +kernel
theorem dM_isView_5 : decode cM_isView 5 = .ok (.aload_n 0, 1) := by decide +kernel
theorem dM_isView_6 : decode cM_isView 6 = .ok (.getfield 16, 3) := by decide +kernel
theorem dM_isView_9 : decode cM_isView 9 = .ok (.if_icmp .ge 7, 3) := by decide +kernel
theorem dM_isView_12 : decode cM_isView 12 = .ok (.iconst 1, 1) := by decide +kernel
theorem dM_isView_13 : decode cM_isView 13 = .ok (.goto 4, 3) := by decide +kernel
theorem dM_isView_16 : decode cM_isView 16 = .ok (.iconst 0, 1) := by decide +kernel
theorem dM_isView_17 : decode cM_isView 17 = .ok (.ireturn, 1) := by decide +kernel
theorem dM_values_0 : decode cM_values 0 = .ok (.aload_n 0, 1) := by decide +kernel
theorem dM_values_1 : decode cM_values 1 = .ok (.aload_n 0, 1) := by decide +kernel
theorem dM_values_2 : decode cM_values 2 = .ok (.iload_n 1, 1) := by decide +kernel
theorem dM_values_3 : decode cM_values 3 = .ok (.invokevirtual 46, 3) := by decide +kernel
theorem dM_values_6 : decode cM_values 6 = .ok (.ifCond .eq 27, 3) := by decide +kernel
theorem dM_values_9 : decode cM_values 9 = .ok (.iload_n 2, 1) := by decide +kernel
theorem dM_values_10 : decode cM_values 10 = .ok (.ifCond .lt 23, 3) := by decide +kernel
theorem dM_values_13 : decode cM_values 13 = .ok (.iload_n 2, 1) := by decide +kernel
theorem dM_values_14 : decode cM_values 14 = .ok (.aload_n 0, 1) := by decide +kernel
theorem dM_values_15 : decode cM_values 15 = .ok (.getfield 7, 3) := by decide +kernel
theorem dM_values_18 : decode cM_values 18 = .ok (.iload_n 1, 1) := by decide +kernel
theorem dM_values_19 : decode cM_values 19 = .ok (.iaload, 1) := by decide +kernel
theorem dM_values_20 : decode cM_values 20 = .ok (.if_icmp .ge 13, 3) := by decide +kernel
theorem dM_values_23 : decode cM_values 23 = .ok (.iload_n 3, 1) := by decide +kernel
theorem dM_values_24 : decode cM_values 24 = .ok (.ifCond .lt 9, 3) := by decide +kernel
theorem dM_values_27 : decode cM_values 27 = .ok (.iload_n 3, 1) := by decide +kernel
theorem dM_values_28 : decode cM_values 28 = .ok (.ldc 50, 2) := by decide +kernel
theorem dM_values_30 : decode cM_values 30 = .ok (.if_icmp .le 7, 3) := by decide +kernel
theorem dM_values_33 : decode cM_values 33 = .ok (.iconst 1, 1) := by decide +kernel
theorem dM_values_34 : decode cM_values 34 = .ok (.goto 4, 3) := by decide +kernel
theorem dM_values_37 : decode cM_values 37 = .ok (.iconst 0, 1) := by decide +kernel
theorem dM_values_38 : decode cM_values 38 = .ok (.putfield 34, 3) := by decide +kernel
theorem dM_values_41 : decode cM_values 41 = .ok (.aload_n 0, 1) := by decide +kernel
theorem dM_values_42 : decode cM_values 42 = .ok (.getfield 34, 3) := by decide +kernel
theorem dM_values_45 : decode cM_values 45 = .ok (.ifCond .le 5, 3) := by decide +kernel
theorem dM_values_48 : decode cM_values 48 = .ok (.iconst 0, 1) := by decide +kernel
theorem dM_values_49 : decode cM_values 49 = .ok (.ireturn, 1) := by decide +kernel
theorem dM_values_50 : decode cM_values 50 = .ok (.aload_n 0, 1) := by decide +kernel
theorem dM_values_51 : decode cM_values 51 = .ok (.getfield 13, 3) := by decide +kernel
theorem dM_values_54 : decode cM_values 54 = .ok (.iconst 4, 1) := by decide +kernel
theorem dM_values_55 : decode cM_values 55 = .ok (.iload_n 1, 1) := by decide +kernel
theorem dM_values_56 : decode cM_values 56 = .ok (.imul, 1) := by decide +kernel
theorem dM_values_57 : decode cM_values 57 = .ok (.iload_n 2, 1) := by decide +kernel
theorem dM_values_58 : decode cM_values 58 = .ok (.iadd, 1) := by decide +kernel
theorem dM_values_59 : decode cM_values 59 = .ok (.iaload, 1) := by decide +kernel
theorem dM_values_60 : decode cM_values 60 = .ok (.istore 4, 2) := by decide +kernel
theorem dM_values_62 : decode cM_values 62 = .ok (.aload_n 0, 1) := by decide +kernel
theorem dM_values_63 : decode cM_values 63 = .ok (.getfield 13, 3) := by decide +kernel
theorem dM_values_66 : decode cM_values 66 = .ok (.iconst 4, 1) := by decide +kernel
theorem dM_values_67 : decode cM_values 67 = .ok (.iload_n 1, 1) := by decide +kernel
theorem dM_values_68 : decode cM_values 68 = .ok (.imul, 1) := by decide +kernel
theorem dM_values_69 : decode cM_values 69 = .ok (.iload_n 2, 1) := by decide +kernel
theorem dM_values_70 : decode cM_values 70 = .ok (.iadd, 1) := by decide +kernel
theorem dM_values_71 : decode cM_values 71 = .ok (.iload_n 3, 1) := by decide +kernel
theorem dM_values_72 : decode cM_values 72 = .ok (.iastore, 1) := by decide +kernel
theorem dM_values_73 : decode cM_values 73 = .ok (.aload_n 0, 1) := by decide +kernel
theorem dM_values_74 : decode cM_values 74 = .ok (.iconst 0, 1) := by decide +kernel
theorem dM_values_75 : decode cM_values 75 = .ok (.putfield 40, 3) := by decide +kernel
theorem dM_values_78 : decode cM_values 78 = .ok (.iload 4, 2) := by decide +kernel
theorem dM_values_80 : decode cM_values 80 = .ok (.ireturn, 1) := by decide +kernel
theorem dM_facts_0 : decode cM_facts 0 = .ok (.aload_n 0, 1) := by decide +kernel
theorem dM_facts_1 : decode cM_facts 1 = .ok (.iload_n 1, 1) := by decide +kernel
theorem dM_facts_2 : decode cM_facts 2 = .ok (.ifCond .ge 7, 3) := by decide +kernel
theorem dM_facts_5 : decode cM_facts 5 = .ok (.iconst 1, 1) := by decide +kernel
theorem dM_facts_6 : decode cM_facts 6 = .ok (.goto 4, 3) := by decide +kernel
theorem dM_facts_9 : decode cM_facts 9 = .ok (.iconst 0, 1) := by decide +kernel
theorem dM_facts_10 : decode cM_facts 10 = .ok (.putfield 34, 3) := by decide +kernel
theorem dM_facts_13 : decode cM_facts 13 = .ok (.aload_n 0, 1) := by decide +kernel
theorem dM_facts_14 : decode cM_facts 14 = .ok (.getfield 34, 3) := by decide +kernel
theorem dM_facts_17 : decode cM_facts 17 = .ok (.ifCond .le 5, 3) := by decide +kernel
theorem dM_facts_20 : decode cM_facts 20 = .ok (.iconst 0, 1) := by decide +kernel
theorem dM_facts_21 : decode cM_facts 21 = .ok (.ireturn, 1) := by decide +kernel
theorem dM_facts_22 : decode cM_facts 22 = .ok (.aload_n 0, 1) := by decide +kernel
theorem dM_facts_23 : decode cM_facts 23 = .ok (.getfield 51, 3) := by decide +kernel
theorem dM_facts_26 : decode cM_facts 26 = .ok (.istore_n 2, 1) := by decide +kernel
theorem dM_facts_27 : decode cM_facts 27 = .ok (.aload_n 0, 1) := by decide +kernel
theorem dM_facts_28 : decode cM_facts 28 = .ok (.iload_n 1, 1) := by decide +kernel
theorem dM_facts_29 : decode cM_facts 29 = .ok (.putfield 51, 3) := by decide +kernel
theorem dM_facts_32 : decode cM_facts 32 = .ok (.aload_n 0, 1) := by decide +kernel
theorem dM_facts_33 : decode cM_facts 33 = .ok (.iconst 0, 1) := by decide +kernel
theorem dM_facts_34 : decode cM_facts 34 = .ok (.putfield 40, 3) := by decide +kernel
theorem dM_facts_37 : decode cM_facts 37 = .ok (.iload_n 2, 1) := by decide +kernel
theorem dM_facts_38 : decode cM_facts 38 = .ok (.ireturn, 1) := by decide +kernel
theorem dM_views_0 : decode cM_views 0 = .ok (.aload_n 0, 1) := by decide +kernel
theorem dM_views_1 : decode cM_views 1 = .ok (.iconst 0, 1) := by decide +kernel
theorem dM_views_2 : decode cM_views 2 = .ok (.putfield 34, 3) := by decide +kernel
theorem dM_views_5 : decode cM_views 5 = .ok (.aload_n 0, 1) := by decide +kernel
theorem dM_views_6 : decode cM_views 6 = .ok (.getfield 16, 3) := by decide +kernel
theorem dM_views_9 : decode cM_views 9 = .ok (.ireturn, 1) := by decide +kernel
theorem dM_spread_0 : decode cM_spread 0 = .ok (.iconst 0, 1) := by decide +kernel
theorem dM_spread_1 : decode cM_spread 1 = .ok (.istore_n 1, 1) := by decide +kernel
theorem dM_spread_2 : decode cM_spread 2 = .ok (.iload_n 1, 1) := by decide +kernel
theorem dM_spread_3 : decode cM_spread 3 = .ok (.aload_n 0, 1) := by decide +kernel
theorem dM_spread_4 : decode cM_spread 4 = .ok (.getfield 16, 3) := by decide +kernel
theorem dM_spread_7 : decode cM_spread 7 = .ok (.if_icmp .ge 43, 3) := by decide +kernel
theorem dM_spread_10 : decode cM_spread 10 = .ok (.iconst 0, 1) := by decide +kernel
theorem dM_spread_11 : decode cM_spread 11 = .ok (.istore_n 2, 1) := by decide +kernel
theorem dM_spread_12 : decode cM_spread 12 = .ok (.iload_n 2, 1) := by decide +kernel
theorem dM_spread_13 : decode cM_spread 13 = .ok (.aload_n 0, 1) := by decide +kernel
theorem dM_spread_14 : decode cM_spread 14 = .ok (.getfield 37, 3) := by decide +kernel
theorem dM_spread_17 : decode cM_spread 17 = .ok (.if_icmp .ge 27, 3) := by decide +kernel
theorem dM_spread_20 : decode cM_spread 20 = .ok (.aload_n 0, 1) := by decide +kernel
theorem dM_spread_21 : decode cM_spread 21 = .ok (.getfield 23, 3) := by decide +kernel
theorem dM_spread_24 : decode cM_spread 24 = .ok (.bipush 8, 2) := by decide +kernel
theorem dM_spread_26 : decode cM_spread 26 = .ok (.iload_n 1, 1) := by decide +kernel
theorem dM_spread_27 : decode cM_spread 27 = .ok (.imul, 1) := by decide +kernel
theorem dM_spread_28 : decode cM_spread 28 = .ok (.iload_n 2, 1) := by decide +kernel
theorem dM_spread_29 : decode cM_spread 29 = .ok (.iadd, 1) := by decide +kernel
theorem dM_spread_30 : decode cM_spread 30 = .ok (.aload_n 0, 1) := by decide +kernel
theorem dM_spread_31 : decode cM_spread 31 = .ok (.iload_n 1, 1) := by decide +kernel
theorem dM_spread_32 : decode cM_spread 32 = .ok (.iload_n 2, 1) := by decide +kernel
theorem dM_spread_33 : decode cM_spread 33 = .ok (.invokevirtual 54, 3) := by decide +kernel
theorem dM_spread_36 : decode cM_spread 36 = .ok (.i2b, 1) := by decide +kernel
theorem dM_spread_37 : decode cM_spread 37 = .ok (.bastore, 1) := by decide +kernel
theorem dM_spread_38 : decode cM_spread 38 = .ok (.iinc 2 1, 3) := by decide +kernel
theorem dM_spread_41 : decode cM_spread 41 = .ok (.goto (-29), 3) := by decide +kernel
theorem dM_spread_44 : decode cM_spread 44 = .ok (.iinc 1 1, 3) := by decide +kernel
theorem dM_spread_47 : decode cM_spread 47 = .ok (.goto (-45), 3) := by decide +kernel
theorem dM_spread_50 : decode cM_spread 50 = .ok (.return_, 1) := by decide +kernel
theorem dM_digitOf_0 : decode cM_digitOf 0 = .ok (.aload_n 0, 1) := by decide +kernel
theorem dM_digitOf_1 : decode cM_digitOf 1 = .ok (.getfield 23, 3) := by decide +kernel
theorem dM_digitOf_4 : decode cM_digitOf 4 = .ok (.bipush 8, 2) := by decide +kernel
theorem dM_digitOf_6 : decode cM_digitOf 6 = .ok (.iload_n 1, 1) := by decide +kernel
theorem dM_digitOf_7 : decode cM_digitOf 7 = .ok (.imul, 1) := by decide +kernel
theorem dM_digitOf_8 : decode cM_digitOf 8 = .ok (.iload_n 2, 1) := by decide +kernel
theorem dM_digitOf_9 : decode cM_digitOf 9 = .ok (.iadd, 1) := by decide +kernel
theorem dM_digitOf_10 : decode cM_digitOf 10 = .ok (.baload, 1) := by decide +kernel
theorem dM_digitOf_11 : decode cM_digitOf 11 = .ok (.ireturn, 1) := by decide +kernel
theorem dM_divided_0 : decode cM_divided 0 = .ok (.iload_n 1, 1) := by decide +kernel
theorem dM_divided_1 : decode cM_divided 1 = .ok (.istore_n 3, 1) := by decide +kernel
theorem dM_divided_2 : decode cM_divided 2 = .ok (.aload_n 0, 1) := by decide +kernel
theorem dM_divided_3 : decode cM_divided 3 = .ok (.getfield 37, 3) := by decide +kernel
theorem dM_divided_6 : decode cM_divided 6 = .ok (.iconst 1, 1) := by decide +kernel
theorem dM_divided_7 : decode cM_divided 7 = .ok (.isub, 1) := by decide +kernel
theorem dM_divided_8 : decode cM_divided 8 = .ok (.istore 4, 2) := by decide +kernel
theorem dM_divided_10 : decode cM_divided 10 = .ok (.iload 4, 2) := by decide +kernel
theorem dM_divided_12 : decode cM_divided 12 = .ok (.iload_n 2, 1) := by decide +kernel
theorem dM_divided_13 : decode cM_divided 13 = .ok (.if_icmp .le 21, 3) := by decide +kernel
theorem dM_divided_16 : decode cM_divided 16 = .ok (.iload_n 3, 1) := by decide +kernel
theorem dM_divided_17 : decode cM_divided 17 = .ok (.aload_n 0, 1) := by decide +kernel
theorem dM_divided_18 : decode cM_divided 18 = .ok (.getfield 7, 3) := by decide +kernel
theorem dM_divided_21 : decode cM_divided 21 = .ok (.iload 4, 2) := by decide +kernel
theorem dM_divided_23 : decode cM_divided 23 = .ok (.iaload, 1) := by decide +kernel
theorem dM_divided_24 : decode cM_divided 24 = .ok (.iconst 1, 1) := by decide +kernel
theorem dM_divided_25 : decode cM_divided 25 = .ok (.iadd, 1) := by decide +kernel
theorem dM_divided_26 : decode cM_divided 26 = .ok (.idiv, 1) := by decide +kernel
theorem dM_divided_27 : decode cM_divided 27 = .ok (.istore_n 3, 1) := by decide +kernel
theorem dM_divided_28 : decode cM_divided 28 = .ok (.iinc 4 (-1), 3) := by decide +kernel
theorem dM_divided_31 : decode cM_divided 31 = .ok (.goto (-21), 3) := by decide +kernel
theorem dM_divided_34 : decode cM_divided 34 = .ok (.iload_n 3, 1) := by decide +kernel
theorem dM_divided_35 : decode cM_divided 35 = .ok (.aload_n 0, 1) := by decide +kernel
theorem dM_divided_36 : decode cM_divided 36 = .ok (.getfield 7, 3) := by decide +kernel
theorem dM_divided_39 : decode cM_divided 39 = .ok (.iload_n 2, 1) := by decide +kernel
theorem dM_divided_40 : decode cM_divided 40 = .ok (.iaload, 1) := by decide +kernel
theorem dM_divided_41 : decode cM_divided 41 = .ok (.iconst 1, 1) := by decide +kernel
theorem dM_divided_42 : decode cM_divided 42 = .ok (.iadd, 1) := by decide +kernel
theorem dM_divided_43 : decode cM_divided 43 = .ok (.irem, 1) := by decide +kernel
theorem dM_divided_44 : decode cM_divided 44 = .ok (.ireturn, 1) := by decide +kernel
theorem dM_above_0 : decode cM_above 0 = .ok (.iconst 1, 1) := by decide +kernel
theorem dM_above_1 : decode cM_above 1 = .ok (.istore_n 3, 1) := by decide +kernel
theorem dM_above_2 : decode cM_above 2 = .ok (.iconst 0, 1) := by decide +kernel
theorem dM_above_3 : decode cM_above 3 = .ok (.istore 4, 2) := by decide +kernel
theorem dM_above_5 : decode cM_above 5 = .ok (.iload 4, 2) := by decide +kernel
theorem dM_above_7 : decode cM_above 7 = .ok (.aload_n 0, 1) := by decide +kernel
theorem dM_above_8 : decode cM_above 8 = .ok (.getfield 37, 3) := by decide +kernel
theorem dM_above_11 : decode cM_above 11 = .ok (.if_icmp .ge 36, 3) := by decide +kernel
theorem dM_above_14 : decode cM_above 14 = .ok (.iload_n 3, 1) := by decide +kernel
theorem dM_above_15 : decode cM_above 15 = .ok (.ifCond .eq 32, 3) := by decide +kernel
theorem dM_above_18 : decode cM_above 18 = .ok (.aload_n 0, 1) := by decide +kernel
theorem dM_above_19 : decode cM_above 19 = .ok (.iload_n 1, 1) := by decide +kernel
theorem dM_above_20 : decode cM_above 20 = .ok (.iload 4, 2) := by decide +kernel
theorem dM_above_22 : decode cM_above 22 = .ok (.invokevirtual 58, 3) := by decide +kernel
theorem dM_above_25 : decode cM_above 25 = .ok (.aload_n 0, 1) := by decide +kernel
theorem dM_above_26 : decode cM_above 26 = .ok (.iload_n 2, 1) := by decide +kernel
theorem dM_above_27 : decode cM_above 27 = .ok (.iload 4, 2) := by decide +kernel
theorem dM_above_29 : decode cM_above 29 = .ok (.invokevirtual 58, 3) := by decide +kernel
theorem dM_above_32 : decode cM_above 32 = .ok (.if_icmp .gt 7, 3) := by decide +kernel
theorem dM_above_35 : decode cM_above 35 = .ok (.iconst 1, 1) := by decide +kernel
theorem dM_above_36 : decode cM_above 36 = .ok (.goto 4, 3) := by decide +kernel
theorem dM_above_39 : decode cM_above 39 = .ok (.iconst 0, 1) := by decide +kernel
theorem dM_above_40 : decode cM_above 40 = .ok (.istore_n 3, 1) := by decide +kernel
theorem dM_above_41 : decode cM_above 41 = .ok (.iinc 4 1, 3) := by decide +kernel
theorem dM_above_44 : decode cM_above 44 = .ok (.goto (-39), 3) := by decide +kernel
theorem dM_above_47 : decode cM_above 47 = .ok (.iload_n 3, 1) := by decide +kernel
theorem dM_above_48 : decode cM_above 48 = .ok (.ireturn, 1) := by decide +kernel
theorem dM_estimateOf_0 : decode cM_estimateOf 0 = .ok (.lconst 1, 1) := by decide +kernel
theorem dM_estimateOf_1 : decode cM_estimateOf 1 = .ok (.lstore_n 2, 1) := by decide +kernel
theorem dM_estimateOf_2 : decode cM_estimateOf 2 = .ok (.iconst 0, 1) := by decide +kernel
theorem dM_estimateOf_3 : decode cM_estimateOf 3 = .ok (.istore 4, 2) := by decide +kernel
theorem dM_estimateOf_5 : decode cM_estimateOf 5 = .ok (.iload 4, 2) := by decide +kernel
theorem dM_estimateOf_7 : decode cM_estimateOf 7 = .ok (.aload_n 0, 1) := by decide +kernel
theorem dM_estimateOf_8 : decode cM_estimateOf 8 = .ok (.getfield 37, 3) := by decide +kernel
theorem dM_estimateOf_11 : decode cM_estimateOf 11 = .ok (.if_icmp .ge 62, 3) := by decide +kernel
theorem dM_estimateOf_14 : decode cM_estimateOf 14 = .ok (.aload_n 0, 1) := by decide +kernel
theorem dM_estimateOf_15 : decode cM_estimateOf 15 = .ok (.iload_n 1, 1) := by decide +kernel
theorem dM_estimateOf_16 : decode cM_estimateOf 16 = .ok (.iload 4, 2) := by decide +kernel
theorem dM_estimateOf_18 : decode cM_estimateOf 18 = .ok (.invokevirtual 58, 3) := by decide +kernel
theorem dM_estimateOf_21 : decode cM_estimateOf 21 = .ok (.istore 5, 2) := by decide +kernel
theorem dM_estimateOf_23 : decode cM_estimateOf 23 = .ok (.iload 5, 2) := by decide +kernel
theorem dM_estimateOf_25 : decode cM_estimateOf 25 = .ok (.aload_n 0, 1) := by decide +kernel
theorem dM_estimateOf_26 : decode cM_estimateOf 26 = .ok (.getfield 7, 3) := by decide +kernel
theorem dM_estimateOf_29 : decode cM_estimateOf 29 = .ok (.iload 4, 2) := by decide +kernel
theorem dM_estimateOf_31 : decode cM_estimateOf 31 = .ok (.iaload, 1) := by decide +kernel
theorem dM_estimateOf_32 : decode cM_estimateOf 32 = .ok (.if_icmp .ge 35, 3) := by decide +kernel
theorem dM_estimateOf_35 : decode cM_estimateOf 35 = .ok (.lload_n 2, 1) := by decide +kernel
theorem dM_estimateOf_36 : decode cM_estimateOf 36 = .ok (.aload_n 0, 1) := by decide +kernel
theorem dM_estimateOf_37 : decode cM_estimateOf 37 = .ok (.getfield 13, 3) := by decide +kernel
theorem dM_estimateOf_40 : decode cM_estimateOf 40 = .ok (.iconst 4, 1) := by decide +kernel
theorem dM_estimateOf_41 : decode cM_estimateOf 41 = .ok (.iload 4, 2) := by decide +kernel
theorem dM_estimateOf_43 : decode cM_estimateOf 43 = .ok (.imul, 1) := by decide +kernel
theorem dM_estimateOf_44 : decode cM_estimateOf 44 = .ok (.iload 5, 2) := by decide +kernel
theorem dM_estimateOf_46 : decode cM_estimateOf 46 = .ok (.iadd, 1) := by decide +kernel
theorem dM_estimateOf_47 : decode cM_estimateOf 47 = .ok (.iaload, 1) := by decide +kernel
theorem dM_estimateOf_48 : decode cM_estimateOf 48 = .ok (.i2l, 1) := by decide +kernel
theorem dM_estimateOf_49 : decode cM_estimateOf 49 = .ok (.lmul, 1) := by decide +kernel
theorem dM_estimateOf_50 : decode cM_estimateOf 50 = .ok (.lstore_n 2, 1) := by decide +kernel
theorem dM_estimateOf_51 : decode cM_estimateOf 51 = .ok (.lload_n 2, 1) := by decide +kernel
theorem dM_estimateOf_52 : decode cM_estimateOf 52 = .ok (.ldc2_w 61, 3) := by decide +kernel
theorem dM_estimateOf_55 : decode cM_estimateOf 55 = .ok (.lcmp, 1) := by decide +kernel
theorem dM_estimateOf_56 : decode cM_estimateOf 56 = .ok (.ifCond .le 9, 3) := by decide +kernel
theorem dM_estimateOf_59 : decode cM_estimateOf 59 = .ok (.ldc2_w 61, 3) := by decide +kernel
theorem dM_estimateOf_62 : decode cM_estimateOf 62 = .ok (.goto 4, 3) := by decide +kernel
theorem dM_estimateOf_65 : decode cM_estimateOf 65 = .ok (.lload_n 2, 1) := by decide +kernel
theorem dM_estimateOf_66 : decode cM_estimateOf 66 = .ok (.lstore_n 2, 1) := by decide +kernel
theorem dM_estimateOf_67 : decode cM_estimateOf 67 = .ok (.iinc 4 1, 3) := by decide +kernel
theorem dM_estimateOf_70 : decode cM_estimateOf 70 = .ok (.goto (-65), 3) := by decide +kernel
theorem dM_estimateOf_73 : decode cM_estimateOf 73 = .ok (.lload_n 2, 1) := by decide +kernel
theorem dM_estimateOf_74 : decode cM_estimateOf 74 = .ok (.aload_n 0, 1) := by decide +kernel
theorem dM_estimateOf_75 : decode cM_estimateOf 75 = .ok (.getfield 51, 3) := by decide +kernel
theorem dM_estimateOf_78 : decode cM_estimateOf 78 = .ok (.i2l, 1) := by decide +kernel
theorem dM_estimateOf_79 : decode cM_estimateOf 79 = .ok (.lcmp, 1) := by decide +kernel
theorem dM_estimateOf_80 : decode cM_estimateOf 80 = .ok (.ifCond .ge 7, 3) := by decide +kernel
theorem dM_estimateOf_83 : decode cM_estimateOf 83 = .ok (.lload_n 2, 1) := by decide +kernel
theorem dM_estimateOf_84 : decode cM_estimateOf 84 = .ok (.goto 8, 3) := by decide +kernel
theorem dM_estimateOf_87 : decode cM_estimateOf 87 = .ok (.aload_n 0, 1) := by decide +kernel
theorem dM_estimateOf_88 : decode cM_estimateOf 88 = .ok (.getfield 51, 3) := by decide +kernel
theorem dM_estimateOf_91 : decode cM_estimateOf 91 = .ok (.i2l, 1) := by decide +kernel
theorem dM_estimateOf_92 : decode cM_estimateOf 92 = .ok (.lreturn, 1) := by decide +kernel
theorem dM_reckon_0 : decode cM_reckon 0 = .ok (.iconst 0, 1) := by decide +kernel
theorem dM_reckon_1 : decode cM_reckon 1 = .ok (.istore_n 1, 1) := by decide +kernel
theorem dM_reckon_2 : decode cM_reckon 2 = .ok (.iload_n 1, 1) := by decide +kernel
theorem dM_reckon_3 : decode cM_reckon 3 = .ok (.aload_n 0, 1) := by decide +kernel
theorem dM_reckon_4 : decode cM_reckon 4 = .ok (.getfield 16, 3) := by decide +kernel
theorem dM_reckon_7 : decode cM_reckon 7 = .ok (.if_icmp .ge 20, 3) := by decide +kernel
theorem dM_reckon_10 : decode cM_reckon 10 = .ok (.aload_n 0, 1) := by decide +kernel
theorem dM_reckon_11 : decode cM_reckon 11 = .ok (.getfield 27, 3) := by decide +kernel
theorem dM_reckon_14 : decode cM_reckon 14 = .ok (.iload_n 1, 1) := by decide +kernel
theorem dM_reckon_15 : decode cM_reckon 15 = .ok (.aload_n 0, 1) := by decide +kernel
theorem dM_reckon_16 : decode cM_reckon 16 = .ok (.iload_n 1, 1) := by decide +kernel
theorem dM_reckon_17 : decode cM_reckon 17 = .ok (.invokevirtual 63, 3) := by decide +kernel
theorem dM_reckon_20 : decode cM_reckon 20 = .ok (.lastore, 1) := by decide +kernel
theorem dM_reckon_21 : decode cM_reckon 21 = .ok (.iinc 1 1, 3) := by decide +kernel
theorem dM_reckon_24 : decode cM_reckon 24 = .ok (.goto (-22), 3) := by decide +kernel
theorem dM_reckon_27 : decode cM_reckon 27 = .ok (.iconst 0, 1) := by decide +kernel
theorem dM_reckon_28 : decode cM_reckon 28 = .ok (.istore_n 1, 1) := by decide +kernel
theorem dM_reckon_29 : decode cM_reckon 29 = .ok (.iload_n 1, 1) := by decide +kernel
theorem dM_reckon_30 : decode cM_reckon 30 = .ok (.aload_n 0, 1) := by decide +kernel
theorem dM_reckon_31 : decode cM_reckon 31 = .ok (.getfield 16, 3) := by decide +kernel
theorem dM_reckon_34 : decode cM_reckon 34 = .ok (.if_icmp .ge 107, 3) := by decide +kernel
theorem dM_reckon_37 : decode cM_reckon 37 = .ok (.aload_n 0, 1) := by decide +kernel
theorem dM_reckon_38 : decode cM_reckon 38 = .ok (.getfield 31, 3) := by decide +kernel
theorem dM_reckon_41 : decode cM_reckon 41 = .ok (.iload_n 1, 1) := by decide +kernel
theorem dM_reckon_42 : decode cM_reckon 42 = .ok (.aload_n 0, 1) := by decide +kernel
theorem dM_reckon_43 : decode cM_reckon 43 = .ok (.getfield 51, 3) := by decide +kernel
theorem dM_reckon_46 : decode cM_reckon 46 = .ok (.i2l, 1) := by decide +kernel
theorem dM_reckon_47 : decode cM_reckon 47 = .ok (.lastore, 1) := by decide +kernel
theorem dM_reckon_48 : decode cM_reckon 48 = .ok (.iconst 0, 1) := by decide +kernel
theorem dM_reckon_49 : decode cM_reckon 49 = .ok (.istore_n 2, 1) := by decide +kernel
theorem dM_reckon_50 : decode cM_reckon 50 = .ok (.iload_n 2, 1) := by decide +kernel
theorem dM_reckon_51 : decode cM_reckon 51 = .ok (.aload_n 0, 1) := by decide +kernel
theorem dM_reckon_52 : decode cM_reckon 52 = .ok (.getfield 40, 3) := by decide +kernel
theorem dM_reckon_55 : decode cM_reckon 55 = .ok (.if_icmp .ge 80, 3) := by decide +kernel
theorem dM_reckon_58 : decode cM_reckon 58 = .ok (.aload_n 0, 1) := by decide +kernel
theorem dM_reckon_59 : decode cM_reckon 59 = .ok (.getfield 27, 3) := by decide +kernel
theorem dM_reckon_62 : decode cM_reckon 62 = .ok (.aload_n 0, 1) := by decide +kernel
theorem dM_reckon_63 : decode cM_reckon 63 = .ok (.getfield 20, 3) := by decide +kernel
theorem dM_reckon_66 : decode cM_reckon 66 = .ok (.iload_n 2, 1) := by decide +kernel
theorem dM_reckon_67 : decode cM_reckon 67 = .ok (.iaload, 1) := by decide +kernel
theorem dM_reckon_68 : decode cM_reckon 68 = .ok (.laload, 1) := by decide +kernel
theorem dM_reckon_69 : decode cM_reckon 69 = .ok (.aload_n 0, 1) := by decide +kernel
theorem dM_reckon_70 : decode cM_reckon 70 = .ok (.getfield 31, 3) := by decide +kernel
theorem dM_reckon_73 : decode cM_reckon 73 = .ok (.iload_n 1, 1) := by decide +kernel
theorem dM_reckon_74 : decode cM_reckon 74 = .ok (.laload, 1) := by decide +kernel
theorem dM_reckon_75 : decode cM_reckon 75 = .ok (.lcmp, 1) := by decide +kernel
theorem dM_reckon_76 : decode cM_reckon 76 = .ok (.ifCond .ge 21, 3) := by decide +kernel
theorem dM_reckon_79 : decode cM_reckon 79 = .ok (.aload_n 0, 1) := by decide +kernel
theorem dM_reckon_80 : decode cM_reckon 80 = .ok (.aload_n 0, 1) := by decide +kernel
theorem dM_reckon_81 : decode cM_reckon 81 = .ok (.getfield 20, 3) := by decide +kernel
theorem dM_reckon_84 : decode cM_reckon 84 = .ok (.iload_n 2, 1) := by decide +kernel
theorem dM_reckon_85 : decode cM_reckon 85 = .ok (.iaload, 1) := by decide +kernel
theorem dM_reckon_86 : decode cM_reckon 86 = .ok (.iload_n 1, 1) := by decide +kernel
theorem dM_reckon_87 : decode cM_reckon 87 = .ok (.invokevirtual 67, 3) := by decide +kernel
theorem dM_reckon_90 : decode cM_reckon 90 = .ok (.ifCond .eq 7, 3) := by decide +kernel
theorem dM_reckon_93 : decode cM_reckon 93 = .ok (.iconst 1, 1) := by decide +kernel
theorem dM_reckon_94 : decode cM_reckon 94 = .ok (.goto 4, 3) := by decide +kernel
theorem dM_reckon_97 : decode cM_reckon 97 = .ok (.iconst 0, 1) := by decide +kernel
theorem dM_reckon_98 : decode cM_reckon 98 = .ok (.istore_n 3, 1) := by decide +kernel
theorem dM_reckon_99 : decode cM_reckon 99 = .ok (.aload_n 0, 1) := by decide +kernel
theorem dM_reckon_100 : decode cM_reckon 100 = .ok (.getfield 31, 3) := by decide +kernel
theorem dM_reckon_103 : decode cM_reckon 103 = .ok (.iload_n 1, 1) := by decide +kernel
theorem dM_reckon_104 : decode cM_reckon 104 = .ok (.iload_n 3, 1) := by decide +kernel
theorem dM_reckon_105 : decode cM_reckon 105 = .ok (.ifCond .eq 17, 3) := by decide +kernel
theorem dM_reckon_108 : decode cM_reckon 108 = .ok (.aload_n 0, 1) := by decide +kernel
theorem dM_reckon_109 : decode cM_reckon 109 = .ok (.getfield 27, 3) := by decide +kernel
theorem dM_reckon_112 : decode cM_reckon 112 = .ok (.aload_n 0, 1) := by decide +kernel
theorem dM_reckon_113 : decode cM_reckon 113 = .ok (.getfield 20, 3) := by decide +kernel
theorem dM_reckon_116 : decode cM_reckon 116 = .ok (.iload_n 2, 1) := by decide +kernel
theorem dM_reckon_117 : decode cM_reckon 117 = .ok (.iaload, 1) := by decide +kernel
theorem dM_reckon_118 : decode cM_reckon 118 = .ok (.laload, 1) := by decide +kernel
theorem dM_reckon_119 : decode cM_reckon 119 = .ok (.goto 9, 3) := by decide +kernel
theorem dM_reckon_122 : decode cM_reckon 122 = .ok (.aload_n 0, 1) := by decide +kernel
theorem dM_reckon_123 : decode cM_reckon 123 = .ok (.getfield 31, 3) := by decide +kernel
theorem dM_reckon_126 : decode cM_reckon 126 = .ok (.iload_n 1, 1) := by decide +kernel
theorem dM_reckon_127 : decode cM_reckon 127 = .ok (.laload, 1) := by decide +kernel
theorem dM_reckon_128 : decode cM_reckon 128 = .ok (.lastore, 1) := by decide +kernel
theorem dM_reckon_129 : decode cM_reckon 129 = .ok (.iinc 2 1, 3) := by decide +kernel
theorem dM_reckon_132 : decode cM_reckon 132 = .ok (.goto (-82), 3) := by decide +kernel
theorem dM_reckon_135 : decode cM_reckon 135 = .ok (.iinc 1 1, 3) := by decide +kernel
theorem dM_reckon_138 : decode cM_reckon 138 = .ok (.goto (-109), 3) := by decide +kernel
theorem dM_reckon_141 : decode cM_reckon 141 = .ok (.return_, 1) := by decide +kernel
theorem dM_benefitOf_0 : decode cM_benefitOf 0 = .ok (.lconst 0, 1) := by decide +kernel
theorem dM_benefitOf_1 : decode cM_benefitOf 1 = .ok (.lstore_n 2, 1) := by decide +kernel
theorem dM_benefitOf_2 : decode cM_benefitOf 2 = .ok (.iconst 0, 1) := by decide +kernel
theorem dM_benefitOf_3 : decode cM_benefitOf 3 = .ok (.istore 4, 2) := by decide +kernel
theorem dM_benefitOf_5 : decode cM_benefitOf 5 = .ok (.iload 4, 2) := by decide +kernel
theorem dM_benefitOf_7 : decode cM_benefitOf 7 = .ok (.aload_n 0, 1) := by decide +kernel
theorem dM_benefitOf_8 : decode cM_benefitOf 8 = .ok (.getfield 16, 3) := by decide +kernel
theorem dM_benefitOf_11 : decode cM_benefitOf 11 = .ok (.if_icmp .ge 53, 3) := by decide +kernel
theorem dM_benefitOf_14 : decode cM_benefitOf 14 = .ok (.aload_n 0, 1) := by decide +kernel
theorem dM_benefitOf_15 : decode cM_benefitOf 15 = .ok (.getfield 31, 3) := by decide +kernel
theorem dM_benefitOf_18 : decode cM_benefitOf 18 = .ok (.iload 4, 2) := by decide +kernel
theorem dM_benefitOf_20 : decode cM_benefitOf 20 = .ok (.laload, 1) := by decide +kernel
theorem dM_benefitOf_21 : decode cM_benefitOf 21 = .ok (.aload_n 0, 1) := by decide +kernel
theorem dM_benefitOf_22 : decode cM_benefitOf 22 = .ok (.getfield 27, 3) := by decide +kernel
theorem dM_benefitOf_25 : decode cM_benefitOf 25 = .ok (.iload_n 1, 1) := by decide +kernel
theorem dM_benefitOf_26 : decode cM_benefitOf 26 = .ok (.laload, 1) := by decide +kernel
theorem dM_benefitOf_27 : decode cM_benefitOf 27 = .ok (.lcmp, 1) := by decide +kernel
theorem dM_benefitOf_28 : decode cM_benefitOf 28 = .ok (.ifCond .le 30, 3) := by decide +kernel
theorem dM_benefitOf_31 : decode cM_benefitOf 31 = .ok (.aload_n 0, 1) := by decide +kernel
theorem dM_benefitOf_32 : decode cM_benefitOf 32 = .ok (.iload_n 1, 1) := by decide +kernel
theorem dM_benefitOf_33 : decode cM_benefitOf 33 = .ok (.iload 4, 2) := by decide +kernel
theorem dM_benefitOf_35 : decode cM_benefitOf 35 = .ok (.invokevirtual 67, 3) := by decide +kernel
theorem dM_benefitOf_38 : decode cM_benefitOf 38 = .ok (.ifCond .eq 20, 3) := by decide +kernel
theorem dM_benefitOf_41 : decode cM_benefitOf 41 = .ok (.lload_n 2, 1) := by decide +kernel
theorem dM_benefitOf_42 : decode cM_benefitOf 42 = .ok (.aload_n 0, 1) := by decide +kernel
theorem dM_benefitOf_43 : decode cM_benefitOf 43 = .ok (.getfield 31, 3) := by decide +kernel
theorem dM_benefitOf_46 : decode cM_benefitOf 46 = .ok (.iload 4, 2) := by decide +kernel
theorem dM_benefitOf_48 : decode cM_benefitOf 48 = .ok (.laload, 1) := by decide +kernel
theorem dM_benefitOf_49 : decode cM_benefitOf 49 = .ok (.aload_n 0, 1) := by decide +kernel
theorem dM_benefitOf_50 : decode cM_benefitOf 50 = .ok (.getfield 27, 3) := by decide +kernel
theorem dM_benefitOf_53 : decode cM_benefitOf 53 = .ok (.iload_n 1, 1) := by decide +kernel
theorem dM_benefitOf_54 : decode cM_benefitOf 54 = .ok (.laload, 1) := by decide +kernel
theorem dM_benefitOf_55 : decode cM_benefitOf 55 = .ok (.lsub, 1) := by decide +kernel
theorem dM_benefitOf_56 : decode cM_benefitOf 56 = .ok (.ladd, 1) := by decide +kernel
theorem dM_benefitOf_57 : decode cM_benefitOf 57 = .ok (.lstore_n 2, 1) := by decide +kernel
theorem dM_benefitOf_58 : decode cM_benefitOf 58 = .ok (.iinc 4 1, 3) := by decide +kernel
theorem dM_benefitOf_61 : decode cM_benefitOf 61 = .ok (.goto (-56), 3) := by decide +kernel
theorem dM_benefitOf_64 : decode cM_benefitOf 64 = .ok (.lload_n 2, 1) := by decide +kernel
theorem dM_benefitOf_65 : decode cM_benefitOf 65 = .ok (.lreturn, 1) := by decide +kernel
theorem dM_digit_0 : decode cM_digit 0 = .ok (.aload_n 0, 1) := by decide +kernel
theorem dM_digit_1 : decode cM_digit 1 = .ok (.aload_n 0, 1) := by decide +kernel
theorem dM_digit_2 : decode cM_digit 2 = .ok (.iload_n 1, 1) := by decide +kernel
theorem dM_digit_3 : decode cM_digit 3 = .ok (.invokevirtual 71, 3) := by decide +kernel
theorem dM_digit_6 : decode cM_digit 6 = .ok (.ifCond .eq 15, 3) := by decide +kernel
theorem dM_digit_9 : decode cM_digit 9 = .ok (.aload_n 0, 1) := by decide +kernel
theorem dM_digit_10 : decode cM_digit 10 = .ok (.iload_n 2, 1) := by decide +kernel
theorem dM_digit_11 : decode cM_digit 11 = .ok (.invokevirtual 46, 3) := by decide +kernel
theorem dM_digit_14 : decode cM_digit 14 = .ok (.ifCond .eq 7, 3) := by decide +kernel
theorem dM_digit_17 : decode cM_digit 17 = .ok (.iconst 0, 1) := by decide +kernel
theorem dM_digit_18 : decode cM_digit 18 = .ok (.goto 4, 3) := by decide +kernel
theorem dM_digit_21 : decode cM_digit 21 = .ok (.iconst 1, 1) := by decide +kernel
theorem dM_digit_22 : decode cM_digit 22 = .ok (.putfield 34, 3) := by decide +kernel
theorem dM_digit_25 : decode cM_digit 25 = .ok (.aload_n 0, 1) := by decide +kernel
theorem dM_digit_26 : decode cM_digit 26 = .ok (.getfield 34, 3) := by decide +kernel
theorem dM_digit_29 : decode cM_digit 29 = .ok (.ifCond .le 7, 3) := by decide +kernel
theorem dM_digit_32 : decode cM_digit 32 = .ok (.iconst 0, 1) := by decide +kernel
theorem dM_digit_33 : decode cM_digit 33 = .ok (.goto 9, 3) := by decide +kernel
theorem dM_digit_36 : decode cM_digit 36 = .ok (.aload_n 0, 1) := by decide +kernel
theorem dM_digit_37 : decode cM_digit 37 = .ok (.iload_n 1, 1) := by decide +kernel
theorem dM_digit_38 : decode cM_digit 38 = .ok (.iload_n 2, 1) := by decide +kernel
theorem dM_digit_39 : decode cM_digit 39 = .ok (.invokevirtual 58, 3) := by decide +kernel
theorem dM_digit_42 : decode cM_digit 42 = .ok (.ireturn, 1) := by decide +kernel
theorem dM_isAbove_0 : decode cM_isAbove 0 = .ok (.aload_n 0, 1) := by decide +kernel
theorem dM_isAbove_1 : decode cM_isAbove 1 = .ok (.aload_n 0, 1) := by decide +kernel
theorem dM_isAbove_2 : decode cM_isAbove 2 = .ok (.iload_n 1, 1) := by decide +kernel
theorem dM_isAbove_3 : decode cM_isAbove 3 = .ok (.invokevirtual 71, 3) := by decide +kernel
theorem dM_isAbove_6 : decode cM_isAbove 6 = .ok (.ifCond .eq 15, 3) := by decide +kernel
theorem dM_isAbove_9 : decode cM_isAbove 9 = .ok (.aload_n 0, 1) := by decide +kernel
theorem dM_isAbove_10 : decode cM_isAbove 10 = .ok (.iload_n 2, 1) := by decide +kernel
theorem dM_isAbove_11 : decode cM_isAbove 11 = .ok (.invokevirtual 71, 3) := by decide +kernel
theorem dM_isAbove_14 : decode cM_isAbove 14 = .ok (.ifCond .eq 7, 3) := by decide +kernel
theorem dM_isAbove_17 : decode cM_isAbove 17 = .ok (.iconst 0, 1) := by decide +kernel
theorem dM_isAbove_18 : decode cM_isAbove 18 = .ok (.goto 4, 3) := by decide +kernel
theorem dM_isAbove_21 : decode cM_isAbove 21 = .ok (.iconst 1, 1) := by decide +kernel
theorem dM_isAbove_22 : decode cM_isAbove 22 = .ok (.putfield 34, 3) := by decide +kernel
theorem dM_isAbove_25 : decode cM_isAbove 25 = .ok (.aload_n 0, 1) := by decide +kernel
theorem dM_isAbove_26 : decode cM_isAbove 26 = .ok (.getfield 34, 3) := by decide +kernel
theorem dM_isAbove_29 : decode cM_isAbove 29 = .ok (.ifCond .ne 16, 3) := by decide +kernel
theorem dM_isAbove_32 : decode cM_isAbove 32 = .ok (.aload_n 0, 1) := by decide +kernel
theorem dM_isAbove_33 : decode cM_isAbove 33 = .ok (.iload_n 1, 1) := by decide +kernel
theorem dM_isAbove_34 : decode cM_isAbove 34 = .ok (.iload_n 2, 1) := by decide +kernel
theorem dM_isAbove_35 : decode cM_isAbove 35 = .ok (.invokevirtual 67, 3) := by decide +kernel
theorem dM_isAbove_38 : decode cM_isAbove 38 = .ok (.ifCond .eq 7, 3) := by decide +kernel
theorem dM_isAbove_41 : decode cM_isAbove 41 = .ok (.iconst 1, 1) := by decide +kernel
theorem dM_isAbove_42 : decode cM_isAbove 42 = .ok (.goto 4, 3) := by decide +kernel
theorem dM_isAbove_45 : decode cM_isAbove 45 = .ok (.iconst 0, 1) := by decide +kernel
theorem dM_isAbove_46 : decode cM_isAbove 46 = .ok (.ireturn, 1) := by decide +kernel
theorem dM_told_0 : decode cM_told 0 = .ok (.aload_n 0, 1) := by decide +kernel
theorem dM_told_1 : decode cM_told 1 = .ok (.aload_n 0, 1) := by decide +kernel
theorem dM_told_2 : decode cM_told 2 = .ok (.iload_n 1, 1) := by decide +kernel
theorem dM_told_3 : decode cM_told 3 = .ok (.invokevirtual 71, 3) := by decide +kernel
theorem dM_told_6 : decode cM_told 6 = .ok (.ifCond .eq 16, 3) := by decide +kernel
theorem dM_told_9 : decode cM_told 9 = .ok (.iload_n 2, 1) := by decide +kernel
theorem dM_told_10 : decode cM_told 10 = .ok (.ifCond .lt 12, 3) := by decide +kernel
theorem dM_told_13 : decode cM_told 13 = .ok (.iload_n 2, 1) := by decide +kernel
theorem dM_told_14 : decode cM_told 14 = .ok (.iconst 2, 1) := by decide +kernel
theorem dM_told_15 : decode cM_told 15 = .ok (.if_icmp .gt 7, 3) := by decide +kernel
theorem dM_told_18 : decode cM_told 18 = .ok (.iconst 0, 1) := by decide +kernel
theorem dM_told_19 : decode cM_told 19 = .ok (.goto 4, 3) := by decide +kernel
theorem dM_told_22 : decode cM_told 22 = .ok (.iconst 1, 1) := by decide +kernel
theorem dM_told_23 : decode cM_told 23 = .ok (.putfield 34, 3) := by decide +kernel
theorem dM_told_26 : decode cM_told 26 = .ok (.aload_n 0, 1) := by decide +kernel
theorem dM_told_27 : decode cM_told 27 = .ok (.getfield 34, 3) := by decide +kernel
theorem dM_told_30 : decode cM_told 30 = .ok (.ifCond .le 5, 3) := by decide +kernel
theorem dM_told_33 : decode cM_told 33 = .ok (.lconst 0, 1) := by decide +kernel
theorem dM_told_34 : decode cM_told 34 = .ok (.lreturn, 1) := by decide +kernel
theorem dM_told_35 : decode cM_told 35 = .ok (.aload_n 0, 1) := by decide +kernel
theorem dM_told_36 : decode cM_told 36 = .ok (.invokevirtual 74, 3) := by decide +kernel
theorem dM_told_39 : decode cM_told 39 = .ok (.iload_n 2, 1) := by decide +kernel
theorem dM_told_40 : decode cM_told 40 = .ok (.ifCond .ne 12, 3) := by decide +kernel
theorem dM_told_43 : decode cM_told 43 = .ok (.aload_n 0, 1) := by decide +kernel
theorem dM_told_44 : decode cM_told 44 = .ok (.getfield 27, 3) := by decide +kernel
theorem dM_told_47 : decode cM_told 47 = .ok (.iload_n 1, 1) := by decide +kernel
theorem dM_told_48 : decode cM_told 48 = .ok (.laload, 1) := by decide +kernel
theorem dM_told_49 : decode cM_told 49 = .ok (.goto 22, 3) := by decide +kernel
theorem dM_told_52 : decode cM_told 52 = .ok (.iload_n 2, 1) := by decide +kernel
theorem dM_told_53 : decode cM_told 53 = .ok (.iconst 1, 1) := by decide +kernel
theorem dM_told_54 : decode cM_told 54 = .ok (.if_icmp .ne 12, 3) := by decide +kernel
theorem dM_told_57 : decode cM_told 57 = .ok (.aload_n 0, 1) := by decide +kernel
theorem dM_told_58 : decode cM_told 58 = .ok (.getfield 31, 3) := by decide +kernel
theorem dM_told_61 : decode cM_told 61 = .ok (.iload_n 1, 1) := by decide +kernel
theorem dM_told_62 : decode cM_told 62 = .ok (.laload, 1) := by decide +kernel
theorem dM_told_63 : decode cM_told 63 = .ok (.goto 8, 3) := by decide +kernel
theorem dM_told_66 : decode cM_told 66 = .ok (.aload_n 0, 1) := by decide +kernel
theorem dM_told_67 : decode cM_told 67 = .ok (.iload_n 1, 1) := by decide +kernel
theorem dM_told_68 : decode cM_told 68 = .ok (.invokevirtual 77, 3) := by decide +kernel
theorem dM_told_71 : decode cM_told 71 = .ok (.lreturn, 1) := by decide +kernel
theorem dM_take_0 : decode cM_take 0 = .ok (.aload_n 0, 1) := by decide +kernel
theorem dM_take_1 : decode cM_take 1 = .ok (.aload_n 0, 1) := by decide +kernel
theorem dM_take_2 : decode cM_take 2 = .ok (.iload_n 1, 1) := by decide +kernel
theorem dM_take_3 : decode cM_take 3 = .ok (.invokevirtual 71, 3) := by decide +kernel
theorem dM_take_6 : decode cM_take 6 = .ok (.ifCond .ne 7, 3) := by decide +kernel
theorem dM_take_9 : decode cM_take 9 = .ok (.iconst 1, 1) := by decide +kernel
theorem dM_take_10 : decode cM_take 10 = .ok (.goto 17, 3) := by decide +kernel
theorem dM_take_13 : decode cM_take 13 = .ok (.aload_n 0, 1) := by decide +kernel
theorem dM_take_14 : decode cM_take 14 = .ok (.getfield 40, 3) := by decide +kernel
theorem dM_take_17 : decode cM_take 17 = .ok (.bipush 16, 2) := by decide +kernel
theorem dM_take_19 : decode cM_take 19 = .ok (.if_icmp .ne 7, 3) := by decide +kernel
theorem dM_take_22 : decode cM_take 22 = .ok (.iconst 2, 1) := by decide +kernel
theorem dM_take_23 : decode cM_take 23 = .ok (.goto 4, 3) := by decide +kernel
theorem dM_take_26 : decode cM_take 26 = .ok (.iconst 0, 1) := by decide +kernel
theorem dM_take_27 : decode cM_take 27 = .ok (.putfield 34, 3) := by decide +kernel
theorem dM_take_30 : decode cM_take 30 = .ok (.aload_n 0, 1) := by decide +kernel
theorem dM_take_31 : decode cM_take 31 = .ok (.getfield 34, 3) := by decide +kernel
theorem dM_take_34 : decode cM_take 34 = .ok (.ifCond .le 5, 3) := by decide +kernel
theorem dM_take_37 : decode cM_take 37 = .ok (.iconst 0, 1) := by decide +kernel
theorem dM_take_38 : decode cM_take 38 = .ok (.ireturn, 1) := by decide +kernel
theorem dM_take_39 : decode cM_take 39 = .ok (.aload_n 0, 1) := by decide +kernel
theorem dM_take_40 : decode cM_take 40 = .ok (.getfield 20, 3) := by decide +kernel
theorem dM_take_43 : decode cM_take 43 = .ok (.aload_n 0, 1) := by decide +kernel
theorem dM_take_44 : decode cM_take 44 = .ok (.getfield 40, 3) := by decide +kernel
theorem dM_take_47 : decode cM_take 47 = .ok (.iload_n 1, 1) := by decide +kernel
theorem dM_take_48 : decode cM_take 48 = .ok (.iastore, 1) := by decide +kernel
theorem dM_take_49 : decode cM_take 49 = .ok (.aload_n 0, 1) := by decide +kernel
theorem dM_take_50 : decode cM_take 50 = .ok (.dup, 1) := by decide +kernel
theorem dM_take_51 : decode cM_take 51 = .ok (.getfield 40, 3) := by decide +kernel
theorem dM_take_54 : decode cM_take 54 = .ok (.iconst 1, 1) := by decide +kernel
theorem dM_take_55 : decode cM_take 55 = .ok (.iadd, 1) := by decide +kernel
theorem dM_take_56 : decode cM_take 56 = .ok (.putfield 40, 3) := by decide +kernel
theorem dM_take_59 : decode cM_take 59 = .ok (.aload_n 0, 1) := by decide +kernel
theorem dM_take_60 : decode cM_take 60 = .ok (.getfield 40, 3) := by decide +kernel
theorem dM_take_63 : decode cM_take 63 = .ok (.ireturn, 1) := by decide +kernel
theorem dM_choosesOne_0 : decode cM_choosesOne 0 = .ok (.aload_n 0, 1) := by decide +kernel
theorem dM_choosesOne_1 : decode cM_choosesOne 1 = .ok (.invokevirtual 74, 3) := by decide +kernel
theorem dM_choosesOne_4 : decode cM_choosesOne 4 = .ok (.iconst (-1), 1) := by decide +kernel
theorem dM_choosesOne_5 : decode cM_choosesOne 5 = .ok (.istore_n 1, 1) := by decide +kernel
theorem dM_choosesOne_6 : decode cM_choosesOne 6 = .ok (.lconst 0, 1) := by decide +kernel
theorem dM_choosesOne_7 : decode cM_choosesOne 7 = .ok (.lstore_n 2, 1) := by decide +kernel
theorem dM_choosesOne_8 : decode cM_choosesOne 8 = .ok (.iconst 0, 1) := by decide +kernel
theorem dM_choosesOne_9 : decode cM_choosesOne 9 = .ok (.istore 4, 2) := by decide +kernel
theorem dM_choosesOne_11 : decode cM_choosesOne 11 = .ok (.iload 4, 2) := by decide +kernel
theorem dM_choosesOne_13 : decode cM_choosesOne 13 = .ok (.aload_n 0, 1) := by decide +kernel
theorem dM_choosesOne_14 : decode cM_choosesOne 14 = .ok (.getfield 16, 3) := by decide +kernel
theorem dM_choosesOne_17 : decode cM_choosesOne 17 = .ok (.if_icmp .ge 30, 3) := by decide +kernel
theorem dM_choosesOne_20 : decode cM_choosesOne 20 = .ok (.aload_n 0, 1) := by decide +kernel
theorem dM_choosesOne_21 : decode cM_choosesOne 21 = .ok (.iload 4, 2) := by decide +kernel
theorem dM_choosesOne_23 : decode cM_choosesOne 23 = .ok (.invokevirtual 77, 3) := by decide +kernel
theorem dM_choosesOne_26 : decode cM_choosesOne 26 = .ok (.lstore 5, 2) := by decide +kernel
theorem dM_choosesOne_28 : decode cM_choosesOne 28 = .ok (.lload 5, 2) := by decide +kernel
theorem dM_choosesOne_30 : decode cM_choosesOne 30 = .ok (.lload_n 2, 1) := by decide +kernel
theorem dM_choosesOne_31 : decode cM_choosesOne 31 = .ok (.lcmp, 1) := by decide +kernel
theorem dM_choosesOne_32 : decode cM_choosesOne 32 = .ok (.ifCond .le 9, 3) := by decide +kernel
theorem dM_choosesOne_35 : decode cM_choosesOne 35 = .ok (.lload 5, 2) := by decide +kernel
theorem dM_choosesOne_37 : decode cM_choosesOne 37 = .ok (.lstore_n 2, 1) := by decide +kernel
theorem dM_choosesOne_38 : decode cM_choosesOne 38 = .ok (.iload 4, 2) := by decide +kernel
theorem dM_choosesOne_40 : decode cM_choosesOne 40 = .ok (.istore_n 1, 1) := by decide +kernel
theorem dM_choosesOne_41 : decode cM_choosesOne 41 = .ok (.iinc 4 1, 3) := by decide +kernel
theorem dM_choosesOne_44 : decode cM_choosesOne 44 = .ok (.goto (-33), 3) := by decide +kernel
theorem dM_choosesOne_47 : decode cM_choosesOne 47 = .ok (.iload_n 1, 1) := by decide +kernel
theorem dM_choosesOne_48 : decode cM_choosesOne 48 = .ok (.ifCond .lt 23, 3) := by decide +kernel
theorem dM_choosesOne_51 : decode cM_choosesOne 51 = .ok (.aload_n 0, 1) := by decide +kernel
theorem dM_choosesOne_52 : decode cM_choosesOne 52 = .ok (.getfield 20, 3) := by decide +kernel
theorem dM_choosesOne_55 : decode cM_choosesOne 55 = .ok (.aload_n 0, 1) := by decide +kernel
theorem dM_choosesOne_56 : decode cM_choosesOne 56 = .ok (.getfield 40, 3) := by decide +kernel
theorem dM_choosesOne_59 : decode cM_choosesOne 59 = .ok (.iload_n 1, 1) := by decide +kernel
theorem dM_choosesOne_60 : decode cM_choosesOne 60 = .ok (.iastore, 1) := by decide +kernel
theorem dM_choosesOne_61 : decode cM_choosesOne 61 = .ok (.aload_n 0, 1) := by decide +kernel
theorem dM_choosesOne_62 : decode cM_choosesOne 62 = .ok (.dup, 1) := by decide +kernel
theorem dM_choosesOne_63 : decode cM_choosesOne 63 = .ok (.getfield 40, 3) := by decide +kernel
theorem dM_choosesOne_66 : decode cM_choosesOne 66 = .ok (.iconst 1, 1) := by decide +kernel
theorem dM_choosesOne_67 : decode cM_choosesOne 67 = .ok (.iadd, 1) := by decide +kernel
theorem dM_choosesOne_68 : decode cM_choosesOne 68 = .ok (.putfield 40, 3) := by decide +kernel
theorem dM_choosesOne_71 : decode cM_choosesOne 71 = .ok (.iload_n 1, 1) := by decide +kernel
theorem dM_choosesOne_72 : decode cM_choosesOne 72 = .ok (.ireturn, 1) := by decide +kernel
theorem dM_step_0 : decode cM_step 0 = .ok (.aload_n 0, 1) := by decide +kernel
theorem dM_step_1 : decode cM_step 1 = .ok (.aload_n 0, 1) := by decide +kernel
theorem dM_step_2 : decode cM_step 2 = .ok (.getfield 40, 3) := by decide +kernel
theorem dM_step_5 : decode cM_step 5 = .ok (.bipush 16, 2) := by decide +kernel
theorem dM_step_7 : decode cM_step 7 = .ok (.if_icmp .ne 7, 3) := by decide +kernel
theorem dM_step_10 : decode cM_step 10 = .ok (.iconst 1, 1) := by decide +kernel
theorem dM_step_11 : decode cM_step 11 = .ok (.goto 4, 3) := by decide +kernel
theorem dM_step_14 : decode cM_step 14 = .ok (.iconst 0, 1) := by decide +kernel
theorem dM_step_15 : decode cM_step 15 = .ok (.putfield 34, 3) := by decide +kernel
theorem dM_step_18 : decode cM_step 18 = .ok (.aload_n 0, 1) := by decide +kernel
theorem dM_step_19 : decode cM_step 19 = .ok (.getfield 34, 3) := by decide +kernel
theorem dM_step_22 : decode cM_step 22 = .ok (.ifCond .le 7, 3) := by decide +kernel
theorem dM_step_25 : decode cM_step 25 = .ok (.iconst 0, 1) := by decide +kernel
theorem dM_step_26 : decode cM_step 26 = .ok (.goto 7, 3) := by decide +kernel
theorem dM_step_29 : decode cM_step 29 = .ok (.aload_n 0, 1) := by decide +kernel
theorem dM_step_30 : decode cM_step 30 = .ok (.invokevirtual 80, 3) := by decide +kernel
theorem dM_step_33 : decode cM_step 33 = .ok (.ireturn, 1) := by decide +kernel
theorem dM_choose_0 : decode cM_choose 0 = .ok (.aload_n 0, 1) := by decide +kernel
theorem dM_choose_1 : decode cM_choose 1 = .ok (.iload_n 1, 1) := by decide +kernel
theorem dM_choose_2 : decode cM_choose 2 = .ok (.ifCond .lt 9, 3) := by decide +kernel
theorem dM_choose_5 : decode cM_choose 5 = .ok (.iload_n 1, 1) := by decide +kernel
theorem dM_choose_6 : decode cM_choose 6 = .ok (.bipush 16, 2) := by decide +kernel
theorem dM_choose_8 : decode cM_choose 8 = .ok (.if_icmp .le 7, 3) := by decide +kernel
theorem dM_choose_11 : decode cM_choose 11 = .ok (.iconst 1, 1) := by decide +kernel
theorem dM_choose_12 : decode cM_choose 12 = .ok (.goto 4, 3) := by decide +kernel
theorem dM_choose_15 : decode cM_choose 15 = .ok (.iconst 0, 1) := by decide +kernel
theorem dM_choose_16 : decode cM_choose 16 = .ok (.putfield 34, 3) := by decide +kernel
theorem dM_choose_19 : decode cM_choose 19 = .ok (.aload_n 0, 1) := by decide +kernel
theorem dM_choose_20 : decode cM_choose 20 = .ok (.getfield 34, 3) := by decide +kernel
theorem dM_choose_23 : decode cM_choose 23 = .ok (.ifCond .le 5, 3) := by decide +kernel
theorem dM_choose_26 : decode cM_choose 26 = .ok (.iconst 0, 1) := by decide +kernel
theorem dM_choose_27 : decode cM_choose 27 = .ok (.ireturn, 1) := by decide +kernel
theorem dM_choose_28 : decode cM_choose 28 = .ok (.iconst 1, 1) := by decide +kernel
theorem dM_choose_29 : decode cM_choose 29 = .ok (.istore_n 2, 1) := by decide +kernel
theorem dM_choose_30 : decode cM_choose 30 = .ok (.iload_n 2, 1) := by decide +kernel
theorem dM_choose_31 : decode cM_choose 31 = .ok (.ifCond .eq 27, 3) := by decide +kernel
theorem dM_choose_34 : decode cM_choose 34 = .ok (.aload_n 0, 1) := by decide +kernel
theorem dM_choose_35 : decode cM_choose 35 = .ok (.getfield 40, 3) := by decide +kernel
theorem dM_choose_38 : decode cM_choose 38 = .ok (.iload_n 1, 1) := by decide +kernel
theorem dM_choose_39 : decode cM_choose 39 = .ok (.if_icmp .ge 19, 3) := by decide +kernel
theorem dM_choose_42 : decode cM_choose 42 = .ok (.aload_n 0, 1) := by decide +kernel
theorem dM_choose_43 : decode cM_choose 43 = .ok (.invokevirtual 80, 3) := by decide +kernel
theorem dM_choose_46 : decode cM_choose 46 = .ok (.ifCond .lt 7, 3) := by decide +kernel
theorem dM_choose_49 : decode cM_choose 49 = .ok (.iconst 1, 1) := by decide +kernel
theorem dM_choose_50 : decode cM_choose 50 = .ok (.goto 4, 3) := by decide +kernel
theorem dM_choose_53 : decode cM_choose 53 = .ok (.iconst 0, 1) := by decide +kernel
theorem dM_choose_54 : decode cM_choose 54 = .ok (.istore_n 2, 1) := by decide +kernel
theorem dM_choose_55 : decode cM_choose 55 = .ok (.goto (-25), 3) := by decide +kernel
theorem dM_choose_58 : decode cM_choose 58 = .ok (.aload_n 0, 1) := by decide +kernel
theorem dM_choose_59 : decode cM_choose 59 = .ok (.getfield 40, 3) := by decide +kernel
theorem dM_choose_62 : decode cM_choose 62 = .ok (.ireturn, 1) := by decide +kernel
theorem dM_chosen_0 : decode cM_chosen 0 = .ok (.aload_n 0, 1) := by decide +kernel
theorem dM_chosen_1 : decode cM_chosen 1 = .ok (.iload_n 1, 1) := by decide +kernel
theorem dM_chosen_2 : decode cM_chosen 2 = .ok (.ifCond .lt 15, 3) := by decide +kernel
theorem dM_chosen_5 : decode cM_chosen 5 = .ok (.iload_n 1, 1) := by decide +kernel
theorem dM_chosen_6 : decode cM_chosen 6 = .ok (.aload_n 0, 1) := by decide +kernel
theorem dM_chosen_7 : decode cM_chosen 7 = .ok (.getfield 40, 3) := by decide +kernel
theorem dM_chosen_10 : decode cM_chosen 10 = .ok (.if_icmp .ge 7, 3) := by decide +kernel
theorem dM_chosen_13 : decode cM_chosen 13 = .ok (.iconst 0, 1) := by decide +kernel
theorem dM_chosen_14 : decode cM_chosen 14 = .ok (.goto 4, 3) := by decide +kernel
theorem dM_chosen_17 : decode cM_chosen 17 = .ok (.iconst 1, 1) := by decide +kernel
theorem dM_chosen_18 : decode cM_chosen 18 = .ok (.putfield 34, 3) := by decide +kernel
theorem dM_chosen_21 : decode cM_chosen 21 = .ok (.aload_n 0, 1) := by decide +kernel
theorem dM_chosen_22 : decode cM_chosen 22 = .ok (.getfield 34, 3) := by decide +kernel
theorem dM_chosen_25 : decode cM_chosen 25 = .ok (.ifCond .le 7, 3) := by decide +kernel
theorem dM_chosen_28 : decode cM_chosen 28 = .ok (.iconst 0, 1) := by decide +kernel
theorem dM_chosen_29 : decode cM_chosen 29 = .ok (.goto 9, 3) := by decide +kernel
theorem dM_chosen_32 : decode cM_chosen 32 = .ok (.aload_n 0, 1) := by decide +kernel
theorem dM_chosen_33 : decode cM_chosen 33 = .ok (.getfield 20, 3) := by decide +kernel
theorem dM_chosen_36 : decode cM_chosen 36 = .ok (.iload_n 1, 1) := by decide +kernel
theorem dM_chosen_37 : decode cM_chosen 37 = .ok (.iaload, 1) := by decide +kernel
theorem dM_chosen_38 : decode cM_chosen 38 = .ok (.ireturn, 1) := by decide +kernel
theorem dM_drop_0 : decode cM_drop 0 = .ok (.aload_n 0, 1) := by decide +kernel
theorem dM_drop_1 : decode cM_drop 1 = .ok (.iconst 0, 1) := by decide +kernel
theorem dM_drop_2 : decode cM_drop 2 = .ok (.putfield 34, 3) := by decide +kernel
theorem dM_drop_5 : decode cM_drop 5 = .ok (.aload_n 0, 1) := by decide +kernel
theorem dM_drop_6 : decode cM_drop 6 = .ok (.getfield 40, 3) := by decide +kernel
theorem dM_drop_9 : decode cM_drop 9 = .ok (.istore_n 1, 1) := by decide +kernel
theorem dM_drop_10 : decode cM_drop 10 = .ok (.aload_n 0, 1) := by decide +kernel
theorem dM_drop_11 : decode cM_drop 11 = .ok (.iconst 0, 1) := by decide +kernel
theorem dM_drop_12 : decode cM_drop 12 = .ok (.putfield 40, 3) := by decide +kernel
theorem dM_drop_15 : decode cM_drop 15 = .ok (.iload_n 1, 1) := by decide +kernel
theorem dM_drop_16 : decode cM_drop 16 = .ok (.ireturn, 1) := by decide +kernel
theorem dM_total_0 : decode cM_total 0 = .ok (.aload_n 0, 1) := by decide +kernel
theorem dM_total_1 : decode cM_total 1 = .ok (.iconst 0, 1) := by decide +kernel
theorem dM_total_2 : decode cM_total 2 = .ok (.putfield 34, 3) := by decide +kernel
theorem dM_total_5 : decode cM_total 5 = .ok (.aload_n 0, 1) := by decide +kernel
theorem dM_total_6 : decode cM_total 6 = .ok (.invokevirtual 74, 3) := by decide +kernel
theorem dM_total_9 : decode cM_total 9 = .ok (.lconst 0, 1) := by decide +kernel
theorem dM_total_10 : decode cM_total 10 = .ok (.lstore_n 1, 1) := by decide +kernel
theorem dM_total_11 : decode cM_total 11 = .ok (.iconst 0, 1) := by decide +kernel
theorem dM_total_12 : decode cM_total 12 = .ok (.istore_n 3, 1) := by decide +kernel
theorem dM_total_13 : decode cM_total 13 = .ok (.iload_n 3, 1) := by decide +kernel
theorem dM_total_14 : decode cM_total 14 = .ok (.aload_n 0, 1) := by decide +kernel
theorem dM_total_15 : decode cM_total 15 = .ok (.getfield 16, 3) := by decide +kernel
theorem dM_total_18 : decode cM_total 18 = .ok (.if_icmp .ge 18, 3) := by decide +kernel
theorem dM_total_21 : decode cM_total 21 = .ok (.lload_n 1, 1) := by decide +kernel
theorem dM_total_22 : decode cM_total 22 = .ok (.aload_n 0, 1) := by decide +kernel
theorem dM_total_23 : decode cM_total 23 = .ok (.getfield 31, 3) := by decide +kernel
theorem dM_total_26 : decode cM_total 26 = .ok (.iload_n 3, 1) := by decide +kernel
theorem dM_total_27 : decode cM_total 27 = .ok (.laload, 1) := by decide +kernel
theorem dM_total_28 : decode cM_total 28 = .ok (.ladd, 1) := by decide +kernel
theorem dM_total_29 : decode cM_total 29 = .ok (.lstore_n 1, 1) := by decide +kernel
theorem dM_total_30 : decode cM_total 30 = .ok (.iinc 3 1, 3) := by decide +kernel
theorem dM_total_33 : decode cM_total 33 = .ok (.goto (-20), 3) := by decide +kernel
theorem dM_total_36 : decode cM_total 36 = .ok (.lload_n 1, 1) := by decide +kernel
theorem dM_total_37 : decode cM_total 37 = .ok (.lreturn, 1) := by decide +kernel
end
section
/-! decode rows: by program -/
theorem dL_dimension_0 : decode cL_dimension 0 = .ok (.aload_n 2, 1) := by decide +kernel
theorem dL_dimension_1 : decode cL_dimension 1 = .ok (.iconst 0, 1) := by decide +kernel
theorem dL_dimension_2 : decode cL_dimension 2 = .ok (.aload_n 0, 1) := by decide +kernel
theorem dL_dimension_3 : decode cL_dimension 3 = .ok (.iload_n 1, 1) := by decide +kernel
theorem dL_dimension_4 : decode cL_dimension 4 = .ok (.invokevirtual 7, 3) := by decide +kernel
theorem dL_dimension_7 : decode cL_dimension 7 = .ok (.i2l, 1) := by decide +kernel
theorem dL_dimension_8 : decode cL_dimension 8 = .ok (.lastore, 1) := by decide +kernel
theorem dL_dimension_9 : decode cL_dimension 9 = .ok (.goto 9, 3) := by decide +kernel
theorem dL_dimension_12 : decode cL_dimension 12 = .ok (.astore_n 3, 1) := by decide +kernel
theorem dL_dimension_13 : decode cL_dimension 13 = .ok (.iconst 1, 1) := by decide +kernel
theorem dL_dimension_14 : decode cL_dimension 14 = .ok (.ireturn, 1) := by decide +kernel
theorem dL_dimension_15 : decode cL_dimension 15 = .ok (.astore_n 3, 1) := by decide +kernel
theorem dL_dimension_16 : decode cL_dimension 16 = .ok (.iconst 2, 1) := by decide +kernel
theorem dL_dimension_17 : decode cL_dimension 17 = .ok (.ireturn, 1) := by decide +kernel
theorem dL_dimension_18 : decode cL_dimension 18 = .ok (.iconst 0, 1) := by decide +kernel
theorem dL_dimension_19 : decode cL_dimension 19 = .ok (.ireturn, 1) := by decide +kernel
theorem dL_values_0 : decode cL_values 0 = .ok (.aload 4, 2) := by decide +kernel
theorem dL_values_2 : decode cL_values 2 = .ok (.iconst 0, 1) := by decide +kernel
theorem dL_values_3 : decode cL_values 3 = .ok (.aload_n 0, 1) := by decide +kernel
theorem dL_values_4 : decode cL_values 4 = .ok (.iload_n 1, 1) := by decide +kernel
theorem dL_values_5 : decode cL_values 5 = .ok (.iload_n 2, 1) := by decide +kernel
theorem dL_values_6 : decode cL_values 6 = .ok (.iload_n 3, 1) := by decide +kernel
theorem dL_values_7 : decode cL_values 7 = .ok (.invokevirtual 17, 3) := by decide +kernel
theorem dL_values_10 : decode cL_values 10 = .ok (.i2l, 1) := by decide +kernel
theorem dL_values_11 : decode cL_values 11 = .ok (.lastore, 1) := by decide +kernel
theorem dL_values_12 : decode cL_values 12 = .ok (.goto 7, 3) := by decide +kernel
theorem dL_values_15 : decode cL_values 15 = .ok (.astore 5, 2) := by decide +kernel
theorem dL_values_17 : decode cL_values 17 = .ok (.iconst 1, 1) := by decide +kernel
theorem dL_values_18 : decode cL_values 18 = .ok (.ireturn, 1) := by decide +kernel
theorem dL_values_19 : decode cL_values 19 = .ok (.iconst 0, 1) := by decide +kernel
theorem dL_values_20 : decode cL_values 20 = .ok (.ireturn, 1) := by decide +kernel
theorem dL_facts_0 : decode cL_facts 0 = .ok (.aload_n 2, 1) := by decide +kernel
theorem dL_facts_1 : decode cL_facts 1 = .ok (.iconst 0, 1) := by decide +kernel
theorem dL_facts_2 : decode cL_facts 2 = .ok (.aload_n 0, 1) := by decide +kernel
theorem dL_facts_3 : decode cL_facts 3 = .ok (.iload_n 1, 1) := by decide +kernel
theorem dL_facts_4 : decode cL_facts 4 = .ok (.invokevirtual 21, 3) := by decide +kernel
theorem dL_facts_7 : decode cL_facts 7 = .ok (.i2l, 1) := by decide +kernel
theorem dL_facts_8 : decode cL_facts 8 = .ok (.lastore, 1) := by decide +kernel
theorem dL_facts_9 : decode cL_facts 9 = .ok (.goto 6, 3) := by decide +kernel
theorem dL_facts_12 : decode cL_facts 12 = .ok (.astore_n 3, 1) := by decide +kernel
theorem dL_facts_13 : decode cL_facts 13 = .ok (.iconst 1, 1) := by decide +kernel
theorem dL_facts_14 : decode cL_facts 14 = .ok (.ireturn, 1) := by decide +kernel
theorem dL_facts_15 : decode cL_facts 15 = .ok (.iconst 0, 1) := by decide +kernel
theorem dL_facts_16 : decode cL_facts 16 = .ok (.ireturn, 1) := by decide +kernel
theorem dL_digit_0 : decode cL_digit 0 = .ok (.aload_n 3, 1) := by decide +kernel
theorem dL_digit_1 : decode cL_digit 1 = .ok (.iconst 0, 1) := by decide +kernel
theorem dL_digit_2 : decode cL_digit 2 = .ok (.aload_n 0, 1) := by decide +kernel
theorem dL_digit_3 : decode cL_digit 3 = .ok (.iload_n 1, 1) := by decide +kernel
theorem dL_digit_4 : decode cL_digit 4 = .ok (.iload_n 2, 1) := by decide +kernel
theorem dL_digit_5 : decode cL_digit 5 = .ok (.invokevirtual 24, 3) := by decide +kernel
theorem dL_digit_8 : decode cL_digit 8 = .ok (.i2l, 1) := by decide +kernel
theorem dL_digit_9 : decode cL_digit 9 = .ok (.lastore, 1) := by decide +kernel
theorem dL_digit_10 : decode cL_digit 10 = .ok (.goto 7, 3) := by decide +kernel
theorem dL_digit_13 : decode cL_digit 13 = .ok (.astore 4, 2) := by decide +kernel
theorem dL_digit_15 : decode cL_digit 15 = .ok (.iconst 1, 1) := by decide +kernel
theorem dL_digit_16 : decode cL_digit 16 = .ok (.ireturn, 1) := by decide +kernel
theorem dL_digit_17 : decode cL_digit 17 = .ok (.iconst 0, 1) := by decide +kernel
theorem dL_digit_18 : decode cL_digit 18 = .ok (.ireturn, 1) := by decide +kernel
theorem dL_isAbove_0 : decode cL_isAbove 0 = .ok (.aload_n 3, 1) := by decide +kernel
theorem dL_isAbove_1 : decode cL_isAbove 1 = .ok (.iconst 0, 1) := by decide +kernel
theorem dL_isAbove_2 : decode cL_isAbove 2 = .ok (.aload_n 0, 1) := by decide +kernel
theorem dL_isAbove_3 : decode cL_isAbove 3 = .ok (.iload_n 1, 1) := by decide +kernel
theorem dL_isAbove_4 : decode cL_isAbove 4 = .ok (.iload_n 2, 1) := by decide +kernel
theorem dL_isAbove_5 : decode cL_isAbove 5 = .ok (.invokevirtual 28, 3) := by decide +kernel
theorem dL_isAbove_8 : decode cL_isAbove 8 = .ok (.ifCond .eq 7, 3) := by decide +kernel
theorem dL_isAbove_11 : decode cL_isAbove 11 = .ok (.lconst 1, 1) := by decide +kernel
theorem dL_isAbove_12 : decode cL_isAbove 12 = .ok (.goto 4, 3) := by decide +kernel
theorem dL_isAbove_15 : decode cL_isAbove 15 = .ok (.lconst 0, 1) := by decide +kernel
theorem dL_isAbove_16 : decode cL_isAbove 16 = .ok (.lastore, 1) := by decide +kernel
theorem dL_isAbove_17 : decode cL_isAbove 17 = .ok (.goto 7, 3) := by decide +kernel
theorem dL_isAbove_20 : decode cL_isAbove 20 = .ok (.astore 4, 2) := by decide +kernel
theorem dL_isAbove_22 : decode cL_isAbove 22 = .ok (.iconst 1, 1) := by decide +kernel
theorem dL_isAbove_23 : decode cL_isAbove 23 = .ok (.ireturn, 1) := by decide +kernel
theorem dL_isAbove_24 : decode cL_isAbove 24 = .ok (.iconst 0, 1) := by decide +kernel
theorem dL_isAbove_25 : decode cL_isAbove 25 = .ok (.ireturn, 1) := by decide +kernel
theorem dL_told_0 : decode cL_told 0 = .ok (.aload_n 3, 1) := by decide +kernel
theorem dL_told_1 : decode cL_told 1 = .ok (.iconst 0, 1) := by decide +kernel
theorem dL_told_2 : decode cL_told 2 = .ok (.aload_n 0, 1) := by decide +kernel
theorem dL_told_3 : decode cL_told 3 = .ok (.iload_n 1, 1) := by decide +kernel
theorem dL_told_4 : decode cL_told 4 = .ok (.iload_n 2, 1) := by decide +kernel
theorem dL_told_5 : decode cL_told 5 = .ok (.invokevirtual 32, 3) := by decide +kernel
theorem dL_told_8 : decode cL_told 8 = .ok (.lastore, 1) := by decide +kernel
theorem dL_told_9 : decode cL_told 9 = .ok (.goto 7, 3) := by decide +kernel
theorem dL_told_12 : decode cL_told 12 = .ok (.astore 4, 2) := by decide +kernel
theorem dL_told_14 : decode cL_told 14 = .ok (.iconst 1, 1) := by decide +kernel
theorem dL_told_15 : decode cL_told 15 = .ok (.ireturn, 1) := by decide +kernel
theorem dL_told_16 : decode cL_told 16 = .ok (.iconst 0, 1) := by decide +kernel
theorem dL_told_17 : decode cL_told 17 = .ok (.ireturn, 1) := by decide +kernel
theorem dL_take_0 : decode cL_take 0 = .ok (.aload_n 2, 1) := by decide +kernel
theorem dL_take_1 : decode cL_take 1 = .ok (.iconst 0, 1) := by decide +kernel
theorem dL_take_2 : decode cL_take 2 = .ok (.aload_n 0, 1) := by decide +kernel
theorem dL_take_3 : decode cL_take 3 = .ok (.iload_n 1, 1) := by decide +kernel
theorem dL_take_4 : decode cL_take 4 = .ok (.invokevirtual 36, 3) := by decide +kernel
theorem dL_take_7 : decode cL_take 7 = .ok (.i2l, 1) := by decide +kernel
theorem dL_take_8 : decode cL_take 8 = .ok (.lastore, 1) := by decide +kernel
theorem dL_take_9 : decode cL_take 9 = .ok (.goto 9, 3) := by decide +kernel
theorem dL_take_12 : decode cL_take 12 = .ok (.astore_n 3, 1) := by decide +kernel
theorem dL_take_13 : decode cL_take 13 = .ok (.iconst 1, 1) := by decide +kernel
theorem dL_take_14 : decode cL_take 14 = .ok (.ireturn, 1) := by decide +kernel
theorem dL_take_15 : decode cL_take 15 = .ok (.astore_n 3, 1) := by decide +kernel
theorem dL_take_16 : decode cL_take 16 = .ok (.iconst 2, 1) := by decide +kernel
theorem dL_take_17 : decode cL_take 17 = .ok (.ireturn, 1) := by decide +kernel
theorem dL_take_18 : decode cL_take 18 = .ok (.iconst 0, 1) := by decide +kernel
theorem dL_take_19 : decode cL_take 19 = .ok (.ireturn, 1) := by decide +kernel
theorem dL_step_0 : decode cL_step 0 = .ok (.aload_n 1, 1) := by decide +kernel
theorem dL_step_1 : decode cL_step 1 = .ok (.iconst 0, 1) := by decide +kernel
theorem dL_step_2 : decode cL_step 2 = .ok (.aload_n 0, 1) := by decide +kernel
theorem dL_step_3 : decode cL_step 3 = .ok (.invokevirtual 39, 3) := by decide +kernel
theorem dL_step_6 : decode cL_step 6 = .ok (.i2l, 1) := by decide +kernel
theorem dL_step_7 : decode cL_step 7 = .ok (.lastore, 1) := by decide +kernel
theorem dL_step_8 : decode cL_step 8 = .ok (.goto 6, 3) := by decide +kernel
theorem dL_step_11 : decode cL_step 11 = .ok (.astore_n 2, 1) := by decide +kernel
theorem dL_step_12 : decode cL_step 12 = .ok (.iconst 1, 1) := by decide +kernel
theorem dL_step_13 : decode cL_step 13 = .ok (.ireturn, 1) := by decide +kernel
theorem dL_step_14 : decode cL_step 14 = .ok (.iconst 0, 1) := by decide +kernel
theorem dL_step_15 : decode cL_step 15 = .ok (.ireturn, 1) := by decide +kernel
theorem dL_choose_0 : decode cL_choose 0 = .ok (.aload_n 2, 1) := by decide +kernel
theorem dL_choose_1 : decode cL_choose 1 = .ok (.iconst 0, 1) := by decide +kernel
theorem dL_choose_2 : decode cL_choose 2 = .ok (.aload_n 0, 1) := by decide +kernel
theorem dL_choose_3 : decode cL_choose 3 = .ok (.iload_n 1, 1) := by decide +kernel
theorem dL_choose_4 : decode cL_choose 4 = .ok (.invokevirtual 43, 3) := by decide +kernel
theorem dL_choose_7 : decode cL_choose 7 = .ok (.i2l, 1) := by decide +kernel
theorem dL_choose_8 : decode cL_choose 8 = .ok (.lastore, 1) := by decide +kernel
theorem dL_choose_9 : decode cL_choose 9 = .ok (.goto 6, 3) := by decide +kernel
theorem dL_choose_12 : decode cL_choose 12 = .ok (.astore_n 3, 1) := by decide +kernel
theorem dL_choose_13 : decode cL_choose 13 = .ok (.iconst 1, 1) := by decide +kernel
theorem dL_choose_14 : decode cL_choose 14 = .ok (.ireturn, 1) := by decide +kernel
theorem dL_choose_15 : decode cL_choose 15 = .ok (.iconst 0, 1) := by decide +kernel
theorem dL_choose_16 : decode cL_choose 16 = .ok (.ireturn, 1) := by decide +kernel
theorem dL_chosen_0 : decode cL_chosen 0 = .ok (.aload_n 2, 1) := by decide +kernel
theorem dL_chosen_1 : decode cL_chosen 1 = .ok (.iconst 0, 1) := by decide +kernel
theorem dL_chosen_2 : decode cL_chosen 2 = .ok (.aload_n 0, 1) := by decide +kernel
theorem dL_chosen_3 : decode cL_chosen 3 = .ok (.iload_n 1, 1) := by decide +kernel
theorem dL_chosen_4 : decode cL_chosen 4 = .ok (.invokevirtual 46, 3) := by decide +kernel
theorem dL_chosen_7 : decode cL_chosen 7 = .ok (.i2l, 1) := by decide +kernel
theorem dL_chosen_8 : decode cL_chosen 8 = .ok (.lastore, 1) := by decide +kernel
theorem dL_chosen_9 : decode cL_chosen 9 = .ok (.goto 6, 3) := by decide +kernel
theorem dL_chosen_12 : decode cL_chosen 12 = .ok (.astore_n 3, 1) := by decide +kernel
theorem dL_chosen_13 : decode cL_chosen 13 = .ok (.iconst 1, 1) := by decide +kernel
theorem dL_chosen_14 : decode cL_chosen 14 = .ok (.ireturn, 1) := by decide +kernel
theorem dL_chosen_15 : decode cL_chosen 15 = .ok (.iconst 0, 1) := by decide +kernel
theorem dL_chosen_16 : decode cL_chosen 16 = .ok (.ireturn, 1) := by decide +kernel
end
section
/-! decode rows of the law: by program -/
theorem dL_law_0 : decode cL_law 0 = .ok (.new 8, 3) := by decide +kernel
theorem dL_law_3 : decode cL_law 3 = .ok (.dup, 1) := by decide +kernel
theorem dL_law_4 : decode cL_law 4 = .ok (.invokespecial 49, 3) := by decide +kernel
theorem dL_law_7 : decode cL_law 7 = .ok (.astore_n 1, 1) := by decide +kernel
theorem dL_law_8 : decode cL_law 8 = .ok (.new 50, 3) := by decide +kernel
theorem dL_law_11 : decode cL_law 11 = .ok (.dup, 1) := by decide +kernel
theorem dL_law_12 : decode cL_law 12 = .ok (.invokespecial 52, 3) := by decide +kernel
theorem dL_law_15 : decode cL_law 15 = .ok (.astore_n 2, 1) := by decide +kernel
theorem dL_law_16 : decode cL_law 16 = .ok (.iconst 1, 1) := by decide +kernel
theorem dL_law_17 : decode cL_law 17 = .ok (.newarray .long, 2) := by decide +kernel
theorem dL_law_19 : decode cL_law 19 = .ok (.astore_n 3, 1) := by decide +kernel
theorem dL_law_20 : decode cL_law 20 = .ok (.iconst 0, 1) := by decide +kernel
theorem dL_law_21 : decode cL_law 21 = .ok (.istore 4, 2) := by decide +kernel
theorem dL_law_23 : decode cL_law 23 = .ok (.iload 4, 2) := by decide +kernel
theorem dL_law_25 : decode cL_law 25 = .ok (.aload_n 0, 1) := by decide +kernel
theorem dL_law_26 : decode cL_law 26 = .ok (.arraylength, 1) := by decide +kernel
theorem dL_law_27 : decode cL_law 27 = .ok (.iconst 4, 1) := by decide +kernel
theorem dL_law_28 : decode cL_law 28 = .ok (.isub, 1) := by decide +kernel
theorem dL_law_29 : decode cL_law 29 = .ok (.if_icmp .gt 735, 3) := by decide +kernel
theorem dL_law_32 : decode cL_law 32 = .ok (.aload_n 0, 1) := by decide +kernel
theorem dL_law_33 : decode cL_law 33 = .ok (.iload 4, 2) := by decide +kernel
theorem dL_law_35 : decode cL_law 35 = .ok (.iaload, 1) := by decide +kernel
theorem dL_law_36 : decode cL_law 36 = .ok (.bipush 15, 2) := by decide +kernel
theorem dL_law_38 : decode cL_law 38 = .ok (.iand, 1) := by decide +kernel
theorem dL_law_39 : decode cL_law 39 = .ok (.tableswitch 719 0 12 #[65, 121, 201, 257, 270, 338, 413, 480, 536, 580, 636, 692, 705], 65) := by decide +kernel
theorem dL_law_104 : decode cL_law 104 = .ok (.aload_n 1, 1) := by decide +kernel
theorem dL_law_105 : decode cL_law 105 = .ok (.aload_n 0, 1) := by decide +kernel
theorem dL_law_106 : decode cL_law 106 = .ok (.iload 4, 2) := by decide +kernel
theorem dL_law_108 : decode cL_law 108 = .ok (.iconst 1, 1) := by decide +kernel
theorem dL_law_109 : decode cL_law 109 = .ok (.iadd, 1) := by decide +kernel
theorem dL_law_110 : decode cL_law 110 = .ok (.iaload, 1) := by decide +kernel
theorem dL_law_111 : decode cL_law 111 = .ok (.aload_n 3, 1) := by decide +kernel
theorem dL_law_112 : decode cL_law 112 = .ok (.invokestatic 53, 3) := by decide +kernel
theorem dL_law_115 : decode cL_law 115 = .ok (.istore 5, 2) := by decide +kernel
theorem dL_law_117 : decode cL_law 117 = .ok (.aload_n 2, 1) := by decide +kernel
theorem dL_law_118 : decode cL_law 118 = .ok (.aload_n 0, 1) := by decide +kernel
theorem dL_law_119 : decode cL_law 119 = .ok (.iload 4, 2) := by decide +kernel
theorem dL_law_121 : decode cL_law 121 = .ok (.iconst 1, 1) := by decide +kernel
theorem dL_law_122 : decode cL_law 122 = .ok (.iadd, 1) := by decide +kernel
theorem dL_law_123 : decode cL_law 123 = .ok (.iaload, 1) := by decide +kernel
theorem dL_law_124 : decode cL_law 124 = .ok (.invokevirtual 58, 3) := by decide +kernel
theorem dL_law_127 : decode cL_law 127 = .ok (.istore 6, 2) := by decide +kernel
theorem dL_law_129 : decode cL_law 129 = .ok (.aload_n 2, 1) := by decide +kernel
theorem dL_law_130 : decode cL_law 130 = .ok (.invokevirtual 59, 3) := by decide +kernel
theorem dL_law_133 : decode cL_law 133 = .ok (.iload 5, 2) := by decide +kernel
theorem dL_law_135 : decode cL_law 135 = .ok (.if_icmp .eq 5, 3) := by decide +kernel
theorem dL_law_138 : decode cL_law 138 = .ok (.iconst 0, 1) := by decide +kernel
theorem dL_law_139 : decode cL_law 139 = .ok (.ireturn, 1) := by decide +kernel
theorem dL_law_140 : decode cL_law 140 = .ok (.iload 5, 2) := by decide +kernel
theorem dL_law_142 : decode cL_law 142 = .ok (.ifCond .ne 15, 3) := by decide +kernel
theorem dL_law_145 : decode cL_law 145 = .ok (.aload_n 3, 1) := by decide +kernel
theorem dL_law_146 : decode cL_law 146 = .ok (.iconst 0, 1) := by decide +kernel
theorem dL_law_147 : decode cL_law 147 = .ok (.laload, 1) := by decide +kernel
theorem dL_law_148 : decode cL_law 148 = .ok (.iload 6, 2) := by decide +kernel
theorem dL_law_150 : decode cL_law 150 = .ok (.i2l, 1) := by decide +kernel
theorem dL_law_151 : decode cL_law 151 = .ok (.lcmp, 1) := by decide +kernel
theorem dL_law_152 : decode cL_law 152 = .ok (.ifCond .eq 5, 3) := by decide +kernel
theorem dL_law_155 : decode cL_law 155 = .ok (.iconst 0, 1) := by decide +kernel
theorem dL_law_156 : decode cL_law 156 = .ok (.ireturn, 1) := by decide +kernel
theorem dL_law_157 : decode cL_law 157 = .ok (.goto 601, 3) := by decide +kernel
theorem dL_law_160 : decode cL_law 160 = .ok (.aload_n 1, 1) := by decide +kernel
theorem dL_law_161 : decode cL_law 161 = .ok (.aload_n 0, 1) := by decide +kernel
theorem dL_law_162 : decode cL_law 162 = .ok (.iload 4, 2) := by decide +kernel
theorem dL_law_164 : decode cL_law 164 = .ok (.iconst 1, 1) := by decide +kernel
theorem dL_law_165 : decode cL_law 165 = .ok (.iadd, 1) := by decide +kernel
theorem dL_law_166 : decode cL_law 166 = .ok (.iaload, 1) := by decide +kernel
theorem dL_law_167 : decode cL_law 167 = .ok (.aload_n 0, 1) := by decide +kernel
theorem dL_law_168 : decode cL_law 168 = .ok (.iload 4, 2) := by decide +kernel
theorem dL_law_170 : decode cL_law 170 = .ok (.iconst 2, 1) := by decide +kernel
theorem dL_law_171 : decode cL_law 171 = .ok (.iadd, 1) := by decide +kernel
theorem dL_law_172 : decode cL_law 172 = .ok (.iaload, 1) := by decide +kernel
theorem dL_law_173 : decode cL_law 173 = .ok (.aload_n 0, 1) := by decide +kernel
theorem dL_law_174 : decode cL_law 174 = .ok (.iload 4, 2) := by decide +kernel
theorem dL_law_176 : decode cL_law 176 = .ok (.iconst 3, 1) := by decide +kernel
theorem dL_law_177 : decode cL_law 177 = .ok (.iadd, 1) := by decide +kernel
theorem dL_law_178 : decode cL_law 178 = .ok (.iaload, 1) := by decide +kernel
theorem dL_law_179 : decode cL_law 179 = .ok (.aload_n 3, 1) := by decide +kernel
theorem dL_law_180 : decode cL_law 180 = .ok (.invokestatic 62, 3) := by decide +kernel
theorem dL_law_183 : decode cL_law 183 = .ok (.istore 5, 2) := by decide +kernel
theorem dL_law_185 : decode cL_law 185 = .ok (.aload_n 2, 1) := by decide +kernel
theorem dL_law_186 : decode cL_law 186 = .ok (.aload_n 0, 1) := by decide +kernel
theorem dL_law_187 : decode cL_law 187 = .ok (.iload 4, 2) := by decide +kernel
theorem dL_law_189 : decode cL_law 189 = .ok (.iconst 1, 1) := by decide +kernel
theorem dL_law_190 : decode cL_law 190 = .ok (.iadd, 1) := by decide +kernel
theorem dL_law_191 : decode cL_law 191 = .ok (.iaload, 1) := by decide +kernel
theorem dL_law_192 : decode cL_law 192 = .ok (.aload_n 0, 1) := by decide +kernel
theorem dL_law_193 : decode cL_law 193 = .ok (.iload 4, 2) := by decide +kernel
theorem dL_law_195 : decode cL_law 195 = .ok (.iconst 2, 1) := by decide +kernel
theorem dL_law_196 : decode cL_law 196 = .ok (.iadd, 1) := by decide +kernel
theorem dL_law_197 : decode cL_law 197 = .ok (.iaload, 1) := by decide +kernel
theorem dL_law_198 : decode cL_law 198 = .ok (.aload_n 0, 1) := by decide +kernel
theorem dL_law_199 : decode cL_law 199 = .ok (.iload 4, 2) := by decide +kernel
theorem dL_law_201 : decode cL_law 201 = .ok (.iconst 3, 1) := by decide +kernel
theorem dL_law_202 : decode cL_law 202 = .ok (.iadd, 1) := by decide +kernel
theorem dL_law_203 : decode cL_law 203 = .ok (.iaload, 1) := by decide +kernel
theorem dL_law_204 : decode cL_law 204 = .ok (.invokevirtual 65, 3) := by decide +kernel
theorem dL_law_207 : decode cL_law 207 = .ok (.istore 6, 2) := by decide +kernel
theorem dL_law_209 : decode cL_law 209 = .ok (.aload_n 2, 1) := by decide +kernel
theorem dL_law_210 : decode cL_law 210 = .ok (.invokevirtual 59, 3) := by decide +kernel
theorem dL_law_213 : decode cL_law 213 = .ok (.iload 5, 2) := by decide +kernel
theorem dL_law_215 : decode cL_law 215 = .ok (.if_icmp .eq 5, 3) := by decide +kernel
theorem dL_law_218 : decode cL_law 218 = .ok (.iconst 0, 1) := by decide +kernel
theorem dL_law_219 : decode cL_law 219 = .ok (.ireturn, 1) := by decide +kernel
theorem dL_law_220 : decode cL_law 220 = .ok (.iload 5, 2) := by decide +kernel
theorem dL_law_222 : decode cL_law 222 = .ok (.ifCond .ne 15, 3) := by decide +kernel
theorem dL_law_225 : decode cL_law 225 = .ok (.aload_n 3, 1) := by decide +kernel
theorem dL_law_226 : decode cL_law 226 = .ok (.iconst 0, 1) := by decide +kernel
theorem dL_law_227 : decode cL_law 227 = .ok (.laload, 1) := by decide +kernel
theorem dL_law_228 : decode cL_law 228 = .ok (.iload 6, 2) := by decide +kernel
theorem dL_law_230 : decode cL_law 230 = .ok (.i2l, 1) := by decide +kernel
theorem dL_law_231 : decode cL_law 231 = .ok (.lcmp, 1) := by decide +kernel
theorem dL_law_232 : decode cL_law 232 = .ok (.ifCond .eq 5, 3) := by decide +kernel
end
section
/-! decode rows of the law: by program -/
theorem dL_law_235 : decode cL_law 235 = .ok (.iconst 0, 1) := by decide +kernel
theorem dL_law_236 : decode cL_law 236 = .ok (.ireturn, 1) := by decide +kernel
theorem dL_law_237 : decode cL_law 237 = .ok (.goto 521, 3) := by decide +kernel
theorem dL_law_240 : decode cL_law 240 = .ok (.aload_n 1, 1) := by decide +kernel
theorem dL_law_241 : decode cL_law 241 = .ok (.aload_n 0, 1) := by decide +kernel
theorem dL_law_242 : decode cL_law 242 = .ok (.iload 4, 2) := by decide +kernel
theorem dL_law_244 : decode cL_law 244 = .ok (.iconst 1, 1) := by decide +kernel
theorem dL_law_245 : decode cL_law 245 = .ok (.iadd, 1) := by decide +kernel
theorem dL_law_246 : decode cL_law 246 = .ok (.iaload, 1) := by decide +kernel
theorem dL_law_247 : decode cL_law 247 = .ok (.aload_n 3, 1) := by decide +kernel
theorem dL_law_248 : decode cL_law 248 = .ok (.invokestatic 66, 3) := by decide +kernel
theorem dL_law_251 : decode cL_law 251 = .ok (.istore 5, 2) := by decide +kernel
theorem dL_law_253 : decode cL_law 253 = .ok (.aload_n 2, 1) := by decide +kernel
theorem dL_law_254 : decode cL_law 254 = .ok (.aload_n 0, 1) := by decide +kernel
theorem dL_law_255 : decode cL_law 255 = .ok (.iload 4, 2) := by decide +kernel
theorem dL_law_257 : decode cL_law 257 = .ok (.iconst 1, 1) := by decide +kernel
theorem dL_law_258 : decode cL_law 258 = .ok (.iadd, 1) := by decide +kernel
theorem dL_law_259 : decode cL_law 259 = .ok (.iaload, 1) := by decide +kernel
theorem dL_law_260 : decode cL_law 260 = .ok (.invokevirtual 68, 3) := by decide +kernel
theorem dL_law_263 : decode cL_law 263 = .ok (.istore 6, 2) := by decide +kernel
theorem dL_law_265 : decode cL_law 265 = .ok (.aload_n 2, 1) := by decide +kernel
theorem dL_law_266 : decode cL_law 266 = .ok (.invokevirtual 59, 3) := by decide +kernel
theorem dL_law_269 : decode cL_law 269 = .ok (.iload 5, 2) := by decide +kernel
theorem dL_law_271 : decode cL_law 271 = .ok (.if_icmp .eq 5, 3) := by decide +kernel
theorem dL_law_274 : decode cL_law 274 = .ok (.iconst 0, 1) := by decide +kernel
theorem dL_law_275 : decode cL_law 275 = .ok (.ireturn, 1) := by decide +kernel
theorem dL_law_276 : decode cL_law 276 = .ok (.iload 5, 2) := by decide +kernel
theorem dL_law_278 : decode cL_law 278 = .ok (.ifCond .ne 15, 3) := by decide +kernel
theorem dL_law_281 : decode cL_law 281 = .ok (.aload_n 3, 1) := by decide +kernel
theorem dL_law_282 : decode cL_law 282 = .ok (.iconst 0, 1) := by decide +kernel
theorem dL_law_283 : decode cL_law 283 = .ok (.laload, 1) := by decide +kernel
theorem dL_law_284 : decode cL_law 284 = .ok (.iload 6, 2) := by decide +kernel
theorem dL_law_286 : decode cL_law 286 = .ok (.i2l, 1) := by decide +kernel
theorem dL_law_287 : decode cL_law 287 = .ok (.lcmp, 1) := by decide +kernel
theorem dL_law_288 : decode cL_law 288 = .ok (.ifCond .eq 5, 3) := by decide +kernel
theorem dL_law_291 : decode cL_law 291 = .ok (.iconst 0, 1) := by decide +kernel
theorem dL_law_292 : decode cL_law 292 = .ok (.ireturn, 1) := by decide +kernel
theorem dL_law_293 : decode cL_law 293 = .ok (.goto 465, 3) := by decide +kernel
theorem dL_law_296 : decode cL_law 296 = .ok (.aload_n 1, 1) := by decide +kernel
theorem dL_law_297 : decode cL_law 297 = .ok (.invokevirtual 69, 3) := by decide +kernel
theorem dL_law_300 : decode cL_law 300 = .ok (.aload_n 2, 1) := by decide +kernel
theorem dL_law_301 : decode cL_law 301 = .ok (.invokevirtual 72, 3) := by decide +kernel
theorem dL_law_304 : decode cL_law 304 = .ok (.if_icmp .eq 454, 3) := by decide +kernel
theorem dL_law_307 : decode cL_law 307 = .ok (.iconst 0, 1) := by decide +kernel
theorem dL_law_308 : decode cL_law 308 = .ok (.ireturn, 1) := by decide +kernel
theorem dL_law_309 : decode cL_law 309 = .ok (.aload_n 1, 1) := by decide +kernel
theorem dL_law_310 : decode cL_law 310 = .ok (.aload_n 0, 1) := by decide +kernel
theorem dL_law_311 : decode cL_law 311 = .ok (.iload 4, 2) := by decide +kernel
theorem dL_law_313 : decode cL_law 313 = .ok (.iconst 1, 1) := by decide +kernel
theorem dL_law_314 : decode cL_law 314 = .ok (.iadd, 1) := by decide +kernel
theorem dL_law_315 : decode cL_law 315 = .ok (.iaload, 1) := by decide +kernel
theorem dL_law_316 : decode cL_law 316 = .ok (.aload_n 0, 1) := by decide +kernel
theorem dL_law_317 : decode cL_law 317 = .ok (.iload 4, 2) := by decide +kernel
theorem dL_law_319 : decode cL_law 319 = .ok (.iconst 2, 1) := by decide +kernel
theorem dL_law_320 : decode cL_law 320 = .ok (.iadd, 1) := by decide +kernel
theorem dL_law_321 : decode cL_law 321 = .ok (.iaload, 1) := by decide +kernel
theorem dL_law_322 : decode cL_law 322 = .ok (.aload_n 3, 1) := by decide +kernel
theorem dL_law_323 : decode cL_law 323 = .ok (.invokestatic 73, 3) := by decide +kernel
theorem dL_law_326 : decode cL_law 326 = .ok (.istore 5, 2) := by decide +kernel
theorem dL_law_328 : decode cL_law 328 = .ok (.aload_n 2, 1) := by decide +kernel
theorem dL_law_329 : decode cL_law 329 = .ok (.aload_n 0, 1) := by decide +kernel
theorem dL_law_330 : decode cL_law 330 = .ok (.iload 4, 2) := by decide +kernel
theorem dL_law_332 : decode cL_law 332 = .ok (.iconst 1, 1) := by decide +kernel
theorem dL_law_333 : decode cL_law 333 = .ok (.iadd, 1) := by decide +kernel
theorem dL_law_334 : decode cL_law 334 = .ok (.iaload, 1) := by decide +kernel
theorem dL_law_335 : decode cL_law 335 = .ok (.aload_n 0, 1) := by decide +kernel
theorem dL_law_336 : decode cL_law 336 = .ok (.iload 4, 2) := by decide +kernel
theorem dL_law_338 : decode cL_law 338 = .ok (.iconst 2, 1) := by decide +kernel
theorem dL_law_339 : decode cL_law 339 = .ok (.iadd, 1) := by decide +kernel
theorem dL_law_340 : decode cL_law 340 = .ok (.iaload, 1) := by decide +kernel
theorem dL_law_341 : decode cL_law 341 = .ok (.invokevirtual 76, 3) := by decide +kernel
theorem dL_law_344 : decode cL_law 344 = .ok (.istore 6, 2) := by decide +kernel
theorem dL_law_346 : decode cL_law 346 = .ok (.aload_n 2, 1) := by decide +kernel
theorem dL_law_347 : decode cL_law 347 = .ok (.invokevirtual 59, 3) := by decide +kernel
theorem dL_law_350 : decode cL_law 350 = .ok (.iload 5, 2) := by decide +kernel
theorem dL_law_352 : decode cL_law 352 = .ok (.if_icmp .eq 5, 3) := by decide +kernel
theorem dL_law_355 : decode cL_law 355 = .ok (.iconst 0, 1) := by decide +kernel
theorem dL_law_356 : decode cL_law 356 = .ok (.ireturn, 1) := by decide +kernel
theorem dL_law_357 : decode cL_law 357 = .ok (.iload 5, 2) := by decide +kernel
theorem dL_law_359 : decode cL_law 359 = .ok (.ifCond .ne 15, 3) := by decide +kernel
theorem dL_law_362 : decode cL_law 362 = .ok (.aload_n 3, 1) := by decide +kernel
theorem dL_law_363 : decode cL_law 363 = .ok (.iconst 0, 1) := by decide +kernel
theorem dL_law_364 : decode cL_law 364 = .ok (.laload, 1) := by decide +kernel
theorem dL_law_365 : decode cL_law 365 = .ok (.iload 6, 2) := by decide +kernel
theorem dL_law_367 : decode cL_law 367 = .ok (.i2l, 1) := by decide +kernel
theorem dL_law_368 : decode cL_law 368 = .ok (.lcmp, 1) := by decide +kernel
theorem dL_law_369 : decode cL_law 369 = .ok (.ifCond .eq 5, 3) := by decide +kernel
theorem dL_law_372 : decode cL_law 372 = .ok (.iconst 0, 1) := by decide +kernel
theorem dL_law_373 : decode cL_law 373 = .ok (.ireturn, 1) := by decide +kernel
theorem dL_law_374 : decode cL_law 374 = .ok (.goto 384, 3) := by decide +kernel
theorem dL_law_377 : decode cL_law 377 = .ok (.aload_n 1, 1) := by decide +kernel
theorem dL_law_378 : decode cL_law 378 = .ok (.aload_n 0, 1) := by decide +kernel
theorem dL_law_379 : decode cL_law 379 = .ok (.iload 4, 2) := by decide +kernel
theorem dL_law_381 : decode cL_law 381 = .ok (.iconst 1, 1) := by decide +kernel
theorem dL_law_382 : decode cL_law 382 = .ok (.iadd, 1) := by decide +kernel
theorem dL_law_383 : decode cL_law 383 = .ok (.iaload, 1) := by decide +kernel
theorem dL_law_384 : decode cL_law 384 = .ok (.aload_n 0, 1) := by decide +kernel
theorem dL_law_385 : decode cL_law 385 = .ok (.iload 4, 2) := by decide +kernel
theorem dL_law_387 : decode cL_law 387 = .ok (.iconst 2, 1) := by decide +kernel
theorem dL_law_388 : decode cL_law 388 = .ok (.iadd, 1) := by decide +kernel
theorem dL_law_389 : decode cL_law 389 = .ok (.iaload, 1) := by decide +kernel
theorem dL_law_390 : decode cL_law 390 = .ok (.aload_n 3, 1) := by decide +kernel
theorem dL_law_391 : decode cL_law 391 = .ok (.invokestatic 77, 3) := by decide +kernel
theorem dL_law_394 : decode cL_law 394 = .ok (.istore 5, 2) := by decide +kernel
theorem dL_law_396 : decode cL_law 396 = .ok (.aload_n 2, 1) := by decide +kernel
theorem dL_law_397 : decode cL_law 397 = .ok (.aload_n 0, 1) := by decide +kernel
theorem dL_law_398 : decode cL_law 398 = .ok (.iload 4, 2) := by decide +kernel
theorem dL_law_400 : decode cL_law 400 = .ok (.iconst 1, 1) := by decide +kernel
theorem dL_law_401 : decode cL_law 401 = .ok (.iadd, 1) := by decide +kernel
theorem dL_law_402 : decode cL_law 402 = .ok (.iaload, 1) := by decide +kernel
theorem dL_law_403 : decode cL_law 403 = .ok (.aload_n 0, 1) := by decide +kernel
theorem dL_law_404 : decode cL_law 404 = .ok (.iload 4, 2) := by decide +kernel
end
section
/-! decode rows of the law: by program -/
theorem dL_law_406 : decode cL_law 406 = .ok (.iconst 2, 1) := by decide +kernel
theorem dL_law_407 : decode cL_law 407 = .ok (.iadd, 1) := by decide +kernel
theorem dL_law_408 : decode cL_law 408 = .ok (.iaload, 1) := by decide +kernel
theorem dL_law_409 : decode cL_law 409 = .ok (.invokevirtual 79, 3) := by decide +kernel
theorem dL_law_412 : decode cL_law 412 = .ok (.istore 6, 2) := by decide +kernel
theorem dL_law_414 : decode cL_law 414 = .ok (.aload_n 2, 1) := by decide +kernel
theorem dL_law_415 : decode cL_law 415 = .ok (.invokevirtual 59, 3) := by decide +kernel
theorem dL_law_418 : decode cL_law 418 = .ok (.iload 5, 2) := by decide +kernel
theorem dL_law_420 : decode cL_law 420 = .ok (.if_icmp .eq 5, 3) := by decide +kernel
theorem dL_law_423 : decode cL_law 423 = .ok (.iconst 0, 1) := by decide +kernel
theorem dL_law_424 : decode cL_law 424 = .ok (.ireturn, 1) := by decide +kernel
theorem dL_law_425 : decode cL_law 425 = .ok (.iload 5, 2) := by decide +kernel
theorem dL_law_427 : decode cL_law 427 = .ok (.ifCond .ne 22, 3) := by decide +kernel
theorem dL_law_430 : decode cL_law 430 = .ok (.aload_n 3, 1) := by decide +kernel
theorem dL_law_431 : decode cL_law 431 = .ok (.iconst 0, 1) := by decide +kernel
theorem dL_law_432 : decode cL_law 432 = .ok (.laload, 1) := by decide +kernel
theorem dL_law_433 : decode cL_law 433 = .ok (.iload 6, 2) := by decide +kernel
theorem dL_law_435 : decode cL_law 435 = .ok (.ifCond .eq 7, 3) := by decide +kernel
theorem dL_law_438 : decode cL_law 438 = .ok (.lconst 1, 1) := by decide +kernel
theorem dL_law_439 : decode cL_law 439 = .ok (.goto 4, 3) := by decide +kernel
theorem dL_law_442 : decode cL_law 442 = .ok (.lconst 0, 1) := by decide +kernel
theorem dL_law_443 : decode cL_law 443 = .ok (.lcmp, 1) := by decide +kernel
theorem dL_law_444 : decode cL_law 444 = .ok (.ifCond .eq 5, 3) := by decide +kernel
theorem dL_law_447 : decode cL_law 447 = .ok (.iconst 0, 1) := by decide +kernel
theorem dL_law_448 : decode cL_law 448 = .ok (.ireturn, 1) := by decide +kernel
theorem dL_law_449 : decode cL_law 449 = .ok (.goto 309, 3) := by decide +kernel
theorem dL_law_452 : decode cL_law 452 = .ok (.aload_n 1, 1) := by decide +kernel
theorem dL_law_453 : decode cL_law 453 = .ok (.aload_n 0, 1) := by decide +kernel
theorem dL_law_454 : decode cL_law 454 = .ok (.iload 4, 2) := by decide +kernel
theorem dL_law_456 : decode cL_law 456 = .ok (.iconst 1, 1) := by decide +kernel
theorem dL_law_457 : decode cL_law 457 = .ok (.iadd, 1) := by decide +kernel
theorem dL_law_458 : decode cL_law 458 = .ok (.iaload, 1) := by decide +kernel
theorem dL_law_459 : decode cL_law 459 = .ok (.aload_n 0, 1) := by decide +kernel
theorem dL_law_460 : decode cL_law 460 = .ok (.iload 4, 2) := by decide +kernel
theorem dL_law_462 : decode cL_law 462 = .ok (.iconst 2, 1) := by decide +kernel
theorem dL_law_463 : decode cL_law 463 = .ok (.iadd, 1) := by decide +kernel
theorem dL_law_464 : decode cL_law 464 = .ok (.iaload, 1) := by decide +kernel
theorem dL_law_465 : decode cL_law 465 = .ok (.aload_n 3, 1) := by decide +kernel
theorem dL_law_466 : decode cL_law 466 = .ok (.invokestatic 80, 3) := by decide +kernel
theorem dL_law_469 : decode cL_law 469 = .ok (.istore 5, 2) := by decide +kernel
theorem dL_law_471 : decode cL_law 471 = .ok (.aload_n 2, 1) := by decide +kernel
theorem dL_law_472 : decode cL_law 472 = .ok (.aload_n 0, 1) := by decide +kernel
theorem dL_law_473 : decode cL_law 473 = .ok (.iload 4, 2) := by decide +kernel
theorem dL_law_475 : decode cL_law 475 = .ok (.iconst 1, 1) := by decide +kernel
theorem dL_law_476 : decode cL_law 476 = .ok (.iadd, 1) := by decide +kernel
theorem dL_law_477 : decode cL_law 477 = .ok (.iaload, 1) := by decide +kernel
theorem dL_law_478 : decode cL_law 478 = .ok (.aload_n 0, 1) := by decide +kernel
theorem dL_law_479 : decode cL_law 479 = .ok (.iload 4, 2) := by decide +kernel
theorem dL_law_481 : decode cL_law 481 = .ok (.iconst 2, 1) := by decide +kernel
theorem dL_law_482 : decode cL_law 482 = .ok (.iadd, 1) := by decide +kernel
theorem dL_law_483 : decode cL_law 483 = .ok (.iaload, 1) := by decide +kernel
theorem dL_law_484 : decode cL_law 484 = .ok (.invokevirtual 82, 3) := by decide +kernel
theorem dL_law_487 : decode cL_law 487 = .ok (.lstore 6, 2) := by decide +kernel
theorem dL_law_489 : decode cL_law 489 = .ok (.aload_n 2, 1) := by decide +kernel
theorem dL_law_490 : decode cL_law 490 = .ok (.invokevirtual 59, 3) := by decide +kernel
theorem dL_law_493 : decode cL_law 493 = .ok (.iload 5, 2) := by decide +kernel
theorem dL_law_495 : decode cL_law 495 = .ok (.if_icmp .eq 5, 3) := by decide +kernel
theorem dL_law_498 : decode cL_law 498 = .ok (.iconst 0, 1) := by decide +kernel
theorem dL_law_499 : decode cL_law 499 = .ok (.ireturn, 1) := by decide +kernel
theorem dL_law_500 : decode cL_law 500 = .ok (.iload 5, 2) := by decide +kernel
theorem dL_law_502 : decode cL_law 502 = .ok (.ifCond .ne 14, 3) := by decide +kernel
theorem dL_law_505 : decode cL_law 505 = .ok (.aload_n 3, 1) := by decide +kernel
theorem dL_law_506 : decode cL_law 506 = .ok (.iconst 0, 1) := by decide +kernel
theorem dL_law_507 : decode cL_law 507 = .ok (.laload, 1) := by decide +kernel
theorem dL_law_508 : decode cL_law 508 = .ok (.lload 6, 2) := by decide +kernel
theorem dL_law_510 : decode cL_law 510 = .ok (.lcmp, 1) := by decide +kernel
theorem dL_law_511 : decode cL_law 511 = .ok (.ifCond .eq 5, 3) := by decide +kernel
theorem dL_law_514 : decode cL_law 514 = .ok (.iconst 0, 1) := by decide +kernel
theorem dL_law_515 : decode cL_law 515 = .ok (.ireturn, 1) := by decide +kernel
theorem dL_law_516 : decode cL_law 516 = .ok (.goto 242, 3) := by decide +kernel
theorem dL_law_519 : decode cL_law 519 = .ok (.aload_n 1, 1) := by decide +kernel
theorem dL_law_520 : decode cL_law 520 = .ok (.aload_n 0, 1) := by decide +kernel
theorem dL_law_521 : decode cL_law 521 = .ok (.iload 4, 2) := by decide +kernel
theorem dL_law_523 : decode cL_law 523 = .ok (.iconst 1, 1) := by decide +kernel
theorem dL_law_524 : decode cL_law 524 = .ok (.iadd, 1) := by decide +kernel
theorem dL_law_525 : decode cL_law 525 = .ok (.iaload, 1) := by decide +kernel
theorem dL_law_526 : decode cL_law 526 = .ok (.aload_n 3, 1) := by decide +kernel
theorem dL_law_527 : decode cL_law 527 = .ok (.invokestatic 83, 3) := by decide +kernel
theorem dL_law_530 : decode cL_law 530 = .ok (.istore 5, 2) := by decide +kernel
theorem dL_law_532 : decode cL_law 532 = .ok (.aload_n 2, 1) := by decide +kernel
theorem dL_law_533 : decode cL_law 533 = .ok (.aload_n 0, 1) := by decide +kernel
theorem dL_law_534 : decode cL_law 534 = .ok (.iload 4, 2) := by decide +kernel
theorem dL_law_536 : decode cL_law 536 = .ok (.iconst 1, 1) := by decide +kernel
theorem dL_law_537 : decode cL_law 537 = .ok (.iadd, 1) := by decide +kernel
theorem dL_law_538 : decode cL_law 538 = .ok (.iaload, 1) := by decide +kernel
theorem dL_law_539 : decode cL_law 539 = .ok (.invokevirtual 85, 3) := by decide +kernel
theorem dL_law_542 : decode cL_law 542 = .ok (.istore 6, 2) := by decide +kernel
theorem dL_law_544 : decode cL_law 544 = .ok (.aload_n 2, 1) := by decide +kernel
theorem dL_law_545 : decode cL_law 545 = .ok (.invokevirtual 59, 3) := by decide +kernel
theorem dL_law_548 : decode cL_law 548 = .ok (.iload 5, 2) := by decide +kernel
theorem dL_law_550 : decode cL_law 550 = .ok (.if_icmp .eq 5, 3) := by decide +kernel
theorem dL_law_553 : decode cL_law 553 = .ok (.iconst 0, 1) := by decide +kernel
theorem dL_law_554 : decode cL_law 554 = .ok (.ireturn, 1) := by decide +kernel
theorem dL_law_555 : decode cL_law 555 = .ok (.iload 5, 2) := by decide +kernel
theorem dL_law_557 : decode cL_law 557 = .ok (.ifCond .ne 15, 3) := by decide +kernel
theorem dL_law_560 : decode cL_law 560 = .ok (.aload_n 3, 1) := by decide +kernel
theorem dL_law_561 : decode cL_law 561 = .ok (.iconst 0, 1) := by decide +kernel
theorem dL_law_562 : decode cL_law 562 = .ok (.laload, 1) := by decide +kernel
theorem dL_law_563 : decode cL_law 563 = .ok (.iload 6, 2) := by decide +kernel
theorem dL_law_565 : decode cL_law 565 = .ok (.i2l, 1) := by decide +kernel
theorem dL_law_566 : decode cL_law 566 = .ok (.lcmp, 1) := by decide +kernel
theorem dL_law_567 : decode cL_law 567 = .ok (.ifCond .eq 5, 3) := by decide +kernel
theorem dL_law_570 : decode cL_law 570 = .ok (.iconst 0, 1) := by decide +kernel
theorem dL_law_571 : decode cL_law 571 = .ok (.ireturn, 1) := by decide +kernel
theorem dL_law_572 : decode cL_law 572 = .ok (.goto 186, 3) := by decide +kernel
theorem dL_law_575 : decode cL_law 575 = .ok (.aload_n 1, 1) := by decide +kernel
theorem dL_law_576 : decode cL_law 576 = .ok (.aload_n 3, 1) := by decide +kernel
theorem dL_law_577 : decode cL_law 577 = .ok (.invokestatic 86, 3) := by decide +kernel
theorem dL_law_580 : decode cL_law 580 = .ok (.istore 5, 2) := by decide +kernel
theorem dL_law_582 : decode cL_law 582 = .ok (.aload_n 2, 1) := by decide +kernel
theorem dL_law_583 : decode cL_law 583 = .ok (.invokevirtual 89, 3) := by decide +kernel
theorem dL_law_586 : decode cL_law 586 = .ok (.istore 6, 2) := by decide +kernel
end
section
/-! decode rows of the law: by program -/
theorem dL_law_588 : decode cL_law 588 = .ok (.aload_n 2, 1) := by decide +kernel
theorem dL_law_589 : decode cL_law 589 = .ok (.invokevirtual 59, 3) := by decide +kernel
theorem dL_law_592 : decode cL_law 592 = .ok (.iload 5, 2) := by decide +kernel
theorem dL_law_594 : decode cL_law 594 = .ok (.if_icmp .eq 5, 3) := by decide +kernel
theorem dL_law_597 : decode cL_law 597 = .ok (.iconst 0, 1) := by decide +kernel
theorem dL_law_598 : decode cL_law 598 = .ok (.ireturn, 1) := by decide +kernel
theorem dL_law_599 : decode cL_law 599 = .ok (.iload 5, 2) := by decide +kernel
theorem dL_law_601 : decode cL_law 601 = .ok (.ifCond .ne 15, 3) := by decide +kernel
theorem dL_law_604 : decode cL_law 604 = .ok (.aload_n 3, 1) := by decide +kernel
theorem dL_law_605 : decode cL_law 605 = .ok (.iconst 0, 1) := by decide +kernel
theorem dL_law_606 : decode cL_law 606 = .ok (.laload, 1) := by decide +kernel
theorem dL_law_607 : decode cL_law 607 = .ok (.iload 6, 2) := by decide +kernel
theorem dL_law_609 : decode cL_law 609 = .ok (.i2l, 1) := by decide +kernel
theorem dL_law_610 : decode cL_law 610 = .ok (.lcmp, 1) := by decide +kernel
theorem dL_law_611 : decode cL_law 611 = .ok (.ifCond .eq 5, 3) := by decide +kernel
theorem dL_law_614 : decode cL_law 614 = .ok (.iconst 0, 1) := by decide +kernel
theorem dL_law_615 : decode cL_law 615 = .ok (.ireturn, 1) := by decide +kernel
theorem dL_law_616 : decode cL_law 616 = .ok (.goto 142, 3) := by decide +kernel
theorem dL_law_619 : decode cL_law 619 = .ok (.aload_n 1, 1) := by decide +kernel
theorem dL_law_620 : decode cL_law 620 = .ok (.aload_n 0, 1) := by decide +kernel
theorem dL_law_621 : decode cL_law 621 = .ok (.iload 4, 2) := by decide +kernel
theorem dL_law_623 : decode cL_law 623 = .ok (.iconst 1, 1) := by decide +kernel
theorem dL_law_624 : decode cL_law 624 = .ok (.iadd, 1) := by decide +kernel
theorem dL_law_625 : decode cL_law 625 = .ok (.iaload, 1) := by decide +kernel
theorem dL_law_626 : decode cL_law 626 = .ok (.aload_n 3, 1) := by decide +kernel
theorem dL_law_627 : decode cL_law 627 = .ok (.invokestatic 90, 3) := by decide +kernel
theorem dL_law_630 : decode cL_law 630 = .ok (.istore 5, 2) := by decide +kernel
theorem dL_law_632 : decode cL_law 632 = .ok (.aload_n 2, 1) := by decide +kernel
theorem dL_law_633 : decode cL_law 633 = .ok (.aload_n 0, 1) := by decide +kernel
theorem dL_law_634 : decode cL_law 634 = .ok (.iload 4, 2) := by decide +kernel
theorem dL_law_636 : decode cL_law 636 = .ok (.iconst 1, 1) := by decide +kernel
theorem dL_law_637 : decode cL_law 637 = .ok (.iadd, 1) := by decide +kernel
theorem dL_law_638 : decode cL_law 638 = .ok (.iaload, 1) := by decide +kernel
theorem dL_law_639 : decode cL_law 639 = .ok (.invokevirtual 92, 3) := by decide +kernel
theorem dL_law_642 : decode cL_law 642 = .ok (.istore 6, 2) := by decide +kernel
theorem dL_law_644 : decode cL_law 644 = .ok (.aload_n 2, 1) := by decide +kernel
theorem dL_law_645 : decode cL_law 645 = .ok (.invokevirtual 59, 3) := by decide +kernel
theorem dL_law_648 : decode cL_law 648 = .ok (.iload 5, 2) := by decide +kernel
theorem dL_law_650 : decode cL_law 650 = .ok (.if_icmp .eq 5, 3) := by decide +kernel
theorem dL_law_653 : decode cL_law 653 = .ok (.iconst 0, 1) := by decide +kernel
theorem dL_law_654 : decode cL_law 654 = .ok (.ireturn, 1) := by decide +kernel
theorem dL_law_655 : decode cL_law 655 = .ok (.iload 5, 2) := by decide +kernel
theorem dL_law_657 : decode cL_law 657 = .ok (.ifCond .ne 15, 3) := by decide +kernel
theorem dL_law_660 : decode cL_law 660 = .ok (.aload_n 3, 1) := by decide +kernel
theorem dL_law_661 : decode cL_law 661 = .ok (.iconst 0, 1) := by decide +kernel
theorem dL_law_662 : decode cL_law 662 = .ok (.laload, 1) := by decide +kernel
theorem dL_law_663 : decode cL_law 663 = .ok (.iload 6, 2) := by decide +kernel
theorem dL_law_665 : decode cL_law 665 = .ok (.i2l, 1) := by decide +kernel
theorem dL_law_666 : decode cL_law 666 = .ok (.lcmp, 1) := by decide +kernel
theorem dL_law_667 : decode cL_law 667 = .ok (.ifCond .eq 5, 3) := by decide +kernel
theorem dL_law_670 : decode cL_law 670 = .ok (.iconst 0, 1) := by decide +kernel
theorem dL_law_671 : decode cL_law 671 = .ok (.ireturn, 1) := by decide +kernel
theorem dL_law_672 : decode cL_law 672 = .ok (.goto 86, 3) := by decide +kernel
theorem dL_law_675 : decode cL_law 675 = .ok (.aload_n 1, 1) := by decide +kernel
theorem dL_law_676 : decode cL_law 676 = .ok (.aload_n 0, 1) := by decide +kernel
theorem dL_law_677 : decode cL_law 677 = .ok (.iload 4, 2) := by decide +kernel
theorem dL_law_679 : decode cL_law 679 = .ok (.iconst 1, 1) := by decide +kernel
theorem dL_law_680 : decode cL_law 680 = .ok (.iadd, 1) := by decide +kernel
theorem dL_law_681 : decode cL_law 681 = .ok (.iaload, 1) := by decide +kernel
theorem dL_law_682 : decode cL_law 682 = .ok (.aload_n 3, 1) := by decide +kernel
theorem dL_law_683 : decode cL_law 683 = .ok (.invokestatic 93, 3) := by decide +kernel
theorem dL_law_686 : decode cL_law 686 = .ok (.istore 5, 2) := by decide +kernel
theorem dL_law_688 : decode cL_law 688 = .ok (.aload_n 2, 1) := by decide +kernel
theorem dL_law_689 : decode cL_law 689 = .ok (.aload_n 0, 1) := by decide +kernel
theorem dL_law_690 : decode cL_law 690 = .ok (.iload 4, 2) := by decide +kernel
theorem dL_law_692 : decode cL_law 692 = .ok (.iconst 1, 1) := by decide +kernel
theorem dL_law_693 : decode cL_law 693 = .ok (.iadd, 1) := by decide +kernel
theorem dL_law_694 : decode cL_law 694 = .ok (.iaload, 1) := by decide +kernel
theorem dL_law_695 : decode cL_law 695 = .ok (.invokevirtual 95, 3) := by decide +kernel
theorem dL_law_698 : decode cL_law 698 = .ok (.istore 6, 2) := by decide +kernel
theorem dL_law_700 : decode cL_law 700 = .ok (.aload_n 2, 1) := by decide +kernel
theorem dL_law_701 : decode cL_law 701 = .ok (.invokevirtual 59, 3) := by decide +kernel
theorem dL_law_704 : decode cL_law 704 = .ok (.iload 5, 2) := by decide +kernel
theorem dL_law_706 : decode cL_law 706 = .ok (.if_icmp .eq 5, 3) := by decide +kernel
theorem dL_law_709 : decode cL_law 709 = .ok (.iconst 0, 1) := by decide +kernel
theorem dL_law_710 : decode cL_law 710 = .ok (.ireturn, 1) := by decide +kernel
theorem dL_law_711 : decode cL_law 711 = .ok (.iload 5, 2) := by decide +kernel
theorem dL_law_713 : decode cL_law 713 = .ok (.ifCond .ne 15, 3) := by decide +kernel
theorem dL_law_716 : decode cL_law 716 = .ok (.aload_n 3, 1) := by decide +kernel
theorem dL_law_717 : decode cL_law 717 = .ok (.iconst 0, 1) := by decide +kernel
theorem dL_law_718 : decode cL_law 718 = .ok (.laload, 1) := by decide +kernel
theorem dL_law_719 : decode cL_law 719 = .ok (.iload 6, 2) := by decide +kernel
theorem dL_law_721 : decode cL_law 721 = .ok (.i2l, 1) := by decide +kernel
theorem dL_law_722 : decode cL_law 722 = .ok (.lcmp, 1) := by decide +kernel
theorem dL_law_723 : decode cL_law 723 = .ok (.ifCond .eq 5, 3) := by decide +kernel
theorem dL_law_726 : decode cL_law 726 = .ok (.iconst 0, 1) := by decide +kernel
theorem dL_law_727 : decode cL_law 727 = .ok (.ireturn, 1) := by decide +kernel
theorem dL_law_728 : decode cL_law 728 = .ok (.goto 30, 3) := by decide +kernel
theorem dL_law_731 : decode cL_law 731 = .ok (.aload_n 1, 1) := by decide +kernel
theorem dL_law_732 : decode cL_law 732 = .ok (.invokevirtual 96, 3) := by decide +kernel
theorem dL_law_735 : decode cL_law 735 = .ok (.aload_n 2, 1) := by decide +kernel
theorem dL_law_736 : decode cL_law 736 = .ok (.invokevirtual 99, 3) := by decide +kernel
theorem dL_law_739 : decode cL_law 739 = .ok (.if_icmp .eq 19, 3) := by decide +kernel
theorem dL_law_742 : decode cL_law 742 = .ok (.iconst 0, 1) := by decide +kernel
theorem dL_law_743 : decode cL_law 743 = .ok (.ireturn, 1) := by decide +kernel
theorem dL_law_744 : decode cL_law 744 = .ok (.aload_n 1, 1) := by decide +kernel
theorem dL_law_745 : decode cL_law 745 = .ok (.invokevirtual 100, 3) := by decide +kernel
theorem dL_law_748 : decode cL_law 748 = .ok (.aload_n 2, 1) := by decide +kernel
theorem dL_law_749 : decode cL_law 749 = .ok (.invokevirtual 104, 3) := by decide +kernel
theorem dL_law_752 : decode cL_law 752 = .ok (.lcmp, 1) := by decide +kernel
theorem dL_law_753 : decode cL_law 753 = .ok (.ifCond .eq 5, 3) := by decide +kernel
theorem dL_law_756 : decode cL_law 756 = .ok (.iconst 0, 1) := by decide +kernel
theorem dL_law_757 : decode cL_law 757 = .ok (.ireturn, 1) := by decide +kernel
theorem dL_law_758 : decode cL_law 758 = .ok (.iinc 4 4, 3) := by decide +kernel
theorem dL_law_761 : decode cL_law 761 = .ok (.goto (-738), 3) := by decide +kernel
theorem dL_law_764 : decode cL_law 764 = .ok (.iconst 1, 1) := by decide +kernel
theorem dL_law_765 : decode cL_law 765 = .ok (.ireturn, 1) := by decide +kernel
end
section
/-! the worlds of both objects; calls within them -/
abbrev zg_T (cI cJ cB : ClassId) : List (ClassId × FieldType) := [(cI, .int), (cJ, .long), (cB, .byte)]
/-- the chooser: its nine fields, its five arrays -/
abbrev zx_w (ad : Nat → Nat) (cI cJ : ClassId) (lev val pkd : Nat → Int32) (cst : Nat → Int64) (chs : Nat → Int32) (D N F k : Nat) : va_W :=
  [(ad 0, .inr (0, [.ref (ad 1), .ref (ad 2), .ref (ad 3), .ref (ad 4), .ref (ad 5), .int (nI D), .int (nI N), .int (nI F), .int (nI k)])), (ad 1, .inl (cI, 8, .inl lev)), (ad 2, .inl (cI, 32, .inl val)), (ad 3, .inl (cI, 512, .inl pkd)), (ad 4, .inl (cJ, 512, .inr (.inl cst))), (ad 5, .inl (cI, 16, .inl chs))]
/-- the reference: its eleven fields, its six arrays -/
abbrev zm_w (ad : Nat → Nat) (cI cJ cB : ClassId) (lev val chs dig : Nat → Int32) (est cst : Nat → Int64) (code : Int32) (D N F k : Nat) : va_W :=
  [(ad 0, .inr (1, [.int code, .int (nI D), .ref (ad 1), .ref (ad 2), .int (nI F), .int (nI N), .int (nI k), .ref (ad 3), .ref (ad 4), .ref (ad 5), .ref (ad 6)])), (ad 1, .inl (cI, 8, .inl lev)), (ad 2, .inl (cI, 32, .inl val)), (ad 3, .inl (cI, 16, .inl chs)), (ad 4, .inl (cB, 4096, .inl dig)), (ad 5, .inl (cJ, 512, .inr (.inl est))), (ad 6, .inl (cJ, 512, .inr (.inl cst)))]
/-- which cells: the first n of ad, and those from sz on -/
def zg_A (ad : Nat → Nat) (n sz : Nat) : Nat → Prop := fun q => (∃ i, i < n ∧ q = ad i) ∨ sz ≤ q
def zg_ap (ad : Nat → Nat) (n : Nat) : Prop := ∀ i j, i < n → j < n → ad i = ad j → i = j
theorem zg_A_up {ad : Nat → Nat} {n a b q : Nat} (h : a ≤ b) (hq : zg_A ad n b q) : zg_A ad n a q := hq.elim Or.inl (fun z => Or.inr (Nat.le_trans h z))
section ZW
variable {ad : Nat → Nat} {cI cJ cB : ClassId} {lev val pkd chs dig : Nat → Int32} {est cst : Nat → Int64} {code : Int32} {D N F k sz : Nat}
theorem zx_w_at {i : Nat} {q : Nat × va_E} (h : (zx_w ad cI cJ lev val pkd cst chs D N F k)[i]? = some q) : i < 6 ∧ q.1 = ad i := by
  match i, h with
  | 0, h => cases h; exact ⟨by decide, rfl⟩
  | 1, h => cases h; exact ⟨by decide, rfl⟩
  | 2, h => cases h; exact ⟨by decide, rfl⟩
  | 3, h => cases h; exact ⟨by decide, rfl⟩
  | 4, h => cases h; exact ⟨by decide, rfl⟩
  | 5, h => cases h; exact ⟨by decide, rfl⟩
  | i + 6, h => simp at h
theorem zm_w_at {i : Nat} {q : Nat × va_E} (h : (zm_w ad cI cJ cB lev val chs dig est cst code D N F k)[i]? = some q) : i < 7 ∧ q.1 = ad i := by
  match i, h with
  | 0, h => cases h; exact ⟨by decide, rfl⟩
  | 1, h => cases h; exact ⟨by decide, rfl⟩
  | 2, h => cases h; exact ⟨by decide, rfl⟩
  | 3, h => cases h; exact ⟨by decide, rfl⟩
  | 4, h => cases h; exact ⟨by decide, rfl⟩
  | 5, h => cases h; exact ⟨by decide, rfl⟩
  | 6, h => cases h; exact ⟨by decide, rfl⟩
  | i + 7, h => simp at h
theorem zx_D (had : zg_ap ad 6) : va_D (zg_A ad 6 sz) (zx_w ad cI cJ lev val pkd cst chs D N F k) := by
  refine ⟨fun i j p q hi hj e => ?_, fun i q hi => ?_⟩
  · obtain ⟨h1, h2⟩ := zx_w_at hi
    obtain ⟨h3, h4⟩ := zx_w_at hj
    exact had i j h1 h3 (by rw [← h2, ← h4]; exact e)
  · obtain ⟨h1, h2⟩ := zx_w_at hi
    exact Or.inl ⟨i, h1, h2⟩
theorem zm_D (had : zg_ap ad 7) : va_D (zg_A ad 7 sz) (zm_w ad cI cJ cB lev val chs dig est cst code D N F k) := by
  refine ⟨fun i j p q hi hj e => ?_, fun i q hi => ?_⟩
  · obtain ⟨h1, h2⟩ := zm_w_at hi
    obtain ⟨h3, h4⟩ := zm_w_at hj
    exact had i j h1 h3 (by rw [← h2, ← h4]; exact e)
  · obtain ⟨h1, h2⟩ := zm_w_at hi
    exact Or.inl ⟨i, h1, h2⟩
end ZW
/-- a world and the tables' numbers -/
def zg_B (dC : Nat → ClassId) (dI : Nat → Nat → Nat) (cI cJ cB : ClassId) (w : va_W) (U : State) : Prop := va_P (dC, dI) zcl w U.heap ∧ va_K (dC, dI) zcl (zg_T cI cJ cB) U
theorem zg_B_blind {dC : Nat → ClassId} {dI : Nat → Nat → Nat} {cI cJ cB : ClassId} {w : va_W} {av : List Value} : FrameBlind (va_Pc av (zg_B dC dI cI cJ cB w)) :=
  fun a U g mk q => ⟨q.1, q.2.1, va_K.moved (u := U) (U := U.calling g mk a) (Vm.Alike.refl U.vm) q.2.2⟩
/-- .. and how many cells there are -/
def zg_C (dC : Nat → ClassId) (dI : Nat → Nat → Nat) (cI cJ cB : ClassId) (w : va_W) (sz : Nat) (U : State) : Prop := U.heap.size = sz ∧ zg_B dC dI cI cJ cB w U
theorem zg_C_blind {dC : Nat → ClassId} {dI : Nat → Nat → Nat} {cI cJ cB : ClassId} {w : va_W} {sz : Nat} {av : List Value} : FrameBlind (va_Pc av (zg_C dC dI cI cJ cB w sz)) :=
  fun a U g mk q => ⟨q.1, q.2.1, q.2.2.1, va_K.moved (u := U) (U := U.calling g mk a) (Vm.Alike.refl U.vm) q.2.2.2⟩
/-- a writer's end: what it answers, the new world, nothing else changed -/
def zg_Q {S : Type} (dC : Nat → ClassId) (dI : Nat → Nat → Nat) (r : S → Option Value) (post : S → Prop) (w : S → va_W) (A : Nat → Prop) : Array Value → State → Outcome → State → Prop := fun _ st o t =>
  ∃ u : S, o = .returned (r u) ∧ post u ∧ va_P (dC, dI) zcl (w u) t.heap ∧ va_F A st t
theorem zc_ws {args : Array Value} {s : State} (hz : ∀ w ∈ zw0, w.before args s = true) {c : Cond} (h : c ∈ zw0) : ∀ w ∈ c :: zw0, zt_gw w = true ∧ w.before args s = true := by
  intro w hw
  rcases List.mem_cons.mp hw with rfl | hw
  · exact ⟨zw0_g _ h, hz _ h⟩
  · exact ⟨zw0_g _ hw, hz _ hw⟩
section ZK
variable {p : Program} {l : Launch} {e : Env} {R : Room} {s : State} {m : MethodId} {args : Array Value} {below : List Frame} {meth : Method} {c : Code} {H : Heap} {locs : List Loc} {cells slots : Nat} {Q : State → Prop}
variable {cc : ByteArray} {pc : Nat} {ls : Array Slot} {rest st0 : List Value} {kr nr kt nt : Nat} {free : Addr → Prop} {Qa : State → Outcome → State → Prop}
theorem zt_callRi {r : Int32} {a : Array Value} (hr : zt_Run p l e R s m args below meth c H locs cells slots 0 0 kt nt (F0 m pc ls st0) rest (zt_Qr (some (.int r)) a) (fun _ => False))
    (k : W p l e R s m args below meth c H locs cells slots Q (F0 m (pc + 3) ls (.int r :: rest))) : W p l e R s m args below meth c H locs cells slots Q (F0 m pc ls st0) := zt_callR hr k
theorem zt_callRl {r : Int64} {a : Array Value} (hr : zt_Run p l e R s m args below meth c H locs cells slots 0 0 kt nt (F0 m pc ls st0) rest (zt_Qr (some (.long r)) a) (fun _ => False))
    (k : W p l e R s m args below meth c H locs cells slots Q (F0 m (pc + 3) ls (.long r :: rest))) : W p l e R s m args below meth c H locs cells slots Q (F0 m pc ls st0) := zt_callR hr k
/-- an instance call in a world -/
theorem zg_run {dC : Nat → ClassId} {dI : Nat → Nat → Nat} {cI cJ cB : ClassId} {w : va_W} {y : MethodName} {bytes : ByteArray} {maxL nL n index ci b q0 : Nat} {q : vw_C} {fs : List Value} {ret : Option FieldType} {ws : List Cond} {rm : Room} {Qc : Array Value → State → Outcome → State → Prop} {own : String} {As : List Value}
    (hexec : p.tables.exec = Jvm.exec) (hb : c.code = cc) (hml : c.maxLocals = nL) (hown : s.vm.findClass own = some m.cls)
    (hM : zt_Met l y ws rm (va_Pc (.ref b :: As) (zg_B dC dI cI cJ cB w)) Qc kr nr kt nt free) (cw : zt_Cw R s args own index y maxL ws rm n) (hinst : (Cond.instanceMethod y).before args s = true) (hsel : (Cond.selects q.1 y y).before args s = true) (hcode : (Cond.code y bytes maxL ret).before args s = true)
    (hP : va_P (dC, dI) zcl w H) (hK : va_K (dC, dI) zcl (zg_T cI cJ cB) s) (hq : zcl[ci]? = some q) (he : w[q0]? = some (b, .inr (ci, fs))) (hn : As.length = n) (hsize : ls.size = nL) (hst : st0 = As.reverse ++ .ref b :: rest) (hW : (rest.map fun v => v.category).sum ≤ 8) (hdg : decode cc pc = .ok (.invokevirtual index, 3)) (hf : cells + rm.cells ≤ R.cells ∧ slots + rm.slots ≤ R.slots) :
    zt_Run p l e R s m args below meth c H locs cells slots kr nr kt nt (F0 m pc ls st0) rest (Qc (Value.ref b :: As).toArray) free :=
  zt_runV hexec hb hml hown hM cw hinst hsel hcode ⟨zg_B_blind, va_recv hK hP hq he, fun U hU hW => ⟨rfl, by rw [hU]; exact hP, va_K.moved hW.alike hK⟩⟩ rfl hn hsize hst (lv_room hW) hdg hf
/-- .. that may write -/
theorem zg_runC {dC : Nat → ClassId} {dI : Nat → Nat → Nat} {cI cJ cB : ClassId} {w : va_W} {y : MethodName} {bytes : ByteArray} {maxL nL n index ci b q0 : Nat} {q : vw_C} {fs : List Value} {ret : Option FieldType} {ws : List Cond} {rm : Room} {Qc : Array Value → State → Outcome → State → Prop} {own : String} {As : List Value}
    (hexec : p.tables.exec = Jvm.exec) (hb : c.code = cc) (hml : c.maxLocals = nL) (hown : s.vm.findClass own = some m.cls)
    (hM : zt_Met l y ws rm (va_Pc (.ref b :: As) (zg_C dC dI cI cJ cB w H.size)) Qc kr nr kt nt free) (cw : zt_Cw R s args own index y maxL ws rm n) (hinst : (Cond.instanceMethod y).before args s = true) (hsel : (Cond.selects q.1 y y).before args s = true) (hcode : (Cond.code y bytes maxL ret).before args s = true)
    (hP : va_P (dC, dI) zcl w H) (hK : va_K (dC, dI) zcl (zg_T cI cJ cB) s) (hq : zcl[ci]? = some q) (he : w[q0]? = some (b, .inr (ci, fs))) (hn : As.length = n) (hsize : ls.size = nL) (hst : st0 = As.reverse ++ .ref b :: rest) (hW : (rest.map fun v => v.category).sum ≤ 8) (hdg : decode cc pc = .ok (.invokevirtual index, 3)) (hf : cells + rm.cells ≤ R.cells ∧ slots + rm.slots ≤ R.slots) :
    zt_Run p l e R s m args below meth c H locs cells slots kr nr kt nt (F0 m pc ls st0) rest (Qc (Value.ref b :: As).toArray) free :=
  zt_runV hexec hb hml hown hM cw hinst hsel hcode ⟨zg_C_blind, va_recv hK hP hq he, fun U hU hW => ⟨rfl, by rw [hU], by rw [hU]; exact hP, va_K.moved hW.alike hK⟩⟩ rfl hn hsize hst (lv_room hW) hdg hf
/-- behind a writer -/
theorem zg_callW {S : Type} {dC : Nat → ClassId} {dI : Nat → Nat → Nat} {r : S → Option Value} {post : S → Prop} {w : S → va_W} {A A0 : Nat → Prop} {H0 : Heap} {a : Array Value} (hr : zt_Run p l e R s m args below meth c H locs cells slots kr nr kt nt (F0 m pc ls st0) rest (zg_Q dC dI r post w A a) free) (hS : va_S A0 H0 H locs) (hA : ∀ q, A q → A0 q) (hfr : ∀ q, free q → A0 q)
    (k : ∀ (u : S) (H1 : Heap) (locs1 : List Loc), post u → va_P (dC, dI) zcl (w u) H1 → H.size ≤ H1.size → (∀ q : Nat, q < H.size → ¬ A q → H1[q]? = H[q]?) → va_S A0 H0 H1 locs1 → W p l e R s m args below meth c H1 locs1 (cells + kr) (slots + nr) Q (F0 m (pc + 3) ls ((r u).toList ++ rest))) : W p l e R s m args below meth c H locs cells slots Q (F0 m pc ls st0) := by
  refine zt_callr hr (fun x st t hq => by obtain ⟨u, h, -⟩ := hq; cases h) (fun v st t L h0 hW0 hWt hL hq => ?_)
  obtain ⟨u, hv, hp, hP, hF⟩ := hq
  cases hv
  obtain ⟨hz, hk⟩ := hF
  rw [h0] at hz hk
  refine k u t.heap (locs ++ L) hp hP hz hk ⟨Nat.le_trans hS.1 hz, fun q h1 h2 => ?_, fun q hq => ?_⟩
  · rw [hk q (Nat.lt_of_lt_of_le h1 hS.1) (fun z => h2 (hA q z))]
    exact hS.2.1 q h1 h2
  · rcases List.mem_append.mp hq with h | h
    · exact hS.2.2 q h
    · exact hfr _ (hL q h)
/-- a static call of a function of numbers -/
theorem zs_run {y : MethodName} {bytes : ByteArray} {maxL nL n index : Nat} {ret : Option FieldType} {ws : List Cond} {rm : Room} {Qc : Array Value → State → Outcome → State → Prop} {own : String} {As : List Value}
    (hexec : p.tables.exec = Jvm.exec) (hb : c.code = cc) (hml : c.maxLocals = nL) (hown : s.vm.findClass own = some m.cls)
    (hM : zt_Met l y ws rm (va_Pc As (fun _ => True)) Qc kr nr kt nt free) (cw : zt_Cw R s args own index y maxL ws rm n) (hst9 : (Cond.static y).before args s = true) (hcode : (Cond.code y bytes maxL ret).before args s = true)
    (hn : As.length = n) (hsize : ls.size = nL) (hst : st0 = As.reverse ++ rest) (hW : (rest.map fun v => v.category).sum ≤ 8) (hdg : decode cc pc = .ok (.invokestatic index, 3)) (hf : cells + rm.cells ≤ R.cells ∧ slots + rm.slots ≤ R.slots) :
    zt_Run p l e R s m args below meth c H locs cells slots kr nr kt nt (F0 m pc ls st0) rest (Qc As.toArray) free := by
  refine zt_runS hexec hb hml hown hM cw hst9 ?_ ⟨fun a U g mk q => q, fun U hU hW => ⟨rfl, trivial⟩⟩ rfl hn hsize hst (lv_room hW) hdg hf
  obtain ⟨mk, hnamed⟩ := Cond.code_named hcode
  obtain ⟨methM, cM, h1, h2, -, h4, -, -, -, h8⟩ := Cond.code_spec hnamed hcode
  exact ⟨mk, methM, cM, hnamed, h1, h2, h4, h8⟩
/-! the class's and the reference's own calls -/
theorem zt_rl {Qc : Array Value → State → Outcome → State → Prop} {v : Int64} (hexec : p.tables.exec = Jvm.exec) (hb : c.code = cc) (hr : meth.sig.returnType = some .long) (hlocks : meth.locks = false)
    (hq : ∀ t : State, t.heap = H → s.WarmedH t.vm → Qc args s (.returned (some (.long v))) t) (hf : ∀ q ∈ locs, free q.base) (hdg : decode cc pc = .ok (.lreturn, 1)) : W p l e R s m args below meth c H locs cells slots (zt_MQ below Qc args s cells slots kt nt free) (F0 m pc ls [.long v]) :=
  zt_mono zt_MQ_of (W.lret hexec hb hr hq hf hdg hlocks)
theorem zt_ri {Qc : Array Value → State → Outcome → State → Prop} {v : Int32} (hexec : p.tables.exec = Jvm.exec) (hb : c.code = cc) (hr : meth.sig.returnType = some .int) (hlocks : meth.locks = false)
    (hq : ∀ t : State, t.heap = H → s.WarmedH t.vm → Qc args s (.returned (some (.int v))) t) (hf : ∀ q ∈ locs, free q.base) (hdg : decode cc pc = .ok (.ireturn, 1)) : W p l e R s m args below meth c H locs cells slots (zt_MQ below Qc args s cells slots kt nt free) (F0 m pc ls [.int v]) :=
  zt_mono zt_MQ_of (W.iret hexec hb hr hq hf hdg hlocks)
theorem zt_rz {Qc : Array Value → State → Outcome → State → Prop} {v : Int32} (hexec : p.tables.exec = Jvm.exec) (hb : c.code = cc) (hr : meth.sig.returnType = some .boolean) (hlocks : meth.locks = false) (hn : narrow .boolean (.int v) = .int v)
    (hq : ∀ t : State, t.heap = H → s.WarmedH t.vm → Qc args s (.returned (some (.int v))) t) (hf : ∀ q ∈ locs, free q.base) (hdg : decode cc pc = .ok (.ireturn, 1)) : W p l e R s m args below meth c H locs cells slots (zt_MQ below Qc args s cells slots kt nt free) (F0 m pc ls [.int v]) :=
  zt_mono zt_MQ_of (W.zret hexec hb hr hn hq hf hdg hlocks)
theorem zt_rv {Qc : Array Value → State → Outcome → State → Prop} (hexec : p.tables.exec = Jvm.exec) (hb : c.code = cc) (hr : meth.sig.returnType = none) (hlocks : meth.locks = false)
    (hq : ∀ t : State, t.heap = H → s.WarmedH t.vm → Qc args s (.returned none) t) (hf : ∀ q ∈ locs, free q.base) (hdg : decode cc pc = .ok (.return_, 1)) : W p l e R s m args below meth c H locs cells slots (zt_MQ below Qc args s cells slots kt nt free) (F0 m pc ls []) :=
  zt_mono zt_MQ_of (W.vret hexec hb hr hq hf hdg hlocks)
end ZK
end
section
/-! jumps on numbers -/
section ZJ
variable {p : Program} {l : Launch} {e : Env} {R : Room} {s : State} {m : MethodId} {args : Array Value} {below : List Frame} {meth : Method} {c : Code} {H : Heap} {locs : List Loc} {cells slots : Nat} {Q : State → Prop}
variable {cc : ByteArray} {pc : Nat} {ls : Array Slot} {rest : List Value}
theorem zj_ge (hexec : p.tables.exec = Jvm.exec) (hb : c.code = cc) {a b : Nat} {off : Int} {tgt : Nat} (hdg : decode cc pc = .ok (.if_icmp .ge off, 3)) (ht : (pc : Int) + off = (tgt : Int)) (ha : a < 2 ^ 31) (hb2 : b < 2 ^ 31)
    (kt : b ≤ a → W p l e R s m args below meth c H locs cells slots Q (F0 m tgt ls rest)) (kf : a < b → W p l e R s m args below meth c H locs cells slots Q (F0 m (pc + 3) ls rest)) : W p l e R s m args below meth c H locs cells slots Q (F0 m pc ls (.int (nI b) :: .int (nI a) :: rest)) :=
  lv_icmp_ge hexec hb hdg ht (fun q => kt ((nI_leI hb2 ha).mp q)) (fun q => kf (Nat.lt_of_not_le fun z => q ((nI_leI hb2 ha).mpr z)))
theorem zj_lt (hexec : p.tables.exec = Jvm.exec) (hb : c.code = cc) {a b : Nat} {off : Int} {tgt : Nat} (hdg : decode cc pc = .ok (.if_icmp .lt off, 3)) (ht : (pc : Int) + off = (tgt : Int)) (ha : a < 2 ^ 31) (hb2 : b < 2 ^ 31)
    (kt : a < b → W p l e R s m args below meth c H locs cells slots Q (F0 m tgt ls rest)) (kf : b ≤ a → W p l e R s m args below meth c H locs cells slots Q (F0 m (pc + 3) ls rest)) : W p l e R s m args below meth c H locs cells slots Q (F0 m pc ls (.int (nI b) :: .int (nI a) :: rest)) :=
  lv_icmp_lt hexec hb hdg ht (fun q => kt ((nI_ltI ha hb2).mp q)) (fun q => kf (Nat.le_of_not_lt fun z => q ((nI_ltI ha hb2).mpr z)))
theorem zj_gt (hexec : p.tables.exec = Jvm.exec) (hb : c.code = cc) {a b : Nat} {off : Int} {tgt : Nat} (hdg : decode cc pc = .ok (.if_icmp .gt off, 3)) (ht : (pc : Int) + off = (tgt : Int)) (ha : a < 2 ^ 31) (hb2 : b < 2 ^ 31)
    (kt : b < a → W p l e R s m args below meth c H locs cells slots Q (F0 m tgt ls rest)) (kf : a ≤ b → W p l e R s m args below meth c H locs cells slots Q (F0 m (pc + 3) ls rest)) : W p l e R s m args below meth c H locs cells slots Q (F0 m pc ls (.int (nI b) :: .int (nI a) :: rest)) :=
  lv_icmp_gt hexec hb hdg ht (fun q => kt ((nI_ltI hb2 ha).mp q)) (fun q => kf (Nat.le_of_not_lt fun z => q ((nI_ltI hb2 ha).mpr z)))
theorem zj_le (hexec : p.tables.exec = Jvm.exec) (hb : c.code = cc) {a b : Nat} {off : Int} {tgt : Nat} (hdg : decode cc pc = .ok (.if_icmp .le off, 3)) (ht : (pc : Int) + off = (tgt : Int)) (ha : a < 2 ^ 31) (hb2 : b < 2 ^ 31)
    (kt : a ≤ b → W p l e R s m args below meth c H locs cells slots Q (F0 m tgt ls rest)) (kf : b < a → W p l e R s m args below meth c H locs cells slots Q (F0 m (pc + 3) ls rest)) : W p l e R s m args below meth c H locs cells slots Q (F0 m pc ls (.int (nI b) :: .int (nI a) :: rest)) :=
  lv_icmp_le hexec hb hdg ht (fun q => kt ((nI_leI ha hb2).mp q)) (fun q => kf (Nat.lt_of_not_le fun z => q ((nI_leI ha hb2).mpr z)))
theorem zj_eq (hexec : p.tables.exec = Jvm.exec) (hb : c.code = cc) {a b : Nat} {off : Int} {tgt : Nat} (hdg : decode cc pc = .ok (.if_icmp .eq off, 3)) (ht : (pc : Int) + off = (tgt : Int)) (ha : a < 2 ^ 31) (hb2 : b < 2 ^ 31)
    (kt : a = b → W p l e R s m args below meth c H locs cells slots Q (F0 m tgt ls rest)) (kf : ¬ a = b → W p l e R s m args below meth c H locs cells slots Q (F0 m (pc + 3) ls rest)) : W p l e R s m args below meth c H locs cells slots Q (F0 m pc ls (.int (nI b) :: .int (nI a) :: rest)) :=
  lv_icmp_eq hexec hb hdg ht (fun q => kt ((nI_eq ha hb2).mp q)) (fun q => kf fun z => q ((nI_eq ha hb2).mpr z))
theorem zj_ne (hexec : p.tables.exec = Jvm.exec) (hb : c.code = cc) {a b : Nat} {off : Int} {tgt : Nat} (hdg : decode cc pc = .ok (.if_icmp .ne off, 3)) (ht : (pc : Int) + off = (tgt : Int)) (ha : a < 2 ^ 31) (hb2 : b < 2 ^ 31)
    (kt : ¬ a = b → W p l e R s m args below meth c H locs cells slots Q (F0 m tgt ls rest)) (kf : a = b → W p l e R s m args below meth c H locs cells slots Q (F0 m (pc + 3) ls rest)) : W p l e R s m args below meth c H locs cells slots Q (F0 m pc ls (.int (nI b) :: .int (nI a) :: rest)) :=
  lv_icmp_ne hexec hb hdg ht (fun q => kt fun z => q ((nI_eq ha hb2).mpr z)) (fun q => kf ((nI_eq ha hb2).mp q))
/-- lcmp; ifle -/
theorem zl_le (hexec : p.tables.exec = Jvm.exec) (hb : c.code = cc) {a b : Nat} {off : Int} {tgt : Nat} (hd1 : decode cc pc = .ok (.lcmp, 1)) (hdg : decode cc (pc + 1) = .ok (.ifCond .le off, 3)) (ht : ((pc + 1 : Nat) : Int) + off = (tgt : Int)) (ha : a < 2 ^ 63) (hb2 : b < 2 ^ 63)
    (kt : a ≤ b → W p l e R s m args below meth c H locs cells slots Q (F0 m tgt ls rest)) (kf : b < a → W p l e R s m args below meth c H locs cells slots Q (F0 m (pc + 1 + 3) ls rest)) : W p l e R s m args below meth c H locs cells slots Q (F0 m pc ls (.long (lN b) :: .long (lN a) :: rest)) := by
  refine W.lcmp hexec hb hd1 (lv_if_le hexec hb hdg ht (fun q => kt ?_) (fun q => kf ?_))
  · exact (pk_lLE ha hb2).mp ((lg_cmp_le _ _).mp q)
  · exact Nat.lt_of_not_le fun z => q ((lg_cmp_le _ _).mpr ((pk_lLE ha hb2).mpr z))
/-- lcmp; ifge -/
theorem zl_ge (hexec : p.tables.exec = Jvm.exec) (hb : c.code = cc) {a b : Nat} {off : Int} {tgt : Nat} (hd1 : decode cc pc = .ok (.lcmp, 1)) (hdg : decode cc (pc + 1) = .ok (.ifCond .ge off, 3)) (ht : ((pc + 1 : Nat) : Int) + off = (tgt : Int)) (ha : a < 2 ^ 63) (hb2 : b < 2 ^ 63)
    (kt : b ≤ a → W p l e R s m args below meth c H locs cells slots Q (F0 m tgt ls rest)) (kf : a < b → W p l e R s m args below meth c H locs cells slots Q (F0 m (pc + 1 + 3) ls rest)) : W p l e R s m args below meth c H locs cells slots Q (F0 m pc ls (.long (lN b) :: .long (lN a) :: rest)) := by
  refine W.lcmp hexec hb hd1 (lv_if_ge hexec hb hdg ht (fun q => kt ?_) (fun q => kf ?_))
  · exact (pk_lLE hb2 ha).mp ((lg_cmp_ge _ _).mp q)
  · exact Nat.lt_of_not_le fun z => q ((lg_cmp_ge _ _).mpr ((pk_lLE hb2 ha).mpr z))
/-- ifeq, ifne on a truth -/
theorem zb_eq (hexec : p.tables.exec = Jvm.exec) (hb : c.code = cc) {t : Bool} {off : Int} {tgt : Nat} (hdg : decode cc pc = .ok (.ifCond .eq off, 3)) (ht : (pc : Int) + off = (tgt : Int))
    (kt : t = false → W p l e R s m args below meth c H locs cells slots Q (F0 m tgt ls rest)) (kf : t = true → W p l e R s m args below meth c H locs cells slots Q (F0 m (pc + 3) ls rest)) : W p l e R s m args below meth c H locs cells slots Q (F0 m pc ls (.int (if t = true then 1 else 0) :: rest)) := by
  refine lv_if_eq hexec hb hdg ht (fun q => kt ?_) (fun q => kf ?_)
  · cases t
    · rfl
    · exact absurd q (by decide)
  · cases t
    · exact absurd rfl q
    · rfl
theorem zb_ne (hexec : p.tables.exec = Jvm.exec) (hb : c.code = cc) {t : Bool} {off : Int} {tgt : Nat} (hdg : decode cc pc = .ok (.ifCond .ne off, 3)) (ht : (pc : Int) + off = (tgt : Int))
    (kt : t = true → W p l e R s m args below meth c H locs cells slots Q (F0 m tgt ls rest)) (kf : t = false → W p l e R s m args below meth c H locs cells slots Q (F0 m (pc + 3) ls rest)) : W p l e R s m args below meth c H locs cells slots Q (F0 m pc ls (.int (if t = true then 1 else 0) :: rest)) := by
  refine lv_if_ne hexec hb hdg ht (fun q => kt ?_) (fun q => kf ?_)
  · cases t
    · exact absurd rfl q
    · rfl
  · cases t
    · rfl
    · exact absurd q (by decide)
end ZJ
theorem zq_minL {a b : Nat} (ha : a < 2 ^ 63) (hb : b < 2 ^ 63) : (if lN a < lN b then lN a else lN b) = lN (min a b) := by
  by_cases h : a < b
  · rw [if_pos ((pk_lLT ha hb).mpr h), Nat.min_eq_left (Nat.le_of_lt h)]
  · rw [if_neg (fun z => h ((pk_lLT ha hb).mp z)), Nat.min_eq_right (by omega)]
theorem zq_minI {a b : Nat} (ha : a < 2 ^ 31) (hb : b < 2 ^ 31) : (if nI a < nI b then nI a else nI b) = nI (min a b) := by
  by_cases h : a < b
  · rw [if_pos ((nI_ltI ha hb).mpr h), Nat.min_eq_left (Nat.le_of_lt h)]
  · rw [if_neg (fun z => h ((nI_ltI ha hb).mp z)), Nat.min_eq_right (by omega)]
end
section
/-! rooms, and what a call asks: by program -/
abbrev wX_init : List Cond := Cond.code yX_init cX_init 1 none :: zw0
abbrev rX_init : Room := { frames := 1, cells := 5, slots := 1080, locals := 20 }
abbrev wX_dimension : List Cond := Cond.code yX_dimension cX_dimension 3 (some .int) :: zw0
abbrev rX_dimension : Room := { frames := 6, cells := 1, slots := 6, locals := 83 }
abbrev wX_values : List Cond := Cond.code yX_values cX_values 6 (some .int) :: zw0
abbrev rX_values : Room := { frames := 7, cells := 1, slots := 6, locals := 104 }
abbrev wX_facts : List Cond := Cond.code yX_facts cX_facts 3 (some .int) :: zw0
abbrev rX_facts : Room := { frames := 6, cells := 1, slots := 6, locals := 83 }
abbrev wX_views : List Cond := Cond.code yX_views cX_views 1 (some .int) :: zw0
abbrev rX_views : Room := { frames := 0, cells := 0, slots := 0, locals := 0 }
abbrev wX_digit : List Cond := Cond.code yX_digit cX_digit 3 (some .int) :: zw0
abbrev rX_digit : Room := { frames := 7, cells := 1, slots := 6, locals := 104 }
abbrev wX_isAbove : List Cond := Cond.code yX_isAbove cX_isAbove 3 (some .boolean) :: zw0
abbrev rX_isAbove : Room := { frames := 7, cells := 1, slots := 6, locals := 104 }
abbrev wX_told : List Cond := Cond.code yX_told cX_told 3 (some .long) :: zw0
abbrev rX_told : Room := { frames := 7, cells := 1, slots := 6, locals := 104 }
abbrev wX_take : List Cond := Cond.code yX_take cX_take 2 (some .int) :: zw0
abbrev rX_take : Room := { frames := 7, cells := 1, slots := 6, locals := 104 }
abbrev wX_step : List Cond := Cond.code yX_step cX_step 2 (some .int) :: zw0
abbrev rX_step : Room := { frames := 7, cells := 1, slots := 6, locals := 103 }
abbrev wX_choose : List Cond := Cond.code yX_choose cX_choose 4 (some .int) :: zw0
abbrev rX_choose : Room := { frames := 6, cells := 1, slots := 6, locals := 102 }
abbrev wX_chosen : List Cond := Cond.code yX_chosen cX_chosen 2 (some .int) :: zw0
abbrev rX_chosen : Room := { frames := 6, cells := 1, slots := 6, locals := 83 }
abbrev wX_drop : List Cond := Cond.code yX_drop cX_drop 2 (some .int) :: zw0
abbrev rX_drop : Room := { frames := 2, cells := 0, slots := 0, locals := 44 }
abbrev wX_total : List Cond := Cond.code yX_total cX_total 4 (some .long) :: zw0
abbrev rX_total : Room := { frames := 0, cells := 0, slots := 0, locals := 0 }
abbrev wX_checkView : List Cond := Cond.code yX_checkView cX_checkView 2 none :: zw0
abbrev rX_checkView : Room := { frames := 6, cells := 1, slots := 6, locals := 83 }
abbrev wX_checkDimension : List Cond := Cond.code yX_checkDimension cX_checkDimension 2 none :: zw0
abbrev rX_checkDimension : Room := { frames := 6, cells := 1, slots := 6, locals := 83 }
abbrev wX_checkRoomForChosen : List Cond := Cond.code yX_checkRoomForChosen cX_checkRoomForChosen 1 none :: zw0
abbrev rX_checkRoomForChosen : Room := { frames := 6, cells := 1, slots := 6, locals := 83 }
abbrev wX_splitViews : List Cond := Cond.code yX_splitViews cX_splitViews 6 none :: zw0
abbrev rX_splitViews : Room := { frames := 0, cells := 0, slots := 0, locals := 0 }
abbrev wX_forgetChosen : List Cond := Cond.code yX_forgetChosen cX_forgetChosen 1 none :: zw0
abbrev rX_forgetChosen : Room := { frames := 1, cells := 0, slots := 0, locals := 24 }
abbrev wX_addChosen : List Cond := Cond.code yX_addChosen cX_addChosen 6 none :: zw0
abbrev rX_addChosen : Room := { frames := 2, cells := 0, slots := 0, locals := 49 }
abbrev wX_mostBeneficial : List Cond := Cond.code yX_mostBeneficial cX_mostBeneficial 7 (some .int) :: zw0
abbrev rX_mostBeneficial : Room := { frames := 3, cells := 0, slots := 0, locals := 76 }
abbrev wX_benefitOf : List Cond := Cond.code yX_benefitOf cX_benefitOf 8 (some .long) :: zw0
abbrev rX_benefitOf : Room := { frames := 2, cells := 0, slots := 0, locals := 49 }
abbrev wX_estimateOf : List Cond := Cond.code yX_estimateOf cX_estimateOf 7 (some .long) :: zw0
abbrev rX_estimateOf : Room := { frames := 1, cells := 0, slots := 0, locals := 23 }
abbrev wX_unpackDigit : List Cond := Cond.code yX_unpackDigit cX_unpackDigit 2 (some .int) :: zw0
abbrev rX_unpackDigit : Room := { frames := 0, cells := 0, slots := 0, locals := 0 }
abbrev wX_isAbovePacked : List Cond := Cond.code yX_isAbovePacked cX_isAbovePacked 2 (some .boolean) :: zw0
abbrev rX_isAbovePacked : Room := { frames := 0, cells := 0, slots := 0, locals := 0 }
abbrev wM_init : List Cond := Cond.code yM_init cM_init 1 none :: zw0
abbrev rM_init : Room := { frames := 1, cells := 6, slots := 5176, locals := 20 }
abbrev wM_thrown : List Cond := Cond.code yM_thrown cM_thrown 1 (some .int) :: zw0
abbrev rM_thrown : Room := { frames := 0, cells := 0, slots := 0, locals := 0 }
abbrev wM_dimension : List Cond := Cond.code yM_dimension cM_dimension 3 (some .int) :: zw0
abbrev rM_dimension : Room := { frames := 2, cells := 0, slots := 0, locals := 46 }
abbrev wM_isDimension : List Cond := Cond.code yM_isDimension cM_isDimension 2 (some .boolean) :: zw0
abbrev rM_isDimension : Room := { frames := 0, cells := 0, slots := 0, locals := 0 }
abbrev wM_isView : List Cond := Cond.code yM_isView cM_isView 2 (some .boolean) :: zw0
abbrev rM_isView : Room := { frames := 0, cells := 0, slots := 0, locals := 0 }
abbrev wM_values : List Cond := Cond.code yM_values cM_values 5 (some .int) :: zw0
abbrev rM_values : Room := { frames := 1, cells := 0, slots := 0, locals := 21 }
abbrev wM_facts : List Cond := Cond.code yM_facts cM_facts 3 (some .int) :: zw0
abbrev rM_facts : Room := { frames := 0, cells := 0, slots := 0, locals := 0 }
abbrev wM_views : List Cond := Cond.code yM_views cM_views 1 (some .int) :: zw0
abbrev rM_views : Room := { frames := 0, cells := 0, slots := 0, locals := 0 }
abbrev wM_spread : List Cond := Cond.code yM_spread cM_spread 3 none :: zw0
abbrev rM_spread : Room := { frames := 1, cells := 0, slots := 0, locals := 24 }
abbrev wM_digitOf : List Cond := Cond.code yM_digitOf cM_digitOf 3 (some .int) :: zw0
abbrev rM_digitOf : Room := { frames := 0, cells := 0, slots := 0, locals := 0 }
abbrev wM_divided : List Cond := Cond.code yM_divided cM_divided 5 (some .int) :: zw0
abbrev rM_divided : Room := { frames := 0, cells := 0, slots := 0, locals := 0 }
abbrev wM_above : List Cond := Cond.code yM_above cM_above 5 (some .boolean) :: zw0
abbrev rM_above : Room := { frames := 1, cells := 0, slots := 0, locals := 22 }
abbrev wM_estimateOf : List Cond := Cond.code yM_estimateOf cM_estimateOf 6 (some .long) :: zw0
abbrev rM_estimateOf : Room := { frames := 1, cells := 0, slots := 0, locals := 22 }
abbrev wM_reckon : List Cond := Cond.code yM_reckon cM_reckon 4 none :: zw0
abbrev rM_reckon : Room := { frames := 2, cells := 0, slots := 0, locals := 47 }
abbrev wM_benefitOf : List Cond := Cond.code yM_benefitOf cM_benefitOf 5 (some .long) :: zw0
abbrev rM_benefitOf : Room := { frames := 2, cells := 0, slots := 0, locals := 46 }
abbrev wM_digit : List Cond := Cond.code yM_digit cM_digit 3 (some .int) :: zw0
abbrev rM_digit : Room := { frames := 1, cells := 0, slots := 0, locals := 22 }
abbrev wM_isAbove : List Cond := Cond.code yM_isAbove cM_isAbove 3 (some .boolean) :: zw0
abbrev rM_isAbove : Room := { frames := 2, cells := 0, slots := 0, locals := 46 }
abbrev wM_told : List Cond := Cond.code yM_told cM_told 3 (some .long) :: zw0
abbrev rM_told : Room := { frames := 3, cells := 0, slots := 0, locals := 70 }
abbrev wM_take : List Cond := Cond.code yM_take cM_take 2 (some .int) :: zw0
abbrev rM_take : Room := { frames := 1, cells := 0, slots := 0, locals := 21 }
abbrev wM_choosesOne : List Cond := Cond.code yM_choosesOne cM_choosesOne 7 (some .int) :: zw0
abbrev rM_choosesOne : Room := { frames := 3, cells := 0, slots := 0, locals := 70 }
abbrev wM_step : List Cond := Cond.code yM_step cM_step 1 (some .int) :: zw0
abbrev rM_step : Room := { frames := 4, cells := 0, slots := 0, locals := 96 }
abbrev wM_choose : List Cond := Cond.code yM_choose cM_choose 3 (some .int) :: zw0
abbrev rM_choose : Room := { frames := 4, cells := 0, slots := 0, locals := 96 }
abbrev wM_chosen : List Cond := Cond.code yM_chosen cM_chosen 2 (some .int) :: zw0
abbrev rM_chosen : Room := { frames := 0, cells := 0, slots := 0, locals := 0 }
abbrev wM_drop : List Cond := Cond.code yM_drop cM_drop 2 (some .int) :: zw0
abbrev rM_drop : Room := { frames := 0, cells := 0, slots := 0, locals := 0 }
abbrev wM_total : List Cond := Cond.code yM_total cM_total 4 (some .long) :: zw0
abbrev rM_total : Room := { frames := 3, cells := 0, slots := 0, locals := 70 }
abbrev wL_dimension : List Cond := Cond.codeWith yL_dimension cL_dimension 4 (some .int) [(0, 9, 12, 13), (0, 9, 15, 15)] :: zw0
abbrev rL_dimension : Room := { frames := 7, cells := 1, slots := 6, locals := 105 }
abbrev wL_values : List Cond := Cond.codeWith yL_values cL_values 6 (some .int) [(0, 12, 15, 13)] :: zw0
abbrev rL_values : Room := { frames := 8, cells := 1, slots := 6, locals := 129 }
abbrev wL_facts : List Cond := Cond.codeWith yL_facts cL_facts 4 (some .int) [(0, 9, 12, 13)] :: zw0
abbrev rL_facts : Room := { frames := 7, cells := 1, slots := 6, locals := 105 }
abbrev wL_digit : List Cond := Cond.codeWith yL_digit cL_digit 5 (some .int) [(0, 10, 13, 13)] :: zw0
abbrev rL_digit : Room := { frames := 8, cells := 1, slots := 6, locals := 126 }
abbrev wL_isAbove : List Cond := Cond.codeWith yL_isAbove cL_isAbove 5 (some .int) [(0, 17, 20, 13)] :: zw0
abbrev rL_isAbove : Room := { frames := 8, cells := 1, slots := 6, locals := 126 }
abbrev wL_told : List Cond := Cond.codeWith yL_told cL_told 5 (some .int) [(0, 9, 12, 13)] :: zw0
abbrev rL_told : Room := { frames := 8, cells := 1, slots := 6, locals := 126 }
abbrev wL_take : List Cond := Cond.codeWith yL_take cL_take 4 (some .int) [(0, 9, 12, 13), (0, 9, 15, 15)] :: zw0
abbrev rL_take : Room := { frames := 8, cells := 1, slots := 6, locals := 125 }
abbrev wL_step : List Cond := Cond.codeWith yL_step cL_step 3 (some .int) [(0, 8, 11, 15)] :: zw0
abbrev rL_step : Room := { frames := 8, cells := 1, slots := 6, locals := 124 }
abbrev wL_choose : List Cond := Cond.codeWith yL_choose cL_choose 4 (some .int) [(0, 9, 12, 13)] :: zw0
abbrev rL_choose : Room := { frames := 7, cells := 1, slots := 6, locals := 125 }
abbrev wL_chosen : List Cond := Cond.codeWith yL_chosen cL_chosen 4 (some .int) [(0, 9, 12, 13)] :: zw0
abbrev rL_chosen : Room := { frames := 7, cells := 1, slots := 6, locals := 104 }
abbrev wA_fill : List Cond := Cond.code yA_fill cA_fill 5 none :: zw0
abbrev rA_fill : Room := { frames := 0, cells := 0, slots := 0, locals := 0 }
theorem wcL_7 {R : Room} {args : Array Value} {s : State} (hz : ∀ w ∈ zw0, w.before args s = true) (hf : rX_dimension.frames + 1 ≤ R.frames) (hl : 8 + (3 + 11) + rX_dimension.locals ≤ R.locals) : zt_Cw R s args RL 7 yX_dimension 3 wX_dimension rX_dimension 1 := ⟨hf, hl, zc_ws hz kC_X_dimension, hz _ kin_ViewChooser, hz _ kl_L_7, ⟨by decide +kernel, by decide +kernel⟩, by decide +kernel⟩
theorem wcL_17 {R : Room} {args : Array Value} {s : State} (hz : ∀ w ∈ zw0, w.before args s = true) (hf : rX_values.frames + 1 ≤ R.frames) (hl : 8 + (6 + 11) + rX_values.locals ≤ R.locals) : zt_Cw R s args RL 17 yX_values 6 wX_values rX_values 3 := ⟨hf, hl, zc_ws hz kC_X_values, hz _ kin_ViewChooser, hz _ kl_L_17, ⟨by decide +kernel, by decide +kernel⟩, by decide +kernel⟩
theorem wcL_21 {R : Room} {args : Array Value} {s : State} (hz : ∀ w ∈ zw0, w.before args s = true) (hf : rX_facts.frames + 1 ≤ R.frames) (hl : 8 + (3 + 11) + rX_facts.locals ≤ R.locals) : zt_Cw R s args RL 21 yX_facts 3 wX_facts rX_facts 1 := ⟨hf, hl, zc_ws hz kC_X_facts, hz _ kin_ViewChooser, hz _ kl_L_21, ⟨by decide +kernel, by decide +kernel⟩, by decide +kernel⟩
theorem wcL_24 {R : Room} {args : Array Value} {s : State} (hz : ∀ w ∈ zw0, w.before args s = true) (hf : rX_digit.frames + 1 ≤ R.frames) (hl : 8 + (3 + 11) + rX_digit.locals ≤ R.locals) : zt_Cw R s args RL 24 yX_digit 3 wX_digit rX_digit 2 := ⟨hf, hl, zc_ws hz kC_X_digit, hz _ kin_ViewChooser, hz _ kl_L_24, ⟨by decide +kernel, by decide +kernel⟩, by decide +kernel⟩
theorem wcL_28 {R : Room} {args : Array Value} {s : State} (hz : ∀ w ∈ zw0, w.before args s = true) (hf : rX_isAbove.frames + 1 ≤ R.frames) (hl : 8 + (3 + 11) + rX_isAbove.locals ≤ R.locals) : zt_Cw R s args RL 28 yX_isAbove 3 wX_isAbove rX_isAbove 2 := ⟨hf, hl, zc_ws hz kC_X_isAbove, hz _ kin_ViewChooser, hz _ kl_L_28, ⟨by decide +kernel, by decide +kernel⟩, by decide +kernel⟩
theorem wcL_32 {R : Room} {args : Array Value} {s : State} (hz : ∀ w ∈ zw0, w.before args s = true) (hf : rX_told.frames + 1 ≤ R.frames) (hl : 8 + (3 + 11) + rX_told.locals ≤ R.locals) : zt_Cw R s args RL 32 yX_told 3 wX_told rX_told 2 := ⟨hf, hl, zc_ws hz kC_X_told, hz _ kin_ViewChooser, hz _ kl_L_32, ⟨by decide +kernel, by decide +kernel⟩, by decide +kernel⟩
theorem wcL_36 {R : Room} {args : Array Value} {s : State} (hz : ∀ w ∈ zw0, w.before args s = true) (hf : rX_take.frames + 1 ≤ R.frames) (hl : 8 + (2 + 11) + rX_take.locals ≤ R.locals) : zt_Cw R s args RL 36 yX_take 2 wX_take rX_take 1 := ⟨hf, hl, zc_ws hz kC_X_take, hz _ kin_ViewChooser, hz _ kl_L_36, ⟨by decide +kernel, by decide +kernel⟩, by decide +kernel⟩
theorem wcL_39 {R : Room} {args : Array Value} {s : State} (hz : ∀ w ∈ zw0, w.before args s = true) (hf : rX_step.frames + 1 ≤ R.frames) (hl : 8 + (2 + 11) + rX_step.locals ≤ R.locals) : zt_Cw R s args RL 39 yX_step 2 wX_step rX_step 0 := ⟨hf, hl, zc_ws hz kC_X_step, hz _ kin_ViewChooser, hz _ kl_L_39, ⟨by decide +kernel, by decide +kernel⟩, by decide +kernel⟩
theorem wcL_43 {R : Room} {args : Array Value} {s : State} (hz : ∀ w ∈ zw0, w.before args s = true) (hf : rX_choose.frames + 1 ≤ R.frames) (hl : 8 + (4 + 11) + rX_choose.locals ≤ R.locals) : zt_Cw R s args RL 43 yX_choose 4 wX_choose rX_choose 1 := ⟨hf, hl, zc_ws hz kC_X_choose, hz _ kin_ViewChooser, hz _ kl_L_43, ⟨by decide +kernel, by decide +kernel⟩, by decide +kernel⟩
theorem wcL_46 {R : Room} {args : Array Value} {s : State} (hz : ∀ w ∈ zw0, w.before args s = true) (hf : rX_chosen.frames + 1 ≤ R.frames) (hl : 8 + (2 + 11) + rX_chosen.locals ≤ R.locals) : zt_Cw R s args RL 46 yX_chosen 2 wX_chosen rX_chosen 1 := ⟨hf, hl, zc_ws hz kC_X_chosen, hz _ kin_ViewChooser, hz _ kl_L_46, ⟨by decide +kernel, by decide +kernel⟩, by decide +kernel⟩
theorem wcL_53 {R : Room} {args : Array Value} {s : State} (hz : ∀ w ∈ zw0, w.before args s = true) (hf : rL_dimension.frames + 1 ≤ R.frames) (hl : 8 + (4 + 11) + rL_dimension.locals ≤ R.locals) : zt_Cw R s args RL 53 yL_dimension 4 wL_dimension rL_dimension 3 := ⟨hf, hl, zc_ws hz kC_L_dimension, hz _ kin_ViewChooserLaw, hz _ kl_L_53, ⟨by decide +kernel, by decide +kernel⟩, by decide +kernel⟩
theorem wcL_58 {R : Room} {args : Array Value} {s : State} (hz : ∀ w ∈ zw0, w.before args s = true) (hf : rM_dimension.frames + 1 ≤ R.frames) (hl : 8 + (3 + 11) + rM_dimension.locals ≤ R.locals) : zt_Cw R s args RL 58 yM_dimension 3 wM_dimension rM_dimension 1 := ⟨hf, hl, zc_ws hz kC_M_dimension, hz _ kin_ViewChooserModel, hz _ kl_L_58, ⟨by decide +kernel, by decide +kernel⟩, by decide +kernel⟩
theorem wcL_59 {R : Room} {args : Array Value} {s : State} (hz : ∀ w ∈ zw0, w.before args s = true) (hf : rM_thrown.frames + 1 ≤ R.frames) (hl : 8 + (1 + 11) + rM_thrown.locals ≤ R.locals) : zt_Cw R s args RL 59 yM_thrown 1 wM_thrown rM_thrown 0 := ⟨hf, hl, zc_ws hz kC_M_thrown, hz _ kin_ViewChooserModel, hz _ kl_L_59, ⟨by decide +kernel, by decide +kernel⟩, by decide +kernel⟩
theorem wcL_62 {R : Room} {args : Array Value} {s : State} (hz : ∀ w ∈ zw0, w.before args s = true) (hf : rL_values.frames + 1 ≤ R.frames) (hl : 8 + (6 + 11) + rL_values.locals ≤ R.locals) : zt_Cw R s args RL 62 yL_values 6 wL_values rL_values 5 := ⟨hf, hl, zc_ws hz kC_L_values, hz _ kin_ViewChooserLaw, hz _ kl_L_62, ⟨by decide +kernel, by decide +kernel⟩, by decide +kernel⟩
theorem wcL_65 {R : Room} {args : Array Value} {s : State} (hz : ∀ w ∈ zw0, w.before args s = true) (hf : rM_values.frames + 1 ≤ R.frames) (hl : 8 + (5 + 11) + rM_values.locals ≤ R.locals) : zt_Cw R s args RL 65 yM_values 5 wM_values rM_values 3 := ⟨hf, hl, zc_ws hz kC_M_values, hz _ kin_ViewChooserModel, hz _ kl_L_65, ⟨by decide +kernel, by decide +kernel⟩, by decide +kernel⟩
theorem wcL_66 {R : Room} {args : Array Value} {s : State} (hz : ∀ w ∈ zw0, w.before args s = true) (hf : rL_facts.frames + 1 ≤ R.frames) (hl : 8 + (4 + 11) + rL_facts.locals ≤ R.locals) : zt_Cw R s args RL 66 yL_facts 4 wL_facts rL_facts 3 := ⟨hf, hl, zc_ws hz kC_L_facts, hz _ kin_ViewChooserLaw, hz _ kl_L_66, ⟨by decide +kernel, by decide +kernel⟩, by decide +kernel⟩
theorem wcL_68 {R : Room} {args : Array Value} {s : State} (hz : ∀ w ∈ zw0, w.before args s = true) (hf : rM_facts.frames + 1 ≤ R.frames) (hl : 8 + (3 + 11) + rM_facts.locals ≤ R.locals) : zt_Cw R s args RL 68 yM_facts 3 wM_facts rM_facts 1 := ⟨hf, hl, zc_ws hz kC_M_facts, hz _ kin_ViewChooserModel, hz _ kl_L_68, ⟨by decide +kernel, by decide +kernel⟩, by decide +kernel⟩
theorem wcL_69 {R : Room} {args : Array Value} {s : State} (hz : ∀ w ∈ zw0, w.before args s = true) (hf : rX_views.frames + 1 ≤ R.frames) (hl : 8 + (1 + 11) + rX_views.locals ≤ R.locals) : zt_Cw R s args RL 69 yX_views 1 wX_views rX_views 0 := ⟨hf, hl, zc_ws hz kC_X_views, hz _ kin_ViewChooser, hz _ kl_L_69, ⟨by decide +kernel, by decide +kernel⟩, by decide +kernel⟩
theorem wcL_72 {R : Room} {args : Array Value} {s : State} (hz : ∀ w ∈ zw0, w.before args s = true) (hf : rM_views.frames + 1 ≤ R.frames) (hl : 8 + (1 + 11) + rM_views.locals ≤ R.locals) : zt_Cw R s args RL 72 yM_views 1 wM_views rM_views 0 := ⟨hf, hl, zc_ws hz kC_M_views, hz _ kin_ViewChooserModel, hz _ kl_L_72, ⟨by decide +kernel, by decide +kernel⟩, by decide +kernel⟩
theorem wcL_73 {R : Room} {args : Array Value} {s : State} (hz : ∀ w ∈ zw0, w.before args s = true) (hf : rL_digit.frames + 1 ≤ R.frames) (hl : 8 + (5 + 11) + rL_digit.locals ≤ R.locals) : zt_Cw R s args RL 73 yL_digit 5 wL_digit rL_digit 4 := ⟨hf, hl, zc_ws hz kC_L_digit, hz _ kin_ViewChooserLaw, hz _ kl_L_73, ⟨by decide +kernel, by decide +kernel⟩, by decide +kernel⟩
theorem wcL_76 {R : Room} {args : Array Value} {s : State} (hz : ∀ w ∈ zw0, w.before args s = true) (hf : rM_digit.frames + 1 ≤ R.frames) (hl : 8 + (3 + 11) + rM_digit.locals ≤ R.locals) : zt_Cw R s args RL 76 yM_digit 3 wM_digit rM_digit 2 := ⟨hf, hl, zc_ws hz kC_M_digit, hz _ kin_ViewChooserModel, hz _ kl_L_76, ⟨by decide +kernel, by decide +kernel⟩, by decide +kernel⟩
theorem wcL_77 {R : Room} {args : Array Value} {s : State} (hz : ∀ w ∈ zw0, w.before args s = true) (hf : rL_isAbove.frames + 1 ≤ R.frames) (hl : 8 + (5 + 11) + rL_isAbove.locals ≤ R.locals) : zt_Cw R s args RL 77 yL_isAbove 5 wL_isAbove rL_isAbove 4 := ⟨hf, hl, zc_ws hz kC_L_isAbove, hz _ kin_ViewChooserLaw, hz _ kl_L_77, ⟨by decide +kernel, by decide +kernel⟩, by decide +kernel⟩
theorem wcL_79 {R : Room} {args : Array Value} {s : State} (hz : ∀ w ∈ zw0, w.before args s = true) (hf : rM_isAbove.frames + 1 ≤ R.frames) (hl : 8 + (3 + 11) + rM_isAbove.locals ≤ R.locals) : zt_Cw R s args RL 79 yM_isAbove 3 wM_isAbove rM_isAbove 2 := ⟨hf, hl, zc_ws hz kC_M_isAbove, hz _ kin_ViewChooserModel, hz _ kl_L_79, ⟨by decide +kernel, by decide +kernel⟩, by decide +kernel⟩
theorem wcL_80 {R : Room} {args : Array Value} {s : State} (hz : ∀ w ∈ zw0, w.before args s = true) (hf : rL_told.frames + 1 ≤ R.frames) (hl : 8 + (5 + 11) + rL_told.locals ≤ R.locals) : zt_Cw R s args RL 80 yL_told 5 wL_told rL_told 4 := ⟨hf, hl, zc_ws hz kC_L_told, hz _ kin_ViewChooserLaw, hz _ kl_L_80, ⟨by decide +kernel, by decide +kernel⟩, by decide +kernel⟩
theorem wcL_82 {R : Room} {args : Array Value} {s : State} (hz : ∀ w ∈ zw0, w.before args s = true) (hf : rM_told.frames + 1 ≤ R.frames) (hl : 8 + (3 + 11) + rM_told.locals ≤ R.locals) : zt_Cw R s args RL 82 yM_told 3 wM_told rM_told 2 := ⟨hf, hl, zc_ws hz kC_M_told, hz _ kin_ViewChooserModel, hz _ kl_L_82, ⟨by decide +kernel, by decide +kernel⟩, by decide +kernel⟩
theorem wcL_83 {R : Room} {args : Array Value} {s : State} (hz : ∀ w ∈ zw0, w.before args s = true) (hf : rL_take.frames + 1 ≤ R.frames) (hl : 8 + (4 + 11) + rL_take.locals ≤ R.locals) : zt_Cw R s args RL 83 yL_take 4 wL_take rL_take 3 := ⟨hf, hl, zc_ws hz kC_L_take, hz _ kin_ViewChooserLaw, hz _ kl_L_83, ⟨by decide +kernel, by decide +kernel⟩, by decide +kernel⟩
theorem wcL_85 {R : Room} {args : Array Value} {s : State} (hz : ∀ w ∈ zw0, w.before args s = true) (hf : rM_take.frames + 1 ≤ R.frames) (hl : 8 + (2 + 11) + rM_take.locals ≤ R.locals) : zt_Cw R s args RL 85 yM_take 2 wM_take rM_take 1 := ⟨hf, hl, zc_ws hz kC_M_take, hz _ kin_ViewChooserModel, hz _ kl_L_85, ⟨by decide +kernel, by decide +kernel⟩, by decide +kernel⟩
theorem wcL_86 {R : Room} {args : Array Value} {s : State} (hz : ∀ w ∈ zw0, w.before args s = true) (hf : rL_step.frames + 1 ≤ R.frames) (hl : 8 + (3 + 11) + rL_step.locals ≤ R.locals) : zt_Cw R s args RL 86 yL_step 3 wL_step rL_step 2 := ⟨hf, hl, zc_ws hz kC_L_step, hz _ kin_ViewChooserLaw, hz _ kl_L_86, ⟨by decide +kernel, by decide +kernel⟩, by decide +kernel⟩
theorem wcL_89 {R : Room} {args : Array Value} {s : State} (hz : ∀ w ∈ zw0, w.before args s = true) (hf : rM_step.frames + 1 ≤ R.frames) (hl : 8 + (1 + 11) + rM_step.locals ≤ R.locals) : zt_Cw R s args RL 89 yM_step 1 wM_step rM_step 0 := ⟨hf, hl, zc_ws hz kC_M_step, hz _ kin_ViewChooserModel, hz _ kl_L_89, ⟨by decide +kernel, by decide +kernel⟩, by decide +kernel⟩
theorem wcL_90 {R : Room} {args : Array Value} {s : State} (hz : ∀ w ∈ zw0, w.before args s = true) (hf : rL_choose.frames + 1 ≤ R.frames) (hl : 8 + (4 + 11) + rL_choose.locals ≤ R.locals) : zt_Cw R s args RL 90 yL_choose 4 wL_choose rL_choose 3 := ⟨hf, hl, zc_ws hz kC_L_choose, hz _ kin_ViewChooserLaw, hz _ kl_L_90, ⟨by decide +kernel, by decide +kernel⟩, by decide +kernel⟩
theorem wcL_92 {R : Room} {args : Array Value} {s : State} (hz : ∀ w ∈ zw0, w.before args s = true) (hf : rM_choose.frames + 1 ≤ R.frames) (hl : 8 + (3 + 11) + rM_choose.locals ≤ R.locals) : zt_Cw R s args RL 92 yM_choose 3 wM_choose rM_choose 1 := ⟨hf, hl, zc_ws hz kC_M_choose, hz _ kin_ViewChooserModel, hz _ kl_L_92, ⟨by decide +kernel, by decide +kernel⟩, by decide +kernel⟩
theorem wcL_93 {R : Room} {args : Array Value} {s : State} (hz : ∀ w ∈ zw0, w.before args s = true) (hf : rL_chosen.frames + 1 ≤ R.frames) (hl : 8 + (4 + 11) + rL_chosen.locals ≤ R.locals) : zt_Cw R s args RL 93 yL_chosen 4 wL_chosen rL_chosen 3 := ⟨hf, hl, zc_ws hz kC_L_chosen, hz _ kin_ViewChooserLaw, hz _ kl_L_93, ⟨by decide +kernel, by decide +kernel⟩, by decide +kernel⟩
theorem wcL_95 {R : Room} {args : Array Value} {s : State} (hz : ∀ w ∈ zw0, w.before args s = true) (hf : rM_chosen.frames + 1 ≤ R.frames) (hl : 8 + (2 + 11) + rM_chosen.locals ≤ R.locals) : zt_Cw R s args RL 95 yM_chosen 2 wM_chosen rM_chosen 1 := ⟨hf, hl, zc_ws hz kC_M_chosen, hz _ kin_ViewChooserModel, hz _ kl_L_95, ⟨by decide +kernel, by decide +kernel⟩, by decide +kernel⟩
theorem wcL_96 {R : Room} {args : Array Value} {s : State} (hz : ∀ w ∈ zw0, w.before args s = true) (hf : rX_drop.frames + 1 ≤ R.frames) (hl : 8 + (2 + 11) + rX_drop.locals ≤ R.locals) : zt_Cw R s args RL 96 yX_drop 2 wX_drop rX_drop 0 := ⟨hf, hl, zc_ws hz kC_X_drop, hz _ kin_ViewChooser, hz _ kl_L_96, ⟨by decide +kernel, by decide +kernel⟩, by decide +kernel⟩
theorem wcL_99 {R : Room} {args : Array Value} {s : State} (hz : ∀ w ∈ zw0, w.before args s = true) (hf : rM_drop.frames + 1 ≤ R.frames) (hl : 8 + (2 + 11) + rM_drop.locals ≤ R.locals) : zt_Cw R s args RL 99 yM_drop 2 wM_drop rM_drop 0 := ⟨hf, hl, zc_ws hz kC_M_drop, hz _ kin_ViewChooserModel, hz _ kl_L_99, ⟨by decide +kernel, by decide +kernel⟩, by decide +kernel⟩
theorem wcL_100 {R : Room} {args : Array Value} {s : State} (hz : ∀ w ∈ zw0, w.before args s = true) (hf : rX_total.frames + 1 ≤ R.frames) (hl : 8 + (4 + 11) + rX_total.locals ≤ R.locals) : zt_Cw R s args RL 100 yX_total 4 wX_total rX_total 0 := ⟨hf, hl, zc_ws hz kC_X_total, hz _ kin_ViewChooser, hz _ kl_L_100, ⟨by decide +kernel, by decide +kernel⟩, by decide +kernel⟩
theorem wcL_104 {R : Room} {args : Array Value} {s : State} (hz : ∀ w ∈ zw0, w.before args s = true) (hf : rM_total.frames + 1 ≤ R.frames) (hl : 8 + (4 + 11) + rM_total.locals ≤ R.locals) : zt_Cw R s args RL 104 yM_total 4 wM_total rM_total 0 := ⟨hf, hl, zc_ws hz kC_M_total, hz _ kin_ViewChooserModel, hz _ kl_L_104, ⟨by decide +kernel, by decide +kernel⟩, by decide +kernel⟩
theorem wcM_43 {R : Room} {args : Array Value} {s : State} (hz : ∀ w ∈ zw0, w.before args s = true) (hf : rM_spread.frames + 1 ≤ R.frames) (hl : 8 + (3 + 11) + rM_spread.locals ≤ R.locals) : zt_Cw R s args RM 43 yM_spread 3 wM_spread rM_spread 0 := ⟨hf, hl, zc_ws hz kC_M_spread, hz _ kin_ViewChooserModel, hz _ kl_M_43, ⟨by decide +kernel, by decide +kernel⟩, by decide +kernel⟩
theorem wcM_46 {R : Room} {args : Array Value} {s : State} (hz : ∀ w ∈ zw0, w.before args s = true) (hf : rM_isDimension.frames + 1 ≤ R.frames) (hl : 8 + (2 + 11) + rM_isDimension.locals ≤ R.locals) : zt_Cw R s args RM 46 yM_isDimension 2 wM_isDimension rM_isDimension 1 := ⟨hf, hl, zc_ws hz kC_M_isDimension, hz _ kin_ViewChooserModel, hz _ kl_M_46, ⟨by decide +kernel, by decide +kernel⟩, by decide +kernel⟩
theorem wcM_54 {R : Room} {args : Array Value} {s : State} (hz : ∀ w ∈ zw0, w.before args s = true) (hf : rM_divided.frames + 1 ≤ R.frames) (hl : 8 + (5 + 11) + rM_divided.locals ≤ R.locals) : zt_Cw R s args RM 54 yM_divided 5 wM_divided rM_divided 2 := ⟨hf, hl, zc_ws hz kC_M_divided, hz _ kin_ViewChooserModel, hz _ kl_M_54, ⟨by decide +kernel, by decide +kernel⟩, by decide +kernel⟩
theorem wcM_58 {R : Room} {args : Array Value} {s : State} (hz : ∀ w ∈ zw0, w.before args s = true) (hf : rM_digitOf.frames + 1 ≤ R.frames) (hl : 8 + (3 + 11) + rM_digitOf.locals ≤ R.locals) : zt_Cw R s args RM 58 yM_digitOf 3 wM_digitOf rM_digitOf 2 := ⟨hf, hl, zc_ws hz kC_M_digitOf, hz _ kin_ViewChooserModel, hz _ kl_M_58, ⟨by decide +kernel, by decide +kernel⟩, by decide +kernel⟩
theorem wcM_63 {R : Room} {args : Array Value} {s : State} (hz : ∀ w ∈ zw0, w.before args s = true) (hf : rM_estimateOf.frames + 1 ≤ R.frames) (hl : 8 + (6 + 11) + rM_estimateOf.locals ≤ R.locals) : zt_Cw R s args RM 63 yM_estimateOf 6 wM_estimateOf rM_estimateOf 1 := ⟨hf, hl, zc_ws hz kC_M_estimateOf, hz _ kin_ViewChooserModel, hz _ kl_M_63, ⟨by decide +kernel, by decide +kernel⟩, by decide +kernel⟩
theorem wcM_67 {R : Room} {args : Array Value} {s : State} (hz : ∀ w ∈ zw0, w.before args s = true) (hf : rM_above.frames + 1 ≤ R.frames) (hl : 8 + (5 + 11) + rM_above.locals ≤ R.locals) : zt_Cw R s args RM 67 yM_above 5 wM_above rM_above 2 := ⟨hf, hl, zc_ws hz kC_M_above, hz _ kin_ViewChooserModel, hz _ kl_M_67, ⟨by decide +kernel, by decide +kernel⟩, by decide +kernel⟩
theorem wcM_71 {R : Room} {args : Array Value} {s : State} (hz : ∀ w ∈ zw0, w.before args s = true) (hf : rM_isView.frames + 1 ≤ R.frames) (hl : 8 + (2 + 11) + rM_isView.locals ≤ R.locals) : zt_Cw R s args RM 71 yM_isView 2 wM_isView rM_isView 1 := ⟨hf, hl, zc_ws hz kC_M_isView, hz _ kin_ViewChooserModel, hz _ kl_M_71, ⟨by decide +kernel, by decide +kernel⟩, by decide +kernel⟩
theorem wcM_74 {R : Room} {args : Array Value} {s : State} (hz : ∀ w ∈ zw0, w.before args s = true) (hf : rM_reckon.frames + 1 ≤ R.frames) (hl : 8 + (4 + 11) + rM_reckon.locals ≤ R.locals) : zt_Cw R s args RM 74 yM_reckon 4 wM_reckon rM_reckon 0 := ⟨hf, hl, zc_ws hz kC_M_reckon, hz _ kin_ViewChooserModel, hz _ kl_M_74, ⟨by decide +kernel, by decide +kernel⟩, by decide +kernel⟩
theorem wcM_77 {R : Room} {args : Array Value} {s : State} (hz : ∀ w ∈ zw0, w.before args s = true) (hf : rM_benefitOf.frames + 1 ≤ R.frames) (hl : 8 + (5 + 11) + rM_benefitOf.locals ≤ R.locals) : zt_Cw R s args RM 77 yM_benefitOf 5 wM_benefitOf rM_benefitOf 1 := ⟨hf, hl, zc_ws hz kC_M_benefitOf, hz _ kin_ViewChooserModel, hz _ kl_M_77, ⟨by decide +kernel, by decide +kernel⟩, by decide +kernel⟩
theorem wcM_80 {R : Room} {args : Array Value} {s : State} (hz : ∀ w ∈ zw0, w.before args s = true) (hf : rM_choosesOne.frames + 1 ≤ R.frames) (hl : 8 + (7 + 11) + rM_choosesOne.locals ≤ R.locals) : zt_Cw R s args RM 80 yM_choosesOne 7 wM_choosesOne rM_choosesOne 0 := ⟨hf, hl, zc_ws hz kC_M_choosesOne, hz _ kin_ViewChooserModel, hz _ kl_M_80, ⟨by decide +kernel, by decide +kernel⟩, by decide +kernel⟩
theorem wcX_53 {R : Room} {args : Array Value} {s : State} (hz : ∀ w ∈ zw0, w.before args s = true) (hf : rX_splitViews.frames + 1 ≤ R.frames) (hl : 8 + (6 + 11) + rX_splitViews.locals ≤ R.locals) : zt_Cw R s args RX 53 yX_splitViews 6 wX_splitViews rX_splitViews 2 := ⟨hf, hl, zc_ws hz kC_X_splitViews, hz _ kin_ViewChooser, hz _ kl_X_53, ⟨by decide +kernel, by decide +kernel⟩, by decide +kernel⟩
theorem wcX_57 {R : Room} {args : Array Value} {s : State} (hz : ∀ w ∈ zw0, w.before args s = true) (hf : rX_forgetChosen.frames + 1 ≤ R.frames) (hl : 8 + (1 + 11) + rX_forgetChosen.locals ≤ R.locals) : zt_Cw R s args RX 57 yX_forgetChosen 1 wX_forgetChosen rX_forgetChosen 0 := ⟨hf, hl, zc_ws hz kC_X_forgetChosen, hz _ kin_ViewChooser, hz _ kl_X_57, ⟨by decide +kernel, by decide +kernel⟩, by decide +kernel⟩
theorem wcX_60 {R : Room} {args : Array Value} {s : State} (hz : ∀ w ∈ zw0, w.before args s = true) (hf : rX_checkDimension.frames + 1 ≤ R.frames) (hl : 8 + (2 + 11) + rX_checkDimension.locals ≤ R.locals) : zt_Cw R s args RX 60 yX_checkDimension 2 wX_checkDimension rX_checkDimension 1 := ⟨hf, hl, zc_ws hz kC_X_checkDimension, hz _ kin_ViewChooser, hz _ kl_X_60, ⟨by decide +kernel, by decide +kernel⟩, by decide +kernel⟩
theorem wcX_71 {R : Room} {args : Array Value} {s : State} (hz : ∀ w ∈ zw0, w.before args s = true) (hf : rX_checkView.frames + 1 ≤ R.frames) (hl : 8 + (2 + 11) + rX_checkView.locals ≤ R.locals) : zt_Cw R s args RX 71 yX_checkView 2 wX_checkView rX_checkView 1 := ⟨hf, hl, zc_ws hz kC_X_checkView, hz _ kin_ViewChooser, hz _ kl_X_71, ⟨by decide +kernel, by decide +kernel⟩, by decide +kernel⟩
theorem wcX_74 {R : Room} {args : Array Value} {s : State} (hz : ∀ w ∈ zw0, w.before args s = true) (hf : rX_unpackDigit.frames + 1 ≤ R.frames) (hl : 8 + (2 + 11) + rX_unpackDigit.locals ≤ R.locals) : zt_Cw R s args RX 74 yX_unpackDigit 2 wX_unpackDigit rX_unpackDigit 2 := ⟨hf, hl, zc_ws hz kC_X_unpackDigit, hz _ kin_ViewChooser, hz _ kl_X_74, ⟨by decide +kernel, by decide +kernel⟩, by decide +kernel⟩
theorem wcX_78 {R : Room} {args : Array Value} {s : State} (hz : ∀ w ∈ zw0, w.before args s = true) (hf : rX_isAbovePacked.frames + 1 ≤ R.frames) (hl : 8 + (2 + 11) + rX_isAbovePacked.locals ≤ R.locals) : zt_Cw R s args RX 78 yX_isAbovePacked 2 wX_isAbovePacked rX_isAbovePacked 2 := ⟨hf, hl, zc_ws hz kC_X_isAbovePacked, hz _ kin_ViewChooser, hz _ kl_X_78, ⟨by decide +kernel, by decide +kernel⟩, by decide +kernel⟩
theorem wcX_82 {R : Room} {args : Array Value} {s : State} (hz : ∀ w ∈ zw0, w.before args s = true) (hf : rX_estimateOf.frames + 1 ≤ R.frames) (hl : 8 + (7 + 11) + rX_estimateOf.locals ≤ R.locals) : zt_Cw R s args RX 82 yX_estimateOf 7 wX_estimateOf rX_estimateOf 1 := ⟨hf, hl, zc_ws hz kC_X_estimateOf, hz _ kin_ViewChooser, hz _ kl_X_82, ⟨by decide +kernel, by decide +kernel⟩, by decide +kernel⟩
theorem wcX_86 {R : Room} {args : Array Value} {s : State} (hz : ∀ w ∈ zw0, w.before args s = true) (hf : rX_benefitOf.frames + 1 ≤ R.frames) (hl : 8 + (8 + 11) + rX_benefitOf.locals ≤ R.locals) : zt_Cw R s args RX 86 yX_benefitOf 8 wX_benefitOf rX_benefitOf 1 := ⟨hf, hl, zc_ws hz kC_X_benefitOf, hz _ kin_ViewChooser, hz _ kl_X_86, ⟨by decide +kernel, by decide +kernel⟩, by decide +kernel⟩
theorem wcX_91 {R : Room} {args : Array Value} {s : State} (hz : ∀ w ∈ zw0, w.before args s = true) (hf : rX_checkRoomForChosen.frames + 1 ≤ R.frames) (hl : 8 + (1 + 11) + rX_checkRoomForChosen.locals ≤ R.locals) : zt_Cw R s args RX 91 yX_checkRoomForChosen 1 wX_checkRoomForChosen rX_checkRoomForChosen 0 := ⟨hf, hl, zc_ws hz kC_X_checkRoomForChosen, hz _ kin_ViewChooser, hz _ kl_X_91, ⟨by decide +kernel, by decide +kernel⟩, by decide +kernel⟩
theorem wcX_94 {R : Room} {args : Array Value} {s : State} (hz : ∀ w ∈ zw0, w.before args s = true) (hf : rX_addChosen.frames + 1 ≤ R.frames) (hl : 8 + (6 + 11) + rX_addChosen.locals ≤ R.locals) : zt_Cw R s args RX 94 yX_addChosen 6 wX_addChosen rX_addChosen 1 := ⟨hf, hl, zc_ws hz kC_X_addChosen, hz _ kin_ViewChooser, hz _ kl_X_94, ⟨by decide +kernel, by decide +kernel⟩, by decide +kernel⟩
theorem wcX_97 {R : Room} {args : Array Value} {s : State} (hz : ∀ w ∈ zw0, w.before args s = true) (hf : rX_mostBeneficial.frames + 1 ≤ R.frames) (hl : 8 + (7 + 11) + rX_mostBeneficial.locals ≤ R.locals) : zt_Cw R s args RX 97 yX_mostBeneficial 7 wX_mostBeneficial rX_mostBeneficial 0 := ⟨hf, hl, zc_ws hz kC_X_mostBeneficial, hz _ kin_ViewChooser, hz _ kl_X_97, ⟨by decide +kernel, by decide +kernel⟩, by decide +kernel⟩
theorem wcX_111 {R : Room} {args : Array Value} {s : State} (hz : ∀ w ∈ zw0, w.before args s = true) (hf : rA_fill.frames + 1 ≤ R.frames) (hl : 8 + (5 + 11) + rA_fill.locals ≤ R.locals) : zt_Cw R s args RX 111 yA_fill 5 wA_fill rA_fill 2 := ⟨hf, hl, zc_ws hz kC_A_fill, hz _ kin_Arrays, hz _ kl_X_111, ⟨by decide +kernel, by decide +kernel⟩, by decide +kernel⟩
end
section
/-! what is read of the chooser -/
def zx_R (D N F : Nat) (L V : Nat → Nat) (lev val pkd : Nat → Int32) : Prop := D ≤ 8 ∧ (∀ j, j < D → 1 ≤ L j ∧ L j ≤ 4) ∧ N = zq_nv L D ∧ N ≤ 512 ∧ F < 2 ^ 31 ∧ (∀ j, V j ≤ 1000000) ∧ (∀ j, j < D → lev j = nI (L j)) ∧ (∀ j, j < 32 → val j = nI (V j)) ∧ ∀ w, w < N → pkd w = nI (zq_pk L D w)
theorem zq_pr_s (L V : Nat → Nat) (D v d : Nat) (h : zq_dg L D v d < L d) : zq_pr L V D v (d + 1) = zq_pr L V D v d * V (4 * d + zq_dg L D v d) := by
  show (if zq_dg L D v d < L d then _ else _) = _
  rw [if_pos h]
theorem zq_pr_n (L V : Nat → Nat) (D v d : Nat) (h : ¬ zq_dg L D v d < L d) : zq_pr L V D v (d + 1) = zq_pr L V D v d := by
  show (if zq_dg L D v d < L d then _ else _) = _
  rw [if_neg h]
theorem zq_fac {F P V : Nat} (hF : F < 2 ^ 31) (hV : V ≤ 1000000) : min F P * V < 2 ^ 63 := by
  have h1 : min F P ≤ F := Nat.min_le_left _ _
  have h2 : min F P * V ≤ 2 ^ 31 * 1000000 := Nat.mul_le_mul (by omega) hV
  exact Nat.lt_of_le_of_lt h2 (by decide)
theorem zq_bf_t {e : Nat → Nat} {ab : Nat → Nat → Bool} {c : Nat → Nat} {v i : Nat} (h1 : e v < c i) (h2 : ab v i = true) : zq_bf e ab c v i = c i - e v := by
  unfold zq_bf
  rw [if_pos ⟨h1, h2⟩]
theorem zq_bf_f {e : Nat → Nat} {ab : Nat → Nat → Bool} {c : Nat → Nat} {v i : Nat} (h : ¬ (e v < c i ∧ ab v i = true)) : zq_bf e ab c v i = 0 := by
  unfold zq_bf
  rw [if_neg h]
theorem zq_mx_t {b : Nat → Nat} {n : Nat} (h : (zq_mx b n).1 < b n) : zq_mx b (n + 1) = (b n, n + 1) := by
  show (if (zq_mx b n).1 < b n then _ else _) = _
  rw [if_pos h]
theorem zq_mx_f {b : Nat → Nat} {n : Nat} (h : ¬ (zq_mx b n).1 < b n) : zq_mx b (n + 1) = zq_mx b n := by
  show (if (zq_mx b n).1 < b n then _ else _) = _
  rw [if_neg h]
theorem zq_bn_le {e : Nat → Nat} {ab : Nat → Nat → Bool} {c : Nat → Nat} {N F v : Nat} (hN : N ≤ 512) (hF : F < 2 ^ 31) (h : ∀ i, i < N → c i ≤ F) : zq_bn e ab c N v < 2 ^ 63 := by
  have h1 : zq_bn e ab c N v ≤ N * F := zq_sm_le N (fun i hi => Nat.le_trans (zq_bf_le e ab c v i) (h i hi))
  have h2 : N * F ≤ 512 * 2 ^ 31 := Nat.mul_le_mul hN (by omega)
  exact Nat.lt_of_le_of_lt (Nat.le_trans h1 h2) (by decide)
/-- the steps, from a view on: none before it counts -/
theorem zq_from (L : Nat → Nat) {D N v : Nat} (e c : Nat → Nat) (hN : N = zq_nv L D) (hv : v < N) : zq_sm (zq_bf e (zq_ab L D) c v) v = 0 :=
  zq_sm_zero v (fun i hi => zq_bf_f (fun q => by have := zq_ab_le L D v i (by omega) q.2; omega))
end
section
/-! statics of Throwable that nobody writes, the texts of the messages (the first rows as the printed names have them) -/
/-- where a static field lies, its class's statics cell in H -/
def vx_L (C n d : String) (A : Nat → Prop) (U : State) (H : Heap) : Prop := ∃ (c : ClassId) (k : Class) (i : Nat) (f : Field) (a : Nat) (cell : Cell), U.vm.findClass C = some c ∧ U.fieldFound? C n d = some (c, k, i, f) ∧ f.isStatic = true ∧ k.statics = some a ∧ H[a]? = some cell ∧ cell.vm.isStatics = true ∧ cell.cls = c ∧ f.slot < cell.slots.size ∧ k.staticTypes[f.slot]? = some f.type ∧ ¬ A a
theorem vx_L.moved {C n d : String} {A : Nat → Prop} {u U : State} {H : Heap} (hvm : u.vm.Alike U.vm) (h : vx_L C n d A u H) : vx_L C n d A U H := by
  obtain ⟨c, k, i, f, a, cell, h1, h2, h3, h4, h5, h6, h7, h8, h9, h10⟩ := h
  obtain ⟨k', hi', he⟩ := State.fieldFound?_setVm hvm h2
  exact ⟨c, k', i, f, a, cell, by rw [hvm.findClass]; exact h1, hi', h3, by rw [he]; exact h4, h5, h6, h7, h8, by rw [he]; exact h9, h10⟩
theorem vx_L.kept {C n d : String} {A : Nat → Prop} {U : State} {H H1 : Heap} (h : vx_L C n d A U H) (hq : ∀ a : Nat, a < H.size → ¬ A a → H1[a]? = H[a]?) : vx_L C n d A U H1 := by
  obtain ⟨c, k, i, f, a, cell, h1, h2, h3, h4, h5, h6, h7, h8, h9, h10⟩ := h
  exact ⟨c, k, i, f, a, cell, h1, h2, h3, h4, by rw [hq a (Array.getElem?_eq_some_iff.mp h5).1 h10]; exact h5, h6, h7, h8, h9, h10⟩
theorem vx_L.narrow {C n d : String} {A B : Nat → Prop} {U : State} {H : Heap} (h : vx_L C n d A U H) (hAB : ∀ q, B q → A q) : vx_L C n d B U H := by
  obtain ⟨c, k, i, f, a, cell, h1, h2, h3, h4, h5, h6, h7, h8, h9, h10⟩ := h
  exact ⟨c, k, i, f, a, cell, h1, h2, h3, h4, h5, h6, h7, h8, h9, fun z => h10 (hAB _ z)⟩
theorem vx_L.word {C n d : String} {A : Nat → Prop} {s : State} {args : Array Value} (h : vx_L C n d A s s.heap) : (Cond.laysStatic C n d).before args s = true := by
  obtain ⟨c, k, i, f, a, cell, h1, h2, h3, h4, h5, h6, h7, h8, h9, -⟩ := h
  show (Cond.laysStatic C n d).holds args s none s [] = true
  exact Cond.laysStatic_of h1 h2 h3 h4 h5 h6 h7 h8 h9
/-- .. and what it holds: null or some reference -/
def vx_Zq (C n d : String) (A : Nat → Prop) (U : State) (H : Heap) : Prop := va_Zq C n d A U H ∧ vx_L C n d A U H
theorem vx_Zq.moved {C n d : String} {A : Nat → Prop} {u U : State} {H : Heap} (hvm : u.vm.Alike U.vm) (h : vx_Zq C n d A u H) : vx_Zq C n d A U H := ⟨va_Zq.moved hvm h.1, vx_L.moved hvm h.2⟩
theorem vx_Zq.kept {C n d : String} {A : Nat → Prop} {U : State} {H H1 : Heap} (h : vx_Zq C n d A U H) (hq : ∀ a : Nat, a < H.size → ¬ A a → H1[a]? = H[a]?) : vx_Zq C n d A U H1 := ⟨va_Zq.kept h.1 hq, vx_L.kept h.2 hq⟩
theorem vx_Zq.narrow {C n d : String} {A B : Nat → Prop} {U : State} {H : Heap} (h : vx_Zq C n d A U H) (hAB : ∀ q, B q → A q) : vx_Zq C n d B U H := ⟨va_Zq.narrow h.1 hAB, vx_L.narrow h.2 hAB⟩
theorem vx_Zqof {args : Array Value} {s : State} {C n d : String} {A : Nat → Prop} (hl : (Cond.laysStatic C n d).before args s = true) (hini : (Cond.initialized C).before args s = true) (h : (Cond.isRef (.static C n d)).before args s = true) (hA : ∀ a : Nat, a < s.heap.size → ¬ A a) : vx_Zq C n d A s s.heap := by
  refine ⟨va_Zqof hl hini h hA, ?_⟩
  obtain ⟨c, k, i, f, a, cell, h1, h2, h3, h4, h5, h6, h7, h8, h9⟩ := Cond.laysStatic_spec hl
  exact ⟨c, k, i, f, a, cell, h1, h2, h3, h4, h5, h6, h7, h8, h9, hA a (Array.getElem?_eq_some_iff.mp h5).1⟩
theorem vx_isRef {C n d : String} {v : Value} {A : Nat → Prop} {s : State} {args : Array Value} (h : va_Z C n d v A s s.heap) (hv : v.isRef = true) : (Cond.isRef (.static C n d)).before args s = true := by
  obtain ⟨cf, kf, fi, f, a, cell, h1, h2, h3, h4, h5, h6, h7, -⟩ := h
  have he : (Term.static C n d).eval args s none [] s = some v := by
    simp [Term.eval, State.fieldNamed?, h1, h2, h4, h5, h6, h7]
  simp only [Cond.before, Cond.holds, Cond.value, he]
  cases v <;> simp_all [Value.isRef]
theorem vx_isRefq {C n d : String} {A : Nat → Prop} {s : State} {args : Array Value} (h : va_Zq C n d A s s.heap) : (Cond.isRef (.static C n d)).before args s = true := by
  rcases h with h | ⟨t, h⟩
  · exact vx_isRef h rfl
  · exact vx_isRef h rfl
/-- the messages -/
def zs_list : List (Nat × String) := [(41, "levels are not 1 .. 4"), (48, "there are 8 dimensions"), (51, "there would be more than 512 views"), (107, "there is no such dimension"), (64, "there is no such level"), (67, "n is not 0 .. 1000000"), (69, "n is below 0"), (105, "there is no such view"), (89, "what is not 0 .. 2"), (109, "16 views are chosen"), (101, "k is not 0 .. 16"), (103, "there is no such chosen view")]
/-- what a throw rests on beside the tables: two statics of Throwable, the messages -/
def zt_TS (U : State) : Prop := vx_Zq Bundle.tN "UNASSIGNED_STACK" Bundle.steD (fun _ => False) U U.heap ∧ vx_Zq Bundle.tN "SUPPRESSED_SENTINEL" Bundle.listD (fun _ => False) U U.heap ∧ ∀ q ∈ zs_list, ∃ a, vk_R RX q.1 q.2 a U
theorem zt_TS_to {s U : State} (h : zt_TS s) (hW : s.WarmedH U.vm) (hh : ∀ q : Nat, q < s.heap.size → U.heap[q]? = s.heap[q]?) : zt_TS U :=
  ⟨(h.1.kept (fun a ha _ => hh a ha)).moved hW.alike, (h.2.1.kept (fun a ha _ => hh a ha)).moved hW.alike, fun q hq => (h.2.2 q hq).imp fun a ha => vk_R.warm hW ha⟩
def zh4 : List Cond := [.isRef (.static Bundle.tN "UNASSIGNED_STACK" Bundle.steD), .isRef (.static Bundle.tN "SUPPRESSED_SENTINEL" Bundle.listD), .laysStatic Bundle.tN "UNASSIGNED_STACK" Bundle.steD, .laysStatic Bundle.tN "SUPPRESSED_SENTINEL" Bundle.listD]
theorem zh4_of {args : Array Value} {s : State} (h : zt_TS s) : ∀ w ∈ zh4, w.before args s = true :=
  List.forall_mem_cons.mpr ⟨vx_isRefq h.1.1, List.forall_mem_cons.mpr ⟨vx_isRefq h.2.1.1, List.forall_mem_cons.mpr ⟨h.1.2.word, List.forall_mem_cons.mpr ⟨h.2.1.2.word, fun _ h => absurd h List.not_mem_nil⟩⟩⟩⟩
abbrev zE_A : String := "java/lang/IllegalArgumentException"
abbrev zE_S : String := "java/lang/IllegalStateException"
abbrev zE_n : List String := ["java/lang/RuntimeException", "java/lang/Exception"]
theorem zo_A : ∀ w ∈ Bundle.ownAtoms RX 43 zE_A zE_n, w ∈ tables_1 ∨ w ∈ zh4 ∨ w ∈ k2_sels lw_privs := by decide +kernel
theorem zo_S : ∀ w ∈ Bundle.ownAtoms RX 50 zE_S zE_n, w ∈ tables_1 ∨ w ∈ zh4 ∨ w ∈ k2_sels lw_privs := by decide +kernel
theorem zo_Ag : ∀ w ∈ Bundle.ownAtoms RX 43 zE_A zE_n, zt_gw w = true ∨ w ∈ zh4 := by decide +kernel
theorem zo_Sg : ∀ w ∈ Bundle.ownAtoms RX 50 zE_S zE_n, zt_gw w = true ∨ w ∈ zh4 := by decide +kernel
theorem zo_at {L : List Cond} (h1 : ∀ w ∈ L, w ∈ tables_1 ∨ w ∈ zh4 ∨ w ∈ k2_sels lw_privs) (h2 : ∀ w ∈ L, zt_gw w = true ∨ w ∈ zh4) {args : Array Value} {s : State} (hz : ∀ w ∈ zw0, w.before args s = true) (hT : zt_TS s) : ∀ w ∈ L, w.before args s = true := by
  intro w hw
  rcases h2 w hw with g | g
  · rcases h1 w hw with h | h | h
    · exact hz w (List.mem_filter.mpr ⟨List.mem_append_right _ h, g⟩)
    · exact zh4_of hT w h
    · exact hz w (List.mem_filter.mpr ⟨List.mem_append_left _ h, g⟩)
  · exact zh4_of hT w g
/-- a world, the tables' numbers, what a throw rests on -/
def zg_T3 (dC : Nat → ClassId) (dI : Nat → Nat → Nat) (cI cJ cB : ClassId) (w : va_W) (U : State) : Prop := va_P (dC, dI) zcl w U.heap ∧ va_K (dC, dI) zcl (zg_T cI cJ cB) U ∧ zt_TS U
def zg_U (dC : Nat → ClassId) (dI : Nat → Nat → Nat) (cI cJ cB : ClassId) (w : va_W) (sz : Nat) (U : State) : Prop := U.heap.size = sz ∧ va_P (dC, dI) zcl w U.heap ∧ va_K (dC, dI) zcl (zg_T cI cJ cB) U ∧ zt_TS U
theorem zt_TS_calling {U : State} {g : JFrame} {mk : MethodId} {a : Array Value} (h : zt_TS U) : zt_TS (U.calling g mk a) := zt_TS_to (U := U.calling g mk a) h (State.WarmedH.refl U) (fun _ _ => rfl)
theorem zg_T3_blind {dC : Nat → ClassId} {dI : Nat → Nat → Nat} {cI cJ cB : ClassId} {w : va_W} {av : List Value} : FrameBlind (va_Pc av (zg_T3 dC dI cI cJ cB w)) :=
  fun a U g mk q => ⟨q.1, q.2.1, va_K.moved (u := U) (U := U.calling g mk a) (Vm.Alike.refl U.vm) q.2.2.1, zt_TS_calling q.2.2.2⟩
theorem zg_U_blind {dC : Nat → ClassId} {dI : Nat → Nat → Nat} {cI cJ cB : ClassId} {w : va_W} {sz : Nat} {av : List Value} : FrameBlind (va_Pc av (zg_U dC dI cI cJ cB w sz)) :=
  fun a U g mk q => ⟨q.1, q.2.1, q.2.2.1, va_K.moved (u := U) (U := U.calling g mk a) (Vm.Alike.refl U.vm) q.2.2.2.1, zt_TS_calling q.2.2.2.2⟩
section ZN
variable {p : Program} {l : Launch} {e : Env} {R : Room} {s : State} {m : MethodId} {args : Array Value} {below : List Frame} {meth : Method} {c : Code} {H : Heap} {locs : List Loc} {cells slots : Nat} {Q : State → Prop}
variable {cc : ByteArray} {pc : Nat} {ls : Array Slot} {rest st0 : List Value} {kr nr kt nt : Nat} {free : Addr → Prop}
/-- an instance call of a reader that may throw, from an unchanged heap -/
theorem zg_runT {dC : Nat → ClassId} {dI : Nat → Nat → Nat} {cI cJ cB : ClassId} {w : va_W} {y : MethodName} {bytes : ByteArray} {maxL nL n index ci b q0 : Nat} {q : vw_C} {fs : List Value} {ret : Option FieldType} {ws : List Cond} {rm : Room} {Qc : Array Value → State → Outcome → State → Prop} {own : String} {As : List Value}
    (hexec : p.tables.exec = Jvm.exec) (hb : c.code = cc) (hml : c.maxLocals = nL) (hown : s.vm.findClass own = some m.cls)
    (hM : zt_Met l y ws rm (va_Pc (.ref b :: As) (zg_T3 dC dI cI cJ cB w)) Qc kr nr kt nt free) (cw : zt_Cw R s args own index y maxL ws rm n) (hinst : (Cond.instanceMethod y).before args s = true) (hsel : (Cond.selects q.1 y y).before args s = true) (hcode : (Cond.code y bytes maxL ret).before args s = true)
    (hP : va_P (dC, dI) zcl w s.heap) (hK : va_K (dC, dI) zcl (zg_T cI cJ cB) s) (hT : zt_TS s) (hq : zcl[ci]? = some q) (he : w[q0]? = some (b, .inr (ci, fs))) (hn : As.length = n) (hsize : ls.size = nL) (hst : st0 = As.reverse ++ .ref b :: rest) (hW : (rest.map fun v => v.category).sum ≤ 8) (hdg : decode cc pc = .ok (.invokevirtual index, 3)) (hf : cells + rm.cells ≤ R.cells ∧ slots + rm.slots ≤ R.slots) :
    zt_Run p l e R s m args below meth c s.heap locs cells slots kr nr kt nt (F0 m pc ls st0) rest (Qc (Value.ref b :: As).toArray) free :=
  zt_runV hexec hb hml hown hM cw hinst hsel hcode ⟨zg_T3_blind, va_recv hK hP hq he, fun U hU hW => ⟨rfl, by rw [hU]; exact hP, va_K.moved hW.alike hK, zt_TS_to hT hW (fun q _ => by rw [hU])⟩⟩ rfl hn hsize hst (lv_room hW) hdg hf
theorem zt_throwA {Qc : Array Value → State → Outcome → State → Prop} {free' : Addr → Prop} {ar br kc ks is : Nat} {tx : String} (hexec : p.tables.exec = Jvm.exec) (hb : c.code = cc) (htr : e.platform.stackTraces = false) (hml : ls.size = c.maxLocals)
    (hown : s.vm.findClass RX = some m.cls) (hz : ∀ w ∈ zw0, w.before args s = true) (hT : zt_TS s) (hs : (is, tx) ∈ zs_list) (hout : c.exceptionTable.toList = []) (hlocks : meth.locks = false)
    (d0 : decode cc pc = .ok (.new 39, 3)) (d3 : decode cc (pc + 3) = .ok (.dup, 1)) (d4 : decode cc (pc + 3 + 1) = .ok (.ldc is, 2)) (d6 : decode cc (pc + 3 + 1 + 2) = .ok (.invokespecial 43, 3)) (d9 : decode cc (pc + 3 + 1 + 2 + 3) = .ok (.athrow, 1))
    (hcells : cells + 1 ≤ R.cells) (hslots : slots + 6 ≤ R.slots) (hkc : cells + 1 ≤ kc) (hks : slots + 6 ≤ ks) (hfr : 5 < R.frames) (hlo : (rest.map fun v => v.category).sum + 83 ≤ R.locals)
    (hq : ∀ (t : State) (x : Addr), zt_Th zE_A x s t → s.WarmedH t.vm → Qc args s (.threw x) t) :
    W p l e R s m args below meth c s.heap [] cells slots (zt_MQ below Qc args s ar br kc ks free') (F0 m pc ls rest) := by
  obtain ⟨q, hZ⟩ := hT.2.2 _ hs
  exact zt_throwNew (names := zE_n) hexec hb htr hml hown (by decide +kernel) (by decide +kernel) (zo_at zo_A zo_Ag hz hT) (hz _ kc_X_39) (hz _ kt_IllegalArgumentException) (hz _ kin_IllegalArgumentException) hZ hout hlocks d0 d3 d4 d6 d9 hcells hslots hkc hks hfr hlo hq
theorem zt_throwI {Qc : Array Value → State → Outcome → State → Prop} {free' : Addr → Prop} {ar br kc ks is : Nat} {tx : String} (hexec : p.tables.exec = Jvm.exec) (hb : c.code = cc) (htr : e.platform.stackTraces = false) (hml : ls.size = c.maxLocals)
    (hown : s.vm.findClass RX = some m.cls) (hz : ∀ w ∈ zw0, w.before args s = true) (hT : zt_TS s) (hs : (is, tx) ∈ zs_list) (hout : c.exceptionTable.toList = []) (hlocks : meth.locks = false)
    (d0 : decode cc pc = .ok (.new 46, 3)) (d3 : decode cc (pc + 3) = .ok (.dup, 1)) (d4 : decode cc (pc + 3 + 1) = .ok (.ldc is, 2)) (d6 : decode cc (pc + 3 + 1 + 2) = .ok (.invokespecial 50, 3)) (d9 : decode cc (pc + 3 + 1 + 2 + 3) = .ok (.athrow, 1))
    (hcells : cells + 1 ≤ R.cells) (hslots : slots + 6 ≤ R.slots) (hkc : cells + 1 ≤ kc) (hks : slots + 6 ≤ ks) (hfr : 5 < R.frames) (hlo : (rest.map fun v => v.category).sum + 83 ≤ R.locals)
    (hq : ∀ (t : State) (x : Addr), zt_Th zE_S x s t → s.WarmedH t.vm → Qc args s (.threw x) t) :
    W p l e R s m args below meth c s.heap [] cells slots (zt_MQ below Qc args s ar br kc ks free') (F0 m pc ls rest) := by
  obtain ⟨q, hZ⟩ := hT.2.2 _ hs
  exact zt_throwNew (names := zE_n) hexec hb htr hml hown (by decide +kernel) (by decide +kernel) (zo_at zo_S zo_Sg hz hT) (hz _ kc_X_46) (hz _ kt_IllegalStateException) (hz _ kin_IllegalStateException) hZ hout hlocks d0 d3 d4 d6 d9 hcells hslots hkc hks hfr hlo hq
end ZN
end
section
/-! a number within bounds -/
def zb_in (x : Int32) (n : Nat) : Bool := decide (¬ (x < 0 ∨ n ≤ x.toNatClampNeg))
theorem zb_iff {x : Int32} {n : Nat} : zb_in x n = true ↔ vp_in x n := by
  unfold zb_in vp_in
  rw [decide_eq_true_iff]
theorem zb_of {x : Int32} {n : Nat} (h : zb_in x n = true) (hn : n < 2 ^ 31) : ∃ j : Nat, j < n ∧ x = nI j := vp_in_of (zb_iff.mp h) hn
theorem zb_t {j n : Nat} (h : j < n) (hn : n < 2 ^ 31) : zb_in (nI j) n = true := zb_iff.mpr (vp_in_nI h hn)
theorem zb_neg {x : Int32} {n : Nat} (h : x < 0) : ¬ zb_in x n = true := fun q => zb_iff.mp q (Or.inl h)
theorem zb_big {j n : Nat} (h : n ≤ j) (hj : j < 2 ^ 31) : ¬ zb_in (nI j) n = true := fun q => zb_iff.mp q (Or.inr (by rw [nI_clamp hj]; exact h))
theorem zb_bigI {x : Int32} {n : Nat} (h : nI n ≤ x) (hn : n < 2 ^ 31) : ¬ zb_in x n = true := fun q => by
  obtain ⟨j, hj, rfl⟩ := zb_of q hn
  exact nI_ge hj hn h
/-- a writer that may throw: how it ends, by its number -/
def zg_X {S : Type} (dC : Nat → ClassId) (dI : Nat → Nat → Nat) (cd : Nat) (r : S → Option Value) (post : S → Prop) (w : S → va_W) (A : Nat → Prop) : Array Value → State → Outcome → State → Prop := fun a st o t =>
  (cd = 0 ∧ zg_Q dC dI r post w A a st o t) ∨ (cd = 1 ∧ ∃ x, o = .threw x ∧ zt_Th zE_A x st t) ∨ (cd = 2 ∧ ∃ x, o = .threw x ∧ zt_Th zE_S x st t)
/-- a reader that may throw, by its number -/
def zg_P (cd : Nat) (r : Option Value) (E : String) : Array Value → State → Outcome → State → Prop := fun _ st o t =>
  (cd = 0 ∧ o = .returned r ∧ t.heap = st.heap) ∨ (cd = 1 ∧ ∃ x, o = .threw x ∧ zt_Th E x st t)
/-- what 'told' tells -/
def zq_told (e : Nat → Nat) (ab : Nat → Nat → Bool) (c : Nat → Nat) (N v what : Nat) : Nat := if what = 0 then e v else if what = 1 then c v else zq_bn e ab c N v
end
section
/-! an argument as a number: 2^31 where it is below 0 -/
def zn (x : Int32) : Nat := if x < 0 then 2 ^ 31 else x.toNatClampNeg
theorem zn_neg {x : Int32} (h : x < 0) : zn x = 2 ^ 31 := by unfold zn; rw [if_pos h]
theorem zn_nI {n : Nat} (h : n < 2 ^ 31) : zn (nI n) = n := by
  unfold zn
  rw [if_neg (nI_pos h), nI_clamp h]
theorem zn_cases (x : Int32) : (x < 0 ∧ zn x = 2 ^ 31) ∨ ∃ n, n < 2 ^ 31 ∧ x = nI n ∧ zn x = n := by
  by_cases h : x < 0
  · exact Or.inl ⟨h, zn_neg h⟩
  · obtain ⟨n, hn, rfl⟩ := nI_of h
    exact Or.inr ⟨n, hn, rfl, zn_nI hn⟩
theorem zn_in (x : Int32) {n : Nat} (hn : n < 2 ^ 31) : zb_in x n = decide (zn x < n) := by
  rcases zn_cases x with ⟨h, e⟩ | ⟨j, hj, rfl, e⟩
  · rw [e]
    have h1 := zb_neg (n := n) h
    have h2 : ¬ 2 ^ 31 < n := by omega
    rw [decide_eq_false h2]
    cases hz : zb_in x n
    · rfl
    · exact absurd hz h1
  · rw [e]
    by_cases h : j < n
    · rw [zb_t h hn, decide_eq_true h]
    · rw [decide_eq_false h]
      cases hz : zb_in (nI j) n
      · rfl
      · exact absurd hz (zb_big (by omega) hj)
/-! what both objects do, by numbers -/
def zc_dim (a D N : Nat) : Nat := if 1 ≤ a ∧ a ≤ 4 then (if D < 8 ∧ N * (a + 1) ≤ 512 then 0 else 2) else 1
def zc_val (a b n D : Nat) (L : Nat → Nat) : Nat := if a < D ∧ b < L a ∧ n ≤ 1000000 then 0 else 1
def zc_fac (a : Nat) : Nat := if a < 2 ^ 31 then 0 else 1
def zc_take (a N k : Nat) : Nat := if a < N then (if k < 16 then 0 else 2) else 1
def zc_step (k : Nat) : Nat := if k < 16 then 0 else 2
def zc_cho (a : Nat) : Nat := if a ≤ 16 then 0 else 1
/-- the costs and the chosen, as they are held -/
def zx_J (D N F k : Nat) (L V S : Nat → Nat) (cst : Nat → Int64) (chs : Nat → Int32) : Prop := (∀ w, w < N → cst w = lN (zq_ct (zq_es L V D F) (zq_ab L D) F S k w)) ∧ ∀ i, i < k → chs i = nI (S i)
/-- one more than the view that the next step takes; 0: none -/
def zq_pick (D N F : Nat) (L V : Nat → Nat) (k : Nat) (S : Nat → Nat) : Nat := (zq_mx (zq_bn (zq_es L V D F) (zq_ab L D) (zq_ct (zq_es L V D F) (zq_ab L D) F S k) N) N).2
theorem zq_pick_le (D N F : Nat) (L V : Nat → Nat) (k : Nat) (S : Nat → Nat) : zq_pick D N F L V k S ≤ N := zq_mx_le _ _
theorem zq_ct_up (e : Nat → Nat) (ab : Nat → Nat → Bool) (F : Nat) (S : Nat → Nat) (k v w : Nat) : zq_ct e ab F (zq_up S k v) (k + 1) w = if e v < zq_ct e ab F S k w ∧ ab v w = true then e v else zq_ct e ab F S k w := by
  have h : zq_ct e ab F (zq_up S k v) k w = zq_ct e ab F S k w := zq_ct_congr e ab F k w (fun i hi => zq_up_n S (by omega))
  show (if e (zq_up S k v k) < zq_ct e ab F (zq_up S k v) k w ∧ ab (zq_up S k v k) w = true then e (zq_up S k v k) else zq_ct e ab F (zq_up S k v) k w) = _
  rw [zq_up_s, h]
theorem zx_J_up {D N F k v : Nat} {L V S : Nat → Nat} {cst cst' : Nat → Int64} {chs : Nat → Int32} (h : zx_J D N F k L V S cst chs) (hc : ∀ w, w < N → cst' w = lN (if zq_es L V D F v < zq_ct (zq_es L V D F) (zq_ab L D) F S k w ∧ zq_ab L D v w = true then zq_es L V D F v else zq_ct (zq_es L V D F) (zq_ab L D) F S k w)) : zx_J D N F (k + 1) L V (zq_up S k v) cst' (upd chs k (nI v)) := by
  refine ⟨fun w hw => by rw [hc w hw, zq_ct_up], fun i hi => ?_⟩
  by_cases e : i = k
  · subst e
    rw [pk_us, zq_up_s]
  · rw [pk_un e, zq_up_n S e]
    exact h.2 i (by omega)
theorem zx_J_c {D N F k : Nat} {L V S : Nat → Nat} {cst : Nat → Int64} {chs : Nat → Int32} (h : zx_J D N F k L V S cst chs) : ∀ w, w < N → cst w = lN (zq_ct (zq_es L V D F) (zq_ab L D) F S k w) ∧ zq_ct (zq_es L V D F) (zq_ab L D) F S k w ≤ F := fun w hw => ⟨h.1 w hw, zq_ct_le _ _ _ _ _ _⟩
section ZSC
variable {p : Program} {l : Launch} {e : Env} {R : Room} {s : State} {m : MethodId} {args : Array Value} {below : List Frame} {meth : Method} {c : Code} {H : Heap} {locs : List Loc} {cells slots : Nat} {Q : State → Prop}
variable {cc : ByteArray} {pc : Nat} {ls : Array Slot} {rest st0 : List Value} {kr nr kt nt : Nat} {free : Addr → Prop}
theorem zg_runSC {dC : Nat → ClassId} {dI : Nat → Nat → Nat} {cI cJ cB : ClassId} {w : va_W} {y : MethodName} {bytes : ByteArray} {maxL nL n index : Nat} {ret : Option FieldType} {ws : List Cond} {rm : Room} {Qc : Array Value → State → Outcome → State → Prop} {own : String} {As : List Value}
    (hexec : p.tables.exec = Jvm.exec) (hb : c.code = cc) (hml : c.maxLocals = nL) (hown : s.vm.findClass own = some m.cls)
    (hM : zt_Met l y ws rm (va_Pc As (zg_C dC dI cI cJ cB w H.size)) Qc kr nr kt nt free) (cw : zt_Cw R s args own index y maxL ws rm n) (hst9 : (Cond.static y).before args s = true) (hcode : (Cond.code y bytes maxL ret).before args s = true)
    (hP : va_P (dC, dI) zcl w H) (hK : va_K (dC, dI) zcl (zg_T cI cJ cB) s) (hn : As.length = n) (hsize : ls.size = nL) (hst : st0 = As.reverse ++ rest) (hW : (rest.map fun v => v.category).sum ≤ 8) (hdg : decode cc pc = .ok (.invokestatic index, 3)) (hf : cells + rm.cells ≤ R.cells ∧ slots + rm.slots ≤ R.slots) :
    zt_Run p l e R s m args below meth c H locs cells slots kr nr kt nt (F0 m pc ls st0) rest (Qc As.toArray) free := by
  refine zt_runS hexec hb hml hown hM cw hst9 ?_ ⟨zg_C_blind, fun U hU hW => ⟨rfl, by rw [hU], by rw [hU]; exact hP, va_K.moved hW.alike hK⟩⟩ rfl hn hsize hst (lv_room hW) hdg hf
  obtain ⟨mk, hnamed⟩ := Cond.code_named hcode
  obtain ⟨methM, cM, h1, h2, -, h4, -, -, -, h8⟩ := Cond.code_spec hnamed hcode
  exact ⟨mk, methM, cM, hnamed, h1, h2, h4, h8⟩
end ZSC
end
section
/-! the chooser reads: by program (wip/gen/class_reads.py) -/
set_option maxHeartbeats 4000000 in
set_option maxRecDepth 100000 in
/-- the digit of a packed view -/
theorem tX_unpackDigit (l : Launch) {L : Nat → Nat} {D v d : Nat} (hD : D ≤ 8) (hL : ∀ j, j < D → L j ≤ 4) (hd : d < D) : zt_Met l yX_unpackDigit wX_unpackDigit rX_unpackDigit (va_Pc [.int (nI (zq_pk L D v)), .int (nI d)] (fun _ => True)) (zt_Qr (some (.int (nI (zq_dg L D v d))))) 0 0 0 0 (fun _ => False) := by
  refine zt_ofW (cc := cX_unpackDigit) (maxL := 2) (ret := (some .int)) (by decide) rfl ?_
  intro p e s m args below meth c s₁ B hml hout hv
  obtain ⟨rfl, -⟩ := hv
  have hx := B.exec
  have hb := B.bytes
  have hr := B.returns
  have hz : ∀ w ∈ zw0, w.before ([.int (nI (zq_pk L D v)), .int (nI d)] : List Value).toArray s = true := fun w h => atoms_spec (ws := wX_unpackDigit) B.pre w (List.mem_cons_of_mem _ h)
  have hown : s.vm.findClass RX = some m.cls := findClass_of_methodNamed B.named
  have hlocks := B.notSynchronized
  have hl := lv_entry ([.int (nI (zq_pk L D v)), .int (nI d)]) (n := 2) (Nat.le_of_ble_eq_true rfl)
  rw [lg_entry_eq]
  generalize (lg_sl ([.int (nI (zq_pk L D v)), .int (nI d)]) ++ List.replicate (2 - (lg_sl ([.int (nI (zq_pk L D v)), .int (nI d)])).length) Slot.unset).toArray = ls at hl ⊢
  have hl : lv_has ls 2 [(0, .int (nI (zq_pk L D v))), (1, .int (nI d))] := hl
  refine lv_iload_n hx hb dX_unpackDigit_0 rfl (lv_at hl 0 rfl) ?_
  refine lv_iload_n hx hb dX_unpackDigit_1 rfl (lv_at hl 1 rfl) ?_
  refine lv_iconst (v := nI 4) hx hb dX_unpackDigit_2 (by decide) ?_
  refine lv_imul hx hb dX_unpackDigit_3 ?_
  refine zt_ti (pk_mul _ _) ?_
  refine lv_iushr hx hb dX_unpackDigit_4 rfl ?_
  refine lv_bipush (v := 15) hx hb dX_unpackDigit_5 (by decide) ?_
  refine lv_iand hx hb dX_unpackDigit_7 ?_
  refine zt_ti (zq_unp L v hD hL hd) ?_
  exact zt_ri hx hb hr hlocks (fun t ht _ => ⟨rfl, ht⟩) (fun q h => by cases h) dX_unpackDigit_8
set_option maxHeartbeats 4000000 in
set_option maxRecDepth 100000 in
/-- all digits at once -/
theorem tX_isAbovePacked (l : Launch) {L : Nat → Nat} {D u v : Nat} (hD : D ≤ 8) (hL : ∀ j, j < D → L j ≤ 4) : zt_Met l yX_isAbovePacked wX_isAbovePacked rX_isAbovePacked (va_Pc [.int (nI (zq_pk L D u)), .int (nI (zq_pk L D v))] (fun _ => True)) (zt_Qr (some (.int (if zq_ab L D u v = true then 1 else 0)))) 0 0 0 0 (fun _ => False) := by
  refine zt_ofW (cc := cX_isAbovePacked) (maxL := 2) (ret := (some .boolean)) (by decide) rfl ?_
  intro p e s m args below meth c s₁ B hml hout hv
  obtain ⟨rfl, -⟩ := hv
  have hx := B.exec
  have hb := B.bytes
  have hr := B.returns
  have hz : ∀ w ∈ zw0, w.before ([.int (nI (zq_pk L D u)), .int (nI (zq_pk L D v))] : List Value).toArray s = true := fun w h => atoms_spec (ws := wX_isAbovePacked) B.pre w (List.mem_cons_of_mem _ h)
  have hown : s.vm.findClass RX = some m.cls := findClass_of_methodNamed B.named
  have hlocks := B.notSynchronized
  have hl := lv_entry ([.int (nI (zq_pk L D u)), .int (nI (zq_pk L D v))]) (n := 2) (Nat.le_of_ble_eq_true rfl)
  rw [lg_entry_eq]
  generalize (lg_sl ([.int (nI (zq_pk L D u)), .int (nI (zq_pk L D v))]) ++ List.replicate (2 - (lg_sl ([.int (nI (zq_pk L D u)), .int (nI (zq_pk L D v))])).length) Slot.unset).toArray = ls at hl ⊢
  have hl : lv_has ls 2 [(0, .int (nI (zq_pk L D u))), (1, .int (nI (zq_pk L D v)))] := hl
  refine lv_iload_n hx hb dX_isAbovePacked_0 rfl (lv_at hl 1 rfl) ?_
  refine lv_ldc hx hb hown (hz _ kn_X_125) dX_isAbovePacked_1 ?_
  refine lv_ior hx hb dX_isAbovePacked_3 ?_
  refine lv_iload_n hx hb dX_isAbovePacked_4 rfl (lv_at hl 0 rfl) ?_
  refine lv_isub hx hb dX_isAbovePacked_5 ?_
  refine lv_ldc hx hb hown (hz _ kn_X_125) dX_isAbovePacked_6 ?_
  refine lv_iand hx hb dX_isAbovePacked_8 ?_
  refine lv_ldc hx hb hown (hz _ kn_X_125) dX_isAbovePacked_9 ?_
  refine lv_icmp_ne (tgt := 18) hx hb dX_isAbovePacked_11 (by decide) (fun c11 => ?_) (fun c11 => ?_)
  · have e1 : ¬ zq_ab L D u v = true := fun q => c11 ((zq_abI L u v hD hL).mpr q)
    refine lv_iconst (v := nI 0) hx hb dX_isAbovePacked_18 (by decide) ?_
    exact zt_rz hx hb hr hlocks (rfl) (fun t ht _ => ⟨by rw [if_neg e1]; rfl, ht⟩) (fun q h => by cases h) dX_isAbovePacked_19
  · have e1 : zq_ab L D u v = true := (zq_abI L u v hD hL).mp c11
    refine lv_iconst (v := nI 1) hx hb dX_isAbovePacked_14 (by decide) ?_
    refine lv_goto (tgt := 19) hx hb dX_isAbovePacked_15 (by decide) ?_
    exact zt_rz hx hb hr hlocks (rfl) (fun t ht _ => ⟨by rw [if_pos e1]; rfl, ht⟩) (fun q h => by cases h) dX_isAbovePacked_19
set_option maxHeartbeats 4000000 in
set_option maxRecDepth 100000 in
/-- the estimate of a view -/
theorem tX_estimateOf (l : Launch) {dC : Nat → ClassId} {dI : Nat → Nat → Nat} {cI cJ cB : ClassId} {ad : Nat → Nat} {lev val pkd : Nat → Int32} {cst : Nat → Int64} {chs : Nat → Int32} {D N F k : Nat} {L V : Nat → Nat} {v : Nat} (hR : zx_R D N F L V lev val pkd) (hv : v < N) : zt_Met l yX_estimateOf wX_estimateOf rX_estimateOf (va_Pc [.ref (ad 0), .int (nI v)] (zg_B dC dI cI cJ cB (zx_w ad cI cJ lev val pkd cst chs D N F k))) (zt_Qr (some (.long (lN (zq_es L V D F v))))) 0 0 0 0 (fun _ => False) := by
  refine zt_ofW (cc := cX_estimateOf) (maxL := 7) (ret := (some .long)) (by decide) rfl ?_
  intro p e s m args below meth c s₁ B hml hout hv
  obtain ⟨rfl, hP, hK⟩ := hv
  have hx := B.exec
  have hb := B.bytes
  have hr := B.returns
  have hz : ∀ w ∈ zw0, w.before ([.ref (ad 0), .int (nI v)] : List Value).toArray s = true := fun w h => atoms_spec (ws := wX_estimateOf) B.pre w (List.mem_cons_of_mem _ h)
  have hown : s.vm.findClass RX = some m.cls := findClass_of_methodNamed B.named
  have hlocks := B.notSynchronized
  have hl := lv_entry ([.ref (ad 0), .int (nI v)]) (n := 7) (Nat.le_of_ble_eq_true rfl)
  rw [lg_entry_eq]
  generalize (lg_sl ([.ref (ad 0), .int (nI v)]) ++ List.replicate (7 - (lg_sl ([.ref (ad 0), .int (nI v)])).length) Slot.unset).toArray = ls at hl ⊢
  have hl : lv_has ls 7 [(0, .ref (ad 0)), (1, .int (nI v))] := hl
  obtain ⟨hD, hL, hN, hN5, hF, hVb, hlev, hval, hpk⟩ := hR
  have hL4 : ∀ j, j < D → L j ≤ 4 := fun j hj => (hL j hj).2
  refine lv_aload_n hx hb dX_estimateOf_0 rfl (lv_at hl 0 rfl) ?_
  refine va_get (D := (dC, dI)) (ci := 0) (v := .ref (ad 3)) (C := RX) (T := TX) (N := 9) hx hb hz in_X hown hK hP 0 rfl rfl 2 (by decide) (hz _ kf_X_16) (fun _ h9 => h9) rfl dX_estimateOf_1 ?_
  refine lv_iload_n hx hb dX_estimateOf_4 rfl (lv_at hl 1 rfl) ?_
  refine zt_iald hx hb hK hP 3 0 rfl rfl (i := v) (by omega) (by decide) (v := (nI (zq_pk L D v))) (hpk v hv) dX_estimateOf_5 ?_
  refine lv_istore_n (lv' := [(2, .int (nI (zq_pk L D v))), (0, .ref (ad 0)), (1, .int (nI v))]) hx hb dX_estimateOf_6 rfl hl (by decide) rfl (fun ls hl => ?_)
  refine lv_iconst (v := nI 1) hx hb dX_estimateOf_7 (by decide) ?_
  refine lv_aload_n hx hb dX_estimateOf_8 rfl (lv_at hl 1 rfl) ?_
  refine va_get (D := (dC, dI)) (ci := 0) (v := .int (nI F)) (C := RX) (T := TX) (N := 9) hx hb hz in_X hown hK hP 0 rfl rfl 7 (by decide) (hz _ kf_X_33) (fun _ h9 => h9) rfl dX_estimateOf_9 ?_
  refine va_mmin hx hb (hml.trans hl.1.symm) hown (hz _ kl_X_117) (hz _ kst_min) (hz _ kin_Math) (hz _ kC_min) (Nat.le_of_ble_eq_true rfl) (Nat.le_of_ble_eq_true rfl) (Nat.le_of_ble_eq_true rfl) (Nat.le_of_ble_eq_true rfl) dX_estimateOf_12 ?_
  refine zt_ti (zq_minI hF (by decide)) ?_
  refine lv_i2l (v := lN (min F 1)) hx hb dX_estimateOf_15 (nI_l (by omega)) ?_
  refine lv_lstore_n (lv' := [(3, .long (lN (min F 1))), (2, .int (nI (zq_pk L D v))), (0, .ref (ad 0)), (1, .int (nI v))]) hx hb dX_estimateOf_16 rfl hl (by decide) rfl (fun ls hl => ?_)
  refine lv_iconst (v := nI 0) hx hb dX_estimateOf_17 (by decide) ?_
  refine lv_istore (lv' := [(5, .int (nI 0)), (3, .long (lN (min F 1))), (2, .int (nI (zq_pk L D v))), (0, .ref (ad 0)), (1, .int (nI v))]) hx hb dX_estimateOf_18 hl (by decide) rfl (fun ls hl => ?_)
  have loop : ∀ (n i : Nat), i + n = D → ∀ ls : Array Slot, lv_has ls 7 [(0, .ref (ad 0)), (1, .int (nI v)), (2, .int (nI (zq_pk L D v))), (3, .long (lN (min F (zq_pr L V D v i)))), (5, .int (nI i))] → W p l e (headSpec wX_estimateOf rX_estimateOf).room s m ([.ref (ad 0), .int (nI v)] : List Value).toArray below meth c s.heap [] 0 0 (zt_MQ below (zt_Qr (some (.long (lN (zq_es L V D F v))))) ([.ref (ad 0), .int (nI v)] : List Value).toArray s 0 0 0 0 (fun _ => False)) (F0 m 20 ls []) := by
    intro n
    induction n with
    | zero =>
      intro i hi ls hl
      refine lv_iload hx hb dX_estimateOf_20 (lv_at hl 4 rfl) ?_
      refine lv_aload_n hx hb dX_estimateOf_22 rfl (lv_at hl 0 rfl) ?_
      refine va_get (D := (dC, dI)) (ci := 0) (v := .int (nI D)) (C := RX) (T := TX) (N := 9) hx hb hz in_X hown hK hP 0 rfl rfl 5 (by decide) (hz _ kf_X_26) (fun _ h9 => h9) rfl dX_estimateOf_23 ?_
      refine zj_ge (tgt := 79) hx hb dX_estimateOf_26 (by decide) (by omega) (by omega) (fun _ => ?_) (fun c26 => absurd c26 (by omega))
      refine lv_lload_n hx hb dX_estimateOf_79 rfl (lv_at hl 3 rfl) ?_
      have e1 : i = D := by omega
      subst e1
      exact zt_rl hx hb hr hlocks (fun t ht _ => ⟨rfl, ht⟩) (fun q h => by cases h) dX_estimateOf_80
    | succ n ih =>
      intro i hi ls hl
      refine lv_iload hx hb dX_estimateOf_20 (lv_at hl 4 rfl) ?_
      refine lv_aload_n hx hb dX_estimateOf_22 rfl (lv_at hl 0 rfl) ?_
      refine va_get (D := (dC, dI)) (ci := 0) (v := .int (nI D)) (C := RX) (T := TX) (N := 9) hx hb hz in_X hown hK hP 0 rfl rfl 5 (by decide) (hz _ kf_X_26) (fun _ h9 => h9) rfl dX_estimateOf_23 ?_
      refine zj_ge (tgt := 79) hx hb dX_estimateOf_26 (by decide) (by omega) (by omega) (fun c26 => absurd c26 (by omega)) (fun _ => ?_)
      refine lv_iload_n hx hb dX_estimateOf_29 rfl (lv_at hl 2 rfl) ?_
      refine lv_iload hx hb dX_estimateOf_30 (lv_at hl 4 rfl) ?_
      refine zt_callRi (zs_run (rest := []) hx hb hml hown (tX_unpackDigit l hD hL4 (by omega)) (wcX_74 hz (Nat.le_of_ble_eq_true rfl) (Nat.le_of_ble_eq_true rfl)) (hz _ kst_X_unpackDigit) (hz _ kC_X_unpackDigit) rfl hl.1 rfl (Nat.le_of_ble_eq_true rfl) dX_estimateOf_32 ⟨Nat.le_of_ble_eq_true rfl, Nat.le_of_ble_eq_true rfl⟩) ?_
      refine lv_istore (lv' := [(6, .int (nI (zq_dg L D v i))), (0, .ref (ad 0)), (1, .int (nI v)), (2, .int (nI (zq_pk L D v))), (3, .long (lN (min F (zq_pr L V D v i)))), (5, .int (nI i))]) hx hb dX_estimateOf_35 hl (by decide) rfl (fun ls hl => ?_)
      refine lv_iload hx hb dX_estimateOf_37 (lv_at hl 0 rfl) ?_
      refine lv_aload_n hx hb dX_estimateOf_39 rfl (lv_at hl 1 rfl) ?_
      refine va_get (D := (dC, dI)) (ci := 0) (v := .ref (ad 1)) (C := RX) (T := TX) (N := 9) hx hb hz in_X hown hK hP 0 rfl rfl 0 (by decide) (hz _ kf_X_9) (fun _ h9 => h9) rfl dX_estimateOf_40 ?_
      refine lv_iload hx hb dX_estimateOf_43 (lv_at hl 5 rfl) ?_
      refine zt_iald hx hb hK hP 1 0 rfl rfl (i := i) (by omega) (by decide) (v := (nI (L i))) (hlev i (by omega)) dX_estimateOf_45 ?_
      have hdg := zq_dg_le L D v i (by omega)
      have hLi := hL i (by omega)
      refine zj_ge (tgt := 73) hx hb dX_estimateOf_46 (by decide) (by omega) (by omega) (fun c46 => ?_) (fun c46 => ?_)
      · have e1 := zq_pr_n L V D v i (by omega)
        refine lv_iinc (v := nI (i + 1)) (lv' := [(5, .int (nI (i + 1))), (6, .int (nI (zq_dg L D v i))), (0, .ref (ad 0)), (1, .int (nI v)), (2, .int (nI (zq_pk L D v))), (3, .long (lN (min F (zq_pr L V D v i))))]) hx hb dX_estimateOf_73 hl (k := 5) rfl (nI_1 _) (by decide) rfl (fun ls hl => ?_)
        refine lv_goto (tgt := 20) hx hb dX_estimateOf_76 (by decide) ?_
        exact ih (i + 1) (by omega) ls (by rw [e1]; exact lv_sub hl [2, 3, 4, 5, 0] rfl)
      · refine lv_lload_n hx hb dX_estimateOf_49 rfl (lv_at hl 4 rfl) ?_
        refine lv_aload_n hx hb dX_estimateOf_50 rfl (lv_at hl 1 rfl) ?_
        refine va_get (D := (dC, dI)) (ci := 0) (v := .ref (ad 2)) (C := RX) (T := TX) (N := 9) hx hb hz in_X hown hK hP 0 rfl rfl 1 (by decide) (hz _ kf_X_13) (fun _ h9 => h9) rfl dX_estimateOf_51 ?_
        refine lv_iload hx hb dX_estimateOf_54 (lv_at hl 5 rfl) ?_
        refine lv_iconst (v := nI 4) hx hb dX_estimateOf_56 (by decide) ?_
        refine lv_imul hx hb dX_estimateOf_57 ?_
        refine zt_ti (pk_mul _ _) ?_
        refine lv_iload hx hb dX_estimateOf_58 (lv_at hl 0 rfl) ?_
        refine lv_iadd hx hb dX_estimateOf_60 ?_
        refine zt_ti (nI_add _ _) ?_
        refine zt_iald hx hb hK hP 2 0 rfl rfl (i := ((i * 4) + (zq_dg L D v i))) (by omega) (by decide) (v := (nI (V (4 * i + zq_dg L D v i)))) (by rw [hval _ (by omega), Nat.mul_comm i 4]) dX_estimateOf_61 ?_
        refine lv_i2l (v := lN (V (4 * i + zq_dg L D v i))) hx hb dX_estimateOf_62 (nI_l (by have := hVb (4 * i + zq_dg L D v i); omega)) ?_
        refine lv_lmul hx hb dX_estimateOf_63 ?_
        refine zt_tl (lN_mul _ _) ?_
        refine lv_aload_n hx hb dX_estimateOf_64 rfl (lv_at hl 1 rfl) ?_
        refine va_get (D := (dC, dI)) (ci := 0) (v := .int (nI F)) (C := RX) (T := TX) (N := 9) hx hb hz in_X hown hK hP 0 rfl rfl 7 (by decide) (hz _ kf_X_33) (fun _ h9 => h9) rfl dX_estimateOf_65 ?_
        refine lv_i2l (v := lN F) hx hb dX_estimateOf_68 (nI_l (by omega)) ?_
        refine va_mmin_long hx hb (hml.trans hl.1.symm) hown (hz _ kl_X_122) (hz _ kst_lmin) (hz _ kin_Math) (hz _ kC_lmin) (Nat.le_of_ble_eq_true rfl) (Nat.le_of_ble_eq_true rfl) (Nat.le_of_ble_eq_true rfl) (Nat.le_of_ble_eq_true rfl) dX_estimateOf_69 ?_
        refine zt_tl (y := lN (min F (zq_pr L V D v (i + 1)))) (by rw [zq_minL (by omega) (zq_fac hF (hVb _)), zq_cap, zq_pr_s L V D v i (by omega)]) ?_
        refine lv_lstore_n (lv' := [(3, .long (lN (min F (zq_pr L V D v (i + 1))))), (6, .int (nI (zq_dg L D v i))), (0, .ref (ad 0)), (1, .int (nI v)), (2, .int (nI (zq_pk L D v))), (5, .int (nI i))]) hx hb dX_estimateOf_72 rfl hl (by decide) rfl (fun ls hl => ?_)
        refine lv_iinc (v := nI (i + 1)) (lv' := [(5, .int (nI (i + 1))), (3, .long (lN (min F (zq_pr L V D v (i + 1))))), (6, .int (nI (zq_dg L D v i))), (0, .ref (ad 0)), (1, .int (nI v)), (2, .int (nI (zq_pk L D v)))]) hx hb dX_estimateOf_73 hl (k := 5) rfl (nI_1 _) (by decide) rfl (fun ls hl => ?_)
        refine lv_goto (tgt := 20) hx hb dX_estimateOf_76 (by decide) ?_
        exact ih (i + 1) (by omega) ls (lv_sub hl [3, 4, 5, 1, 0] rfl)
  exact loop D 0 (by omega) ls (lv_sub hl [3, 4, 2, 1, 0] rfl)
set_option maxHeartbeats 4000000 in
set_option maxRecDepth 100000 in
/-- the benefit of a view -/
theorem tX_benefitOf (l : Launch) {dC : Nat → ClassId} {dI : Nat → Nat → Nat} {cI cJ cB : ClassId} {ad : Nat → Nat} {lev val pkd : Nat → Int32} {cst : Nat → Int64} {chs : Nat → Int32} {D N F k : Nat} {L V : Nat → Nat} {v : Nat} {cw : Nat → Nat} (hc : ∀ w, w < N → cst w = lN (cw w) ∧ cw w ≤ F) (hR : zx_R D N F L V lev val pkd) (hv : v < N) : zt_Met l yX_benefitOf wX_benefitOf rX_benefitOf (va_Pc [.ref (ad 0), .int (nI v)] (zg_B dC dI cI cJ cB (zx_w ad cI cJ lev val pkd cst chs D N F k))) (zt_Qr (some (.long (lN (zq_bn (zq_es L V D F) (zq_ab L D) cw N v))))) 0 0 0 0 (fun _ => False) := by
  refine zt_ofW (cc := cX_benefitOf) (maxL := 8) (ret := (some .long)) (by decide) rfl ?_
  intro p e s m args below meth c s₁ B hml hout hv
  obtain ⟨rfl, hP, hK⟩ := hv
  have hx := B.exec
  have hb := B.bytes
  have hr := B.returns
  have hz : ∀ w ∈ zw0, w.before ([.ref (ad 0), .int (nI v)] : List Value).toArray s = true := fun w h => atoms_spec (ws := wX_benefitOf) B.pre w (List.mem_cons_of_mem _ h)
  have hown : s.vm.findClass RX = some m.cls := findClass_of_methodNamed B.named
  have hlocks := B.notSynchronized
  have hl := lv_entry ([.ref (ad 0), .int (nI v)]) (n := 8) (Nat.le_of_ble_eq_true rfl)
  rw [lg_entry_eq]
  generalize (lg_sl ([.ref (ad 0), .int (nI v)]) ++ List.replicate (8 - (lg_sl ([.ref (ad 0), .int (nI v)])).length) Slot.unset).toArray = ls at hl ⊢
  have hl : lv_has ls 8 [(0, .ref (ad 0)), (1, .int (nI v))] := hl
  have hR9 := hR
  obtain ⟨hD, hL, hN, hN5, hF, hVb, hlev, hval, hpk⟩ := hR
  have hL4 : ∀ j, j < D → L j ≤ 4 := fun j hj => (hL j hj).2
  have he : zq_es L V D F v ≤ F := zq_es_le L V D F v
  refine lv_aload_n hx hb dX_benefitOf_0 rfl (lv_at hl 0 rfl) ?_
  refine lv_iload_n hx hb dX_benefitOf_1 rfl (lv_at hl 1 rfl) ?_
  refine zt_callRl (zg_run (rest := []) hx hb hml hown (tX_estimateOf l hR9 hv) (wcX_82 hz (Nat.le_of_ble_eq_true rfl) (Nat.le_of_ble_eq_true rfl)) (hz _ ki_X_estimateOf) (hz _ ks_X_estimateOf) (hz _ kC_X_estimateOf) hP hK rfl (q0 := 0) rfl rfl hl.1 rfl (Nat.le_of_ble_eq_true rfl) dX_benefitOf_2 ⟨Nat.le_of_ble_eq_true rfl, Nat.le_of_ble_eq_true rfl⟩) ?_
  refine lv_lstore_n (lv' := [(2, .long (lN (zq_es L V D F v))), (0, .ref (ad 0)), (1, .int (nI v))]) hx hb dX_benefitOf_5 rfl hl (by decide) rfl (fun ls hl => ?_)
  refine lv_aload_n hx hb dX_benefitOf_6 rfl (lv_at hl 1 rfl) ?_
  refine va_get (D := (dC, dI)) (ci := 0) (v := .ref (ad 3)) (C := RX) (T := TX) (N := 9) hx hb hz in_X hown hK hP 0 rfl rfl 2 (by decide) (hz _ kf_X_16) (fun _ h9 => h9) rfl dX_benefitOf_7 ?_
  refine lv_iload_n hx hb dX_benefitOf_10 rfl (lv_at hl 2 rfl) ?_
  refine zt_iald hx hb hK hP 3 0 rfl rfl (i := v) (by omega) (by decide) (v := (nI (zq_pk L D v))) (hpk v hv) dX_benefitOf_11 ?_
  refine lv_istore (lv' := [(4, .int (nI (zq_pk L D v))), (2, .long (lN (zq_es L V D F v))), (0, .ref (ad 0)), (1, .int (nI v))]) hx hb dX_benefitOf_12 hl (by decide) rfl (fun ls hl => ?_)
  refine lv_lconst (v := lN 0) hx hb dX_benefitOf_14 (by decide) ?_
  refine lv_lstore (lv' := [(5, .long (lN 0)), (4, .int (nI (zq_pk L D v))), (2, .long (lN (zq_es L V D F v))), (0, .ref (ad 0)), (1, .int (nI v))]) hx hb dX_benefitOf_15 hl (by decide) rfl (fun ls hl => ?_)
  refine lv_iload_n hx hb dX_benefitOf_17 rfl (lv_at hl 4 rfl) ?_
  refine lv_istore (lv' := [(7, .int (nI v)), (5, .long (lN 0)), (4, .int (nI (zq_pk L D v))), (2, .long (lN (zq_es L V D F v))), (0, .ref (ad 0)), (1, .int (nI v))]) hx hb dX_benefitOf_18 hl (by decide) rfl (fun ls hl => ?_)
  have loop : ∀ (n i : Nat), i + n = N → ∀ ls : Array Slot, lv_has ls 8 [(0, .ref (ad 0)), (1, .int (nI v)), (2, .long (lN (zq_es L V D F v))), (4, .int (nI (zq_pk L D v))), (5, .long (lN (zq_sm (zq_bf (zq_es L V D F) (zq_ab L D) cw v) i))), (7, .int (nI i))] → W p l e (headSpec wX_benefitOf rX_benefitOf).room s m ([.ref (ad 0), .int (nI v)] : List Value).toArray below meth c s.heap [] 0 0 (zt_MQ below (zt_Qr (some (.long (lN (zq_bn (zq_es L V D F) (zq_ab L D) cw N v))))) ([.ref (ad 0), .int (nI v)] : List Value).toArray s 0 0 0 0 (fun _ => False)) (F0 m 20 ls []) := by
    intro n
    induction n with
    | zero =>
      intro i hi ls hl
      refine lv_iload hx hb dX_benefitOf_20 (lv_at hl 5 rfl) ?_
      refine lv_aload_n hx hb dX_benefitOf_22 rfl (lv_at hl 0 rfl) ?_
      refine va_get (D := (dC, dI)) (ci := 0) (v := .int (nI N)) (C := RX) (T := TX) (N := 9) hx hb hz in_X hown hK hP 0 rfl rfl 6 (by decide) (hz _ kf_X_30) (fun _ h9 => h9) rfl dX_benefitOf_23 ?_
      refine zj_ge (tgt := 76) hx hb dX_benefitOf_26 (by decide) (by omega) (by omega) (fun _ => ?_) (fun c26 => absurd c26 (by omega))
      refine lv_lload hx hb dX_benefitOf_76 (lv_at hl 4 rfl) ?_
      have e1 : i = N := by omega
      subst e1
      exact zt_rl hx hb hr hlocks (fun t ht _ => ⟨rfl, ht⟩) (fun q h => by cases h) dX_benefitOf_78
    | succ n ih =>
      intro i hi ls hl
      have hci := hc i (by omega)
      refine lv_iload hx hb dX_benefitOf_20 (lv_at hl 5 rfl) ?_
      refine lv_aload_n hx hb dX_benefitOf_22 rfl (lv_at hl 0 rfl) ?_
      refine va_get (D := (dC, dI)) (ci := 0) (v := .int (nI N)) (C := RX) (T := TX) (N := 9) hx hb hz in_X hown hK hP 0 rfl rfl 6 (by decide) (hz _ kf_X_30) (fun _ h9 => h9) rfl dX_benefitOf_23 ?_
      refine zj_ge (tgt := 76) hx hb dX_benefitOf_26 (by decide) (by omega) (by omega) (fun c26 => absurd c26 (by omega)) (fun _ => ?_)
      refine lv_aload_n hx hb dX_benefitOf_29 rfl (lv_at hl 0 rfl) ?_
      refine va_get (D := (dC, dI)) (ci := 0) (v := .ref (ad 4)) (C := RX) (T := TX) (N := 9) hx hb hz in_X hown hK hP 0 rfl rfl 3 (by decide) (hz _ kf_X_19) (fun _ h9 => h9) rfl dX_benefitOf_30 ?_
      refine lv_iload hx hb dX_benefitOf_33 (lv_at hl 5 rfl) ?_
      refine zt_lald hx hb hK hP 4 1 rfl rfl (i := i) (by omega) (by decide) (v := (lN (cw i))) (hci.1) dX_benefitOf_35 ?_
      refine lv_lload_n hx hb dX_benefitOf_36 rfl (lv_at hl 2 rfl) ?_
      refine zl_le (tgt := 70) hx hb dX_benefitOf_37 dX_benefitOf_38 (by decide) (by omega) (by omega) (fun c37 => ?_) (fun c37 => ?_)
      · have e1 : zq_sm (zq_bf (zq_es L V D F) (zq_ab L D) cw v) (i + 1) = zq_sm (zq_bf (zq_es L V D F) (zq_ab L D) cw v) i := by
          show zq_sm (zq_bf (zq_es L V D F) (zq_ab L D) cw v) i + zq_bf (zq_es L V D F) (zq_ab L D) cw v i = _
          rw [zq_bf_f (fun q => by have := q.1; omega)]
          rfl
        refine lv_iinc (v := nI (i + 1)) (lv' := [(7, .int (nI (i + 1))), (0, .ref (ad 0)), (1, .int (nI v)), (2, .long (lN (zq_es L V D F v))), (4, .int (nI (zq_pk L D v))), (5, .long (lN (zq_sm (zq_bf (zq_es L V D F) (zq_ab L D) cw v) i)))]) hx hb dX_benefitOf_70 hl (k := 5) rfl (nI_1 _) (by decide) rfl (fun ls hl => ?_)
        refine lv_goto (tgt := 20) hx hb dX_benefitOf_73 (by decide) ?_
        exact ih (i + 1) (by omega) ls (by rw [e1]; exact (lv_sub hl [1, 2, 3, 4, 5, 0] rfl))
      · refine lv_iload hx hb dX_benefitOf_41 (lv_at hl 3 rfl) ?_
        refine lv_aload_n hx hb dX_benefitOf_43 rfl (lv_at hl 0 rfl) ?_
        refine va_get (D := (dC, dI)) (ci := 0) (v := .ref (ad 3)) (C := RX) (T := TX) (N := 9) hx hb hz in_X hown hK hP 0 rfl rfl 2 (by decide) (hz _ kf_X_16) (fun _ h9 => h9) rfl dX_benefitOf_44 ?_
        refine lv_iload hx hb dX_benefitOf_47 (lv_at hl 5 rfl) ?_
        refine zt_iald hx hb hK hP 3 0 rfl rfl (i := i) (by omega) (by decide) (v := (nI (zq_pk L D i))) (hpk i (by omega)) dX_benefitOf_49 ?_
        refine zt_callRi (zs_run (rest := []) hx hb hml hown (tX_isAbovePacked l hD hL4) (wcX_78 hz (Nat.le_of_ble_eq_true rfl) (Nat.le_of_ble_eq_true rfl)) (hz _ kst_X_isAbovePacked) (hz _ kC_X_isAbovePacked) rfl hl.1 rfl (Nat.le_of_ble_eq_true rfl) dX_benefitOf_50 ⟨Nat.le_of_ble_eq_true rfl, Nat.le_of_ble_eq_true rfl⟩) ?_
        refine zb_eq (tgt := 70) hx hb dX_benefitOf_53 (by decide) (fun c53 => ?_) (fun c53 => ?_)
        · have e1 : zq_sm (zq_bf (zq_es L V D F) (zq_ab L D) cw v) (i + 1) = zq_sm (zq_bf (zq_es L V D F) (zq_ab L D) cw v) i := by
            show zq_sm (zq_bf (zq_es L V D F) (zq_ab L D) cw v) i + zq_bf (zq_es L V D F) (zq_ab L D) cw v i = _
            rw [zq_bf_f (fun q => by have := q.2; rw [c53] at this; cases this)]
            rfl
          refine lv_iinc (v := nI (i + 1)) (lv' := [(7, .int (nI (i + 1))), (0, .ref (ad 0)), (1, .int (nI v)), (2, .long (lN (zq_es L V D F v))), (4, .int (nI (zq_pk L D v))), (5, .long (lN (zq_sm (zq_bf (zq_es L V D F) (zq_ab L D) cw v) i)))]) hx hb dX_benefitOf_70 hl (k := 5) rfl (nI_1 _) (by decide) rfl (fun ls hl => ?_)
          refine lv_goto (tgt := 20) hx hb dX_benefitOf_73 (by decide) ?_
          exact ih (i + 1) (by omega) ls (by rw [e1]; exact (lv_sub hl [1, 2, 3, 4, 5, 0] rfl))
        · refine lv_lload hx hb dX_benefitOf_56 (lv_at hl 4 rfl) ?_
          refine lv_aload_n hx hb dX_benefitOf_58 rfl (lv_at hl 0 rfl) ?_
          refine va_get (D := (dC, dI)) (ci := 0) (v := .ref (ad 4)) (C := RX) (T := TX) (N := 9) hx hb hz in_X hown hK hP 0 rfl rfl 3 (by decide) (hz _ kf_X_19) (fun _ h9 => h9) rfl dX_benefitOf_59 ?_
          refine lv_iload hx hb dX_benefitOf_62 (lv_at hl 5 rfl) ?_
          refine zt_lald hx hb hK hP 4 1 rfl rfl (i := i) (by omega) (by decide) (v := (lN (cw i))) (hci.1) dX_benefitOf_64 ?_
          refine lv_lload_n hx hb dX_benefitOf_65 rfl (lv_at hl 2 rfl) ?_
          refine lv_lsub hx hb dX_benefitOf_66 ?_
          refine zt_tl (lN_sub (by omega)) ?_
          refine lv_ladd hx hb dX_benefitOf_67 ?_
          refine zt_tl (lN_add _ _) ?_
          refine zt_tl (y := lN (zq_sm (zq_bf (zq_es L V D F) (zq_ab L D) cw v) (i + 1))) (by
            show _ = lN (zq_sm (zq_bf (zq_es L V D F) (zq_ab L D) cw v) i + zq_bf (zq_es L V D F) (zq_ab L D) cw v i)
            rw [zq_bf_t (by omega) c53]) ?_
          refine lv_lstore (lv' := [(5, .long (lN (zq_sm (zq_bf (zq_es L V D F) (zq_ab L D) cw v) (i + 1)))), (0, .ref (ad 0)), (1, .int (nI v)), (2, .long (lN (zq_es L V D F v))), (4, .int (nI (zq_pk L D v))), (7, .int (nI i))]) hx hb dX_benefitOf_68 hl (by decide) rfl (fun ls hl => ?_)
          refine lv_iinc (v := nI (i + 1)) (lv' := [(7, .int (nI (i + 1))), (5, .long (lN (zq_sm (zq_bf (zq_es L V D F) (zq_ab L D) cw v) (i + 1)))), (0, .ref (ad 0)), (1, .int (nI v)), (2, .long (lN (zq_es L V D F v))), (4, .int (nI (zq_pk L D v)))]) hx hb dX_benefitOf_70 hl (k := 5) rfl (nI_1 _) (by decide) rfl (fun ls hl => ?_)
          refine lv_goto (tgt := 20) hx hb dX_benefitOf_73 (by decide) ?_
          exact ih (i + 1) (by omega) ls (lv_sub hl [2, 3, 4, 5, 1, 0] rfl)
  have e0 := zq_from L (zq_es L V D F) cw hN hv
  exact loop (N - v) v (by omega) ls (by rw [e0]; exact (lv_sub hl [4, 5, 3, 2, 1, 0] rfl))
set_option maxHeartbeats 4000000 in
set_option maxRecDepth 100000 in
/-- the view of the greatest benefit -/
theorem tX_mostBeneficial (l : Launch) {dC : Nat → ClassId} {dI : Nat → Nat → Nat} {cI cJ cB : ClassId} {ad : Nat → Nat} {lev val pkd : Nat → Int32} {cst : Nat → Int64} {chs : Nat → Int32} {D N F k : Nat} {L V : Nat → Nat} {cw : Nat → Nat} (hc : ∀ w, w < N → cst w = lN (cw w) ∧ cw w ≤ F) (hR : zx_R D N F L V lev val pkd) : zt_Met l yX_mostBeneficial wX_mostBeneficial rX_mostBeneficial (va_Pc [.ref (ad 0)] (zg_B dC dI cI cJ cB (zx_w ad cI cJ lev val pkd cst chs D N F k))) (zt_Qr (some (.int (nI (zq_mx (zq_bn (zq_es L V D F) (zq_ab L D) cw N) N).2 - 1)))) 0 0 0 0 (fun _ => False) := by
  refine zt_ofW (cc := cX_mostBeneficial) (maxL := 7) (ret := (some .int)) (by decide) rfl ?_
  intro p e s m args below meth c s₁ B hml hout hv
  obtain ⟨rfl, hP, hK⟩ := hv
  have hx := B.exec
  have hb := B.bytes
  have hr := B.returns
  have hz : ∀ w ∈ zw0, w.before ([.ref (ad 0)] : List Value).toArray s = true := fun w h => atoms_spec (ws := wX_mostBeneficial) B.pre w (List.mem_cons_of_mem _ h)
  have hown : s.vm.findClass RX = some m.cls := findClass_of_methodNamed B.named
  have hlocks := B.notSynchronized
  have hl := lv_entry ([.ref (ad 0)]) (n := 7) (Nat.le_of_ble_eq_true rfl)
  rw [lg_entry_eq]
  generalize (lg_sl ([.ref (ad 0)]) ++ List.replicate (7 - (lg_sl ([.ref (ad 0)])).length) Slot.unset).toArray = ls at hl ⊢
  have hl : lv_has ls 7 [(0, .ref (ad 0))] := hl
  have hR9 := hR
  obtain ⟨hD, hL, hN, hN5, hF, hVb, hlev, hval, hpk⟩ := hR
  refine lv_iconst (v := -1) hx hb dX_mostBeneficial_0 (by decide) ?_
  refine lv_istore_n (lv' := [(1, .int (-1)), (0, .ref (ad 0))]) hx hb dX_mostBeneficial_1 rfl hl (by decide) rfl (fun ls hl => ?_)
  refine lv_lconst (v := lN 0) hx hb dX_mostBeneficial_2 (by decide) ?_
  refine lv_lstore_n (lv' := [(2, .long (lN 0)), (1, .int (-1)), (0, .ref (ad 0))]) hx hb dX_mostBeneficial_3 rfl hl (by decide) rfl (fun ls hl => ?_)
  refine lv_iconst (v := nI 0) hx hb dX_mostBeneficial_4 (by decide) ?_
  refine lv_istore (lv' := [(4, .int (nI 0)), (2, .long (lN 0)), (1, .int (-1)), (0, .ref (ad 0))]) hx hb dX_mostBeneficial_5 hl (by decide) rfl (fun ls hl => ?_)
  have hbn : ∀ v, zq_bn (zq_es L V D F) (zq_ab L D) cw N v < 2 ^ 63 := fun v => zq_bn_le hN5 hF (fun i hi => (hc i hi).2)
  have loop : ∀ (n i : Nat), i + n = N → ∀ ls : Array Slot, lv_has ls 7 [(0, .ref (ad 0)), (1, .int (nI (zq_mx (zq_bn (zq_es L V D F) (zq_ab L D) cw N) i).2 - 1)), (2, .long (lN ((zq_mx (zq_bn (zq_es L V D F) (zq_ab L D) cw N) i).1))), (4, .int (nI i))] → W p l e (headSpec wX_mostBeneficial rX_mostBeneficial).room s m ([.ref (ad 0)] : List Value).toArray below meth c s.heap [] 0 0 (zt_MQ below (zt_Qr (some (.int (nI (zq_mx (zq_bn (zq_es L V D F) (zq_ab L D) cw N) N).2 - 1)))) ([.ref (ad 0)] : List Value).toArray s 0 0 0 0 (fun _ => False)) (F0 m 7 ls []) := by
    intro n
    induction n with
    | zero =>
      intro i hi ls hl
      refine lv_iload hx hb dX_mostBeneficial_7 (lv_at hl 3 rfl) ?_
      refine lv_aload_n hx hb dX_mostBeneficial_9 rfl (lv_at hl 0 rfl) ?_
      refine va_get (D := (dC, dI)) (ci := 0) (v := .int (nI N)) (C := RX) (T := TX) (N := 9) hx hb hz in_X hown hK hP 0 rfl rfl 6 (by decide) (hz _ kf_X_30) (fun _ h9 => h9) rfl dX_mostBeneficial_10 ?_
      refine zj_ge (tgt := 43) hx hb dX_mostBeneficial_13 (by decide) (by omega) (by omega) (fun _ => ?_) (fun c13 => absurd c13 (by omega))
      refine lv_iload_n hx hb dX_mostBeneficial_43 rfl (lv_at hl 1 rfl) ?_
      have e1 : i = N := by omega
      subst e1
      exact zt_ri hx hb hr hlocks (fun t ht _ => ⟨rfl, ht⟩) (fun q h => by cases h) dX_mostBeneficial_44
    | succ n ih =>
      intro i hi ls hl
      refine lv_iload hx hb dX_mostBeneficial_7 (lv_at hl 3 rfl) ?_
      refine lv_aload_n hx hb dX_mostBeneficial_9 rfl (lv_at hl 0 rfl) ?_
      refine va_get (D := (dC, dI)) (ci := 0) (v := .int (nI N)) (C := RX) (T := TX) (N := 9) hx hb hz in_X hown hK hP 0 rfl rfl 6 (by decide) (hz _ kf_X_30) (fun _ h9 => h9) rfl dX_mostBeneficial_10 ?_
      refine zj_ge (tgt := 43) hx hb dX_mostBeneficial_13 (by decide) (by omega) (by omega) (fun c13 => absurd c13 (by omega)) (fun _ => ?_)
      refine lv_aload_n hx hb dX_mostBeneficial_16 rfl (lv_at hl 0 rfl) ?_
      refine lv_iload hx hb dX_mostBeneficial_17 (lv_at hl 3 rfl) ?_
      refine zt_callRl (zg_run (rest := []) hx hb hml hown (tX_benefitOf l hc hR9 (by omega)) (wcX_86 hz (Nat.le_of_ble_eq_true rfl) (Nat.le_of_ble_eq_true rfl)) (hz _ ki_X_benefitOf) (hz _ ks_X_benefitOf) (hz _ kC_X_benefitOf) hP hK rfl (q0 := 0) rfl rfl hl.1 rfl (Nat.le_of_ble_eq_true rfl) dX_mostBeneficial_19 ⟨Nat.le_of_ble_eq_true rfl, Nat.le_of_ble_eq_true rfl⟩) ?_
      have hm : (zq_mx (zq_bn (zq_es L V D F) (zq_ab L D) cw N) i).1 < 2 ^ 63 := Nat.lt_of_le_of_lt (zq_mx_bd (B := 2 ^ 63 - 1) i (fun j _ => by have := hbn j; omega)) (by decide)
      refine lv_lstore (lv' := [(5, .long (lN (zq_bn (zq_es L V D F) (zq_ab L D) cw N i))), (0, .ref (ad 0)), (1, .int (nI (zq_mx (zq_bn (zq_es L V D F) (zq_ab L D) cw N) i).2 - 1)), (2, .long (lN ((zq_mx (zq_bn (zq_es L V D F) (zq_ab L D) cw N) i).1))), (4, .int (nI i))]) hx hb dX_mostBeneficial_22 hl (by decide) rfl (fun ls hl => ?_)
      refine lv_lload hx hb dX_mostBeneficial_24 (lv_at hl 0 rfl) ?_
      refine lv_lload_n hx hb dX_mostBeneficial_26 rfl (lv_at hl 3 rfl) ?_
      refine zl_le (tgt := 37) hx hb dX_mostBeneficial_27 dX_mostBeneficial_28 (by decide) (hbn i) (hm) (fun c27 => ?_) (fun c27 => ?_)
      · have e1 : zq_mx (zq_bn (zq_es L V D F) (zq_ab L D) cw N) (i + 1) = zq_mx (zq_bn (zq_es L V D F) (zq_ab L D) cw N) i := zq_mx_f (by omega)
        refine lv_iinc (v := nI (i + 1)) (lv' := [(4, .int (nI (i + 1))), (5, .long (lN (zq_bn (zq_es L V D F) (zq_ab L D) cw N i))), (0, .ref (ad 0)), (1, .int (nI (zq_mx (zq_bn (zq_es L V D F) (zq_ab L D) cw N) i).2 - 1)), (2, .long (lN ((zq_mx (zq_bn (zq_es L V D F) (zq_ab L D) cw N) i).1)))]) hx hb dX_mostBeneficial_37 hl (k := 4) rfl (nI_1 _) (by decide) rfl (fun ls hl => ?_)
        refine lv_goto (tgt := 7) hx hb dX_mostBeneficial_40 (by decide) ?_
        exact ih (i + 1) (by omega) ls (by rw [e1]; exact (lv_sub hl [2, 3, 4, 0] rfl))
      · have e1 : zq_mx (zq_bn (zq_es L V D F) (zq_ab L D) cw N) (i + 1) = (zq_bn (zq_es L V D F) (zq_ab L D) cw N i, i + 1) := zq_mx_t (by omega)
        refine lv_lload hx hb dX_mostBeneficial_31 (lv_at hl 0 rfl) ?_
        refine lv_lstore_n (lv' := [(2, .long (lN (zq_bn (zq_es L V D F) (zq_ab L D) cw N i))), (5, .long (lN (zq_bn (zq_es L V D F) (zq_ab L D) cw N i))), (0, .ref (ad 0)), (1, .int (nI (zq_mx (zq_bn (zq_es L V D F) (zq_ab L D) cw N) i).2 - 1)), (4, .int (nI i))]) hx hb dX_mostBeneficial_33 rfl hl (by decide) rfl (fun ls hl => ?_)
        refine lv_iload hx hb dX_mostBeneficial_34 (lv_at hl 4 rfl) ?_
        refine zt_ti (y := nI (i + 1) - 1) (nI_pred i).symm ?_
        refine lv_istore_n (lv' := [(1, .int (nI (i + 1) - 1)), (2, .long (lN (zq_bn (zq_es L V D F) (zq_ab L D) cw N i))), (5, .long (lN (zq_bn (zq_es L V D F) (zq_ab L D) cw N i))), (0, .ref (ad 0)), (4, .int (nI i))]) hx hb dX_mostBeneficial_36 rfl hl (by decide) rfl (fun ls hl => ?_)
        refine lv_iinc (v := nI (i + 1)) (lv' := [(4, .int (nI (i + 1))), (1, .int (nI (i + 1) - 1)), (2, .long (lN (zq_bn (zq_es L V D F) (zq_ab L D) cw N i))), (5, .long (lN (zq_bn (zq_es L V D F) (zq_ab L D) cw N i))), (0, .ref (ad 0))]) hx hb dX_mostBeneficial_37 hl (k := 4) rfl (nI_1 _) (by decide) rfl (fun ls hl => ?_)
        refine lv_goto (tgt := 7) hx hb dX_mostBeneficial_40 (by decide) ?_
        exact ih (i + 1) (by omega) ls (by rw [e1]; exact (lv_sub hl [4, 1, 2, 0] rfl))
  exact loop N 0 (by omega) ls (lv_sub hl [3, 2, 1, 0] rfl)
set_option maxHeartbeats 4000000 in
set_option maxRecDepth 100000 in
/-- the sum of all costs -/
theorem tX_total (l : Launch) {dC : Nat → ClassId} {dI : Nat → Nat → Nat} {cI cJ cB : ClassId} {ad : Nat → Nat} {lev val pkd : Nat → Int32} {cst : Nat → Int64} {chs : Nat → Int32} {D N F k : Nat} {cw : Nat → Nat} (hc : ∀ w, w < N → cst w = lN (cw w) ∧ cw w ≤ F) (hN5 : N ≤ 512) : zt_Met l yX_total wX_total rX_total (va_Pc [.ref (ad 0)] (zg_B dC dI cI cJ cB (zx_w ad cI cJ lev val pkd cst chs D N F k))) (zt_Qr (some (.long (lN (zq_sm cw N))))) 0 0 0 0 (fun _ => False) := by
  refine zt_ofW (cc := cX_total) (maxL := 4) (ret := (some .long)) (by decide) rfl ?_
  intro p e s m args below meth c s₁ B hml hout hv
  obtain ⟨rfl, hP, hK⟩ := hv
  have hx := B.exec
  have hb := B.bytes
  have hr := B.returns
  have hz : ∀ w ∈ zw0, w.before ([.ref (ad 0)] : List Value).toArray s = true := fun w h => atoms_spec (ws := wX_total) B.pre w (List.mem_cons_of_mem _ h)
  have hown : s.vm.findClass RX = some m.cls := findClass_of_methodNamed B.named
  have hlocks := B.notSynchronized
  have hl := lv_entry ([.ref (ad 0)]) (n := 4) (Nat.le_of_ble_eq_true rfl)
  rw [lg_entry_eq]
  generalize (lg_sl ([.ref (ad 0)]) ++ List.replicate (4 - (lg_sl ([.ref (ad 0)])).length) Slot.unset).toArray = ls at hl ⊢
  have hl : lv_has ls 4 [(0, .ref (ad 0))] := hl
  refine lv_lconst (v := lN 0) hx hb dX_total_0 (by decide) ?_
  refine lv_lstore_n (lv' := [(1, .long (lN 0)), (0, .ref (ad 0))]) hx hb dX_total_1 rfl hl (by decide) rfl (fun ls hl => ?_)
  refine lv_iconst (v := nI 0) hx hb dX_total_2 (by decide) ?_
  refine lv_istore_n (lv' := [(3, .int (nI 0)), (1, .long (lN 0)), (0, .ref (ad 0))]) hx hb dX_total_3 rfl hl (by decide) rfl (fun ls hl => ?_)
  have loop : ∀ (n i : Nat), i + n = N → ∀ ls : Array Slot, lv_has ls 4 [(0, .ref (ad 0)), (1, .long (lN (zq_sm cw i))), (3, .int (nI i))] → W p l e (headSpec wX_total rX_total).room s m ([.ref (ad 0)] : List Value).toArray below meth c s.heap [] 0 0 (zt_MQ below (zt_Qr (some (.long (lN (zq_sm cw N))))) ([.ref (ad 0)] : List Value).toArray s 0 0 0 0 (fun _ => False)) (F0 m 4 ls []) := by
    intro n
    induction n with
    | zero =>
      intro i hi ls hl
      refine lv_iload_n hx hb dX_total_4 rfl (lv_at hl 2 rfl) ?_
      refine lv_aload_n hx hb dX_total_5 rfl (lv_at hl 0 rfl) ?_
      refine va_get (D := (dC, dI)) (ci := 0) (v := .int (nI N)) (C := RX) (T := TX) (N := 9) hx hb hz in_X hown hK hP 0 rfl rfl 6 (by decide) (hz _ kf_X_30) (fun _ h9 => h9) rfl dX_total_6 ?_
      refine zj_ge (tgt := 27) hx hb dX_total_9 (by decide) (by omega) (by omega) (fun _ => ?_) (fun c9 => absurd c9 (by omega))
      refine lv_lload_n hx hb dX_total_27 rfl (lv_at hl 1 rfl) ?_
      have e1 : i = N := by omega
      subst e1
      exact zt_rl hx hb hr hlocks (fun t ht _ => ⟨rfl, ht⟩) (fun q h => by cases h) dX_total_28
    | succ n ih =>
      intro i hi ls hl
      refine lv_iload_n hx hb dX_total_4 rfl (lv_at hl 2 rfl) ?_
      refine lv_aload_n hx hb dX_total_5 rfl (lv_at hl 0 rfl) ?_
      refine va_get (D := (dC, dI)) (ci := 0) (v := .int (nI N)) (C := RX) (T := TX) (N := 9) hx hb hz in_X hown hK hP 0 rfl rfl 6 (by decide) (hz _ kf_X_30) (fun _ h9 => h9) rfl dX_total_6 ?_
      refine zj_ge (tgt := 27) hx hb dX_total_9 (by decide) (by omega) (by omega) (fun c9 => absurd c9 (by omega)) (fun _ => ?_)
      refine lv_lload_n hx hb dX_total_12 rfl (lv_at hl 1 rfl) ?_
      refine lv_aload_n hx hb dX_total_13 rfl (lv_at hl 0 rfl) ?_
      refine va_get (D := (dC, dI)) (ci := 0) (v := .ref (ad 4)) (C := RX) (T := TX) (N := 9) hx hb hz in_X hown hK hP 0 rfl rfl 3 (by decide) (hz _ kf_X_19) (fun _ h9 => h9) rfl dX_total_14 ?_
      refine lv_iload_n hx hb dX_total_17 rfl (lv_at hl 2 rfl) ?_
      refine zt_lald hx hb hK hP 4 1 rfl rfl (i := i) (by omega) (by decide) (v := (lN (cw i))) ((hc i (by omega)).1) dX_total_18 ?_
      refine lv_ladd hx hb dX_total_19 ?_
      refine zt_tl (lN_add _ _) ?_
      refine lv_lstore_n (lv' := [(1, .long (lN ((zq_sm cw i) + (cw i)))), (0, .ref (ad 0)), (3, .int (nI i))]) hx hb dX_total_20 rfl hl (by decide) rfl (fun ls hl => ?_)
      refine lv_iinc (v := nI (i + 1)) (lv' := [(3, .int (nI (i + 1))), (1, .long (lN ((zq_sm cw i) + (cw i)))), (0, .ref (ad 0))]) hx hb dX_total_21 hl (k := 2) rfl (nI_1 _) (by decide) rfl (fun ls hl => ?_)
      refine lv_goto (tgt := 4) hx hb dX_total_24 (by decide) ?_
      exact ih (i + 1) (by omega) ls (lv_sub hl [2, 1, 0] rfl)
  exact loop N 0 (by omega) ls (lv_sub hl [2, 1, 0] rfl)
set_option maxHeartbeats 4000000 in
set_option maxRecDepth 100000 in
/-- how many views -/
theorem tX_views (l : Launch) {dC : Nat → ClassId} {dI : Nat → Nat → Nat} {cI cJ cB : ClassId} {ad : Nat → Nat} {lev val pkd : Nat → Int32} {cst : Nat → Int64} {chs : Nat → Int32} {D N F k : Nat} : zt_Met l yX_views wX_views rX_views (va_Pc [.ref (ad 0)] (zg_B dC dI cI cJ cB (zx_w ad cI cJ lev val pkd cst chs D N F k))) (zt_Qr (some (.int (nI N)))) 0 0 0 0 (fun _ => False) := by
  refine zt_ofW (cc := cX_views) (maxL := 1) (ret := (some .int)) (by decide) rfl ?_
  intro p e s m args below meth c s₁ B hml hout hv
  obtain ⟨rfl, hP, hK⟩ := hv
  have hx := B.exec
  have hb := B.bytes
  have hr := B.returns
  have hz : ∀ w ∈ zw0, w.before ([.ref (ad 0)] : List Value).toArray s = true := fun w h => atoms_spec (ws := wX_views) B.pre w (List.mem_cons_of_mem _ h)
  have hown : s.vm.findClass RX = some m.cls := findClass_of_methodNamed B.named
  have hlocks := B.notSynchronized
  have hl := lv_entry ([.ref (ad 0)]) (n := 1) (Nat.le_of_ble_eq_true rfl)
  rw [lg_entry_eq]
  generalize (lg_sl ([.ref (ad 0)]) ++ List.replicate (1 - (lg_sl ([.ref (ad 0)])).length) Slot.unset).toArray = ls at hl ⊢
  have hl : lv_has ls 1 [(0, .ref (ad 0))] := hl
  refine lv_aload_n hx hb dX_views_0 rfl (lv_at hl 0 rfl) ?_
  refine va_get (D := (dC, dI)) (ci := 0) (v := .int (nI N)) (C := RX) (T := TX) (N := 9) hx hb hz in_X hown hK hP 0 rfl rfl 6 (by decide) (hz _ kf_X_30) (fun _ h9 => h9) rfl dX_views_1 ?_
  exact zt_ri hx hb hr hlocks (fun t ht _ => ⟨rfl, ht⟩) (fun q h => by cases h) dX_views_4
end
section
/-! the chooser: readers that may throw: by program (wip/gen/class_checks.py) -/
set_option maxHeartbeats 4000000 in
set_option maxRecDepth 100000 in
theorem tX_checkView (l : Launch) {dC : Nat → ClassId} {dI : Nat → Nat → Nat} {cI cJ cB : ClassId} {ad : Nat → Nat} {lev val pkd : Nat → Int32} {cst : Nat → Int64} {chs : Nat → Int32} {D N F k : Nat} {p0 : Int32} (hst : l.stackTraces = false) (h5 : N ≤ 512) : zt_Met l yX_checkView wX_checkView rX_checkView (va_Pc [.ref (ad 0), .int p0] (zg_T3 dC dI cI cJ cB (zx_w ad cI cJ lev val pkd cst chs D N F k))) (zt_Qp (zb_in p0 N = true) none zE_A) 0 0 1 6 (fun _ => False) := by
  refine zt_ofW (cc := cX_checkView) (maxL := 2) (ret := none) (by decide) rfl ?_
  intro p e s m args below meth c s₁ B hml hout hv
  obtain ⟨rfl, hP, hK, hTS⟩ := hv
  have hx := B.exec
  have hb := B.bytes
  have hr := B.returns
  have hz : ∀ w ∈ zw0, w.before ([.ref (ad 0), .int p0] : List Value).toArray s = true := fun w h => atoms_spec (ws := wX_checkView) B.pre w (List.mem_cons_of_mem _ h)
  have hown : s.vm.findClass RX = some m.cls := findClass_of_methodNamed B.named
  have hlocks := B.notSynchronized
  have hl := lv_entry ([.ref (ad 0), .int p0]) (n := 2) (Nat.le_of_ble_eq_true rfl)
  rw [lg_entry_eq]
  generalize (lg_sl ([.ref (ad 0), .int p0]) ++ List.replicate (2 - (lg_sl ([.ref (ad 0), .int p0])).length) Slot.unset).toArray = ls at hl ⊢
  have hl : lv_has ls 2 [(0, .ref (ad 0)), (1, .int p0)] := hl
  have htr : e.platform.stackTraces = false := (show e.platform.stackTraces = l.stackTraces by rw [B.admits.platform]).trans hst
  refine lv_iload_n hx hb dX_checkView_0 rfl (lv_at hl 1 rfl) ?_
  refine lv_if_lt (tgt := 12) hx hb dX_checkView_1 (by decide) (fun c1 => ?_) (fun c1 => ?_)
  · exact zt_throwA (tx := "there is no such view") hx hb htr (hl.1.trans hml.symm) hown hz hTS (by decide +kernel) hout hlocks dX_checkView_12 dX_checkView_15 dX_checkView_16 dX_checkView_18 dX_checkView_21 (Nat.le_of_ble_eq_true rfl) (Nat.le_of_ble_eq_true rfl) (Nat.le_of_ble_eq_true rfl) (Nat.le_of_ble_eq_true rfl) (Nat.le_of_ble_eq_true rfl) (Nat.le_of_ble_eq_true rfl) (fun t x hTh hW => Or.inr ⟨zb_neg c1, x, rfl, hTh⟩)
  · obtain ⟨j, hj, rfl⟩ := nI_of c1
    refine lv_iload_n hx hb dX_checkView_4 rfl (lv_at hl 1 rfl) ?_
    refine lv_aload_n hx hb dX_checkView_5 rfl (lv_at hl 0 rfl) ?_
    refine va_get (D := (dC, dI)) (ci := 0) (v := .int (nI N)) (C := RX) (T := TX) (N := 9) hx hb hz in_X hown hK hP 0 rfl rfl 6 (by decide) (hz _ kf_X_30) (fun _ h9 => h9) rfl dX_checkView_6 ?_
    refine zj_lt (tgt := 22) hx hb dX_checkView_9 (by decide) (by omega) (by omega) (fun c9 => ?_) (fun c9 => ?_)
    · exact zt_rv hx hb hr hlocks (fun t ht _ => Or.inl ⟨zb_t c9 (by omega), rfl, ht⟩) (fun q h => by cases h) dX_checkView_22
    · exact zt_throwA (tx := "there is no such view") hx hb htr (hl.1.trans hml.symm) hown hz hTS (by decide +kernel) hout hlocks dX_checkView_12 dX_checkView_15 dX_checkView_16 dX_checkView_18 dX_checkView_21 (Nat.le_of_ble_eq_true rfl) (Nat.le_of_ble_eq_true rfl) (Nat.le_of_ble_eq_true rfl) (Nat.le_of_ble_eq_true rfl) (Nat.le_of_ble_eq_true rfl) (Nat.le_of_ble_eq_true rfl) (fun t x hTh hW => Or.inr ⟨zb_big c9 hj, x, rfl, hTh⟩)
set_option maxHeartbeats 4000000 in
set_option maxRecDepth 100000 in
theorem tX_checkDimension (l : Launch) {dC : Nat → ClassId} {dI : Nat → Nat → Nat} {cI cJ cB : ClassId} {ad : Nat → Nat} {lev val pkd : Nat → Int32} {cst : Nat → Int64} {chs : Nat → Int32} {D N F k : Nat} {p0 : Int32} (hst : l.stackTraces = false) (h5 : D ≤ 512) : zt_Met l yX_checkDimension wX_checkDimension rX_checkDimension (va_Pc [.ref (ad 0), .int p0] (zg_T3 dC dI cI cJ cB (zx_w ad cI cJ lev val pkd cst chs D N F k))) (zt_Qp (zb_in p0 D = true) none zE_A) 0 0 1 6 (fun _ => False) := by
  refine zt_ofW (cc := cX_checkDimension) (maxL := 2) (ret := none) (by decide) rfl ?_
  intro p e s m args below meth c s₁ B hml hout hv
  obtain ⟨rfl, hP, hK, hTS⟩ := hv
  have hx := B.exec
  have hb := B.bytes
  have hr := B.returns
  have hz : ∀ w ∈ zw0, w.before ([.ref (ad 0), .int p0] : List Value).toArray s = true := fun w h => atoms_spec (ws := wX_checkDimension) B.pre w (List.mem_cons_of_mem _ h)
  have hown : s.vm.findClass RX = some m.cls := findClass_of_methodNamed B.named
  have hlocks := B.notSynchronized
  have hl := lv_entry ([.ref (ad 0), .int p0]) (n := 2) (Nat.le_of_ble_eq_true rfl)
  rw [lg_entry_eq]
  generalize (lg_sl ([.ref (ad 0), .int p0]) ++ List.replicate (2 - (lg_sl ([.ref (ad 0), .int p0])).length) Slot.unset).toArray = ls at hl ⊢
  have hl : lv_has ls 2 [(0, .ref (ad 0)), (1, .int p0)] := hl
  have htr : e.platform.stackTraces = false := (show e.platform.stackTraces = l.stackTraces by rw [B.admits.platform]).trans hst
  refine lv_iload_n hx hb dX_checkDimension_0 rfl (lv_at hl 1 rfl) ?_
  refine lv_if_lt (tgt := 12) hx hb dX_checkDimension_1 (by decide) (fun c1 => ?_) (fun c1 => ?_)
  · exact zt_throwA (tx := "there is no such dimension") hx hb htr (hl.1.trans hml.symm) hown hz hTS (by decide +kernel) hout hlocks dX_checkDimension_12 dX_checkDimension_15 dX_checkDimension_16 dX_checkDimension_18 dX_checkDimension_21 (Nat.le_of_ble_eq_true rfl) (Nat.le_of_ble_eq_true rfl) (Nat.le_of_ble_eq_true rfl) (Nat.le_of_ble_eq_true rfl) (Nat.le_of_ble_eq_true rfl) (Nat.le_of_ble_eq_true rfl) (fun t x hTh hW => Or.inr ⟨zb_neg c1, x, rfl, hTh⟩)
  · obtain ⟨j, hj, rfl⟩ := nI_of c1
    refine lv_iload_n hx hb dX_checkDimension_4 rfl (lv_at hl 1 rfl) ?_
    refine lv_aload_n hx hb dX_checkDimension_5 rfl (lv_at hl 0 rfl) ?_
    refine va_get (D := (dC, dI)) (ci := 0) (v := .int (nI D)) (C := RX) (T := TX) (N := 9) hx hb hz in_X hown hK hP 0 rfl rfl 5 (by decide) (hz _ kf_X_26) (fun _ h9 => h9) rfl dX_checkDimension_6 ?_
    refine zj_lt (tgt := 22) hx hb dX_checkDimension_9 (by decide) (by omega) (by omega) (fun c9 => ?_) (fun c9 => ?_)
    · exact zt_rv hx hb hr hlocks (fun t ht _ => Or.inl ⟨zb_t c9 (by omega), rfl, ht⟩) (fun q h => by cases h) dX_checkDimension_22
    · exact zt_throwA (tx := "there is no such dimension") hx hb htr (hl.1.trans hml.symm) hown hz hTS (by decide +kernel) hout hlocks dX_checkDimension_12 dX_checkDimension_15 dX_checkDimension_16 dX_checkDimension_18 dX_checkDimension_21 (Nat.le_of_ble_eq_true rfl) (Nat.le_of_ble_eq_true rfl) (Nat.le_of_ble_eq_true rfl) (Nat.le_of_ble_eq_true rfl) (Nat.le_of_ble_eq_true rfl) (Nat.le_of_ble_eq_true rfl) (fun t x hTh hW => Or.inr ⟨zb_big c9 hj, x, rfl, hTh⟩)
set_option maxHeartbeats 4000000 in
set_option maxRecDepth 100000 in
theorem tX_checkRoomForChosen (l : Launch) {dC : Nat → ClassId} {dI : Nat → Nat → Nat} {cI cJ cB : ClassId} {ad : Nat → Nat} {lev val pkd : Nat → Int32} {cst : Nat → Int64} {chs : Nat → Int32} {D N F k : Nat} (hst : l.stackTraces = false) (h5 : k ≤ 16) : zt_Met l yX_checkRoomForChosen wX_checkRoomForChosen rX_checkRoomForChosen (va_Pc [.ref (ad 0)] (zg_T3 dC dI cI cJ cB (zx_w ad cI cJ lev val pkd cst chs D N F k))) (zt_Qp (k < 16) none zE_S) 0 0 1 6 (fun _ => False) := by
  refine zt_ofW (cc := cX_checkRoomForChosen) (maxL := 1) (ret := none) (by decide) rfl ?_
  intro p e s m args below meth c s₁ B hml hout hv
  obtain ⟨rfl, hP, hK, hTS⟩ := hv
  have hx := B.exec
  have hb := B.bytes
  have hr := B.returns
  have hz : ∀ w ∈ zw0, w.before ([.ref (ad 0)] : List Value).toArray s = true := fun w h => atoms_spec (ws := wX_checkRoomForChosen) B.pre w (List.mem_cons_of_mem _ h)
  have hown : s.vm.findClass RX = some m.cls := findClass_of_methodNamed B.named
  have hlocks := B.notSynchronized
  have hl := lv_entry ([.ref (ad 0)]) (n := 1) (Nat.le_of_ble_eq_true rfl)
  rw [lg_entry_eq]
  generalize (lg_sl ([.ref (ad 0)]) ++ List.replicate (1 - (lg_sl ([.ref (ad 0)])).length) Slot.unset).toArray = ls at hl ⊢
  have hl : lv_has ls 1 [(0, .ref (ad 0))] := hl
  have htr : e.platform.stackTraces = false := (show e.platform.stackTraces = l.stackTraces by rw [B.admits.platform]).trans hst
  refine lv_aload_n hx hb dX_checkRoomForChosen_0 rfl (lv_at hl 0 rfl) ?_
  refine va_get (D := (dC, dI)) (ci := 0) (v := .int (nI k)) (C := RX) (T := TX) (N := 9) hx hb hz in_X hown hK hP 0 rfl rfl 8 (by decide) (hz _ kf_X_36) (fun _ h9 => h9) rfl dX_checkRoomForChosen_1 ?_
  refine lv_bipush (v := nI 16) hx hb dX_checkRoomForChosen_4 (by decide) ?_
  refine zj_lt (tgt := 19) hx hb dX_checkRoomForChosen_6 (by decide) (by omega) (by omega) (fun c6 => ?_) (fun c6 => ?_)
  · exact zt_rv hx hb hr hlocks (fun t ht _ => Or.inl ⟨c6, rfl, ht⟩) (fun q h => by cases h) dX_checkRoomForChosen_19
  · exact zt_throwI (tx := "16 views are chosen") hx hb htr (hl.1.trans hml.symm) hown hz hTS (by decide +kernel) hout hlocks dX_checkRoomForChosen_9 dX_checkRoomForChosen_12 dX_checkRoomForChosen_13 dX_checkRoomForChosen_15 dX_checkRoomForChosen_18 (Nat.le_of_ble_eq_true rfl) (Nat.le_of_ble_eq_true rfl) (Nat.le_of_ble_eq_true rfl) (Nat.le_of_ble_eq_true rfl) (Nat.le_of_ble_eq_true rfl) (Nat.le_of_ble_eq_true rfl) (fun t x hTh hW => Or.inr ⟨by omega, x, rfl, hTh⟩)
set_option maxHeartbeats 4000000 in
set_option maxRecDepth 100000 in
theorem tX_digit (l : Launch) {dC : Nat → ClassId} {dI : Nat → Nat → Nat} {cI cJ cB : ClassId} {ad : Nat → Nat} {lev val pkd : Nat → Int32} {cst : Nat → Int64} {chs : Nat → Int32} {D N F k : Nat} {L V : Nat → Nat} {p0 p1 : Int32} (hst : l.stackTraces = false) (hR : zx_R D N F L V lev val pkd) : zt_Met l yX_digit wX_digit rX_digit (va_Pc [.ref (ad 0), .int p0, .int p1] (zg_T3 dC dI cI cJ cB (zx_w ad cI cJ lev val pkd cst chs D N F k))) (zt_Qp ((zb_in p0 N && zb_in p1 D) = true) (some (.int (nI (zq_dg L D p0.toNatClampNeg p1.toNatClampNeg)))) zE_A) 0 0 1 6 (fun _ => False) := by
  refine zt_ofW (cc := cX_digit) (maxL := 3) (ret := (some .int)) (by decide) rfl ?_
  intro p e s m args below meth c s₁ B hml hout hv
  obtain ⟨rfl, hP, hK, hTS⟩ := hv
  have hx := B.exec
  have hb := B.bytes
  have hr := B.returns
  have hz : ∀ w ∈ zw0, w.before ([.ref (ad 0), .int p0, .int p1] : List Value).toArray s = true := fun w h => atoms_spec (ws := wX_digit) B.pre w (List.mem_cons_of_mem _ h)
  have hown : s.vm.findClass RX = some m.cls := findClass_of_methodNamed B.named
  have hlocks := B.notSynchronized
  have hl := lv_entry ([.ref (ad 0), .int p0, .int p1]) (n := 3) (Nat.le_of_ble_eq_true rfl)
  rw [lg_entry_eq]
  generalize (lg_sl ([.ref (ad 0), .int p0, .int p1]) ++ List.replicate (3 - (lg_sl ([.ref (ad 0), .int p0, .int p1])).length) Slot.unset).toArray = ls at hl ⊢
  have hl : lv_has ls 3 [(0, .ref (ad 0)), (1, .int p0), (2, .int p1)] := hl
  have htr : e.platform.stackTraces = false := (show e.platform.stackTraces = l.stackTraces by rw [B.admits.platform]).trans hst
  obtain ⟨hD, hL, hN, hN5, hF, hVb, hlev, hval, hpk⟩ := hR
  have hL4 : ∀ j, j < D → L j ≤ 4 := fun j hj => (hL j hj).2
  refine lv_aload_n hx hb dX_digit_0 rfl (lv_at hl 0 rfl) ?_
  refine lv_iload_n hx hb dX_digit_1 rfl (lv_at hl 1 rfl) ?_
  refine zt_callP (zg_runT (rest := []) hx hb hml hown (tX_checkView l hst hN5) (wcX_71 hz (Nat.le_of_ble_eq_true rfl) (Nat.le_of_ble_eq_true rfl)) (hz _ ki_X_checkView) (hz _ ks_X_checkView) (hz _ kC_X_checkView) hP hK hTS rfl (q0 := 0) rfl rfl hl.1 rfl (Nat.le_of_ble_eq_true rfl) dX_digit_2 ⟨Nat.le_of_ble_eq_true rfl, Nat.le_of_ble_eq_true rfl⟩) hout hlocks (Nat.le_of_ble_eq_true rfl) (Nat.le_of_ble_eq_true rfl) (fun hno t x hTh hW => Or.inr ⟨fun q => hno (by simp at q; exact q.1), x, rfl, hTh⟩) (fun hok1 => ?_)
  refine W.eq (g2 := F0 m 5 ls []) rfl ?_
  refine lv_aload_n hx hb dX_digit_5 rfl (lv_at hl 0 rfl) ?_
  refine lv_iload_n hx hb dX_digit_6 rfl (lv_at hl 2 rfl) ?_
  refine zt_callP (zg_runT (rest := []) hx hb hml hown (tX_checkDimension l hst (by omega)) (wcX_60 hz (Nat.le_of_ble_eq_true rfl) (Nat.le_of_ble_eq_true rfl)) (hz _ ki_X_checkDimension) (hz _ ks_X_checkDimension) (hz _ kC_X_checkDimension) hP hK hTS rfl (q0 := 0) rfl rfl hl.1 rfl (Nat.le_of_ble_eq_true rfl) dX_digit_7 ⟨Nat.le_of_ble_eq_true rfl, Nat.le_of_ble_eq_true rfl⟩) hout hlocks (Nat.le_of_ble_eq_true rfl) (Nat.le_of_ble_eq_true rfl) (fun hno t x hTh hW => Or.inr ⟨fun q => hno (by simp at q; exact q.2), x, rfl, hTh⟩) (fun hok2 => ?_)
  refine W.eq (g2 := F0 m 10 ls []) rfl ?_
  obtain ⟨v, hv, rfl⟩ := zb_of hok1 (by omega)
  obtain ⟨d, hd, rfl⟩ := zb_of hok2 (by omega)
  refine lv_aload_n hx hb dX_digit_10 rfl (lv_at hl 0 rfl) ?_
  refine va_get (D := (dC, dI)) (ci := 0) (v := .ref (ad 3)) (C := RX) (T := TX) (N := 9) hx hb hz in_X hown hK hP 0 rfl rfl 2 (by decide) (hz _ kf_X_16) (fun _ h9 => h9) rfl dX_digit_11 ?_
  refine lv_iload_n hx hb dX_digit_14 rfl (lv_at hl 1 rfl) ?_
  refine zt_iald hx hb hK hP 3 0 rfl rfl (i := v) (by omega) (by decide) (v := (nI (zq_pk L D v))) (hpk v hv) dX_digit_15 ?_
  refine lv_iload_n hx hb dX_digit_16 rfl (lv_at hl 2 rfl) ?_
  refine zt_callRi (zs_run (rest := []) hx hb hml hown (tX_unpackDigit l hD hL4 hd) (wcX_74 hz (Nat.le_of_ble_eq_true rfl) (Nat.le_of_ble_eq_true rfl)) (hz _ kst_X_unpackDigit) (hz _ kC_X_unpackDigit) rfl hl.1 rfl (Nat.le_of_ble_eq_true rfl) dX_digit_17 ⟨Nat.le_of_ble_eq_true rfl, Nat.le_of_ble_eq_true rfl⟩) ?_
  exact zt_ri hx hb hr hlocks (fun t ht _ => Or.inl ⟨by rw [hok1, hok2]; rfl, by rw [nI_clamp (by omega), nI_clamp (by omega)], ht⟩) (fun q h => by cases h) dX_digit_20
set_option maxHeartbeats 4000000 in
set_option maxRecDepth 100000 in
theorem tX_isAbove (l : Launch) {dC : Nat → ClassId} {dI : Nat → Nat → Nat} {cI cJ cB : ClassId} {ad : Nat → Nat} {lev val pkd : Nat → Int32} {cst : Nat → Int64} {chs : Nat → Int32} {D N F k : Nat} {L V : Nat → Nat} {p0 p1 : Int32} (hst : l.stackTraces = false) (hR : zx_R D N F L V lev val pkd) : zt_Met l yX_isAbove wX_isAbove rX_isAbove (va_Pc [.ref (ad 0), .int p0, .int p1] (zg_T3 dC dI cI cJ cB (zx_w ad cI cJ lev val pkd cst chs D N F k))) (zt_Qp ((zb_in p0 N && zb_in p1 N) = true) (some (.int (if zq_ab L D p0.toNatClampNeg p1.toNatClampNeg = true then 1 else 0))) zE_A) 0 0 1 6 (fun _ => False) := by
  refine zt_ofW (cc := cX_isAbove) (maxL := 3) (ret := (some .boolean)) (by decide) rfl ?_
  intro p e s m args below meth c s₁ B hml hout hv
  obtain ⟨rfl, hP, hK, hTS⟩ := hv
  have hx := B.exec
  have hb := B.bytes
  have hr := B.returns
  have hz : ∀ w ∈ zw0, w.before ([.ref (ad 0), .int p0, .int p1] : List Value).toArray s = true := fun w h => atoms_spec (ws := wX_isAbove) B.pre w (List.mem_cons_of_mem _ h)
  have hown : s.vm.findClass RX = some m.cls := findClass_of_methodNamed B.named
  have hlocks := B.notSynchronized
  have hl := lv_entry ([.ref (ad 0), .int p0, .int p1]) (n := 3) (Nat.le_of_ble_eq_true rfl)
  rw [lg_entry_eq]
  generalize (lg_sl ([.ref (ad 0), .int p0, .int p1]) ++ List.replicate (3 - (lg_sl ([.ref (ad 0), .int p0, .int p1])).length) Slot.unset).toArray = ls at hl ⊢
  have hl : lv_has ls 3 [(0, .ref (ad 0)), (1, .int p0), (2, .int p1)] := hl
  have htr : e.platform.stackTraces = false := (show e.platform.stackTraces = l.stackTraces by rw [B.admits.platform]).trans hst
  obtain ⟨hD, hL, hN, hN5, hF, hVb, hlev, hval, hpk⟩ := hR
  have hL4 : ∀ j, j < D → L j ≤ 4 := fun j hj => (hL j hj).2
  refine lv_aload_n hx hb dX_isAbove_0 rfl (lv_at hl 0 rfl) ?_
  refine lv_iload_n hx hb dX_isAbove_1 rfl (lv_at hl 1 rfl) ?_
  refine zt_callP (zg_runT (rest := []) hx hb hml hown (tX_checkView l hst hN5) (wcX_71 hz (Nat.le_of_ble_eq_true rfl) (Nat.le_of_ble_eq_true rfl)) (hz _ ki_X_checkView) (hz _ ks_X_checkView) (hz _ kC_X_checkView) hP hK hTS rfl (q0 := 0) rfl rfl hl.1 rfl (Nat.le_of_ble_eq_true rfl) dX_isAbove_2 ⟨Nat.le_of_ble_eq_true rfl, Nat.le_of_ble_eq_true rfl⟩) hout hlocks (Nat.le_of_ble_eq_true rfl) (Nat.le_of_ble_eq_true rfl) (fun hno t x hTh hW => Or.inr ⟨fun q => hno (by simp at q; exact q.1), x, rfl, hTh⟩) (fun hok1 => ?_)
  refine W.eq (g2 := F0 m 5 ls []) rfl ?_
  refine lv_aload_n hx hb dX_isAbove_5 rfl (lv_at hl 0 rfl) ?_
  refine lv_iload_n hx hb dX_isAbove_6 rfl (lv_at hl 2 rfl) ?_
  refine zt_callP (zg_runT (rest := []) hx hb hml hown (tX_checkView l hst hN5) (wcX_71 hz (Nat.le_of_ble_eq_true rfl) (Nat.le_of_ble_eq_true rfl)) (hz _ ki_X_checkView) (hz _ ks_X_checkView) (hz _ kC_X_checkView) hP hK hTS rfl (q0 := 0) rfl rfl hl.1 rfl (Nat.le_of_ble_eq_true rfl) dX_isAbove_7 ⟨Nat.le_of_ble_eq_true rfl, Nat.le_of_ble_eq_true rfl⟩) hout hlocks (Nat.le_of_ble_eq_true rfl) (Nat.le_of_ble_eq_true rfl) (fun hno t x hTh hW => Or.inr ⟨fun q => hno (by simp at q; exact q.2), x, rfl, hTh⟩) (fun hok2 => ?_)
  refine W.eq (g2 := F0 m 10 ls []) rfl ?_
  obtain ⟨u, hu, rfl⟩ := zb_of hok1 (by omega)
  obtain ⟨v, hv, rfl⟩ := zb_of hok2 (by omega)
  refine lv_aload_n hx hb dX_isAbove_10 rfl (lv_at hl 0 rfl) ?_
  refine va_get (D := (dC, dI)) (ci := 0) (v := .ref (ad 3)) (C := RX) (T := TX) (N := 9) hx hb hz in_X hown hK hP 0 rfl rfl 2 (by decide) (hz _ kf_X_16) (fun _ h9 => h9) rfl dX_isAbove_11 ?_
  refine lv_iload_n hx hb dX_isAbove_14 rfl (lv_at hl 1 rfl) ?_
  refine zt_iald hx hb hK hP 3 0 rfl rfl (i := u) (by omega) (by decide) (v := (nI (zq_pk L D u))) (hpk u hu) dX_isAbove_15 ?_
  refine lv_aload_n hx hb dX_isAbove_16 rfl (lv_at hl 0 rfl) ?_
  refine va_get (D := (dC, dI)) (ci := 0) (v := .ref (ad 3)) (C := RX) (T := TX) (N := 9) hx hb hz in_X hown hK hP 0 rfl rfl 2 (by decide) (hz _ kf_X_16) (fun _ h9 => h9) rfl dX_isAbove_17 ?_
  refine lv_iload_n hx hb dX_isAbove_20 rfl (lv_at hl 2 rfl) ?_
  refine zt_iald hx hb hK hP 3 0 rfl rfl (i := v) (by omega) (by decide) (v := (nI (zq_pk L D v))) (hpk v hv) dX_isAbove_21 ?_
  refine zt_callRi (zs_run (rest := []) hx hb hml hown (tX_isAbovePacked l hD hL4) (wcX_78 hz (Nat.le_of_ble_eq_true rfl) (Nat.le_of_ble_eq_true rfl)) (hz _ kst_X_isAbovePacked) (hz _ kC_X_isAbovePacked) rfl hl.1 rfl (Nat.le_of_ble_eq_true rfl) dX_isAbove_22 ⟨Nat.le_of_ble_eq_true rfl, Nat.le_of_ble_eq_true rfl⟩) ?_
  exact zt_rz hx hb hr hlocks (by split <;> rfl) (fun t ht _ => Or.inl ⟨by rw [hok1, hok2]; rfl, by rw [nI_clamp (by omega), nI_clamp (by omega)], ht⟩) (fun q h => by cases h) dX_isAbove_25
set_option maxHeartbeats 4000000 in
set_option maxRecDepth 100000 in
theorem tX_told (l : Launch) {dC : Nat → ClassId} {dI : Nat → Nat → Nat} {cI cJ cB : ClassId} {ad : Nat → Nat} {lev val pkd : Nat → Int32} {cst : Nat → Int64} {chs : Nat → Int32} {D N F k : Nat} {L V : Nat → Nat} {p0 p1 : Int32} {cw : Nat → Nat} (hc : ∀ w, w < N → cst w = lN (cw w) ∧ cw w ≤ F) (hst : l.stackTraces = false) (hR : zx_R D N F L V lev val pkd) : zt_Met l yX_told wX_told rX_told (va_Pc [.ref (ad 0), .int p0, .int p1] (zg_T3 dC dI cI cJ cB (zx_w ad cI cJ lev val pkd cst chs D N F k))) (zt_Qp ((zb_in p0 N && zb_in p1 3) = true) (some (.long (lN (zq_told (zq_es L V D F) (zq_ab L D) cw N p0.toNatClampNeg p1.toNatClampNeg)))) zE_A) 0 0 1 6 (fun _ => False) := by
  refine zt_ofW (cc := cX_told) (maxL := 3) (ret := (some .long)) (by decide) rfl ?_
  intro p e s m args below meth c s₁ B hml hout hv
  obtain ⟨rfl, hP, hK, hTS⟩ := hv
  have hx := B.exec
  have hb := B.bytes
  have hr := B.returns
  have hz : ∀ w ∈ zw0, w.before ([.ref (ad 0), .int p0, .int p1] : List Value).toArray s = true := fun w h => atoms_spec (ws := wX_told) B.pre w (List.mem_cons_of_mem _ h)
  have hown : s.vm.findClass RX = some m.cls := findClass_of_methodNamed B.named
  have hlocks := B.notSynchronized
  have hl := lv_entry ([.ref (ad 0), .int p0, .int p1]) (n := 3) (Nat.le_of_ble_eq_true rfl)
  rw [lg_entry_eq]
  generalize (lg_sl ([.ref (ad 0), .int p0, .int p1]) ++ List.replicate (3 - (lg_sl ([.ref (ad 0), .int p0, .int p1])).length) Slot.unset).toArray = ls at hl ⊢
  have hl : lv_has ls 3 [(0, .ref (ad 0)), (1, .int p0), (2, .int p1)] := hl
  have htr : e.platform.stackTraces = false := (show e.platform.stackTraces = l.stackTraces by rw [B.admits.platform]).trans hst
  have hR9 := hR
  obtain ⟨hD, hL, hN, hN5, hF, hVb, hlev, hval, hpk⟩ := hR
  have hL4 : ∀ j, j < D → L j ≤ 4 := fun j hj => (hL j hj).2
  refine lv_aload_n hx hb dX_told_0 rfl (lv_at hl 0 rfl) ?_
  refine lv_iload_n hx hb dX_told_1 rfl (lv_at hl 1 rfl) ?_
  refine zt_callP (zg_runT (rest := []) hx hb hml hown (tX_checkView l hst hN5) (wcX_71 hz (Nat.le_of_ble_eq_true rfl) (Nat.le_of_ble_eq_true rfl)) (hz _ ki_X_checkView) (hz _ ks_X_checkView) (hz _ kC_X_checkView) hP hK hTS rfl (q0 := 0) rfl rfl hl.1 rfl (Nat.le_of_ble_eq_true rfl) dX_told_2 ⟨Nat.le_of_ble_eq_true rfl, Nat.le_of_ble_eq_true rfl⟩) hout hlocks (Nat.le_of_ble_eq_true rfl) (Nat.le_of_ble_eq_true rfl) (fun hno t x hTh hW => Or.inr ⟨fun q => hno (by simp at q; exact q.1), x, rfl, hTh⟩) (fun hok1 => ?_)
  refine W.eq (g2 := F0 m 5 ls []) rfl ?_
  obtain ⟨v, hv, rfl⟩ := zb_of hok1 (by omega)
  refine lv_iload_n hx hb dX_told_5 rfl (lv_at hl 2 rfl) ?_
  rcases pk_ix p1 (n := 3) (by decide) with hp | hp | ⟨j, hj, rfl⟩
  · refine lv_tableOut (tgt := 51) hx hb dX_told_6 (Or.inl (Int32.lt_iff_toInt_lt.mp hp)) (by decide) ?_
    exact zt_throwA (tx := "what is not 0 .. 2") hx hb htr (hl.1.trans hml.symm) hown hz hTS (by decide +kernel) hout hlocks dX_told_51 dX_told_54 dX_told_55 dX_told_57 dX_told_60 (Nat.le_of_ble_eq_true rfl) (Nat.le_of_ble_eq_true rfl) (Nat.le_of_ble_eq_true rfl) (Nat.le_of_ble_eq_true rfl) (Nat.le_of_ble_eq_true rfl) (Nat.le_of_ble_eq_true rfl) (fun t x hTh hW => Or.inr ⟨fun q => (zb_neg hp) (by simp at q; exact q.2), x, rfl, hTh⟩)
  · refine lv_tableOut (tgt := 51) hx hb dX_told_6 (Or.inr (by have h9 := Int32.le_iff_toInt_le.mp hp; rw [nI_toInt (by decide)] at h9; omega)) (by decide) ?_
    exact zt_throwA (tx := "what is not 0 .. 2") hx hb htr (hl.1.trans hml.symm) hown hz hTS (by decide +kernel) hout hlocks dX_told_51 dX_told_54 dX_told_55 dX_told_57 dX_told_60 (Nat.le_of_ble_eq_true rfl) (Nat.le_of_ble_eq_true rfl) (Nat.le_of_ble_eq_true rfl) (Nat.le_of_ble_eq_true rfl) (Nat.le_of_ble_eq_true rfl) (Nat.le_of_ble_eq_true rfl) (fun t x hTh hW => Or.inr ⟨fun q => (zb_bigI hp (by decide)) (by simp at q; exact q.2), x, rfl, hTh⟩)
  · have hr9 : zb_in (nI j) 3 = true := zb_t hj (by decide)
    rcases (show j = 0 ∨ j = 1 ∨ j = 2 by omega) with rfl | rfl | rfl
    · refine lv_tableIn (off := 26) (tgt := 32) hx hb dX_told_6 (by decide) (by decide) (by decide) (by decide) ?_
      refine lv_aload_n hx hb dX_told_32 rfl (lv_at hl 0 rfl) ?_
      refine lv_iload_n hx hb dX_told_33 rfl (lv_at hl 1 rfl) ?_
      refine zt_callRl (zg_run (rest := []) hx hb hml hown (tX_estimateOf l hR9 hv) (wcX_82 hz (Nat.le_of_ble_eq_true rfl) (Nat.le_of_ble_eq_true rfl)) (hz _ ki_X_estimateOf) (hz _ ks_X_estimateOf) (hz _ kC_X_estimateOf) hP hK rfl (q0 := 0) rfl rfl hl.1 rfl (Nat.le_of_ble_eq_true rfl) dX_told_34 ⟨Nat.le_of_ble_eq_true rfl, Nat.le_of_ble_eq_true rfl⟩) ?_
      exact zt_rl hx hb hr hlocks (fun t ht _ => Or.inl ⟨by rw [hok1, hr9]; rfl, by rw [nI_clamp (by omega), nI_clamp (by omega)]; rfl, ht⟩) (fun q h => by cases h) dX_told_37
    · refine lv_tableIn (off := 32) (tgt := 38) hx hb dX_told_6 (by decide) (by decide) (by decide) (by decide) ?_
      refine lv_aload_n hx hb dX_told_38 rfl (lv_at hl 0 rfl) ?_
      refine va_get (D := (dC, dI)) (ci := 0) (v := .ref (ad 4)) (C := RX) (T := TX) (N := 9) hx hb hz in_X hown hK hP 0 rfl rfl 3 (by decide) (hz _ kf_X_19) (fun _ h9 => h9) rfl dX_told_39 ?_
      refine lv_iload_n hx hb dX_told_42 rfl (lv_at hl 1 rfl) ?_
      refine zt_lald hx hb hK hP 4 1 rfl rfl (i := v) (by omega) (by decide) (v := (lN (cw v))) ((hc v hv).1) dX_told_43 ?_
      exact zt_rl hx hb hr hlocks (fun t ht _ => Or.inl ⟨by rw [hok1, hr9]; rfl, by rw [nI_clamp (by omega), nI_clamp (by omega)]; rfl, ht⟩) (fun q h => by cases h) dX_told_44
    · refine lv_tableIn (off := 39) (tgt := 45) hx hb dX_told_6 (by decide) (by decide) (by decide) (by decide) ?_
      refine lv_aload_n hx hb dX_told_45 rfl (lv_at hl 0 rfl) ?_
      refine lv_iload_n hx hb dX_told_46 rfl (lv_at hl 1 rfl) ?_
      refine zt_callRl (zg_run (rest := []) hx hb hml hown (tX_benefitOf l hc hR9 hv) (wcX_86 hz (Nat.le_of_ble_eq_true rfl) (Nat.le_of_ble_eq_true rfl)) (hz _ ki_X_benefitOf) (hz _ ks_X_benefitOf) (hz _ kC_X_benefitOf) hP hK rfl (q0 := 0) rfl rfl hl.1 rfl (Nat.le_of_ble_eq_true rfl) dX_told_47 ⟨Nat.le_of_ble_eq_true rfl, Nat.le_of_ble_eq_true rfl⟩) ?_
      exact zt_rl hx hb hr hlocks (fun t ht _ => Or.inl ⟨by rw [hok1, hr9]; rfl, by rw [nI_clamp (by omega), nI_clamp (by omega)]; rfl, ht⟩) (fun q h => by cases h) dX_told_50
set_option maxHeartbeats 4000000 in
set_option maxRecDepth 100000 in
theorem tX_chosen (l : Launch) {dC : Nat → ClassId} {dI : Nat → Nat → Nat} {cI cJ cB : ClassId} {ad : Nat → Nat} {lev val pkd : Nat → Int32} {cst : Nat → Int64} {chs : Nat → Int32} {D N F k : Nat} {S : Nat → Nat} {p0 : Int32} (hst : l.stackTraces = false) (h5 : k ≤ 16) (hs : ∀ i, i < k → chs i = nI (S i)) : zt_Met l yX_chosen wX_chosen rX_chosen (va_Pc [.ref (ad 0), .int p0] (zg_T3 dC dI cI cJ cB (zx_w ad cI cJ lev val pkd cst chs D N F k))) (zt_Qp (zb_in p0 k = true) (some (.int (nI (S p0.toNatClampNeg)))) zE_A) 0 0 1 6 (fun _ => False) := by
  refine zt_ofW (cc := cX_chosen) (maxL := 2) (ret := (some .int)) (by decide) rfl ?_
  intro p e s m args below meth c s₁ B hml hout hv
  obtain ⟨rfl, hP, hK, hTS⟩ := hv
  have hx := B.exec
  have hb := B.bytes
  have hr := B.returns
  have hz : ∀ w ∈ zw0, w.before ([.ref (ad 0), .int p0] : List Value).toArray s = true := fun w h => atoms_spec (ws := wX_chosen) B.pre w (List.mem_cons_of_mem _ h)
  have hown : s.vm.findClass RX = some m.cls := findClass_of_methodNamed B.named
  have hlocks := B.notSynchronized
  have hl := lv_entry ([.ref (ad 0), .int p0]) (n := 2) (Nat.le_of_ble_eq_true rfl)
  rw [lg_entry_eq]
  generalize (lg_sl ([.ref (ad 0), .int p0]) ++ List.replicate (2 - (lg_sl ([.ref (ad 0), .int p0])).length) Slot.unset).toArray = ls at hl ⊢
  have hl : lv_has ls 2 [(0, .ref (ad 0)), (1, .int p0)] := hl
  have htr : e.platform.stackTraces = false := (show e.platform.stackTraces = l.stackTraces by rw [B.admits.platform]).trans hst
  refine lv_iload_n hx hb dX_chosen_0 rfl (lv_at hl 1 rfl) ?_
  refine lv_if_lt (tgt := 12) hx hb dX_chosen_1 (by decide) (fun c1 => ?_) (fun c1 => ?_)
  · exact zt_throwA (tx := "there is no such chosen view") hx hb htr (hl.1.trans hml.symm) hown hz hTS (by decide +kernel) hout hlocks dX_chosen_12 dX_chosen_15 dX_chosen_16 dX_chosen_18 dX_chosen_21 (Nat.le_of_ble_eq_true rfl) (Nat.le_of_ble_eq_true rfl) (Nat.le_of_ble_eq_true rfl) (Nat.le_of_ble_eq_true rfl) (Nat.le_of_ble_eq_true rfl) (Nat.le_of_ble_eq_true rfl) (fun t x hTh hW => Or.inr ⟨zb_neg c1, x, rfl, hTh⟩)
  · obtain ⟨j, hj, rfl⟩ := nI_of c1
    refine lv_iload_n hx hb dX_chosen_4 rfl (lv_at hl 1 rfl) ?_
    refine lv_aload_n hx hb dX_chosen_5 rfl (lv_at hl 0 rfl) ?_
    refine va_get (D := (dC, dI)) (ci := 0) (v := .int (nI k)) (C := RX) (T := TX) (N := 9) hx hb hz in_X hown hK hP 0 rfl rfl 8 (by decide) (hz _ kf_X_36) (fun _ h9 => h9) rfl dX_chosen_6 ?_
    refine zj_lt (tgt := 22) hx hb dX_chosen_9 (by decide) (by omega) (by omega) (fun c9 => ?_) (fun c9 => ?_)
    · refine lv_aload_n hx hb dX_chosen_22 rfl (lv_at hl 0 rfl) ?_
      refine va_get (D := (dC, dI)) (ci := 0) (v := .ref (ad 5)) (C := RX) (T := TX) (N := 9) hx hb hz in_X hown hK hP 0 rfl rfl 4 (by decide) (hz _ kf_X_23) (fun _ h9 => h9) rfl dX_chosen_23 ?_
      refine lv_iload_n hx hb dX_chosen_26 rfl (lv_at hl 1 rfl) ?_
      refine zt_iald hx hb hK hP 5 0 rfl rfl (i := j) (by omega) (by decide) (v := (nI (S j))) (hs j c9) dX_chosen_27 ?_
      exact zt_ri hx hb hr hlocks (fun t ht _ => Or.inl ⟨zb_t c9 (by omega), by rw [nI_clamp hj], ht⟩) (fun q h => by cases h) dX_chosen_28
    · exact zt_throwA (tx := "there is no such chosen view") hx hb htr (hl.1.trans hml.symm) hown hz hTS (by decide +kernel) hout hlocks dX_chosen_12 dX_chosen_15 dX_chosen_16 dX_chosen_18 dX_chosen_21 (Nat.le_of_ble_eq_true rfl) (Nat.le_of_ble_eq_true rfl) (Nat.le_of_ble_eq_true rfl) (Nat.le_of_ble_eq_true rfl) (Nat.le_of_ble_eq_true rfl) (Nat.le_of_ble_eq_true rfl) (fun t x hTh hW => Or.inr ⟨zb_big c9 hj, x, rfl, hTh⟩)
end
section
/-! the chooser: its own writers: by program (wip/gen/class_writes.py) -/
set_option maxHeartbeats 4000000 in
set_option maxRecDepth 100000 in
/-- all places of the costs -/
theorem tA_fill (l : Launch) {dC : Nat → ClassId} {dI : Nat → Nat → Nat} {cI cJ cB : ClassId} {ad : Nat → Nat} {lev val pkd : Nat → Int32} {cst : Nat → Int64} {chs : Nat → Int32} {D N F k : Nat} {x sz : Nat} (had : zg_ap ad 6) : zt_Met l yA_fill wA_fill rA_fill (va_Pc [.ref (ad 4), .long (lN x)] (zg_C dC dI cI cJ cB (zx_w ad cI cJ lev val pkd cst chs D N F k) sz)) (zg_Q dC dI (fun _ => none) (fun f : Nat → Int64 => ∀ j, j < 512 → f j = lN x) (fun f => zx_w ad cI cJ lev val pkd f chs D N F k) (zg_A ad 6 sz)) 0 0 0 0 (zg_A ad 6 sz) := by
  refine zt_ofW (cc := cA_fill) (maxL := 5) (ret := none) (by decide) rfl ?_
  intro p e s m args below meth c s₁ B hml hout hv
  obtain ⟨rfl, hsz, hP, hK⟩ := hv
  have hx := B.exec
  have hb := B.bytes
  have hr := B.returns
  have hz : ∀ w ∈ zw0, w.before ([.ref (ad 4), .long (lN x)] : List Value).toArray s = true := fun w h => atoms_spec (ws := wA_fill) B.pre w (List.mem_cons_of_mem _ h)
  have hown : s.vm.findClass RA = some m.cls := findClass_of_methodNamed B.named
  have hlocks := B.notSynchronized
  subst hsz
  have hS : va_S (zg_A ad 6 s.heap.size) s.heap s.heap [] := va_S.rf
  have hl := lv_entry ([.ref (ad 4), .long (lN x)]) (n := 5) (Nat.le_of_ble_eq_true rfl)
  rw [lg_entry_eq]
  generalize (lg_sl ([.ref (ad 4), .long (lN x)]) ++ List.replicate (5 - (lg_sl ([.ref (ad 4), .long (lN x)])).length) Slot.unset).toArray = ls at hl ⊢
  have hl : lv_has ls 5 [(0, .ref (ad 4)), (1, .long (lN x))] := hl
  refine lv_iconst (v := nI 0) hx hb dA_fill_0 (by decide) ?_
  refine lv_istore_n (lv' := [(3, .int (nI 0)), (0, .ref (ad 4)), (1, .long (lN x))]) hx hb dA_fill_1 rfl hl (by decide) rfl (fun ls hl => ?_)
  refine lv_aload_n hx hb dA_fill_2 rfl (lv_at hl 1 rfl) ?_
  refine va_alen hx hb hK hP 4 1 rfl rfl (v := nI 512) rfl dA_fill_3 ?_
  refine lv_istore (lv' := [(4, .int (nI 512)), (3, .int (nI 0)), (0, .ref (ad 4)), (1, .long (lN x))]) hx hb dA_fill_4 hl (by decide) rfl (fun ls hl => ?_)
  have loop : ∀ (n i : Nat), i + n = 512 → ∀ (f : Nat → Int64) (H : Heap) (locs : List Loc), (∀ j, j < i → f j = lN x) → va_P (dC, dI) zcl (zx_w ad cI cJ lev val pkd f chs D N F k) H → va_S (zg_A ad 6 s.heap.size) s.heap H locs → ∀ ls : Array Slot, lv_has ls 5 [(0, .ref (ad 4)), (1, .long (lN x)), (3, .int (nI i)), (4, .int (nI 512))] → W p l e (headSpec wA_fill rA_fill).room s m ([.ref (ad 4), .long (lN x)] : List Value).toArray below meth c H locs 0 0 (zt_MQ below (zg_Q dC dI (fun _ => none) (fun f : Nat → Int64 => ∀ j, j < 512 → f j = lN x) (fun f => zx_w ad cI cJ lev val pkd f chs D N F k) (zg_A ad 6 s.heap.size)) ([.ref (ad 4), .long (lN x)] : List Value).toArray s 0 0 0 0 (zg_A ad 6 s.heap.size)) (F0 m 6 ls []) := by
    intro n
    induction n with
    | zero =>
      intro i hi f H locs hf hP hS ls hl
      refine lv_iload_n hx hb dA_fill_6 rfl (lv_at hl 2 rfl) ?_
      refine lv_iload hx hb dA_fill_7 (lv_at hl 3 rfl) ?_
      refine zj_ge (tgt := 22) hx hb dA_fill_9 (by decide) (by omega) (by omega) (fun _ => ?_) (fun c9 => absurd c9 (by omega))
      exact zt_rv hx hb hr hlocks (fun t ht _ => ⟨f, rfl, fun j hj => hf j (by omega), by rw [ht]; exact hP, hS.F ht⟩) (hS.2.2) dA_fill_22
    | succ n ih =>
      intro i hi f H locs hf hP hS ls hl
      refine lv_iload_n hx hb dA_fill_6 rfl (lv_at hl 2 rfl) ?_
      refine lv_iload hx hb dA_fill_7 (lv_at hl 3 rfl) ?_
      refine zj_ge (tgt := 22) hx hb dA_fill_9 (by decide) (by omega) (by omega) (fun c9 => absurd c9 (by omega)) (fun _ => ?_)
      refine lv_aload_n hx hb dA_fill_12 rfl (lv_at hl 0 rfl) ?_
      refine lv_iload_n hx hb dA_fill_13 rfl (lv_at hl 2 rfl) ?_
      refine lv_lload_n hx hb dA_fill_14 rfl (lv_at hl 1 rfl) ?_
      refine zt_last hx hb hK hP (zx_D had) hS 4 1 rfl rfl (i := i) (by omega) (by decide) dA_fill_15 (fun H locs hP _ hS => ?_)
      have hP : va_P (dC, dI) zcl (zx_w ad cI cJ lev val pkd (vp_updL f i (lN x)) chs D N F k) H := hP
      refine lv_iinc (v := nI (i + 1)) (lv' := [(3, .int (nI (i + 1))), (0, .ref (ad 4)), (1, .long (lN x)), (4, .int (nI 512))]) hx hb dA_fill_16 hl (k := 2) rfl (nI_1 _) (by decide) rfl (fun ls hl => ?_)
      refine lv_goto (tgt := 6) hx hb dA_fill_19 (by decide) ?_
      exact ih (i + 1) (by omega) _ H locs (fun j hj => by
        by_cases e : j = i
        · rw [e, pk_uLs]
        · rw [pk_uLn e]; exact hf j (by omega)) hP hS ls (lv_sub hl [1, 2, 0, 3] rfl)
  exact loop 512 0 (by decide) cst s.heap [] (fun j hj => absurd hj (Nat.not_lt_zero j)) hP hS ls (lv_sub hl [2, 3, 1, 0] rfl)
set_option maxHeartbeats 4000000 in
set_option maxRecDepth 100000 in
/-- nothing is chosen -/
theorem tX_forgetChosen (l : Launch) {dC : Nat → ClassId} {dI : Nat → Nat → Nat} {cI cJ cB : ClassId} {ad : Nat → Nat} {lev val pkd : Nat → Int32} {cst : Nat → Int64} {chs : Nat → Int32} {D N F k : Nat} {sz : Nat} (had : zg_ap ad 6) (hF : F < 2 ^ 31) : zt_Met l yX_forgetChosen wX_forgetChosen rX_forgetChosen (va_Pc [.ref (ad 0)] (zg_C dC dI cI cJ cB (zx_w ad cI cJ lev val pkd cst chs D N F k) sz)) (zg_Q dC dI (fun _ => none) (fun f : Nat → Int64 => ∀ j, j < 512 → f j = lN F) (fun f => zx_w ad cI cJ lev val pkd f chs D N F 0) (zg_A ad 6 sz)) 0 0 0 0 (zg_A ad 6 sz) := by
  refine zt_ofW (cc := cX_forgetChosen) (maxL := 1) (ret := none) (by decide) rfl ?_
  intro p e s m args below meth c s₁ B hml hout hv
  obtain ⟨rfl, hsz, hP, hK⟩ := hv
  have hx := B.exec
  have hb := B.bytes
  have hr := B.returns
  have hz : ∀ w ∈ zw0, w.before ([.ref (ad 0)] : List Value).toArray s = true := fun w h => atoms_spec (ws := wX_forgetChosen) B.pre w (List.mem_cons_of_mem _ h)
  have hown : s.vm.findClass RX = some m.cls := findClass_of_methodNamed B.named
  have hlocks := B.notSynchronized
  subst hsz
  have hS : va_S (zg_A ad 6 s.heap.size) s.heap s.heap [] := va_S.rf
  have hl := lv_entry ([.ref (ad 0)]) (n := 1) (Nat.le_of_ble_eq_true rfl)
  rw [lg_entry_eq]
  generalize (lg_sl ([.ref (ad 0)]) ++ List.replicate (1 - (lg_sl ([.ref (ad 0)])).length) Slot.unset).toArray = ls at hl ⊢
  have hl : lv_has ls 1 [(0, .ref (ad 0))] := hl
  refine lv_aload_n hx hb dX_forgetChosen_0 rfl (lv_at hl 0 rfl) ?_
  refine lv_iconst (v := nI 0) hx hb dX_forgetChosen_1 (by decide) ?_
  refine va_put (D := (dC, dI)) (ci := 0) (v := .int (nI 0)) (ty := .int) (C := RX) (T := TX) (N := 9) hx hb hz in_X tyX tyX_ok nmX hown hK hP (zx_D had) hS 0 rfl rfl 8 (by decide) (hz _ kf_X_36) (fun _ h9 => h9) rfl (by decide +kernel) rfl rfl (Nat.le_of_ble_eq_true rfl) dX_forgetChosen_2 (fun H locs hP _ hS => ?_)
  have hP : va_P (dC, dI) zcl (zx_w ad cI cJ lev val pkd cst chs D N F 0) H := hP
  refine lv_aload_n hx hb dX_forgetChosen_5 rfl (lv_at hl 0 rfl) ?_
  refine va_get (D := (dC, dI)) (ci := 0) (v := .ref (ad 4)) (C := RX) (T := TX) (N := 9) hx hb hz in_X hown hK hP 0 rfl rfl 3 (by decide) (hz _ kf_X_19) (fun _ h9 => h9) rfl dX_forgetChosen_6 ?_
  refine lv_aload_n hx hb dX_forgetChosen_9 rfl (lv_at hl 0 rfl) ?_
  refine va_get (D := (dC, dI)) (ci := 0) (v := .int (nI F)) (C := RX) (T := TX) (N := 9) hx hb hz in_X hown hK hP 0 rfl rfl 7 (by decide) (hz _ kf_X_33) (fun _ h9 => h9) rfl dX_forgetChosen_10 ?_
  refine lv_i2l (v := lN F) hx hb dX_forgetChosen_13 (nI_l (by omega)) ?_
  refine zg_callW (zg_runSC (rest := []) hx hb hml hown (tA_fill l (x := F) (sz := H.size) had) (wcX_111 hz (Nat.le_of_ble_eq_true rfl) (Nat.le_of_ble_eq_true rfl)) (hz _ kst_A_fill) (hz _ kC_A_fill) hP hK rfl hl.1 rfl (Nat.le_of_ble_eq_true rfl) dX_forgetChosen_14 ⟨Nat.le_of_ble_eq_true rfl, Nat.le_of_ble_eq_true rfl⟩) hS (fun q h => zg_A_up hS.1 h) (fun q h => zg_A_up hS.1 h) (fun f H1 locs1 hf hP hz9 hk9 hS => ?_)
  generalize H1 = H at hP hS hz9 hk9 ⊢
  generalize locs1 = locs at hS ⊢
  refine W.eq (g2 := F0 m 17 ls []) rfl ?_
  exact zt_rv hx hb hr hlocks (fun t ht _ => ⟨f, rfl, hf, by rw [ht]; exact hP, hS.F ht⟩) (hS.2.2) dX_forgetChosen_17
set_option maxHeartbeats 4000000 in
set_option maxRecDepth 100000 in
/-- each view becomes n + 1 -/
theorem tX_splitViews (l : Launch) {dC : Nat → ClassId} {dI : Nat → Nat → Nat} {cI cJ cB : ClassId} {ad : Nat → Nat} {lev val pkd : Nat → Int32} {cst : Nat → Int64} {chs : Nat → Int32} {D N F k : Nat} {L : Nat → Nat} {n sz : Nat} (had : zg_ap ad 6) (hD : D < 8) (hL : ∀ j, j < D → L j ≤ 4) (hn : n ≤ 4) (hN0 : 0 < N) (hN : N * (n + 1) ≤ 512) (hpk : ∀ w, w < N → pkd w = nI (zq_pk L D w)) : zt_Met l yX_splitViews wX_splitViews rX_splitViews (va_Pc [.ref (ad 0), .int (nI D), .int (nI (n + 1))] (zg_C dC dI cI cJ cB (zx_w ad cI cJ lev val pkd cst chs D N F k) sz)) (zg_Q dC dI (fun _ => none) (fun f : Nat → Int32 => ∀ w, w < N * (n + 1) → f w = nI (zq_pk (zq_up L D n) (D + 1) w)) (fun f => zx_w ad cI cJ lev val f cst chs D (N * (n + 1)) F k) (zg_A ad 6 sz)) 0 0 0 0 (zg_A ad 6 sz) := by
  refine zt_ofW (cc := cX_splitViews) (maxL := 6) (ret := none) (by decide) rfl ?_
  intro p e s m args below meth c s₁ B hml hout hv
  obtain ⟨rfl, hsz, hP, hK⟩ := hv
  have hx := B.exec
  have hb := B.bytes
  have hr := B.returns
  have hz : ∀ w ∈ zw0, w.before ([.ref (ad 0), .int (nI D), .int (nI (n + 1))] : List Value).toArray s = true := fun w h => atoms_spec (ws := wX_splitViews) B.pre w (List.mem_cons_of_mem _ h)
  have hown : s.vm.findClass RX = some m.cls := findClass_of_methodNamed B.named
  have hlocks := B.notSynchronized
  subst hsz
  have hS : va_S (zg_A ad 6 s.heap.size) s.heap s.heap [] := va_S.rf
  have hl := lv_entry ([.ref (ad 0), .int (nI D), .int (nI (n + 1))]) (n := 6) (Nat.le_of_ble_eq_true rfl)
  rw [lg_entry_eq]
  generalize (lg_sl ([.ref (ad 0), .int (nI D), .int (nI (n + 1))]) ++ List.replicate (6 - (lg_sl ([.ref (ad 0), .int (nI D), .int (nI (n + 1))])).length) Slot.unset).toArray = ls at hl ⊢
  have hl : lv_has ls 6 [(0, .ref (ad 0)), (1, .int (nI D)), (2, .int (nI (n + 1)))] := hl
  have hN5 : N ≤ 512 := Nat.le_trans (Nat.le_mul_of_pos_right N (Nat.succ_pos n)) hN
  refine lv_aload_n hx hb dX_splitViews_0 rfl (lv_at hl 0 rfl) ?_
  refine va_get (D := (dC, dI)) (ci := 0) (v := .int (nI N)) (C := RX) (T := TX) (N := 9) hx hb hz in_X hown hK hP 0 rfl rfl 6 (by decide) (hz _ kf_X_30) (fun _ h9 => h9) rfl dX_splitViews_1 ?_
  refine lv_iconst (v := nI 1) hx hb dX_splitViews_4 (by decide) ?_
  refine lv_isub hx hb dX_splitViews_5 ?_
  refine zt_ti (y := nI N - 1) rfl ?_
  refine lv_istore_n (lv' := [(3, .int (nI N - 1)), (0, .ref (ad 0)), (1, .int (nI D)), (2, .int (nI (n + 1)))]) hx hb dX_splitViews_6 rfl hl (by decide) rfl (fun ls hl => ?_)
  have outer : ∀ (c0 : Nat), c0 ≤ N → ∀ (f : Nat → Int32) (H : Heap) (locs : List Loc), (∀ w, w < c0 → f w = nI (zq_pk L D w)) → (∀ w, c0 * (n + 1) ≤ w → w < N * (n + 1) → f w = nI (zq_pk (zq_up L D n) (D + 1) w)) → va_P (dC, dI) zcl (zx_w ad cI cJ lev val f cst chs D N F k) H → va_S (zg_A ad 6 s.heap.size) s.heap H locs → ∀ ls : Array Slot, lv_has ls 6 [(0, .ref (ad 0)), (1, .int (nI D)), (2, .int (nI (n + 1))), (3, .int (nI c0 - 1))] → W p l e (headSpec wX_splitViews rX_splitViews).room s m ([.ref (ad 0), .int (nI D), .int (nI (n + 1))] : List Value).toArray below meth c H locs 0 0 (zt_MQ below (zg_Q dC dI (fun _ => none) (fun f : Nat → Int32 => ∀ w, w < N * (n + 1) → f w = nI (zq_pk (zq_up L D n) (D + 1) w)) (fun f => zx_w ad cI cJ lev val f cst chs D (N * (n + 1)) F k) (zg_A ad 6 s.heap.size)) ([.ref (ad 0), .int (nI D), .int (nI (n + 1))] : List Value).toArray s 0 0 0 0 (zg_A ad 6 s.heap.size)) (F0 m 7 ls []) := by
    intro c0
    induction c0 with
    | zero =>
      intro hc f H locs hf1 hf2 hP hS ls hl
      refine lv_iload_n hx hb dX_splitViews_7 rfl (lv_at hl 3 rfl) ?_
      refine lv_if_lt (tgt := 60) hx hb dX_splitViews_8 (by decide) (fun _ => ?_) (fun c8 => absurd c8 (by decide))
      refine lv_aload_n hx hb dX_splitViews_60 rfl (lv_at hl 0 rfl) ?_
      refine lv_aload_n hx hb dX_splitViews_61 rfl (lv_at hl 0 rfl) ?_
      refine va_get (D := (dC, dI)) (ci := 0) (v := .int (nI N)) (C := RX) (T := TX) (N := 9) hx hb hz in_X hown hK hP 0 rfl rfl 6 (by decide) (hz _ kf_X_30) (fun _ h9 => h9) rfl dX_splitViews_62 ?_
      refine lv_iload_n hx hb dX_splitViews_65 rfl (lv_at hl 2 rfl) ?_
      refine lv_imul hx hb dX_splitViews_66 ?_
      refine zt_ti (pk_mul _ _) ?_
      refine va_put (D := (dC, dI)) (ci := 0) (v := .int (nI (N * (n + 1)))) (ty := .int) (C := RX) (T := TX) (N := 9) hx hb hz in_X tyX tyX_ok nmX hown hK hP (zx_D had) hS 0 rfl rfl 6 (by decide) (hz _ kf_X_30) (fun _ h9 => h9) rfl (by decide +kernel) rfl rfl (Nat.le_of_ble_eq_true rfl) dX_splitViews_67 (fun H locs hP _ hS => ?_)
      have hP : va_P (dC, dI) zcl (zx_w ad cI cJ lev val f cst chs D (N * (n + 1)) F k) H := hP
      exact zt_rv hx hb hr hlocks (fun t ht _ => ⟨f, rfl, fun w hw => hf2 w (by omega) hw, by rw [ht]; exact hP, hS.F ht⟩) (hS.2.2) dX_splitViews_70
    | succ c0 ih =>
      intro hc f H locs hf1 hf2 hP hS ls hl
      rw [nI_pred] at hl
      have hsm : (c0 + 1) * (n + 1) = c0 * (n + 1) + (n + 1) := Nat.succ_mul c0 (n + 1)
      have hle : (c0 + 1) * (n + 1) ≤ N * (n + 1) := Nat.mul_le_mul_right _ hc
      have hge : c0 ≤ c0 * (n + 1) := Nat.le_mul_of_pos_right c0 (Nat.succ_pos n)
      refine lv_iload_n hx hb dX_splitViews_7 rfl (lv_at hl 3 rfl) ?_
      refine lv_if_lt (tgt := 60) hx hb dX_splitViews_8 (by decide) (fun c8 => absurd c8 (nI_pos (by omega))) (fun _ => ?_)
      refine lv_aload_n hx hb dX_splitViews_11 rfl (lv_at hl 0 rfl) ?_
      refine va_get (D := (dC, dI)) (ci := 0) (v := .ref (ad 3)) (C := RX) (T := TX) (N := 9) hx hb hz in_X hown hK hP 0 rfl rfl 2 (by decide) (hz _ kf_X_16) (fun _ h9 => h9) rfl dX_splitViews_12 ?_
      refine lv_iload_n hx hb dX_splitViews_15 rfl (lv_at hl 3 rfl) ?_
      refine zt_iald hx hb hK hP 3 0 rfl rfl (i := c0) (by omega) (by decide) (v := (nI (zq_pk L D c0))) (hf1 c0 (by omega)) dX_splitViews_16 ?_
      refine lv_istore (lv' := [(4, .int (nI (zq_pk L D c0))), (0, .ref (ad 0)), (1, .int (nI D)), (2, .int (nI (n + 1))), (3, .int (nI c0))]) hx hb dX_splitViews_17 hl (by decide) rfl (fun ls hl => ?_)
      refine lv_iconst (v := nI 0) hx hb dX_splitViews_19 (by decide) ?_
      refine lv_istore (lv' := [(5, .int (nI 0)), (4, .int (nI (zq_pk L D c0))), (0, .ref (ad 0)), (1, .int (nI D)), (2, .int (nI (n + 1))), (3, .int (nI c0))]) hx hb dX_splitViews_20 hl (by decide) rfl (fun ls hl => ?_)
      have inner : ∀ (r j : Nat), j + r = n + 1 → ∀ (g : Nat → Int32) (H : Heap) (locs : List Loc), (∀ w, w < c0 → g w = nI (zq_pk L D w)) → (∀ w, c0 * (n + 1) ≤ w → w < c0 * (n + 1) + j → g w = nI (zq_pk (zq_up L D n) (D + 1) w)) → (∀ w, (c0 + 1) * (n + 1) ≤ w → w < N * (n + 1) → g w = nI (zq_pk (zq_up L D n) (D + 1) w)) → va_P (dC, dI) zcl (zx_w ad cI cJ lev val g cst chs D N F k) H → va_S (zg_A ad 6 s.heap.size) s.heap H locs → ∀ ls : Array Slot, lv_has ls 6 [(0, .ref (ad 0)), (1, .int (nI D)), (2, .int (nI (n + 1))), (3, .int (nI c0)), (4, .int (nI (zq_pk L D c0))), (5, .int (nI j))] → W p l e (headSpec wX_splitViews rX_splitViews).room s m ([.ref (ad 0), .int (nI D), .int (nI (n + 1))] : List Value).toArray below meth c H locs 0 0 (zt_MQ below (zg_Q dC dI (fun _ => none) (fun f : Nat → Int32 => ∀ w, w < N * (n + 1) → f w = nI (zq_pk (zq_up L D n) (D + 1) w)) (fun f => zx_w ad cI cJ lev val f cst chs D (N * (n + 1)) F k) (zg_A ad 6 s.heap.size)) ([.ref (ad 0), .int (nI D), .int (nI (n + 1))] : List Value).toArray s 0 0 0 0 (zg_A ad 6 s.heap.size)) (F0 m 22 ls []) := by
        intro r
        induction r with
        | zero =>
          intro j hj g H locs hg1 hg2 hg3 hP hS ls hl
          refine lv_iload hx hb dX_splitViews_22 (lv_at hl 5 rfl) ?_
          refine lv_iload_n hx hb dX_splitViews_24 rfl (lv_at hl 2 rfl) ?_
          refine zj_ge (tgt := 54) hx hb dX_splitViews_25 (by decide) (by omega) (by omega) (fun _ => ?_) (fun c25 => absurd c25 (by omega))
          refine lv_iinc (v := nI c0 - 1) (lv' := [(3, .int (nI c0 - 1)), (0, .ref (ad 0)), (1, .int (nI D)), (2, .int (nI (n + 1))), (4, .int (nI (zq_pk L D c0))), (5, .int (nI j))]) hx hb dX_splitViews_54 hl (k := 3) rfl (by rw [Int32.sub_eq_add_neg]; rfl) (by decide) rfl (fun ls hl => ?_)
          refine lv_goto (tgt := 7) hx hb dX_splitViews_57 (by decide) ?_
          exact ih (by omega) g H locs hg1 (fun w h1 h2 => by
            by_cases h9 : w < c0 * (n + 1) + j
            · exact hg2 w h1 h9
            · exact hg3 w (by omega) h2) hP hS ls (lv_sub hl [1, 2, 3, 0] rfl)
        | succ r ih2 =>
          intro j hj g H locs hg1 hg2 hg3 hP hS ls hl
          refine lv_iload hx hb dX_splitViews_22 (lv_at hl 5 rfl) ?_
          refine lv_iload_n hx hb dX_splitViews_24 rfl (lv_at hl 2 rfl) ?_
          refine zj_ge (tgt := 54) hx hb dX_splitViews_25 (by decide) (by omega) (by omega) (fun c25 => absurd c25 (by omega)) (fun _ => ?_)
          refine lv_aload_n hx hb dX_splitViews_28 rfl (lv_at hl 0 rfl) ?_
          refine va_get (D := (dC, dI)) (ci := 0) (v := .ref (ad 3)) (C := RX) (T := TX) (N := 9) hx hb hz in_X hown hK hP 0 rfl rfl 2 (by decide) (hz _ kf_X_16) (fun _ h9 => h9) rfl dX_splitViews_29 ?_
          refine lv_iload_n hx hb dX_splitViews_32 rfl (lv_at hl 3 rfl) ?_
          refine lv_iload_n hx hb dX_splitViews_33 rfl (lv_at hl 2 rfl) ?_
          refine lv_imul hx hb dX_splitViews_34 ?_
          refine zt_ti (pk_mul _ _) ?_
          refine lv_iload hx hb dX_splitViews_35 (lv_at hl 5 rfl) ?_
          refine lv_iadd hx hb dX_splitViews_37 ?_
          refine zt_ti (nI_add _ _) ?_
          refine lv_iload hx hb dX_splitViews_38 (lv_at hl 4 rfl) ?_
          refine lv_iload hx hb dX_splitViews_40 (lv_at hl 5 rfl) ?_
          refine lv_iload_n hx hb dX_splitViews_42 rfl (lv_at hl 1 rfl) ?_
          refine lv_iconst (v := nI 4) hx hb dX_splitViews_43 (by decide) ?_
          refine lv_imul hx hb dX_splitViews_44 ?_
          refine zt_ti (pk_mul _ _) ?_
          refine lv_ishl hx hb dX_splitViews_45 ?_
          refine lv_ior hx hb dX_splitViews_46 ?_
          refine zt_ti (zq_split L c0 n j hD hL hn (by omega)) ?_
          refine zt_iast hx hb hK hP (zx_D had) hS 3 0 rfl rfl (i := ((c0 * (n + 1)) + j)) (by omega) (by decide) dX_splitViews_47 (fun H locs hP _ hS => ?_)
          have hP : va_P (dC, dI) zcl (zx_w ad cI cJ lev val (upd g ((c0 * (n + 1)) + j) (nI (zq_pk (zq_up L D n) (D + 1) (c0 * (n + 1) + j)))) cst chs D N F k) H := hP
          refine lv_iinc (v := nI (j + 1)) (lv' := [(5, .int (nI (j + 1))), (0, .ref (ad 0)), (1, .int (nI D)), (2, .int (nI (n + 1))), (3, .int (nI c0)), (4, .int (nI (zq_pk L D c0)))]) hx hb dX_splitViews_48 hl (k := 5) rfl (nI_1 _) (by decide) rfl (fun ls hl => ?_)
          refine lv_goto (tgt := 22) hx hb dX_splitViews_51 (by decide) ?_
          refine ih2 (j + 1) (by omega) _ H locs (fun w hw => ?_) (fun w h1 h2 => ?_) (fun w h1 h2 => ?_) hP hS ls (lv_sub hl [1, 2, 3, 4, 5, 0] rfl)
          · rw [pk_un (by omega)]; exact hg1 w hw
          · by_cases e9 : w = c0 * (n + 1) + j
            · rw [e9, pk_us]
            · rw [pk_un e9]; exact hg2 w h1 (by omega)
          · rw [pk_un (by omega)]; exact hg3 w h1 h2
      exact inner (n + 1) 0 (by omega) f H locs (fun w hw => hf1 w (by omega)) (fun w h1 h2 => absurd h2 (by omega)) (fun w h1 h2 => hf2 w h1 h2) hP hS ls (lv_sub hl [2, 3, 4, 5, 1, 0] rfl)
  exact outer N (Nat.le_refl N) pkd s.heap [] hpk (fun w h1 h2 => absurd h2 (by omega)) hP hS ls (lv_sub hl [1, 2, 3, 0] rfl)
set_option maxHeartbeats 4000000 in
set_option maxRecDepth 100000 in
/-- a view is chosen -/
theorem tX_addChosen (l : Launch) {dC : Nat → ClassId} {dI : Nat → Nat → Nat} {cI cJ cB : ClassId} {ad : Nat → Nat} {lev val pkd : Nat → Int32} {cst : Nat → Int64} {chs : Nat → Int32} {D N F k : Nat} {L V : Nat → Nat} {v sz : Nat} {cw : Nat → Nat} (hc : ∀ w, w < N → cst w = lN (cw w) ∧ cw w ≤ F) (had : zg_ap ad 6) (hR : zx_R D N F L V lev val pkd) (hv : v < N) (hk : k < 16) : zt_Met l yX_addChosen wX_addChosen rX_addChosen (va_Pc [.ref (ad 0), .int (nI v)] (zg_C dC dI cI cJ cB (zx_w ad cI cJ lev val pkd cst chs D N F k) sz)) (zg_Q dC dI (fun _ => none) (fun f : Nat → Int64 => ∀ w, w < N → f w = lN (if zq_es L V D F v < cw w ∧ zq_ab L D v w = true then zq_es L V D F v else cw w)) (fun f => zx_w ad cI cJ lev val pkd f (upd chs k (nI v)) D N F (k + 1)) (zg_A ad 6 sz)) 0 0 0 0 (zg_A ad 6 sz) := by
  refine zt_ofW (cc := cX_addChosen) (maxL := 6) (ret := none) (by decide) rfl ?_
  intro p e s m args below meth c s₁ B hml hout hv
  obtain ⟨rfl, hsz, hP, hK⟩ := hv
  have hx := B.exec
  have hb := B.bytes
  have hr := B.returns
  have hz : ∀ w ∈ zw0, w.before ([.ref (ad 0), .int (nI v)] : List Value).toArray s = true := fun w h => atoms_spec (ws := wX_addChosen) B.pre w (List.mem_cons_of_mem _ h)
  have hown : s.vm.findClass RX = some m.cls := findClass_of_methodNamed B.named
  have hlocks := B.notSynchronized
  subst hsz
  have hS : va_S (zg_A ad 6 s.heap.size) s.heap s.heap [] := va_S.rf
  have hl := lv_entry ([.ref (ad 0), .int (nI v)]) (n := 6) (Nat.le_of_ble_eq_true rfl)
  rw [lg_entry_eq]
  generalize (lg_sl ([.ref (ad 0), .int (nI v)]) ++ List.replicate (6 - (lg_sl ([.ref (ad 0), .int (nI v)])).length) Slot.unset).toArray = ls at hl ⊢
  have hl : lv_has ls 6 [(0, .ref (ad 0)), (1, .int (nI v))] := hl
  have hR9 := hR
  obtain ⟨hD, hL, hN, hN5, hF, hVb, hlev, hval, hpk⟩ := hR
  have hL4 : ∀ j, j < D → L j ≤ 4 := fun j hj => (hL j hj).2
  refine lv_aload_n hx hb dX_addChosen_0 rfl (lv_at hl 0 rfl) ?_
  refine va_get (D := (dC, dI)) (ci := 0) (v := .ref (ad 5)) (C := RX) (T := TX) (N := 9) hx hb hz in_X hown hK hP 0 rfl rfl 4 (by decide) (hz _ kf_X_23) (fun _ h9 => h9) rfl dX_addChosen_1 ?_
  refine lv_aload_n hx hb dX_addChosen_4 rfl (lv_at hl 0 rfl) ?_
  refine va_get (D := (dC, dI)) (ci := 0) (v := .int (nI k)) (C := RX) (T := TX) (N := 9) hx hb hz in_X hown hK hP 0 rfl rfl 8 (by decide) (hz _ kf_X_36) (fun _ h9 => h9) rfl dX_addChosen_5 ?_
  refine lv_iload_n hx hb dX_addChosen_8 rfl (lv_at hl 1 rfl) ?_
  refine zt_iast hx hb hK hP (zx_D had) hS 5 0 rfl rfl (i := k) (by omega) (by decide) dX_addChosen_9 (fun H locs hP _ hS => ?_)
  have hP : va_P (dC, dI) zcl (zx_w ad cI cJ lev val pkd cst (upd chs k (nI v)) D N F k) H := hP
  refine lv_aload_n hx hb dX_addChosen_10 rfl (lv_at hl 0 rfl) ?_
  refine lv_dup hx hb dX_addChosen_11 rfl ?_
  refine va_get (D := (dC, dI)) (ci := 0) (v := .int (nI k)) (C := RX) (T := TX) (N := 9) hx hb hz in_X hown hK hP 0 rfl rfl 8 (by decide) (hz _ kf_X_36) (fun _ h9 => h9) rfl dX_addChosen_12 ?_
  refine lv_iconst (v := nI 1) hx hb dX_addChosen_15 (by decide) ?_
  refine lv_iadd hx hb dX_addChosen_16 ?_
  refine zt_ti (nI_add _ _) ?_
  refine va_put (D := (dC, dI)) (ci := 0) (v := .int (nI (k + 1))) (ty := .int) (C := RX) (T := TX) (N := 9) hx hb hz in_X tyX tyX_ok nmX hown hK hP (zx_D had) hS 0 rfl rfl 8 (by decide) (hz _ kf_X_36) (fun _ h9 => h9) rfl (by decide +kernel) rfl rfl (Nat.le_of_ble_eq_true rfl) dX_addChosen_17 (fun H locs hP _ hS => ?_)
  have hP : va_P (dC, dI) zcl (zx_w ad cI cJ lev val pkd cst (upd chs k (nI v)) D N F (k + 1)) H := hP
  refine lv_aload_n hx hb dX_addChosen_20 rfl (lv_at hl 0 rfl) ?_
  refine lv_iload_n hx hb dX_addChosen_21 rfl (lv_at hl 1 rfl) ?_
  refine zt_callRl (zg_run (rest := []) hx hb hml hown (tX_estimateOf l hR9 hv) (wcX_82 hz (Nat.le_of_ble_eq_true rfl) (Nat.le_of_ble_eq_true rfl)) (hz _ ki_X_estimateOf) (hz _ ks_X_estimateOf) (hz _ kC_X_estimateOf) hP hK rfl (q0 := 0) rfl rfl hl.1 rfl (Nat.le_of_ble_eq_true rfl) dX_addChosen_22 ⟨Nat.le_of_ble_eq_true rfl, Nat.le_of_ble_eq_true rfl⟩) ?_
  refine lv_lstore_n (lv' := [(2, .long (lN (zq_es L V D F v))), (0, .ref (ad 0)), (1, .int (nI v))]) hx hb dX_addChosen_25 rfl hl (by decide) rfl (fun ls hl => ?_)
  refine lv_aload_n hx hb dX_addChosen_26 rfl (lv_at hl 1 rfl) ?_
  refine va_get (D := (dC, dI)) (ci := 0) (v := .ref (ad 3)) (C := RX) (T := TX) (N := 9) hx hb hz in_X hown hK hP 0 rfl rfl 2 (by decide) (hz _ kf_X_16) (fun _ h9 => h9) rfl dX_addChosen_27 ?_
  refine lv_iload_n hx hb dX_addChosen_30 rfl (lv_at hl 2 rfl) ?_
  refine zt_iald hx hb hK hP 3 0 rfl rfl (i := v) (by omega) (by decide) (v := (nI (zq_pk L D v))) (hpk v hv) dX_addChosen_31 ?_
  refine lv_istore (lv' := [(4, .int (nI (zq_pk L D v))), (2, .long (lN (zq_es L V D F v))), (0, .ref (ad 0)), (1, .int (nI v))]) hx hb dX_addChosen_32 hl (by decide) rfl (fun ls hl => ?_)
  refine lv_iload_n hx hb dX_addChosen_34 rfl (lv_at hl 3 rfl) ?_
  refine lv_istore (lv' := [(5, .int (nI v)), (4, .int (nI (zq_pk L D v))), (2, .long (lN (zq_es L V D F v))), (0, .ref (ad 0)), (1, .int (nI v))]) hx hb dX_addChosen_35 hl (by decide) rfl (fun ls hl => ?_)
  have he : zq_es L V D F v ≤ F := zq_es_le L V D F v
  have loop : ∀ (n i : Nat), i + n = N → ∀ (f : Nat → Int64) (H : Heap) (locs : List Loc), (∀ w, w < N → f w = lN (if w < i then (if zq_es L V D F v < cw w ∧ zq_ab L D v w = true then zq_es L V D F v else cw w) else cw w)) → va_P (dC, dI) zcl (zx_w ad cI cJ lev val pkd f (upd chs k (nI v)) D N F (k + 1)) H → va_S (zg_A ad 6 s.heap.size) s.heap H locs → ∀ ls : Array Slot, lv_has ls 6 [(0, .ref (ad 0)), (1, .int (nI v)), (2, .long (lN (zq_es L V D F v))), (4, .int (nI (zq_pk L D v))), (5, .int (nI i))] → W p l e (headSpec wX_addChosen rX_addChosen).room s m ([.ref (ad 0), .int (nI v)] : List Value).toArray below meth c H locs 0 0 (zt_MQ below (zg_Q dC dI (fun _ => none) (fun f : Nat → Int64 => ∀ w, w < N → f w = lN (if zq_es L V D F v < cw w ∧ zq_ab L D v w = true then zq_es L V D F v else cw w)) (fun f => zx_w ad cI cJ lev val pkd f (upd chs k (nI v)) D N F (k + 1)) (zg_A ad 6 s.heap.size)) ([.ref (ad 0), .int (nI v)] : List Value).toArray s 0 0 0 0 (zg_A ad 6 s.heap.size)) (F0 m 37 ls []) := by
    intro n
    induction n with
    | zero =>
      intro i hi f H locs hf hP hS ls hl
      refine lv_iload hx hb dX_addChosen_37 (lv_at hl 4 rfl) ?_
      refine lv_aload_n hx hb dX_addChosen_39 rfl (lv_at hl 0 rfl) ?_
      refine va_get (D := (dC, dI)) (ci := 0) (v := .int (nI N)) (C := RX) (T := TX) (N := 9) hx hb hz in_X hown hK hP 0 rfl rfl 6 (by decide) (hz _ kf_X_30) (fun _ h9 => h9) rfl dX_addChosen_40 ?_
      refine zj_ge (tgt := 87) hx hb dX_addChosen_43 (by decide) (by omega) (by omega) (fun _ => ?_) (fun c43 => absurd c43 (by omega))
      exact zt_rv hx hb hr hlocks (fun t ht _ => ⟨f, rfl, fun w hw => by rw [hf w hw, if_pos (show w < i by omega)], by rw [ht]; exact hP, hS.F ht⟩) (hS.2.2) dX_addChosen_87
    | succ n ih =>
      intro i hi f H locs hf hP hS ls hl
      have hci := (hc i (by omega)).2
      have hfi : f i = lN (cw i) := by rw [hf i (by omega), if_neg (Nat.lt_irrefl i)]
      refine lv_iload hx hb dX_addChosen_37 (lv_at hl 4 rfl) ?_
      refine lv_aload_n hx hb dX_addChosen_39 rfl (lv_at hl 0 rfl) ?_
      refine va_get (D := (dC, dI)) (ci := 0) (v := .int (nI N)) (C := RX) (T := TX) (N := 9) hx hb hz in_X hown hK hP 0 rfl rfl 6 (by decide) (hz _ kf_X_30) (fun _ h9 => h9) rfl dX_addChosen_40 ?_
      refine zj_ge (tgt := 87) hx hb dX_addChosen_43 (by decide) (by omega) (by omega) (fun c43 => absurd c43 (by omega)) (fun _ => ?_)
      refine lv_aload_n hx hb dX_addChosen_46 rfl (lv_at hl 0 rfl) ?_
      refine va_get (D := (dC, dI)) (ci := 0) (v := .ref (ad 4)) (C := RX) (T := TX) (N := 9) hx hb hz in_X hown hK hP 0 rfl rfl 3 (by decide) (hz _ kf_X_19) (fun _ h9 => h9) rfl dX_addChosen_47 ?_
      refine lv_iload hx hb dX_addChosen_50 (lv_at hl 4 rfl) ?_
      refine zt_lald hx hb hK hP 4 1 rfl rfl (i := i) (by omega) (by decide) (v := (lN (cw i))) (hfi) dX_addChosen_52 ?_
      refine lv_lload_n hx hb dX_addChosen_53 rfl (lv_at hl 2 rfl) ?_
      refine zl_le (tgt := 81) hx hb dX_addChosen_54 dX_addChosen_55 (by decide) (by omega) (by omega) (fun c54 => ?_) (fun c54 => ?_)
      · refine lv_iinc (v := nI (i + 1)) (lv' := [(5, .int (nI (i + 1))), (0, .ref (ad 0)), (1, .int (nI v)), (2, .long (lN (zq_es L V D F v))), (4, .int (nI (zq_pk L D v)))]) hx hb dX_addChosen_81 hl (k := 4) rfl (nI_1 _) (by decide) rfl (fun ls hl => ?_)
        refine lv_goto (tgt := 37) hx hb dX_addChosen_84 (by decide) ?_
        refine ih (i + 1) (by omega) f H locs (fun w hw => ?_) hP hS ls (lv_sub hl [1, 2, 3, 4, 0] rfl)
        rw [hf w hw]
        by_cases e9 : w = i
        · subst e9
          rw [if_neg (Nat.lt_irrefl w), if_pos (Nat.lt_succ_self w), if_neg (fun q => by have := q.1; omega)]
        · by_cases e8 : w < i
          · rw [if_pos e8, if_pos (show w < i + 1 by omega)]
          · rw [if_neg e8, if_neg (show ¬ w < i + 1 by omega)]
      · refine lv_iload hx hb dX_addChosen_58 (lv_at hl 3 rfl) ?_
        refine lv_aload_n hx hb dX_addChosen_60 rfl (lv_at hl 0 rfl) ?_
        refine va_get (D := (dC, dI)) (ci := 0) (v := .ref (ad 3)) (C := RX) (T := TX) (N := 9) hx hb hz in_X hown hK hP 0 rfl rfl 2 (by decide) (hz _ kf_X_16) (fun _ h9 => h9) rfl dX_addChosen_61 ?_
        refine lv_iload hx hb dX_addChosen_64 (lv_at hl 4 rfl) ?_
        refine zt_iald hx hb hK hP 3 0 rfl rfl (i := i) (by omega) (by decide) (v := (nI (zq_pk L D i))) (hpk i (by omega)) dX_addChosen_66 ?_
        refine zt_callRi (zs_run (rest := []) hx hb hml hown (tX_isAbovePacked l hD hL4) (wcX_78 hz (Nat.le_of_ble_eq_true rfl) (Nat.le_of_ble_eq_true rfl)) (hz _ kst_X_isAbovePacked) (hz _ kC_X_isAbovePacked) rfl hl.1 rfl (Nat.le_of_ble_eq_true rfl) dX_addChosen_67 ⟨Nat.le_of_ble_eq_true rfl, Nat.le_of_ble_eq_true rfl⟩) ?_
        refine zb_eq (tgt := 81) hx hb dX_addChosen_70 (by decide) (fun c70 => ?_) (fun c70 => ?_)
        · refine lv_iinc (v := nI (i + 1)) (lv' := [(5, .int (nI (i + 1))), (0, .ref (ad 0)), (1, .int (nI v)), (2, .long (lN (zq_es L V D F v))), (4, .int (nI (zq_pk L D v)))]) hx hb dX_addChosen_81 hl (k := 4) rfl (nI_1 _) (by decide) rfl (fun ls hl => ?_)
          refine lv_goto (tgt := 37) hx hb dX_addChosen_84 (by decide) ?_
          refine ih (i + 1) (by omega) f H locs (fun w hw => ?_) hP hS ls (lv_sub hl [1, 2, 3, 4, 0] rfl)
          rw [hf w hw]
          by_cases e9 : w = i
          · subst e9
            rw [if_neg (Nat.lt_irrefl w), if_pos (Nat.lt_succ_self w), if_neg (fun q => by have := q.2; rw [c70] at this; cases this)]
          · by_cases e8 : w < i
            · rw [if_pos e8, if_pos (show w < i + 1 by omega)]
            · rw [if_neg e8, if_neg (show ¬ w < i + 1 by omega)]
        · refine lv_aload_n hx hb dX_addChosen_73 rfl (lv_at hl 0 rfl) ?_
          refine va_get (D := (dC, dI)) (ci := 0) (v := .ref (ad 4)) (C := RX) (T := TX) (N := 9) hx hb hz in_X hown hK hP 0 rfl rfl 3 (by decide) (hz _ kf_X_19) (fun _ h9 => h9) rfl dX_addChosen_74 ?_
          refine lv_iload hx hb dX_addChosen_77 (lv_at hl 4 rfl) ?_
          refine lv_lload_n hx hb dX_addChosen_79 rfl (lv_at hl 2 rfl) ?_
          refine zt_last hx hb hK hP (zx_D had) hS 4 1 rfl rfl (i := i) (by omega) (by decide) dX_addChosen_80 (fun H locs hP _ hS => ?_)
          have hP : va_P (dC, dI) zcl (zx_w ad cI cJ lev val pkd (vp_updL f i (lN (zq_es L V D F v))) (upd chs k (nI v)) D N F (k + 1)) H := hP
          refine lv_iinc (v := nI (i + 1)) (lv' := [(5, .int (nI (i + 1))), (0, .ref (ad 0)), (1, .int (nI v)), (2, .long (lN (zq_es L V D F v))), (4, .int (nI (zq_pk L D v)))]) hx hb dX_addChosen_81 hl (k := 4) rfl (nI_1 _) (by decide) rfl (fun ls hl => ?_)
          refine lv_goto (tgt := 37) hx hb dX_addChosen_84 (by decide) ?_
          refine ih (i + 1) (by omega) _ H locs (fun w hw => ?_) hP hS ls (lv_sub hl [1, 2, 3, 4, 0] rfl)
          by_cases e9 : w = i
          · subst e9
            rw [pk_uLs, if_pos (Nat.lt_succ_self w), if_pos ⟨by omega, c70⟩]
          · rw [pk_uLn e9, hf w hw]
            by_cases e8 : w < i
            · rw [if_pos e8, if_pos (show w < i + 1 by omega)]
            · rw [if_neg e8, if_neg (show ¬ w < i + 1 by omega)]
  refine loop (N - v) v (by omega) cst H locs (fun w hw => ?_) hP hS ls (lv_sub hl [3, 4, 2, 1, 0] rfl)
  rw [(hc w hw).1]
  by_cases e8 : w < v
  · rw [if_pos e8, if_neg (fun q => by have := zq_ab_le L D v w (by omega) q.2; omega)]
  · rw [if_neg e8]
end
section
/-! the chooser: its public writers: by program (wip/gen/class_pub.py) -/
set_option maxHeartbeats 4000000 in
set_option maxRecDepth 100000 in
/-- drop -/
theorem tX_drop (l : Launch) {dC : Nat → ClassId} {dI : Nat → Nat → Nat} {cI cJ cB : ClassId} {ad : Nat → Nat} {lev val pkd : Nat → Int32} {cst : Nat → Int64} {chs : Nat → Int32} {D N F k : Nat} {sz : Nat} (had : zg_ap ad 6) (hF : F < 2 ^ 31) : zt_Met l yX_drop wX_drop rX_drop (va_Pc [.ref (ad 0)] (zg_C dC dI cI cJ cB (zx_w ad cI cJ lev val pkd cst chs D N F k) sz)) (zg_Q dC dI (fun _ => some (.int (nI k))) (fun f : Nat → Int64 => ∀ j, j < 512 → f j = lN F) (fun f => zx_w ad cI cJ lev val pkd f chs D N F 0) (zg_A ad 6 sz)) 0 0 0 0 (zg_A ad 6 sz) := by
  refine zt_ofW (cc := cX_drop) (maxL := 2) (ret := (some .int)) (by decide) rfl ?_
  intro p e s m args below meth c s₁ B hml hout hv
  obtain ⟨rfl, hsz, hP, hK⟩ := hv
  have hx := B.exec
  have hb := B.bytes
  have hr := B.returns
  have hz : ∀ w ∈ zw0, w.before ([.ref (ad 0)] : List Value).toArray s = true := fun w h => atoms_spec (ws := wX_drop) B.pre w (List.mem_cons_of_mem _ h)
  have hown : s.vm.findClass RX = some m.cls := findClass_of_methodNamed B.named
  have hlocks := B.notSynchronized
  subst hsz
  have hS : va_S (zg_A ad 6 s.heap.size) s.heap s.heap [] := va_S.rf
  have hl := lv_entry ([.ref (ad 0)]) (n := 2) (Nat.le_of_ble_eq_true rfl)
  rw [lg_entry_eq]
  generalize (lg_sl ([.ref (ad 0)]) ++ List.replicate (2 - (lg_sl ([.ref (ad 0)])).length) Slot.unset).toArray = ls at hl ⊢
  have hl : lv_has ls 2 [(0, .ref (ad 0))] := hl
  refine lv_aload_n hx hb dX_drop_0 rfl (lv_at hl 0 rfl) ?_
  refine va_get (D := (dC, dI)) (ci := 0) (v := .int (nI k)) (C := RX) (T := TX) (N := 9) hx hb hz in_X hown hK hP 0 rfl rfl 8 (by decide) (hz _ kf_X_36) (fun _ h9 => h9) rfl dX_drop_1 ?_
  refine lv_istore_n (lv' := [(1, .int (nI k)), (0, .ref (ad 0))]) hx hb dX_drop_4 rfl hl (by decide) rfl (fun ls hl => ?_)
  refine lv_aload_n hx hb dX_drop_5 rfl (lv_at hl 1 rfl) ?_
  refine zg_callW (zg_runC (rest := []) hx hb hml hown (tX_forgetChosen l had hF) (wcX_57 hz (Nat.le_of_ble_eq_true rfl) (Nat.le_of_ble_eq_true rfl)) (hz _ ki_X_forgetChosen) (hz _ ks_X_forgetChosen) (hz _ kC_X_forgetChosen) hP hK rfl (q0 := 0) rfl rfl hl.1 rfl (Nat.le_of_ble_eq_true rfl) dX_drop_6 ⟨Nat.le_of_ble_eq_true rfl, Nat.le_of_ble_eq_true rfl⟩) hS (fun q h => zg_A_up hS.1 h) (fun q h => zg_A_up hS.1 h) (fun f H locs hf hP hz9 hk9 hS => ?_)
  refine W.eq (g2 := F0 m 9 ls []) rfl ?_
  refine lv_iload_n hx hb dX_drop_9 rfl (lv_at hl 0 rfl) ?_
  exact zt_ri hx hb hr hlocks (fun t ht _ => ⟨f, rfl, hf, by rw [ht]; exact hP, hS.F ht⟩) (hS.2.2) dX_drop_10
set_option maxHeartbeats 4000000 in
set_option maxRecDepth 100000 in
/-- facts -/
theorem tX_facts (l : Launch) {dC : Nat → ClassId} {dI : Nat → Nat → Nat} {cI cJ cB : ClassId} {ad : Nat → Nat} {lev val pkd : Nat → Int32} {cst : Nat → Int64} {chs : Nat → Int32} {D N F k : Nat} {p0 : Int32} {sz : Nat} (had : zg_ap ad 6) (hst : l.stackTraces = false) : zt_Met l yX_facts wX_facts rX_facts (va_Pc [.ref (ad 0), .int p0] (zg_U dC dI cI cJ cB (zx_w ad cI cJ lev val pkd cst chs D N F k) sz)) (zg_X dC dI (zc_fac (zn p0)) (fun _ => some (.int (nI F))) (fun f : Nat → Int64 => ∀ j, j < 512 → f j = lN (zn p0)) (fun f => zx_w ad cI cJ lev val pkd f chs D N (zn p0) 0) (zg_A ad 6 sz)) 0 0 1 6 (zg_A ad 6 sz) := by
  generalize ha : zn p0 = a
  refine zt_ofW (cc := cX_facts) (maxL := 3) (ret := (some .int)) (by decide) rfl ?_
  intro p e s m args below meth c s₁ B hml hout hv
  obtain ⟨rfl, hsz, hP, hK, hTS⟩ := hv
  have hx := B.exec
  have hb := B.bytes
  have hr := B.returns
  have hz : ∀ w ∈ zw0, w.before ([.ref (ad 0), .int p0] : List Value).toArray s = true := fun w h => atoms_spec (ws := wX_facts) B.pre w (List.mem_cons_of_mem _ h)
  have hown : s.vm.findClass RX = some m.cls := findClass_of_methodNamed B.named
  have hlocks := B.notSynchronized
  subst hsz
  have hS : va_S (zg_A ad 6 s.heap.size) s.heap s.heap [] := va_S.rf
  have hl := lv_entry ([.ref (ad 0), .int p0]) (n := 3) (Nat.le_of_ble_eq_true rfl)
  rw [lg_entry_eq]
  generalize (lg_sl ([.ref (ad 0), .int p0]) ++ List.replicate (3 - (lg_sl ([.ref (ad 0), .int p0])).length) Slot.unset).toArray = ls at hl ⊢
  have hl : lv_has ls 3 [(0, .ref (ad 0)), (1, .int p0)] := hl
  have htr : e.platform.stackTraces = false := (show e.platform.stackTraces = l.stackTraces by rw [B.admits.platform]).trans hst
  rcases zn_cases p0 with ⟨h0, e0⟩ | ⟨n, hn, rfl, e0⟩
  · have ea : a = 2 ^ 31 := ha.symm.trans e0
    refine lv_iload_n hx hb dX_facts_0 rfl (lv_at hl 1 rfl) ?_
    refine lv_if_ge (tgt := 14) hx hb dX_facts_1 (by decide) (fun c1 => absurd c1 (fun q => Int32.lt_irrefl (Int32.lt_of_lt_of_le h0 q))) (fun _ => ?_)
    exact zt_throwA (tx := "n is below 0") hx hb htr (hl.1.trans hml.symm) hown hz hTS (by decide +kernel) hout hlocks dX_facts_4 dX_facts_7 dX_facts_8 dX_facts_10 dX_facts_13 (Nat.le_of_ble_eq_true rfl) (Nat.le_of_ble_eq_true rfl) (Nat.le_of_ble_eq_true rfl) (Nat.le_of_ble_eq_true rfl) (Nat.le_of_ble_eq_true rfl) (Nat.le_of_ble_eq_true rfl) (fun t x hTh hW => Or.inr (Or.inl ⟨by unfold zc_fac; rw [if_neg (by omega)], x, rfl, hTh⟩))
  · have ea : a = n := ha.symm.trans e0
    subst ea
    refine lv_iload_n hx hb dX_facts_0 rfl (lv_at hl 1 rfl) ?_
    refine lv_if_ge (tgt := 14) hx hb dX_facts_1 (by decide) (fun _ => ?_) (fun c1 => absurd c1 (not_not_intro (nI_pos' hn)))
    refine lv_aload_n hx hb dX_facts_14 rfl (lv_at hl 0 rfl) ?_
    refine va_get (D := (dC, dI)) (ci := 0) (v := .int (nI F)) (C := RX) (T := TX) (N := 9) hx hb hz in_X hown hK hP 0 rfl rfl 7 (by decide) (hz _ kf_X_33) (fun _ h9 => h9) rfl dX_facts_15 ?_
    refine lv_istore_n (lv' := [(2, .int (nI F)), (0, .ref (ad 0)), (1, .int (nI a))]) hx hb dX_facts_18 rfl hl (by decide) rfl (fun ls hl => ?_)
    refine lv_aload_n hx hb dX_facts_19 rfl (lv_at hl 1 rfl) ?_
    refine lv_iload_n hx hb dX_facts_20 rfl (lv_at hl 2 rfl) ?_
    refine va_put (D := (dC, dI)) (ci := 0) (v := .int (nI a)) (ty := .int) (C := RX) (T := TX) (N := 9) hx hb hz in_X tyX tyX_ok nmX hown hK hP (zx_D had) hS 0 rfl rfl 7 (by decide) (hz _ kf_X_33) (fun _ h9 => h9) rfl (by decide +kernel) rfl rfl (Nat.le_of_ble_eq_true rfl) dX_facts_21 (fun H locs hP _ hS => ?_)
    have hP : va_P (dC, dI) zcl (zx_w ad cI cJ lev val pkd cst chs D N a k) H := hP
    refine lv_aload_n hx hb dX_facts_24 rfl (lv_at hl 1 rfl) ?_
    refine zg_callW (zg_runC (rest := []) hx hb hml hown (tX_forgetChosen l had hn) (wcX_57 hz (Nat.le_of_ble_eq_true rfl) (Nat.le_of_ble_eq_true rfl)) (hz _ ki_X_forgetChosen) (hz _ ks_X_forgetChosen) (hz _ kC_X_forgetChosen) hP hK rfl (q0 := 0) rfl rfl hl.1 rfl (Nat.le_of_ble_eq_true rfl) dX_facts_25 ⟨Nat.le_of_ble_eq_true rfl, Nat.le_of_ble_eq_true rfl⟩) hS (fun q h => zg_A_up hS.1 h) (fun q h => zg_A_up hS.1 h) (fun f H locs hf hP hz9 hk9 hS => ?_)
    refine W.eq (g2 := F0 m 28 ls []) rfl ?_
    refine lv_iload_n hx hb dX_facts_28 rfl (lv_at hl 0 rfl) ?_
    exact zt_ri hx hb hr hlocks (fun t ht _ => Or.inl ⟨by unfold zc_fac; rw [if_pos hn], f, rfl, hf, by rw [ht]; exact hP, hS.F ht⟩) (hS.2.2) dX_facts_29
set_option maxHeartbeats 4000000 in
set_option maxRecDepth 100000 in
/-- values -/
theorem tX_values (l : Launch) {dC : Nat → ClassId} {dI : Nat → Nat → Nat} {cI cJ cB : ClassId} {ad : Nat → Nat} {lev val pkd : Nat → Int32} {cst : Nat → Int64} {chs : Nat → Int32} {D N F k : Nat} {L V : Nat → Nat} {p0 p1 p2 : Int32} {sz : Nat} (had : zg_ap ad 6) (hst : l.stackTraces = false) (hR : zx_R D N F L V lev val pkd) : zt_Met l yX_values wX_values rX_values (va_Pc [.ref (ad 0), .int p0, .int p1, .int p2] (zg_U dC dI cI cJ cB (zx_w ad cI cJ lev val pkd cst chs D N F k) sz)) (zg_X dC dI (zc_val (zn p0) (zn p1) (zn p2) D L) (fun _ => some (.int (nI (V (4 * zn p0 + zn p1))))) (fun f : Nat → Int64 => ∀ j, j < 512 → f j = lN F) (fun f => zx_w ad cI cJ lev (upd val (4 * zn p0 + zn p1) (nI (zn p2))) pkd f chs D N F 0) (zg_A ad 6 sz)) 0 0 1 6 (zg_A ad 6 sz) := by
  generalize ha1 : zn p0 = a1
  generalize ha2 : zn p1 = a2
  generalize ha3 : zn p2 = a3
  refine zt_ofW (cc := cX_values) (maxL := 6) (ret := (some .int)) (by decide) rfl ?_
  intro p e s m args below meth c s₁ B hml hout hv
  obtain ⟨rfl, hsz, hP, hK, hTS⟩ := hv
  have hx := B.exec
  have hb := B.bytes
  have hr := B.returns
  have hz : ∀ w ∈ zw0, w.before ([.ref (ad 0), .int p0, .int p1, .int p2] : List Value).toArray s = true := fun w h => atoms_spec (ws := wX_values) B.pre w (List.mem_cons_of_mem _ h)
  have hown : s.vm.findClass RX = some m.cls := findClass_of_methodNamed B.named
  have hlocks := B.notSynchronized
  subst hsz
  have hS : va_S (zg_A ad 6 s.heap.size) s.heap s.heap [] := va_S.rf
  have hl := lv_entry ([.ref (ad 0), .int p0, .int p1, .int p2]) (n := 6) (Nat.le_of_ble_eq_true rfl)
  rw [lg_entry_eq]
  generalize (lg_sl ([.ref (ad 0), .int p0, .int p1, .int p2]) ++ List.replicate (6 - (lg_sl ([.ref (ad 0), .int p0, .int p1, .int p2])).length) Slot.unset).toArray = ls at hl ⊢
  have hl : lv_has ls 6 [(0, .ref (ad 0)), (1, .int p0), (2, .int p1), (3, .int p2)] := hl
  have htr : e.platform.stackTraces = false := (show e.platform.stackTraces = l.stackTraces by rw [B.admits.platform]).trans hst
  obtain ⟨hD, hL, hN, hN5, hF, hVb, hlev, hval, hpk⟩ := hR
  have hi0 := zn_in p0 (n := D) (by omega)
  rw [ha1] at hi0
  refine lv_aload_n hx hb dX_values_0 rfl (lv_at hl 0 rfl) ?_
  refine lv_iload_n hx hb dX_values_1 rfl (lv_at hl 1 rfl) ?_
  refine zt_callP (zg_runT (rest := []) hx hb hml hown (tX_checkDimension l hst (by omega)) (wcX_60 hz (Nat.le_of_ble_eq_true rfl) (Nat.le_of_ble_eq_true rfl)) (hz _ ki_X_checkDimension) (hz _ ks_X_checkDimension) (hz _ kC_X_checkDimension) hP hK hTS rfl (q0 := 0) rfl rfl hl.1 rfl (Nat.le_of_ble_eq_true rfl) dX_values_2 ⟨Nat.le_of_ble_eq_true rfl, Nat.le_of_ble_eq_true rfl⟩) hout hlocks (Nat.le_of_ble_eq_true rfl) (Nat.le_of_ble_eq_true rfl) (fun hno t x hTh hW => Or.inr (Or.inl ⟨by unfold zc_val; rw [if_neg (fun q => hno (by rw [hi0]; exact decide_eq_true q.1))], x, rfl, hTh⟩)) (fun hok => ?_)
  refine W.eq (g2 := F0 m 5 ls []) rfl ?_
  rw [hi0] at hok
  have hok := of_decide_eq_true hok
  obtain ⟨d, hd, rfl, e0⟩ : ∃ d, d < 2 ^ 31 ∧ p0 = nI d ∧ zn p0 = d := (zn_cases p0).resolve_left (fun q => by have := q.2; omega)
  have ea : a1 = d := ha1.symm.trans e0
  subst ea
  have hLa := hL a1 hok
  rcases zn_cases p1 with ⟨h1, e1⟩ | ⟨b2, hb2, rfl, e1⟩
  · have eb : a2 = 2 ^ 31 := ha2.symm.trans e1
    refine lv_iload_n hx hb dX_values_5 rfl (lv_at hl 2 rfl) ?_
    refine lv_if_lt (tgt := 19) hx hb dX_values_6 (by decide) (fun _ => ?_) (fun c6 => absurd c6 (not_not_intro h1))
    exact zt_throwA (tx := "there is no such level") hx hb htr (hl.1.trans hml.symm) hown hz hTS (by decide +kernel) hout hlocks dX_values_19 dX_values_22 dX_values_23 dX_values_25 dX_values_28 (Nat.le_of_ble_eq_true rfl) (Nat.le_of_ble_eq_true rfl) (Nat.le_of_ble_eq_true rfl) (Nat.le_of_ble_eq_true rfl) (Nat.le_of_ble_eq_true rfl) (Nat.le_of_ble_eq_true rfl) (fun t x hTh hW => Or.inr (Or.inl ⟨by unfold zc_val; rw [if_neg (by omega)], x, rfl, hTh⟩))
  · have eb : a2 = b2 := ha2.symm.trans e1
    subst eb
    refine lv_iload_n hx hb dX_values_5 rfl (lv_at hl 2 rfl) ?_
    refine lv_if_lt (tgt := 19) hx hb dX_values_6 (by decide) (fun c6 => absurd c6 (nI_pos hb2)) (fun _ => ?_)
    refine lv_iload_n hx hb dX_values_9 rfl (lv_at hl 2 rfl) ?_
    refine lv_aload_n hx hb dX_values_10 rfl (lv_at hl 0 rfl) ?_
    refine va_get (D := (dC, dI)) (ci := 0) (v := .ref (ad 1)) (C := RX) (T := TX) (N := 9) hx hb hz in_X hown hK hP 0 rfl rfl 0 (by decide) (hz _ kf_X_9) (fun _ h9 => h9) rfl dX_values_11 ?_
    refine lv_iload_n hx hb dX_values_14 rfl (lv_at hl 1 rfl) ?_
    refine zt_iald hx hb hK hP 1 0 rfl rfl (i := a1) (by omega) (by decide) (v := (nI (L a1))) (hlev a1 hok) dX_values_15 ?_
    refine zj_lt (tgt := 29) hx hb dX_values_16 (by decide) (by omega) (by omega) (fun c16 => ?_) (fun c16 => ?_)
    · rcases zn_cases p2 with ⟨h2, e2⟩ | ⟨n2, hn2, rfl, e2⟩
      · have ec : a3 = 2 ^ 31 := ha3.symm.trans e2
        refine lv_iload_n hx hb dX_values_29 rfl (lv_at hl 3 rfl) ?_
        refine lv_if_lt (tgt := 39) hx hb dX_values_30 (by decide) (fun _ => ?_) (fun c30 => absurd c30 (not_not_intro h2))
        exact zt_throwA (tx := "n is not 0 .. 1000000") hx hb htr (hl.1.trans hml.symm) hown hz hTS (by decide +kernel) hout hlocks dX_values_39 dX_values_42 dX_values_43 dX_values_45 dX_values_48 (Nat.le_of_ble_eq_true rfl) (Nat.le_of_ble_eq_true rfl) (Nat.le_of_ble_eq_true rfl) (Nat.le_of_ble_eq_true rfl) (Nat.le_of_ble_eq_true rfl) (Nat.le_of_ble_eq_true rfl) (fun t x hTh hW => Or.inr (Or.inl ⟨by unfold zc_val; rw [if_neg (by omega)], x, rfl, hTh⟩))
      · have ec : a3 = n2 := ha3.symm.trans e2
        subst ec
        refine lv_iload_n hx hb dX_values_29 rfl (lv_at hl 3 rfl) ?_
        refine lv_if_lt (tgt := 39) hx hb dX_values_30 (by decide) (fun c30 => absurd c30 (nI_pos hn2)) (fun _ => ?_)
        refine lv_iload_n hx hb dX_values_33 rfl (lv_at hl 3 rfl) ?_
        refine lv_ldc hx hb hown (hz _ kn_X_66) dX_values_34 ?_
        refine zt_ti (y := nI 1000000) (by decide) ?_
        refine zj_le (tgt := 49) hx hb dX_values_36 (by decide) (by omega) (by omega) (fun c36 => ?_) (fun c36 => ?_)
        · refine lv_iload_n hx hb dX_values_49 rfl (lv_at hl 1 rfl) ?_
          refine lv_iconst (v := nI 4) hx hb dX_values_50 (by decide) ?_
          refine lv_imul hx hb dX_values_51 ?_
          refine zt_ti (pk_mul _ _) ?_
          refine lv_iload_n hx hb dX_values_52 rfl (lv_at hl 2 rfl) ?_
          refine lv_iadd hx hb dX_values_53 ?_
          refine zt_ti (nI_add _ _) ?_
          refine zt_ti (y := nI (4 * a1 + a2)) (by rw [Nat.mul_comm a1 4]) ?_
          refine lv_istore (lv' := [(4, .int (nI (4 * a1 + a2))), (0, .ref (ad 0)), (1, .int (nI a1)), (2, .int (nI a2)), (3, .int (nI a3))]) hx hb dX_values_54 hl (by decide) rfl (fun ls hl => ?_)
          refine lv_aload_n hx hb dX_values_56 rfl (lv_at hl 1 rfl) ?_
          refine va_get (D := (dC, dI)) (ci := 0) (v := .ref (ad 2)) (C := RX) (T := TX) (N := 9) hx hb hz in_X hown hK hP 0 rfl rfl 1 (by decide) (hz _ kf_X_13) (fun _ h9 => h9) rfl dX_values_57 ?_
          refine lv_iload hx hb dX_values_60 (lv_at hl 0 rfl) ?_
          refine zt_iald hx hb hK hP 2 0 rfl rfl (i := (4 * a1 + a2)) (by omega) (by decide) (v := (nI (V (4 * a1 + a2)))) (hval _ (by omega)) dX_values_62 ?_
          refine lv_istore (lv' := [(5, .int (nI (V (4 * a1 + a2)))), (4, .int (nI (4 * a1 + a2))), (0, .ref (ad 0)), (1, .int (nI a1)), (2, .int (nI a2)), (3, .int (nI a3))]) hx hb dX_values_63 hl (by decide) rfl (fun ls hl => ?_)
          refine lv_aload_n hx hb dX_values_65 rfl (lv_at hl 2 rfl) ?_
          refine va_get (D := (dC, dI)) (ci := 0) (v := .ref (ad 2)) (C := RX) (T := TX) (N := 9) hx hb hz in_X hown hK hP 0 rfl rfl 1 (by decide) (hz _ kf_X_13) (fun _ h9 => h9) rfl dX_values_66 ?_
          refine lv_iload hx hb dX_values_69 (lv_at hl 1 rfl) ?_
          refine lv_iload_n hx hb dX_values_71 rfl (lv_at hl 5 rfl) ?_
          refine zt_iast hx hb hK hP (zx_D had) hS 2 0 rfl rfl (i := (4 * a1 + a2)) (by omega) (by decide) dX_values_72 (fun H locs hP _ hS => ?_)
          have hP : va_P (dC, dI) zcl (zx_w ad cI cJ lev (upd val (4 * a1 + a2) (nI a3)) pkd cst chs D N F k) H := hP
          refine lv_aload_n hx hb dX_values_73 rfl (lv_at hl 2 rfl) ?_
          refine zg_callW (zg_runC (rest := []) hx hb hml hown (tX_forgetChosen l had hF) (wcX_57 hz (Nat.le_of_ble_eq_true rfl) (Nat.le_of_ble_eq_true rfl)) (hz _ ki_X_forgetChosen) (hz _ ks_X_forgetChosen) (hz _ kC_X_forgetChosen) hP hK rfl (q0 := 0) rfl rfl hl.1 rfl (Nat.le_of_ble_eq_true rfl) dX_values_74 ⟨Nat.le_of_ble_eq_true rfl, Nat.le_of_ble_eq_true rfl⟩) hS (fun q h => zg_A_up hS.1 h) (fun q h => zg_A_up hS.1 h) (fun f H locs hf hP hz9 hk9 hS => ?_)
          refine W.eq (g2 := F0 m 77 ls []) rfl ?_
          refine lv_iload hx hb dX_values_77 (lv_at hl 0 rfl) ?_
          exact zt_ri hx hb hr hlocks (fun t ht _ => Or.inl ⟨by unfold zc_val; rw [if_pos ⟨by omega, by omega, by omega⟩], f, rfl, hf, by rw [ht]; exact hP, hS.F ht⟩) (hS.2.2) dX_values_79
        · exact zt_throwA (tx := "n is not 0 .. 1000000") hx hb htr (hl.1.trans hml.symm) hown hz hTS (by decide +kernel) hout hlocks dX_values_39 dX_values_42 dX_values_43 dX_values_45 dX_values_48 (Nat.le_of_ble_eq_true rfl) (Nat.le_of_ble_eq_true rfl) (Nat.le_of_ble_eq_true rfl) (Nat.le_of_ble_eq_true rfl) (Nat.le_of_ble_eq_true rfl) (Nat.le_of_ble_eq_true rfl) (fun t x hTh hW => Or.inr (Or.inl ⟨by unfold zc_val; rw [if_neg (by omega)], x, rfl, hTh⟩))
    · exact zt_throwA (tx := "there is no such level") hx hb htr (hl.1.trans hml.symm) hown hz hTS (by decide +kernel) hout hlocks dX_values_19 dX_values_22 dX_values_23 dX_values_25 dX_values_28 (Nat.le_of_ble_eq_true rfl) (Nat.le_of_ble_eq_true rfl) (Nat.le_of_ble_eq_true rfl) (Nat.le_of_ble_eq_true rfl) (Nat.le_of_ble_eq_true rfl) (Nat.le_of_ble_eq_true rfl) (fun t x hTh hW => Or.inr (Or.inl ⟨by unfold zc_val; rw [if_neg (by omega)], x, rfl, hTh⟩))
set_option maxHeartbeats 4000000 in
set_option maxRecDepth 100000 in
/-- dimension -/
theorem tX_dimension (l : Launch) {dC : Nat → ClassId} {dI : Nat → Nat → Nat} {cI cJ cB : ClassId} {ad : Nat → Nat} {lev val pkd : Nat → Int32} {cst : Nat → Int64} {chs : Nat → Int32} {D N F k : Nat} {L V : Nat → Nat} {p0 : Int32} {sz : Nat} (had : zg_ap ad 6) (hst : l.stackTraces = false) (hR : zx_R D N F L V lev val pkd) : zt_Met l yX_dimension wX_dimension rX_dimension (va_Pc [.ref (ad 0), .int p0] (zg_U dC dI cI cJ cB (zx_w ad cI cJ lev val pkd cst chs D N F k) sz)) (zg_X dC dI (zc_dim (zn p0) D N) (fun _ => some (.int (nI D))) (fun u : (Nat → Int32) × (Nat → Int64) => (∀ w, w < N * (zn p0 + 1) → u.1 w = nI (zq_pk (zq_up L D (zn p0)) (D + 1) w)) ∧ ∀ j, j < 512 → u.2 j = lN F) (fun u => zx_w ad cI cJ (upd lev D (nI (zn p0))) val u.1 u.2 chs (D + 1) (N * (zn p0 + 1)) F 0) (zg_A ad 6 sz)) 0 0 1 6 (zg_A ad 6 sz) := by
  generalize ha1 : zn p0 = a1
  refine zt_ofW (cc := cX_dimension) (maxL := 3) (ret := (some .int)) (by decide) rfl ?_
  intro p e s m args below meth c s₁ B hml hout hv
  obtain ⟨rfl, hsz, hP, hK, hTS⟩ := hv
  have hx := B.exec
  have hb := B.bytes
  have hr := B.returns
  have hz : ∀ w ∈ zw0, w.before ([.ref (ad 0), .int p0] : List Value).toArray s = true := fun w h => atoms_spec (ws := wX_dimension) B.pre w (List.mem_cons_of_mem _ h)
  have hown : s.vm.findClass RX = some m.cls := findClass_of_methodNamed B.named
  have hlocks := B.notSynchronized
  subst hsz
  have hS : va_S (zg_A ad 6 s.heap.size) s.heap s.heap [] := va_S.rf
  have hl := lv_entry ([.ref (ad 0), .int p0]) (n := 3) (Nat.le_of_ble_eq_true rfl)
  rw [lg_entry_eq]
  generalize (lg_sl ([.ref (ad 0), .int p0]) ++ List.replicate (3 - (lg_sl ([.ref (ad 0), .int p0])).length) Slot.unset).toArray = ls at hl ⊢
  have hl : lv_has ls 3 [(0, .ref (ad 0)), (1, .int p0)] := hl
  have htr : e.platform.stackTraces = false := (show e.platform.stackTraces = l.stackTraces by rw [B.admits.platform]).trans hst
  obtain ⟨hD, hL, hN, hN5, hF, hVb, hlev, hval, hpk⟩ := hR
  have hL4 : ∀ j, j < D → L j ≤ 4 := fun j hj => (hL j hj).2
  have hN0 : 0 < N := by rw [hN]; exact zq_nv_pos L D
  rcases zn_cases p0 with ⟨h0, e0⟩ | ⟨n, hn, rfl, e0⟩
  · have ea : a1 = 2 ^ 31 := ha1.symm.trans e0
    refine lv_iload_n hx hb dX_dimension_0 rfl (lv_at hl 1 rfl) ?_
    refine lv_iconst (v := nI 1) hx hb dX_dimension_1 (by decide) ?_
    refine lv_icmp_lt (tgt := 10) hx hb dX_dimension_2 (by decide) (fun _ => ?_) (fun c2 => absurd c2 (not_not_intro (Int32.lt_trans h0 (show (0 : Int32) < nI 1 by decide))))
    exact zt_throwA (tx := "levels are not 1 .. 4") hx hb htr (hl.1.trans hml.symm) hown hz hTS (by decide +kernel) hout hlocks dX_dimension_10 dX_dimension_13 dX_dimension_14 dX_dimension_16 dX_dimension_19 (Nat.le_of_ble_eq_true rfl) (Nat.le_of_ble_eq_true rfl) (Nat.le_of_ble_eq_true rfl) (Nat.le_of_ble_eq_true rfl) (Nat.le_of_ble_eq_true rfl) (Nat.le_of_ble_eq_true rfl) (fun t x hTh hW => Or.inr (Or.inl ⟨by unfold zc_dim; rw [if_neg (by omega)], x, rfl, hTh⟩))
  · have ea : a1 = n := ha1.symm.trans e0
    subst ea
    refine lv_iload_n hx hb dX_dimension_0 rfl (lv_at hl 1 rfl) ?_
    refine lv_iconst (v := nI 1) hx hb dX_dimension_1 (by decide) ?_
    refine zj_lt (tgt := 10) hx hb dX_dimension_2 (by decide) (by omega) (by omega) (fun c2 => ?_) (fun c2 => ?_)
    · exact zt_throwA (tx := "levels are not 1 .. 4") hx hb htr (hl.1.trans hml.symm) hown hz hTS (by decide +kernel) hout hlocks dX_dimension_10 dX_dimension_13 dX_dimension_14 dX_dimension_16 dX_dimension_19 (Nat.le_of_ble_eq_true rfl) (Nat.le_of_ble_eq_true rfl) (Nat.le_of_ble_eq_true rfl) (Nat.le_of_ble_eq_true rfl) (Nat.le_of_ble_eq_true rfl) (Nat.le_of_ble_eq_true rfl) (fun t x hTh hW => Or.inr (Or.inl ⟨by unfold zc_dim; rw [if_neg (by omega)], x, rfl, hTh⟩))
    · refine lv_iload_n hx hb dX_dimension_5 rfl (lv_at hl 1 rfl) ?_
      refine lv_iconst (v := nI 4) hx hb dX_dimension_6 (by decide) ?_
      refine zj_le (tgt := 20) hx hb dX_dimension_7 (by decide) (by omega) (by omega) (fun c7 => ?_) (fun c7 => ?_)
      · have hmul : N * (a1 + 1) ≤ 512 * 5 := Nat.mul_le_mul hN5 (by omega)
        refine lv_aload_n hx hb dX_dimension_20 rfl (lv_at hl 0 rfl) ?_
        refine va_get (D := (dC, dI)) (ci := 0) (v := .int (nI D)) (C := RX) (T := TX) (N := 9) hx hb hz in_X hown hK hP 0 rfl rfl 5 (by decide) (hz _ kf_X_26) (fun _ h9 => h9) rfl dX_dimension_21 ?_
        refine lv_bipush (v := nI 8) hx hb dX_dimension_24 (by decide) ?_
        refine zj_lt (tgt := 39) hx hb dX_dimension_26 (by decide) (by omega) (by omega) (fun c26 => ?_) (fun c26 => ?_)
        · refine lv_aload_n hx hb dX_dimension_39 rfl (lv_at hl 0 rfl) ?_
          refine va_get (D := (dC, dI)) (ci := 0) (v := .int (nI N)) (C := RX) (T := TX) (N := 9) hx hb hz in_X hown hK hP 0 rfl rfl 6 (by decide) (hz _ kf_X_30) (fun _ h9 => h9) rfl dX_dimension_40 ?_
          refine lv_iload_n hx hb dX_dimension_43 rfl (lv_at hl 1 rfl) ?_
          refine lv_iconst (v := nI 1) hx hb dX_dimension_44 (by decide) ?_
          refine lv_iadd hx hb dX_dimension_45 ?_
          refine zt_ti (nI_add _ _) ?_
          refine lv_imul hx hb dX_dimension_46 ?_
          refine zt_ti (pk_mul _ _) ?_
          refine lv_sipush (v := nI 512) hx hb dX_dimension_47 (by decide) ?_
          refine zj_le (tgt := 63) hx hb dX_dimension_50 (by decide) (by omega) (by omega) (fun c50 => ?_) (fun c50 => ?_)
          · refine lv_aload_n hx hb dX_dimension_63 rfl (lv_at hl 0 rfl) ?_
            refine va_get (D := (dC, dI)) (ci := 0) (v := .int (nI D)) (C := RX) (T := TX) (N := 9) hx hb hz in_X hown hK hP 0 rfl rfl 5 (by decide) (hz _ kf_X_26) (fun _ h9 => h9) rfl dX_dimension_64 ?_
            refine lv_istore_n (lv' := [(2, .int (nI D)), (0, .ref (ad 0)), (1, .int (nI a1))]) hx hb dX_dimension_67 rfl hl (by decide) rfl (fun ls hl => ?_)
            refine lv_aload_n hx hb dX_dimension_68 rfl (lv_at hl 1 rfl) ?_
            refine lv_iload_n hx hb dX_dimension_69 rfl (lv_at hl 0 rfl) ?_
            refine lv_iload_n hx hb dX_dimension_70 rfl (lv_at hl 2 rfl) ?_
            refine lv_iconst (v := nI 1) hx hb dX_dimension_71 (by decide) ?_
            refine lv_iadd hx hb dX_dimension_72 ?_
            refine zt_ti (nI_add _ _) ?_
            refine zg_callW (zg_runC (rest := []) hx hb hml hown (tX_splitViews l (L := L) (n := a1) had (by omega) hL4 (by omega) hN0 (by omega) hpk) (wcX_53 hz (Nat.le_of_ble_eq_true rfl) (Nat.le_of_ble_eq_true rfl)) (hz _ ki_X_splitViews) (hz _ ks_X_splitViews) (hz _ kC_X_splitViews) hP hK rfl (q0 := 0) rfl rfl hl.1 rfl (Nat.le_of_ble_eq_true rfl) dX_dimension_73 ⟨Nat.le_of_ble_eq_true rfl, Nat.le_of_ble_eq_true rfl⟩) hS (fun q h => zg_A_up hS.1 h) (fun q h => zg_A_up hS.1 h) (fun g9 H locs hg9 hP hz9 hk9 hS => ?_)
            refine W.eq (g2 := F0 m 76 ls []) rfl ?_
            refine lv_aload_n hx hb dX_dimension_76 rfl (lv_at hl 1 rfl) ?_
            refine va_get (D := (dC, dI)) (ci := 0) (v := .ref (ad 1)) (C := RX) (T := TX) (N := 9) hx hb hz in_X hown hK hP 0 rfl rfl 0 (by decide) (hz _ kf_X_9) (fun _ h9 => h9) rfl dX_dimension_77 ?_
            refine lv_iload_n hx hb dX_dimension_80 rfl (lv_at hl 0 rfl) ?_
            refine lv_iload_n hx hb dX_dimension_81 rfl (lv_at hl 2 rfl) ?_
            refine zt_iast hx hb hK hP (zx_D had) hS 1 0 rfl rfl (i := D) (by omega) (by decide) dX_dimension_82 (fun H locs hP _ hS => ?_)
            have hP : va_P (dC, dI) zcl (zx_w ad cI cJ (upd lev D (nI a1)) val g9 cst chs D (N * (a1 + 1)) F k) H := hP
            refine lv_aload_n hx hb dX_dimension_83 rfl (lv_at hl 1 rfl) ?_
            refine lv_iload_n hx hb dX_dimension_84 rfl (lv_at hl 0 rfl) ?_
            refine lv_iconst (v := nI 1) hx hb dX_dimension_85 (by decide) ?_
            refine lv_iadd hx hb dX_dimension_86 ?_
            refine zt_ti (nI_add _ _) ?_
            refine va_put (D := (dC, dI)) (ci := 0) (v := .int (nI (D + 1))) (ty := .int) (C := RX) (T := TX) (N := 9) hx hb hz in_X tyX tyX_ok nmX hown hK hP (zx_D had) hS 0 rfl rfl 5 (by decide) (hz _ kf_X_26) (fun _ h9 => h9) rfl (by decide +kernel) rfl rfl (Nat.le_of_ble_eq_true rfl) dX_dimension_87 (fun H locs hP _ hS => ?_)
            have hP : va_P (dC, dI) zcl (zx_w ad cI cJ (upd lev D (nI a1)) val g9 cst chs (D + 1) (N * (a1 + 1)) F k) H := hP
            refine lv_aload_n hx hb dX_dimension_90 rfl (lv_at hl 1 rfl) ?_
            refine zg_callW (zg_runC (rest := []) hx hb hml hown (tX_forgetChosen l had hF) (wcX_57 hz (Nat.le_of_ble_eq_true rfl) (Nat.le_of_ble_eq_true rfl)) (hz _ ki_X_forgetChosen) (hz _ ks_X_forgetChosen) (hz _ kC_X_forgetChosen) hP hK rfl (q0 := 0) rfl rfl hl.1 rfl (Nat.le_of_ble_eq_true rfl) dX_dimension_91 ⟨Nat.le_of_ble_eq_true rfl, Nat.le_of_ble_eq_true rfl⟩) hS (fun q h => zg_A_up hS.1 h) (fun q h => zg_A_up hS.1 h) (fun f H locs hf hP hz9 hk9 hS => ?_)
            refine W.eq (g2 := F0 m 94 ls []) rfl ?_
            refine lv_iload_n hx hb dX_dimension_94 rfl (lv_at hl 0 rfl) ?_
            exact zt_ri hx hb hr hlocks (fun t ht _ => Or.inl ⟨by unfold zc_dim; rw [if_pos ⟨by omega, by omega⟩, if_pos ⟨by omega, by omega⟩], (g9, f), rfl, ⟨hg9, hf⟩, by rw [ht]; exact hP, hS.F ht⟩) (hS.2.2) dX_dimension_95
          · exact zt_throwI (tx := "there would be more than 512 views") hx hb htr (hl.1.trans hml.symm) hown hz hTS (by decide +kernel) hout hlocks dX_dimension_53 dX_dimension_56 dX_dimension_57 dX_dimension_59 dX_dimension_62 (Nat.le_of_ble_eq_true rfl) (Nat.le_of_ble_eq_true rfl) (Nat.le_of_ble_eq_true rfl) (Nat.le_of_ble_eq_true rfl) (Nat.le_of_ble_eq_true rfl) (Nat.le_of_ble_eq_true rfl) (fun t x hTh hW => Or.inr (Or.inr ⟨by unfold zc_dim; rw [if_pos ⟨by omega, by omega⟩, if_neg (by omega)], x, rfl, hTh⟩))
        · exact zt_throwI (tx := "there are 8 dimensions") hx hb htr (hl.1.trans hml.symm) hown hz hTS (by decide +kernel) hout hlocks dX_dimension_29 dX_dimension_32 dX_dimension_33 dX_dimension_35 dX_dimension_38 (Nat.le_of_ble_eq_true rfl) (Nat.le_of_ble_eq_true rfl) (Nat.le_of_ble_eq_true rfl) (Nat.le_of_ble_eq_true rfl) (Nat.le_of_ble_eq_true rfl) (Nat.le_of_ble_eq_true rfl) (fun t x hTh hW => Or.inr (Or.inr ⟨by unfold zc_dim; rw [if_pos ⟨by omega, by omega⟩, if_neg (by omega)], x, rfl, hTh⟩))
      · exact zt_throwA (tx := "levels are not 1 .. 4") hx hb htr (hl.1.trans hml.symm) hown hz hTS (by decide +kernel) hout hlocks dX_dimension_10 dX_dimension_13 dX_dimension_14 dX_dimension_16 dX_dimension_19 (Nat.le_of_ble_eq_true rfl) (Nat.le_of_ble_eq_true rfl) (Nat.le_of_ble_eq_true rfl) (Nat.le_of_ble_eq_true rfl) (Nat.le_of_ble_eq_true rfl) (Nat.le_of_ble_eq_true rfl) (fun t x hTh hW => Or.inr (Or.inl ⟨by unfold zc_dim; rw [if_neg (by omega)], x, rfl, hTh⟩))
set_option maxHeartbeats 4000000 in
set_option maxRecDepth 100000 in
/-- take -/
theorem tX_take (l : Launch) {dC : Nat → ClassId} {dI : Nat → Nat → Nat} {cI cJ cB : ClassId} {ad : Nat → Nat} {lev val pkd : Nat → Int32} {cst : Nat → Int64} {chs : Nat → Int32} {D N F k : Nat} {L V S : Nat → Nat} {p0 : Int32} {sz : Nat} (had : zg_ap ad 6) (hst : l.stackTraces = false) (hR : zx_R D N F L V lev val pkd) (hJ : zx_J D N F k L V S cst chs) (hk : k ≤ 16) : zt_Met l yX_take wX_take rX_take (va_Pc [.ref (ad 0), .int p0] (zg_U dC dI cI cJ cB (zx_w ad cI cJ lev val pkd cst chs D N F k) sz)) (zg_X dC dI (zc_take (zn p0) N k) (fun _ => some (.int (nI (k + 1)))) (fun u : (Nat → Int64) × (Nat → Int32) => zx_J D N F (k + 1) L V (zq_up S k (zn p0)) u.1 u.2) (fun u => zx_w ad cI cJ lev val pkd u.1 u.2 D N F (k + 1)) (zg_A ad 6 sz)) 0 0 1 6 (zg_A ad 6 sz) := by
  generalize ha1 : zn p0 = a1
  refine zt_ofW (cc := cX_take) (maxL := 2) (ret := (some .int)) (by decide) rfl ?_
  intro p e s m args below meth c s₁ B hml hout hv
  obtain ⟨rfl, hsz, hP, hK, hTS⟩ := hv
  have hx := B.exec
  have hb := B.bytes
  have hr := B.returns
  have hz : ∀ w ∈ zw0, w.before ([.ref (ad 0), .int p0] : List Value).toArray s = true := fun w h => atoms_spec (ws := wX_take) B.pre w (List.mem_cons_of_mem _ h)
  have hown : s.vm.findClass RX = some m.cls := findClass_of_methodNamed B.named
  have hlocks := B.notSynchronized
  subst hsz
  have hS : va_S (zg_A ad 6 s.heap.size) s.heap s.heap [] := va_S.rf
  have hl := lv_entry ([.ref (ad 0), .int p0]) (n := 2) (Nat.le_of_ble_eq_true rfl)
  rw [lg_entry_eq]
  generalize (lg_sl ([.ref (ad 0), .int p0]) ++ List.replicate (2 - (lg_sl ([.ref (ad 0), .int p0])).length) Slot.unset).toArray = ls at hl ⊢
  have hl : lv_has ls 2 [(0, .ref (ad 0)), (1, .int p0)] := hl
  have htr : e.platform.stackTraces = false := (show e.platform.stackTraces = l.stackTraces by rw [B.admits.platform]).trans hst
  have hR9 := hR
  obtain ⟨hD, hL, hN, hN5, hF, hVb, hlev, hval, hpk⟩ := hR
  have hi0 := zn_in p0 (n := N) (by omega)
  rw [ha1] at hi0
  refine lv_aload_n hx hb dX_take_0 rfl (lv_at hl 0 rfl) ?_
  refine lv_iload_n hx hb dX_take_1 rfl (lv_at hl 1 rfl) ?_
  refine zt_callP (zg_runT (rest := []) hx hb hml hown (tX_checkView l hst hN5) (wcX_71 hz (Nat.le_of_ble_eq_true rfl) (Nat.le_of_ble_eq_true rfl)) (hz _ ki_X_checkView) (hz _ ks_X_checkView) (hz _ kC_X_checkView) hP hK hTS rfl (q0 := 0) rfl rfl hl.1 rfl (Nat.le_of_ble_eq_true rfl) dX_take_2 ⟨Nat.le_of_ble_eq_true rfl, Nat.le_of_ble_eq_true rfl⟩) hout hlocks (Nat.le_of_ble_eq_true rfl) (Nat.le_of_ble_eq_true rfl) (fun hno t x hTh hW => Or.inr (Or.inl ⟨by unfold zc_take; rw [if_neg (fun q => hno (by rw [hi0]; exact decide_eq_true q))], x, rfl, hTh⟩)) (fun hok => ?_)
  refine W.eq (g2 := F0 m 5 ls []) rfl ?_
  rw [hi0] at hok
  have hok := of_decide_eq_true hok
  refine lv_aload_n hx hb dX_take_5 rfl (lv_at hl 0 rfl) ?_
  refine zt_callP (zg_runT (rest := []) hx hb hml hown (tX_checkRoomForChosen l hst hk) (wcX_91 hz (Nat.le_of_ble_eq_true rfl) (Nat.le_of_ble_eq_true rfl)) (hz _ ki_X_checkRoomForChosen) (hz _ ks_X_checkRoomForChosen) (hz _ kC_X_checkRoomForChosen) hP hK hTS rfl (q0 := 0) rfl rfl hl.1 rfl (Nat.le_of_ble_eq_true rfl) dX_take_6 ⟨Nat.le_of_ble_eq_true rfl, Nat.le_of_ble_eq_true rfl⟩) hout hlocks (Nat.le_of_ble_eq_true rfl) (Nat.le_of_ble_eq_true rfl) (fun hno t x hTh hW => Or.inr (Or.inr ⟨by unfold zc_take; rw [if_pos hok, if_neg hno], x, rfl, hTh⟩)) (fun hk2 => ?_)
  refine W.eq (g2 := F0 m 9 ls []) rfl ?_
  obtain ⟨d, hd, rfl, e0⟩ : ∃ d, d < 2 ^ 31 ∧ p0 = nI d ∧ zn p0 = d := (zn_cases p0).resolve_left (fun q => by have := q.2; omega)
  have ea : a1 = d := ha1.symm.trans e0
  subst ea
  refine lv_aload_n hx hb dX_take_9 rfl (lv_at hl 0 rfl) ?_
  refine lv_iload_n hx hb dX_take_10 rfl (lv_at hl 1 rfl) ?_
  refine zg_callW (zg_runC (rest := []) hx hb hml hown (tX_addChosen l (zx_J_c hJ) had hR9 hok hk2) (wcX_94 hz (Nat.le_of_ble_eq_true rfl) (Nat.le_of_ble_eq_true rfl)) (hz _ ki_X_addChosen) (hz _ ks_X_addChosen) (hz _ kC_X_addChosen) hP hK rfl (q0 := 0) rfl rfl hl.1 rfl (Nat.le_of_ble_eq_true rfl) dX_take_11 ⟨Nat.le_of_ble_eq_true rfl, Nat.le_of_ble_eq_true rfl⟩) hS (fun q h => zg_A_up hS.1 h) (fun q h => zg_A_up hS.1 h) (fun f H locs hf hP hz9 hk9 hS => ?_)
  refine W.eq (g2 := F0 m 14 ls []) rfl ?_
  refine lv_aload_n hx hb dX_take_14 rfl (lv_at hl 0 rfl) ?_
  refine va_get (D := (dC, dI)) (ci := 0) (v := .int (nI (k + 1))) (C := RX) (T := TX) (N := 9) hx hb hz in_X hown hK hP 0 rfl rfl 8 (by decide) (hz _ kf_X_36) (fun _ h9 => h9) rfl dX_take_15 ?_
  exact zt_ri hx hb hr hlocks (fun t ht _ => Or.inl ⟨by unfold zc_take; rw [if_pos hok, if_pos hk2], (f, upd chs k (nI a1)), rfl, zx_J_up hJ hf, by rw [ht]; exact hP, hS.F ht⟩) (hS.2.2) dX_take_18
set_option maxHeartbeats 4000000 in
set_option maxRecDepth 100000 in
/-- step -/
theorem tX_step (l : Launch) {dC : Nat → ClassId} {dI : Nat → Nat → Nat} {cI cJ cB : ClassId} {ad : Nat → Nat} {lev val pkd : Nat → Int32} {cst : Nat → Int64} {chs : Nat → Int32} {D N F k : Nat} {L V S : Nat → Nat} {sz : Nat} (had : zg_ap ad 6) (hst : l.stackTraces = false) (hR : zx_R D N F L V lev val pkd) (hJ : zx_J D N F k L V S cst chs) (hk : k ≤ 16) : zt_Met l yX_step wX_step rX_step (va_Pc [.ref (ad 0)] (zg_U dC dI cI cJ cB (zx_w ad cI cJ lev val pkd cst chs D N F k) sz)) (zg_X dC dI (zc_step k) (fun _ => some (.int (nI (zq_pick D N F L V k S) - 1))) (fun u : (Nat → Int64) × (Nat → Int32) => zx_J D N F (zq_go (zq_pick D N F L V) 1 k S).1 L V (zq_go (zq_pick D N F L V) 1 k S).2 u.1 u.2) (fun u => zx_w ad cI cJ lev val pkd u.1 u.2 D N F ((zq_go (zq_pick D N F L V) 1 k S).1)) (zg_A ad 6 sz)) 0 0 1 6 (zg_A ad 6 sz) := by
  refine zt_ofW (cc := cX_step) (maxL := 2) (ret := (some .int)) (by decide) rfl ?_
  intro p e s m args below meth c s₁ B hml hout hv
  obtain ⟨rfl, hsz, hP, hK, hTS⟩ := hv
  have hx := B.exec
  have hb := B.bytes
  have hr := B.returns
  have hz : ∀ w ∈ zw0, w.before ([.ref (ad 0)] : List Value).toArray s = true := fun w h => atoms_spec (ws := wX_step) B.pre w (List.mem_cons_of_mem _ h)
  have hown : s.vm.findClass RX = some m.cls := findClass_of_methodNamed B.named
  have hlocks := B.notSynchronized
  subst hsz
  have hS : va_S (zg_A ad 6 s.heap.size) s.heap s.heap [] := va_S.rf
  have hl := lv_entry ([.ref (ad 0)]) (n := 2) (Nat.le_of_ble_eq_true rfl)
  rw [lg_entry_eq]
  generalize (lg_sl ([.ref (ad 0)]) ++ List.replicate (2 - (lg_sl ([.ref (ad 0)])).length) Slot.unset).toArray = ls at hl ⊢
  have hl : lv_has ls 2 [(0, .ref (ad 0))] := hl
  have htr : e.platform.stackTraces = false := (show e.platform.stackTraces = l.stackTraces by rw [B.admits.platform]).trans hst
  have hR9 := hR
  obtain ⟨hD, hL, hN, hN5, hF, hVb, hlev, hval, hpk⟩ := hR
  refine lv_aload_n hx hb dX_step_0 rfl (lv_at hl 0 rfl) ?_
  refine zt_callP (zg_runT (rest := []) hx hb hml hown (tX_checkRoomForChosen l hst hk) (wcX_91 hz (Nat.le_of_ble_eq_true rfl) (Nat.le_of_ble_eq_true rfl)) (hz _ ki_X_checkRoomForChosen) (hz _ ks_X_checkRoomForChosen) (hz _ kC_X_checkRoomForChosen) hP hK hTS rfl (q0 := 0) rfl rfl hl.1 rfl (Nat.le_of_ble_eq_true rfl) dX_step_1 ⟨Nat.le_of_ble_eq_true rfl, Nat.le_of_ble_eq_true rfl⟩) hout hlocks (Nat.le_of_ble_eq_true rfl) (Nat.le_of_ble_eq_true rfl) (fun hno t x hTh hW => Or.inr (Or.inr ⟨by unfold zc_step; rw [if_neg hno], x, rfl, hTh⟩)) (fun hk2 => ?_)
  refine W.eq (g2 := F0 m 4 ls []) rfl ?_
  refine lv_aload_n hx hb dX_step_4 rfl (lv_at hl 0 rfl) ?_
  refine zt_callRi (zg_run (rest := []) hx hb hml hown (tX_mostBeneficial l (zx_J_c hJ) hR9) (wcX_97 hz (Nat.le_of_ble_eq_true rfl) (Nat.le_of_ble_eq_true rfl)) (hz _ ki_X_mostBeneficial) (hz _ ks_X_mostBeneficial) (hz _ kC_X_mostBeneficial) hP hK rfl (q0 := 0) rfl rfl hl.1 rfl (Nat.le_of_ble_eq_true rfl) dX_step_5 ⟨Nat.le_of_ble_eq_true rfl, Nat.le_of_ble_eq_true rfl⟩) ?_
  refine lv_istore_n (lv' := [(1, .int (nI (zq_pick D N F L V k S) - 1)), (0, .ref (ad 0))]) hx hb dX_step_8 rfl hl (by decide) rfl (fun ls hl => ?_)
  refine lv_iload_n hx hb dX_step_9 rfl (lv_at hl 0 rfl) ?_
  refine lv_iconst (v := -1) hx hb dX_step_10 (by decide) ?_
  have hpl := zq_pick_le D N F L V k S
  have hgo : zq_go (zq_pick D N F L V) 1 k S = if zq_pick D N F L V k S = 0 then (k, S) else (k + 1, zq_up S k (zq_pick D N F L V k S - 1)) := rfl
  rw [hgo]
  generalize hpk9 : zq_pick D N F L V k S = b at hpl hl ⊢
  rcases b with _ | b
  · rw [if_pos rfl]
    refine lv_icmp_eq (tgt := 19) hx hb dX_step_11 (by decide) (fun _ => ?_) (fun c11 => absurd c11 (by decide))
    refine lv_iload_n hx hb dX_step_19 rfl (lv_at hl 0 rfl) ?_
    exact zt_ri hx hb hr hlocks (fun t ht _ => Or.inl ⟨by unfold zc_step; rw [if_pos hk2], (cst, chs), rfl, hJ, by rw [ht]; exact hP, hS.F ht⟩) (hS.2.2) dX_step_20
  · rw [if_neg (Nat.succ_ne_zero b), Nat.add_sub_cancel]
    rw [nI_pred] at hl ⊢
    refine lv_icmp_eq (tgt := 19) hx hb dX_step_11 (by decide) (fun c11 => absurd c11 (fun q => absurd (show nI b < 0 by rw [q]; decide) (nI_pos (by omega)))) (fun _ => ?_)
    refine lv_aload_n hx hb dX_step_14 rfl (lv_at hl 1 rfl) ?_
    refine lv_iload_n hx hb dX_step_15 rfl (lv_at hl 0 rfl) ?_
    refine zg_callW (zg_runC (rest := []) hx hb hml hown (tX_addChosen l (zx_J_c hJ) had hR9 (v := b) (by omega) hk2) (wcX_94 hz (Nat.le_of_ble_eq_true rfl) (Nat.le_of_ble_eq_true rfl)) (hz _ ki_X_addChosen) (hz _ ks_X_addChosen) (hz _ kC_X_addChosen) hP hK rfl (q0 := 0) rfl rfl hl.1 rfl (Nat.le_of_ble_eq_true rfl) dX_step_16 ⟨Nat.le_of_ble_eq_true rfl, Nat.le_of_ble_eq_true rfl⟩) hS (fun q h => zg_A_up hS.1 h) (fun q h => zg_A_up hS.1 h) (fun f H locs hf hP hz9 hk9 hS => ?_)
    refine W.eq (g2 := F0 m 19 ls []) rfl ?_
    refine lv_iload_n hx hb dX_step_19 rfl (lv_at hl 0 rfl) ?_
    exact zt_ri hx hb hr hlocks (fun t ht _ => Or.inl ⟨by unfold zc_step; rw [if_pos hk2], (f, upd chs k (nI b)), rfl, zx_J_up hJ hf, by rw [ht]; exact hP, hS.F ht⟩) (hS.2.2) dX_step_20
set_option maxHeartbeats 4000000 in
set_option maxRecDepth 100000 in
/-- choose -/
theorem tX_choose (l : Launch) {dC : Nat → ClassId} {dI : Nat → Nat → Nat} {cI cJ cB : ClassId} {ad : Nat → Nat} {lev val pkd : Nat → Int32} {cst : Nat → Int64} {chs : Nat → Int32} {D N F k : Nat} {L V S : Nat → Nat} {p0 : Int32} {sz : Nat} (had : zg_ap ad 6) (hst : l.stackTraces = false) (hR : zx_R D N F L V lev val pkd) (hJ : zx_J D N F k L V S cst chs) (hk : k ≤ 16) : zt_Met l yX_choose wX_choose rX_choose (va_Pc [.ref (ad 0), .int p0] (zg_U dC dI cI cJ cB (zx_w ad cI cJ lev val pkd cst chs D N F k) sz)) (zg_X dC dI (zc_cho (zn p0)) (fun _ => some (.int (nI (zq_go (zq_pick D N F L V) (zn p0 - k) k S).1))) (fun u : (Nat → Int64) × (Nat → Int32) => zx_J D N F (zq_go (zq_pick D N F L V) (zn p0 - k) k S).1 L V (zq_go (zq_pick D N F L V) (zn p0 - k) k S).2 u.1 u.2) (fun u => zx_w ad cI cJ lev val pkd u.1 u.2 D N F ((zq_go (zq_pick D N F L V) (zn p0 - k) k S).1)) (zg_A ad 6 sz)) 0 0 1 6 (zg_A ad 6 sz) := by
  generalize ha1 : zn p0 = a1
  refine zt_ofW (cc := cX_choose) (maxL := 4) (ret := (some .int)) (by decide) rfl ?_
  intro p e s m args below meth c s₁ B hml hout hv
  obtain ⟨rfl, hsz, hP, hK, hTS⟩ := hv
  have hx := B.exec
  have hb := B.bytes
  have hr := B.returns
  have hz : ∀ w ∈ zw0, w.before ([.ref (ad 0), .int p0] : List Value).toArray s = true := fun w h => atoms_spec (ws := wX_choose) B.pre w (List.mem_cons_of_mem _ h)
  have hown : s.vm.findClass RX = some m.cls := findClass_of_methodNamed B.named
  have hlocks := B.notSynchronized
  subst hsz
  have hS : va_S (zg_A ad 6 s.heap.size) s.heap s.heap [] := va_S.rf
  have hl := lv_entry ([.ref (ad 0), .int p0]) (n := 4) (Nat.le_of_ble_eq_true rfl)
  rw [lg_entry_eq]
  generalize (lg_sl ([.ref (ad 0), .int p0]) ++ List.replicate (4 - (lg_sl ([.ref (ad 0), .int p0])).length) Slot.unset).toArray = ls at hl ⊢
  have hl : lv_has ls 4 [(0, .ref (ad 0)), (1, .int p0)] := hl
  have htr : e.platform.stackTraces = false := (show e.platform.stackTraces = l.stackTraces by rw [B.admits.platform]).trans hst
  have hR9 := hR
  obtain ⟨hD, hL, hN, hN5, hF, hVb, hlev, hval, hpk⟩ := hR
  rcases zn_cases p0 with ⟨h0, e0⟩ | ⟨n, hn, rfl, e0⟩
  · have ea : a1 = 2 ^ 31 := ha1.symm.trans e0
    refine lv_iload_n hx hb dX_choose_0 rfl (lv_at hl 1 rfl) ?_
    refine lv_if_lt (tgt := 10) hx hb dX_choose_1 (by decide) (fun _ => ?_) (fun c1 => absurd c1 (not_not_intro h0))
    exact zt_throwA (tx := "k is not 0 .. 16") hx hb htr (hl.1.trans hml.symm) hown hz hTS (by decide +kernel) hout hlocks dX_choose_10 dX_choose_13 dX_choose_14 dX_choose_16 dX_choose_19 (Nat.le_of_ble_eq_true rfl) (Nat.le_of_ble_eq_true rfl) (Nat.le_of_ble_eq_true rfl) (Nat.le_of_ble_eq_true rfl) (Nat.le_of_ble_eq_true rfl) (Nat.le_of_ble_eq_true rfl) (fun t x hTh hW => Or.inr (Or.inl ⟨by unfold zc_cho; rw [if_neg (by omega)], x, rfl, hTh⟩))
  · have ea : a1 = n := ha1.symm.trans e0
    subst ea
    refine lv_iload_n hx hb dX_choose_0 rfl (lv_at hl 1 rfl) ?_
    refine lv_if_lt (tgt := 10) hx hb dX_choose_1 (by decide) (fun c1 => absurd c1 (nI_pos hn)) (fun _ => ?_)
    refine lv_iload_n hx hb dX_choose_4 rfl (lv_at hl 1 rfl) ?_
    refine lv_bipush (v := nI 16) hx hb dX_choose_5 (by decide) ?_
    refine zj_le (tgt := 20) hx hb dX_choose_7 (by decide) (by omega) (by omega) (fun c7 => ?_) (fun c7 => ?_)
    · refine lv_aload_n hx hb dX_choose_20 rfl (lv_at hl 0 rfl) ?_
      refine va_get (D := (dC, dI)) (ci := 0) (v := .int (nI k)) (C := RX) (T := TX) (N := 9) hx hb hz in_X hown hK hP 0 rfl rfl 8 (by decide) (hz _ kf_X_36) (fun _ h9 => h9) rfl dX_choose_21 ?_
      refine lv_istore_n (lv' := [(2, .int (nI k)), (0, .ref (ad 0)), (1, .int (nI a1))]) hx hb dX_choose_24 rfl hl (by decide) rfl (fun ls hl => ?_)
      have loop : ∀ (r k9 : Nat) (S9 : Nat → Nat), a1 - k9 = r → zq_go (zq_pick D N F L V) r k9 S9 = (zq_go (zq_pick D N F L V) (a1 - k) k S) → k9 ≤ 16 → ∀ (f : Nat → Int64) (g : Nat → Int32) (H : Heap) (locs : List Loc), zx_J D N F k9 L V S9 f g → va_P (dC, dI) zcl (zx_w ad cI cJ lev val pkd f g D N F k9) H → va_S (zg_A ad 6 s.heap.size) s.heap H locs → ∀ ls : Array Slot, lv_has ls 4 [(0, .ref (ad 0)), (1, .int (nI a1)), (2, .int (nI k9))] → W p l e (headSpec wX_choose rX_choose).room s m ([.ref (ad 0), .int (nI a1)] : List Value).toArray below meth c H locs 0 0 (zt_MQ below (zg_X dC dI (zc_cho a1) (fun _ => some (.int (nI (zq_go (zq_pick D N F L V) (a1 - k) k S).1))) (fun u : (Nat → Int64) × (Nat → Int32) => zx_J D N F (zq_go (zq_pick D N F L V) (a1 - k) k S).1 L V (zq_go (zq_pick D N F L V) (a1 - k) k S).2 u.1 u.2) (fun u => zx_w ad cI cJ lev val pkd u.1 u.2 D N F ((zq_go (zq_pick D N F L V) (a1 - k) k S).1)) (zg_A ad 6 s.heap.size)) ([.ref (ad 0), .int (nI a1)] : List Value).toArray s 0 0 1 6 (zg_A ad 6 s.heap.size)) (F0 m 25 ls []) := by
        intro r
        induction r with
        | zero =>
          intro k9 S9 hr9 hgo hk9 f g H locs hJ9 hP hS ls hl
          have hgo : (k9, S9) = (zq_go (zq_pick D N F L V) (a1 - k) k S) := hgo
          refine lv_iload_n hx hb dX_choose_25 rfl (lv_at hl 2 rfl) ?_
          refine lv_iload_n hx hb dX_choose_26 rfl (lv_at hl 1 rfl) ?_
          refine zj_ge (tgt := 54) hx hb dX_choose_27 (by decide) (by omega) (by omega) (fun _ => ?_) (fun c27 => absurd c27 (by omega))
          refine lv_aload_n hx hb dX_choose_54 rfl (lv_at hl 0 rfl) ?_
          refine va_get (D := (dC, dI)) (ci := 0) (v := .int (nI k9)) (C := RX) (T := TX) (N := 9) hx hb hz in_X hown hK hP 0 rfl rfl 8 (by decide) (hz _ kf_X_36) (fun _ h9 => h9) rfl dX_choose_55 ?_
          rw [← hgo]
          exact zt_ri hx hb hr hlocks (fun t ht _ => Or.inl ⟨by unfold zc_cho; rw [if_pos (by omega)], (f, g), rfl, hJ9, by rw [ht]; exact hP, hS.F ht⟩) (hS.2.2) dX_choose_58
        | succ r ih =>
          intro k9 S9 hr9 hgo hk9 f g H locs hJ9 hP hS ls hl
          have hgo : (if zq_pick D N F L V k9 S9 = 0 then (k9, S9) else zq_go (zq_pick D N F L V) r (k9 + 1) (zq_up S9 k9 (zq_pick D N F L V k9 S9 - 1))) = (zq_go (zq_pick D N F L V) (a1 - k) k S) := hgo
          refine lv_iload_n hx hb dX_choose_25 rfl (lv_at hl 2 rfl) ?_
          refine lv_iload_n hx hb dX_choose_26 rfl (lv_at hl 1 rfl) ?_
          refine zj_ge (tgt := 54) hx hb dX_choose_27 (by decide) (by omega) (by omega) (fun c27 => absurd c27 (by omega)) (fun _ => ?_)
          refine lv_aload_n hx hb dX_choose_30 rfl (lv_at hl 0 rfl) ?_
          refine zt_callRi (zg_run (rest := []) hx hb hml hown (tX_mostBeneficial l (zx_J_c hJ9) hR9) (wcX_97 hz (Nat.le_of_ble_eq_true rfl) (Nat.le_of_ble_eq_true rfl)) (hz _ ki_X_mostBeneficial) (hz _ ks_X_mostBeneficial) (hz _ kC_X_mostBeneficial) hP hK rfl (q0 := 0) rfl rfl hl.1 rfl (Nat.le_of_ble_eq_true rfl) dX_choose_31 ⟨Nat.le_of_ble_eq_true rfl, Nat.le_of_ble_eq_true rfl⟩) ?_
          refine lv_istore_n (lv' := [(3, .int (nI (zq_pick D N F L V k9 S9) - 1)), (0, .ref (ad 0)), (1, .int (nI a1)), (2, .int (nI k9))]) hx hb dX_choose_34 rfl hl (by decide) rfl (fun ls hl => ?_)
          refine lv_iload_n hx hb dX_choose_35 rfl (lv_at hl 0 rfl) ?_
          refine lv_iconst (v := -1) hx hb dX_choose_36 (by decide) ?_
          have hpl := zq_pick_le D N F L V k9 S9
          generalize hpk9 : zq_pick D N F L V k9 S9 = b at hpl hl hgo ⊢
          rcases b with _ | b
          · rw [if_pos rfl] at hgo
            refine lv_icmp_ne (tgt := 43) hx hb dX_choose_37 (by decide) (fun c37 => absurd c37 (fun q => q (by decide))) (fun _ => ?_)
            refine lv_goto (tgt := 54) hx hb dX_choose_40 (by decide) ?_
            refine lv_aload_n hx hb dX_choose_54 rfl (lv_at hl 1 rfl) ?_
            refine va_get (D := (dC, dI)) (ci := 0) (v := .int (nI k9)) (C := RX) (T := TX) (N := 9) hx hb hz in_X hown hK hP 0 rfl rfl 8 (by decide) (hz _ kf_X_36) (fun _ h9 => h9) rfl dX_choose_55 ?_
            rw [← hgo]
            exact zt_ri hx hb hr hlocks (fun t ht _ => Or.inl ⟨by unfold zc_cho; rw [if_pos (by omega)], (f, g), rfl, hJ9, by rw [ht]; exact hP, hS.F ht⟩) (hS.2.2) dX_choose_58
          · rw [if_neg (Nat.succ_ne_zero b), Nat.add_sub_cancel] at hgo
            rw [nI_pred] at hl ⊢
            refine lv_icmp_ne (tgt := 43) hx hb dX_choose_37 (by decide) (fun _ => ?_) (fun c37 => absurd c37 (fun q => absurd (show nI b < 0 by rw [q]; decide) (nI_pos (by omega))))
            refine lv_aload_n hx hb dX_choose_43 rfl (lv_at hl 1 rfl) ?_
            refine lv_iload_n hx hb dX_choose_44 rfl (lv_at hl 0 rfl) ?_
            refine zg_callW (zg_runC (rest := []) hx hb hml hown (tX_addChosen l (zx_J_c hJ9) had hR9 (v := b) (by omega) (by omega)) (wcX_94 hz (Nat.le_of_ble_eq_true rfl) (Nat.le_of_ble_eq_true rfl)) (hz _ ki_X_addChosen) (hz _ ks_X_addChosen) (hz _ kC_X_addChosen) hP hK rfl (q0 := 0) rfl rfl hl.1 rfl (Nat.le_of_ble_eq_true rfl) dX_choose_45 ⟨Nat.le_of_ble_eq_true rfl, Nat.le_of_ble_eq_true rfl⟩) hS (fun q h => zg_A_up hS.1 h) (fun q h => zg_A_up hS.1 h) (fun f2 H locs hf2 hP hz9 hk9 hS => ?_)
            refine W.eq (g2 := F0 m 48 ls []) rfl ?_
            refine lv_iinc (v := nI (k9 + 1)) (lv' := [(2, .int (nI (k9 + 1))), (3, .int (nI b)), (0, .ref (ad 0)), (1, .int (nI a1))]) hx hb dX_choose_48 hl (k := 3) rfl (nI_1 _) (by decide) rfl (fun ls hl => ?_)
            refine lv_goto (tgt := 25) hx hb dX_choose_51 (by decide) ?_
            exact ih (k9 + 1) (zq_up S9 k9 b) (by omega) hgo (by omega) f2 _ H locs (zx_J_up hJ9 hf2) hP hS ls (lv_sub hl [2, 3, 0] rfl)
      exact loop (a1 - k) k S rfl rfl hk cst chs s.heap [] hJ hP hS ls (lv_sub hl [1, 2, 0] rfl)
    · exact zt_throwA (tx := "k is not 0 .. 16") hx hb htr (hl.1.trans hml.symm) hown hz hTS (by decide +kernel) hout hlocks dX_choose_10 dX_choose_13 dX_choose_14 dX_choose_16 dX_choose_19 (Nat.le_of_ble_eq_true rfl) (Nat.le_of_ble_eq_true rfl) (Nat.le_of_ble_eq_true rfl) (Nat.le_of_ble_eq_true rfl) (Nat.le_of_ble_eq_true rfl) (Nat.le_of_ble_eq_true rfl) (fun t x hTh hW => Or.inr (Or.inl ⟨by unfold zc_cho; rw [if_neg (by omega)], x, rfl, hTh⟩))
end
section
/-! what is read of the reference -/
def zm_R (D N F : Nat) (L V : Nat → Nat) (lev val dig : Nat → Int32) : Prop := D ≤ 8 ∧ (∀ j, j < D → 1 ≤ L j ∧ L j ≤ 4) ∧ N = zq_nv L D ∧ N ≤ 512 ∧ F < 2 ^ 31 ∧ (∀ j, V j ≤ 1000000) ∧ (∀ j, j < D → lev j = nI (L j)) ∧ (∀ j, j < 32 → val j = nI (V j)) ∧ ∀ w, w < N → ∀ d, d < D → dig (8 * w + d) = nI (zq_dg L D w d)
def zq_abn (L : Nat → Nat) (D u v i : Nat) : Bool := decide (∀ d, d < i → zq_dg L D u d ≤ zq_dg L D v d)
theorem zq_abn_0 (L : Nat → Nat) (D u v : Nat) : zq_abn L D u v 0 = true := decide_eq_true fun d h => absurd h (Nat.not_lt_zero d)
theorem zq_abn_t {L : Nat → Nat} {D u v i : Nat} (h : zq_abn L D u v i = true) (h2 : zq_dg L D u i ≤ zq_dg L D v i) : zq_abn L D u v (i + 1) = true := by
  refine decide_eq_true fun d hd => ?_
  by_cases e : d = i
  · rw [e]; exact h2
  · exact of_decide_eq_true h d (by omega)
theorem zq_abn_f {L : Nat → Nat} {D u v i : Nat} (h2 : ¬ zq_dg L D u i ≤ zq_dg L D v i) : zq_abn L D u v (i + 1) = false := decide_eq_false fun q => h2 (q i (Nat.lt_succ_self i))
theorem zq_abn_up {L : Nat → Nat} {D u v i : Nat} (h : zq_abn L D u v i = false) (hi : i ≤ D) : zq_ab L D u v = false := by
  cases h9 : zq_ab L D u v
  · rfl
  · have h8 : zq_abn L D u v i = true := decide_eq_true fun d hd => of_decide_eq_true h9 d (by omega)
    rw [h] at h8
    cases h8
theorem zq_i8 : ∀ n, n < 128 → (nI n).toInt8.toInt32 = nI n := by decide +kernel
theorem zq_cap5 {F P : Nat} (hF : F < 2 ^ 31) : min F (min 5000000000 P) = min F P := by omega
theorem zq_fac5 {P V : Nat} (hV : V ≤ 1000000) : min 5000000000 P * V < 2 ^ 63 := by
  have h2 : min 5000000000 P * V ≤ 5000000000 * 1000000 := Nat.mul_le_mul (Nat.min_le_left _ _) hV
  exact Nat.lt_of_le_of_lt h2 (by decide)
theorem zq_sdiv (L : Nat → Nat) {k x d : Nat} (h : d ≠ k + 1) : zq_dg L (k + 1) (x / (L (k + 1) + 1)) d = zq_dg L (k + 2) x d := (zq_dg_lower L h).symm
end
section
/-! the reference reads: by program (wip/gen/model_reads.py) -/
set_option maxHeartbeats 4000000 in
set_option maxRecDepth 100000 in
theorem tM_thrown (l : Launch) {dC : Nat → ClassId} {dI : Nat → Nat → Nat} {cI cJ cB : ClassId} {ad : Nat → Nat} {lev val chs dig : Nat → Int32} {est cst : Nat → Int64} {code : Int32} {D N F k : Nat} : zt_Met l yM_thrown wM_thrown rM_thrown (va_Pc [.ref (ad 0)] (zg_B dC dI cI cJ cB (zm_w ad cI cJ cB lev val chs dig est cst code D N F k))) (zt_Qr (some (.int code))) 0 0 0 0 (fun _ => False) := by
  refine zt_ofW (cc := cM_thrown) (maxL := 1) (ret := (some .int)) (by decide) rfl ?_
  intro p e s m args below meth c s₁ B hml hout hv
  obtain ⟨rfl, hP, hK⟩ := hv
  have hx := B.exec
  have hb := B.bytes
  have hr := B.returns
  have hz : ∀ w ∈ zw0, w.before ([.ref (ad 0)] : List Value).toArray s = true := fun w h => atoms_spec (ws := wM_thrown) B.pre w (List.mem_cons_of_mem _ h)
  have hown : s.vm.findClass RM = some m.cls := findClass_of_methodNamed B.named
  have hlocks := B.notSynchronized
  have hl := lv_entry ([.ref (ad 0)]) (n := 1) (Nat.le_of_ble_eq_true rfl)
  rw [lg_entry_eq]
  generalize (lg_sl ([.ref (ad 0)]) ++ List.replicate (1 - (lg_sl ([.ref (ad 0)])).length) Slot.unset).toArray = ls at hl ⊢
  have hl : lv_has ls 1 [(0, .ref (ad 0))] := hl
  refine lv_aload_n hx hb dM_thrown_0 rfl (lv_at hl 0 rfl) ?_
  refine va_get (D := (dC, dI)) (ci := 1) (v := .int code) (C := RM) (T := TM) (N := 11) hx hb hz in_M hown hK hP 0 rfl rfl 0 (by decide) (hz _ kf_M_34) (fun _ h9 => h9) rfl dM_thrown_1 ?_
  exact zt_ri hx hb hr hlocks (fun t ht _ => ⟨rfl, ht⟩) (fun q h => by cases h) dM_thrown_4
set_option maxHeartbeats 4000000 in
set_option maxRecDepth 100000 in
theorem tM_isDimension (l : Launch) {dC : Nat → ClassId} {dI : Nat → Nat → Nat} {cI cJ cB : ClassId} {ad : Nat → Nat} {lev val chs dig : Nat → Int32} {est cst : Nat → Int64} {code : Int32} {D N F k : Nat} {p0 : Int32} (h5 : D ≤ 512) : zt_Met l yM_isDimension wM_isDimension rM_isDimension (va_Pc [.ref (ad 0), .int p0] (zg_B dC dI cI cJ cB (zm_w ad cI cJ cB lev val chs dig est cst code D N F k))) (zt_Qr (some (.int (if zb_in p0 D = true then 1 else 0)))) 0 0 0 0 (fun _ => False) := by
  refine zt_ofW (cc := cM_isDimension) (maxL := 2) (ret := (some .boolean)) (by decide) rfl ?_
  intro p e s m args below meth c s₁ B hml hout hv
  obtain ⟨rfl, hP, hK⟩ := hv
  have hx := B.exec
  have hb := B.bytes
  have hr := B.returns
  have hz : ∀ w ∈ zw0, w.before ([.ref (ad 0), .int p0] : List Value).toArray s = true := fun w h => atoms_spec (ws := wM_isDimension) B.pre w (List.mem_cons_of_mem _ h)
  have hown : s.vm.findClass RM = some m.cls := findClass_of_methodNamed B.named
  have hlocks := B.notSynchronized
  have hl := lv_entry ([.ref (ad 0), .int p0]) (n := 2) (Nat.le_of_ble_eq_true rfl)
  rw [lg_entry_eq]
  generalize (lg_sl ([.ref (ad 0), .int p0]) ++ List.replicate (2 - (lg_sl ([.ref (ad 0), .int p0])).length) Slot.unset).toArray = ls at hl ⊢
  have hl : lv_has ls 2 [(0, .ref (ad 0)), (1, .int p0)] := hl
  refine lv_iload_n hx hb dM_isDimension_0 rfl (lv_at hl 1 rfl) ?_
  refine lv_if_lt (tgt := 16) hx hb dM_isDimension_1 (by decide) (fun c1 => ?_) (fun c1 => ?_)
  · refine lv_iconst (v := nI 0) hx hb dM_isDimension_16 (by decide) ?_
    exact zt_rz hx hb hr hlocks (rfl) (fun t ht _ => ⟨by rw [if_neg (zb_neg c1)]; rfl, ht⟩) (fun q h => by cases h) dM_isDimension_17
  · obtain ⟨j, hj, rfl⟩ := nI_of c1
    refine lv_iload_n hx hb dM_isDimension_4 rfl (lv_at hl 1 rfl) ?_
    refine lv_aload_n hx hb dM_isDimension_5 rfl (lv_at hl 0 rfl) ?_
    refine va_get (D := (dC, dI)) (ci := 1) (v := .int (nI D)) (C := RM) (T := TM) (N := 11) hx hb hz in_M hown hK hP 0 rfl rfl 1 (by decide) (hz _ kf_M_37) (fun _ h9 => h9) rfl dM_isDimension_6 ?_
    refine zj_ge (tgt := 16) hx hb dM_isDimension_9 (by decide) (by omega) (by omega) (fun c9 => ?_) (fun c9 => ?_)
    · refine lv_iconst (v := nI 0) hx hb dM_isDimension_16 (by decide) ?_
      exact zt_rz hx hb hr hlocks (rfl) (fun t ht _ => ⟨by rw [if_neg (zb_big c9 hj)]; rfl, ht⟩) (fun q h => by cases h) dM_isDimension_17
    · refine lv_iconst (v := nI 1) hx hb dM_isDimension_12 (by decide) ?_
      refine lv_goto (tgt := 17) hx hb dM_isDimension_13 (by decide) ?_
      exact zt_rz hx hb hr hlocks (rfl) (fun t ht _ => ⟨by rw [if_pos (zb_t c9 (by omega))]; rfl, ht⟩) (fun q h => by cases h) dM_isDimension_17
set_option maxHeartbeats 4000000 in
set_option maxRecDepth 100000 in
theorem tM_isView (l : Launch) {dC : Nat → ClassId} {dI : Nat → Nat → Nat} {cI cJ cB : ClassId} {ad : Nat → Nat} {lev val chs dig : Nat → Int32} {est cst : Nat → Int64} {code : Int32} {D N F k : Nat} {p0 : Int32} (h5 : N ≤ 512) : zt_Met l yM_isView wM_isView rM_isView (va_Pc [.ref (ad 0), .int p0] (zg_B dC dI cI cJ cB (zm_w ad cI cJ cB lev val chs dig est cst code D N F k))) (zt_Qr (some (.int (if zb_in p0 N = true then 1 else 0)))) 0 0 0 0 (fun _ => False) := by
  refine zt_ofW (cc := cM_isView) (maxL := 2) (ret := (some .boolean)) (by decide) rfl ?_
  intro p e s m args below meth c s₁ B hml hout hv
  obtain ⟨rfl, hP, hK⟩ := hv
  have hx := B.exec
  have hb := B.bytes
  have hr := B.returns
  have hz : ∀ w ∈ zw0, w.before ([.ref (ad 0), .int p0] : List Value).toArray s = true := fun w h => atoms_spec (ws := wM_isView) B.pre w (List.mem_cons_of_mem _ h)
  have hown : s.vm.findClass RM = some m.cls := findClass_of_methodNamed B.named
  have hlocks := B.notSynchronized
  have hl := lv_entry ([.ref (ad 0), .int p0]) (n := 2) (Nat.le_of_ble_eq_true rfl)
  rw [lg_entry_eq]
  generalize (lg_sl ([.ref (ad 0), .int p0]) ++ List.replicate (2 - (lg_sl ([.ref (ad 0), .int p0])).length) Slot.unset).toArray = ls at hl ⊢
  have hl : lv_has ls 2 [(0, .ref (ad 0)), (1, .int p0)] := hl
  refine lv_iload_n hx hb dM_isView_0 rfl (lv_at hl 1 rfl) ?_
  refine lv_if_lt (tgt := 16) hx hb dM_isView_1 (by decide) (fun c1 => ?_) (fun c1 => ?_)
  · refine lv_iconst (v := nI 0) hx hb dM_isView_16 (by decide) ?_
    exact zt_rz hx hb hr hlocks (rfl) (fun t ht _ => ⟨by rw [if_neg (zb_neg c1)]; rfl, ht⟩) (fun q h => by cases h) dM_isView_17
  · obtain ⟨j, hj, rfl⟩ := nI_of c1
    refine lv_iload_n hx hb dM_isView_4 rfl (lv_at hl 1 rfl) ?_
    refine lv_aload_n hx hb dM_isView_5 rfl (lv_at hl 0 rfl) ?_
    refine va_get (D := (dC, dI)) (ci := 1) (v := .int (nI N)) (C := RM) (T := TM) (N := 11) hx hb hz in_M hown hK hP 0 rfl rfl 5 (by decide) (hz _ kf_M_16) (fun _ h9 => h9) rfl dM_isView_6 ?_
    refine zj_ge (tgt := 16) hx hb dM_isView_9 (by decide) (by omega) (by omega) (fun c9 => ?_) (fun c9 => ?_)
    · refine lv_iconst (v := nI 0) hx hb dM_isView_16 (by decide) ?_
      exact zt_rz hx hb hr hlocks (rfl) (fun t ht _ => ⟨by rw [if_neg (zb_big c9 hj)]; rfl, ht⟩) (fun q h => by cases h) dM_isView_17
    · refine lv_iconst (v := nI 1) hx hb dM_isView_12 (by decide) ?_
      refine lv_goto (tgt := 17) hx hb dM_isView_13 (by decide) ?_
      exact zt_rz hx hb hr hlocks (rfl) (fun t ht _ => ⟨by rw [if_pos (zb_t c9 (by omega))]; rfl, ht⟩) (fun q h => by cases h) dM_isView_17
set_option maxHeartbeats 4000000 in
set_option maxRecDepth 100000 in
theorem tM_digitOf (l : Launch) {dC : Nat → ClassId} {dI : Nat → Nat → Nat} {cI cJ cB : ClassId} {ad : Nat → Nat} {lev val chs dig : Nat → Int32} {est cst : Nat → Int64} {code : Int32} {D N F k : Nat} {L V : Nat → Nat} {v d : Nat} (hR : zm_R D N F L V lev val dig) (hv : v < N) (hd : d < D) : zt_Met l yM_digitOf wM_digitOf rM_digitOf (va_Pc [.ref (ad 0), .int (nI v), .int (nI d)] (zg_B dC dI cI cJ cB (zm_w ad cI cJ cB lev val chs dig est cst code D N F k))) (zt_Qr (some (.int (nI (zq_dg L D v d))))) 0 0 0 0 (fun _ => False) := by
  refine zt_ofW (cc := cM_digitOf) (maxL := 3) (ret := (some .int)) (by decide) rfl ?_
  intro p e s m args below meth c s₁ B hml hout hv
  obtain ⟨rfl, hP, hK⟩ := hv
  have hx := B.exec
  have hb := B.bytes
  have hr := B.returns
  have hz : ∀ w ∈ zw0, w.before ([.ref (ad 0), .int (nI v), .int (nI d)] : List Value).toArray s = true := fun w h => atoms_spec (ws := wM_digitOf) B.pre w (List.mem_cons_of_mem _ h)
  have hown : s.vm.findClass RM = some m.cls := findClass_of_methodNamed B.named
  have hlocks := B.notSynchronized
  have hl := lv_entry ([.ref (ad 0), .int (nI v), .int (nI d)]) (n := 3) (Nat.le_of_ble_eq_true rfl)
  rw [lg_entry_eq]
  generalize (lg_sl ([.ref (ad 0), .int (nI v), .int (nI d)]) ++ List.replicate (3 - (lg_sl ([.ref (ad 0), .int (nI v), .int (nI d)])).length) Slot.unset).toArray = ls at hl ⊢
  have hl : lv_has ls 3 [(0, .ref (ad 0)), (1, .int (nI v)), (2, .int (nI d))] := hl
  obtain ⟨hD, hL, hN, hN5, hF, hVb, hlev, hval, hdg⟩ := hR
  refine lv_aload_n hx hb dM_digitOf_0 rfl (lv_at hl 0 rfl) ?_
  refine va_get (D := (dC, dI)) (ci := 1) (v := .ref (ad 4)) (C := RM) (T := TM) (N := 11) hx hb hz in_M hown hK hP 0 rfl rfl 8 (by decide) (hz _ kf_M_23) (fun _ h9 => h9) rfl dM_digitOf_1 ?_
  refine lv_bipush (v := nI 8) hx hb dM_digitOf_4 (by decide) ?_
  refine lv_iload_n hx hb dM_digitOf_6 rfl (lv_at hl 1 rfl) ?_
  refine lv_imul hx hb dM_digitOf_7 ?_
  refine zt_ti (pk_mul _ _) ?_
  refine lv_iload_n hx hb dM_digitOf_8 rfl (lv_at hl 2 rfl) ?_
  refine lv_iadd hx hb dM_digitOf_9 ?_
  refine zt_ti (nI_add _ _) ?_
  refine zt_bald hx hb hK hP 4 2 rfl rfl (i := ((8 * v) + d)) (by omega) (by decide) (v := (nI (zq_dg L D v d))) (hdg v hv d hd) dM_digitOf_10 ?_
  exact zt_ri hx hb hr hlocks (fun t ht _ => ⟨rfl, ht⟩) (fun q h => by cases h) dM_digitOf_11
set_option maxHeartbeats 4000000 in
set_option maxRecDepth 100000 in
theorem tM_divided (l : Launch) {dC : Nat → ClassId} {dI : Nat → Nat → Nat} {cI cJ cB : ClassId} {ad : Nat → Nat} {lev val chs dig : Nat → Int32} {est cst : Nat → Int64} {code : Int32} {D N F k : Nat} {L : Nat → Nat} {v d : Nat} (hD : D ≤ 8) (hL : ∀ j, j < D → 1 ≤ L j ∧ L j ≤ 4) (hlev : ∀ j, j < D → lev j = nI (L j)) (hd : d < D) (hv : v < 2 ^ 31) : zt_Met l yM_divided wM_divided rM_divided (va_Pc [.ref (ad 0), .int (nI v), .int (nI d)] (zg_B dC dI cI cJ cB (zm_w ad cI cJ cB lev val chs dig est cst code D N F k))) (zt_Qr (some (.int (nI (zq_dg L D v d))))) 0 0 0 0 (fun _ => False) := by
  refine zt_ofW (cc := cM_divided) (maxL := 5) (ret := (some .int)) (by decide) rfl ?_
  intro p e s m args below meth c s₁ B hml hout hv
  obtain ⟨rfl, hP, hK⟩ := hv
  have hx := B.exec
  have hb := B.bytes
  have hr := B.returns
  have hz : ∀ w ∈ zw0, w.before ([.ref (ad 0), .int (nI v), .int (nI d)] : List Value).toArray s = true := fun w h => atoms_spec (ws := wM_divided) B.pre w (List.mem_cons_of_mem _ h)
  have hown : s.vm.findClass RM = some m.cls := findClass_of_methodNamed B.named
  have hlocks := B.notSynchronized
  have hl := lv_entry ([.ref (ad 0), .int (nI v), .int (nI d)]) (n := 5) (Nat.le_of_ble_eq_true rfl)
  rw [lg_entry_eq]
  generalize (lg_sl ([.ref (ad 0), .int (nI v), .int (nI d)]) ++ List.replicate (5 - (lg_sl ([.ref (ad 0), .int (nI v), .int (nI d)])).length) Slot.unset).toArray = ls at hl ⊢
  have hl : lv_has ls 5 [(0, .ref (ad 0)), (1, .int (nI v)), (2, .int (nI d))] := hl
  refine lv_iload_n hx hb dM_divided_0 rfl (lv_at hl 1 rfl) ?_
  refine lv_istore_n (lv' := [(3, .int (nI v)), (0, .ref (ad 0)), (1, .int (nI v)), (2, .int (nI d))]) hx hb dM_divided_1 rfl hl (by decide) rfl (fun ls hl => ?_)
  refine lv_aload_n hx hb dM_divided_2 rfl (lv_at hl 1 rfl) ?_
  refine va_get (D := (dC, dI)) (ci := 1) (v := .int (nI D)) (C := RM) (T := TM) (N := 11) hx hb hz in_M hown hK hP 0 rfl rfl 1 (by decide) (hz _ kf_M_37) (fun _ h9 => h9) rfl dM_divided_3 ?_
  refine lv_iconst (v := nI 1) hx hb dM_divided_6 (by decide) ?_
  refine lv_isub hx hb dM_divided_7 ?_
  refine zt_ti (pk_sub (by omega)) ?_
  refine lv_istore (lv' := [(4, .int (nI (D - 1))), (3, .int (nI v)), (0, .ref (ad 0)), (1, .int (nI v)), (2, .int (nI d))]) hx hb dM_divided_8 hl (by decide) rfl (fun ls hl => ?_)
  have loop : ∀ (n x9 : Nat), d + n < D → x9 < 2 ^ 31 → zq_dg L (d + n + 1) x9 d = zq_dg L D v d → ∀ ls : Array Slot, lv_has ls 5 [(0, .ref (ad 0)), (1, .int (nI v)), (2, .int (nI d)), (3, .int (nI x9)), (4, .int (nI (d + n)))] → W p l e (headSpec wM_divided rM_divided).room s m ([.ref (ad 0), .int (nI v), .int (nI d)] : List Value).toArray below meth c s.heap [] 0 0 (zt_MQ below (zt_Qr (some (.int (nI (zq_dg L D v d))))) ([.ref (ad 0), .int (nI v), .int (nI d)] : List Value).toArray s 0 0 0 0 (fun _ => False)) (F0 m 10 ls []) := by
    intro n
    induction n with
    | zero =>
      intro x9 hn hx9 he ls hl
      have hLd := hL d hd
      refine lv_iload hx hb dM_divided_10 (lv_at hl 4 rfl) ?_
      refine lv_iload_n hx hb dM_divided_12 rfl (lv_at hl 2 rfl) ?_
      refine zj_le (tgt := 34) hx hb dM_divided_13 (by decide) (by omega) (by omega) (fun _ => ?_) (fun c13 => absurd c13 (by omega))
      refine lv_iload_n hx hb dM_divided_34 rfl (lv_at hl 3 rfl) ?_
      refine lv_aload_n hx hb dM_divided_35 rfl (lv_at hl 0 rfl) ?_
      refine va_get (D := (dC, dI)) (ci := 1) (v := .ref (ad 1)) (C := RM) (T := TM) (N := 11) hx hb hz in_M hown hK hP 0 rfl rfl 2 (by decide) (hz _ kf_M_7) (fun _ h9 => h9) rfl dM_divided_36 ?_
      refine lv_iload_n hx hb dM_divided_39 rfl (lv_at hl 2 rfl) ?_
      refine zt_iald hx hb hK hP 1 0 rfl rfl (i := d) (by omega) (by decide) (v := (nI (L d))) (hlev d hd) dM_divided_40 ?_
      refine lv_iconst (v := nI 1) hx hb dM_divided_41 (by decide) ?_
      refine lv_iadd hx hb dM_divided_42 ?_
      refine zt_ti (nI_add _ _) ?_
      refine lv_irem hx hb dM_divided_43 (nI_ne0 (by omega) (by omega)) ?_
      refine zt_ti (pk_rem (by omega) (by omega) (by omega)) ?_
      rw [zq_dg_last] at he
      rw [← he]
      exact zt_ri hx hb hr hlocks (fun t ht _ => ⟨rfl, ht⟩) (fun q h => by cases h) dM_divided_44
    | succ n ih =>
      intro x9 hn hx9 he ls hl
      have hLd := hL (d + (n + 1)) hn
      refine lv_iload hx hb dM_divided_10 (lv_at hl 4 rfl) ?_
      refine lv_iload_n hx hb dM_divided_12 rfl (lv_at hl 2 rfl) ?_
      refine zj_le (tgt := 34) hx hb dM_divided_13 (by decide) (by omega) (by omega) (fun c13 => absurd c13 (by omega)) (fun _ => ?_)
      refine lv_iload_n hx hb dM_divided_16 rfl (lv_at hl 3 rfl) ?_
      refine lv_aload_n hx hb dM_divided_17 rfl (lv_at hl 0 rfl) ?_
      refine va_get (D := (dC, dI)) (ci := 1) (v := .ref (ad 1)) (C := RM) (T := TM) (N := 11) hx hb hz in_M hown hK hP 0 rfl rfl 2 (by decide) (hz _ kf_M_7) (fun _ h9 => h9) rfl dM_divided_18 ?_
      refine lv_iload hx hb dM_divided_21 (lv_at hl 4 rfl) ?_
      refine zt_iald hx hb hK hP 1 0 rfl rfl (i := (d + (n + 1))) (by omega) (by decide) (v := (nI (L (d + (n + 1))))) (hlev _ hn) dM_divided_23 ?_
      refine lv_iconst (v := nI 1) hx hb dM_divided_24 (by decide) ?_
      refine lv_iadd hx hb dM_divided_25 ?_
      refine zt_ti (nI_add _ _) ?_
      refine lv_idiv hx hb dM_divided_26 (nI_ne0 (by omega) (by omega)) ?_
      refine zt_ti (pk_div (by omega) (by omega) (by omega)) ?_
      refine lv_istore_n (lv' := [(3, .int (nI (x9 / ((L (d + (n + 1))) + 1)))), (0, .ref (ad 0)), (1, .int (nI v)), (2, .int (nI d)), (4, .int (nI (d + (n + 1))))]) hx hb dM_divided_27 rfl hl (by decide) rfl (fun ls hl => ?_)
      refine lv_iinc (v := nI (d + n)) (lv' := [(4, .int (nI (d + n))), (3, .int (nI (x9 / ((L (d + (n + 1))) + 1)))), (0, .ref (ad 0)), (1, .int (nI v)), (2, .int (nI d))]) hx hb dM_divided_28 hl (k := 4) rfl (pk_m1 (d + n)) (by decide) rfl (fun ls hl => ?_)
      refine lv_goto (tgt := 10) hx hb dM_divided_31 (by decide) ?_
      refine ih (x9 / (L (d + (n + 1)) + 1)) (by omega) (Nat.lt_of_le_of_lt (Nat.div_le_self _ _) hx9) ?_ ls (lv_sub hl [2, 3, 4, 1, 0] rfl)
      rw [← he]
      exact (zq_dg_lower L (show d ≠ d + (n + 1) by omega)).symm
  have e1 : D - 1 = d + (D - 1 - d) := by omega
  rw [e1] at hl
  refine loop (D - 1 - d) v (by omega) hv ?_ ls (lv_sub hl [2, 3, 4, 1, 0] rfl)
  rw [show d + (D - 1 - d) + 1 = D by omega]
set_option maxHeartbeats 4000000 in
set_option maxRecDepth 100000 in
theorem tM_above (l : Launch) {dC : Nat → ClassId} {dI : Nat → Nat → Nat} {cI cJ cB : ClassId} {ad : Nat → Nat} {lev val chs dig : Nat → Int32} {est cst : Nat → Int64} {code : Int32} {D N F k : Nat} {L V : Nat → Nat} {u v : Nat} (hR : zm_R D N F L V lev val dig) (hu : u < N) (hv : v < N) : zt_Met l yM_above wM_above rM_above (va_Pc [.ref (ad 0), .int (nI u), .int (nI v)] (zg_B dC dI cI cJ cB (zm_w ad cI cJ cB lev val chs dig est cst code D N F k))) (zt_Qr (some (.int (if zq_ab L D u v = true then 1 else 0)))) 0 0 0 0 (fun _ => False) := by
  refine zt_ofW (cc := cM_above) (maxL := 5) (ret := (some .boolean)) (by decide) rfl ?_
  intro p e s m args below meth c s₁ B hml hout hv
  obtain ⟨rfl, hP, hK⟩ := hv
  have hx := B.exec
  have hb := B.bytes
  have hr := B.returns
  have hz : ∀ w ∈ zw0, w.before ([.ref (ad 0), .int (nI u), .int (nI v)] : List Value).toArray s = true := fun w h => atoms_spec (ws := wM_above) B.pre w (List.mem_cons_of_mem _ h)
  have hown : s.vm.findClass RM = some m.cls := findClass_of_methodNamed B.named
  have hlocks := B.notSynchronized
  have hl := lv_entry ([.ref (ad 0), .int (nI u), .int (nI v)]) (n := 5) (Nat.le_of_ble_eq_true rfl)
  rw [lg_entry_eq]
  generalize (lg_sl ([.ref (ad 0), .int (nI u), .int (nI v)]) ++ List.replicate (5 - (lg_sl ([.ref (ad 0), .int (nI u), .int (nI v)])).length) Slot.unset).toArray = ls at hl ⊢
  have hl : lv_has ls 5 [(0, .ref (ad 0)), (1, .int (nI u)), (2, .int (nI v))] := hl
  have hR9 := hR
  obtain ⟨hD, hL, hN, hN5, hF, hVb, hlev, hval, hdg⟩ := hR
  refine lv_iconst (v := nI 1) hx hb dM_above_0 (by decide) ?_
  refine zt_ti (y := if zq_abn L D u v 0 = true then 1 else 0) (by rw [if_pos (zq_abn_0 L D u v)]; rfl) ?_
  refine lv_istore_n (lv' := [(3, .int (if zq_abn L D u v 0 = true then 1 else 0)), (0, .ref (ad 0)), (1, .int (nI u)), (2, .int (nI v))]) hx hb dM_above_1 rfl hl (by decide) rfl (fun ls hl => ?_)
  refine lv_iconst (v := nI 0) hx hb dM_above_2 (by decide) ?_
  refine lv_istore (lv' := [(4, .int (nI 0)), (3, .int (if zq_abn L D u v 0 = true then 1 else 0)), (0, .ref (ad 0)), (1, .int (nI u)), (2, .int (nI v))]) hx hb dM_above_3 hl (by decide) rfl (fun ls hl => ?_)
  have loop : ∀ (n i : Nat), i + n = D → ∀ ls : Array Slot, lv_has ls 5 [(0, .ref (ad 0)), (1, .int (nI u)), (2, .int (nI v)), (3, .int (if zq_abn L D u v i = true then 1 else 0)), (4, .int (nI i))] → W p l e (headSpec wM_above rM_above).room s m ([.ref (ad 0), .int (nI u), .int (nI v)] : List Value).toArray below meth c s.heap [] 0 0 (zt_MQ below (zt_Qr (some (.int (if zq_ab L D u v = true then 1 else 0)))) ([.ref (ad 0), .int (nI u), .int (nI v)] : List Value).toArray s 0 0 0 0 (fun _ => False)) (F0 m 5 ls []) := by
    intro n
    induction n with
    | zero =>
      intro i hi ls hl
      refine lv_iload hx hb dM_above_5 (lv_at hl 4 rfl) ?_
      refine lv_aload_n hx hb dM_above_7 rfl (lv_at hl 0 rfl) ?_
      refine va_get (D := (dC, dI)) (ci := 1) (v := .int (nI D)) (C := RM) (T := TM) (N := 11) hx hb hz in_M hown hK hP 0 rfl rfl 1 (by decide) (hz _ kf_M_37) (fun _ h9 => h9) rfl dM_above_8 ?_
      refine zj_ge (tgt := 47) hx hb dM_above_11 (by decide) (by omega) (by omega) (fun _ => ?_) (fun c11 => absurd c11 (by omega))
      refine lv_iload_n hx hb dM_above_47 rfl (lv_at hl 3 rfl) ?_
      have e1 : i = D := by omega
      subst e1
      exact zt_rz hx hb hr hlocks (by split <;> rfl) (fun t ht _ => ⟨rfl, ht⟩) (fun q h => by cases h) dM_above_48
    | succ n ih =>
      intro i hi ls hl
      refine lv_iload hx hb dM_above_5 (lv_at hl 4 rfl) ?_
      refine lv_aload_n hx hb dM_above_7 rfl (lv_at hl 0 rfl) ?_
      refine va_get (D := (dC, dI)) (ci := 1) (v := .int (nI D)) (C := RM) (T := TM) (N := 11) hx hb hz in_M hown hK hP 0 rfl rfl 1 (by decide) (hz _ kf_M_37) (fun _ h9 => h9) rfl dM_above_8 ?_
      refine zj_ge (tgt := 47) hx hb dM_above_11 (by decide) (by omega) (by omega) (fun c11 => absurd c11 (by omega)) (fun _ => ?_)
      refine lv_iload_n hx hb dM_above_14 rfl (lv_at hl 3 rfl) ?_
      refine zb_eq (tgt := 47) hx hb dM_above_15 (by decide) (fun c15 => ?_) (fun c15 => ?_)
      · refine lv_iload_n hx hb dM_above_47 rfl (lv_at hl 3 rfl) ?_
        exact zt_rz hx hb hr hlocks (by split <;> rfl) (fun t ht _ => ⟨by rw [c15, zq_abn_up c15 (by omega)], ht⟩) (fun q h => by cases h) dM_above_48
      · refine lv_aload_n hx hb dM_above_18 rfl (lv_at hl 0 rfl) ?_
        refine lv_iload_n hx hb dM_above_19 rfl (lv_at hl 1 rfl) ?_
        refine lv_iload hx hb dM_above_20 (lv_at hl 4 rfl) ?_
        refine zt_callRi (zg_run (rest := []) hx hb hml hown (tM_digitOf l hR9 hu (by omega)) (wcM_58 hz (Nat.le_of_ble_eq_true rfl) (Nat.le_of_ble_eq_true rfl)) (hz _ ki_M_digitOf) (hz _ ks_M_digitOf) (hz _ kC_M_digitOf) hP hK rfl (q0 := 0) rfl rfl hl.1 rfl (Nat.le_of_ble_eq_true rfl) dM_above_22 ⟨Nat.le_of_ble_eq_true rfl, Nat.le_of_ble_eq_true rfl⟩) ?_
        refine lv_aload_n hx hb dM_above_25 rfl (lv_at hl 0 rfl) ?_
        refine lv_iload_n hx hb dM_above_26 rfl (lv_at hl 2 rfl) ?_
        refine lv_iload hx hb dM_above_27 (lv_at hl 4 rfl) ?_
        refine zt_callRi (zg_run (rest := [.int (nI (zq_dg L D u i))]) hx hb hml hown (tM_digitOf l hR9 hv (by omega)) (wcM_58 hz (Nat.le_of_ble_eq_true rfl) (Nat.le_of_ble_eq_true rfl)) (hz _ ki_M_digitOf) (hz _ ks_M_digitOf) (hz _ kC_M_digitOf) hP hK rfl (q0 := 0) rfl rfl hl.1 rfl (Nat.le_of_ble_eq_true rfl) dM_above_29 ⟨Nat.le_of_ble_eq_true rfl, Nat.le_of_ble_eq_true rfl⟩) ?_
        have hb1 := zq_dg_le L D u i (by omega)
        have hb2 := zq_dg_le L D v i (by omega)
        have hb3 := hL i (by omega)
        refine zj_gt (tgt := 39) hx hb dM_above_32 (by decide) (by omega) (by omega) (fun c32 => ?_) (fun c32 => ?_)
        · refine lv_iconst (v := nI 0) hx hb dM_above_39 (by decide) ?_
          refine zt_ti (y := if zq_abn L D u v (i + 1) = true then 1 else 0) (by rw [if_neg (by rw [zq_abn_f (by omega)]; exact Bool.false_ne_true)]; rfl) ?_
          refine lv_istore_n (lv' := [(3, .int (if zq_abn L D u v (i + 1) = true then 1 else 0)), (0, .ref (ad 0)), (1, .int (nI u)), (2, .int (nI v)), (4, .int (nI i))]) hx hb dM_above_40 rfl hl (by decide) rfl (fun ls hl => ?_)
          refine lv_iinc (v := nI (i + 1)) (lv' := [(4, .int (nI (i + 1))), (3, .int (if zq_abn L D u v (i + 1) = true then 1 else 0)), (0, .ref (ad 0)), (1, .int (nI u)), (2, .int (nI v))]) hx hb dM_above_41 hl (k := 4) rfl (nI_1 _) (by decide) rfl (fun ls hl => ?_)
          refine lv_goto (tgt := 5) hx hb dM_above_44 (by decide) ?_
          exact ih (i + 1) (by omega) ls (lv_sub hl [2, 3, 4, 1, 0] rfl)
        · refine lv_iconst (v := nI 1) hx hb dM_above_35 (by decide) ?_
          refine lv_goto (tgt := 40) hx hb dM_above_36 (by decide) ?_
          refine zt_ti (y := if zq_abn L D u v (i + 1) = true then 1 else 0) (by rw [if_pos (zq_abn_t c15 c32)]; rfl) ?_
          refine lv_istore_n (lv' := [(3, .int (if zq_abn L D u v (i + 1) = true then 1 else 0)), (0, .ref (ad 0)), (1, .int (nI u)), (2, .int (nI v)), (4, .int (nI i))]) hx hb dM_above_40 rfl hl (by decide) rfl (fun ls hl => ?_)
          refine lv_iinc (v := nI (i + 1)) (lv' := [(4, .int (nI (i + 1))), (3, .int (if zq_abn L D u v (i + 1) = true then 1 else 0)), (0, .ref (ad 0)), (1, .int (nI u)), (2, .int (nI v))]) hx hb dM_above_41 hl (k := 4) rfl (nI_1 _) (by decide) rfl (fun ls hl => ?_)
          refine lv_goto (tgt := 5) hx hb dM_above_44 (by decide) ?_
          exact ih (i + 1) (by omega) ls (lv_sub hl [2, 3, 4, 1, 0] rfl)
  exact loop D 0 (by omega) ls (lv_sub hl [2, 3, 4, 1, 0] rfl)
set_option maxHeartbeats 4000000 in
set_option maxRecDepth 100000 in
theorem tM_estimateOf (l : Launch) {dC : Nat → ClassId} {dI : Nat → Nat → Nat} {cI cJ cB : ClassId} {ad : Nat → Nat} {lev val chs dig : Nat → Int32} {est cst : Nat → Int64} {code : Int32} {D N F k : Nat} {L V : Nat → Nat} {v : Nat} (hR : zm_R D N F L V lev val dig) (hv : v < N) : zt_Met l yM_estimateOf wM_estimateOf rM_estimateOf (va_Pc [.ref (ad 0), .int (nI v)] (zg_B dC dI cI cJ cB (zm_w ad cI cJ cB lev val chs dig est cst code D N F k))) (zt_Qr (some (.long (lN (zq_es L V D F v))))) 0 0 0 0 (fun _ => False) := by
  refine zt_ofW (cc := cM_estimateOf) (maxL := 6) (ret := (some .long)) (by decide) rfl ?_
  intro p e s m args below meth c s₁ B hml hout hv
  obtain ⟨rfl, hP, hK⟩ := hv
  have hx := B.exec
  have hb := B.bytes
  have hr := B.returns
  have hz : ∀ w ∈ zw0, w.before ([.ref (ad 0), .int (nI v)] : List Value).toArray s = true := fun w h => atoms_spec (ws := wM_estimateOf) B.pre w (List.mem_cons_of_mem _ h)
  have hown : s.vm.findClass RM = some m.cls := findClass_of_methodNamed B.named
  have hlocks := B.notSynchronized
  have hl := lv_entry ([.ref (ad 0), .int (nI v)]) (n := 6) (Nat.le_of_ble_eq_true rfl)
  rw [lg_entry_eq]
  generalize (lg_sl ([.ref (ad 0), .int (nI v)]) ++ List.replicate (6 - (lg_sl ([.ref (ad 0), .int (nI v)])).length) Slot.unset).toArray = ls at hl ⊢
  have hl : lv_has ls 6 [(0, .ref (ad 0)), (1, .int (nI v))] := hl
  have hR9 := hR
  obtain ⟨hD, hL, hN, hN5, hF, hVb, hlev, hval, hdg⟩ := hR
  refine lv_lconst (v := lN 1) hx hb dM_estimateOf_0 (by decide) ?_
  refine lv_lstore_n (lv' := [(2, .long (lN 1)), (0, .ref (ad 0)), (1, .int (nI v))]) hx hb dM_estimateOf_1 rfl hl (by decide) rfl (fun ls hl => ?_)
  refine lv_iconst (v := nI 0) hx hb dM_estimateOf_2 (by decide) ?_
  refine lv_istore (lv' := [(4, .int (nI 0)), (2, .long (lN 1)), (0, .ref (ad 0)), (1, .int (nI v))]) hx hb dM_estimateOf_3 hl (by decide) rfl (fun ls hl => ?_)
  have loop : ∀ (n i : Nat), i + n = D → ∀ ls : Array Slot, lv_has ls 6 [(0, .ref (ad 0)), (1, .int (nI v)), (2, .long (lN (min 5000000000 (zq_pr L V D v i)))), (4, .int (nI i))] → W p l e (headSpec wM_estimateOf rM_estimateOf).room s m ([.ref (ad 0), .int (nI v)] : List Value).toArray below meth c s.heap [] 0 0 (zt_MQ below (zt_Qr (some (.long (lN (zq_es L V D F v))))) ([.ref (ad 0), .int (nI v)] : List Value).toArray s 0 0 0 0 (fun _ => False)) (F0 m 5 ls []) := by
    intro n
    induction n with
    | zero =>
      intro i hi ls hl
      have e1 : i = D := by omega
      subst e1
      refine lv_iload hx hb dM_estimateOf_5 (lv_at hl 3 rfl) ?_
      refine lv_aload_n hx hb dM_estimateOf_7 rfl (lv_at hl 0 rfl) ?_
      refine va_get (D := (dC, dI)) (ci := 1) (v := .int (nI i)) (C := RM) (T := TM) (N := 11) hx hb hz in_M hown hK hP 0 rfl rfl 1 (by decide) (hz _ kf_M_37) (fun _ h9 => h9) rfl dM_estimateOf_8 ?_
      refine zj_ge (tgt := 73) hx hb dM_estimateOf_11 (by decide) (by omega) (by omega) (fun _ => ?_) (fun c11 => absurd c11 (by omega))
      refine lv_lload_n hx hb dM_estimateOf_73 rfl (lv_at hl 2 rfl) ?_
      refine lv_aload_n hx hb dM_estimateOf_74 rfl (lv_at hl 0 rfl) ?_
      refine va_get (D := (dC, dI)) (ci := 1) (v := .int (nI F)) (C := RM) (T := TM) (N := 11) hx hb hz in_M hown hK hP 0 rfl rfl 4 (by decide) (hz _ kf_M_51) (fun _ h9 => h9) rfl dM_estimateOf_75 ?_
      refine lv_i2l (v := lN F) hx hb dM_estimateOf_78 (nI_l (by omega)) ?_
      refine zl_ge (tgt := 87) hx hb dM_estimateOf_79 dM_estimateOf_80 (by decide) (by omega) (by omega) (fun c79 => ?_) (fun c79 => ?_)
      · refine lv_aload_n hx hb dM_estimateOf_87 rfl (lv_at hl 0 rfl) ?_
        refine va_get (D := (dC, dI)) (ci := 1) (v := .int (nI F)) (C := RM) (T := TM) (N := 11) hx hb hz in_M hown hK hP 0 rfl rfl 4 (by decide) (hz _ kf_M_51) (fun _ h9 => h9) rfl dM_estimateOf_88 ?_
        refine lv_i2l (v := lN F) hx hb dM_estimateOf_91 (nI_l (by omega)) ?_
        exact zt_rl hx hb hr hlocks (fun t ht _ => ⟨by rw [show zq_es L V i F v = F by unfold zq_es; omega], ht⟩) (fun q h => by cases h) dM_estimateOf_92
      · refine lv_lload_n hx hb dM_estimateOf_83 rfl (lv_at hl 2 rfl) ?_
        refine lv_goto (tgt := 92) hx hb dM_estimateOf_84 (by decide) ?_
        exact zt_rl hx hb hr hlocks (fun t ht _ => ⟨by rw [show min 5000000000 (zq_pr L V i v i) = zq_es L V i F v by unfold zq_es; omega], ht⟩) (fun q h => by cases h) dM_estimateOf_92
    | succ n ih =>
      intro i hi ls hl
      refine lv_iload hx hb dM_estimateOf_5 (lv_at hl 3 rfl) ?_
      refine lv_aload_n hx hb dM_estimateOf_7 rfl (lv_at hl 0 rfl) ?_
      refine va_get (D := (dC, dI)) (ci := 1) (v := .int (nI D)) (C := RM) (T := TM) (N := 11) hx hb hz in_M hown hK hP 0 rfl rfl 1 (by decide) (hz _ kf_M_37) (fun _ h9 => h9) rfl dM_estimateOf_8 ?_
      refine zj_ge (tgt := 73) hx hb dM_estimateOf_11 (by decide) (by omega) (by omega) (fun c11 => absurd c11 (by omega)) (fun _ => ?_)
      refine lv_aload_n hx hb dM_estimateOf_14 rfl (lv_at hl 0 rfl) ?_
      refine lv_iload_n hx hb dM_estimateOf_15 rfl (lv_at hl 1 rfl) ?_
      refine lv_iload hx hb dM_estimateOf_16 (lv_at hl 3 rfl) ?_
      refine zt_callRi (zg_run (rest := []) hx hb hml hown (tM_digitOf l hR9 hv (by omega)) (wcM_58 hz (Nat.le_of_ble_eq_true rfl) (Nat.le_of_ble_eq_true rfl)) (hz _ ki_M_digitOf) (hz _ ks_M_digitOf) (hz _ kC_M_digitOf) hP hK rfl (q0 := 0) rfl rfl hl.1 rfl (Nat.le_of_ble_eq_true rfl) dM_estimateOf_18 ⟨Nat.le_of_ble_eq_true rfl, Nat.le_of_ble_eq_true rfl⟩) ?_
      have hdl := zq_dg_le L D v i (by omega)
      have hLi := hL i (by omega)
      refine lv_istore (lv' := [(5, .int (nI (zq_dg L D v i))), (0, .ref (ad 0)), (1, .int (nI v)), (2, .long (lN (min 5000000000 (zq_pr L V D v i)))), (4, .int (nI i))]) hx hb dM_estimateOf_21 hl (by decide) rfl (fun ls hl => ?_)
      refine lv_iload hx hb dM_estimateOf_23 (lv_at hl 0 rfl) ?_
      refine lv_aload_n hx hb dM_estimateOf_25 rfl (lv_at hl 1 rfl) ?_
      refine va_get (D := (dC, dI)) (ci := 1) (v := .ref (ad 1)) (C := RM) (T := TM) (N := 11) hx hb hz in_M hown hK hP 0 rfl rfl 2 (by decide) (hz _ kf_M_7) (fun _ h9 => h9) rfl dM_estimateOf_26 ?_
      refine lv_iload hx hb dM_estimateOf_29 (lv_at hl 4 rfl) ?_
      refine zt_iald hx hb hK hP 1 0 rfl rfl (i := i) (by omega) (by decide) (v := (nI (L i))) (hlev i (by omega)) dM_estimateOf_31 ?_
      refine zj_ge (tgt := 67) hx hb dM_estimateOf_32 (by decide) (by omega) (by omega) (fun c32 => ?_) (fun c32 => ?_)
      · have e1 := zq_pr_n L V D v i (by omega)
        refine lv_iinc (v := nI (i + 1)) (lv' := [(4, .int (nI (i + 1))), (5, .int (nI (zq_dg L D v i))), (0, .ref (ad 0)), (1, .int (nI v)), (2, .long (lN (min 5000000000 (zq_pr L V D v i))))]) hx hb dM_estimateOf_67 hl (k := 4) rfl (nI_1 _) (by decide) rfl (fun ls hl => ?_)
        refine lv_goto (tgt := 5) hx hb dM_estimateOf_70 (by decide) ?_
        exact ih (i + 1) (by omega) ls (by rw [e1]; exact (lv_sub hl [2, 3, 4, 0] rfl))
      · have e1 := zq_pr_s L V D v i (by omega)
        have e2 := zq_cap 5000000000 (zq_pr L V D v i) (V (4 * i + zq_dg L D v i))
        rw [← e1] at e2
        refine lv_lload_n hx hb dM_estimateOf_35 rfl (lv_at hl 3 rfl) ?_
        refine lv_aload_n hx hb dM_estimateOf_36 rfl (lv_at hl 1 rfl) ?_
        refine va_get (D := (dC, dI)) (ci := 1) (v := .ref (ad 2)) (C := RM) (T := TM) (N := 11) hx hb hz in_M hown hK hP 0 rfl rfl 3 (by decide) (hz _ kf_M_13) (fun _ h9 => h9) rfl dM_estimateOf_37 ?_
        refine lv_iconst (v := nI 4) hx hb dM_estimateOf_40 (by decide) ?_
        refine lv_iload hx hb dM_estimateOf_41 (lv_at hl 4 rfl) ?_
        refine lv_imul hx hb dM_estimateOf_43 ?_
        refine zt_ti (pk_mul _ _) ?_
        refine lv_iload hx hb dM_estimateOf_44 (lv_at hl 0 rfl) ?_
        refine lv_iadd hx hb dM_estimateOf_46 ?_
        refine zt_ti (nI_add _ _) ?_
        refine zt_iald hx hb hK hP 2 0 rfl rfl (i := ((4 * i) + (zq_dg L D v i))) (by omega) (by decide) (v := (nI (V (4 * i + zq_dg L D v i)))) (hval _ (by omega)) dM_estimateOf_47 ?_
        refine lv_i2l (v := lN (V (4 * i + zq_dg L D v i))) hx hb dM_estimateOf_48 (nI_l (by have := hVb (4 * i + zq_dg L D v i); omega)) ?_
        refine lv_lmul hx hb dM_estimateOf_49 ?_
        refine zt_tl (lN_mul _ _) ?_
        refine lv_lstore_n (lv' := [(2, .long (lN ((min 5000000000 (zq_pr L V D v i)) * (V (4 * i + zq_dg L D v i))))), (5, .int (nI (zq_dg L D v i))), (0, .ref (ad 0)), (1, .int (nI v)), (4, .int (nI i))]) hx hb dM_estimateOf_50 rfl hl (by decide) rfl (fun ls hl => ?_)
        refine lv_lload_n hx hb dM_estimateOf_51 rfl (lv_at hl 0 rfl) ?_
        refine lv_ldc2 hx hb hown (hz _ kn_M_61) dM_estimateOf_52 ?_
        refine zt_tl (y := lN 5000000000) (by decide) ?_
        refine zl_le (tgt := 65) hx hb dM_estimateOf_55 dM_estimateOf_56 (by decide) (zq_fac5 (hVb _)) (by decide) (fun c55 => ?_) (fun c55 => ?_)
        · refine lv_lload_n hx hb dM_estimateOf_65 rfl (lv_at hl 0 rfl) ?_
          refine zt_tl (y := lN (min 5000000000 (zq_pr L V D v (i + 1)))) (by rw [← e2, Nat.min_eq_right c55]) ?_
          refine lv_lstore_n (lv' := [(2, .long (lN (min 5000000000 (zq_pr L V D v (i + 1))))), (5, .int (nI (zq_dg L D v i))), (0, .ref (ad 0)), (1, .int (nI v)), (4, .int (nI i))]) hx hb dM_estimateOf_66 rfl hl (by decide) rfl (fun ls hl => ?_)
          refine lv_iinc (v := nI (i + 1)) (lv' := [(4, .int (nI (i + 1))), (2, .long (lN (min 5000000000 (zq_pr L V D v (i + 1))))), (5, .int (nI (zq_dg L D v i))), (0, .ref (ad 0)), (1, .int (nI v))]) hx hb dM_estimateOf_67 hl (k := 4) rfl (nI_1 _) (by decide) rfl (fun ls hl => ?_)
          refine lv_goto (tgt := 5) hx hb dM_estimateOf_70 (by decide) ?_
          exact ih (i + 1) (by omega) ls (lv_sub hl [3, 4, 1, 0] rfl)
        · refine lv_ldc2 hx hb hown (hz _ kn_M_61) dM_estimateOf_59 ?_
          refine zt_tl (y := lN 5000000000) (by decide) ?_
          refine lv_goto (tgt := 66) hx hb dM_estimateOf_62 (by decide) ?_
          refine zt_tl (y := lN (min 5000000000 (zq_pr L V D v (i + 1)))) (by rw [← e2, Nat.min_eq_left (Nat.le_of_lt c55)]) ?_
          refine lv_lstore_n (lv' := [(2, .long (lN (min 5000000000 (zq_pr L V D v (i + 1))))), (5, .int (nI (zq_dg L D v i))), (0, .ref (ad 0)), (1, .int (nI v)), (4, .int (nI i))]) hx hb dM_estimateOf_66 rfl hl (by decide) rfl (fun ls hl => ?_)
          refine lv_iinc (v := nI (i + 1)) (lv' := [(4, .int (nI (i + 1))), (2, .long (lN (min 5000000000 (zq_pr L V D v (i + 1))))), (5, .int (nI (zq_dg L D v i))), (0, .ref (ad 0)), (1, .int (nI v))]) hx hb dM_estimateOf_67 hl (k := 4) rfl (nI_1 _) (by decide) rfl (fun ls hl => ?_)
          refine lv_goto (tgt := 5) hx hb dM_estimateOf_70 (by decide) ?_
          exact ih (i + 1) (by omega) ls (lv_sub hl [3, 4, 1, 0] rfl)
  exact loop D 0 (by omega) ls (lv_sub hl [2, 3, 1, 0] rfl)
set_option maxHeartbeats 4000000 in
set_option maxRecDepth 100000 in
theorem tM_benefitOf (l : Launch) {dC : Nat → ClassId} {dI : Nat → Nat → Nat} {cI cJ cB : ClassId} {ad : Nat → Nat} {lev val chs dig : Nat → Int32} {est cst : Nat → Int64} {code : Int32} {D N F k : Nat} {L V : Nat → Nat} {v : Nat} {ew cw : Nat → Nat} (he : ∀ w, w < N → est w = lN (ew w) ∧ ew w ≤ F) (hc : ∀ w, w < N → cst w = lN (cw w) ∧ cw w ≤ F) (hR : zm_R D N F L V lev val dig) (hv : v < N) : zt_Met l yM_benefitOf wM_benefitOf rM_benefitOf (va_Pc [.ref (ad 0), .int (nI v)] (zg_B dC dI cI cJ cB (zm_w ad cI cJ cB lev val chs dig est cst code D N F k))) (zt_Qr (some (.long (lN (zq_bn ew (zq_ab L D) cw N v))))) 0 0 0 0 (fun _ => False) := by
  refine zt_ofW (cc := cM_benefitOf) (maxL := 5) (ret := (some .long)) (by decide) rfl ?_
  intro p e s m args below meth c s₁ B hml hout hv
  obtain ⟨rfl, hP, hK⟩ := hv
  have hx := B.exec
  have hb := B.bytes
  have hr := B.returns
  have hz : ∀ w ∈ zw0, w.before ([.ref (ad 0), .int (nI v)] : List Value).toArray s = true := fun w h => atoms_spec (ws := wM_benefitOf) B.pre w (List.mem_cons_of_mem _ h)
  have hown : s.vm.findClass RM = some m.cls := findClass_of_methodNamed B.named
  have hlocks := B.notSynchronized
  have hl := lv_entry ([.ref (ad 0), .int (nI v)]) (n := 5) (Nat.le_of_ble_eq_true rfl)
  rw [lg_entry_eq]
  generalize (lg_sl ([.ref (ad 0), .int (nI v)]) ++ List.replicate (5 - (lg_sl ([.ref (ad 0), .int (nI v)])).length) Slot.unset).toArray = ls at hl ⊢
  have hl : lv_has ls 5 [(0, .ref (ad 0)), (1, .int (nI v))] := hl
  have hR9 := hR
  obtain ⟨hD, hL, hN, hN5, hF, hVb, hlev, hval, hdg⟩ := hR
  have hev := he v hv
  refine lv_lconst (v := lN 0) hx hb dM_benefitOf_0 (by decide) ?_
  refine lv_lstore_n (lv' := [(2, .long (lN 0)), (0, .ref (ad 0)), (1, .int (nI v))]) hx hb dM_benefitOf_1 rfl hl (by decide) rfl (fun ls hl => ?_)
  refine lv_iconst (v := nI 0) hx hb dM_benefitOf_2 (by decide) ?_
  refine lv_istore (lv' := [(4, .int (nI 0)), (2, .long (lN 0)), (0, .ref (ad 0)), (1, .int (nI v))]) hx hb dM_benefitOf_3 hl (by decide) rfl (fun ls hl => ?_)
  have loop : ∀ (n i : Nat), i + n = N → ∀ ls : Array Slot, lv_has ls 5 [(0, .ref (ad 0)), (1, .int (nI v)), (2, .long (lN (zq_sm (zq_bf ew (zq_ab L D) cw v) i))), (4, .int (nI i))] → W p l e (headSpec wM_benefitOf rM_benefitOf).room s m ([.ref (ad 0), .int (nI v)] : List Value).toArray below meth c s.heap [] 0 0 (zt_MQ below (zt_Qr (some (.long (lN (zq_bn ew (zq_ab L D) cw N v))))) ([.ref (ad 0), .int (nI v)] : List Value).toArray s 0 0 0 0 (fun _ => False)) (F0 m 5 ls []) := by
    intro n
    induction n with
    | zero =>
      intro i hi ls hl
      refine lv_iload hx hb dM_benefitOf_5 (lv_at hl 3 rfl) ?_
      refine lv_aload_n hx hb dM_benefitOf_7 rfl (lv_at hl 0 rfl) ?_
      refine va_get (D := (dC, dI)) (ci := 1) (v := .int (nI N)) (C := RM) (T := TM) (N := 11) hx hb hz in_M hown hK hP 0 rfl rfl 5 (by decide) (hz _ kf_M_16) (fun _ h9 => h9) rfl dM_benefitOf_8 ?_
      refine zj_ge (tgt := 64) hx hb dM_benefitOf_11 (by decide) (by omega) (by omega) (fun _ => ?_) (fun c11 => absurd c11 (by omega))
      refine lv_lload_n hx hb dM_benefitOf_64 rfl (lv_at hl 2 rfl) ?_
      have e1 : i = N := by omega
      subst e1
      exact zt_rl hx hb hr hlocks (fun t ht _ => ⟨rfl, ht⟩) (fun q h => by cases h) dM_benefitOf_65
    | succ n ih =>
      intro i hi ls hl
      have hci := hc i (by omega)
      refine lv_iload hx hb dM_benefitOf_5 (lv_at hl 3 rfl) ?_
      refine lv_aload_n hx hb dM_benefitOf_7 rfl (lv_at hl 0 rfl) ?_
      refine va_get (D := (dC, dI)) (ci := 1) (v := .int (nI N)) (C := RM) (T := TM) (N := 11) hx hb hz in_M hown hK hP 0 rfl rfl 5 (by decide) (hz _ kf_M_16) (fun _ h9 => h9) rfl dM_benefitOf_8 ?_
      refine zj_ge (tgt := 64) hx hb dM_benefitOf_11 (by decide) (by omega) (by omega) (fun c11 => absurd c11 (by omega)) (fun _ => ?_)
      refine lv_aload_n hx hb dM_benefitOf_14 rfl (lv_at hl 0 rfl) ?_
      refine va_get (D := (dC, dI)) (ci := 1) (v := .ref (ad 6)) (C := RM) (T := TM) (N := 11) hx hb hz in_M hown hK hP 0 rfl rfl 10 (by decide) (hz _ kf_M_31) (fun _ h9 => h9) rfl dM_benefitOf_15 ?_
      refine lv_iload hx hb dM_benefitOf_18 (lv_at hl 3 rfl) ?_
      refine zt_lald hx hb hK hP 6 1 rfl rfl (i := i) (by omega) (by decide) (v := (lN (cw i))) (hci.1) dM_benefitOf_20 ?_
      refine lv_aload_n hx hb dM_benefitOf_21 rfl (lv_at hl 0 rfl) ?_
      refine va_get (D := (dC, dI)) (ci := 1) (v := .ref (ad 5)) (C := RM) (T := TM) (N := 11) hx hb hz in_M hown hK hP 0 rfl rfl 9 (by decide) (hz _ kf_M_27) (fun _ h9 => h9) rfl dM_benefitOf_22 ?_
      refine lv_iload_n hx hb dM_benefitOf_25 rfl (lv_at hl 1 rfl) ?_
      refine zt_lald hx hb hK hP 5 1 rfl rfl (i := v) (by omega) (by decide) (v := (lN (ew v))) (hev.1) dM_benefitOf_26 ?_
      refine zl_le (tgt := 58) hx hb dM_benefitOf_27 dM_benefitOf_28 (by decide) (by omega) (by omega) (fun c27 => ?_) (fun c27 => ?_)
      · have e1 : zq_sm (zq_bf ew (zq_ab L D) cw v) (i + 1) = zq_sm (zq_bf ew (zq_ab L D) cw v) i := by
          show zq_sm (zq_bf ew (zq_ab L D) cw v) i + zq_bf ew (zq_ab L D) cw v i = _
          rw [zq_bf_f (fun q => by have := q.1; omega)]
          rfl
        refine lv_iinc (v := nI (i + 1)) (lv' := [(4, .int (nI (i + 1))), (0, .ref (ad 0)), (1, .int (nI v)), (2, .long (lN (zq_sm (zq_bf ew (zq_ab L D) cw v) i)))]) hx hb dM_benefitOf_58 hl (k := 3) rfl (nI_1 _) (by decide) rfl (fun ls hl => ?_)
        refine lv_goto (tgt := 5) hx hb dM_benefitOf_61 (by decide) ?_
        exact ih (i + 1) (by omega) ls (by rw [e1]; exact (lv_sub hl [1, 2, 3, 0] rfl))
      · refine lv_aload_n hx hb dM_benefitOf_31 rfl (lv_at hl 0 rfl) ?_
        refine lv_iload_n hx hb dM_benefitOf_32 rfl (lv_at hl 1 rfl) ?_
        refine lv_iload hx hb dM_benefitOf_33 (lv_at hl 3 rfl) ?_
        refine zt_callRi (zg_run (rest := []) hx hb hml hown (tM_above l hR9 hv (by omega)) (wcM_67 hz (Nat.le_of_ble_eq_true rfl) (Nat.le_of_ble_eq_true rfl)) (hz _ ki_M_above) (hz _ ks_M_above) (hz _ kC_M_above) hP hK rfl (q0 := 0) rfl rfl hl.1 rfl (Nat.le_of_ble_eq_true rfl) dM_benefitOf_35 ⟨Nat.le_of_ble_eq_true rfl, Nat.le_of_ble_eq_true rfl⟩) ?_
        refine zb_eq (tgt := 58) hx hb dM_benefitOf_38 (by decide) (fun c38 => ?_) (fun c38 => ?_)
        · have e1 : zq_sm (zq_bf ew (zq_ab L D) cw v) (i + 1) = zq_sm (zq_bf ew (zq_ab L D) cw v) i := by
            show zq_sm (zq_bf ew (zq_ab L D) cw v) i + zq_bf ew (zq_ab L D) cw v i = _
            rw [zq_bf_f (fun q => by have := q.2; rw [c38] at this; cases this)]
            rfl
          refine lv_iinc (v := nI (i + 1)) (lv' := [(4, .int (nI (i + 1))), (0, .ref (ad 0)), (1, .int (nI v)), (2, .long (lN (zq_sm (zq_bf ew (zq_ab L D) cw v) i)))]) hx hb dM_benefitOf_58 hl (k := 3) rfl (nI_1 _) (by decide) rfl (fun ls hl => ?_)
          refine lv_goto (tgt := 5) hx hb dM_benefitOf_61 (by decide) ?_
          exact ih (i + 1) (by omega) ls (by rw [e1]; exact (lv_sub hl [1, 2, 3, 0] rfl))
        · refine lv_lload_n hx hb dM_benefitOf_41 rfl (lv_at hl 2 rfl) ?_
          refine lv_aload_n hx hb dM_benefitOf_42 rfl (lv_at hl 0 rfl) ?_
          refine va_get (D := (dC, dI)) (ci := 1) (v := .ref (ad 6)) (C := RM) (T := TM) (N := 11) hx hb hz in_M hown hK hP 0 rfl rfl 10 (by decide) (hz _ kf_M_31) (fun _ h9 => h9) rfl dM_benefitOf_43 ?_
          refine lv_iload hx hb dM_benefitOf_46 (lv_at hl 3 rfl) ?_
          refine zt_lald hx hb hK hP 6 1 rfl rfl (i := i) (by omega) (by decide) (v := (lN (cw i))) (hci.1) dM_benefitOf_48 ?_
          refine lv_aload_n hx hb dM_benefitOf_49 rfl (lv_at hl 0 rfl) ?_
          refine va_get (D := (dC, dI)) (ci := 1) (v := .ref (ad 5)) (C := RM) (T := TM) (N := 11) hx hb hz in_M hown hK hP 0 rfl rfl 9 (by decide) (hz _ kf_M_27) (fun _ h9 => h9) rfl dM_benefitOf_50 ?_
          refine lv_iload_n hx hb dM_benefitOf_53 rfl (lv_at hl 1 rfl) ?_
          refine zt_lald hx hb hK hP 5 1 rfl rfl (i := v) (by omega) (by decide) (v := (lN (ew v))) (hev.1) dM_benefitOf_54 ?_
          refine lv_lsub hx hb dM_benefitOf_55 ?_
          refine zt_tl (lN_sub (by omega)) ?_
          refine lv_ladd hx hb dM_benefitOf_56 ?_
          refine zt_tl (lN_add _ _) ?_
          refine zt_tl (y := lN (zq_sm (zq_bf ew (zq_ab L D) cw v) (i + 1))) (by
            show _ = lN (zq_sm (zq_bf ew (zq_ab L D) cw v) i + zq_bf ew (zq_ab L D) cw v i)
            rw [zq_bf_t (by omega) c38]) ?_
          refine lv_lstore_n (lv' := [(2, .long (lN (zq_sm (zq_bf ew (zq_ab L D) cw v) (i + 1)))), (0, .ref (ad 0)), (1, .int (nI v)), (4, .int (nI i))]) hx hb dM_benefitOf_57 rfl hl (by decide) rfl (fun ls hl => ?_)
          refine lv_iinc (v := nI (i + 1)) (lv' := [(4, .int (nI (i + 1))), (2, .long (lN (zq_sm (zq_bf ew (zq_ab L D) cw v) (i + 1)))), (0, .ref (ad 0)), (1, .int (nI v))]) hx hb dM_benefitOf_58 hl (k := 3) rfl (nI_1 _) (by decide) rfl (fun ls hl => ?_)
          refine lv_goto (tgt := 5) hx hb dM_benefitOf_61 (by decide) ?_
          exact ih (i + 1) (by omega) ls (lv_sub hl [2, 3, 1, 0] rfl)
  exact loop N 0 (by omega) ls (lv_sub hl [2, 3, 1, 0] rfl)
end
section
/-! steps keep what is legal -/
theorem zq_ct_s (e : Nat → Nat) (ab : Nat → Nat → Bool) (F : Nat) (S : Nat → Nat) (k v : Nat) : zq_ct e ab F S (k + 1) v = if e (S k) < zq_ct e ab F S k v ∧ ab (S k) v = true then e (S k) else zq_ct e ab F S k v := rfl
theorem zq_go_ok {pick : Nat → (Nat → Nat) → Nat} {N : Nat} (hp : ∀ k S, pick k S ≤ N) : ∀ (n k : Nat) (S : Nat → Nat), (∀ i, i < k → S i < N) → (∀ i, i < (zq_go pick n k S).1 → (zq_go pick n k S).2 i < N) ∧ k ≤ (zq_go pick n k S).1 ∧ (zq_go pick n k S).1 ≤ k + n
  | 0, k, S, h => ⟨h, Nat.le_refl _, Nat.le_refl _⟩
  | n + 1, k, S, h => by
    by_cases e : pick k S = 0
    · have e1 : zq_go pick (n + 1) k S = (k, S) := by show (if _ then _ else _) = _; rw [if_pos e]
      rw [e1]
      exact ⟨h, Nat.le_refl _, Nat.le_add_right _ _⟩
    · have e1 : zq_go pick (n + 1) k S = zq_go pick n (k + 1) (zq_up S k (pick k S - 1)) := by show (if _ then _ else _) = _; rw [if_neg e]
      rw [e1]
      have h2 : ∀ i, i < k + 1 → zq_up S k (pick k S - 1) i < N := by
        intro i hi
        by_cases q : i = k
        · rw [q, zq_up_s]
          have := hp k S
          omega
        · rw [zq_up_n S q]
          exact h i (by omega)
      have ih := zq_go_ok hp n (k + 1) (zq_up S k (pick k S - 1)) h2
      exact ⟨ih.1, by omega, by omega⟩
/-- what is chosen, as the reference holds it -/
def zm_S (N k : Nat) (S : Nat → Nat) (chs : Nat → Int32) : Prop := k ≤ 16 ∧ (∀ i, i < k → chs i = nI (S i)) ∧ ∀ i, i < k → S i < N
theorem zm_S_up {N k v : Nat} {S : Nat → Nat} {chs : Nat → Int32} (h : zm_S N k S chs) (hk : k < 16) (hv : v < N) : zm_S N (k + 1) (zq_up S k v) (upd chs k (nI v)) := by
  refine ⟨by omega, fun i hi => ?_, fun i hi => ?_⟩
  · by_cases e : i = k
    · rw [e, pk_us, zq_up_s]
    · rw [pk_un e, zq_up_n S e]
      exact h.2.1 i (by omega)
  · by_cases e : i = k
    · rw [e, zq_up_s]
      exact hv
    · rw [zq_up_n S e]
      exact h.2.2 i (by omega)
end
section
/-! the reference: its own writers: by program (wip/gen/model_writes.py) -/
set_option maxHeartbeats 4000000 in
set_option maxRecDepth 100000 in
/-- all digits of all views -/
theorem tM_spread (l : Launch) {dC : Nat → ClassId} {dI : Nat → Nat → Nat} {cI cJ cB : ClassId} {ad : Nat → Nat} {lev val chs dig : Nat → Int32} {est cst : Nat → Int64} {code : Int32} {D N F k : Nat} {L : Nat → Nat} {sz : Nat} (had : zg_ap ad 7) (hD : D ≤ 8) (hL : ∀ j, j < D → 1 ≤ L j ∧ L j ≤ 4) (hlev : ∀ j, j < D → lev j = nI (L j)) (hN5 : N ≤ 512) : zt_Met l yM_spread wM_spread rM_spread (va_Pc [.ref (ad 0)] (zg_C dC dI cI cJ cB (zm_w ad cI cJ cB lev val chs dig est cst code D N F k) sz)) (zg_Q dC dI (fun _ => none) (fun g : Nat → Int32 => ∀ w, w < N → ∀ d, d < D → g (8 * w + d) = nI (zq_dg L D w d)) (fun g => zm_w ad cI cJ cB lev val chs g est cst code D N F k) (zg_A ad 7 sz)) 0 0 0 0 (zg_A ad 7 sz) := by
  refine zt_ofW (cc := cM_spread) (maxL := 3) (ret := none) (by decide) rfl ?_
  intro p e s m args below meth c s₁ B hml hout hv
  obtain ⟨rfl, hsz, hP, hK⟩ := hv
  have hx := B.exec
  have hb := B.bytes
  have hr := B.returns
  have hz : ∀ w ∈ zw0, w.before ([.ref (ad 0)] : List Value).toArray s = true := fun w h => atoms_spec (ws := wM_spread) B.pre w (List.mem_cons_of_mem _ h)
  have hown : s.vm.findClass RM = some m.cls := findClass_of_methodNamed B.named
  have hlocks := B.notSynchronized
  subst hsz
  have hS : va_S (zg_A ad 7 s.heap.size) s.heap s.heap [] := va_S.rf
  have hl := lv_entry ([.ref (ad 0)]) (n := 3) (Nat.le_of_ble_eq_true rfl)
  rw [lg_entry_eq]
  generalize (lg_sl ([.ref (ad 0)]) ++ List.replicate (3 - (lg_sl ([.ref (ad 0)])).length) Slot.unset).toArray = ls at hl ⊢
  have hl : lv_has ls 3 [(0, .ref (ad 0))] := hl
  refine lv_iconst (v := nI 0) hx hb dM_spread_0 (by decide) ?_
  refine lv_istore_n (lv' := [(1, .int (nI 0)), (0, .ref (ad 0))]) hx hb dM_spread_1 rfl hl (by decide) rfl (fun ls hl => ?_)
  have outer : ∀ (n i : Nat), i + n = N → ∀ (g : Nat → Int32) (H : Heap) (locs : List Loc), (∀ w, w < i → ∀ d, d < D → g (8 * w + d) = nI (zq_dg L D w d)) → va_P (dC, dI) zcl (zm_w ad cI cJ cB lev val chs g est cst code D N F k) H → va_S (zg_A ad 7 s.heap.size) s.heap H locs → ∀ ls : Array Slot, lv_has ls 3 [(0, .ref (ad 0)), (1, .int (nI i))] → W p l e (headSpec wM_spread rM_spread).room s m ([.ref (ad 0)] : List Value).toArray below meth c H locs 0 0 (zt_MQ below (zg_Q dC dI (fun _ => none) (fun g : Nat → Int32 => ∀ w, w < N → ∀ d, d < D → g (8 * w + d) = nI (zq_dg L D w d)) (fun g => zm_w ad cI cJ cB lev val chs g est cst code D N F k) (zg_A ad 7 s.heap.size)) ([.ref (ad 0)] : List Value).toArray s 0 0 0 0 (zg_A ad 7 s.heap.size)) (F0 m 2 ls []) := by
    intro n
    induction n with
    | zero =>
      intro i hi g H locs hg hP hS ls hl
      refine lv_iload_n hx hb dM_spread_2 rfl (lv_at hl 1 rfl) ?_
      refine lv_aload_n hx hb dM_spread_3 rfl (lv_at hl 0 rfl) ?_
      refine va_get (D := (dC, dI)) (ci := 1) (v := .int (nI N)) (C := RM) (T := TM) (N := 11) hx hb hz in_M hown hK hP 0 rfl rfl 5 (by decide) (hz _ kf_M_16) (fun _ h9 => h9) rfl dM_spread_4 ?_
      refine zj_ge (tgt := 50) hx hb dM_spread_7 (by decide) (by omega) (by omega) (fun _ => ?_) (fun c7 => absurd c7 (by omega))
      exact zt_rv hx hb hr hlocks (fun t ht _ => ⟨g, rfl, fun w hw d hd => hg w (by omega) d hd, by rw [ht]; exact hP, hS.F ht⟩) (hS.2.2) dM_spread_50
    | succ n ih =>
      intro i hi g H locs hg hP hS ls hl
      refine lv_iload_n hx hb dM_spread_2 rfl (lv_at hl 1 rfl) ?_
      refine lv_aload_n hx hb dM_spread_3 rfl (lv_at hl 0 rfl) ?_
      refine va_get (D := (dC, dI)) (ci := 1) (v := .int (nI N)) (C := RM) (T := TM) (N := 11) hx hb hz in_M hown hK hP 0 rfl rfl 5 (by decide) (hz _ kf_M_16) (fun _ h9 => h9) rfl dM_spread_4 ?_
      refine zj_ge (tgt := 50) hx hb dM_spread_7 (by decide) (by omega) (by omega) (fun c7 => absurd c7 (by omega)) (fun _ => ?_)
      refine lv_iconst (v := nI 0) hx hb dM_spread_10 (by decide) ?_
      refine lv_istore_n (lv' := [(2, .int (nI 0)), (0, .ref (ad 0)), (1, .int (nI i))]) hx hb dM_spread_11 rfl hl (by decide) rfl (fun ls hl => ?_)
      have inner : ∀ (r j : Nat), j + r = D → ∀ (g : Nat → Int32) (H : Heap) (locs : List Loc), (∀ w, w < i → ∀ d, d < D → g (8 * w + d) = nI (zq_dg L D w d)) → (∀ d, d < j → g (8 * i + d) = nI (zq_dg L D i d)) → va_P (dC, dI) zcl (zm_w ad cI cJ cB lev val chs g est cst code D N F k) H → va_S (zg_A ad 7 s.heap.size) s.heap H locs → ∀ ls : Array Slot, lv_has ls 3 [(0, .ref (ad 0)), (1, .int (nI i)), (2, .int (nI j))] → W p l e (headSpec wM_spread rM_spread).room s m ([.ref (ad 0)] : List Value).toArray below meth c H locs 0 0 (zt_MQ below (zg_Q dC dI (fun _ => none) (fun g : Nat → Int32 => ∀ w, w < N → ∀ d, d < D → g (8 * w + d) = nI (zq_dg L D w d)) (fun g => zm_w ad cI cJ cB lev val chs g est cst code D N F k) (zg_A ad 7 s.heap.size)) ([.ref (ad 0)] : List Value).toArray s 0 0 0 0 (zg_A ad 7 s.heap.size)) (F0 m 12 ls []) := by
        intro r
        induction r with
        | zero =>
          intro j hj g H locs hg1 hg2 hP hS ls hl
          refine lv_iload_n hx hb dM_spread_12 rfl (lv_at hl 2 rfl) ?_
          refine lv_aload_n hx hb dM_spread_13 rfl (lv_at hl 0 rfl) ?_
          refine va_get (D := (dC, dI)) (ci := 1) (v := .int (nI D)) (C := RM) (T := TM) (N := 11) hx hb hz in_M hown hK hP 0 rfl rfl 1 (by decide) (hz _ kf_M_37) (fun _ h9 => h9) rfl dM_spread_14 ?_
          refine zj_ge (tgt := 44) hx hb dM_spread_17 (by decide) (by omega) (by omega) (fun _ => ?_) (fun c17 => absurd c17 (by omega))
          refine lv_iinc (v := nI (i + 1)) (lv' := [(1, .int (nI (i + 1))), (0, .ref (ad 0)), (2, .int (nI j))]) hx hb dM_spread_44 hl (k := 1) rfl (nI_1 _) (by decide) rfl (fun ls hl => ?_)
          refine lv_goto (tgt := 2) hx hb dM_spread_47 (by decide) ?_
          refine ih (i + 1) (by omega) g H locs (fun w hw d hd => ?_) hP hS ls (lv_sub hl [1, 0] rfl)
          by_cases e9 : w = i
          · subst e9; exact hg2 d (by omega)
          · exact hg1 w (by omega) d hd
        | succ r ih2 =>
          intro j hj g H locs hg1 hg2 hP hS ls hl
          refine lv_iload_n hx hb dM_spread_12 rfl (lv_at hl 2 rfl) ?_
          refine lv_aload_n hx hb dM_spread_13 rfl (lv_at hl 0 rfl) ?_
          refine va_get (D := (dC, dI)) (ci := 1) (v := .int (nI D)) (C := RM) (T := TM) (N := 11) hx hb hz in_M hown hK hP 0 rfl rfl 1 (by decide) (hz _ kf_M_37) (fun _ h9 => h9) rfl dM_spread_14 ?_
          refine zj_ge (tgt := 44) hx hb dM_spread_17 (by decide) (by omega) (by omega) (fun c17 => absurd c17 (by omega)) (fun _ => ?_)
          refine lv_aload_n hx hb dM_spread_20 rfl (lv_at hl 0 rfl) ?_
          refine va_get (D := (dC, dI)) (ci := 1) (v := .ref (ad 4)) (C := RM) (T := TM) (N := 11) hx hb hz in_M hown hK hP 0 rfl rfl 8 (by decide) (hz _ kf_M_23) (fun _ h9 => h9) rfl dM_spread_21 ?_
          refine lv_bipush (v := nI 8) hx hb dM_spread_24 (by decide) ?_
          refine lv_iload_n hx hb dM_spread_26 rfl (lv_at hl 1 rfl) ?_
          refine lv_imul hx hb dM_spread_27 ?_
          refine zt_ti (pk_mul _ _) ?_
          refine lv_iload_n hx hb dM_spread_28 rfl (lv_at hl 2 rfl) ?_
          refine lv_iadd hx hb dM_spread_29 ?_
          refine zt_ti (nI_add _ _) ?_
          refine lv_aload_n hx hb dM_spread_30 rfl (lv_at hl 0 rfl) ?_
          refine lv_iload_n hx hb dM_spread_31 rfl (lv_at hl 1 rfl) ?_
          refine lv_iload_n hx hb dM_spread_32 rfl (lv_at hl 2 rfl) ?_
          refine zt_callRi (zg_run (rest := [.int (nI ((8 * i) + j)), .ref (ad 4)]) hx hb hml hown (tM_divided l hD hL hlev (by omega) (by omega)) (wcM_54 hz (Nat.le_of_ble_eq_true rfl) (Nat.le_of_ble_eq_true rfl)) (hz _ ki_M_divided) (hz _ ks_M_divided) (hz _ kC_M_divided) hP hK rfl (q0 := 0) rfl rfl hl.1 rfl (Nat.le_of_ble_eq_true rfl) dM_spread_33 ⟨Nat.le_of_ble_eq_true rfl, Nat.le_of_ble_eq_true rfl⟩) ?_
          have hb1 := zq_dg_le L D i j (by omega)
          have hb2 := hL j (by omega)
          refine lv_i2b (v := nI (zq_dg L D i j)) hx hb dM_spread_36 (zq_i8 _ (by omega)) ?_
          refine zt_bast hx hb hK hP (zm_D had) hS 4 2 rfl rfl (i := ((8 * i) + j)) (by omega) (by decide) (y := (nI (zq_dg L D i j))) (by rw [vp_nar_byte]; exact zq_i8 _ (by omega)) dM_spread_37 (fun H locs hP _ hS => ?_)
          have hP : va_P (dC, dI) zcl (zm_w ad cI cJ cB lev val chs (upd g ((8 * i) + j) (nI (zq_dg L D i j))) est cst code D N F k) H := hP
          refine lv_iinc (v := nI (j + 1)) (lv' := [(2, .int (nI (j + 1))), (0, .ref (ad 0)), (1, .int (nI i))]) hx hb dM_spread_38 hl (k := 2) rfl (nI_1 _) (by decide) rfl (fun ls hl => ?_)
          refine lv_goto (tgt := 12) hx hb dM_spread_41 (by decide) ?_
          refine ih2 (j + 1) (by omega) _ H locs (fun w hw d hd => ?_) (fun d hd => ?_) hP hS ls (lv_sub hl [1, 2, 0] rfl)
          · rw [pk_un (by omega)]; exact hg1 w hw d hd
          · by_cases e9 : d = j
            · rw [e9, pk_us]
            · rw [pk_un (by omega)]; exact hg2 d (by omega)
      exact inner D 0 (by omega) g H locs hg (fun d hd => absurd hd (Nat.not_lt_zero d)) hP hS ls (lv_sub hl [1, 2, 0] rfl)
  exact outer N 0 (by omega) dig s.heap [] (fun w hw => absurd hw (Nat.not_lt_zero w)) hP hS ls (lv_sub hl [1, 0] rfl)
set_option maxHeartbeats 4000000 in
set_option maxRecDepth 100000 in
/-- estimates and costs anew -/
theorem tM_reckon (l : Launch) {dC : Nat → ClassId} {dI : Nat → Nat → Nat} {cI cJ cB : ClassId} {ad : Nat → Nat} {lev val chs dig : Nat → Int32} {est cst : Nat → Int64} {code : Int32} {D N F k : Nat} {L V S : Nat → Nat} {sz : Nat} (had : zg_ap ad 7) (hR : zm_R D N F L V lev val dig) (hs : zm_S N k S chs) : zt_Met l yM_reckon wM_reckon rM_reckon (va_Pc [.ref (ad 0)] (zg_C dC dI cI cJ cB (zm_w ad cI cJ cB lev val chs dig est cst code D N F k) sz)) (zg_Q dC dI (fun _ => none) (fun u : (Nat → Int64) × (Nat → Int64) => (∀ w, w < N → u.1 w = lN (zq_es L V D F w)) ∧ ∀ w, w < N → u.2 w = lN (zq_ct (zq_es L V D F) (zq_ab L D) F S k w)) (fun u => zm_w ad cI cJ cB lev val chs dig u.1 u.2 code D N F k) (zg_A ad 7 sz)) 0 0 0 0 (zg_A ad 7 sz) := by
  refine zt_ofW (cc := cM_reckon) (maxL := 4) (ret := none) (by decide) rfl ?_
  intro p e s m args below meth c s₁ B hml hout hv
  obtain ⟨rfl, hsz, hP, hK⟩ := hv
  have hx := B.exec
  have hb := B.bytes
  have hr := B.returns
  have hz : ∀ w ∈ zw0, w.before ([.ref (ad 0)] : List Value).toArray s = true := fun w h => atoms_spec (ws := wM_reckon) B.pre w (List.mem_cons_of_mem _ h)
  have hown : s.vm.findClass RM = some m.cls := findClass_of_methodNamed B.named
  have hlocks := B.notSynchronized
  subst hsz
  have hS : va_S (zg_A ad 7 s.heap.size) s.heap s.heap [] := va_S.rf
  have hl := lv_entry ([.ref (ad 0)]) (n := 4) (Nat.le_of_ble_eq_true rfl)
  rw [lg_entry_eq]
  generalize (lg_sl ([.ref (ad 0)]) ++ List.replicate (4 - (lg_sl ([.ref (ad 0)])).length) Slot.unset).toArray = ls at hl ⊢
  have hl : lv_has ls 4 [(0, .ref (ad 0))] := hl
  have hR9 := hR
  obtain ⟨hD, hL, hN, hN5, hF, hVb, hlev, hval, hdg⟩ := hR
  obtain ⟨hk, hs1, hs2⟩ := hs
  refine lv_iconst (v := nI 0) hx hb dM_reckon_0 (by decide) ?_
  refine lv_istore_n (lv' := [(1, .int (nI 0)), (0, .ref (ad 0))]) hx hb dM_reckon_1 rfl hl (by decide) rfl (fun ls hl => ?_)
  have second : ∀ (n i : Nat), i + n = N → ∀ (f g : Nat → Int64) (H : Heap) (locs : List Loc), (∀ w, w < N → f w = lN (zq_es L V D F w)) → (∀ w, w < i → g w = lN (zq_ct (zq_es L V D F) (zq_ab L D) F S k w)) → va_P (dC, dI) zcl (zm_w ad cI cJ cB lev val chs dig f g code D N F k) H → va_S (zg_A ad 7 s.heap.size) s.heap H locs → ∀ ls : Array Slot, lv_has ls 4 [(0, .ref (ad 0)), (1, .int (nI i))] → W p l e (headSpec wM_reckon rM_reckon).room s m ([.ref (ad 0)] : List Value).toArray below meth c H locs 0 0 (zt_MQ below (zg_Q dC dI (fun _ => none) (fun u : (Nat → Int64) × (Nat → Int64) => (∀ w, w < N → u.1 w = lN (zq_es L V D F w)) ∧ ∀ w, w < N → u.2 w = lN (zq_ct (zq_es L V D F) (zq_ab L D) F S k w)) (fun u => zm_w ad cI cJ cB lev val chs dig u.1 u.2 code D N F k) (zg_A ad 7 s.heap.size)) ([.ref (ad 0)] : List Value).toArray s 0 0 0 0 (zg_A ad 7 s.heap.size)) (F0 m 29 ls []) := by
    intro n
    induction n with
    | zero =>
      intro i hi f g H locs hf hg hP hS ls hl
      refine lv_iload_n hx hb dM_reckon_29 rfl (lv_at hl 1 rfl) ?_
      refine lv_aload_n hx hb dM_reckon_30 rfl (lv_at hl 0 rfl) ?_
      refine va_get (D := (dC, dI)) (ci := 1) (v := .int (nI N)) (C := RM) (T := TM) (N := 11) hx hb hz in_M hown hK hP 0 rfl rfl 5 (by decide) (hz _ kf_M_16) (fun _ h9 => h9) rfl dM_reckon_31 ?_
      refine zj_ge (tgt := 141) hx hb dM_reckon_34 (by decide) (by omega) (by omega) (fun _ => ?_) (fun c34 => absurd c34 (by omega))
      exact zt_rv hx hb hr hlocks (fun t ht _ => ⟨(f, g), rfl, ⟨hf, fun w hw => hg w (by omega)⟩, by rw [ht]; exact hP, hS.F ht⟩) (hS.2.2) dM_reckon_141
    | succ n ih =>
      intro i hi f g H locs hf hg hP hS ls hl
      refine lv_iload_n hx hb dM_reckon_29 rfl (lv_at hl 1 rfl) ?_
      refine lv_aload_n hx hb dM_reckon_30 rfl (lv_at hl 0 rfl) ?_
      refine va_get (D := (dC, dI)) (ci := 1) (v := .int (nI N)) (C := RM) (T := TM) (N := 11) hx hb hz in_M hown hK hP 0 rfl rfl 5 (by decide) (hz _ kf_M_16) (fun _ h9 => h9) rfl dM_reckon_31 ?_
      refine zj_ge (tgt := 141) hx hb dM_reckon_34 (by decide) (by omega) (by omega) (fun c34 => absurd c34 (by omega)) (fun _ => ?_)
      refine lv_aload_n hx hb dM_reckon_37 rfl (lv_at hl 0 rfl) ?_
      refine va_get (D := (dC, dI)) (ci := 1) (v := .ref (ad 6)) (C := RM) (T := TM) (N := 11) hx hb hz in_M hown hK hP 0 rfl rfl 10 (by decide) (hz _ kf_M_31) (fun _ h9 => h9) rfl dM_reckon_38 ?_
      refine lv_iload_n hx hb dM_reckon_41 rfl (lv_at hl 1 rfl) ?_
      refine lv_aload_n hx hb dM_reckon_42 rfl (lv_at hl 0 rfl) ?_
      refine va_get (D := (dC, dI)) (ci := 1) (v := .int (nI F)) (C := RM) (T := TM) (N := 11) hx hb hz in_M hown hK hP 0 rfl rfl 4 (by decide) (hz _ kf_M_51) (fun _ h9 => h9) rfl dM_reckon_43 ?_
      refine lv_i2l (v := lN F) hx hb dM_reckon_46 (nI_l (by omega)) ?_
      refine zt_last hx hb hK hP (zm_D had) hS 6 1 rfl rfl (i := i) (by omega) (by decide) dM_reckon_47 (fun H locs hP _ hS => ?_)
      have hP : va_P (dC, dI) zcl (zm_w ad cI cJ cB lev val chs dig f (vp_updL g i (lN F)) code D N F k) H := hP
      refine lv_iconst (v := nI 0) hx hb dM_reckon_48 (by decide) ?_
      refine lv_istore_n (lv' := [(2, .int (nI 0)), (0, .ref (ad 0)), (1, .int (nI i))]) hx hb dM_reckon_49 rfl hl (by decide) rfl (fun ls hl => ?_)
      have third : ∀ (r j : Nat), j + r = k → ∀ (g : Nat → Int64) (H : Heap) (locs : List Loc), (∀ w, w < i → g w = lN (zq_ct (zq_es L V D F) (zq_ab L D) F S k w)) → g i = lN (zq_ct (zq_es L V D F) (zq_ab L D) F S j i) → va_P (dC, dI) zcl (zm_w ad cI cJ cB lev val chs dig f g code D N F k) H → va_S (zg_A ad 7 s.heap.size) s.heap H locs → ∀ ls : Array Slot, lv_has ls 4 [(0, .ref (ad 0)), (1, .int (nI i)), (2, .int (nI j))] → W p l e (headSpec wM_reckon rM_reckon).room s m ([.ref (ad 0)] : List Value).toArray below meth c H locs 0 0 (zt_MQ below (zg_Q dC dI (fun _ => none) (fun u : (Nat → Int64) × (Nat → Int64) => (∀ w, w < N → u.1 w = lN (zq_es L V D F w)) ∧ ∀ w, w < N → u.2 w = lN (zq_ct (zq_es L V D F) (zq_ab L D) F S k w)) (fun u => zm_w ad cI cJ cB lev val chs dig u.1 u.2 code D N F k) (zg_A ad 7 s.heap.size)) ([.ref (ad 0)] : List Value).toArray s 0 0 0 0 (zg_A ad 7 s.heap.size)) (F0 m 50 ls []) := by
        intro r
        induction r with
        | zero =>
          intro j hj g H locs hg1 hg2 hP hS ls hl
          refine lv_iload_n hx hb dM_reckon_50 rfl (lv_at hl 2 rfl) ?_
          refine lv_aload_n hx hb dM_reckon_51 rfl (lv_at hl 0 rfl) ?_
          refine va_get (D := (dC, dI)) (ci := 1) (v := .int (nI k)) (C := RM) (T := TM) (N := 11) hx hb hz in_M hown hK hP 0 rfl rfl 6 (by decide) (hz _ kf_M_40) (fun _ h9 => h9) rfl dM_reckon_52 ?_
          refine zj_ge (tgt := 135) hx hb dM_reckon_55 (by decide) (by omega) (by omega) (fun _ => ?_) (fun c55 => absurd c55 (by omega))
          have ej : j = k := by omega
          subst ej
          refine lv_iinc (v := nI (i + 1)) (lv' := [(1, .int (nI (i + 1))), (0, .ref (ad 0)), (2, .int (nI j))]) hx hb dM_reckon_135 hl (k := 1) rfl (nI_1 _) (by decide) rfl (fun ls hl => ?_)
          refine lv_goto (tgt := 29) hx hb dM_reckon_138 (by decide) ?_
          refine ih (i + 1) (by omega) f g H locs hf (fun w hw => ?_) hP hS ls (lv_sub hl [1, 0] rfl)
          by_cases e9 : w = i
          · rw [e9]; exact hg2
          · exact hg1 w (by omega)
        | succ r ih2 =>
          intro j hj g H locs hg1 hg2 hP hS ls hl
          have hsj := hs2 j (by omega)
          have hel := zq_es_le L V D F (S j)
          have hcl := zq_ct_le (zq_es L V D F) (zq_ab L D) F S j i
          have ect := zq_ct_s (zq_es L V D F) (zq_ab L D) F S j i
          refine lv_iload_n hx hb dM_reckon_50 rfl (lv_at hl 2 rfl) ?_
          refine lv_aload_n hx hb dM_reckon_51 rfl (lv_at hl 0 rfl) ?_
          refine va_get (D := (dC, dI)) (ci := 1) (v := .int (nI k)) (C := RM) (T := TM) (N := 11) hx hb hz in_M hown hK hP 0 rfl rfl 6 (by decide) (hz _ kf_M_40) (fun _ h9 => h9) rfl dM_reckon_52 ?_
          refine zj_ge (tgt := 135) hx hb dM_reckon_55 (by decide) (by omega) (by omega) (fun c55 => absurd c55 (by omega)) (fun _ => ?_)
          refine lv_aload_n hx hb dM_reckon_58 rfl (lv_at hl 0 rfl) ?_
          refine va_get (D := (dC, dI)) (ci := 1) (v := .ref (ad 5)) (C := RM) (T := TM) (N := 11) hx hb hz in_M hown hK hP 0 rfl rfl 9 (by decide) (hz _ kf_M_27) (fun _ h9 => h9) rfl dM_reckon_59 ?_
          refine lv_aload_n hx hb dM_reckon_62 rfl (lv_at hl 0 rfl) ?_
          refine va_get (D := (dC, dI)) (ci := 1) (v := .ref (ad 3)) (C := RM) (T := TM) (N := 11) hx hb hz in_M hown hK hP 0 rfl rfl 7 (by decide) (hz _ kf_M_20) (fun _ h9 => h9) rfl dM_reckon_63 ?_
          refine lv_iload_n hx hb dM_reckon_66 rfl (lv_at hl 2 rfl) ?_
          refine zt_iald hx hb hK hP 3 0 rfl rfl (i := j) (by omega) (by decide) (v := (nI (S j))) (hs1 j (by omega)) dM_reckon_67 ?_
          refine zt_lald hx hb hK hP 5 1 rfl rfl (i := (S j)) (by omega) (by decide) (v := (lN (zq_es L V D F (S j)))) (hf (S j) hsj) dM_reckon_68 ?_
          refine lv_aload_n hx hb dM_reckon_69 rfl (lv_at hl 0 rfl) ?_
          refine va_get (D := (dC, dI)) (ci := 1) (v := .ref (ad 6)) (C := RM) (T := TM) (N := 11) hx hb hz in_M hown hK hP 0 rfl rfl 10 (by decide) (hz _ kf_M_31) (fun _ h9 => h9) rfl dM_reckon_70 ?_
          refine lv_iload_n hx hb dM_reckon_73 rfl (lv_at hl 1 rfl) ?_
          refine zt_lald hx hb hK hP 6 1 rfl rfl (i := i) (by omega) (by decide) (v := (lN (zq_ct (zq_es L V D F) (zq_ab L D) F S j i))) (hg2) dM_reckon_74 ?_
          refine zl_ge (tgt := 97) hx hb dM_reckon_75 dM_reckon_76 (by decide) (by omega) (by omega) (fun c75 => ?_) (fun c75 => ?_)
          · refine lv_iconst (v := nI 0) hx hb dM_reckon_97 (by decide) ?_
            refine lv_istore_n (lv' := [(3, .int (nI 0)), (0, .ref (ad 0)), (1, .int (nI i)), (2, .int (nI j))]) hx hb dM_reckon_98 rfl hl (by decide) rfl (fun ls hl => ?_)
            refine lv_aload_n hx hb dM_reckon_99 rfl (lv_at hl 1 rfl) ?_
            refine va_get (D := (dC, dI)) (ci := 1) (v := .ref (ad 6)) (C := RM) (T := TM) (N := 11) hx hb hz in_M hown hK hP 0 rfl rfl 10 (by decide) (hz _ kf_M_31) (fun _ h9 => h9) rfl dM_reckon_100 ?_
            refine lv_iload_n hx hb dM_reckon_103 rfl (lv_at hl 2 rfl) ?_
            refine lv_iload_n hx hb dM_reckon_104 rfl (lv_at hl 0 rfl) ?_
            refine lv_if_eq (tgt := 122) hx hb dM_reckon_105 (by decide) (fun _ => ?_) (fun c105 => absurd c105 (not_not_intro (by decide)))
            have e1 : zq_ct (zq_es L V D F) (zq_ab L D) F S (j + 1) i = zq_ct (zq_es L V D F) (zq_ab L D) F S j i := by rw [ect]; exact if_neg (fun q => by have := q.1; omega)
            refine lv_aload_n hx hb dM_reckon_122 rfl (lv_at hl 1 rfl) ?_
            refine va_get (D := (dC, dI)) (ci := 1) (v := .ref (ad 6)) (C := RM) (T := TM) (N := 11) hx hb hz in_M hown hK hP 0 rfl rfl 10 (by decide) (hz _ kf_M_31) (fun _ h9 => h9) rfl dM_reckon_123 ?_
            refine lv_iload_n hx hb dM_reckon_126 rfl (lv_at hl 2 rfl) ?_
            refine zt_lald hx hb hK hP 6 1 rfl rfl (i := i) (by omega) (by decide) (v := (lN (zq_ct (zq_es L V D F) (zq_ab L D) F S j i))) (hg2) dM_reckon_127 ?_
            refine zt_last hx hb hK hP (zm_D had) hS 6 1 rfl rfl (i := i) (by omega) (by decide) dM_reckon_128 (fun H locs hP _ hS => ?_)
            have hP : va_P (dC, dI) zcl (zm_w ad cI cJ cB lev val chs dig f (vp_updL g i (lN (zq_ct (zq_es L V D F) (zq_ab L D) F S j i))) code D N F k) H := hP
            refine lv_iinc (v := nI (j + 1)) (lv' := [(2, .int (nI (j + 1))), (3, .int (nI 0)), (0, .ref (ad 0)), (1, .int (nI i))]) hx hb dM_reckon_129 hl (k := 3) rfl (nI_1 _) (by decide) rfl (fun ls hl => ?_)
            refine lv_goto (tgt := 50) hx hb dM_reckon_132 (by decide) ?_
            refine ih2 (j + 1) (by omega) _ H locs (fun w hw => ?_) ?_ hP hS ls (lv_sub hl [2, 3, 0] rfl)
            · rw [pk_uLn (by omega)]; exact hg1 w hw
            · rw [pk_uLs, e1]
          · refine lv_aload_n hx hb dM_reckon_79 rfl (lv_at hl 0 rfl) ?_
            refine lv_aload_n hx hb dM_reckon_80 rfl (lv_at hl 0 rfl) ?_
            refine va_get (D := (dC, dI)) (ci := 1) (v := .ref (ad 3)) (C := RM) (T := TM) (N := 11) hx hb hz in_M hown hK hP 0 rfl rfl 7 (by decide) (hz _ kf_M_20) (fun _ h9 => h9) rfl dM_reckon_81 ?_
            refine lv_iload_n hx hb dM_reckon_84 rfl (lv_at hl 2 rfl) ?_
            refine zt_iald hx hb hK hP 3 0 rfl rfl (i := j) (by omega) (by decide) (v := (nI (S j))) (hs1 j (by omega)) dM_reckon_85 ?_
            refine lv_iload_n hx hb dM_reckon_86 rfl (lv_at hl 1 rfl) ?_
            refine zt_callRi (zg_run (rest := []) hx hb hml hown (tM_above l hR9 hsj (by omega)) (wcM_67 hz (Nat.le_of_ble_eq_true rfl) (Nat.le_of_ble_eq_true rfl)) (hz _ ki_M_above) (hz _ ks_M_above) (hz _ kC_M_above) hP hK rfl (q0 := 0) rfl rfl hl.1 rfl (Nat.le_of_ble_eq_true rfl) dM_reckon_87 ⟨Nat.le_of_ble_eq_true rfl, Nat.le_of_ble_eq_true rfl⟩) ?_
            refine zb_eq (tgt := 97) hx hb dM_reckon_90 (by decide) (fun c90 => ?_) (fun c90 => ?_)
            · refine lv_iconst (v := nI 0) hx hb dM_reckon_97 (by decide) ?_
              refine lv_istore_n (lv' := [(3, .int (nI 0)), (0, .ref (ad 0)), (1, .int (nI i)), (2, .int (nI j))]) hx hb dM_reckon_98 rfl hl (by decide) rfl (fun ls hl => ?_)
              refine lv_aload_n hx hb dM_reckon_99 rfl (lv_at hl 1 rfl) ?_
              refine va_get (D := (dC, dI)) (ci := 1) (v := .ref (ad 6)) (C := RM) (T := TM) (N := 11) hx hb hz in_M hown hK hP 0 rfl rfl 10 (by decide) (hz _ kf_M_31) (fun _ h9 => h9) rfl dM_reckon_100 ?_
              refine lv_iload_n hx hb dM_reckon_103 rfl (lv_at hl 2 rfl) ?_
              refine lv_iload_n hx hb dM_reckon_104 rfl (lv_at hl 0 rfl) ?_
              refine lv_if_eq (tgt := 122) hx hb dM_reckon_105 (by decide) (fun _ => ?_) (fun c105 => absurd c105 (not_not_intro (by decide)))
              have e1 : zq_ct (zq_es L V D F) (zq_ab L D) F S (j + 1) i = zq_ct (zq_es L V D F) (zq_ab L D) F S j i := by rw [ect]; exact if_neg (fun q => by have := q.2; rw [c90] at this; cases this)
              refine lv_aload_n hx hb dM_reckon_122 rfl (lv_at hl 1 rfl) ?_
              refine va_get (D := (dC, dI)) (ci := 1) (v := .ref (ad 6)) (C := RM) (T := TM) (N := 11) hx hb hz in_M hown hK hP 0 rfl rfl 10 (by decide) (hz _ kf_M_31) (fun _ h9 => h9) rfl dM_reckon_123 ?_
              refine lv_iload_n hx hb dM_reckon_126 rfl (lv_at hl 2 rfl) ?_
              refine zt_lald hx hb hK hP 6 1 rfl rfl (i := i) (by omega) (by decide) (v := (lN (zq_ct (zq_es L V D F) (zq_ab L D) F S j i))) (hg2) dM_reckon_127 ?_
              refine zt_last hx hb hK hP (zm_D had) hS 6 1 rfl rfl (i := i) (by omega) (by decide) dM_reckon_128 (fun H locs hP _ hS => ?_)
              have hP : va_P (dC, dI) zcl (zm_w ad cI cJ cB lev val chs dig f (vp_updL g i (lN (zq_ct (zq_es L V D F) (zq_ab L D) F S j i))) code D N F k) H := hP
              refine lv_iinc (v := nI (j + 1)) (lv' := [(2, .int (nI (j + 1))), (3, .int (nI 0)), (0, .ref (ad 0)), (1, .int (nI i))]) hx hb dM_reckon_129 hl (k := 3) rfl (nI_1 _) (by decide) rfl (fun ls hl => ?_)
              refine lv_goto (tgt := 50) hx hb dM_reckon_132 (by decide) ?_
              refine ih2 (j + 1) (by omega) _ H locs (fun w hw => ?_) ?_ hP hS ls (lv_sub hl [2, 3, 0] rfl)
              · rw [pk_uLn (by omega)]; exact hg1 w hw
              · rw [pk_uLs, e1]
            · refine lv_iconst (v := nI 1) hx hb dM_reckon_93 (by decide) ?_
              refine lv_goto (tgt := 98) hx hb dM_reckon_94 (by decide) ?_
              refine lv_istore_n (lv' := [(3, .int (nI 1)), (0, .ref (ad 0)), (1, .int (nI i)), (2, .int (nI j))]) hx hb dM_reckon_98 rfl hl (by decide) rfl (fun ls hl => ?_)
              refine lv_aload_n hx hb dM_reckon_99 rfl (lv_at hl 1 rfl) ?_
              refine va_get (D := (dC, dI)) (ci := 1) (v := .ref (ad 6)) (C := RM) (T := TM) (N := 11) hx hb hz in_M hown hK hP 0 rfl rfl 10 (by decide) (hz _ kf_M_31) (fun _ h9 => h9) rfl dM_reckon_100 ?_
              refine lv_iload_n hx hb dM_reckon_103 rfl (lv_at hl 2 rfl) ?_
              refine lv_iload_n hx hb dM_reckon_104 rfl (lv_at hl 0 rfl) ?_
              refine lv_if_eq (tgt := 122) hx hb dM_reckon_105 (by decide) (fun c105 => absurd c105 (by decide)) (fun _ => ?_)
              have e1 : zq_ct (zq_es L V D F) (zq_ab L D) F S (j + 1) i = zq_es L V D F (S j) := by rw [ect]; exact if_pos ⟨by omega, c90⟩
              refine lv_aload_n hx hb dM_reckon_108 rfl (lv_at hl 1 rfl) ?_
              refine va_get (D := (dC, dI)) (ci := 1) (v := .ref (ad 5)) (C := RM) (T := TM) (N := 11) hx hb hz in_M hown hK hP 0 rfl rfl 9 (by decide) (hz _ kf_M_27) (fun _ h9 => h9) rfl dM_reckon_109 ?_
              refine lv_aload_n hx hb dM_reckon_112 rfl (lv_at hl 1 rfl) ?_
              refine va_get (D := (dC, dI)) (ci := 1) (v := .ref (ad 3)) (C := RM) (T := TM) (N := 11) hx hb hz in_M hown hK hP 0 rfl rfl 7 (by decide) (hz _ kf_M_20) (fun _ h9 => h9) rfl dM_reckon_113 ?_
              refine lv_iload_n hx hb dM_reckon_116 rfl (lv_at hl 3 rfl) ?_
              refine zt_iald hx hb hK hP 3 0 rfl rfl (i := j) (by omega) (by decide) (v := (nI (S j))) (hs1 j (by omega)) dM_reckon_117 ?_
              refine zt_lald hx hb hK hP 5 1 rfl rfl (i := (S j)) (by omega) (by decide) (v := (lN (zq_es L V D F (S j)))) (hf (S j) hsj) dM_reckon_118 ?_
              refine lv_goto (tgt := 128) hx hb dM_reckon_119 (by decide) ?_
              refine zt_last hx hb hK hP (zm_D had) hS 6 1 rfl rfl (i := i) (by omega) (by decide) dM_reckon_128 (fun H locs hP _ hS => ?_)
              have hP : va_P (dC, dI) zcl (zm_w ad cI cJ cB lev val chs dig f (vp_updL g i (lN (zq_es L V D F (S j)))) code D N F k) H := hP
              refine lv_iinc (v := nI (j + 1)) (lv' := [(2, .int (nI (j + 1))), (3, .int (nI 1)), (0, .ref (ad 0)), (1, .int (nI i))]) hx hb dM_reckon_129 hl (k := 3) rfl (nI_1 _) (by decide) rfl (fun ls hl => ?_)
              refine lv_goto (tgt := 50) hx hb dM_reckon_132 (by decide) ?_
              refine ih2 (j + 1) (by omega) _ H locs (fun w hw => ?_) ?_ hP hS ls (lv_sub hl [2, 3, 0] rfl)
              · rw [pk_uLn (by omega)]; exact hg1 w hw
              · rw [pk_uLs, e1]
      refine third k 0 (by omega) _ H locs (fun w hw => ?_) ?_ hP hS ls (lv_sub hl [1, 2, 0] rfl)
      · rw [pk_uLn (by omega)]; exact hg w hw
      · rw [pk_uLs]; rfl
  have first : ∀ (n i : Nat), i + n = N → ∀ (f : Nat → Int64) (H : Heap) (locs : List Loc), (∀ w, w < i → f w = lN (zq_es L V D F w)) → va_P (dC, dI) zcl (zm_w ad cI cJ cB lev val chs dig f cst code D N F k) H → va_S (zg_A ad 7 s.heap.size) s.heap H locs → ∀ ls : Array Slot, lv_has ls 4 [(0, .ref (ad 0)), (1, .int (nI i))] → W p l e (headSpec wM_reckon rM_reckon).room s m ([.ref (ad 0)] : List Value).toArray below meth c H locs 0 0 (zt_MQ below (zg_Q dC dI (fun _ => none) (fun u : (Nat → Int64) × (Nat → Int64) => (∀ w, w < N → u.1 w = lN (zq_es L V D F w)) ∧ ∀ w, w < N → u.2 w = lN (zq_ct (zq_es L V D F) (zq_ab L D) F S k w)) (fun u => zm_w ad cI cJ cB lev val chs dig u.1 u.2 code D N F k) (zg_A ad 7 s.heap.size)) ([.ref (ad 0)] : List Value).toArray s 0 0 0 0 (zg_A ad 7 s.heap.size)) (F0 m 2 ls []) := by
    intro n
    induction n with
    | zero =>
      intro i hi f H locs hf hP hS ls hl
      refine lv_iload_n hx hb dM_reckon_2 rfl (lv_at hl 1 rfl) ?_
      refine lv_aload_n hx hb dM_reckon_3 rfl (lv_at hl 0 rfl) ?_
      refine va_get (D := (dC, dI)) (ci := 1) (v := .int (nI N)) (C := RM) (T := TM) (N := 11) hx hb hz in_M hown hK hP 0 rfl rfl 5 (by decide) (hz _ kf_M_16) (fun _ h9 => h9) rfl dM_reckon_4 ?_
      refine zj_ge (tgt := 27) hx hb dM_reckon_7 (by decide) (by omega) (by omega) (fun _ => ?_) (fun c7 => absurd c7 (by omega))
      refine lv_iconst (v := nI 0) hx hb dM_reckon_27 (by decide) ?_
      refine lv_istore_n (lv' := [(1, .int (nI 0)), (0, .ref (ad 0))]) hx hb dM_reckon_28 rfl hl (by decide) rfl (fun ls hl => ?_)
      exact second N 0 (by omega) f cst H locs (fun w hw => hf w (by omega)) (fun w hw => absurd hw (Nat.not_lt_zero w)) hP hS ls (lv_sub hl [1, 0] rfl)
    | succ n ih =>
      intro i hi f H locs hf hP hS ls hl
      refine lv_iload_n hx hb dM_reckon_2 rfl (lv_at hl 1 rfl) ?_
      refine lv_aload_n hx hb dM_reckon_3 rfl (lv_at hl 0 rfl) ?_
      refine va_get (D := (dC, dI)) (ci := 1) (v := .int (nI N)) (C := RM) (T := TM) (N := 11) hx hb hz in_M hown hK hP 0 rfl rfl 5 (by decide) (hz _ kf_M_16) (fun _ h9 => h9) rfl dM_reckon_4 ?_
      refine zj_ge (tgt := 27) hx hb dM_reckon_7 (by decide) (by omega) (by omega) (fun c7 => absurd c7 (by omega)) (fun _ => ?_)
      refine lv_aload_n hx hb dM_reckon_10 rfl (lv_at hl 0 rfl) ?_
      refine va_get (D := (dC, dI)) (ci := 1) (v := .ref (ad 5)) (C := RM) (T := TM) (N := 11) hx hb hz in_M hown hK hP 0 rfl rfl 9 (by decide) (hz _ kf_M_27) (fun _ h9 => h9) rfl dM_reckon_11 ?_
      refine lv_iload_n hx hb dM_reckon_14 rfl (lv_at hl 1 rfl) ?_
      refine lv_aload_n hx hb dM_reckon_15 rfl (lv_at hl 0 rfl) ?_
      refine lv_iload_n hx hb dM_reckon_16 rfl (lv_at hl 1 rfl) ?_
      refine zt_callRl (zg_run (rest := [.int (nI i), .ref (ad 5)]) hx hb hml hown (tM_estimateOf l hR9 (by omega)) (wcM_63 hz (Nat.le_of_ble_eq_true rfl) (Nat.le_of_ble_eq_true rfl)) (hz _ ki_M_estimateOf) (hz _ ks_M_estimateOf) (hz _ kC_M_estimateOf) hP hK rfl (q0 := 0) rfl rfl hl.1 rfl (Nat.le_of_ble_eq_true rfl) dM_reckon_17 ⟨Nat.le_of_ble_eq_true rfl, Nat.le_of_ble_eq_true rfl⟩) ?_
      refine zt_last hx hb hK hP (zm_D had) hS 5 1 rfl rfl (i := i) (by omega) (by decide) dM_reckon_20 (fun H locs hP _ hS => ?_)
      have hP : va_P (dC, dI) zcl (zm_w ad cI cJ cB lev val chs dig (vp_updL f i (lN (zq_es L V D F i))) cst code D N F k) H := hP
      refine lv_iinc (v := nI (i + 1)) (lv' := [(1, .int (nI (i + 1))), (0, .ref (ad 0))]) hx hb dM_reckon_21 hl (k := 1) rfl (nI_1 _) (by decide) rfl (fun ls hl => ?_)
      refine lv_goto (tgt := 2) hx hb dM_reckon_24 (by decide) ?_
      refine ih (i + 1) (by omega) _ H locs (fun w hw => ?_) hP hS ls (lv_sub hl [1, 0] rfl)
      by_cases e9 : w = i
      · rw [e9, pk_uLs]
      · rw [pk_uLn e9]; exact hf w (by omega)
  exact first N 0 (by omega) est s.heap [] (fun w hw => absurd hw (Nat.not_lt_zero w)) hP hS ls (lv_sub hl [1, 0] rfl)
set_option maxHeartbeats 4000000 in
set_option maxRecDepth 100000 in
/-- a step -/
theorem tM_choosesOne (l : Launch) {dC : Nat → ClassId} {dI : Nat → Nat → Nat} {cI cJ cB : ClassId} {ad : Nat → Nat} {lev val chs dig : Nat → Int32} {est cst : Nat → Int64} {code : Int32} {D N F k : Nat} {L V S : Nat → Nat} {sz : Nat} (had : zg_ap ad 7) (hR : zm_R D N F L V lev val dig) (hs : zm_S N k S chs) (hk16 : k < 16) : zt_Met l yM_choosesOne wM_choosesOne rM_choosesOne (va_Pc [.ref (ad 0)] (zg_C dC dI cI cJ cB (zm_w ad cI cJ cB lev val chs dig est cst code D N F k) sz)) (zg_Q dC dI (fun _ => some (.int (nI (zq_pick D N F L V k S) - 1))) (fun u : (Nat → Int64) × (Nat → Int64) × (Nat → Int32) => zm_S N (zq_go (zq_pick D N F L V) 1 k S).1 (zq_go (zq_pick D N F L V) 1 k S).2 u.2.2) (fun u => zm_w ad cI cJ cB lev val u.2.2 dig u.1 u.2.1 code D N F ((zq_go (zq_pick D N F L V) 1 k S).1)) (zg_A ad 7 sz)) 0 0 0 0 (zg_A ad 7 sz) := by
  refine zt_ofW (cc := cM_choosesOne) (maxL := 7) (ret := (some .int)) (by decide) rfl ?_
  intro p e s m args below meth c s₁ B hml hout hv
  obtain ⟨rfl, hsz, hP, hK⟩ := hv
  have hx := B.exec
  have hb := B.bytes
  have hr := B.returns
  have hz : ∀ w ∈ zw0, w.before ([.ref (ad 0)] : List Value).toArray s = true := fun w h => atoms_spec (ws := wM_choosesOne) B.pre w (List.mem_cons_of_mem _ h)
  have hown : s.vm.findClass RM = some m.cls := findClass_of_methodNamed B.named
  have hlocks := B.notSynchronized
  subst hsz
  have hS : va_S (zg_A ad 7 s.heap.size) s.heap s.heap [] := va_S.rf
  have hl := lv_entry ([.ref (ad 0)]) (n := 7) (Nat.le_of_ble_eq_true rfl)
  rw [lg_entry_eq]
  generalize (lg_sl ([.ref (ad 0)]) ++ List.replicate (7 - (lg_sl ([.ref (ad 0)])).length) Slot.unset).toArray = ls at hl ⊢
  have hl : lv_has ls 7 [(0, .ref (ad 0))] := hl
  have hR9 := hR
  obtain ⟨hD, hL, hN, hN5, hF, hVb, hlev, hval, hdg⟩ := hR
  refine lv_aload_n hx hb dM_choosesOne_0 rfl (lv_at hl 0 rfl) ?_
  refine zg_callW (zg_runC (rest := []) hx hb hml hown (tM_reckon l had hR9 hs) (wcM_74 hz (Nat.le_of_ble_eq_true rfl) (Nat.le_of_ble_eq_true rfl)) (hz _ ki_M_reckon) (hz _ ks_M_reckon) (hz _ kC_M_reckon) hP hK rfl (q0 := 0) rfl rfl hl.1 rfl (Nat.le_of_ble_eq_true rfl) dM_choosesOne_1 ⟨Nat.le_of_ble_eq_true rfl, Nat.le_of_ble_eq_true rfl⟩) hS (fun q h => zg_A_up hS.1 h) (fun q h => zg_A_up hS.1 h) (fun ⟨f, g⟩ H locs hu hP hz9 hk9 hS => ?_)
  refine W.eq (g2 := F0 m 4 ls []) rfl ?_
  obtain ⟨hf, hg⟩ := hu
  have he9 : ∀ w, w < N → f w = lN (zq_es L V D F w) ∧ zq_es L V D F w ≤ F := fun w hw => ⟨hf w hw, zq_es_le L V D F w⟩
  have hc9 : ∀ w, w < N → g w = lN (zq_ct (zq_es L V D F) (zq_ab L D) F S k w) ∧ zq_ct (zq_es L V D F) (zq_ab L D) F S k w ≤ F := fun w hw => ⟨hg w hw, zq_ct_le _ _ _ _ _ _⟩
  have hbn : ∀ v, zq_bn (zq_es L V D F) (zq_ab L D) (zq_ct (zq_es L V D F) (zq_ab L D) F S k) N v < 2 ^ 63 := fun v => zq_bn_le hN5 hF (fun i hi => (hc9 i hi).2)
  have hgo : zq_go (zq_pick D N F L V) 1 k S = if zq_pick D N F L V k S = 0 then (k, S) else (k + 1, zq_up S k (zq_pick D N F L V k S - 1)) := rfl
  refine lv_iconst (v := -1) hx hb dM_choosesOne_4 (by decide) ?_
  refine lv_istore_n (lv' := [(1, .int (-1)), (0, .ref (ad 0))]) hx hb dM_choosesOne_5 rfl hl (by decide) rfl (fun ls hl => ?_)
  refine lv_lconst (v := lN 0) hx hb dM_choosesOne_6 (by decide) ?_
  refine lv_lstore_n (lv' := [(2, .long (lN 0)), (1, .int (-1)), (0, .ref (ad 0))]) hx hb dM_choosesOne_7 rfl hl (by decide) rfl (fun ls hl => ?_)
  refine lv_iconst (v := nI 0) hx hb dM_choosesOne_8 (by decide) ?_
  refine lv_istore (lv' := [(4, .int (nI 0)), (2, .long (lN 0)), (1, .int (-1)), (0, .ref (ad 0))]) hx hb dM_choosesOne_9 hl (by decide) rfl (fun ls hl => ?_)
  have loop : ∀ (n i : Nat), i + n = N → ∀ ls : Array Slot, lv_has ls 7 [(0, .ref (ad 0)), (1, .int (nI (zq_mx (zq_bn (zq_es L V D F) (zq_ab L D) (zq_ct (zq_es L V D F) (zq_ab L D) F S k) N) i).2 - 1)), (2, .long (lN ((zq_mx (zq_bn (zq_es L V D F) (zq_ab L D) (zq_ct (zq_es L V D F) (zq_ab L D) F S k) N) i).1))), (4, .int (nI i))] → W p l e (headSpec wM_choosesOne rM_choosesOne).room s m ([.ref (ad 0)] : List Value).toArray below meth c H locs 0 0 (zt_MQ below (zg_Q dC dI (fun _ => some (.int (nI (zq_pick D N F L V k S) - 1))) (fun u : (Nat → Int64) × (Nat → Int64) × (Nat → Int32) => zm_S N (zq_go (zq_pick D N F L V) 1 k S).1 (zq_go (zq_pick D N F L V) 1 k S).2 u.2.2) (fun u => zm_w ad cI cJ cB lev val u.2.2 dig u.1 u.2.1 code D N F ((zq_go (zq_pick D N F L V) 1 k S).1)) (zg_A ad 7 s.heap.size)) ([.ref (ad 0)] : List Value).toArray s 0 0 0 0 (zg_A ad 7 s.heap.size)) (F0 m 11 ls []) := by
    intro n
    induction n with
    | zero =>
      intro i hi ls hl
      refine lv_iload hx hb dM_choosesOne_11 (lv_at hl 3 rfl) ?_
      refine lv_aload_n hx hb dM_choosesOne_13 rfl (lv_at hl 0 rfl) ?_
      refine va_get (D := (dC, dI)) (ci := 1) (v := .int (nI N)) (C := RM) (T := TM) (N := 11) hx hb hz in_M hown hK hP 0 rfl rfl 5 (by decide) (hz _ kf_M_16) (fun _ h9 => h9) rfl dM_choosesOne_14 ?_
      refine zj_ge (tgt := 47) hx hb dM_choosesOne_17 (by decide) (by omega) (by omega) (fun _ => ?_) (fun c17 => absurd c17 (by omega))
      have e1 : i = N := by omega
      rw [e1] at hl
      have hl : lv_has ls 7 [(0, .ref (ad 0)), (1, .int (nI (zq_pick D N F L V k S) - 1))] := lv_sub hl [0, 1] rfl
      have hpl := zq_pick_le D N F L V k S
      rw [hgo]
      generalize hpk9 : zq_pick D N F L V k S = b at hpl hl ⊢
      rcases b with _ | b
      · rw [if_pos rfl]
        refine lv_iload_n hx hb dM_choosesOne_47 rfl (lv_at hl 1 rfl) ?_
        refine lv_if_lt (tgt := 71) hx hb dM_choosesOne_48 (by decide) (fun _ => ?_) (fun c48 => absurd c48 (not_not_intro (by decide)))
        refine lv_iload_n hx hb dM_choosesOne_71 rfl (lv_at hl 1 rfl) ?_
        exact zt_ri hx hb hr hlocks (fun t ht _ => ⟨(f, g, chs), rfl, hs, by rw [ht]; exact hP, hS.F ht⟩) (hS.2.2) dM_choosesOne_72
      · rw [if_neg (Nat.succ_ne_zero b), Nat.add_sub_cancel]
        rw [nI_pred] at hl ⊢
        refine lv_iload_n hx hb dM_choosesOne_47 rfl (lv_at hl 1 rfl) ?_
        refine lv_if_lt (tgt := 71) hx hb dM_choosesOne_48 (by decide) (fun c48 => absurd c48 (nI_pos (by omega))) (fun _ => ?_)
        refine lv_aload_n hx hb dM_choosesOne_51 rfl (lv_at hl 0 rfl) ?_
        refine va_get (D := (dC, dI)) (ci := 1) (v := .ref (ad 3)) (C := RM) (T := TM) (N := 11) hx hb hz in_M hown hK hP 0 rfl rfl 7 (by decide) (hz _ kf_M_20) (fun _ h9 => h9) rfl dM_choosesOne_52 ?_
        refine lv_aload_n hx hb dM_choosesOne_55 rfl (lv_at hl 0 rfl) ?_
        refine va_get (D := (dC, dI)) (ci := 1) (v := .int (nI k)) (C := RM) (T := TM) (N := 11) hx hb hz in_M hown hK hP 0 rfl rfl 6 (by decide) (hz _ kf_M_40) (fun _ h9 => h9) rfl dM_choosesOne_56 ?_
        refine lv_iload_n hx hb dM_choosesOne_59 rfl (lv_at hl 1 rfl) ?_
        refine zt_iast hx hb hK hP (zm_D had) hS 3 0 rfl rfl (i := k) (by omega) (by decide) dM_choosesOne_60 (fun H locs hP _ hS => ?_)
        have hP : va_P (dC, dI) zcl (zm_w ad cI cJ cB lev val (upd chs k (nI b)) dig f g code D N F k) H := hP
        refine lv_aload_n hx hb dM_choosesOne_61 rfl (lv_at hl 0 rfl) ?_
        refine lv_dup hx hb dM_choosesOne_62 rfl ?_
        refine va_get (D := (dC, dI)) (ci := 1) (v := .int (nI k)) (C := RM) (T := TM) (N := 11) hx hb hz in_M hown hK hP 0 rfl rfl 6 (by decide) (hz _ kf_M_40) (fun _ h9 => h9) rfl dM_choosesOne_63 ?_
        refine lv_iconst (v := nI 1) hx hb dM_choosesOne_66 (by decide) ?_
        refine lv_iadd hx hb dM_choosesOne_67 ?_
        refine zt_ti (nI_add _ _) ?_
        refine va_put (D := (dC, dI)) (ci := 1) (v := .int (nI (k + 1))) (ty := .int) (C := RM) (T := TM) (N := 11) hx hb hz in_M tyM tyM_ok nmM hown hK hP (zm_D had) hS 0 rfl rfl 6 (by decide) (hz _ kf_M_40) (fun _ h9 => h9) rfl (by decide +kernel) rfl rfl (Nat.le_of_ble_eq_true rfl) dM_choosesOne_68 (fun H locs hP _ hS => ?_)
        have hP : va_P (dC, dI) zcl (zm_w ad cI cJ cB lev val (upd chs k (nI b)) dig f g code D N F (k + 1)) H := hP
        refine lv_iload_n hx hb dM_choosesOne_71 rfl (lv_at hl 1 rfl) ?_
        exact zt_ri hx hb hr hlocks (fun t ht _ => ⟨(f, g, upd chs k (nI b)), rfl, zm_S_up hs hk16 (by omega), by rw [ht]; exact hP, hS.F ht⟩) (hS.2.2) dM_choosesOne_72
    | succ n ih =>
      intro i hi ls hl
      refine lv_iload hx hb dM_choosesOne_11 (lv_at hl 3 rfl) ?_
      refine lv_aload_n hx hb dM_choosesOne_13 rfl (lv_at hl 0 rfl) ?_
      refine va_get (D := (dC, dI)) (ci := 1) (v := .int (nI N)) (C := RM) (T := TM) (N := 11) hx hb hz in_M hown hK hP 0 rfl rfl 5 (by decide) (hz _ kf_M_16) (fun _ h9 => h9) rfl dM_choosesOne_14 ?_
      refine zj_ge (tgt := 47) hx hb dM_choosesOne_17 (by decide) (by omega) (by omega) (fun c17 => absurd c17 (by omega)) (fun _ => ?_)
      refine lv_aload_n hx hb dM_choosesOne_20 rfl (lv_at hl 0 rfl) ?_
      refine lv_iload hx hb dM_choosesOne_21 (lv_at hl 3 rfl) ?_
      refine zt_callRl (zg_run (rest := []) hx hb hml hown (tM_benefitOf l he9 hc9 hR9 (by omega)) (wcM_77 hz (Nat.le_of_ble_eq_true rfl) (Nat.le_of_ble_eq_true rfl)) (hz _ ki_M_benefitOf) (hz _ ks_M_benefitOf) (hz _ kC_M_benefitOf) hP hK rfl (q0 := 0) rfl rfl hl.1 rfl (Nat.le_of_ble_eq_true rfl) dM_choosesOne_23 ⟨Nat.le_of_ble_eq_true rfl, Nat.le_of_ble_eq_true rfl⟩) ?_
      have hm : (zq_mx (zq_bn (zq_es L V D F) (zq_ab L D) (zq_ct (zq_es L V D F) (zq_ab L D) F S k) N) i).1 < 2 ^ 63 := Nat.lt_of_le_of_lt (zq_mx_bd (B := 2 ^ 63 - 1) i (fun j _ => by have := hbn j; omega)) (by decide)
      refine lv_lstore (lv' := [(5, .long (lN (zq_bn (zq_es L V D F) (zq_ab L D) (zq_ct (zq_es L V D F) (zq_ab L D) F S k) N i))), (0, .ref (ad 0)), (1, .int (nI (zq_mx (zq_bn (zq_es L V D F) (zq_ab L D) (zq_ct (zq_es L V D F) (zq_ab L D) F S k) N) i).2 - 1)), (2, .long (lN ((zq_mx (zq_bn (zq_es L V D F) (zq_ab L D) (zq_ct (zq_es L V D F) (zq_ab L D) F S k) N) i).1))), (4, .int (nI i))]) hx hb dM_choosesOne_26 hl (by decide) rfl (fun ls hl => ?_)
      refine lv_lload hx hb dM_choosesOne_28 (lv_at hl 0 rfl) ?_
      refine lv_lload_n hx hb dM_choosesOne_30 rfl (lv_at hl 3 rfl) ?_
      refine zl_le (tgt := 41) hx hb dM_choosesOne_31 dM_choosesOne_32 (by decide) (hbn i) (hm) (fun c31 => ?_) (fun c31 => ?_)
      · have e1 : zq_mx (zq_bn (zq_es L V D F) (zq_ab L D) (zq_ct (zq_es L V D F) (zq_ab L D) F S k) N) (i + 1) = zq_mx (zq_bn (zq_es L V D F) (zq_ab L D) (zq_ct (zq_es L V D F) (zq_ab L D) F S k) N) i := zq_mx_f (by omega)
        refine lv_iinc (v := nI (i + 1)) (lv' := [(4, .int (nI (i + 1))), (5, .long (lN (zq_bn (zq_es L V D F) (zq_ab L D) (zq_ct (zq_es L V D F) (zq_ab L D) F S k) N i))), (0, .ref (ad 0)), (1, .int (nI (zq_mx (zq_bn (zq_es L V D F) (zq_ab L D) (zq_ct (zq_es L V D F) (zq_ab L D) F S k) N) i).2 - 1)), (2, .long (lN ((zq_mx (zq_bn (zq_es L V D F) (zq_ab L D) (zq_ct (zq_es L V D F) (zq_ab L D) F S k) N) i).1)))]) hx hb dM_choosesOne_41 hl (k := 4) rfl (nI_1 _) (by decide) rfl (fun ls hl => ?_)
        refine lv_goto (tgt := 11) hx hb dM_choosesOne_44 (by decide) ?_
        exact ih (i + 1) (by omega) ls (by rw [e1]; exact (lv_sub hl [2, 3, 4, 0] rfl))
      · have e1 : zq_mx (zq_bn (zq_es L V D F) (zq_ab L D) (zq_ct (zq_es L V D F) (zq_ab L D) F S k) N) (i + 1) = (zq_bn (zq_es L V D F) (zq_ab L D) (zq_ct (zq_es L V D F) (zq_ab L D) F S k) N i, i + 1) := zq_mx_t (by omega)
        refine lv_lload hx hb dM_choosesOne_35 (lv_at hl 0 rfl) ?_
        refine lv_lstore_n (lv' := [(2, .long (lN (zq_bn (zq_es L V D F) (zq_ab L D) (zq_ct (zq_es L V D F) (zq_ab L D) F S k) N i))), (5, .long (lN (zq_bn (zq_es L V D F) (zq_ab L D) (zq_ct (zq_es L V D F) (zq_ab L D) F S k) N i))), (0, .ref (ad 0)), (1, .int (nI (zq_mx (zq_bn (zq_es L V D F) (zq_ab L D) (zq_ct (zq_es L V D F) (zq_ab L D) F S k) N) i).2 - 1)), (4, .int (nI i))]) hx hb dM_choosesOne_37 rfl hl (by decide) rfl (fun ls hl => ?_)
        refine lv_iload hx hb dM_choosesOne_38 (lv_at hl 4 rfl) ?_
        refine zt_ti (y := nI (i + 1) - 1) (nI_pred i).symm ?_
        refine lv_istore_n (lv' := [(1, .int (nI (i + 1) - 1)), (2, .long (lN (zq_bn (zq_es L V D F) (zq_ab L D) (zq_ct (zq_es L V D F) (zq_ab L D) F S k) N i))), (5, .long (lN (zq_bn (zq_es L V D F) (zq_ab L D) (zq_ct (zq_es L V D F) (zq_ab L D) F S k) N i))), (0, .ref (ad 0)), (4, .int (nI i))]) hx hb dM_choosesOne_40 rfl hl (by decide) rfl (fun ls hl => ?_)
        refine lv_iinc (v := nI (i + 1)) (lv' := [(4, .int (nI (i + 1))), (1, .int (nI (i + 1) - 1)), (2, .long (lN (zq_bn (zq_es L V D F) (zq_ab L D) (zq_ct (zq_es L V D F) (zq_ab L D) F S k) N i))), (5, .long (lN (zq_bn (zq_es L V D F) (zq_ab L D) (zq_ct (zq_es L V D F) (zq_ab L D) F S k) N i))), (0, .ref (ad 0))]) hx hb dM_choosesOne_41 hl (k := 4) rfl (nI_1 _) (by decide) rfl (fun ls hl => ?_)
        refine lv_goto (tgt := 11) hx hb dM_choosesOne_44 (by decide) ?_
        exact ih (i + 1) (by omega) ls (by rw [e1]; exact (lv_sub hl [4, 1, 2, 0] rfl))
  exact loop N 0 (by omega) ls (lv_sub hl [3, 2, 1, 0] rfl)
end
section
/-! the reference's numbers of what it refuses -/
def zc_b (b : Bool) : Nat := if b = true then 0 else 1
def zc_st (k : Nat) : Nat := if k < 16 then 0 else 1
theorem zq_upL {L : Nat → Nat} {D a : Nat} (hL : ∀ j, j < D → 1 ≤ L j ∧ L j ≤ 4) (h1 : 1 ≤ a) (h2 : a ≤ 4) : ∀ j, j < D + 1 → 1 ≤ zq_up L D a j ∧ zq_up L D a j ≤ 4 := by
  intro j hj
  by_cases e : j = D
  · rw [e, zq_up_s]; exact ⟨h1, h2⟩
  · rw [zq_up_n L e]; exact hL j (by omega)
theorem zq_upV {L : Nat → Nat} {D a : Nat} {lev : Nat → Int32} (hl : ∀ j, j < D → lev j = nI (L j)) : ∀ j, j < D + 1 → upd lev D (nI a) j = nI (zq_up L D a j) := by
  intro j hj
  by_cases e : j = D
  · rw [e, pk_us, zq_up_s]
  · rw [pk_un e, zq_up_n L e]; exact hl j (by omega)
end
section
/-! the reference: its public methods: by program (wip/gen/model_pub.py) -/
set_option maxHeartbeats 4000000 in
set_option maxRecDepth 100000 in
theorem tM_views (l : Launch) {dC : Nat → ClassId} {dI : Nat → Nat → Nat} {cI cJ cB : ClassId} {ad : Nat → Nat} {lev val chs dig : Nat → Int32} {est cst : Nat → Int64} {code : Int32} {D N F k : Nat}  {sz : Nat} (had : zg_ap ad 7)  : zt_Met l yM_views wM_views rM_views (va_Pc [.ref (ad 0)] (zg_C dC dI cI cJ cB (zm_w ad cI cJ cB lev val chs dig est cst code D N F k) sz)) (zg_Q dC dI (fun u : Unit => some (.int (nI N))) (fun u => True) (fun u => zm_w ad cI cJ cB lev val chs dig est cst (nI 0) D N F k) (zg_A ad 7 sz)) 0 0 0 0 (zg_A ad 7 sz) := by
  refine zt_ofW (cc := cM_views) (maxL := 1) (ret := (some .int)) (by decide) rfl ?_
  intro p e s m args below meth c s₁ B hml hout hv
  obtain ⟨rfl, hsz, hP, hK⟩ := hv
  have hx := B.exec
  have hb := B.bytes
  have hr := B.returns
  have hz : ∀ w ∈ zw0, w.before ([.ref (ad 0)] : List Value).toArray s = true := fun w h => atoms_spec (ws := wM_views) B.pre w (List.mem_cons_of_mem _ h)
  have hown : s.vm.findClass RM = some m.cls := findClass_of_methodNamed B.named
  have hlocks := B.notSynchronized
  subst hsz
  have hS : va_S (zg_A ad 7 s.heap.size) s.heap s.heap [] := va_S.rf
  have hl := lv_entry ([.ref (ad 0)]) (n := 1) (Nat.le_of_ble_eq_true rfl)
  rw [lg_entry_eq]
  generalize (lg_sl ([.ref (ad 0)]) ++ List.replicate (1 - (lg_sl ([.ref (ad 0)])).length) Slot.unset).toArray = ls at hl ⊢
  have hl : lv_has ls 1 [(0, .ref (ad 0))] := hl
  refine lv_aload_n hx hb dM_views_0 rfl (lv_at hl 0 rfl) ?_
  refine lv_iconst (v := nI 0) hx hb dM_views_1 (by decide) ?_
  refine va_put (D := (dC, dI)) (ci := 1) (v := .int (nI 0)) (ty := .int) (C := RM) (T := TM) (N := 11) hx hb hz in_M tyM tyM_ok nmM hown hK hP (zm_D had) hS 0 rfl rfl 0 (by decide) (hz _ kf_M_34) (fun _ h9 => h9) rfl (by decide +kernel) rfl rfl (Nat.le_of_ble_eq_true rfl) dM_views_2 (fun H locs hP _ hS => ?_)
  have hP : va_P (dC, dI) zcl (zm_w ad cI cJ cB lev val chs dig est cst (nI 0) D N F k) H := hP
  refine lv_aload_n hx hb dM_views_5 rfl (lv_at hl 0 rfl) ?_
  refine va_get (D := (dC, dI)) (ci := 1) (v := .int (nI N)) (C := RM) (T := TM) (N := 11) hx hb hz in_M hown hK hP 0 rfl rfl 5 (by decide) (hz _ kf_M_16) (fun _ h9 => h9) rfl dM_views_6 ?_
  exact zt_ri hx hb hr hlocks (fun t ht _ => ⟨(), rfl, trivial, by rw [ht]; exact hP, hS.F ht⟩) (hS.2.2) dM_views_9
set_option maxHeartbeats 4000000 in
set_option maxRecDepth 100000 in
theorem tM_drop (l : Launch) {dC : Nat → ClassId} {dI : Nat → Nat → Nat} {cI cJ cB : ClassId} {ad : Nat → Nat} {lev val chs dig : Nat → Int32} {est cst : Nat → Int64} {code : Int32} {D N F k : Nat}  {sz : Nat} (had : zg_ap ad 7)  : zt_Met l yM_drop wM_drop rM_drop (va_Pc [.ref (ad 0)] (zg_C dC dI cI cJ cB (zm_w ad cI cJ cB lev val chs dig est cst code D N F k) sz)) (zg_Q dC dI (fun u : Unit => some (.int (nI k))) (fun u => True) (fun u => zm_w ad cI cJ cB lev val chs dig est cst (nI 0) D N F 0) (zg_A ad 7 sz)) 0 0 0 0 (zg_A ad 7 sz) := by
  refine zt_ofW (cc := cM_drop) (maxL := 2) (ret := (some .int)) (by decide) rfl ?_
  intro p e s m args below meth c s₁ B hml hout hv
  obtain ⟨rfl, hsz, hP, hK⟩ := hv
  have hx := B.exec
  have hb := B.bytes
  have hr := B.returns
  have hz : ∀ w ∈ zw0, w.before ([.ref (ad 0)] : List Value).toArray s = true := fun w h => atoms_spec (ws := wM_drop) B.pre w (List.mem_cons_of_mem _ h)
  have hown : s.vm.findClass RM = some m.cls := findClass_of_methodNamed B.named
  have hlocks := B.notSynchronized
  subst hsz
  have hS : va_S (zg_A ad 7 s.heap.size) s.heap s.heap [] := va_S.rf
  have hl := lv_entry ([.ref (ad 0)]) (n := 2) (Nat.le_of_ble_eq_true rfl)
  rw [lg_entry_eq]
  generalize (lg_sl ([.ref (ad 0)]) ++ List.replicate (2 - (lg_sl ([.ref (ad 0)])).length) Slot.unset).toArray = ls at hl ⊢
  have hl : lv_has ls 2 [(0, .ref (ad 0))] := hl
  refine lv_aload_n hx hb dM_drop_0 rfl (lv_at hl 0 rfl) ?_
  refine lv_iconst (v := nI 0) hx hb dM_drop_1 (by decide) ?_
  refine va_put (D := (dC, dI)) (ci := 1) (v := .int (nI 0)) (ty := .int) (C := RM) (T := TM) (N := 11) hx hb hz in_M tyM tyM_ok nmM hown hK hP (zm_D had) hS 0 rfl rfl 0 (by decide) (hz _ kf_M_34) (fun _ h9 => h9) rfl (by decide +kernel) rfl rfl (Nat.le_of_ble_eq_true rfl) dM_drop_2 (fun H locs hP _ hS => ?_)
  have hP : va_P (dC, dI) zcl (zm_w ad cI cJ cB lev val chs dig est cst (nI 0) D N F k) H := hP
  refine lv_aload_n hx hb dM_drop_5 rfl (lv_at hl 0 rfl) ?_
  refine va_get (D := (dC, dI)) (ci := 1) (v := .int (nI k)) (C := RM) (T := TM) (N := 11) hx hb hz in_M hown hK hP 0 rfl rfl 6 (by decide) (hz _ kf_M_40) (fun _ h9 => h9) rfl dM_drop_6 ?_
  refine lv_istore_n (lv' := [(1, .int (nI k)), (0, .ref (ad 0))]) hx hb dM_drop_9 rfl hl (by decide) rfl (fun ls hl => ?_)
  refine lv_aload_n hx hb dM_drop_10 rfl (lv_at hl 1 rfl) ?_
  refine lv_iconst (v := nI 0) hx hb dM_drop_11 (by decide) ?_
  refine va_put (D := (dC, dI)) (ci := 1) (v := .int (nI 0)) (ty := .int) (C := RM) (T := TM) (N := 11) hx hb hz in_M tyM tyM_ok nmM hown hK hP (zm_D had) hS 0 rfl rfl 6 (by decide) (hz _ kf_M_40) (fun _ h9 => h9) rfl (by decide +kernel) rfl rfl (Nat.le_of_ble_eq_true rfl) dM_drop_12 (fun H locs hP _ hS => ?_)
  have hP : va_P (dC, dI) zcl (zm_w ad cI cJ cB lev val chs dig est cst (nI 0) D N F 0) H := hP
  refine lv_iload_n hx hb dM_drop_15 rfl (lv_at hl 0 rfl) ?_
  exact zt_ri hx hb hr hlocks (fun t ht _ => ⟨(), rfl, trivial, by rw [ht]; exact hP, hS.F ht⟩) (hS.2.2) dM_drop_16
set_option maxHeartbeats 4000000 in
set_option maxRecDepth 100000 in
theorem tM_digit (l : Launch) {dC : Nat → ClassId} {dI : Nat → Nat → Nat} {cI cJ cB : ClassId} {ad : Nat → Nat} {lev val chs dig : Nat → Int32} {est cst : Nat → Int64} {code : Int32} {D N F k : Nat} {L V : Nat → Nat} {p0 p1 : Int32} {sz : Nat} (had : zg_ap ad 7) (hR : zm_R D N F L V lev val dig) : zt_Met l yM_digit wM_digit rM_digit (va_Pc [.ref (ad 0), .int p0, .int p1] (zg_C dC dI cI cJ cB (zm_w ad cI cJ cB lev val chs dig est cst code D N F k) sz)) (zg_Q dC dI (fun u : Int32 => some (.int u)) (fun u => ((zb_in p0 N && zb_in p1 D) = true → u = nI (zq_dg L D p0.toNatClampNeg p1.toNatClampNeg))) (fun u => zm_w ad cI cJ cB lev val chs dig est cst (nI (zc_b (zb_in p0 N && zb_in p1 D))) D N F k) (zg_A ad 7 sz)) 0 0 0 0 (zg_A ad 7 sz) := by
  refine zt_ofW (cc := cM_digit) (maxL := 3) (ret := (some .int)) (by decide) rfl ?_
  intro p e s m args below meth c s₁ B hml hout hv
  obtain ⟨rfl, hsz, hP, hK⟩ := hv
  have hx := B.exec
  have hb := B.bytes
  have hr := B.returns
  have hz : ∀ w ∈ zw0, w.before ([.ref (ad 0), .int p0, .int p1] : List Value).toArray s = true := fun w h => atoms_spec (ws := wM_digit) B.pre w (List.mem_cons_of_mem _ h)
  have hown : s.vm.findClass RM = some m.cls := findClass_of_methodNamed B.named
  have hlocks := B.notSynchronized
  subst hsz
  have hS : va_S (zg_A ad 7 s.heap.size) s.heap s.heap [] := va_S.rf
  have hl := lv_entry ([.ref (ad 0), .int p0, .int p1]) (n := 3) (Nat.le_of_ble_eq_true rfl)
  rw [lg_entry_eq]
  generalize (lg_sl ([.ref (ad 0), .int p0, .int p1]) ++ List.replicate (3 - (lg_sl ([.ref (ad 0), .int p0, .int p1])).length) Slot.unset).toArray = ls at hl ⊢
  have hl : lv_has ls 3 [(0, .ref (ad 0)), (1, .int p0), (2, .int p1)] := hl
  have hR9 := hR
  obtain ⟨hD, hL, hN, hN5, hF, hVb, hlev, hval, hdg⟩ := hR
  refine lv_aload_n hx hb dM_digit_0 rfl (lv_at hl 0 rfl) ?_
  refine lv_aload_n hx hb dM_digit_1 rfl (lv_at hl 0 rfl) ?_
  refine lv_iload_n hx hb dM_digit_2 rfl (lv_at hl 1 rfl) ?_
  refine zt_callRi (zg_run (rest := [.ref (ad 0)]) hx hb hml hown (tM_isView l hN5) (wcM_71 hz (Nat.le_of_ble_eq_true rfl) (Nat.le_of_ble_eq_true rfl)) (hz _ ki_M_isView) (hz _ ks_M_isView) (hz _ kC_M_isView) hP hK rfl (q0 := 0) rfl rfl hl.1 rfl (Nat.le_of_ble_eq_true rfl) dM_digit_3 ⟨Nat.le_of_ble_eq_true rfl, Nat.le_of_ble_eq_true rfl⟩) ?_
  refine zb_eq (tgt := 21) hx hb dM_digit_6 (by decide) (fun c6 => ?_) (fun c6 => ?_)
  · have ecd : zc_b (zb_in p0 N && zb_in p1 D) = 1 := by rw [c6, Bool.false_and]; rfl
    rw [ecd]
    refine lv_iconst (v := nI 1) hx hb dM_digit_21 (by decide) ?_
    refine va_put (D := (dC, dI)) (ci := 1) (v := .int (nI 1)) (ty := .int) (C := RM) (T := TM) (N := 11) hx hb hz in_M tyM tyM_ok nmM hown hK hP (zm_D had) hS 0 rfl rfl 0 (by decide) (hz _ kf_M_34) (fun _ h9 => h9) rfl (by decide +kernel) rfl rfl (Nat.le_of_ble_eq_true rfl) dM_digit_22 (fun H locs hP _ hS => ?_)
    have hP : va_P (dC, dI) zcl (zm_w ad cI cJ cB lev val chs dig est cst (nI 1) D N F k) H := hP
    refine lv_aload_n hx hb dM_digit_25 rfl (lv_at hl 0 rfl) ?_
    refine va_get (D := (dC, dI)) (ci := 1) (v := .int (nI 1)) (C := RM) (T := TM) (N := 11) hx hb hz in_M hown hK hP 0 rfl rfl 0 (by decide) (hz _ kf_M_34) (fun _ h9 => h9) rfl dM_digit_26 ?_
    refine lv_if_le (tgt := 36) hx hb dM_digit_29 (by decide) (fun c29 => absurd c29 (by decide)) (fun _ => ?_)
    refine lv_iconst (v := nI 0) hx hb dM_digit_32 (by decide) ?_
    refine lv_goto (tgt := 42) hx hb dM_digit_33 (by decide) ?_
    exact zt_ri hx hb hr hlocks (fun t ht _ => ⟨nI 0, rfl, fun q => absurd q (by rw [c6, Bool.false_and]; exact Bool.false_ne_true), by rw [ht]; exact hP, hS.F ht⟩) (hS.2.2) dM_digit_42
  · refine lv_aload_n hx hb dM_digit_9 rfl (lv_at hl 0 rfl) ?_
    refine lv_iload_n hx hb dM_digit_10 rfl (lv_at hl 2 rfl) ?_
    refine zt_callRi (zg_run (rest := [.ref (ad 0)]) hx hb hml hown (tM_isDimension l (by omega)) (wcM_46 hz (Nat.le_of_ble_eq_true rfl) (Nat.le_of_ble_eq_true rfl)) (hz _ ki_M_isDimension) (hz _ ks_M_isDimension) (hz _ kC_M_isDimension) hP hK rfl (q0 := 0) rfl rfl hl.1 rfl (Nat.le_of_ble_eq_true rfl) dM_digit_11 ⟨Nat.le_of_ble_eq_true rfl, Nat.le_of_ble_eq_true rfl⟩) ?_
    refine zb_eq (tgt := 21) hx hb dM_digit_14 (by decide) (fun c14 => ?_) (fun c14 => ?_)
    · have ecd : zc_b (zb_in p0 N && zb_in p1 D) = 1 := by rw [c14, Bool.and_false]; rfl
      rw [ecd]
      refine lv_iconst (v := nI 1) hx hb dM_digit_21 (by decide) ?_
      refine va_put (D := (dC, dI)) (ci := 1) (v := .int (nI 1)) (ty := .int) (C := RM) (T := TM) (N := 11) hx hb hz in_M tyM tyM_ok nmM hown hK hP (zm_D had) hS 0 rfl rfl 0 (by decide) (hz _ kf_M_34) (fun _ h9 => h9) rfl (by decide +kernel) rfl rfl (Nat.le_of_ble_eq_true rfl) dM_digit_22 (fun H locs hP _ hS => ?_)
      have hP : va_P (dC, dI) zcl (zm_w ad cI cJ cB lev val chs dig est cst (nI 1) D N F k) H := hP
      refine lv_aload_n hx hb dM_digit_25 rfl (lv_at hl 0 rfl) ?_
      refine va_get (D := (dC, dI)) (ci := 1) (v := .int (nI 1)) (C := RM) (T := TM) (N := 11) hx hb hz in_M hown hK hP 0 rfl rfl 0 (by decide) (hz _ kf_M_34) (fun _ h9 => h9) rfl dM_digit_26 ?_
      refine lv_if_le (tgt := 36) hx hb dM_digit_29 (by decide) (fun c29 => absurd c29 (by decide)) (fun _ => ?_)
      refine lv_iconst (v := nI 0) hx hb dM_digit_32 (by decide) ?_
      refine lv_goto (tgt := 42) hx hb dM_digit_33 (by decide) ?_
      exact zt_ri hx hb hr hlocks (fun t ht _ => ⟨nI 0, rfl, fun q => absurd q (by rw [c14, Bool.and_false]; exact Bool.false_ne_true), by rw [ht]; exact hP, hS.F ht⟩) (hS.2.2) dM_digit_42
    · have ecd : zc_b (zb_in p0 N && zb_in p1 D) = 0 := by rw [c6, c14]; rfl
      rw [ecd]
      obtain ⟨v, hv, rfl⟩ := zb_of c6 (by omega)
      obtain ⟨d, hd, rfl⟩ := zb_of c14 (by omega)
      refine lv_iconst (v := nI 0) hx hb dM_digit_17 (by decide) ?_
      refine lv_goto (tgt := 22) hx hb dM_digit_18 (by decide) ?_
      refine va_put (D := (dC, dI)) (ci := 1) (v := .int (nI 0)) (ty := .int) (C := RM) (T := TM) (N := 11) hx hb hz in_M tyM tyM_ok nmM hown hK hP (zm_D had) hS 0 rfl rfl 0 (by decide) (hz _ kf_M_34) (fun _ h9 => h9) rfl (by decide +kernel) rfl rfl (Nat.le_of_ble_eq_true rfl) dM_digit_22 (fun H locs hP _ hS => ?_)
      have hP : va_P (dC, dI) zcl (zm_w ad cI cJ cB lev val chs dig est cst (nI 0) D N F k) H := hP
      refine lv_aload_n hx hb dM_digit_25 rfl (lv_at hl 0 rfl) ?_
      refine va_get (D := (dC, dI)) (ci := 1) (v := .int (nI 0)) (C := RM) (T := TM) (N := 11) hx hb hz in_M hown hK hP 0 rfl rfl 0 (by decide) (hz _ kf_M_34) (fun _ h9 => h9) rfl dM_digit_26 ?_
      refine lv_if_le (tgt := 36) hx hb dM_digit_29 (by decide) (fun _ => ?_) (fun c29 => absurd c29 (not_not_intro (by decide)))
      refine lv_aload_n hx hb dM_digit_36 rfl (lv_at hl 0 rfl) ?_
      refine lv_iload_n hx hb dM_digit_37 rfl (lv_at hl 1 rfl) ?_
      refine lv_iload_n hx hb dM_digit_38 rfl (lv_at hl 2 rfl) ?_
      refine zt_callRi (zg_run (rest := []) hx hb hml hown (tM_digitOf l hR9 hv hd) (wcM_58 hz (Nat.le_of_ble_eq_true rfl) (Nat.le_of_ble_eq_true rfl)) (hz _ ki_M_digitOf) (hz _ ks_M_digitOf) (hz _ kC_M_digitOf) hP hK rfl (q0 := 0) rfl rfl hl.1 rfl (Nat.le_of_ble_eq_true rfl) dM_digit_39 ⟨Nat.le_of_ble_eq_true rfl, Nat.le_of_ble_eq_true rfl⟩) ?_
      exact zt_ri hx hb hr hlocks (fun t ht _ => ⟨nI (zq_dg L D v d), rfl, fun _ => by rw [nI_clamp (by omega), nI_clamp (by omega)], by rw [ht]; exact hP, hS.F ht⟩) (hS.2.2) dM_digit_42
set_option maxHeartbeats 4000000 in
set_option maxRecDepth 100000 in
theorem tM_isAbove (l : Launch) {dC : Nat → ClassId} {dI : Nat → Nat → Nat} {cI cJ cB : ClassId} {ad : Nat → Nat} {lev val chs dig : Nat → Int32} {est cst : Nat → Int64} {code : Int32} {D N F k : Nat} {L V : Nat → Nat} {p0 p1 : Int32} {sz : Nat} (had : zg_ap ad 7) (hR : zm_R D N F L V lev val dig) : zt_Met l yM_isAbove wM_isAbove rM_isAbove (va_Pc [.ref (ad 0), .int p0, .int p1] (zg_C dC dI cI cJ cB (zm_w ad cI cJ cB lev val chs dig est cst code D N F k) sz)) (zg_Q dC dI (fun u : Int32 => some (.int u)) (fun u => ((zb_in p0 N && zb_in p1 N) = true → u = if zq_ab L D p0.toNatClampNeg p1.toNatClampNeg = true then 1 else 0) ∧ (u = 0 ∨ u = 1)) (fun u => zm_w ad cI cJ cB lev val chs dig est cst (nI (zc_b (zb_in p0 N && zb_in p1 N))) D N F k) (zg_A ad 7 sz)) 0 0 0 0 (zg_A ad 7 sz) := by
  refine zt_ofW (cc := cM_isAbove) (maxL := 3) (ret := (some .boolean)) (by decide) rfl ?_
  intro p e s m args below meth c s₁ B hml hout hv
  obtain ⟨rfl, hsz, hP, hK⟩ := hv
  have hx := B.exec
  have hb := B.bytes
  have hr := B.returns
  have hz : ∀ w ∈ zw0, w.before ([.ref (ad 0), .int p0, .int p1] : List Value).toArray s = true := fun w h => atoms_spec (ws := wM_isAbove) B.pre w (List.mem_cons_of_mem _ h)
  have hown : s.vm.findClass RM = some m.cls := findClass_of_methodNamed B.named
  have hlocks := B.notSynchronized
  subst hsz
  have hS : va_S (zg_A ad 7 s.heap.size) s.heap s.heap [] := va_S.rf
  have hl := lv_entry ([.ref (ad 0), .int p0, .int p1]) (n := 3) (Nat.le_of_ble_eq_true rfl)
  rw [lg_entry_eq]
  generalize (lg_sl ([.ref (ad 0), .int p0, .int p1]) ++ List.replicate (3 - (lg_sl ([.ref (ad 0), .int p0, .int p1])).length) Slot.unset).toArray = ls at hl ⊢
  have hl : lv_has ls 3 [(0, .ref (ad 0)), (1, .int p0), (2, .int p1)] := hl
  have hR9 := hR
  obtain ⟨hD, hL, hN, hN5, hF, hVb, hlev, hval, hdg⟩ := hR
  refine lv_aload_n hx hb dM_isAbove_0 rfl (lv_at hl 0 rfl) ?_
  refine lv_aload_n hx hb dM_isAbove_1 rfl (lv_at hl 0 rfl) ?_
  refine lv_iload_n hx hb dM_isAbove_2 rfl (lv_at hl 1 rfl) ?_
  refine zt_callRi (zg_run (rest := [.ref (ad 0)]) hx hb hml hown (tM_isView l hN5) (wcM_71 hz (Nat.le_of_ble_eq_true rfl) (Nat.le_of_ble_eq_true rfl)) (hz _ ki_M_isView) (hz _ ks_M_isView) (hz _ kC_M_isView) hP hK rfl (q0 := 0) rfl rfl hl.1 rfl (Nat.le_of_ble_eq_true rfl) dM_isAbove_3 ⟨Nat.le_of_ble_eq_true rfl, Nat.le_of_ble_eq_true rfl⟩) ?_
  refine zb_eq (tgt := 21) hx hb dM_isAbove_6 (by decide) (fun c6 => ?_) (fun c6 => ?_)
  · have ecd : zc_b (zb_in p0 N && zb_in p1 N) = 1 := by rw [c6, Bool.false_and]; rfl
    rw [ecd]
    refine lv_iconst (v := nI 1) hx hb dM_isAbove_21 (by decide) ?_
    refine va_put (D := (dC, dI)) (ci := 1) (v := .int (nI 1)) (ty := .int) (C := RM) (T := TM) (N := 11) hx hb hz in_M tyM tyM_ok nmM hown hK hP (zm_D had) hS 0 rfl rfl 0 (by decide) (hz _ kf_M_34) (fun _ h9 => h9) rfl (by decide +kernel) rfl rfl (Nat.le_of_ble_eq_true rfl) dM_isAbove_22 (fun H locs hP _ hS => ?_)
    have hP : va_P (dC, dI) zcl (zm_w ad cI cJ cB lev val chs dig est cst (nI 1) D N F k) H := hP
    refine lv_aload_n hx hb dM_isAbove_25 rfl (lv_at hl 0 rfl) ?_
    refine va_get (D := (dC, dI)) (ci := 1) (v := .int (nI 1)) (C := RM) (T := TM) (N := 11) hx hb hz in_M hown hK hP 0 rfl rfl 0 (by decide) (hz _ kf_M_34) (fun _ h9 => h9) rfl dM_isAbove_26 ?_
    refine lv_if_ne (tgt := 45) hx hb dM_isAbove_29 (by decide) (fun _ => ?_) (fun c29 => absurd c29 (by decide))
    refine lv_iconst (v := nI 0) hx hb dM_isAbove_45 (by decide) ?_
    exact zt_rz hx hb hr hlocks (rfl) (fun t ht _ => ⟨nI 0, rfl, ⟨fun q => absurd q (by rw [c6, Bool.false_and]; exact Bool.false_ne_true), Or.inl rfl⟩, by rw [ht]; exact hP, hS.F ht⟩) (hS.2.2) dM_isAbove_46
  · refine lv_aload_n hx hb dM_isAbove_9 rfl (lv_at hl 0 rfl) ?_
    refine lv_iload_n hx hb dM_isAbove_10 rfl (lv_at hl 2 rfl) ?_
    refine zt_callRi (zg_run (rest := [.ref (ad 0)]) hx hb hml hown (tM_isView l hN5) (wcM_71 hz (Nat.le_of_ble_eq_true rfl) (Nat.le_of_ble_eq_true rfl)) (hz _ ki_M_isView) (hz _ ks_M_isView) (hz _ kC_M_isView) hP hK rfl (q0 := 0) rfl rfl hl.1 rfl (Nat.le_of_ble_eq_true rfl) dM_isAbove_11 ⟨Nat.le_of_ble_eq_true rfl, Nat.le_of_ble_eq_true rfl⟩) ?_
    refine zb_eq (tgt := 21) hx hb dM_isAbove_14 (by decide) (fun c14 => ?_) (fun c14 => ?_)
    · have ecd : zc_b (zb_in p0 N && zb_in p1 N) = 1 := by rw [c14, Bool.and_false]; rfl
      rw [ecd]
      refine lv_iconst (v := nI 1) hx hb dM_isAbove_21 (by decide) ?_
      refine va_put (D := (dC, dI)) (ci := 1) (v := .int (nI 1)) (ty := .int) (C := RM) (T := TM) (N := 11) hx hb hz in_M tyM tyM_ok nmM hown hK hP (zm_D had) hS 0 rfl rfl 0 (by decide) (hz _ kf_M_34) (fun _ h9 => h9) rfl (by decide +kernel) rfl rfl (Nat.le_of_ble_eq_true rfl) dM_isAbove_22 (fun H locs hP _ hS => ?_)
      have hP : va_P (dC, dI) zcl (zm_w ad cI cJ cB lev val chs dig est cst (nI 1) D N F k) H := hP
      refine lv_aload_n hx hb dM_isAbove_25 rfl (lv_at hl 0 rfl) ?_
      refine va_get (D := (dC, dI)) (ci := 1) (v := .int (nI 1)) (C := RM) (T := TM) (N := 11) hx hb hz in_M hown hK hP 0 rfl rfl 0 (by decide) (hz _ kf_M_34) (fun _ h9 => h9) rfl dM_isAbove_26 ?_
      refine lv_if_ne (tgt := 45) hx hb dM_isAbove_29 (by decide) (fun _ => ?_) (fun c29 => absurd c29 (by decide))
      refine lv_iconst (v := nI 0) hx hb dM_isAbove_45 (by decide) ?_
      exact zt_rz hx hb hr hlocks (rfl) (fun t ht _ => ⟨nI 0, rfl, ⟨fun q => absurd q (by rw [c14, Bool.and_false]; exact Bool.false_ne_true), Or.inl rfl⟩, by rw [ht]; exact hP, hS.F ht⟩) (hS.2.2) dM_isAbove_46
    · have ecd : zc_b (zb_in p0 N && zb_in p1 N) = 0 := by rw [c6, c14]; rfl
      rw [ecd]
      obtain ⟨v, hv, rfl⟩ := zb_of c6 (by omega)
      obtain ⟨d, hd, rfl⟩ := zb_of c14 (by omega)
      refine lv_iconst (v := nI 0) hx hb dM_isAbove_17 (by decide) ?_
      refine lv_goto (tgt := 22) hx hb dM_isAbove_18 (by decide) ?_
      refine va_put (D := (dC, dI)) (ci := 1) (v := .int (nI 0)) (ty := .int) (C := RM) (T := TM) (N := 11) hx hb hz in_M tyM tyM_ok nmM hown hK hP (zm_D had) hS 0 rfl rfl 0 (by decide) (hz _ kf_M_34) (fun _ h9 => h9) rfl (by decide +kernel) rfl rfl (Nat.le_of_ble_eq_true rfl) dM_isAbove_22 (fun H locs hP _ hS => ?_)
      have hP : va_P (dC, dI) zcl (zm_w ad cI cJ cB lev val chs dig est cst (nI 0) D N F k) H := hP
      refine lv_aload_n hx hb dM_isAbove_25 rfl (lv_at hl 0 rfl) ?_
      refine va_get (D := (dC, dI)) (ci := 1) (v := .int (nI 0)) (C := RM) (T := TM) (N := 11) hx hb hz in_M hown hK hP 0 rfl rfl 0 (by decide) (hz _ kf_M_34) (fun _ h9 => h9) rfl dM_isAbove_26 ?_
      refine lv_if_ne (tgt := 45) hx hb dM_isAbove_29 (by decide) (fun c29 => absurd c29 (not_not_intro (by decide))) (fun _ => ?_)
      refine lv_aload_n hx hb dM_isAbove_32 rfl (lv_at hl 0 rfl) ?_
      refine lv_iload_n hx hb dM_isAbove_33 rfl (lv_at hl 1 rfl) ?_
      refine lv_iload_n hx hb dM_isAbove_34 rfl (lv_at hl 2 rfl) ?_
      refine zt_callRi (zg_run (rest := []) hx hb hml hown (tM_above l hR9 hv hd) (wcM_67 hz (Nat.le_of_ble_eq_true rfl) (Nat.le_of_ble_eq_true rfl)) (hz _ ki_M_above) (hz _ ks_M_above) (hz _ kC_M_above) hP hK rfl (q0 := 0) rfl rfl hl.1 rfl (Nat.le_of_ble_eq_true rfl) dM_isAbove_35 ⟨Nat.le_of_ble_eq_true rfl, Nat.le_of_ble_eq_true rfl⟩) ?_
      refine zb_eq (tgt := 45) hx hb dM_isAbove_38 (by decide) (fun c38 => ?_) (fun c38 => ?_)
      · refine lv_iconst (v := nI 0) hx hb dM_isAbove_45 (by decide) ?_
        exact zt_rz hx hb hr hlocks (rfl) (fun t ht _ => ⟨nI 0, rfl, ⟨fun _ => by rw [nI_clamp (by omega), nI_clamp (by omega), c38]; rfl, Or.inl rfl⟩, by rw [ht]; exact hP, hS.F ht⟩) (hS.2.2) dM_isAbove_46
      · refine lv_iconst (v := nI 1) hx hb dM_isAbove_41 (by decide) ?_
        refine lv_goto (tgt := 46) hx hb dM_isAbove_42 (by decide) ?_
        exact zt_rz hx hb hr hlocks (rfl) (fun t ht _ => ⟨nI 1, rfl, ⟨fun _ => by rw [nI_clamp (by omega), nI_clamp (by omega), c38]; rfl, Or.inr rfl⟩, by rw [ht]; exact hP, hS.F ht⟩) (hS.2.2) dM_isAbove_46
set_option maxHeartbeats 4000000 in
set_option maxRecDepth 100000 in
theorem tM_chosen (l : Launch) {dC : Nat → ClassId} {dI : Nat → Nat → Nat} {cI cJ cB : ClassId} {ad : Nat → Nat} {lev val chs dig : Nat → Int32} {est cst : Nat → Int64} {code : Int32} {D N F k : Nat} {S : Nat → Nat} {p0 : Int32} {sz : Nat} (had : zg_ap ad 7) (hs : zm_S N k S chs) : zt_Met l yM_chosen wM_chosen rM_chosen (va_Pc [.ref (ad 0), .int p0] (zg_C dC dI cI cJ cB (zm_w ad cI cJ cB lev val chs dig est cst code D N F k) sz)) (zg_Q dC dI (fun u : Int32 => some (.int u)) (fun u => zb_in p0 k = true → u = nI (S p0.toNatClampNeg)) (fun u => zm_w ad cI cJ cB lev val chs dig est cst (nI (zc_b (zb_in p0 k))) D N F k) (zg_A ad 7 sz)) 0 0 0 0 (zg_A ad 7 sz) := by
  refine zt_ofW (cc := cM_chosen) (maxL := 2) (ret := (some .int)) (by decide) rfl ?_
  intro p e s m args below meth c s₁ B hml hout hv
  obtain ⟨rfl, hsz, hP, hK⟩ := hv
  have hx := B.exec
  have hb := B.bytes
  have hr := B.returns
  have hz : ∀ w ∈ zw0, w.before ([.ref (ad 0), .int p0] : List Value).toArray s = true := fun w h => atoms_spec (ws := wM_chosen) B.pre w (List.mem_cons_of_mem _ h)
  have hown : s.vm.findClass RM = some m.cls := findClass_of_methodNamed B.named
  have hlocks := B.notSynchronized
  subst hsz
  have hS : va_S (zg_A ad 7 s.heap.size) s.heap s.heap [] := va_S.rf
  have hl := lv_entry ([.ref (ad 0), .int p0]) (n := 2) (Nat.le_of_ble_eq_true rfl)
  rw [lg_entry_eq]
  generalize (lg_sl ([.ref (ad 0), .int p0]) ++ List.replicate (2 - (lg_sl ([.ref (ad 0), .int p0])).length) Slot.unset).toArray = ls at hl ⊢
  have hl : lv_has ls 2 [(0, .ref (ad 0)), (1, .int p0)] := hl
  obtain ⟨hk, hs1, hs2⟩ := hs
  refine lv_aload_n hx hb dM_chosen_0 rfl (lv_at hl 0 rfl) ?_
  refine lv_iload_n hx hb dM_chosen_1 rfl (lv_at hl 1 rfl) ?_
  refine lv_if_lt (tgt := 17) hx hb dM_chosen_2 (by decide) (fun c2 => ?_) (fun c2 => ?_)
  · have ecd : zc_b (zb_in p0 k) = 1 := if_neg (zb_neg c2)
    rw [ecd]
    refine lv_iconst (v := nI 1) hx hb dM_chosen_17 (by decide) ?_
    refine va_put (D := (dC, dI)) (ci := 1) (v := .int (nI 1)) (ty := .int) (C := RM) (T := TM) (N := 11) hx hb hz in_M tyM tyM_ok nmM hown hK hP (zm_D had) hS 0 rfl rfl 0 (by decide) (hz _ kf_M_34) (fun _ h9 => h9) rfl (by decide +kernel) rfl rfl (Nat.le_of_ble_eq_true rfl) dM_chosen_18 (fun H locs hP _ hS => ?_)
    have hP : va_P (dC, dI) zcl (zm_w ad cI cJ cB lev val chs dig est cst (nI 1) D N F k) H := hP
    refine lv_aload_n hx hb dM_chosen_21 rfl (lv_at hl 0 rfl) ?_
    refine va_get (D := (dC, dI)) (ci := 1) (v := .int (nI 1)) (C := RM) (T := TM) (N := 11) hx hb hz in_M hown hK hP 0 rfl rfl 0 (by decide) (hz _ kf_M_34) (fun _ h9 => h9) rfl dM_chosen_22 ?_
    refine lv_if_le (tgt := 32) hx hb dM_chosen_25 (by decide) (fun c25 => absurd c25 (by decide)) (fun _ => ?_)
    refine lv_iconst (v := nI 0) hx hb dM_chosen_28 (by decide) ?_
    refine lv_goto (tgt := 38) hx hb dM_chosen_29 (by decide) ?_
    exact zt_ri hx hb hr hlocks (fun t ht _ => ⟨nI 0, rfl, fun q => absurd q (zb_neg c2), by rw [ht]; exact hP, hS.F ht⟩) (hS.2.2) dM_chosen_38
  · obtain ⟨j, hj, rfl⟩ := nI_of c2
    refine lv_iload_n hx hb dM_chosen_5 rfl (lv_at hl 1 rfl) ?_
    refine lv_aload_n hx hb dM_chosen_6 rfl (lv_at hl 0 rfl) ?_
    refine va_get (D := (dC, dI)) (ci := 1) (v := .int (nI k)) (C := RM) (T := TM) (N := 11) hx hb hz in_M hown hK hP 0 rfl rfl 6 (by decide) (hz _ kf_M_40) (fun _ h9 => h9) rfl dM_chosen_7 ?_
    refine zj_ge (tgt := 17) hx hb dM_chosen_10 (by decide) (by omega) (by omega) (fun c10 => ?_) (fun c10 => ?_)
    · have ecd : zc_b (zb_in (nI j) k) = 1 := if_neg (zb_big c10 hj)
      rw [ecd]
      refine lv_iconst (v := nI 1) hx hb dM_chosen_17 (by decide) ?_
      refine va_put (D := (dC, dI)) (ci := 1) (v := .int (nI 1)) (ty := .int) (C := RM) (T := TM) (N := 11) hx hb hz in_M tyM tyM_ok nmM hown hK hP (zm_D had) hS 0 rfl rfl 0 (by decide) (hz _ kf_M_34) (fun _ h9 => h9) rfl (by decide +kernel) rfl rfl (Nat.le_of_ble_eq_true rfl) dM_chosen_18 (fun H locs hP _ hS => ?_)
      have hP : va_P (dC, dI) zcl (zm_w ad cI cJ cB lev val chs dig est cst (nI 1) D N F k) H := hP
      refine lv_aload_n hx hb dM_chosen_21 rfl (lv_at hl 0 rfl) ?_
      refine va_get (D := (dC, dI)) (ci := 1) (v := .int (nI 1)) (C := RM) (T := TM) (N := 11) hx hb hz in_M hown hK hP 0 rfl rfl 0 (by decide) (hz _ kf_M_34) (fun _ h9 => h9) rfl dM_chosen_22 ?_
      refine lv_if_le (tgt := 32) hx hb dM_chosen_25 (by decide) (fun c25 => absurd c25 (by decide)) (fun _ => ?_)
      refine lv_iconst (v := nI 0) hx hb dM_chosen_28 (by decide) ?_
      refine lv_goto (tgt := 38) hx hb dM_chosen_29 (by decide) ?_
      exact zt_ri hx hb hr hlocks (fun t ht _ => ⟨nI 0, rfl, fun q => absurd q (zb_big c10 hj), by rw [ht]; exact hP, hS.F ht⟩) (hS.2.2) dM_chosen_38
    · have ecd : zc_b (zb_in (nI j) k) = 0 := if_pos (zb_t c10 (by omega))
      rw [ecd]
      refine lv_iconst (v := nI 0) hx hb dM_chosen_13 (by decide) ?_
      refine lv_goto (tgt := 18) hx hb dM_chosen_14 (by decide) ?_
      refine va_put (D := (dC, dI)) (ci := 1) (v := .int (nI 0)) (ty := .int) (C := RM) (T := TM) (N := 11) hx hb hz in_M tyM tyM_ok nmM hown hK hP (zm_D had) hS 0 rfl rfl 0 (by decide) (hz _ kf_M_34) (fun _ h9 => h9) rfl (by decide +kernel) rfl rfl (Nat.le_of_ble_eq_true rfl) dM_chosen_18 (fun H locs hP _ hS => ?_)
      have hP : va_P (dC, dI) zcl (zm_w ad cI cJ cB lev val chs dig est cst (nI 0) D N F k) H := hP
      refine lv_aload_n hx hb dM_chosen_21 rfl (lv_at hl 0 rfl) ?_
      refine va_get (D := (dC, dI)) (ci := 1) (v := .int (nI 0)) (C := RM) (T := TM) (N := 11) hx hb hz in_M hown hK hP 0 rfl rfl 0 (by decide) (hz _ kf_M_34) (fun _ h9 => h9) rfl dM_chosen_22 ?_
      refine lv_if_le (tgt := 32) hx hb dM_chosen_25 (by decide) (fun _ => ?_) (fun c25 => absurd c25 (not_not_intro (by decide)))
      refine lv_aload_n hx hb dM_chosen_32 rfl (lv_at hl 0 rfl) ?_
      refine va_get (D := (dC, dI)) (ci := 1) (v := .ref (ad 3)) (C := RM) (T := TM) (N := 11) hx hb hz in_M hown hK hP 0 rfl rfl 7 (by decide) (hz _ kf_M_20) (fun _ h9 => h9) rfl dM_chosen_33 ?_
      refine lv_iload_n hx hb dM_chosen_36 rfl (lv_at hl 1 rfl) ?_
      refine zt_iald hx hb hK hP 3 0 rfl rfl (i := j) (by omega) (by decide) (v := (nI (S j))) (hs1 j c10) dM_chosen_37 ?_
      exact zt_ri hx hb hr hlocks (fun t ht _ => ⟨nI (S j), rfl, fun _ => by rw [nI_clamp hj], by rw [ht]; exact hP, hS.F ht⟩) (hS.2.2) dM_chosen_38
set_option maxHeartbeats 4000000 in
set_option maxRecDepth 100000 in
theorem tM_facts (l : Launch) {dC : Nat → ClassId} {dI : Nat → Nat → Nat} {cI cJ cB : ClassId} {ad : Nat → Nat} {lev val chs dig : Nat → Int32} {est cst : Nat → Int64} {code : Int32} {D N F k : Nat} {p0 : Int32} {sz : Nat} (had : zg_ap ad 7)  : zt_Met l yM_facts wM_facts rM_facts (va_Pc [.ref (ad 0), .int p0] (zg_C dC dI cI cJ cB (zm_w ad cI cJ cB lev val chs dig est cst code D N F k) sz)) (zg_Q dC dI (fun u : Int32 × Nat × Nat => some (.int u.1)) (fun u => (zc_fac (zn p0) = 0 ∧ u = (nI F, zn p0, 0)) ∨ (zc_fac (zn p0) ≠ 0 ∧ u.2 = (F, k))) (fun u => zm_w ad cI cJ cB lev val chs dig est cst (nI (zc_fac (zn p0))) D N u.2.1 u.2.2) (zg_A ad 7 sz)) 0 0 0 0 (zg_A ad 7 sz) := by
  generalize ha1 : zn p0 = a1
  refine zt_ofW (cc := cM_facts) (maxL := 3) (ret := (some .int)) (by decide) rfl ?_
  intro p e s m args below meth c s₁ B hml hout hv
  obtain ⟨rfl, hsz, hP, hK⟩ := hv
  have hx := B.exec
  have hb := B.bytes
  have hr := B.returns
  have hz : ∀ w ∈ zw0, w.before ([.ref (ad 0), .int p0] : List Value).toArray s = true := fun w h => atoms_spec (ws := wM_facts) B.pre w (List.mem_cons_of_mem _ h)
  have hown : s.vm.findClass RM = some m.cls := findClass_of_methodNamed B.named
  have hlocks := B.notSynchronized
  subst hsz
  have hS : va_S (zg_A ad 7 s.heap.size) s.heap s.heap [] := va_S.rf
  have hl := lv_entry ([.ref (ad 0), .int p0]) (n := 3) (Nat.le_of_ble_eq_true rfl)
  rw [lg_entry_eq]
  generalize (lg_sl ([.ref (ad 0), .int p0]) ++ List.replicate (3 - (lg_sl ([.ref (ad 0), .int p0])).length) Slot.unset).toArray = ls at hl ⊢
  have hl : lv_has ls 3 [(0, .ref (ad 0)), (1, .int p0)] := hl
  rcases zn_cases p0 with ⟨h0, e0⟩ | ⟨n, hn, rfl, e0⟩
  · have ea : a1 = 2 ^ 31 := ha1.symm.trans e0
    have ecd : zc_fac a1 = 1 := by unfold zc_fac; rw [if_neg (by omega)]
    rw [ecd]
    refine lv_aload_n hx hb dM_facts_0 rfl (lv_at hl 0 rfl) ?_
    refine lv_iload_n hx hb dM_facts_1 rfl (lv_at hl 1 rfl) ?_
    refine lv_if_ge (tgt := 9) hx hb dM_facts_2 (by decide) (fun c2 => absurd c2 (fun q => Int32.lt_irrefl (Int32.lt_of_lt_of_le h0 q))) (fun _ => ?_)
    refine lv_iconst (v := nI 1) hx hb dM_facts_5 (by decide) ?_
    refine lv_goto (tgt := 10) hx hb dM_facts_6 (by decide) ?_
    refine va_put (D := (dC, dI)) (ci := 1) (v := .int (nI 1)) (ty := .int) (C := RM) (T := TM) (N := 11) hx hb hz in_M tyM tyM_ok nmM hown hK hP (zm_D had) hS 0 rfl rfl 0 (by decide) (hz _ kf_M_34) (fun _ h9 => h9) rfl (by decide +kernel) rfl rfl (Nat.le_of_ble_eq_true rfl) dM_facts_10 (fun H locs hP _ hS => ?_)
    have hP : va_P (dC, dI) zcl (zm_w ad cI cJ cB lev val chs dig est cst (nI 1) D N F k) H := hP
    refine lv_aload_n hx hb dM_facts_13 rfl (lv_at hl 0 rfl) ?_
    refine va_get (D := (dC, dI)) (ci := 1) (v := .int (nI 1)) (C := RM) (T := TM) (N := 11) hx hb hz in_M hown hK hP 0 rfl rfl 0 (by decide) (hz _ kf_M_34) (fun _ h9 => h9) rfl dM_facts_14 ?_
    refine lv_if_le (tgt := 22) hx hb dM_facts_17 (by decide) (fun c17 => absurd c17 (by decide)) (fun _ => ?_)
    refine lv_iconst (v := nI 0) hx hb dM_facts_20 (by decide) ?_
    exact zt_ri hx hb hr hlocks (fun t ht _ => ⟨(nI 0, F, k), rfl, Or.inr ⟨by decide, rfl⟩, by rw [ht]; exact hP, hS.F ht⟩) (hS.2.2) dM_facts_21
  · have ea : a1 = n := ha1.symm.trans e0
    subst ea
    have ecd : zc_fac a1 = 0 := by unfold zc_fac; rw [if_pos hn]
    rw [ecd]
    refine lv_aload_n hx hb dM_facts_0 rfl (lv_at hl 0 rfl) ?_
    refine lv_iload_n hx hb dM_facts_1 rfl (lv_at hl 1 rfl) ?_
    refine lv_if_ge (tgt := 9) hx hb dM_facts_2 (by decide) (fun _ => ?_) (fun c2 => absurd c2 (not_not_intro (nI_pos' hn)))
    refine lv_iconst (v := nI 0) hx hb dM_facts_9 (by decide) ?_
    refine va_put (D := (dC, dI)) (ci := 1) (v := .int (nI 0)) (ty := .int) (C := RM) (T := TM) (N := 11) hx hb hz in_M tyM tyM_ok nmM hown hK hP (zm_D had) hS 0 rfl rfl 0 (by decide) (hz _ kf_M_34) (fun _ h9 => h9) rfl (by decide +kernel) rfl rfl (Nat.le_of_ble_eq_true rfl) dM_facts_10 (fun H locs hP _ hS => ?_)
    have hP : va_P (dC, dI) zcl (zm_w ad cI cJ cB lev val chs dig est cst (nI 0) D N F k) H := hP
    refine lv_aload_n hx hb dM_facts_13 rfl (lv_at hl 0 rfl) ?_
    refine va_get (D := (dC, dI)) (ci := 1) (v := .int (nI 0)) (C := RM) (T := TM) (N := 11) hx hb hz in_M hown hK hP 0 rfl rfl 0 (by decide) (hz _ kf_M_34) (fun _ h9 => h9) rfl dM_facts_14 ?_
    refine lv_if_le (tgt := 22) hx hb dM_facts_17 (by decide) (fun _ => ?_) (fun c17 => absurd c17 (not_not_intro (by decide)))
    refine lv_aload_n hx hb dM_facts_22 rfl (lv_at hl 0 rfl) ?_
    refine va_get (D := (dC, dI)) (ci := 1) (v := .int (nI F)) (C := RM) (T := TM) (N := 11) hx hb hz in_M hown hK hP 0 rfl rfl 4 (by decide) (hz _ kf_M_51) (fun _ h9 => h9) rfl dM_facts_23 ?_
    refine lv_istore_n (lv' := [(2, .int (nI F)), (0, .ref (ad 0)), (1, .int (nI a1))]) hx hb dM_facts_26 rfl hl (by decide) rfl (fun ls hl => ?_)
    refine lv_aload_n hx hb dM_facts_27 rfl (lv_at hl 1 rfl) ?_
    refine lv_iload_n hx hb dM_facts_28 rfl (lv_at hl 2 rfl) ?_
    refine va_put (D := (dC, dI)) (ci := 1) (v := .int (nI a1)) (ty := .int) (C := RM) (T := TM) (N := 11) hx hb hz in_M tyM tyM_ok nmM hown hK hP (zm_D had) hS 0 rfl rfl 4 (by decide) (hz _ kf_M_51) (fun _ h9 => h9) rfl (by decide +kernel) rfl rfl (Nat.le_of_ble_eq_true rfl) dM_facts_29 (fun H locs hP _ hS => ?_)
    have hP : va_P (dC, dI) zcl (zm_w ad cI cJ cB lev val chs dig est cst (nI 0) D N a1 k) H := hP
    refine lv_aload_n hx hb dM_facts_32 rfl (lv_at hl 1 rfl) ?_
    refine lv_iconst (v := nI 0) hx hb dM_facts_33 (by decide) ?_
    refine va_put (D := (dC, dI)) (ci := 1) (v := .int (nI 0)) (ty := .int) (C := RM) (T := TM) (N := 11) hx hb hz in_M tyM tyM_ok nmM hown hK hP (zm_D had) hS 0 rfl rfl 6 (by decide) (hz _ kf_M_40) (fun _ h9 => h9) rfl (by decide +kernel) rfl rfl (Nat.le_of_ble_eq_true rfl) dM_facts_34 (fun H locs hP _ hS => ?_)
    have hP : va_P (dC, dI) zcl (zm_w ad cI cJ cB lev val chs dig est cst (nI 0) D N a1 0) H := hP
    refine lv_iload_n hx hb dM_facts_37 rfl (lv_at hl 0 rfl) ?_
    exact zt_ri hx hb hr hlocks (fun t ht _ => ⟨(nI F, a1, 0), rfl, Or.inl ⟨rfl, rfl⟩, by rw [ht]; exact hP, hS.F ht⟩) (hS.2.2) dM_facts_38
set_option maxHeartbeats 4000000 in
set_option maxRecDepth 100000 in
theorem tM_values (l : Launch) {dC : Nat → ClassId} {dI : Nat → Nat → Nat} {cI cJ cB : ClassId} {ad : Nat → Nat} {lev val chs dig : Nat → Int32} {est cst : Nat → Int64} {code : Int32} {D N F k : Nat} {L V : Nat → Nat} {p0 p1 p2 : Int32} {sz : Nat} (had : zg_ap ad 7) (hR : zm_R D N F L V lev val dig) : zt_Met l yM_values wM_values rM_values (va_Pc [.ref (ad 0), .int p0, .int p1, .int p2] (zg_C dC dI cI cJ cB (zm_w ad cI cJ cB lev val chs dig est cst code D N F k) sz)) (zg_Q dC dI (fun u : Int32 × (Nat → Int32) × Nat => some (.int u.1)) (fun u => (zc_val (zn p0) (zn p1) (zn p2) D L = 0 ∧ u = (nI (V (4 * zn p0 + zn p1)), upd val (4 * zn p0 + zn p1) (nI (zn p2)), 0)) ∨ (zc_val (zn p0) (zn p1) (zn p2) D L ≠ 0 ∧ u.2 = (val, k))) (fun u => zm_w ad cI cJ cB lev u.2.1 chs dig est cst (nI (zc_val (zn p0) (zn p1) (zn p2) D L)) D N F u.2.2) (zg_A ad 7 sz)) 0 0 0 0 (zg_A ad 7 sz) := by
  generalize ha1 : zn p0 = a1
  generalize ha2 : zn p1 = a2
  generalize ha3 : zn p2 = a3
  refine zt_ofW (cc := cM_values) (maxL := 5) (ret := (some .int)) (by decide) rfl ?_
  intro p e s m args below meth c s₁ B hml hout hv
  obtain ⟨rfl, hsz, hP, hK⟩ := hv
  have hx := B.exec
  have hb := B.bytes
  have hr := B.returns
  have hz : ∀ w ∈ zw0, w.before ([.ref (ad 0), .int p0, .int p1, .int p2] : List Value).toArray s = true := fun w h => atoms_spec (ws := wM_values) B.pre w (List.mem_cons_of_mem _ h)
  have hown : s.vm.findClass RM = some m.cls := findClass_of_methodNamed B.named
  have hlocks := B.notSynchronized
  subst hsz
  have hS : va_S (zg_A ad 7 s.heap.size) s.heap s.heap [] := va_S.rf
  have hl := lv_entry ([.ref (ad 0), .int p0, .int p1, .int p2]) (n := 5) (Nat.le_of_ble_eq_true rfl)
  rw [lg_entry_eq]
  generalize (lg_sl ([.ref (ad 0), .int p0, .int p1, .int p2]) ++ List.replicate (5 - (lg_sl ([.ref (ad 0), .int p0, .int p1, .int p2])).length) Slot.unset).toArray = ls at hl ⊢
  have hl : lv_has ls 5 [(0, .ref (ad 0)), (1, .int p0), (2, .int p1), (3, .int p2)] := hl
  obtain ⟨hD, hL, hN, hN5, hF, hVb, hlev, hval, hdg⟩ := hR
  have hi0 := zn_in p0 (n := D) (by omega)
  rw [ha1] at hi0
  refine lv_aload_n hx hb dM_values_0 rfl (lv_at hl 0 rfl) ?_
  refine lv_aload_n hx hb dM_values_1 rfl (lv_at hl 0 rfl) ?_
  refine lv_iload_n hx hb dM_values_2 rfl (lv_at hl 1 rfl) ?_
  refine zt_callRi (zg_run (rest := [.ref (ad 0)]) hx hb hml hown (tM_isDimension l (by omega)) (wcM_46 hz (Nat.le_of_ble_eq_true rfl) (Nat.le_of_ble_eq_true rfl)) (hz _ ki_M_isDimension) (hz _ ks_M_isDimension) (hz _ kC_M_isDimension) hP hK rfl (q0 := 0) rfl rfl hl.1 rfl (Nat.le_of_ble_eq_true rfl) dM_values_3 ⟨Nat.le_of_ble_eq_true rfl, Nat.le_of_ble_eq_true rfl⟩) ?_
  refine zb_eq (tgt := 33) hx hb dM_values_6 (by decide) (fun c6 => ?_) (fun c6 => ?_)
  · rw [hi0] at c6
    have c6 := of_decide_eq_false c6
    have ecd : zc_val a1 a2 a3 D L = 1 := by unfold zc_val; rw [if_neg (by omega)]
    rw [ecd]
    refine lv_iconst (v := nI 1) hx hb dM_values_33 (by decide) ?_
    refine lv_goto (tgt := 38) hx hb dM_values_34 (by decide) ?_
    refine va_put (D := (dC, dI)) (ci := 1) (v := .int (nI 1)) (ty := .int) (C := RM) (T := TM) (N := 11) hx hb hz in_M tyM tyM_ok nmM hown hK hP (zm_D had) hS 0 rfl rfl 0 (by decide) (hz _ kf_M_34) (fun _ h9 => h9) rfl (by decide +kernel) rfl rfl (Nat.le_of_ble_eq_true rfl) dM_values_38 (fun H locs hP _ hS => ?_)
    have hP : va_P (dC, dI) zcl (zm_w ad cI cJ cB lev val chs dig est cst (nI 1) D N F k) H := hP
    refine lv_aload_n hx hb dM_values_41 rfl (lv_at hl 0 rfl) ?_
    refine va_get (D := (dC, dI)) (ci := 1) (v := .int (nI 1)) (C := RM) (T := TM) (N := 11) hx hb hz in_M hown hK hP 0 rfl rfl 0 (by decide) (hz _ kf_M_34) (fun _ h9 => h9) rfl dM_values_42 ?_
    refine lv_if_le (tgt := 50) hx hb dM_values_45 (by decide) (fun c45 => absurd c45 (by decide)) (fun _ => ?_)
    refine lv_iconst (v := nI 0) hx hb dM_values_48 (by decide) ?_
    exact zt_ri hx hb hr hlocks (fun t ht _ => ⟨(nI 0, val, k), rfl, Or.inr ⟨by decide, rfl⟩, by rw [ht]; exact hP, hS.F ht⟩) (hS.2.2) dM_values_49
  · rw [hi0] at c6
    have hok := of_decide_eq_true c6
    obtain ⟨d, hd, rfl, e0⟩ : ∃ d, d < 2 ^ 31 ∧ p0 = nI d ∧ zn p0 = d := (zn_cases p0).resolve_left (fun q => by have := q.2; omega)
    have ea : a1 = d := ha1.symm.trans e0
    subst ea
    have hLa := hL a1 hok
    rcases zn_cases p1 with ⟨h1, e1⟩ | ⟨b2, hb2, rfl, e1⟩
    · have eb : a2 = 2 ^ 31 := ha2.symm.trans e1
      refine lv_iload_n hx hb dM_values_9 rfl (lv_at hl 2 rfl) ?_
      refine lv_if_lt (tgt := 33) hx hb dM_values_10 (by decide) (fun _ => ?_) (fun c10 => absurd c10 (not_not_intro h1))
      have ecd : zc_val a1 a2 a3 D L = 1 := by unfold zc_val; rw [if_neg (by omega)]
      rw [ecd]
      refine lv_iconst (v := nI 1) hx hb dM_values_33 (by decide) ?_
      refine lv_goto (tgt := 38) hx hb dM_values_34 (by decide) ?_
      refine va_put (D := (dC, dI)) (ci := 1) (v := .int (nI 1)) (ty := .int) (C := RM) (T := TM) (N := 11) hx hb hz in_M tyM tyM_ok nmM hown hK hP (zm_D had) hS 0 rfl rfl 0 (by decide) (hz _ kf_M_34) (fun _ h9 => h9) rfl (by decide +kernel) rfl rfl (Nat.le_of_ble_eq_true rfl) dM_values_38 (fun H locs hP _ hS => ?_)
      have hP : va_P (dC, dI) zcl (zm_w ad cI cJ cB lev val chs dig est cst (nI 1) D N F k) H := hP
      refine lv_aload_n hx hb dM_values_41 rfl (lv_at hl 0 rfl) ?_
      refine va_get (D := (dC, dI)) (ci := 1) (v := .int (nI 1)) (C := RM) (T := TM) (N := 11) hx hb hz in_M hown hK hP 0 rfl rfl 0 (by decide) (hz _ kf_M_34) (fun _ h9 => h9) rfl dM_values_42 ?_
      refine lv_if_le (tgt := 50) hx hb dM_values_45 (by decide) (fun c45 => absurd c45 (by decide)) (fun _ => ?_)
      refine lv_iconst (v := nI 0) hx hb dM_values_48 (by decide) ?_
      exact zt_ri hx hb hr hlocks (fun t ht _ => ⟨(nI 0, val, k), rfl, Or.inr ⟨by decide, rfl⟩, by rw [ht]; exact hP, hS.F ht⟩) (hS.2.2) dM_values_49
    · have eb : a2 = b2 := ha2.symm.trans e1
      subst eb
      refine lv_iload_n hx hb dM_values_9 rfl (lv_at hl 2 rfl) ?_
      refine lv_if_lt (tgt := 33) hx hb dM_values_10 (by decide) (fun c10 => absurd c10 (nI_pos hb2)) (fun _ => ?_)
      refine lv_iload_n hx hb dM_values_13 rfl (lv_at hl 2 rfl) ?_
      refine lv_aload_n hx hb dM_values_14 rfl (lv_at hl 0 rfl) ?_
      refine va_get (D := (dC, dI)) (ci := 1) (v := .ref (ad 1)) (C := RM) (T := TM) (N := 11) hx hb hz in_M hown hK hP 0 rfl rfl 2 (by decide) (hz _ kf_M_7) (fun _ h9 => h9) rfl dM_values_15 ?_
      refine lv_iload_n hx hb dM_values_18 rfl (lv_at hl 1 rfl) ?_
      refine zt_iald hx hb hK hP 1 0 rfl rfl (i := a1) (by omega) (by decide) (v := (nI (L a1))) (hlev a1 hok) dM_values_19 ?_
      refine zj_ge (tgt := 33) hx hb dM_values_20 (by decide) (by omega) (by omega) (fun c20 => ?_) (fun c20 => ?_)
      · have ecd : zc_val a1 a2 a3 D L = 1 := by unfold zc_val; rw [if_neg (by omega)]
        rw [ecd]
        refine lv_iconst (v := nI 1) hx hb dM_values_33 (by decide) ?_
        refine lv_goto (tgt := 38) hx hb dM_values_34 (by decide) ?_
        refine va_put (D := (dC, dI)) (ci := 1) (v := .int (nI 1)) (ty := .int) (C := RM) (T := TM) (N := 11) hx hb hz in_M tyM tyM_ok nmM hown hK hP (zm_D had) hS 0 rfl rfl 0 (by decide) (hz _ kf_M_34) (fun _ h9 => h9) rfl (by decide +kernel) rfl rfl (Nat.le_of_ble_eq_true rfl) dM_values_38 (fun H locs hP _ hS => ?_)
        have hP : va_P (dC, dI) zcl (zm_w ad cI cJ cB lev val chs dig est cst (nI 1) D N F k) H := hP
        refine lv_aload_n hx hb dM_values_41 rfl (lv_at hl 0 rfl) ?_
        refine va_get (D := (dC, dI)) (ci := 1) (v := .int (nI 1)) (C := RM) (T := TM) (N := 11) hx hb hz in_M hown hK hP 0 rfl rfl 0 (by decide) (hz _ kf_M_34) (fun _ h9 => h9) rfl dM_values_42 ?_
        refine lv_if_le (tgt := 50) hx hb dM_values_45 (by decide) (fun c45 => absurd c45 (by decide)) (fun _ => ?_)
        refine lv_iconst (v := nI 0) hx hb dM_values_48 (by decide) ?_
        exact zt_ri hx hb hr hlocks (fun t ht _ => ⟨(nI 0, val, k), rfl, Or.inr ⟨by decide, rfl⟩, by rw [ht]; exact hP, hS.F ht⟩) (hS.2.2) dM_values_49
      · rcases zn_cases p2 with ⟨h2, e2⟩ | ⟨n2, hn2, rfl, e2⟩
        · have ec : a3 = 2 ^ 31 := ha3.symm.trans e2
          refine lv_iload_n hx hb dM_values_23 rfl (lv_at hl 3 rfl) ?_
          refine lv_if_lt (tgt := 33) hx hb dM_values_24 (by decide) (fun _ => ?_) (fun c24 => absurd c24 (not_not_intro h2))
          have ecd : zc_val a1 a2 a3 D L = 1 := by unfold zc_val; rw [if_neg (by omega)]
          rw [ecd]
          refine lv_iconst (v := nI 1) hx hb dM_values_33 (by decide) ?_
          refine lv_goto (tgt := 38) hx hb dM_values_34 (by decide) ?_
          refine va_put (D := (dC, dI)) (ci := 1) (v := .int (nI 1)) (ty := .int) (C := RM) (T := TM) (N := 11) hx hb hz in_M tyM tyM_ok nmM hown hK hP (zm_D had) hS 0 rfl rfl 0 (by decide) (hz _ kf_M_34) (fun _ h9 => h9) rfl (by decide +kernel) rfl rfl (Nat.le_of_ble_eq_true rfl) dM_values_38 (fun H locs hP _ hS => ?_)
          have hP : va_P (dC, dI) zcl (zm_w ad cI cJ cB lev val chs dig est cst (nI 1) D N F k) H := hP
          refine lv_aload_n hx hb dM_values_41 rfl (lv_at hl 0 rfl) ?_
          refine va_get (D := (dC, dI)) (ci := 1) (v := .int (nI 1)) (C := RM) (T := TM) (N := 11) hx hb hz in_M hown hK hP 0 rfl rfl 0 (by decide) (hz _ kf_M_34) (fun _ h9 => h9) rfl dM_values_42 ?_
          refine lv_if_le (tgt := 50) hx hb dM_values_45 (by decide) (fun c45 => absurd c45 (by decide)) (fun _ => ?_)
          refine lv_iconst (v := nI 0) hx hb dM_values_48 (by decide) ?_
          exact zt_ri hx hb hr hlocks (fun t ht _ => ⟨(nI 0, val, k), rfl, Or.inr ⟨by decide, rfl⟩, by rw [ht]; exact hP, hS.F ht⟩) (hS.2.2) dM_values_49
        · have ec : a3 = n2 := ha3.symm.trans e2
          subst ec
          refine lv_iload_n hx hb dM_values_23 rfl (lv_at hl 3 rfl) ?_
          refine lv_if_lt (tgt := 33) hx hb dM_values_24 (by decide) (fun c24 => absurd c24 (nI_pos hn2)) (fun _ => ?_)
          refine lv_iload_n hx hb dM_values_27 rfl (lv_at hl 3 rfl) ?_
          refine lv_ldc hx hb hown (hz _ kn_M_50) dM_values_28 ?_
          refine zt_ti (y := nI 1000000) (by decide) ?_
          refine zj_le (tgt := 37) hx hb dM_values_30 (by decide) (by omega) (by omega) (fun c30 => ?_) (fun c30 => ?_)
          · have ecd : zc_val a1 a2 a3 D L = 0 := by unfold zc_val; rw [if_pos ⟨by omega, by omega, by omega⟩]
            rw [ecd]
            refine lv_iconst (v := nI 0) hx hb dM_values_37 (by decide) ?_
            refine va_put (D := (dC, dI)) (ci := 1) (v := .int (nI 0)) (ty := .int) (C := RM) (T := TM) (N := 11) hx hb hz in_M tyM tyM_ok nmM hown hK hP (zm_D had) hS 0 rfl rfl 0 (by decide) (hz _ kf_M_34) (fun _ h9 => h9) rfl (by decide +kernel) rfl rfl (Nat.le_of_ble_eq_true rfl) dM_values_38 (fun H locs hP _ hS => ?_)
            have hP : va_P (dC, dI) zcl (zm_w ad cI cJ cB lev val chs dig est cst (nI 0) D N F k) H := hP
            refine lv_aload_n hx hb dM_values_41 rfl (lv_at hl 0 rfl) ?_
            refine va_get (D := (dC, dI)) (ci := 1) (v := .int (nI 0)) (C := RM) (T := TM) (N := 11) hx hb hz in_M hown hK hP 0 rfl rfl 0 (by decide) (hz _ kf_M_34) (fun _ h9 => h9) rfl dM_values_42 ?_
            refine lv_if_le (tgt := 50) hx hb dM_values_45 (by decide) (fun _ => ?_) (fun c45 => absurd c45 (not_not_intro (by decide)))
            refine lv_aload_n hx hb dM_values_50 rfl (lv_at hl 0 rfl) ?_
            refine va_get (D := (dC, dI)) (ci := 1) (v := .ref (ad 2)) (C := RM) (T := TM) (N := 11) hx hb hz in_M hown hK hP 0 rfl rfl 3 (by decide) (hz _ kf_M_13) (fun _ h9 => h9) rfl dM_values_51 ?_
            refine lv_iconst (v := nI 4) hx hb dM_values_54 (by decide) ?_
            refine lv_iload_n hx hb dM_values_55 rfl (lv_at hl 1 rfl) ?_
            refine lv_imul hx hb dM_values_56 ?_
            refine zt_ti (pk_mul _ _) ?_
            refine lv_iload_n hx hb dM_values_57 rfl (lv_at hl 2 rfl) ?_
            refine lv_iadd hx hb dM_values_58 ?_
            refine zt_ti (nI_add _ _) ?_
            refine zt_iald hx hb hK hP 2 0 rfl rfl (i := ((4 * a1) + a2)) (by omega) (by decide) (v := (nI (V (4 * a1 + a2)))) (hval _ (by omega)) dM_values_59 ?_
            refine lv_istore (lv' := [(4, .int (nI (V (4 * a1 + a2)))), (0, .ref (ad 0)), (1, .int (nI a1)), (2, .int (nI a2)), (3, .int (nI a3))]) hx hb dM_values_60 hl (by decide) rfl (fun ls hl => ?_)
            refine lv_aload_n hx hb dM_values_62 rfl (lv_at hl 1 rfl) ?_
            refine va_get (D := (dC, dI)) (ci := 1) (v := .ref (ad 2)) (C := RM) (T := TM) (N := 11) hx hb hz in_M hown hK hP 0 rfl rfl 3 (by decide) (hz _ kf_M_13) (fun _ h9 => h9) rfl dM_values_63 ?_
            refine lv_iconst (v := nI 4) hx hb dM_values_66 (by decide) ?_
            refine lv_iload_n hx hb dM_values_67 rfl (lv_at hl 2 rfl) ?_
            refine lv_imul hx hb dM_values_68 ?_
            refine zt_ti (pk_mul _ _) ?_
            refine lv_iload_n hx hb dM_values_69 rfl (lv_at hl 3 rfl) ?_
            refine lv_iadd hx hb dM_values_70 ?_
            refine zt_ti (nI_add _ _) ?_
            refine lv_iload_n hx hb dM_values_71 rfl (lv_at hl 4 rfl) ?_
            refine zt_iast hx hb hK hP (zm_D had) hS 2 0 rfl rfl (i := ((4 * a1) + a2)) (by omega) (by decide) dM_values_72 (fun H locs hP _ hS => ?_)
            have hP : va_P (dC, dI) zcl (zm_w ad cI cJ cB lev (upd val ((4 * a1) + a2) (nI a3)) chs dig est cst (nI 0) D N F k) H := hP
            refine lv_aload_n hx hb dM_values_73 rfl (lv_at hl 1 rfl) ?_
            refine lv_iconst (v := nI 0) hx hb dM_values_74 (by decide) ?_
            refine va_put (D := (dC, dI)) (ci := 1) (v := .int (nI 0)) (ty := .int) (C := RM) (T := TM) (N := 11) hx hb hz in_M tyM tyM_ok nmM hown hK hP (zm_D had) hS 0 rfl rfl 6 (by decide) (hz _ kf_M_40) (fun _ h9 => h9) rfl (by decide +kernel) rfl rfl (Nat.le_of_ble_eq_true rfl) dM_values_75 (fun H locs hP _ hS => ?_)
            have hP : va_P (dC, dI) zcl (zm_w ad cI cJ cB lev (upd val ((4 * a1) + a2) (nI a3)) chs dig est cst (nI 0) D N F 0) H := hP
            refine lv_iload hx hb dM_values_78 (lv_at hl 0 rfl) ?_
            exact zt_ri hx hb hr hlocks (fun t ht _ => ⟨(nI (V (4 * a1 + a2)), upd val (4 * a1 + a2) (nI a3), 0), rfl, Or.inl ⟨rfl, rfl⟩, by rw [ht]; exact hP, hS.F ht⟩) (hS.2.2) dM_values_80
          · have ecd : zc_val a1 a2 a3 D L = 1 := by unfold zc_val; rw [if_neg (by omega)]
            rw [ecd]
            refine lv_iconst (v := nI 1) hx hb dM_values_33 (by decide) ?_
            refine lv_goto (tgt := 38) hx hb dM_values_34 (by decide) ?_
            refine va_put (D := (dC, dI)) (ci := 1) (v := .int (nI 1)) (ty := .int) (C := RM) (T := TM) (N := 11) hx hb hz in_M tyM tyM_ok nmM hown hK hP (zm_D had) hS 0 rfl rfl 0 (by decide) (hz _ kf_M_34) (fun _ h9 => h9) rfl (by decide +kernel) rfl rfl (Nat.le_of_ble_eq_true rfl) dM_values_38 (fun H locs hP _ hS => ?_)
            have hP : va_P (dC, dI) zcl (zm_w ad cI cJ cB lev val chs dig est cst (nI 1) D N F k) H := hP
            refine lv_aload_n hx hb dM_values_41 rfl (lv_at hl 0 rfl) ?_
            refine va_get (D := (dC, dI)) (ci := 1) (v := .int (nI 1)) (C := RM) (T := TM) (N := 11) hx hb hz in_M hown hK hP 0 rfl rfl 0 (by decide) (hz _ kf_M_34) (fun _ h9 => h9) rfl dM_values_42 ?_
            refine lv_if_le (tgt := 50) hx hb dM_values_45 (by decide) (fun c45 => absurd c45 (by decide)) (fun _ => ?_)
            refine lv_iconst (v := nI 0) hx hb dM_values_48 (by decide) ?_
            exact zt_ri hx hb hr hlocks (fun t ht _ => ⟨(nI 0, val, k), rfl, Or.inr ⟨by decide, rfl⟩, by rw [ht]; exact hP, hS.F ht⟩) (hS.2.2) dM_values_49
set_option maxHeartbeats 4000000 in
set_option maxRecDepth 100000 in
theorem tM_take (l : Launch) {dC : Nat → ClassId} {dI : Nat → Nat → Nat} {cI cJ cB : ClassId} {ad : Nat → Nat} {lev val chs dig : Nat → Int32} {est cst : Nat → Int64} {code : Int32} {D N F k : Nat} {p0 : Int32} {sz : Nat} (had : zg_ap ad 7) (hN5 : N ≤ 512) (hk : k ≤ 16) : zt_Met l yM_take wM_take rM_take (va_Pc [.ref (ad 0), .int p0] (zg_C dC dI cI cJ cB (zm_w ad cI cJ cB lev val chs dig est cst code D N F k) sz)) (zg_Q dC dI (fun u : Int32 × (Nat → Int32) × Nat => some (.int u.1)) (fun u => (zc_take (zn p0) N k = 0 ∧ u = (nI (k + 1), upd chs k (nI (zn p0)), k + 1)) ∨ (zc_take (zn p0) N k ≠ 0 ∧ u.2 = (chs, k))) (fun u => zm_w ad cI cJ cB lev val u.2.1 dig est cst (nI (zc_take (zn p0) N k)) D N F u.2.2) (zg_A ad 7 sz)) 0 0 0 0 (zg_A ad 7 sz) := by
  generalize ha1 : zn p0 = a1
  refine zt_ofW (cc := cM_take) (maxL := 2) (ret := (some .int)) (by decide) rfl ?_
  intro p e s m args below meth c s₁ B hml hout hv
  obtain ⟨rfl, hsz, hP, hK⟩ := hv
  have hx := B.exec
  have hb := B.bytes
  have hr := B.returns
  have hz : ∀ w ∈ zw0, w.before ([.ref (ad 0), .int p0] : List Value).toArray s = true := fun w h => atoms_spec (ws := wM_take) B.pre w (List.mem_cons_of_mem _ h)
  have hown : s.vm.findClass RM = some m.cls := findClass_of_methodNamed B.named
  have hlocks := B.notSynchronized
  subst hsz
  have hS : va_S (zg_A ad 7 s.heap.size) s.heap s.heap [] := va_S.rf
  have hl := lv_entry ([.ref (ad 0), .int p0]) (n := 2) (Nat.le_of_ble_eq_true rfl)
  rw [lg_entry_eq]
  generalize (lg_sl ([.ref (ad 0), .int p0]) ++ List.replicate (2 - (lg_sl ([.ref (ad 0), .int p0])).length) Slot.unset).toArray = ls at hl ⊢
  have hl : lv_has ls 2 [(0, .ref (ad 0)), (1, .int p0)] := hl
  have hi0 := zn_in p0 (n := N) (by omega)
  rw [ha1] at hi0
  refine lv_aload_n hx hb dM_take_0 rfl (lv_at hl 0 rfl) ?_
  refine lv_aload_n hx hb dM_take_1 rfl (lv_at hl 0 rfl) ?_
  refine lv_iload_n hx hb dM_take_2 rfl (lv_at hl 1 rfl) ?_
  refine zt_callRi (zg_run (rest := [.ref (ad 0)]) hx hb hml hown (tM_isView l hN5) (wcM_71 hz (Nat.le_of_ble_eq_true rfl) (Nat.le_of_ble_eq_true rfl)) (hz _ ki_M_isView) (hz _ ks_M_isView) (hz _ kC_M_isView) hP hK rfl (q0 := 0) rfl rfl hl.1 rfl (Nat.le_of_ble_eq_true rfl) dM_take_3 ⟨Nat.le_of_ble_eq_true rfl, Nat.le_of_ble_eq_true rfl⟩) ?_
  refine zb_ne (tgt := 13) hx hb dM_take_6 (by decide) (fun c6 => ?_) (fun c6 => ?_)
  · rw [hi0] at c6
    have hok := of_decide_eq_true c6
    obtain ⟨d, hd, rfl, e0⟩ : ∃ d, d < 2 ^ 31 ∧ p0 = nI d ∧ zn p0 = d := (zn_cases p0).resolve_left (fun q => by have := q.2; omega)
    have ea : a1 = d := ha1.symm.trans e0
    subst ea
    refine lv_aload_n hx hb dM_take_13 rfl (lv_at hl 0 rfl) ?_
    refine va_get (D := (dC, dI)) (ci := 1) (v := .int (nI k)) (C := RM) (T := TM) (N := 11) hx hb hz in_M hown hK hP 0 rfl rfl 6 (by decide) (hz _ kf_M_40) (fun _ h9 => h9) rfl dM_take_14 ?_
    refine lv_bipush (v := nI 16) hx hb dM_take_17 (by decide) ?_
    refine zj_ne (tgt := 26) hx hb dM_take_19 (by decide) (by omega) (by omega) (fun c19 => ?_) (fun c19 => ?_)
    · have ecd : zc_take a1 N k = 0 := by unfold zc_take; rw [if_pos hok, if_pos (by omega)]
      rw [ecd]
      refine lv_iconst (v := nI 0) hx hb dM_take_26 (by decide) ?_
      refine va_put (D := (dC, dI)) (ci := 1) (v := .int (nI 0)) (ty := .int) (C := RM) (T := TM) (N := 11) hx hb hz in_M tyM tyM_ok nmM hown hK hP (zm_D had) hS 0 rfl rfl 0 (by decide) (hz _ kf_M_34) (fun _ h9 => h9) rfl (by decide +kernel) rfl rfl (Nat.le_of_ble_eq_true rfl) dM_take_27 (fun H locs hP _ hS => ?_)
      have hP : va_P (dC, dI) zcl (zm_w ad cI cJ cB lev val chs dig est cst (nI 0) D N F k) H := hP
      refine lv_aload_n hx hb dM_take_30 rfl (lv_at hl 0 rfl) ?_
      refine va_get (D := (dC, dI)) (ci := 1) (v := .int (nI 0)) (C := RM) (T := TM) (N := 11) hx hb hz in_M hown hK hP 0 rfl rfl 0 (by decide) (hz _ kf_M_34) (fun _ h9 => h9) rfl dM_take_31 ?_
      refine lv_if_le (tgt := 39) hx hb dM_take_34 (by decide) (fun _ => ?_) (fun c34 => absurd c34 (not_not_intro (by decide)))
      refine lv_aload_n hx hb dM_take_39 rfl (lv_at hl 0 rfl) ?_
      refine va_get (D := (dC, dI)) (ci := 1) (v := .ref (ad 3)) (C := RM) (T := TM) (N := 11) hx hb hz in_M hown hK hP 0 rfl rfl 7 (by decide) (hz _ kf_M_20) (fun _ h9 => h9) rfl dM_take_40 ?_
      refine lv_aload_n hx hb dM_take_43 rfl (lv_at hl 0 rfl) ?_
      refine va_get (D := (dC, dI)) (ci := 1) (v := .int (nI k)) (C := RM) (T := TM) (N := 11) hx hb hz in_M hown hK hP 0 rfl rfl 6 (by decide) (hz _ kf_M_40) (fun _ h9 => h9) rfl dM_take_44 ?_
      refine lv_iload_n hx hb dM_take_47 rfl (lv_at hl 1 rfl) ?_
      refine zt_iast hx hb hK hP (zm_D had) hS 3 0 rfl rfl (i := k) (by omega) (by decide) dM_take_48 (fun H locs hP _ hS => ?_)
      have hP : va_P (dC, dI) zcl (zm_w ad cI cJ cB lev val (upd chs k (nI a1)) dig est cst (nI 0) D N F k) H := hP
      refine lv_aload_n hx hb dM_take_49 rfl (lv_at hl 0 rfl) ?_
      refine lv_dup hx hb dM_take_50 rfl ?_
      refine va_get (D := (dC, dI)) (ci := 1) (v := .int (nI k)) (C := RM) (T := TM) (N := 11) hx hb hz in_M hown hK hP 0 rfl rfl 6 (by decide) (hz _ kf_M_40) (fun _ h9 => h9) rfl dM_take_51 ?_
      refine lv_iconst (v := nI 1) hx hb dM_take_54 (by decide) ?_
      refine lv_iadd hx hb dM_take_55 ?_
      refine zt_ti (nI_add _ _) ?_
      refine va_put (D := (dC, dI)) (ci := 1) (v := .int (nI (k + 1))) (ty := .int) (C := RM) (T := TM) (N := 11) hx hb hz in_M tyM tyM_ok nmM hown hK hP (zm_D had) hS 0 rfl rfl 6 (by decide) (hz _ kf_M_40) (fun _ h9 => h9) rfl (by decide +kernel) rfl rfl (Nat.le_of_ble_eq_true rfl) dM_take_56 (fun H locs hP _ hS => ?_)
      have hP : va_P (dC, dI) zcl (zm_w ad cI cJ cB lev val (upd chs k (nI a1)) dig est cst (nI 0) D N F (k + 1)) H := hP
      refine lv_aload_n hx hb dM_take_59 rfl (lv_at hl 0 rfl) ?_
      refine va_get (D := (dC, dI)) (ci := 1) (v := .int (nI (k + 1))) (C := RM) (T := TM) (N := 11) hx hb hz in_M hown hK hP 0 rfl rfl 6 (by decide) (hz _ kf_M_40) (fun _ h9 => h9) rfl dM_take_60 ?_
      exact zt_ri hx hb hr hlocks (fun t ht _ => ⟨(nI (k + 1), upd chs k (nI a1), k + 1), rfl, Or.inl ⟨rfl, rfl⟩, by rw [ht]; exact hP, hS.F ht⟩) (hS.2.2) dM_take_63
    · have ecd : zc_take a1 N k = 2 := by unfold zc_take; rw [if_pos hok, if_neg (by omega)]
      rw [ecd]
      refine lv_iconst (v := nI 2) hx hb dM_take_22 (by decide) ?_
      refine lv_goto (tgt := 27) hx hb dM_take_23 (by decide) ?_
      refine va_put (D := (dC, dI)) (ci := 1) (v := .int (nI 2)) (ty := .int) (C := RM) (T := TM) (N := 11) hx hb hz in_M tyM tyM_ok nmM hown hK hP (zm_D had) hS 0 rfl rfl 0 (by decide) (hz _ kf_M_34) (fun _ h9 => h9) rfl (by decide +kernel) rfl rfl (Nat.le_of_ble_eq_true rfl) dM_take_27 (fun H locs hP _ hS => ?_)
      have hP : va_P (dC, dI) zcl (zm_w ad cI cJ cB lev val chs dig est cst (nI 2) D N F k) H := hP
      refine lv_aload_n hx hb dM_take_30 rfl (lv_at hl 0 rfl) ?_
      refine va_get (D := (dC, dI)) (ci := 1) (v := .int (nI 2)) (C := RM) (T := TM) (N := 11) hx hb hz in_M hown hK hP 0 rfl rfl 0 (by decide) (hz _ kf_M_34) (fun _ h9 => h9) rfl dM_take_31 ?_
      refine lv_if_le (tgt := 39) hx hb dM_take_34 (by decide) (fun c34 => absurd c34 (by decide)) (fun _ => ?_)
      refine lv_iconst (v := nI 0) hx hb dM_take_37 (by decide) ?_
      exact zt_ri hx hb hr hlocks (fun t ht _ => ⟨(nI 0, chs, k), rfl, Or.inr ⟨by decide, rfl⟩, by rw [ht]; exact hP, hS.F ht⟩) (hS.2.2) dM_take_38
  · rw [hi0] at c6
    have c6 := of_decide_eq_false c6
    have ecd : zc_take a1 N k = 1 := by unfold zc_take; rw [if_neg c6]
    rw [ecd]
    refine lv_iconst (v := nI 1) hx hb dM_take_9 (by decide) ?_
    refine lv_goto (tgt := 27) hx hb dM_take_10 (by decide) ?_
    refine va_put (D := (dC, dI)) (ci := 1) (v := .int (nI 1)) (ty := .int) (C := RM) (T := TM) (N := 11) hx hb hz in_M tyM tyM_ok nmM hown hK hP (zm_D had) hS 0 rfl rfl 0 (by decide) (hz _ kf_M_34) (fun _ h9 => h9) rfl (by decide +kernel) rfl rfl (Nat.le_of_ble_eq_true rfl) dM_take_27 (fun H locs hP _ hS => ?_)
    have hP : va_P (dC, dI) zcl (zm_w ad cI cJ cB lev val chs dig est cst (nI 1) D N F k) H := hP
    refine lv_aload_n hx hb dM_take_30 rfl (lv_at hl 0 rfl) ?_
    refine va_get (D := (dC, dI)) (ci := 1) (v := .int (nI 1)) (C := RM) (T := TM) (N := 11) hx hb hz in_M hown hK hP 0 rfl rfl 0 (by decide) (hz _ kf_M_34) (fun _ h9 => h9) rfl dM_take_31 ?_
    refine lv_if_le (tgt := 39) hx hb dM_take_34 (by decide) (fun c34 => absurd c34 (by decide)) (fun _ => ?_)
    refine lv_iconst (v := nI 0) hx hb dM_take_37 (by decide) ?_
    exact zt_ri hx hb hr hlocks (fun t ht _ => ⟨(nI 0, chs, k), rfl, Or.inr ⟨by decide, rfl⟩, by rw [ht]; exact hP, hS.F ht⟩) (hS.2.2) dM_take_38
set_option maxHeartbeats 4000000 in
set_option maxRecDepth 100000 in
theorem tM_told (l : Launch) {dC : Nat → ClassId} {dI : Nat → Nat → Nat} {cI cJ cB : ClassId} {ad : Nat → Nat} {lev val chs dig : Nat → Int32} {est cst : Nat → Int64} {code : Int32} {D N F k : Nat} {L V S : Nat → Nat} {p0 p1 : Int32} {sz : Nat} (had : zg_ap ad 7) (hR : zm_R D N F L V lev val dig) (hs : zm_S N k S chs) : zt_Met l yM_told wM_told rM_told (va_Pc [.ref (ad 0), .int p0, .int p1] (zg_C dC dI cI cJ cB (zm_w ad cI cJ cB lev val chs dig est cst code D N F k) sz)) (zg_Q dC dI (fun u : Int64 × (Nat → Int64) × (Nat → Int64) => some (.long u.1)) (fun u => (zb_in p0 N && zb_in p1 3) = true → u.1 = lN (zq_told (zq_es L V D F) (zq_ab L D) (zq_ct (zq_es L V D F) (zq_ab L D) F S k) N p0.toNatClampNeg p1.toNatClampNeg)) (fun u => zm_w ad cI cJ cB lev val chs dig u.2.1 u.2.2 (nI (zc_b (zb_in p0 N && zb_in p1 3))) D N F k) (zg_A ad 7 sz)) 0 0 0 0 (zg_A ad 7 sz) := by
  refine zt_ofW (cc := cM_told) (maxL := 3) (ret := (some .long)) (by decide) rfl ?_
  intro p e s m args below meth c s₁ B hml hout hv
  obtain ⟨rfl, hsz, hP, hK⟩ := hv
  have hx := B.exec
  have hb := B.bytes
  have hr := B.returns
  have hz : ∀ w ∈ zw0, w.before ([.ref (ad 0), .int p0, .int p1] : List Value).toArray s = true := fun w h => atoms_spec (ws := wM_told) B.pre w (List.mem_cons_of_mem _ h)
  have hown : s.vm.findClass RM = some m.cls := findClass_of_methodNamed B.named
  have hlocks := B.notSynchronized
  subst hsz
  have hS : va_S (zg_A ad 7 s.heap.size) s.heap s.heap [] := va_S.rf
  have hl := lv_entry ([.ref (ad 0), .int p0, .int p1]) (n := 3) (Nat.le_of_ble_eq_true rfl)
  rw [lg_entry_eq]
  generalize (lg_sl ([.ref (ad 0), .int p0, .int p1]) ++ List.replicate (3 - (lg_sl ([.ref (ad 0), .int p0, .int p1])).length) Slot.unset).toArray = ls at hl ⊢
  have hl : lv_has ls 3 [(0, .ref (ad 0)), (1, .int p0), (2, .int p1)] := hl
  have hR9 := hR
  obtain ⟨hD, hL, hN, hN5, hF, hVb, hlev, hval, hdg⟩ := hR
  refine lv_aload_n hx hb dM_told_0 rfl (lv_at hl 0 rfl) ?_
  refine lv_aload_n hx hb dM_told_1 rfl (lv_at hl 0 rfl) ?_
  refine lv_iload_n hx hb dM_told_2 rfl (lv_at hl 1 rfl) ?_
  refine zt_callRi (zg_run (rest := [.ref (ad 0)]) hx hb hml hown (tM_isView l hN5) (wcM_71 hz (Nat.le_of_ble_eq_true rfl) (Nat.le_of_ble_eq_true rfl)) (hz _ ki_M_isView) (hz _ ks_M_isView) (hz _ kC_M_isView) hP hK rfl (q0 := 0) rfl rfl hl.1 rfl (Nat.le_of_ble_eq_true rfl) dM_told_3 ⟨Nat.le_of_ble_eq_true rfl, Nat.le_of_ble_eq_true rfl⟩) ?_
  refine zb_eq (tgt := 22) hx hb dM_told_6 (by decide) (fun c6 => ?_) (fun c6 => ?_)
  · have ecd : zc_b (zb_in p0 N && zb_in p1 3) = 1 := if_neg (by rw [c6, Bool.false_and]; exact Bool.false_ne_true)
    rw [ecd]
    refine lv_iconst (v := nI 1) hx hb dM_told_22 (by decide) ?_
    refine va_put (D := (dC, dI)) (ci := 1) (v := .int (nI 1)) (ty := .int) (C := RM) (T := TM) (N := 11) hx hb hz in_M tyM tyM_ok nmM hown hK hP (zm_D had) hS 0 rfl rfl 0 (by decide) (hz _ kf_M_34) (fun _ h9 => h9) rfl (by decide +kernel) rfl rfl (Nat.le_of_ble_eq_true rfl) dM_told_23 (fun H locs hP _ hS => ?_)
    have hP : va_P (dC, dI) zcl (zm_w ad cI cJ cB lev val chs dig est cst (nI 1) D N F k) H := hP
    refine lv_aload_n hx hb dM_told_26 rfl (lv_at hl 0 rfl) ?_
    refine va_get (D := (dC, dI)) (ci := 1) (v := .int (nI 1)) (C := RM) (T := TM) (N := 11) hx hb hz in_M hown hK hP 0 rfl rfl 0 (by decide) (hz _ kf_M_34) (fun _ h9 => h9) rfl dM_told_27 ?_
    refine lv_if_le (tgt := 35) hx hb dM_told_30 (by decide) (fun c30 => absurd c30 (by decide)) (fun _ => ?_)
    refine lv_lconst (v := lN 0) hx hb dM_told_33 (by decide) ?_
    exact zt_rl hx hb hr hlocks (fun t ht _ => ⟨(lN 0, est, cst), rfl, fun q => absurd q (by rw [c6, Bool.false_and]; exact Bool.false_ne_true), by rw [ht]; exact hP, hS.F ht⟩) (hS.2.2) dM_told_34
  · rcases pk_ix p1 (n := 3) (by decide) with hp | hp | ⟨j, hj, rfl⟩
    · refine lv_iload_n hx hb dM_told_9 rfl (lv_at hl 2 rfl) ?_
      refine lv_if_lt (tgt := 22) hx hb dM_told_10 (by decide) (fun _ => ?_) (fun c10 => absurd c10 (not_not_intro hp))
      have ecd : zc_b (zb_in p0 N && zb_in p1 3) = 1 := if_neg (fun q => zb_neg hp (by simp at q; exact q.2))
      rw [ecd]
      refine lv_iconst (v := nI 1) hx hb dM_told_22 (by decide) ?_
      refine va_put (D := (dC, dI)) (ci := 1) (v := .int (nI 1)) (ty := .int) (C := RM) (T := TM) (N := 11) hx hb hz in_M tyM tyM_ok nmM hown hK hP (zm_D had) hS 0 rfl rfl 0 (by decide) (hz _ kf_M_34) (fun _ h9 => h9) rfl (by decide +kernel) rfl rfl (Nat.le_of_ble_eq_true rfl) dM_told_23 (fun H locs hP _ hS => ?_)
      have hP : va_P (dC, dI) zcl (zm_w ad cI cJ cB lev val chs dig est cst (nI 1) D N F k) H := hP
      refine lv_aload_n hx hb dM_told_26 rfl (lv_at hl 0 rfl) ?_
      refine va_get (D := (dC, dI)) (ci := 1) (v := .int (nI 1)) (C := RM) (T := TM) (N := 11) hx hb hz in_M hown hK hP 0 rfl rfl 0 (by decide) (hz _ kf_M_34) (fun _ h9 => h9) rfl dM_told_27 ?_
      refine lv_if_le (tgt := 35) hx hb dM_told_30 (by decide) (fun c30 => absurd c30 (by decide)) (fun _ => ?_)
      refine lv_lconst (v := lN 0) hx hb dM_told_33 (by decide) ?_
      exact zt_rl hx hb hr hlocks (fun t ht _ => ⟨(lN 0, est, cst), rfl, fun q => absurd q (fun q => zb_neg hp (by simp at q; exact q.2)), by rw [ht]; exact hP, hS.F ht⟩) (hS.2.2) dM_told_34
    · refine lv_iload_n hx hb dM_told_9 rfl (lv_at hl 2 rfl) ?_
      refine lv_if_lt (tgt := 22) hx hb dM_told_10 (by decide) (fun c10 => absurd c10 (fun q => Int32.lt_irrefl (Int32.lt_of_lt_of_le q (Int32.le_trans (show (0 : Int32) ≤ nI 3 by decide) hp)))) (fun _ => ?_)
      refine lv_iload_n hx hb dM_told_13 rfl (lv_at hl 2 rfl) ?_
      refine lv_iconst (v := nI 2) hx hb dM_told_14 (by decide) ?_
      refine lv_icmp_gt (tgt := 22) hx hb dM_told_15 (by decide) (fun _ => ?_) (fun c15 => absurd c15 (not_not_intro (Int32.lt_of_lt_of_le (show nI 2 < nI 3 by decide) hp)))
      have ecd : zc_b (zb_in p0 N && zb_in p1 3) = 1 := if_neg (fun q => zb_bigI hp (by decide) (by simp at q; exact q.2))
      rw [ecd]
      refine lv_iconst (v := nI 1) hx hb dM_told_22 (by decide) ?_
      refine va_put (D := (dC, dI)) (ci := 1) (v := .int (nI 1)) (ty := .int) (C := RM) (T := TM) (N := 11) hx hb hz in_M tyM tyM_ok nmM hown hK hP (zm_D had) hS 0 rfl rfl 0 (by decide) (hz _ kf_M_34) (fun _ h9 => h9) rfl (by decide +kernel) rfl rfl (Nat.le_of_ble_eq_true rfl) dM_told_23 (fun H locs hP _ hS => ?_)
      have hP : va_P (dC, dI) zcl (zm_w ad cI cJ cB lev val chs dig est cst (nI 1) D N F k) H := hP
      refine lv_aload_n hx hb dM_told_26 rfl (lv_at hl 0 rfl) ?_
      refine va_get (D := (dC, dI)) (ci := 1) (v := .int (nI 1)) (C := RM) (T := TM) (N := 11) hx hb hz in_M hown hK hP 0 rfl rfl 0 (by decide) (hz _ kf_M_34) (fun _ h9 => h9) rfl dM_told_27 ?_
      refine lv_if_le (tgt := 35) hx hb dM_told_30 (by decide) (fun c30 => absurd c30 (by decide)) (fun _ => ?_)
      refine lv_lconst (v := lN 0) hx hb dM_told_33 (by decide) ?_
      exact zt_rl hx hb hr hlocks (fun t ht _ => ⟨(lN 0, est, cst), rfl, fun q => absurd q (fun q => zb_bigI hp (by decide) (by simp at q; exact q.2)), by rw [ht]; exact hP, hS.F ht⟩) (hS.2.2) dM_told_34
    · have ecd : zc_b (zb_in p0 N && zb_in (nI j) 3) = 0 := by rw [c6, zb_t hj (by decide)]; rfl
      rw [ecd]
      obtain ⟨v, hv, rfl⟩ := zb_of c6 (by omega)
      refine lv_iload_n hx hb dM_told_9 rfl (lv_at hl 2 rfl) ?_
      refine lv_if_lt (tgt := 22) hx hb dM_told_10 (by decide) (fun c10 => absurd c10 (nI_pos (by omega))) (fun _ => ?_)
      refine lv_iload_n hx hb dM_told_13 rfl (lv_at hl 2 rfl) ?_
      refine lv_iconst (v := nI 2) hx hb dM_told_14 (by decide) ?_
      refine zj_gt (tgt := 22) hx hb dM_told_15 (by decide) (by omega) (by omega) (fun c15 => absurd c15 (by omega)) (fun _ => ?_)
      refine lv_iconst (v := nI 0) hx hb dM_told_18 (by decide) ?_
      refine lv_goto (tgt := 23) hx hb dM_told_19 (by decide) ?_
      refine va_put (D := (dC, dI)) (ci := 1) (v := .int (nI 0)) (ty := .int) (C := RM) (T := TM) (N := 11) hx hb hz in_M tyM tyM_ok nmM hown hK hP (zm_D had) hS 0 rfl rfl 0 (by decide) (hz _ kf_M_34) (fun _ h9 => h9) rfl (by decide +kernel) rfl rfl (Nat.le_of_ble_eq_true rfl) dM_told_23 (fun H locs hP _ hS => ?_)
      have hP : va_P (dC, dI) zcl (zm_w ad cI cJ cB lev val chs dig est cst (nI 0) D N F k) H := hP
      refine lv_aload_n hx hb dM_told_26 rfl (lv_at hl 0 rfl) ?_
      refine va_get (D := (dC, dI)) (ci := 1) (v := .int (nI 0)) (C := RM) (T := TM) (N := 11) hx hb hz in_M hown hK hP 0 rfl rfl 0 (by decide) (hz _ kf_M_34) (fun _ h9 => h9) rfl dM_told_27 ?_
      refine lv_if_le (tgt := 35) hx hb dM_told_30 (by decide) (fun _ => ?_) (fun c30 => absurd c30 (not_not_intro (by decide)))
      refine lv_aload_n hx hb dM_told_35 rfl (lv_at hl 0 rfl) ?_
      refine zg_callW (zg_runC (rest := []) hx hb hml hown (tM_reckon l had hR9 hs) (wcM_74 hz (Nat.le_of_ble_eq_true rfl) (Nat.le_of_ble_eq_true rfl)) (hz _ ki_M_reckon) (hz _ ks_M_reckon) (hz _ kC_M_reckon) hP hK rfl (q0 := 0) rfl rfl hl.1 rfl (Nat.le_of_ble_eq_true rfl) dM_told_36 ⟨Nat.le_of_ble_eq_true rfl, Nat.le_of_ble_eq_true rfl⟩) hS (fun q h => zg_A_up hS.1 h) (fun q h => zg_A_up hS.1 h) (fun ⟨f9, g9⟩ H locs hu hP hz9 hk9 hS => ?_)
      refine W.eq (g2 := F0 m 39 ls []) rfl ?_
      obtain ⟨hf, hg⟩ := hu
      have hcl : (nI v).toNatClampNeg = v := nI_clamp (by omega)
      have hcj : (nI j).toNatClampNeg = j := nI_clamp (by omega)
      rcases (show j = 0 ∨ j = 1 ∨ j = 2 by omega) with rfl | rfl | rfl
      · refine lv_iload_n hx hb dM_told_39 rfl (lv_at hl 2 rfl) ?_
        refine lv_if_ne (tgt := 52) hx hb dM_told_40 (by decide) (fun c40 => absurd c40 (not_not_intro (by decide))) (fun _ => ?_)
        refine lv_aload_n hx hb dM_told_43 rfl (lv_at hl 0 rfl) ?_
        refine va_get (D := (dC, dI)) (ci := 1) (v := .ref (ad 5)) (C := RM) (T := TM) (N := 11) hx hb hz in_M hown hK hP 0 rfl rfl 9 (by decide) (hz _ kf_M_27) (fun _ h9 => h9) rfl dM_told_44 ?_
        refine lv_iload_n hx hb dM_told_47 rfl (lv_at hl 1 rfl) ?_
        refine zt_lald hx hb hK hP 5 1 rfl rfl (i := v) (by omega) (by decide) (v := (lN (zq_es L V D F v))) (hf v hv) dM_told_48 ?_
        refine lv_goto (tgt := 71) hx hb dM_told_49 (by decide) ?_
        exact zt_rl hx hb hr hlocks (fun t ht _ => ⟨(lN (zq_es L V D F v), f9, g9), rfl, fun _ => by rw [hcl, hcj]; rfl, by rw [ht]; exact hP, hS.F ht⟩) (hS.2.2) dM_told_71
      · refine lv_iload_n hx hb dM_told_39 rfl (lv_at hl 2 rfl) ?_
        refine lv_if_ne (tgt := 52) hx hb dM_told_40 (by decide) (fun _ => ?_) (fun c40 => absurd c40 (by decide))
        refine lv_iload_n hx hb dM_told_52 rfl (lv_at hl 2 rfl) ?_
        refine lv_iconst (v := nI 1) hx hb dM_told_53 (by decide) ?_
        refine zj_ne (tgt := 66) hx hb dM_told_54 (by decide) (by omega) (by omega) (fun c54 => absurd c54 (by decide)) (fun _ => ?_)
        refine lv_aload_n hx hb dM_told_57 rfl (lv_at hl 0 rfl) ?_
        refine va_get (D := (dC, dI)) (ci := 1) (v := .ref (ad 6)) (C := RM) (T := TM) (N := 11) hx hb hz in_M hown hK hP 0 rfl rfl 10 (by decide) (hz _ kf_M_31) (fun _ h9 => h9) rfl dM_told_58 ?_
        refine lv_iload_n hx hb dM_told_61 rfl (lv_at hl 1 rfl) ?_
        refine zt_lald hx hb hK hP 6 1 rfl rfl (i := v) (by omega) (by decide) (v := (lN (zq_ct (zq_es L V D F) (zq_ab L D) F S k v))) (hg v hv) dM_told_62 ?_
        refine lv_goto (tgt := 71) hx hb dM_told_63 (by decide) ?_
        exact zt_rl hx hb hr hlocks (fun t ht _ => ⟨(lN (zq_ct (zq_es L V D F) (zq_ab L D) F S k v), f9, g9), rfl, fun _ => by rw [hcl, hcj]; rfl, by rw [ht]; exact hP, hS.F ht⟩) (hS.2.2) dM_told_71
      · refine lv_iload_n hx hb dM_told_39 rfl (lv_at hl 2 rfl) ?_
        refine lv_if_ne (tgt := 52) hx hb dM_told_40 (by decide) (fun _ => ?_) (fun c40 => absurd c40 (by decide))
        refine lv_iload_n hx hb dM_told_52 rfl (lv_at hl 2 rfl) ?_
        refine lv_iconst (v := nI 1) hx hb dM_told_53 (by decide) ?_
        refine zj_ne (tgt := 66) hx hb dM_told_54 (by decide) (by omega) (by omega) (fun _ => ?_) (fun c54 => absurd c54 (by decide))
        refine lv_aload_n hx hb dM_told_66 rfl (lv_at hl 0 rfl) ?_
        refine lv_iload_n hx hb dM_told_67 rfl (lv_at hl 1 rfl) ?_
        refine zt_callRl (zg_run (rest := []) hx hb hml hown (tM_benefitOf l (fun w hw => ⟨hf w hw, zq_es_le L V D F w⟩) (fun w hw => ⟨hg w hw, zq_ct_le _ _ _ _ _ _⟩) hR9 hv) (wcM_77 hz (Nat.le_of_ble_eq_true rfl) (Nat.le_of_ble_eq_true rfl)) (hz _ ki_M_benefitOf) (hz _ ks_M_benefitOf) (hz _ kC_M_benefitOf) hP hK rfl (q0 := 0) rfl rfl hl.1 rfl (Nat.le_of_ble_eq_true rfl) dM_told_68 ⟨Nat.le_of_ble_eq_true rfl, Nat.le_of_ble_eq_true rfl⟩) ?_
        exact zt_rl hx hb hr hlocks (fun t ht _ => ⟨(lN (zq_bn (zq_es L V D F) (zq_ab L D) (zq_ct (zq_es L V D F) (zq_ab L D) F S k) N v), f9, g9), rfl, fun _ => by rw [hcl, hcj]; rfl, by rw [ht]; exact hP, hS.F ht⟩) (hS.2.2) dM_told_71
set_option maxHeartbeats 4000000 in
set_option maxRecDepth 100000 in
theorem tM_total (l : Launch) {dC : Nat → ClassId} {dI : Nat → Nat → Nat} {cI cJ cB : ClassId} {ad : Nat → Nat} {lev val chs dig : Nat → Int32} {est cst : Nat → Int64} {code : Int32} {D N F k : Nat} {L V S : Nat → Nat} {sz : Nat} (had : zg_ap ad 7) (hR : zm_R D N F L V lev val dig) (hs : zm_S N k S chs) : zt_Met l yM_total wM_total rM_total (va_Pc [.ref (ad 0)] (zg_C dC dI cI cJ cB (zm_w ad cI cJ cB lev val chs dig est cst code D N F k) sz)) (zg_Q dC dI (fun u : (Nat → Int64) × (Nat → Int64) => some (.long (lN (zq_sm (zq_ct (zq_es L V D F) (zq_ab L D) F S k) N)))) (fun u => True) (fun u => zm_w ad cI cJ cB lev val chs dig u.1 u.2 (nI 0) D N F k) (zg_A ad 7 sz)) 0 0 0 0 (zg_A ad 7 sz) := by
  refine zt_ofW (cc := cM_total) (maxL := 4) (ret := (some .long)) (by decide) rfl ?_
  intro p e s m args below meth c s₁ B hml hout hv
  obtain ⟨rfl, hsz, hP, hK⟩ := hv
  have hx := B.exec
  have hb := B.bytes
  have hr := B.returns
  have hz : ∀ w ∈ zw0, w.before ([.ref (ad 0)] : List Value).toArray s = true := fun w h => atoms_spec (ws := wM_total) B.pre w (List.mem_cons_of_mem _ h)
  have hown : s.vm.findClass RM = some m.cls := findClass_of_methodNamed B.named
  have hlocks := B.notSynchronized
  subst hsz
  have hS : va_S (zg_A ad 7 s.heap.size) s.heap s.heap [] := va_S.rf
  have hl := lv_entry ([.ref (ad 0)]) (n := 4) (Nat.le_of_ble_eq_true rfl)
  rw [lg_entry_eq]
  generalize (lg_sl ([.ref (ad 0)]) ++ List.replicate (4 - (lg_sl ([.ref (ad 0)])).length) Slot.unset).toArray = ls at hl ⊢
  have hl : lv_has ls 4 [(0, .ref (ad 0))] := hl
  have hR9 := hR
  obtain ⟨hD, hL, hN, hN5, hF, hVb, hlev, hval, hdg⟩ := hR
  refine lv_aload_n hx hb dM_total_0 rfl (lv_at hl 0 rfl) ?_
  refine lv_iconst (v := nI 0) hx hb dM_total_1 (by decide) ?_
  refine va_put (D := (dC, dI)) (ci := 1) (v := .int (nI 0)) (ty := .int) (C := RM) (T := TM) (N := 11) hx hb hz in_M tyM tyM_ok nmM hown hK hP (zm_D had) hS 0 rfl rfl 0 (by decide) (hz _ kf_M_34) (fun _ h9 => h9) rfl (by decide +kernel) rfl rfl (Nat.le_of_ble_eq_true rfl) dM_total_2 (fun H locs hP _ hS => ?_)
  have hP : va_P (dC, dI) zcl (zm_w ad cI cJ cB lev val chs dig est cst (nI 0) D N F k) H := hP
  refine lv_aload_n hx hb dM_total_5 rfl (lv_at hl 0 rfl) ?_
  refine zg_callW (zg_runC (rest := []) hx hb hml hown (tM_reckon l had hR9 hs) (wcM_74 hz (Nat.le_of_ble_eq_true rfl) (Nat.le_of_ble_eq_true rfl)) (hz _ ki_M_reckon) (hz _ ks_M_reckon) (hz _ kC_M_reckon) hP hK rfl (q0 := 0) rfl rfl hl.1 rfl (Nat.le_of_ble_eq_true rfl) dM_total_6 ⟨Nat.le_of_ble_eq_true rfl, Nat.le_of_ble_eq_true rfl⟩) hS (fun q h => zg_A_up hS.1 h) (fun q h => zg_A_up hS.1 h) (fun ⟨f9, g9⟩ H locs hu hP hz9 hk9 hS => ?_)
  refine W.eq (g2 := F0 m 9 ls []) rfl ?_
  obtain ⟨hf, hg⟩ := hu
  refine lv_lconst (v := lN 0) hx hb dM_total_9 (by decide) ?_
  refine lv_lstore_n (lv' := [(1, .long (lN 0)), (0, .ref (ad 0))]) hx hb dM_total_10 rfl hl (by decide) rfl (fun ls hl => ?_)
  refine lv_iconst (v := nI 0) hx hb dM_total_11 (by decide) ?_
  refine lv_istore_n (lv' := [(3, .int (nI 0)), (1, .long (lN 0)), (0, .ref (ad 0))]) hx hb dM_total_12 rfl hl (by decide) rfl (fun ls hl => ?_)
  have loop : ∀ (n i : Nat), i + n = N → ∀ ls : Array Slot, lv_has ls 4 [(0, .ref (ad 0)), (1, .long (lN (zq_sm (zq_ct (zq_es L V D F) (zq_ab L D) F S k) i))), (3, .int (nI i))] → W p l e (headSpec wM_total rM_total).room s m ([.ref (ad 0)] : List Value).toArray below meth c H locs 0 0 (zt_MQ below (zg_Q dC dI (fun u : (Nat → Int64) × (Nat → Int64) => some (.long (lN (zq_sm (zq_ct (zq_es L V D F) (zq_ab L D) F S k) N)))) (fun u => True) (fun u => zm_w ad cI cJ cB lev val chs dig u.1 u.2 (nI 0) D N F k) (zg_A ad 7 s.heap.size)) ([.ref (ad 0)] : List Value).toArray s 0 0 0 0 (zg_A ad 7 s.heap.size)) (F0 m 13 ls []) := by
    intro n
    induction n with
    | zero =>
      intro i hi ls hl
      refine lv_iload_n hx hb dM_total_13 rfl (lv_at hl 2 rfl) ?_
      refine lv_aload_n hx hb dM_total_14 rfl (lv_at hl 0 rfl) ?_
      refine va_get (D := (dC, dI)) (ci := 1) (v := .int (nI N)) (C := RM) (T := TM) (N := 11) hx hb hz in_M hown hK hP 0 rfl rfl 5 (by decide) (hz _ kf_M_16) (fun _ h9 => h9) rfl dM_total_15 ?_
      refine zj_ge (tgt := 36) hx hb dM_total_18 (by decide) (by omega) (by omega) (fun _ => ?_) (fun c18 => absurd c18 (by omega))
      refine lv_lload_n hx hb dM_total_36 rfl (lv_at hl 1 rfl) ?_
      have e1 : i = N := by omega
      subst e1
      exact zt_rl hx hb hr hlocks (fun t ht _ => ⟨(f9, g9), rfl, trivial, by rw [ht]; exact hP, hS.F ht⟩) (hS.2.2) dM_total_37
    | succ n ih =>
      intro i hi ls hl
      refine lv_iload_n hx hb dM_total_13 rfl (lv_at hl 2 rfl) ?_
      refine lv_aload_n hx hb dM_total_14 rfl (lv_at hl 0 rfl) ?_
      refine va_get (D := (dC, dI)) (ci := 1) (v := .int (nI N)) (C := RM) (T := TM) (N := 11) hx hb hz in_M hown hK hP 0 rfl rfl 5 (by decide) (hz _ kf_M_16) (fun _ h9 => h9) rfl dM_total_15 ?_
      refine zj_ge (tgt := 36) hx hb dM_total_18 (by decide) (by omega) (by omega) (fun c18 => absurd c18 (by omega)) (fun _ => ?_)
      refine lv_lload_n hx hb dM_total_21 rfl (lv_at hl 1 rfl) ?_
      refine lv_aload_n hx hb dM_total_22 rfl (lv_at hl 0 rfl) ?_
      refine va_get (D := (dC, dI)) (ci := 1) (v := .ref (ad 6)) (C := RM) (T := TM) (N := 11) hx hb hz in_M hown hK hP 0 rfl rfl 10 (by decide) (hz _ kf_M_31) (fun _ h9 => h9) rfl dM_total_23 ?_
      refine lv_iload_n hx hb dM_total_26 rfl (lv_at hl 2 rfl) ?_
      refine zt_lald hx hb hK hP 6 1 rfl rfl (i := i) (by omega) (by decide) (v := (lN (zq_ct (zq_es L V D F) (zq_ab L D) F S k i))) (hg i (by omega)) dM_total_27 ?_
      refine lv_ladd hx hb dM_total_28 ?_
      refine zt_tl (lN_add _ _) ?_
      refine lv_lstore_n (lv' := [(1, .long (lN ((zq_sm (zq_ct (zq_es L V D F) (zq_ab L D) F S k) i) + (zq_ct (zq_es L V D F) (zq_ab L D) F S k i)))), (0, .ref (ad 0)), (3, .int (nI i))]) hx hb dM_total_29 rfl hl (by decide) rfl (fun ls hl => ?_)
      refine lv_iinc (v := nI (i + 1)) (lv' := [(3, .int (nI (i + 1))), (1, .long (lN ((zq_sm (zq_ct (zq_es L V D F) (zq_ab L D) F S k) i) + (zq_ct (zq_es L V D F) (zq_ab L D) F S k i)))), (0, .ref (ad 0))]) hx hb dM_total_30 hl (k := 2) rfl (nI_1 _) (by decide) rfl (fun ls hl => ?_)
      refine lv_goto (tgt := 13) hx hb dM_total_33 (by decide) ?_
      exact ih (i + 1) (by omega) ls (lv_sub hl [2, 1, 0] rfl)
  exact loop N 0 (by omega) ls (lv_sub hl [2, 1, 0] rfl)
set_option maxHeartbeats 4000000 in
set_option maxRecDepth 100000 in
theorem tM_step (l : Launch) {dC : Nat → ClassId} {dI : Nat → Nat → Nat} {cI cJ cB : ClassId} {ad : Nat → Nat} {lev val chs dig : Nat → Int32} {est cst : Nat → Int64} {code : Int32} {D N F k : Nat} {L V S : Nat → Nat} {sz : Nat} (had : zg_ap ad 7) (hR : zm_R D N F L V lev val dig) (hs : zm_S N k S chs) : zt_Met l yM_step wM_step rM_step (va_Pc [.ref (ad 0)] (zg_C dC dI cI cJ cB (zm_w ad cI cJ cB lev val chs dig est cst code D N F k) sz)) (zg_Q dC dI (fun u : Int32 × (Nat → Int64) × (Nat → Int64) × (Nat → Int32) × Nat => some (.int u.1)) (fun u => (zc_st k = 0 ∧ u.1 = nI (zq_pick D N F L V k S) - 1 ∧ u.2.2.2.2 = (zq_go (zq_pick D N F L V) 1 k S).1 ∧ zm_S N (zq_go (zq_pick D N F L V) 1 k S).1 (zq_go (zq_pick D N F L V) 1 k S).2 u.2.2.2.1) ∨ (zc_st k ≠ 0 ∧ u.2.2.2 = (chs, k))) (fun u => zm_w ad cI cJ cB lev val u.2.2.2.1 dig u.2.1 u.2.2.1 (nI (zc_st k)) D N F u.2.2.2.2) (zg_A ad 7 sz)) 0 0 0 0 (zg_A ad 7 sz) := by
  refine zt_ofW (cc := cM_step) (maxL := 1) (ret := (some .int)) (by decide) rfl ?_
  intro p e s m args below meth c s₁ B hml hout hv
  obtain ⟨rfl, hsz, hP, hK⟩ := hv
  have hx := B.exec
  have hb := B.bytes
  have hr := B.returns
  have hz : ∀ w ∈ zw0, w.before ([.ref (ad 0)] : List Value).toArray s = true := fun w h => atoms_spec (ws := wM_step) B.pre w (List.mem_cons_of_mem _ h)
  have hown : s.vm.findClass RM = some m.cls := findClass_of_methodNamed B.named
  have hlocks := B.notSynchronized
  subst hsz
  have hS : va_S (zg_A ad 7 s.heap.size) s.heap s.heap [] := va_S.rf
  have hl := lv_entry ([.ref (ad 0)]) (n := 1) (Nat.le_of_ble_eq_true rfl)
  rw [lg_entry_eq]
  generalize (lg_sl ([.ref (ad 0)]) ++ List.replicate (1 - (lg_sl ([.ref (ad 0)])).length) Slot.unset).toArray = ls at hl ⊢
  have hl : lv_has ls 1 [(0, .ref (ad 0))] := hl
  have hR9 := hR
  obtain ⟨hD, hL, hN, hN5, hF, hVb, hlev, hval, hdg⟩ := hR
  have hk16 := hs.1
  refine lv_aload_n hx hb dM_step_0 rfl (lv_at hl 0 rfl) ?_
  refine lv_aload_n hx hb dM_step_1 rfl (lv_at hl 0 rfl) ?_
  refine va_get (D := (dC, dI)) (ci := 1) (v := .int (nI k)) (C := RM) (T := TM) (N := 11) hx hb hz in_M hown hK hP 0 rfl rfl 6 (by decide) (hz _ kf_M_40) (fun _ h9 => h9) rfl dM_step_2 ?_
  refine lv_bipush (v := nI 16) hx hb dM_step_5 (by decide) ?_
  refine zj_ne (tgt := 14) hx hb dM_step_7 (by decide) (by omega) (by omega) (fun c7 => ?_) (fun c7 => ?_)
  · have ecd : zc_st k = 0 := by unfold zc_st; rw [if_pos (by omega)]
    rw [ecd]
    refine lv_iconst (v := nI 0) hx hb dM_step_14 (by decide) ?_
    refine va_put (D := (dC, dI)) (ci := 1) (v := .int (nI 0)) (ty := .int) (C := RM) (T := TM) (N := 11) hx hb hz in_M tyM tyM_ok nmM hown hK hP (zm_D had) hS 0 rfl rfl 0 (by decide) (hz _ kf_M_34) (fun _ h9 => h9) rfl (by decide +kernel) rfl rfl (Nat.le_of_ble_eq_true rfl) dM_step_15 (fun H locs hP _ hS => ?_)
    have hP : va_P (dC, dI) zcl (zm_w ad cI cJ cB lev val chs dig est cst (nI 0) D N F k) H := hP
    refine lv_aload_n hx hb dM_step_18 rfl (lv_at hl 0 rfl) ?_
    refine va_get (D := (dC, dI)) (ci := 1) (v := .int (nI 0)) (C := RM) (T := TM) (N := 11) hx hb hz in_M hown hK hP 0 rfl rfl 0 (by decide) (hz _ kf_M_34) (fun _ h9 => h9) rfl dM_step_19 ?_
    refine lv_if_le (tgt := 29) hx hb dM_step_22 (by decide) (fun _ => ?_) (fun c22 => absurd c22 (not_not_intro (by decide)))
    refine lv_aload_n hx hb dM_step_29 rfl (lv_at hl 0 rfl) ?_
    refine zg_callW (zg_runC (rest := []) hx hb hml hown (tM_choosesOne l had hR9 hs (by omega)) (wcM_80 hz (Nat.le_of_ble_eq_true rfl) (Nat.le_of_ble_eq_true rfl)) (hz _ ki_M_choosesOne) (hz _ ks_M_choosesOne) (hz _ kC_M_choosesOne) hP hK rfl (q0 := 0) rfl rfl hl.1 rfl (Nat.le_of_ble_eq_true rfl) dM_step_30 ⟨Nat.le_of_ble_eq_true rfl, Nat.le_of_ble_eq_true rfl⟩) hS (fun q h => zg_A_up hS.1 h) (fun q h => zg_A_up hS.1 h) (fun ⟨f9, g9, h9⟩ H locs hu hP hz9 hk9 hS => ?_)
    refine W.eq (g2 := F0 m 33 ls [.int (nI (zq_pick D N F L V k S) - 1)]) rfl ?_
    exact zt_ri hx hb hr hlocks (fun t ht _ => ⟨(nI (zq_pick D N F L V k S) - 1, f9, g9, h9, (zq_go (zq_pick D N F L V) 1 k S).1), rfl, Or.inl ⟨rfl, rfl, rfl, hu⟩, by rw [ht]; exact hP, hS.F ht⟩) (hS.2.2) dM_step_33
  · have ecd : zc_st k = 1 := by unfold zc_st; rw [if_neg (by omega)]
    rw [ecd]
    refine lv_iconst (v := nI 1) hx hb dM_step_10 (by decide) ?_
    refine lv_goto (tgt := 15) hx hb dM_step_11 (by decide) ?_
    refine va_put (D := (dC, dI)) (ci := 1) (v := .int (nI 1)) (ty := .int) (C := RM) (T := TM) (N := 11) hx hb hz in_M tyM tyM_ok nmM hown hK hP (zm_D had) hS 0 rfl rfl 0 (by decide) (hz _ kf_M_34) (fun _ h9 => h9) rfl (by decide +kernel) rfl rfl (Nat.le_of_ble_eq_true rfl) dM_step_15 (fun H locs hP _ hS => ?_)
    have hP : va_P (dC, dI) zcl (zm_w ad cI cJ cB lev val chs dig est cst (nI 1) D N F k) H := hP
    refine lv_aload_n hx hb dM_step_18 rfl (lv_at hl 0 rfl) ?_
    refine va_get (D := (dC, dI)) (ci := 1) (v := .int (nI 1)) (C := RM) (T := TM) (N := 11) hx hb hz in_M hown hK hP 0 rfl rfl 0 (by decide) (hz _ kf_M_34) (fun _ h9 => h9) rfl dM_step_19 ?_
    refine lv_if_le (tgt := 29) hx hb dM_step_22 (by decide) (fun c22 => absurd c22 (by decide)) (fun _ => ?_)
    refine lv_iconst (v := nI 0) hx hb dM_step_25 (by decide) ?_
    refine lv_goto (tgt := 33) hx hb dM_step_26 (by decide) ?_
    exact zt_ri hx hb hr hlocks (fun t ht _ => ⟨(nI 0, est, cst, chs, k), rfl, Or.inr ⟨by decide, rfl⟩, by rw [ht]; exact hP, hS.F ht⟩) (hS.2.2) dM_step_33
set_option maxHeartbeats 4000000 in
set_option maxRecDepth 100000 in
theorem tM_choose (l : Launch) {dC : Nat → ClassId} {dI : Nat → Nat → Nat} {cI cJ cB : ClassId} {ad : Nat → Nat} {lev val chs dig : Nat → Int32} {est cst : Nat → Int64} {code : Int32} {D N F k : Nat} {L V S : Nat → Nat} {p0 : Int32} {sz : Nat} (had : zg_ap ad 7) (hR : zm_R D N F L V lev val dig) (hs : zm_S N k S chs) : zt_Met l yM_choose wM_choose rM_choose (va_Pc [.ref (ad 0), .int p0] (zg_C dC dI cI cJ cB (zm_w ad cI cJ cB lev val chs dig est cst code D N F k) sz)) (zg_Q dC dI (fun u : Int32 × (Nat → Int64) × (Nat → Int64) × (Nat → Int32) × Nat => some (.int u.1)) (fun u => (zc_cho (zn p0) = 0 ∧ u.1 = nI (zq_go (zq_pick D N F L V) (zn p0 - k) k S).1 ∧ u.2.2.2.2 = (zq_go (zq_pick D N F L V) (zn p0 - k) k S).1 ∧ zm_S N (zq_go (zq_pick D N F L V) (zn p0 - k) k S).1 (zq_go (zq_pick D N F L V) (zn p0 - k) k S).2 u.2.2.2.1) ∨ (zc_cho (zn p0) ≠ 0 ∧ u.2.2.2 = (chs, k))) (fun u => zm_w ad cI cJ cB lev val u.2.2.2.1 dig u.2.1 u.2.2.1 (nI (zc_cho (zn p0))) D N F u.2.2.2.2) (zg_A ad 7 sz)) 0 0 0 0 (zg_A ad 7 sz) := by
  generalize ha1 : zn p0 = a1
  refine zt_ofW (cc := cM_choose) (maxL := 3) (ret := (some .int)) (by decide) rfl ?_
  intro p e s m args below meth c s₁ B hml hout hv
  obtain ⟨rfl, hsz, hP, hK⟩ := hv
  have hx := B.exec
  have hb := B.bytes
  have hr := B.returns
  have hz : ∀ w ∈ zw0, w.before ([.ref (ad 0), .int p0] : List Value).toArray s = true := fun w h => atoms_spec (ws := wM_choose) B.pre w (List.mem_cons_of_mem _ h)
  have hown : s.vm.findClass RM = some m.cls := findClass_of_methodNamed B.named
  have hlocks := B.notSynchronized
  subst hsz
  have hS : va_S (zg_A ad 7 s.heap.size) s.heap s.heap [] := va_S.rf
  have hl := lv_entry ([.ref (ad 0), .int p0]) (n := 3) (Nat.le_of_ble_eq_true rfl)
  rw [lg_entry_eq]
  generalize (lg_sl ([.ref (ad 0), .int p0]) ++ List.replicate (3 - (lg_sl ([.ref (ad 0), .int p0])).length) Slot.unset).toArray = ls at hl ⊢
  have hl : lv_has ls 3 [(0, .ref (ad 0)), (1, .int p0)] := hl
  have hR9 := hR
  obtain ⟨hD, hL, hN, hN5, hF, hVb, hlev, hval, hdg⟩ := hR
  rcases zn_cases p0 with ⟨h0, e0⟩ | ⟨n, hn, rfl, e0⟩
  · have ea : a1 = 2 ^ 31 := ha1.symm.trans e0
    refine lv_aload_n hx hb dM_choose_0 rfl (lv_at hl 0 rfl) ?_
    refine lv_iload_n hx hb dM_choose_1 rfl (lv_at hl 1 rfl) ?_
    refine lv_if_lt (tgt := 11) hx hb dM_choose_2 (by decide) (fun _ => ?_) (fun c2 => absurd c2 (not_not_intro h0))
    have ecd : zc_cho a1 = 1 := by unfold zc_cho; rw [if_neg (by omega)]
    rw [ecd]
    refine lv_iconst (v := nI 1) hx hb dM_choose_11 (by decide) ?_
    refine lv_goto (tgt := 16) hx hb dM_choose_12 (by decide) ?_
    refine va_put (D := (dC, dI)) (ci := 1) (v := .int (nI 1)) (ty := .int) (C := RM) (T := TM) (N := 11) hx hb hz in_M tyM tyM_ok nmM hown hK hP (zm_D had) hS 0 rfl rfl 0 (by decide) (hz _ kf_M_34) (fun _ h9 => h9) rfl (by decide +kernel) rfl rfl (Nat.le_of_ble_eq_true rfl) dM_choose_16 (fun H locs hP _ hS => ?_)
    have hP : va_P (dC, dI) zcl (zm_w ad cI cJ cB lev val chs dig est cst (nI 1) D N F k) H := hP
    refine lv_aload_n hx hb dM_choose_19 rfl (lv_at hl 0 rfl) ?_
    refine va_get (D := (dC, dI)) (ci := 1) (v := .int (nI 1)) (C := RM) (T := TM) (N := 11) hx hb hz in_M hown hK hP 0 rfl rfl 0 (by decide) (hz _ kf_M_34) (fun _ h9 => h9) rfl dM_choose_20 ?_
    refine lv_if_le (tgt := 28) hx hb dM_choose_23 (by decide) (fun c23 => absurd c23 (by decide)) (fun _ => ?_)
    refine lv_iconst (v := nI 0) hx hb dM_choose_26 (by decide) ?_
    exact zt_ri hx hb hr hlocks (fun t ht _ => ⟨(nI 0, est, cst, chs, k), rfl, Or.inr ⟨by decide, rfl⟩, by rw [ht]; exact hP, hS.F ht⟩) (hS.2.2) dM_choose_27
  · have ea : a1 = n := ha1.symm.trans e0
    subst ea
    refine lv_aload_n hx hb dM_choose_0 rfl (lv_at hl 0 rfl) ?_
    refine lv_iload_n hx hb dM_choose_1 rfl (lv_at hl 1 rfl) ?_
    refine lv_if_lt (tgt := 11) hx hb dM_choose_2 (by decide) (fun c2 => absurd c2 (nI_pos hn)) (fun _ => ?_)
    refine lv_iload_n hx hb dM_choose_5 rfl (lv_at hl 1 rfl) ?_
    refine lv_bipush (v := nI 16) hx hb dM_choose_6 (by decide) ?_
    refine zj_le (tgt := 15) hx hb dM_choose_8 (by decide) (by omega) (by omega) (fun c8 => ?_) (fun c8 => ?_)
    · have ecd : zc_cho a1 = 0 := by unfold zc_cho; rw [if_pos (by omega)]
      rw [ecd]
      refine lv_iconst (v := nI 0) hx hb dM_choose_15 (by decide) ?_
      refine va_put (D := (dC, dI)) (ci := 1) (v := .int (nI 0)) (ty := .int) (C := RM) (T := TM) (N := 11) hx hb hz in_M tyM tyM_ok nmM hown hK hP (zm_D had) hS 0 rfl rfl 0 (by decide) (hz _ kf_M_34) (fun _ h9 => h9) rfl (by decide +kernel) rfl rfl (Nat.le_of_ble_eq_true rfl) dM_choose_16 (fun H locs hP _ hS => ?_)
      have hP : va_P (dC, dI) zcl (zm_w ad cI cJ cB lev val chs dig est cst (nI 0) D N F k) H := hP
      refine lv_aload_n hx hb dM_choose_19 rfl (lv_at hl 0 rfl) ?_
      refine va_get (D := (dC, dI)) (ci := 1) (v := .int (nI 0)) (C := RM) (T := TM) (N := 11) hx hb hz in_M hown hK hP 0 rfl rfl 0 (by decide) (hz _ kf_M_34) (fun _ h9 => h9) rfl dM_choose_20 ?_
      refine lv_if_le (tgt := 28) hx hb dM_choose_23 (by decide) (fun _ => ?_) (fun c23 => absurd c23 (not_not_intro (by decide)))
      refine lv_iconst (v := nI 1) hx hb dM_choose_28 (by decide) ?_
      refine lv_istore_n (lv' := [(2, .int (nI 1)), (0, .ref (ad 0)), (1, .int (nI a1))]) hx hb dM_choose_29 rfl hl (by decide) rfl (fun ls hl => ?_)
      have loop : ∀ (r k9 : Nat) (S9 : Nat → Nat), a1 - k9 = r → zq_go (zq_pick D N F L V) r k9 S9 = (zq_go (zq_pick D N F L V) (a1 - k) k S) → ∀ (f g : Nat → Int64) (h : Nat → Int32) (H : Heap) (locs : List Loc), zm_S N k9 S9 h → va_P (dC, dI) zcl (zm_w ad cI cJ cB lev val h dig f g (nI 0) D N F k9) H → va_S (zg_A ad 7 s.heap.size) s.heap H locs → ∀ ls : Array Slot, lv_has ls 3 [(0, .ref (ad 0)), (1, .int (nI a1)), (2, .int (nI 1))] → W p l e (headSpec wM_choose rM_choose).room s m ([.ref (ad 0), .int (nI a1)] : List Value).toArray below meth c H locs 0 0 (zt_MQ below (zg_Q dC dI (fun u : Int32 × (Nat → Int64) × (Nat → Int64) × (Nat → Int32) × Nat => some (.int u.1)) (fun u => (0 = 0 ∧ u.1 = nI (zq_go (zq_pick D N F L V) (a1 - k) k S).1 ∧ u.2.2.2.2 = (zq_go (zq_pick D N F L V) (a1 - k) k S).1 ∧ zm_S N (zq_go (zq_pick D N F L V) (a1 - k) k S).1 (zq_go (zq_pick D N F L V) (a1 - k) k S).2 u.2.2.2.1) ∨ (0 ≠ 0 ∧ u.2.2.2 = (chs, k))) (fun u => zm_w ad cI cJ cB lev val u.2.2.2.1 dig u.2.1 u.2.2.1 (nI 0) D N F u.2.2.2.2) (zg_A ad 7 s.heap.size)) ([.ref (ad 0), .int (nI a1)] : List Value).toArray s 0 0 0 0 (zg_A ad 7 s.heap.size)) (F0 m 30 ls []) := by
        intro r
        induction r with
        | zero =>
          intro k9 S9 hr9 hgo f g h H locs hs9 hP hS ls hl
          have hgo : (k9, S9) = (zq_go (zq_pick D N F L V) (a1 - k) k S) := hgo
          have hk16 := hs9.1
          refine lv_iload_n hx hb dM_choose_30 rfl (lv_at hl 2 rfl) ?_
          refine lv_if_eq (tgt := 58) hx hb dM_choose_31 (by decide) (fun c31 => absurd c31 (by decide)) (fun _ => ?_)
          refine lv_aload_n hx hb dM_choose_34 rfl (lv_at hl 0 rfl) ?_
          refine va_get (D := (dC, dI)) (ci := 1) (v := .int (nI k9)) (C := RM) (T := TM) (N := 11) hx hb hz in_M hown hK hP 0 rfl rfl 6 (by decide) (hz _ kf_M_40) (fun _ h9 => h9) rfl dM_choose_35 ?_
          refine lv_iload_n hx hb dM_choose_38 rfl (lv_at hl 1 rfl) ?_
          refine zj_ge (tgt := 58) hx hb dM_choose_39 (by decide) (by omega) (by omega) (fun _ => ?_) (fun c39 => absurd c39 (by omega))
          refine lv_aload_n hx hb dM_choose_58 rfl (lv_at hl 0 rfl) ?_
          refine va_get (D := (dC, dI)) (ci := 1) (v := .int (nI k9)) (C := RM) (T := TM) (N := 11) hx hb hz in_M hown hK hP 0 rfl rfl 6 (by decide) (hz _ kf_M_40) (fun _ h9 => h9) rfl dM_choose_59 ?_
          rw [← hgo]
          exact zt_ri hx hb hr hlocks (fun t ht _ => ⟨(nI k9, f, g, h, k9), rfl, Or.inl ⟨rfl, rfl, rfl, hs9⟩, by rw [ht]; exact hP, hS.F ht⟩) (hS.2.2) dM_choose_62
        | succ r ih =>
          intro k9 S9 hr9 hgo f g h H locs hs9 hP hS ls hl
          have hgo : (if zq_pick D N F L V k9 S9 = 0 then (k9, S9) else zq_go (zq_pick D N F L V) r (k9 + 1) (zq_up S9 k9 (zq_pick D N F L V k9 S9 - 1))) = (zq_go (zq_pick D N F L V) (a1 - k) k S) := hgo
          have hk16 := hs9.1
          refine lv_iload_n hx hb dM_choose_30 rfl (lv_at hl 2 rfl) ?_
          refine lv_if_eq (tgt := 58) hx hb dM_choose_31 (by decide) (fun c31 => absurd c31 (by decide)) (fun _ => ?_)
          refine lv_aload_n hx hb dM_choose_34 rfl (lv_at hl 0 rfl) ?_
          refine va_get (D := (dC, dI)) (ci := 1) (v := .int (nI k9)) (C := RM) (T := TM) (N := 11) hx hb hz in_M hown hK hP 0 rfl rfl 6 (by decide) (hz _ kf_M_40) (fun _ h9 => h9) rfl dM_choose_35 ?_
          refine lv_iload_n hx hb dM_choose_38 rfl (lv_at hl 1 rfl) ?_
          refine zj_ge (tgt := 58) hx hb dM_choose_39 (by decide) (by omega) (by omega) (fun c39 => absurd c39 (by omega)) (fun _ => ?_)
          refine lv_aload_n hx hb dM_choose_42 rfl (lv_at hl 0 rfl) ?_
          refine zg_callW (zg_runC (rest := []) hx hb hml hown (tM_choosesOne l had hR9 hs9 (by omega)) (wcM_80 hz (Nat.le_of_ble_eq_true rfl) (Nat.le_of_ble_eq_true rfl)) (hz _ ki_M_choosesOne) (hz _ ks_M_choosesOne) (hz _ kC_M_choosesOne) hP hK rfl (q0 := 0) rfl rfl hl.1 rfl (Nat.le_of_ble_eq_true rfl) dM_choose_43 ⟨Nat.le_of_ble_eq_true rfl, Nat.le_of_ble_eq_true rfl⟩) hS (fun q h => zg_A_up hS.1 h) (fun q h => zg_A_up hS.1 h) (fun ⟨f2, g2, h2⟩ H locs hu hP hz9 hk9 hS => ?_)
          refine W.eq (g2 := F0 m 46 ls [.int (nI (zq_pick D N F L V k9 S9) - 1)]) rfl ?_
          have hgo1 : zq_go (zq_pick D N F L V) 1 k9 S9 = if zq_pick D N F L V k9 S9 = 0 then (k9, S9) else (k9 + 1, zq_up S9 k9 (zq_pick D N F L V k9 S9 - 1)) := rfl
          rw [hgo1] at hP hu
          have hpl := zq_pick_le D N F L V k9 S9
          generalize hpk9 : zq_pick D N F L V k9 S9 = b at hpl hgo hP hu ⊢
          rcases b with _ | b
          · rw [if_pos rfl] at hgo hP hu
            refine lv_if_lt (tgt := 53) hx hb dM_choose_46 (by decide) (fun _ => ?_) (fun c46 => absurd c46 (not_not_intro (by decide)))
            refine lv_iconst (v := nI 0) hx hb dM_choose_53 (by decide) ?_
            refine lv_istore_n (lv' := [(2, .int (nI 0)), (0, .ref (ad 0)), (1, .int (nI a1))]) hx hb dM_choose_54 rfl hl (by decide) rfl (fun ls hl => ?_)
            refine lv_goto (tgt := 30) hx hb dM_choose_55 (by decide) ?_
            refine lv_iload_n hx hb dM_choose_30 rfl (lv_at hl 0 rfl) ?_
            refine lv_if_eq (tgt := 58) hx hb dM_choose_31 (by decide) (fun _ => ?_) (fun c31 => absurd c31 (not_not_intro (by decide)))
            refine lv_aload_n hx hb dM_choose_58 rfl (lv_at hl 1 rfl) ?_
            refine va_get (D := (dC, dI)) (ci := 1) (v := .int (nI k9)) (C := RM) (T := TM) (N := 11) hx hb hz in_M hown hK hP 0 rfl rfl 6 (by decide) (hz _ kf_M_40) (fun _ h9 => h9) rfl dM_choose_59 ?_
            rw [← hgo]
            exact zt_ri hx hb hr hlocks (fun t ht _ => ⟨(nI k9, f2, g2, h2, k9), rfl, Or.inl ⟨rfl, rfl, rfl, hu⟩, by rw [ht]; exact hP, hS.F ht⟩) (hS.2.2) dM_choose_62
          · rw [if_neg (Nat.succ_ne_zero b), Nat.add_sub_cancel] at hgo hP hu
            rw [nI_pred]
            refine lv_if_lt (tgt := 53) hx hb dM_choose_46 (by decide) (fun c46 => absurd c46 (nI_pos (by omega))) (fun _ => ?_)
            refine lv_iconst (v := nI 1) hx hb dM_choose_49 (by decide) ?_
            refine lv_goto (tgt := 54) hx hb dM_choose_50 (by decide) ?_
            refine lv_istore_n (lv' := [(2, .int (nI 1)), (0, .ref (ad 0)), (1, .int (nI a1))]) hx hb dM_choose_54 rfl hl (by decide) rfl (fun ls hl => ?_)
            refine lv_goto (tgt := 30) hx hb dM_choose_55 (by decide) ?_
            exact ih (k9 + 1) _ (by omega) hgo f2 g2 h2 H locs hu hP hS ls (lv_sub hl [1, 2, 0] rfl)
      exact loop (a1 - k) k S rfl rfl est cst chs H locs hs hP hS ls (lv_sub hl [1, 2, 0] rfl)
    · have ecd : zc_cho a1 = 1 := by unfold zc_cho; rw [if_neg (by omega)]
      rw [ecd]
      refine lv_iconst (v := nI 1) hx hb dM_choose_11 (by decide) ?_
      refine lv_goto (tgt := 16) hx hb dM_choose_12 (by decide) ?_
      refine va_put (D := (dC, dI)) (ci := 1) (v := .int (nI 1)) (ty := .int) (C := RM) (T := TM) (N := 11) hx hb hz in_M tyM tyM_ok nmM hown hK hP (zm_D had) hS 0 rfl rfl 0 (by decide) (hz _ kf_M_34) (fun _ h9 => h9) rfl (by decide +kernel) rfl rfl (Nat.le_of_ble_eq_true rfl) dM_choose_16 (fun H locs hP _ hS => ?_)
      have hP : va_P (dC, dI) zcl (zm_w ad cI cJ cB lev val chs dig est cst (nI 1) D N F k) H := hP
      refine lv_aload_n hx hb dM_choose_19 rfl (lv_at hl 0 rfl) ?_
      refine va_get (D := (dC, dI)) (ci := 1) (v := .int (nI 1)) (C := RM) (T := TM) (N := 11) hx hb hz in_M hown hK hP 0 rfl rfl 0 (by decide) (hz _ kf_M_34) (fun _ h9 => h9) rfl dM_choose_20 ?_
      refine lv_if_le (tgt := 28) hx hb dM_choose_23 (by decide) (fun c23 => absurd c23 (by decide)) (fun _ => ?_)
      refine lv_iconst (v := nI 0) hx hb dM_choose_26 (by decide) ?_
      exact zt_ri hx hb hr hlocks (fun t ht _ => ⟨(nI 0, est, cst, chs, k), rfl, Or.inr ⟨by decide, rfl⟩, by rw [ht]; exact hP, hS.F ht⟩) (hS.2.2) dM_choose_27
set_option maxHeartbeats 4000000 in
set_option maxRecDepth 100000 in
theorem tM_dimension (l : Launch) {dC : Nat → ClassId} {dI : Nat → Nat → Nat} {cI cJ cB : ClassId} {ad : Nat → Nat} {lev val chs dig : Nat → Int32} {est cst : Nat → Int64} {code : Int32} {D N F k : Nat} {L V : Nat → Nat} {p0 : Int32} {sz : Nat} (had : zg_ap ad 7) (hR : zm_R D N F L V lev val dig) (hV0 : ∀ j, 4 * D ≤ j → V j = 0) : zt_Met l yM_dimension wM_dimension rM_dimension (va_Pc [.ref (ad 0), .int p0] (zg_C dC dI cI cJ cB (zm_w ad cI cJ cB lev val chs dig est cst code D N F k) sz)) (zg_Q dC dI (fun u : Int32 × (Nat → Int32) × (Nat → Int32) × (Nat → Int32) × Nat × Nat × Nat => some (.int u.1)) (fun u => (zc_dim (zn p0) D N = 0 ∧ u.1 = nI D ∧ u.2.1 = upd lev D (nI (zn p0)) ∧ (∀ j, j < 32 → u.2.2.1 j = nI (V j)) ∧ (∀ w, w < N * (zn p0 + 1) → ∀ d, d < D + 1 → u.2.2.2.1 (8 * w + d) = nI (zq_dg (zq_up L D (zn p0)) (D + 1) w d)) ∧ u.2.2.2.2 = (D + 1, N * (zn p0 + 1), 0)) ∨ (zc_dim (zn p0) D N ≠ 0 ∧ u.2 = (lev, val, dig, D, N, k))) (fun u => zm_w ad cI cJ cB u.2.1 u.2.2.1 chs u.2.2.2.1 est cst (nI (zc_dim (zn p0) D N)) u.2.2.2.2.1 u.2.2.2.2.2.1 F u.2.2.2.2.2.2) (zg_A ad 7 sz)) 0 0 0 0 (zg_A ad 7 sz) := by
  generalize ha1 : zn p0 = a1
  refine zt_ofW (cc := cM_dimension) (maxL := 3) (ret := (some .int)) (by decide) rfl ?_
  intro p e s m args below meth c s₁ B hml hout hv
  obtain ⟨rfl, hsz, hP, hK⟩ := hv
  have hx := B.exec
  have hb := B.bytes
  have hr := B.returns
  have hz : ∀ w ∈ zw0, w.before ([.ref (ad 0), .int p0] : List Value).toArray s = true := fun w h => atoms_spec (ws := wM_dimension) B.pre w (List.mem_cons_of_mem _ h)
  have hown : s.vm.findClass RM = some m.cls := findClass_of_methodNamed B.named
  have hlocks := B.notSynchronized
  subst hsz
  have hS : va_S (zg_A ad 7 s.heap.size) s.heap s.heap [] := va_S.rf
  have hl := lv_entry ([.ref (ad 0), .int p0]) (n := 3) (Nat.le_of_ble_eq_true rfl)
  rw [lg_entry_eq]
  generalize (lg_sl ([.ref (ad 0), .int p0]) ++ List.replicate (3 - (lg_sl ([.ref (ad 0), .int p0])).length) Slot.unset).toArray = ls at hl ⊢
  have hl : lv_has ls 3 [(0, .ref (ad 0)), (1, .int p0)] := hl
  obtain ⟨hD, hL, hN, hN5, hF, hVb, hlev, hval, hdg⟩ := hR
  have hN0 : 0 < N := by rw [hN]; exact zq_nv_pos L D
  rcases zn_cases p0 with ⟨h0, e0⟩ | ⟨n, hn, rfl, e0⟩
  · have ea : a1 = 2 ^ 31 := ha1.symm.trans e0
    refine lv_aload_n hx hb dM_dimension_0 rfl (lv_at hl 0 rfl) ?_
    refine lv_iload_n hx hb dM_dimension_1 rfl (lv_at hl 1 rfl) ?_
    refine lv_iconst (v := nI 1) hx hb dM_dimension_2 (by decide) ?_
    refine lv_icmp_lt (tgt := 11) hx hb dM_dimension_3 (by decide) (fun _ => ?_) (fun c3 => absurd c3 (not_not_intro (Int32.lt_trans h0 (show (0 : Int32) < nI 1 by decide))))
    have ecd : zc_dim a1 D N = 1 := by unfold zc_dim; rw [if_neg (by omega)]
    rw [ecd]
    refine lv_iconst (v := nI 1) hx hb dM_dimension_11 (by decide) ?_
    refine lv_goto (tgt := 43) hx hb dM_dimension_12 (by decide) ?_
    refine va_put (D := (dC, dI)) (ci := 1) (v := .int (nI 1)) (ty := .int) (C := RM) (T := TM) (N := 11) hx hb hz in_M tyM tyM_ok nmM hown hK hP (zm_D had) hS 0 rfl rfl 0 (by decide) (hz _ kf_M_34) (fun _ h9 => h9) rfl (by decide +kernel) rfl rfl (Nat.le_of_ble_eq_true rfl) dM_dimension_43 (fun H locs hP _ hS => ?_)
    have hP : va_P (dC, dI) zcl (zm_w ad cI cJ cB lev val chs dig est cst (nI 1) D N F k) H := hP
    refine lv_aload_n hx hb dM_dimension_46 rfl (lv_at hl 0 rfl) ?_
    refine va_get (D := (dC, dI)) (ci := 1) (v := .int (nI 1)) (C := RM) (T := TM) (N := 11) hx hb hz in_M hown hK hP 0 rfl rfl 0 (by decide) (hz _ kf_M_34) (fun _ h9 => h9) rfl dM_dimension_47 ?_
    refine lv_if_le (tgt := 55) hx hb dM_dimension_50 (by decide) (fun c50 => absurd c50 (by decide)) (fun _ => ?_)
    refine lv_iconst (v := nI 0) hx hb dM_dimension_53 (by decide) ?_
    exact zt_ri hx hb hr hlocks (fun t ht _ => ⟨(nI 0, lev, val, dig, D, N, k), rfl, Or.inr ⟨by decide, rfl⟩, by rw [ht]; exact hP, hS.F ht⟩) (hS.2.2) dM_dimension_54
  · have ea : a1 = n := ha1.symm.trans e0
    subst ea
    refine lv_aload_n hx hb dM_dimension_0 rfl (lv_at hl 0 rfl) ?_
    refine lv_iload_n hx hb dM_dimension_1 rfl (lv_at hl 1 rfl) ?_
    refine lv_iconst (v := nI 1) hx hb dM_dimension_2 (by decide) ?_
    refine zj_lt (tgt := 11) hx hb dM_dimension_3 (by decide) (by omega) (by omega) (fun c3 => ?_) (fun c3 => ?_)
    · have ecd : zc_dim a1 D N = 1 := by unfold zc_dim; rw [if_neg (by omega)]
      rw [ecd]
      refine lv_iconst (v := nI 1) hx hb dM_dimension_11 (by decide) ?_
      refine lv_goto (tgt := 43) hx hb dM_dimension_12 (by decide) ?_
      refine va_put (D := (dC, dI)) (ci := 1) (v := .int (nI 1)) (ty := .int) (C := RM) (T := TM) (N := 11) hx hb hz in_M tyM tyM_ok nmM hown hK hP (zm_D had) hS 0 rfl rfl 0 (by decide) (hz _ kf_M_34) (fun _ h9 => h9) rfl (by decide +kernel) rfl rfl (Nat.le_of_ble_eq_true rfl) dM_dimension_43 (fun H locs hP _ hS => ?_)
      have hP : va_P (dC, dI) zcl (zm_w ad cI cJ cB lev val chs dig est cst (nI 1) D N F k) H := hP
      refine lv_aload_n hx hb dM_dimension_46 rfl (lv_at hl 0 rfl) ?_
      refine va_get (D := (dC, dI)) (ci := 1) (v := .int (nI 1)) (C := RM) (T := TM) (N := 11) hx hb hz in_M hown hK hP 0 rfl rfl 0 (by decide) (hz _ kf_M_34) (fun _ h9 => h9) rfl dM_dimension_47 ?_
      refine lv_if_le (tgt := 55) hx hb dM_dimension_50 (by decide) (fun c50 => absurd c50 (by decide)) (fun _ => ?_)
      refine lv_iconst (v := nI 0) hx hb dM_dimension_53 (by decide) ?_
      exact zt_ri hx hb hr hlocks (fun t ht _ => ⟨(nI 0, lev, val, dig, D, N, k), rfl, Or.inr ⟨by decide, rfl⟩, by rw [ht]; exact hP, hS.F ht⟩) (hS.2.2) dM_dimension_54
    · refine lv_iload_n hx hb dM_dimension_6 rfl (lv_at hl 1 rfl) ?_
      refine lv_iconst (v := nI 4) hx hb dM_dimension_7 (by decide) ?_
      refine zj_le (tgt := 15) hx hb dM_dimension_8 (by decide) (by omega) (by omega) (fun c8 => ?_) (fun c8 => ?_)
      · have hmul : N * (a1 + 1) ≤ 512 * 5 := Nat.mul_le_mul hN5 (by omega)
        refine lv_aload_n hx hb dM_dimension_15 rfl (lv_at hl 0 rfl) ?_
        refine va_get (D := (dC, dI)) (ci := 1) (v := .int (nI D)) (C := RM) (T := TM) (N := 11) hx hb hz in_M hown hK hP 0 rfl rfl 1 (by decide) (hz _ kf_M_37) (fun _ h9 => h9) rfl dM_dimension_16 ?_
        refine lv_bipush (v := nI 8) hx hb dM_dimension_19 (by decide) ?_
        refine zj_eq (tgt := 38) hx hb dM_dimension_21 (by decide) (by omega) (by omega) (fun c21 => ?_) (fun c21 => ?_)
        · have ecd : zc_dim a1 D N = 2 := by unfold zc_dim; rw [if_pos ⟨by omega, by omega⟩, if_neg (by omega)]
          rw [ecd]
          refine lv_iconst (v := nI 2) hx hb dM_dimension_38 (by decide) ?_
          refine lv_goto (tgt := 43) hx hb dM_dimension_39 (by decide) ?_
          refine va_put (D := (dC, dI)) (ci := 1) (v := .int (nI 2)) (ty := .int) (C := RM) (T := TM) (N := 11) hx hb hz in_M tyM tyM_ok nmM hown hK hP (zm_D had) hS 0 rfl rfl 0 (by decide) (hz _ kf_M_34) (fun _ h9 => h9) rfl (by decide +kernel) rfl rfl (Nat.le_of_ble_eq_true rfl) dM_dimension_43 (fun H locs hP _ hS => ?_)
          have hP : va_P (dC, dI) zcl (zm_w ad cI cJ cB lev val chs dig est cst (nI 2) D N F k) H := hP
          refine lv_aload_n hx hb dM_dimension_46 rfl (lv_at hl 0 rfl) ?_
          refine va_get (D := (dC, dI)) (ci := 1) (v := .int (nI 2)) (C := RM) (T := TM) (N := 11) hx hb hz in_M hown hK hP 0 rfl rfl 0 (by decide) (hz _ kf_M_34) (fun _ h9 => h9) rfl dM_dimension_47 ?_
          refine lv_if_le (tgt := 55) hx hb dM_dimension_50 (by decide) (fun c50 => absurd c50 (by decide)) (fun _ => ?_)
          refine lv_iconst (v := nI 0) hx hb dM_dimension_53 (by decide) ?_
          exact zt_ri hx hb hr hlocks (fun t ht _ => ⟨(nI 0, lev, val, dig, D, N, k), rfl, Or.inr ⟨by decide, rfl⟩, by rw [ht]; exact hP, hS.F ht⟩) (hS.2.2) dM_dimension_54
        · refine lv_aload_n hx hb dM_dimension_24 rfl (lv_at hl 0 rfl) ?_
          refine va_get (D := (dC, dI)) (ci := 1) (v := .int (nI N)) (C := RM) (T := TM) (N := 11) hx hb hz in_M hown hK hP 0 rfl rfl 5 (by decide) (hz _ kf_M_16) (fun _ h9 => h9) rfl dM_dimension_25 ?_
          refine lv_iload_n hx hb dM_dimension_28 rfl (lv_at hl 1 rfl) ?_
          refine lv_iconst (v := nI 1) hx hb dM_dimension_29 (by decide) ?_
          refine lv_iadd hx hb dM_dimension_30 ?_
          refine zt_ti (nI_add _ _) ?_
          refine lv_imul hx hb dM_dimension_31 ?_
          refine zt_ti (pk_mul _ _) ?_
          refine lv_sipush (v := nI 512) hx hb dM_dimension_32 (by decide) ?_
          refine zj_le (tgt := 42) hx hb dM_dimension_35 (by decide) (by omega) (by omega) (fun c35 => ?_) (fun c35 => ?_)
          · have ecd : zc_dim a1 D N = 0 := by unfold zc_dim; rw [if_pos ⟨by omega, by omega⟩, if_pos ⟨by omega, by omega⟩]
            rw [ecd]
            refine lv_iconst (v := nI 0) hx hb dM_dimension_42 (by decide) ?_
            refine va_put (D := (dC, dI)) (ci := 1) (v := .int (nI 0)) (ty := .int) (C := RM) (T := TM) (N := 11) hx hb hz in_M tyM tyM_ok nmM hown hK hP (zm_D had) hS 0 rfl rfl 0 (by decide) (hz _ kf_M_34) (fun _ h9 => h9) rfl (by decide +kernel) rfl rfl (Nat.le_of_ble_eq_true rfl) dM_dimension_43 (fun H locs hP _ hS => ?_)
            have hP : va_P (dC, dI) zcl (zm_w ad cI cJ cB lev val chs dig est cst (nI 0) D N F k) H := hP
            refine lv_aload_n hx hb dM_dimension_46 rfl (lv_at hl 0 rfl) ?_
            refine va_get (D := (dC, dI)) (ci := 1) (v := .int (nI 0)) (C := RM) (T := TM) (N := 11) hx hb hz in_M hown hK hP 0 rfl rfl 0 (by decide) (hz _ kf_M_34) (fun _ h9 => h9) rfl dM_dimension_47 ?_
            refine lv_if_le (tgt := 55) hx hb dM_dimension_50 (by decide) (fun _ => ?_) (fun c50 => absurd c50 (not_not_intro (by decide)))
            refine lv_aload_n hx hb dM_dimension_55 rfl (lv_at hl 0 rfl) ?_
            refine va_get (D := (dC, dI)) (ci := 1) (v := .ref (ad 1)) (C := RM) (T := TM) (N := 11) hx hb hz in_M hown hK hP 0 rfl rfl 2 (by decide) (hz _ kf_M_7) (fun _ h9 => h9) rfl dM_dimension_56 ?_
            refine lv_aload_n hx hb dM_dimension_59 rfl (lv_at hl 0 rfl) ?_
            refine va_get (D := (dC, dI)) (ci := 1) (v := .int (nI D)) (C := RM) (T := TM) (N := 11) hx hb hz in_M hown hK hP 0 rfl rfl 1 (by decide) (hz _ kf_M_37) (fun _ h9 => h9) rfl dM_dimension_60 ?_
            refine lv_iload_n hx hb dM_dimension_63 rfl (lv_at hl 1 rfl) ?_
            refine zt_iast hx hb hK hP (zm_D had) hS 1 0 rfl rfl (i := D) (by omega) (by decide) dM_dimension_64 (fun H locs hP _ hS => ?_)
            have hP : va_P (dC, dI) zcl (zm_w ad cI cJ cB (upd lev D (nI a1)) val chs dig est cst (nI 0) D N F k) H := hP
            refine lv_iconst (v := nI 0) hx hb dM_dimension_65 (by decide) ?_
            refine lv_istore_n (lv' := [(2, .int (nI 0)), (0, .ref (ad 0)), (1, .int (nI a1))]) hx hb dM_dimension_66 rfl hl (by decide) rfl (fun ls hl => ?_)
            have loop : ∀ (r j : Nat), j + r = a1 → ∀ (f : Nat → Int32) (H : Heap) (locs : List Loc), (∀ j, j < 32 → f j = nI (V j)) → va_P (dC, dI) zcl (zm_w ad cI cJ cB (upd lev D (nI a1)) f chs dig est cst (nI 0) D N F k) H → va_S (zg_A ad 7 s.heap.size) s.heap H locs → ∀ ls : Array Slot, lv_has ls 3 [(0, .ref (ad 0)), (1, .int (nI a1)), (2, .int (nI j))] → W p l e (headSpec wM_dimension rM_dimension).room s m ([.ref (ad 0), .int (nI a1)] : List Value).toArray below meth c H locs 0 0 (zt_MQ below (zg_Q dC dI (fun u : Int32 × (Nat → Int32) × (Nat → Int32) × (Nat → Int32) × Nat × Nat × Nat => some (.int u.1)) (fun u => (0 = 0 ∧ u.1 = nI D ∧ u.2.1 = upd lev D (nI (a1)) ∧ (∀ j, j < 32 → u.2.2.1 j = nI (V j)) ∧ (∀ w, w < N * (a1 + 1) → ∀ d, d < D + 1 → u.2.2.2.1 (8 * w + d) = nI (zq_dg (zq_up L D (a1)) (D + 1) w d)) ∧ u.2.2.2.2 = (D + 1, N * (a1 + 1), 0)) ∨ (0 ≠ 0 ∧ u.2 = (lev, val, dig, D, N, k))) (fun u => zm_w ad cI cJ cB u.2.1 u.2.2.1 chs u.2.2.2.1 est cst (nI (0)) u.2.2.2.2.1 u.2.2.2.2.2.1 F u.2.2.2.2.2.2) (zg_A ad 7 s.heap.size)) ([.ref (ad 0), .int (nI a1)] : List Value).toArray s 0 0 0 0 (zg_A ad 7 s.heap.size)) (F0 m 67 ls []) := by
              intro r
              induction r with
              | zero =>
                intro j hj f H locs hf hP hS ls hl
                refine lv_iload_n hx hb dM_dimension_67 rfl (lv_at hl 2 rfl) ?_
                refine lv_iload_n hx hb dM_dimension_68 rfl (lv_at hl 1 rfl) ?_
                refine zj_ge (tgt := 92) hx hb dM_dimension_69 (by decide) (by omega) (by omega) (fun _ => ?_) (fun c69 => absurd c69 (by omega))
                refine lv_aload_n hx hb dM_dimension_92 rfl (lv_at hl 0 rfl) ?_
                refine lv_dup hx hb dM_dimension_93 rfl ?_
                refine va_get (D := (dC, dI)) (ci := 1) (v := .int (nI N)) (C := RM) (T := TM) (N := 11) hx hb hz in_M hown hK hP 0 rfl rfl 5 (by decide) (hz _ kf_M_16) (fun _ h9 => h9) rfl dM_dimension_94 ?_
                refine lv_iload_n hx hb dM_dimension_97 rfl (lv_at hl 1 rfl) ?_
                refine lv_iconst (v := nI 1) hx hb dM_dimension_98 (by decide) ?_
                refine lv_iadd hx hb dM_dimension_99 ?_
                refine zt_ti (nI_add _ _) ?_
                refine lv_imul hx hb dM_dimension_100 ?_
                refine zt_ti (pk_mul _ _) ?_
                refine va_put (D := (dC, dI)) (ci := 1) (v := .int (nI (N * (a1 + 1)))) (ty := .int) (C := RM) (T := TM) (N := 11) hx hb hz in_M tyM tyM_ok nmM hown hK hP (zm_D had) hS 0 rfl rfl 5 (by decide) (hz _ kf_M_16) (fun _ h9 => h9) rfl (by decide +kernel) rfl rfl (Nat.le_of_ble_eq_true rfl) dM_dimension_101 (fun H locs hP _ hS => ?_)
                have hP : va_P (dC, dI) zcl (zm_w ad cI cJ cB (upd lev D (nI a1)) f chs dig est cst (nI 0) D (N * (a1 + 1)) F k) H := hP
                refine lv_aload_n hx hb dM_dimension_104 rfl (lv_at hl 0 rfl) ?_
                refine lv_iconst (v := nI 0) hx hb dM_dimension_105 (by decide) ?_
                refine va_put (D := (dC, dI)) (ci := 1) (v := .int (nI 0)) (ty := .int) (C := RM) (T := TM) (N := 11) hx hb hz in_M tyM tyM_ok nmM hown hK hP (zm_D had) hS 0 rfl rfl 6 (by decide) (hz _ kf_M_40) (fun _ h9 => h9) rfl (by decide +kernel) rfl rfl (Nat.le_of_ble_eq_true rfl) dM_dimension_106 (fun H locs hP _ hS => ?_)
                have hP : va_P (dC, dI) zcl (zm_w ad cI cJ cB (upd lev D (nI a1)) f chs dig est cst (nI 0) D (N * (a1 + 1)) F 0) H := hP
                refine lv_aload_n hx hb dM_dimension_109 rfl (lv_at hl 0 rfl) ?_
                refine lv_dup hx hb dM_dimension_110 rfl ?_
                refine va_get (D := (dC, dI)) (ci := 1) (v := .int (nI D)) (C := RM) (T := TM) (N := 11) hx hb hz in_M hown hK hP 0 rfl rfl 1 (by decide) (hz _ kf_M_37) (fun _ h9 => h9) rfl dM_dimension_111 ?_
                refine lv_iconst (v := nI 1) hx hb dM_dimension_114 (by decide) ?_
                refine lv_iadd hx hb dM_dimension_115 ?_
                refine zt_ti (nI_add _ _) ?_
                refine va_put (D := (dC, dI)) (ci := 1) (v := .int (nI (D + 1))) (ty := .int) (C := RM) (T := TM) (N := 11) hx hb hz in_M tyM tyM_ok nmM hown hK hP (zm_D had) hS 0 rfl rfl 1 (by decide) (hz _ kf_M_37) (fun _ h9 => h9) rfl (by decide +kernel) rfl rfl (Nat.le_of_ble_eq_true rfl) dM_dimension_116 (fun H locs hP _ hS => ?_)
                have hP : va_P (dC, dI) zcl (zm_w ad cI cJ cB (upd lev D (nI a1)) f chs dig est cst (nI 0) (D + 1) (N * (a1 + 1)) F 0) H := hP
                refine lv_aload_n hx hb dM_dimension_119 rfl (lv_at hl 0 rfl) ?_
                refine zg_callW (zg_runC (rest := []) hx hb hml hown (tM_spread l (L := zq_up L D a1) had (by omega) (zq_upL hL (by omega) (by omega)) (zq_upV hlev) (by omega)) (wcM_43 hz (Nat.le_of_ble_eq_true rfl) (Nat.le_of_ble_eq_true rfl)) (hz _ ki_M_spread) (hz _ ks_M_spread) (hz _ kC_M_spread) hP hK rfl (q0 := 0) rfl rfl hl.1 rfl (Nat.le_of_ble_eq_true rfl) dM_dimension_120 ⟨Nat.le_of_ble_eq_true rfl, Nat.le_of_ble_eq_true rfl⟩) hS (fun q h => zg_A_up hS.1 h) (fun q h => zg_A_up hS.1 h) (fun g9 H locs hg9 hP hz9 hk9 hS => ?_)
                refine W.eq (g2 := F0 m 123 ls []) rfl ?_
                refine lv_aload_n hx hb dM_dimension_123 rfl (lv_at hl 0 rfl) ?_
                refine va_get (D := (dC, dI)) (ci := 1) (v := .int (nI (D + 1))) (C := RM) (T := TM) (N := 11) hx hb hz in_M hown hK hP 0 rfl rfl 1 (by decide) (hz _ kf_M_37) (fun _ h9 => h9) rfl dM_dimension_124 ?_
                refine lv_iconst (v := nI 1) hx hb dM_dimension_127 (by decide) ?_
                refine lv_isub hx hb dM_dimension_128 ?_
                refine zt_ti (pk_sub (by omega)) ?_
                refine zt_ti (y := nI D) (by rw [Nat.add_sub_cancel]) ?_
                exact zt_ri hx hb hr hlocks (fun t ht _ => ⟨(nI D, upd lev D (nI a1), f, g9, D + 1, N * (a1 + 1), 0), rfl, Or.inl ⟨rfl, rfl, rfl, hf, hg9, rfl⟩, by rw [ht]; exact hP, hS.F ht⟩) (hS.2.2) dM_dimension_129
              | succ r ih =>
                intro j hj f H locs hf hP hS ls hl
                refine lv_iload_n hx hb dM_dimension_67 rfl (lv_at hl 2 rfl) ?_
                refine lv_iload_n hx hb dM_dimension_68 rfl (lv_at hl 1 rfl) ?_
                refine zj_ge (tgt := 92) hx hb dM_dimension_69 (by decide) (by omega) (by omega) (fun c69 => absurd c69 (by omega)) (fun _ => ?_)
                refine lv_aload_n hx hb dM_dimension_72 rfl (lv_at hl 0 rfl) ?_
                refine va_get (D := (dC, dI)) (ci := 1) (v := .ref (ad 2)) (C := RM) (T := TM) (N := 11) hx hb hz in_M hown hK hP 0 rfl rfl 3 (by decide) (hz _ kf_M_13) (fun _ h9 => h9) rfl dM_dimension_73 ?_
                refine lv_iconst (v := nI 4) hx hb dM_dimension_76 (by decide) ?_
                refine lv_aload_n hx hb dM_dimension_77 rfl (lv_at hl 0 rfl) ?_
                refine va_get (D := (dC, dI)) (ci := 1) (v := .int (nI D)) (C := RM) (T := TM) (N := 11) hx hb hz in_M hown hK hP 0 rfl rfl 1 (by decide) (hz _ kf_M_37) (fun _ h9 => h9) rfl dM_dimension_78 ?_
                refine lv_imul hx hb dM_dimension_81 ?_
                refine zt_ti (pk_mul _ _) ?_
                refine lv_iload_n hx hb dM_dimension_82 rfl (lv_at hl 2 rfl) ?_
                refine lv_iadd hx hb dM_dimension_83 ?_
                refine zt_ti (nI_add _ _) ?_
                refine lv_iconst (v := nI 0) hx hb dM_dimension_84 (by decide) ?_
                refine zt_iast hx hb hK hP (zm_D had) hS 2 0 rfl rfl (i := ((4 * D) + j)) (by omega) (by decide) dM_dimension_85 (fun H locs hP _ hS => ?_)
                have hP : va_P (dC, dI) zcl (zm_w ad cI cJ cB (upd lev D (nI a1)) (upd f ((4 * D) + j) (nI 0)) chs dig est cst (nI 0) D N F k) H := hP
                refine lv_iinc (v := nI (j + 1)) (lv' := [(2, .int (nI (j + 1))), (0, .ref (ad 0)), (1, .int (nI a1))]) hx hb dM_dimension_86 hl (k := 2) rfl (nI_1 _) (by decide) rfl (fun ls hl => ?_)
                refine lv_goto (tgt := 67) hx hb dM_dimension_89 (by decide) ?_
                refine ih (j + 1) (by omega) _ H locs (fun i hi => ?_) hP hS ls (lv_sub hl [1, 2, 0] rfl)
                by_cases e9 : i = 4 * D + j
                · rw [e9, pk_us, hV0 _ (by omega)]
                · rw [pk_un e9]; exact hf i hi
            exact loop a1 0 (by omega) val H locs hval hP hS ls (lv_sub hl [1, 2, 0] rfl)
          · have ecd : zc_dim a1 D N = 2 := by unfold zc_dim; rw [if_pos ⟨by omega, by omega⟩, if_neg (by omega)]
            rw [ecd]
            refine lv_iconst (v := nI 2) hx hb dM_dimension_38 (by decide) ?_
            refine lv_goto (tgt := 43) hx hb dM_dimension_39 (by decide) ?_
            refine va_put (D := (dC, dI)) (ci := 1) (v := .int (nI 2)) (ty := .int) (C := RM) (T := TM) (N := 11) hx hb hz in_M tyM tyM_ok nmM hown hK hP (zm_D had) hS 0 rfl rfl 0 (by decide) (hz _ kf_M_34) (fun _ h9 => h9) rfl (by decide +kernel) rfl rfl (Nat.le_of_ble_eq_true rfl) dM_dimension_43 (fun H locs hP _ hS => ?_)
            have hP : va_P (dC, dI) zcl (zm_w ad cI cJ cB lev val chs dig est cst (nI 2) D N F k) H := hP
            refine lv_aload_n hx hb dM_dimension_46 rfl (lv_at hl 0 rfl) ?_
            refine va_get (D := (dC, dI)) (ci := 1) (v := .int (nI 2)) (C := RM) (T := TM) (N := 11) hx hb hz in_M hown hK hP 0 rfl rfl 0 (by decide) (hz _ kf_M_34) (fun _ h9 => h9) rfl dM_dimension_47 ?_
            refine lv_if_le (tgt := 55) hx hb dM_dimension_50 (by decide) (fun c50 => absurd c50 (by decide)) (fun _ => ?_)
            refine lv_iconst (v := nI 0) hx hb dM_dimension_53 (by decide) ?_
            exact zt_ri hx hb hr hlocks (fun t ht _ => ⟨(nI 0, lev, val, dig, D, N, k), rfl, Or.inr ⟨by decide, rfl⟩, by rw [ht]; exact hP, hS.F ht⟩) (hS.2.2) dM_dimension_54
      · have ecd : zc_dim a1 D N = 1 := by unfold zc_dim; rw [if_neg (by omega)]
        rw [ecd]
        refine lv_iconst (v := nI 1) hx hb dM_dimension_11 (by decide) ?_
        refine lv_goto (tgt := 43) hx hb dM_dimension_12 (by decide) ?_
        refine va_put (D := (dC, dI)) (ci := 1) (v := .int (nI 1)) (ty := .int) (C := RM) (T := TM) (N := 11) hx hb hz in_M tyM tyM_ok nmM hown hK hP (zm_D had) hS 0 rfl rfl 0 (by decide) (hz _ kf_M_34) (fun _ h9 => h9) rfl (by decide +kernel) rfl rfl (Nat.le_of_ble_eq_true rfl) dM_dimension_43 (fun H locs hP _ hS => ?_)
        have hP : va_P (dC, dI) zcl (zm_w ad cI cJ cB lev val chs dig est cst (nI 1) D N F k) H := hP
        refine lv_aload_n hx hb dM_dimension_46 rfl (lv_at hl 0 rfl) ?_
        refine va_get (D := (dC, dI)) (ci := 1) (v := .int (nI 1)) (C := RM) (T := TM) (N := 11) hx hb hz in_M hown hK hP 0 rfl rfl 0 (by decide) (hz _ kf_M_34) (fun _ h9 => h9) rfl dM_dimension_47 ?_
        refine lv_if_le (tgt := 55) hx hb dM_dimension_50 (by decide) (fun c50 => absurd c50 (by decide)) (fun _ => ?_)
        refine lv_iconst (v := nI 0) hx hb dM_dimension_53 (by decide) ?_
        exact zt_ri hx hb hr hlocks (fun t ht _ => ⟨(nI 0, lev, val, dig, D, N, k), rfl, Or.inr ⟨by decide, rfl⟩, by rw [ht]; exact hP, hS.F ht⟩) (hS.2.2) dM_dimension_54
end
section
/-! the two constructors: by program (wip/gen/init.py) -/
section ZI
variable {p : Program} {l : Launch} {e : Env} {R : Room} {s : State} {m : MethodId} {args : Array Value} {below : List Frame} {meth : Method} {c : Code} {H : Heap} {locs : List Loc} {cells slots : Nat}
/-- a constructor's call -/
theorem zt_runI {y : MethodName} {bytes cc : ByteArray} {maxL nL kr nr kt nt n index : Nat} {ws : List Cond} {rm : Room} {Pc : Array Value → State → Prop} {Qc : Array Value → State → Outcome → State → Prop} {free : Addr → Prop} {own : String} {b : Addr} {As rest : List Value} {g : JFrame}
    (hexec : p.tables.exec = Jvm.exec) (hb : c.code = cc) (hml : c.maxLocals = nL) (hown : s.vm.findClass own = some m.cls)
    (hM : zt_Met l y ws rm Pc Qc kr nr kt nt free) (cw : zt_Cw R s args own index y maxL ws rm n) (hy1 : y.name = "<init>") (hinst : (Cond.instanceMethod y).before args s = true) (hcode : (Cond.code y bytes maxL none).before args s = true)
    (hp : PreS s H Pc (.ref b :: As)) (hg : g.method = m) (hn : As.length = n) (hsize : g.locals.size = nL) (hstack : g.stack = As.reverse ++ .ref b :: rest) (hW : 2 * g.monitorRoom + (rest.map fun v => v.category).sum ≤ 8) (hdg : decode cc g.pc = .ok (.invokespecial index, 3)) (hf : cells + rm.cells ≤ R.cells ∧ slots + rm.slots ≤ R.slots) :
    zt_Run p l e R s m args below meth c H locs cells slots kr nr kt nt g rest (Qc (Value.ref b :: As).toArray) free := by
  obtain ⟨hfr, hlo, hws, hini, hlink, hy, hlen⟩ := cw
  obtain ⟨hbl, hPc⟩ := hp
  subst hg
  intro T hT X
  have hpl : e.platform.magicAccessors = ({} : Platform).magicAccessors := by rw [X.admits.platform]
  have hlen' : ∀ sig, parseMethodDescriptor y.desc = some sig → As.length = sig.parameters.length := fun sig h => by
    rw [h] at hlen
    exact hn.trans (Option.some.inj hlen).symm
  obtain ⟨mk, methM, cM, kP, vm₁, hnamed, hmethM, hcM, -, hlM, -, hkP, -, hW₁, hstep₁⟩ := Steps.initColdArgs (e := e) X.here hexec X.warmed hpl hown hy1 hy hlink hinst hcode (f := g) rfl hlen' hstack (by rw [hb]; exact hdg)
  have X₁ := X.noted hW₁
  have hmk₁ : (T.setVm vm₁).vm.method? mk = some methM := by
    have := X₁.warmed.alike.method? (m := mk)
    exact this.trans hmethM
  obtain ⟨o, t, T', L, X', hL, e1, e2, hq, hst, hr, hx⟩ := zt_in (g := { g with stack := rest }) X₁ hM hfr hlo hf (X₁.named hnamed) hmk₁ hcM hlM (a0 := args) (zt_word_at X₁.warmed (by simp [zt_gw, Cond.onTables, Cond.keepsFace, Cond.keeps, Cond.steady]) hini) rfl (hsize.trans hml.symm) (ig := .invokespecial index) (len := 3) (by rw [hb]; exact hdg) hW
    (a := (Value.ref b :: As).toArray) (fun w hw => zt_word_at X₁.warmed (hws w hw).1 (hws w hw).2) (hbl _ _ _ _ (hPc (T.setVm vm₁) hT X₁.warmed))
  refine ⟨o, _, t, T', L, ?_, ?_, X', hL, e1, e2, hq, fun v hv target h => hstep₁ _ fun acts => ?_, fun x hx' target h => hstep₁ _ fun acts => ?_⟩
  · exact hT
  · exact X₁.warmed
  · rw [doInvoke_state]; exact hst.trans (by rw [hr v hv]; exact h)
  · rw [doInvoke_state]; exact hst.trans (by rw [hx x hx']; exact h)
end ZI
theorem wcL_49 {R : Room} {args : Array Value} {s : State} (hz : ∀ w ∈ zw0, w.before args s = true) (hf : rX_init.frames + 1 ≤ R.frames) (hl : 8 + (1 + 11) + rX_init.locals ≤ R.locals) : zt_Cw R s args RL 49 yX_init 1 wX_init rX_init 0 := ⟨hf, hl, zc_ws hz kC_X_init, hz _ kin_ViewChooser, hz _ kl_L_49, ⟨by decide +kernel, by decide +kernel⟩, by decide +kernel⟩
theorem wcL_52 {R : Room} {args : Array Value} {s : State} (hz : ∀ w ∈ zw0, w.before args s = true) (hf : rM_init.frames + 1 ≤ R.frames) (hl : 8 + (1 + 11) + rM_init.locals ≤ R.locals) : zt_Cw R s args RL 52 yM_init 1 wM_init rM_init 0 := ⟨hf, hl, zc_ws hz kC_M_init, hz _ kin_ViewChooserModel, hz _ kl_L_52, ⟨by decide +kernel, by decide +kernel⟩, by decide +kernel⟩
/-- the array class of a name is one -/
theorem zg_cA {D : va_G} {cl : List vw_C} {tys : List (ClassId × FieldType)} {s : State} {a b : ClassId} {ty : FieldType} (h : va_K D cl tys s) (i j : Nat) (hi : tys[i]? = some (a, ty)) (hj : tys[j]? = some (b, ty)) (hty : ty = .int ∨ ty = .long ∨ ty = .byte) : a = b := by
  have h1 := (h.2 i _ hi).2
  have h2 := (h.2 j _ hj).2
  rcases hty with rfl | rfl | rfl
  · exact Option.some.inj (Eq.trans (Eq.symm (show s.vm.findClass ("[" ++ FieldType.int.toString) = some a from h1)) h2)
  · exact Option.some.inj (Eq.trans (Eq.symm (show s.vm.findClass ("[" ++ FieldType.long.toString) = some a from h1)) h2)
  · exact Option.some.inj (Eq.trans (Eq.symm (show s.vm.findClass ("[" ++ FieldType.byte.toString) = some a from h1)) h2)
/-- a fresh object at h0 and what is made behind it -/
def zg_N (h0 sz : Nat) : Nat → Prop := fun q => q = h0 ∨ sz ≤ q
def zg_fresh (ad : Nat → Nat) (n h0 sz : Nat) : Prop := ad 0 = h0 ∧ zg_ap ad n ∧ ∀ i, 0 < i → i < n → sz ≤ ad i
theorem zg_fresh_of {ad : Nat → Nat} {n h0 sz : Nat} {ws : va_W} (hD : va_D (zg_N h0 sz) ws) (h0' : ad 0 = h0) (hn : ws.length = n) (hw : ∀ i, i < n → ∃ e, ws[i]? = some (ad i, e)) : zg_fresh ad n h0 sz := by
  have hap : zg_ap ad n := fun i j hi hj e => by
    obtain ⟨x, hx⟩ := hw i hi
    obtain ⟨y, hy⟩ := hw j hj
    exact hD.1 i j _ _ hx hy e
  refine ⟨h0', hap, fun i h1 h2 => ?_⟩
  obtain ⟨x, hx⟩ := hw i h2
  rcases hD.2 i _ hx with h | h
  · have h3 : ad i = ad 0 := h.trans h0'.symm
    have := hap i 0 h2 (by omega) h3
    omega
  · exact h
set_option maxHeartbeats 4000000 in
set_option maxRecDepth 100000 in
/-- a new one -/
theorem tX_init (l : Launch) {dC : Nat → ClassId} {dI : Nat → Nat → Nat} {cI cJ cB : ClassId} {h0 sz : Nat} : zt_Met l yX_init wX_init rX_init (va_Pc [.ref h0] (zg_C dC dI cI cJ cB [(h0, .inr (0, [.null, .null, .null, .null, .null, .int 0, .int 0, .int 0, .int 0]))] sz)) (zg_Q dC dI (fun _ => none) (fun ad : Nat → Nat => zg_fresh ad 6 h0 sz) (fun ad => zx_w ad cI cJ (fun _ => 0) (fun _ => 0) (fun _ => 0) (fun _ => 0) (fun _ => 0) 0 1 0 0) (zg_N h0 sz)) 5 1080 0 0 (zg_N h0 sz) := by
  refine zt_ofW (cc := cX_init) (maxL := 1) (ret := none) (by decide) rfl ?_
  intro p e s m args below meth c s₁ B hml hout hv
  obtain ⟨rfl, hsz, hP, hK⟩ := hv
  have hx := B.exec
  have hb := B.bytes
  have hr := B.returns
  have hz : ∀ w ∈ zw0, w.before ([.ref h0] : List Value).toArray s = true := fun w h => atoms_spec (ws := wX_init) B.pre w (List.mem_cons_of_mem _ h)
  have hown : s.vm.findClass RX = some m.cls := findClass_of_methodNamed B.named
  have hlocks := B.notSynchronized
  have hin : meth.name = "<init>" := (name_of_methodNamed B.named B.method).1
  subst hsz
  have hS : va_S (zg_N h0 s.heap.size) s.heap s.heap [] := va_S.rf
  have hA : ∀ q : Nat, s.heap.size ≤ q → zg_N h0 s.heap.size q := fun q h => Or.inr h
  have hD : va_D (zg_N h0 s.heap.size) [(h0, .inr (0, [.null, .null, .null, .null, .null, .int 0, .int 0, .int 0, .int 0]))] := ⟨fun i j p q h1 h2 _ => by have a1 := (List.getElem?_eq_some_iff.mp h1).1; have a2 := (List.getElem?_eq_some_iff.mp h2).1; simp at a1 a2; omega, fun i q h1 => by have a1 := (List.getElem?_eq_some_iff.mp h1).1; simp at a1; subst a1; cases h1; exact Or.inl rfl⟩
  have hl := lv_entry ([.ref h0]) (n := 1) (Nat.le_of_ble_eq_true rfl)
  rw [lg_entry_eq]
  generalize (lg_sl ([.ref h0]) ++ List.replicate (1 - (lg_sl ([.ref h0])).length) Slot.unset).toArray = ls at hl ⊢
  have hl : lv_has ls 1 [(0, .ref h0)] := hl
  refine lv_aload_n hx hb dX_init_0 rfl (lv_at hl 0 rfl) ?_
  refine W.objInit hx hb hown (hz _ kl_X_1) (hz _ ki_object) (hz _ kC_object) rfl (by rw [hml]; exact hl.1) rfl dX_init_1 (Nat.le_of_ble_eq_true rfl) (Nat.le_of_ble_eq_true rfl) ?_
  refine W.eq (g2 := F0 m 4 ls []) rfl ?_
  refine lv_aload_n hx hb dX_init_4 rfl (lv_at hl 0 rfl) ?_
  refine lv_bipush (v := nI 8) hx hb dX_init_5 (by decide) ?_
  refine va_newa (atype := .int) (ty := .int) (N' := 8) (a0 := (8, .inl (fun _ : Nat => (0 : Int32)))) hx hb (hz _ ka_int) rfl hK hP hD hS hA (fun _ => rfl) (by decide) (by decide) (Nat.le_of_ble_eq_true rfl) (Nat.le_of_ble_eq_true rfl) (Nat.le_of_ble_eq_true rfl) dX_init_7 (fun q1 cA H hK9 hP hD hS => ?_)
  have hc9 : cA = cI := zg_cA hK9 3 0 rfl rfl (by simp)
  rw [hc9] at hP hD
  clear hK9 hc9
  have hP : va_P (dC, dI) zcl [(h0, .inr (0, [.null, .null, .null, .null, .null, .int 0, .int 0, .int 0, .int 0])), (q1, .inl (cI, 8, .inl (fun _ : Nat => (0 : Int32))))] H := hP
  have hD : va_D (zg_N h0 s.heap.size) [(h0, .inr (0, [.null, .null, .null, .null, .null, .int 0, .int 0, .int 0, .int 0])), (q1, .inl (cI, 8, .inl (fun _ : Nat => (0 : Int32))))] := hD
  refine va_putF (D := (dC, dI)) (ci := 0) (v := .ref q1) (ty := .array .int) (C := RX) (T := TX) (N := 9) hx hb hz in_X tyX tyX_ok nmX hown hK hP hD hS 0 rfl rfl 0 (by decide) (hz _ kf_X_9) (fun _ h9 => h9) rfl hin rfl (by decide +kernel) rfl rfl (Nat.le_of_ble_eq_true rfl) dX_init_9 (fun H locs hP hD hS => ?_)
  have hP : va_P (dC, dI) zcl [(h0, .inr (0, [.ref q1, .null, .null, .null, .null, .int 0, .int 0, .int 0, .int 0])), (q1, .inl (cI, 8, .inl (fun _ : Nat => (0 : Int32))))] H := hP
  have hD : va_D (zg_N h0 s.heap.size) [(h0, .inr (0, [.ref q1, .null, .null, .null, .null, .int 0, .int 0, .int 0, .int 0])), (q1, .inl (cI, 8, .inl (fun _ : Nat => (0 : Int32))))] := hD
  refine lv_aload_n hx hb dX_init_12 rfl (lv_at hl 0 rfl) ?_
  refine lv_bipush (v := nI 32) hx hb dX_init_13 (by decide) ?_
  refine va_newa (atype := .int) (ty := .int) (N' := 32) (a0 := (32, .inl (fun _ : Nat => (0 : Int32)))) hx hb (hz _ ka_int) rfl hK hP hD hS hA (fun _ => rfl) (by decide) (by decide) (Nat.le_of_ble_eq_true rfl) (Nat.le_of_ble_eq_true rfl) (Nat.le_of_ble_eq_true rfl) dX_init_15 (fun q2 cA H hK9 hP hD hS => ?_)
  have hc9 : cA = cI := zg_cA hK9 3 0 rfl rfl (by simp)
  rw [hc9] at hP hD
  clear hK9 hc9
  have hP : va_P (dC, dI) zcl [(h0, .inr (0, [.ref q1, .null, .null, .null, .null, .int 0, .int 0, .int 0, .int 0])), (q1, .inl (cI, 8, .inl (fun _ : Nat => (0 : Int32)))), (q2, .inl (cI, 32, .inl (fun _ : Nat => (0 : Int32))))] H := hP
  have hD : va_D (zg_N h0 s.heap.size) [(h0, .inr (0, [.ref q1, .null, .null, .null, .null, .int 0, .int 0, .int 0, .int 0])), (q1, .inl (cI, 8, .inl (fun _ : Nat => (0 : Int32)))), (q2, .inl (cI, 32, .inl (fun _ : Nat => (0 : Int32))))] := hD
  refine va_putF (D := (dC, dI)) (ci := 0) (v := .ref q2) (ty := .array .int) (C := RX) (T := TX) (N := 9) hx hb hz in_X tyX tyX_ok nmX hown hK hP hD hS 0 rfl rfl 1 (by decide) (hz _ kf_X_13) (fun _ h9 => h9) rfl hin rfl (by decide +kernel) rfl rfl (Nat.le_of_ble_eq_true rfl) dX_init_17 (fun H locs hP hD hS => ?_)
  have hP : va_P (dC, dI) zcl [(h0, .inr (0, [.ref q1, .ref q2, .null, .null, .null, .int 0, .int 0, .int 0, .int 0])), (q1, .inl (cI, 8, .inl (fun _ : Nat => (0 : Int32)))), (q2, .inl (cI, 32, .inl (fun _ : Nat => (0 : Int32))))] H := hP
  have hD : va_D (zg_N h0 s.heap.size) [(h0, .inr (0, [.ref q1, .ref q2, .null, .null, .null, .int 0, .int 0, .int 0, .int 0])), (q1, .inl (cI, 8, .inl (fun _ : Nat => (0 : Int32)))), (q2, .inl (cI, 32, .inl (fun _ : Nat => (0 : Int32))))] := hD
  refine lv_aload_n hx hb dX_init_20 rfl (lv_at hl 0 rfl) ?_
  refine lv_sipush (v := nI 512) hx hb dX_init_21 (by decide) ?_
  refine va_newa (atype := .int) (ty := .int) (N' := 512) (a0 := (512, .inl (fun _ : Nat => (0 : Int32)))) hx hb (hz _ ka_int) rfl hK hP hD hS hA (fun _ => rfl) (by decide) (by decide) (Nat.le_of_ble_eq_true rfl) (Nat.le_of_ble_eq_true rfl) (Nat.le_of_ble_eq_true rfl) dX_init_24 (fun q3 cA H hK9 hP hD hS => ?_)
  have hc9 : cA = cI := zg_cA hK9 3 0 rfl rfl (by simp)
  rw [hc9] at hP hD
  clear hK9 hc9
  have hP : va_P (dC, dI) zcl [(h0, .inr (0, [.ref q1, .ref q2, .null, .null, .null, .int 0, .int 0, .int 0, .int 0])), (q1, .inl (cI, 8, .inl (fun _ : Nat => (0 : Int32)))), (q2, .inl (cI, 32, .inl (fun _ : Nat => (0 : Int32)))), (q3, .inl (cI, 512, .inl (fun _ : Nat => (0 : Int32))))] H := hP
  have hD : va_D (zg_N h0 s.heap.size) [(h0, .inr (0, [.ref q1, .ref q2, .null, .null, .null, .int 0, .int 0, .int 0, .int 0])), (q1, .inl (cI, 8, .inl (fun _ : Nat => (0 : Int32)))), (q2, .inl (cI, 32, .inl (fun _ : Nat => (0 : Int32)))), (q3, .inl (cI, 512, .inl (fun _ : Nat => (0 : Int32))))] := hD
  refine va_putF (D := (dC, dI)) (ci := 0) (v := .ref q3) (ty := .array .int) (C := RX) (T := TX) (N := 9) hx hb hz in_X tyX tyX_ok nmX hown hK hP hD hS 0 rfl rfl 2 (by decide) (hz _ kf_X_16) (fun _ h9 => h9) rfl hin rfl (by decide +kernel) rfl rfl (Nat.le_of_ble_eq_true rfl) dX_init_26 (fun H locs hP hD hS => ?_)
  have hP : va_P (dC, dI) zcl [(h0, .inr (0, [.ref q1, .ref q2, .ref q3, .null, .null, .int 0, .int 0, .int 0, .int 0])), (q1, .inl (cI, 8, .inl (fun _ : Nat => (0 : Int32)))), (q2, .inl (cI, 32, .inl (fun _ : Nat => (0 : Int32)))), (q3, .inl (cI, 512, .inl (fun _ : Nat => (0 : Int32))))] H := hP
  have hD : va_D (zg_N h0 s.heap.size) [(h0, .inr (0, [.ref q1, .ref q2, .ref q3, .null, .null, .int 0, .int 0, .int 0, .int 0])), (q1, .inl (cI, 8, .inl (fun _ : Nat => (0 : Int32)))), (q2, .inl (cI, 32, .inl (fun _ : Nat => (0 : Int32)))), (q3, .inl (cI, 512, .inl (fun _ : Nat => (0 : Int32))))] := hD
  refine lv_aload_n hx hb dX_init_29 rfl (lv_at hl 0 rfl) ?_
  refine lv_sipush (v := nI 512) hx hb dX_init_30 (by decide) ?_
  refine va_newa (atype := .long) (ty := .long) (N' := 512) (a0 := (512, .inr (.inl (fun _ : Nat => (0 : Int64))))) hx hb (hz _ ka_long) rfl hK hP hD hS hA (fun _ => rfl) (by decide) (by decide) (Nat.le_of_ble_eq_true rfl) (Nat.le_of_ble_eq_true rfl) (Nat.le_of_ble_eq_true rfl) dX_init_33 (fun q4 cA H hK9 hP hD hS => ?_)
  have hc9 : cA = cJ := zg_cA hK9 3 1 rfl rfl (by simp)
  rw [hc9] at hP hD
  clear hK9 hc9
  have hP : va_P (dC, dI) zcl [(h0, .inr (0, [.ref q1, .ref q2, .ref q3, .null, .null, .int 0, .int 0, .int 0, .int 0])), (q1, .inl (cI, 8, .inl (fun _ : Nat => (0 : Int32)))), (q2, .inl (cI, 32, .inl (fun _ : Nat => (0 : Int32)))), (q3, .inl (cI, 512, .inl (fun _ : Nat => (0 : Int32)))), (q4, .inl (cJ, 512, .inr (.inl (fun _ : Nat => (0 : Int64)))))] H := hP
  have hD : va_D (zg_N h0 s.heap.size) [(h0, .inr (0, [.ref q1, .ref q2, .ref q3, .null, .null, .int 0, .int 0, .int 0, .int 0])), (q1, .inl (cI, 8, .inl (fun _ : Nat => (0 : Int32)))), (q2, .inl (cI, 32, .inl (fun _ : Nat => (0 : Int32)))), (q3, .inl (cI, 512, .inl (fun _ : Nat => (0 : Int32)))), (q4, .inl (cJ, 512, .inr (.inl (fun _ : Nat => (0 : Int64)))))] := hD
  refine va_putF (D := (dC, dI)) (ci := 0) (v := .ref q4) (ty := .array .long) (C := RX) (T := TX) (N := 9) hx hb hz in_X tyX tyX_ok nmX hown hK hP hD hS 0 rfl rfl 3 (by decide) (hz _ kf_X_19) (fun _ h9 => h9) rfl hin rfl (by decide +kernel) rfl rfl (Nat.le_of_ble_eq_true rfl) dX_init_35 (fun H locs hP hD hS => ?_)
  have hP : va_P (dC, dI) zcl [(h0, .inr (0, [.ref q1, .ref q2, .ref q3, .ref q4, .null, .int 0, .int 0, .int 0, .int 0])), (q1, .inl (cI, 8, .inl (fun _ : Nat => (0 : Int32)))), (q2, .inl (cI, 32, .inl (fun _ : Nat => (0 : Int32)))), (q3, .inl (cI, 512, .inl (fun _ : Nat => (0 : Int32)))), (q4, .inl (cJ, 512, .inr (.inl (fun _ : Nat => (0 : Int64)))))] H := hP
  have hD : va_D (zg_N h0 s.heap.size) [(h0, .inr (0, [.ref q1, .ref q2, .ref q3, .ref q4, .null, .int 0, .int 0, .int 0, .int 0])), (q1, .inl (cI, 8, .inl (fun _ : Nat => (0 : Int32)))), (q2, .inl (cI, 32, .inl (fun _ : Nat => (0 : Int32)))), (q3, .inl (cI, 512, .inl (fun _ : Nat => (0 : Int32)))), (q4, .inl (cJ, 512, .inr (.inl (fun _ : Nat => (0 : Int64)))))] := hD
  refine lv_aload_n hx hb dX_init_38 rfl (lv_at hl 0 rfl) ?_
  refine lv_bipush (v := nI 16) hx hb dX_init_39 (by decide) ?_
  refine va_newa (atype := .int) (ty := .int) (N' := 16) (a0 := (16, .inl (fun _ : Nat => (0 : Int32)))) hx hb (hz _ ka_int) rfl hK hP hD hS hA (fun _ => rfl) (by decide) (by decide) (Nat.le_of_ble_eq_true rfl) (Nat.le_of_ble_eq_true rfl) (Nat.le_of_ble_eq_true rfl) dX_init_41 (fun q5 cA H hK9 hP hD hS => ?_)
  have hc9 : cA = cI := zg_cA hK9 3 0 rfl rfl (by simp)
  rw [hc9] at hP hD
  clear hK9 hc9
  have hP : va_P (dC, dI) zcl [(h0, .inr (0, [.ref q1, .ref q2, .ref q3, .ref q4, .null, .int 0, .int 0, .int 0, .int 0])), (q1, .inl (cI, 8, .inl (fun _ : Nat => (0 : Int32)))), (q2, .inl (cI, 32, .inl (fun _ : Nat => (0 : Int32)))), (q3, .inl (cI, 512, .inl (fun _ : Nat => (0 : Int32)))), (q4, .inl (cJ, 512, .inr (.inl (fun _ : Nat => (0 : Int64))))), (q5, .inl (cI, 16, .inl (fun _ : Nat => (0 : Int32))))] H := hP
  have hD : va_D (zg_N h0 s.heap.size) [(h0, .inr (0, [.ref q1, .ref q2, .ref q3, .ref q4, .null, .int 0, .int 0, .int 0, .int 0])), (q1, .inl (cI, 8, .inl (fun _ : Nat => (0 : Int32)))), (q2, .inl (cI, 32, .inl (fun _ : Nat => (0 : Int32)))), (q3, .inl (cI, 512, .inl (fun _ : Nat => (0 : Int32)))), (q4, .inl (cJ, 512, .inr (.inl (fun _ : Nat => (0 : Int64))))), (q5, .inl (cI, 16, .inl (fun _ : Nat => (0 : Int32))))] := hD
  refine va_putF (D := (dC, dI)) (ci := 0) (v := .ref q5) (ty := .array .int) (C := RX) (T := TX) (N := 9) hx hb hz in_X tyX tyX_ok nmX hown hK hP hD hS 0 rfl rfl 4 (by decide) (hz _ kf_X_23) (fun _ h9 => h9) rfl hin rfl (by decide +kernel) rfl rfl (Nat.le_of_ble_eq_true rfl) dX_init_43 (fun H locs hP hD hS => ?_)
  have hP : va_P (dC, dI) zcl [(h0, .inr (0, [.ref q1, .ref q2, .ref q3, .ref q4, .ref q5, .int 0, .int 0, .int 0, .int 0])), (q1, .inl (cI, 8, .inl (fun _ : Nat => (0 : Int32)))), (q2, .inl (cI, 32, .inl (fun _ : Nat => (0 : Int32)))), (q3, .inl (cI, 512, .inl (fun _ : Nat => (0 : Int32)))), (q4, .inl (cJ, 512, .inr (.inl (fun _ : Nat => (0 : Int64))))), (q5, .inl (cI, 16, .inl (fun _ : Nat => (0 : Int32))))] H := hP
  have hD : va_D (zg_N h0 s.heap.size) [(h0, .inr (0, [.ref q1, .ref q2, .ref q3, .ref q4, .ref q5, .int 0, .int 0, .int 0, .int 0])), (q1, .inl (cI, 8, .inl (fun _ : Nat => (0 : Int32)))), (q2, .inl (cI, 32, .inl (fun _ : Nat => (0 : Int32)))), (q3, .inl (cI, 512, .inl (fun _ : Nat => (0 : Int32)))), (q4, .inl (cJ, 512, .inr (.inl (fun _ : Nat => (0 : Int64))))), (q5, .inl (cI, 16, .inl (fun _ : Nat => (0 : Int32))))] := hD
  refine lv_aload_n hx hb dX_init_46 rfl (lv_at hl 0 rfl) ?_
  refine lv_iconst (v := nI 0) hx hb dX_init_47 (by decide) ?_
  refine va_put (D := (dC, dI)) (ci := 0) (v := .int (nI 0)) (ty := .int) (C := RX) (T := TX) (N := 9) hx hb hz in_X tyX tyX_ok nmX hown hK hP hD hS 0 rfl rfl 5 (by decide) (hz _ kf_X_26) (fun _ h9 => h9) rfl (by decide +kernel) rfl rfl (Nat.le_of_ble_eq_true rfl) dX_init_48 (fun H locs hP hD hS => ?_)
  have hP : va_P (dC, dI) zcl [(h0, .inr (0, [.ref q1, .ref q2, .ref q3, .ref q4, .ref q5, .int (nI 0), .int 0, .int 0, .int 0])), (q1, .inl (cI, 8, .inl (fun _ : Nat => (0 : Int32)))), (q2, .inl (cI, 32, .inl (fun _ : Nat => (0 : Int32)))), (q3, .inl (cI, 512, .inl (fun _ : Nat => (0 : Int32)))), (q4, .inl (cJ, 512, .inr (.inl (fun _ : Nat => (0 : Int64))))), (q5, .inl (cI, 16, .inl (fun _ : Nat => (0 : Int32))))] H := hP
  have hD : va_D (zg_N h0 s.heap.size) [(h0, .inr (0, [.ref q1, .ref q2, .ref q3, .ref q4, .ref q5, .int (nI 0), .int 0, .int 0, .int 0])), (q1, .inl (cI, 8, .inl (fun _ : Nat => (0 : Int32)))), (q2, .inl (cI, 32, .inl (fun _ : Nat => (0 : Int32)))), (q3, .inl (cI, 512, .inl (fun _ : Nat => (0 : Int32)))), (q4, .inl (cJ, 512, .inr (.inl (fun _ : Nat => (0 : Int64))))), (q5, .inl (cI, 16, .inl (fun _ : Nat => (0 : Int32))))] := hD
  refine lv_aload_n hx hb dX_init_51 rfl (lv_at hl 0 rfl) ?_
  refine lv_iconst (v := nI 1) hx hb dX_init_52 (by decide) ?_
  refine va_put (D := (dC, dI)) (ci := 0) (v := .int (nI 1)) (ty := .int) (C := RX) (T := TX) (N := 9) hx hb hz in_X tyX tyX_ok nmX hown hK hP hD hS 0 rfl rfl 6 (by decide) (hz _ kf_X_30) (fun _ h9 => h9) rfl (by decide +kernel) rfl rfl (Nat.le_of_ble_eq_true rfl) dX_init_53 (fun H locs hP hD hS => ?_)
  have hP : va_P (dC, dI) zcl [(h0, .inr (0, [.ref q1, .ref q2, .ref q3, .ref q4, .ref q5, .int (nI 0), .int (nI 1), .int 0, .int 0])), (q1, .inl (cI, 8, .inl (fun _ : Nat => (0 : Int32)))), (q2, .inl (cI, 32, .inl (fun _ : Nat => (0 : Int32)))), (q3, .inl (cI, 512, .inl (fun _ : Nat => (0 : Int32)))), (q4, .inl (cJ, 512, .inr (.inl (fun _ : Nat => (0 : Int64))))), (q5, .inl (cI, 16, .inl (fun _ : Nat => (0 : Int32))))] H := hP
  have hD : va_D (zg_N h0 s.heap.size) [(h0, .inr (0, [.ref q1, .ref q2, .ref q3, .ref q4, .ref q5, .int (nI 0), .int (nI 1), .int 0, .int 0])), (q1, .inl (cI, 8, .inl (fun _ : Nat => (0 : Int32)))), (q2, .inl (cI, 32, .inl (fun _ : Nat => (0 : Int32)))), (q3, .inl (cI, 512, .inl (fun _ : Nat => (0 : Int32)))), (q4, .inl (cJ, 512, .inr (.inl (fun _ : Nat => (0 : Int64))))), (q5, .inl (cI, 16, .inl (fun _ : Nat => (0 : Int32))))] := hD
  refine lv_aload_n hx hb dX_init_56 rfl (lv_at hl 0 rfl) ?_
  refine lv_iconst (v := nI 0) hx hb dX_init_57 (by decide) ?_
  refine va_put (D := (dC, dI)) (ci := 0) (v := .int (nI 0)) (ty := .int) (C := RX) (T := TX) (N := 9) hx hb hz in_X tyX tyX_ok nmX hown hK hP hD hS 0 rfl rfl 7 (by decide) (hz _ kf_X_33) (fun _ h9 => h9) rfl (by decide +kernel) rfl rfl (Nat.le_of_ble_eq_true rfl) dX_init_58 (fun H locs hP hD hS => ?_)
  have hP : va_P (dC, dI) zcl [(h0, .inr (0, [.ref q1, .ref q2, .ref q3, .ref q4, .ref q5, .int (nI 0), .int (nI 1), .int (nI 0), .int 0])), (q1, .inl (cI, 8, .inl (fun _ : Nat => (0 : Int32)))), (q2, .inl (cI, 32, .inl (fun _ : Nat => (0 : Int32)))), (q3, .inl (cI, 512, .inl (fun _ : Nat => (0 : Int32)))), (q4, .inl (cJ, 512, .inr (.inl (fun _ : Nat => (0 : Int64))))), (q5, .inl (cI, 16, .inl (fun _ : Nat => (0 : Int32))))] H := hP
  have hD : va_D (zg_N h0 s.heap.size) [(h0, .inr (0, [.ref q1, .ref q2, .ref q3, .ref q4, .ref q5, .int (nI 0), .int (nI 1), .int (nI 0), .int 0])), (q1, .inl (cI, 8, .inl (fun _ : Nat => (0 : Int32)))), (q2, .inl (cI, 32, .inl (fun _ : Nat => (0 : Int32)))), (q3, .inl (cI, 512, .inl (fun _ : Nat => (0 : Int32)))), (q4, .inl (cJ, 512, .inr (.inl (fun _ : Nat => (0 : Int64))))), (q5, .inl (cI, 16, .inl (fun _ : Nat => (0 : Int32))))] := hD
  refine lv_aload_n hx hb dX_init_61 rfl (lv_at hl 0 rfl) ?_
  refine lv_iconst (v := nI 0) hx hb dX_init_62 (by decide) ?_
  refine va_put (D := (dC, dI)) (ci := 0) (v := .int (nI 0)) (ty := .int) (C := RX) (T := TX) (N := 9) hx hb hz in_X tyX tyX_ok nmX hown hK hP hD hS 0 rfl rfl 8 (by decide) (hz _ kf_X_36) (fun _ h9 => h9) rfl (by decide +kernel) rfl rfl (Nat.le_of_ble_eq_true rfl) dX_init_63 (fun H locs hP hD hS => ?_)
  have hP : va_P (dC, dI) zcl [(h0, .inr (0, [.ref q1, .ref q2, .ref q3, .ref q4, .ref q5, .int (nI 0), .int (nI 1), .int (nI 0), .int (nI 0)])), (q1, .inl (cI, 8, .inl (fun _ : Nat => (0 : Int32)))), (q2, .inl (cI, 32, .inl (fun _ : Nat => (0 : Int32)))), (q3, .inl (cI, 512, .inl (fun _ : Nat => (0 : Int32)))), (q4, .inl (cJ, 512, .inr (.inl (fun _ : Nat => (0 : Int64))))), (q5, .inl (cI, 16, .inl (fun _ : Nat => (0 : Int32))))] H := hP
  have hD : va_D (zg_N h0 s.heap.size) [(h0, .inr (0, [.ref q1, .ref q2, .ref q3, .ref q4, .ref q5, .int (nI 0), .int (nI 1), .int (nI 0), .int (nI 0)])), (q1, .inl (cI, 8, .inl (fun _ : Nat => (0 : Int32)))), (q2, .inl (cI, 32, .inl (fun _ : Nat => (0 : Int32)))), (q3, .inl (cI, 512, .inl (fun _ : Nat => (0 : Int32)))), (q4, .inl (cJ, 512, .inr (.inl (fun _ : Nat => (0 : Int64))))), (q5, .inl (cI, 16, .inl (fun _ : Nat => (0 : Int32))))] := hD
  refine zt_rv hx hb hr hlocks (fun t ht _ => ⟨(fun i => match i with | 0 => h0 | 1 => q1 | 2 => q2 | 3 => q3 | 4 => q4 | _ => q5), rfl, zg_fresh_of hD rfl rfl (fun i hi => ?_), by rw [ht]; exact hP, hS.F ht⟩) hS.2.2 dX_init_66
  rcases (show i = 0 ∨ i = 1 ∨ i = 2 ∨ i = 3 ∨ i = 4 ∨ i = 5 by omega) with rfl | rfl | rfl | rfl | rfl | rfl
  · exact ⟨_, rfl⟩
  · exact ⟨_, rfl⟩
  · exact ⟨_, rfl⟩
  · exact ⟨_, rfl⟩
  · exact ⟨_, rfl⟩
  · exact ⟨_, rfl⟩
set_option maxHeartbeats 4000000 in
set_option maxRecDepth 100000 in
/-- a new one -/
theorem tM_init (l : Launch) {dC : Nat → ClassId} {dI : Nat → Nat → Nat} {cI cJ cB : ClassId} {h0 sz : Nat} : zt_Met l yM_init wM_init rM_init (va_Pc [.ref h0] (zg_C dC dI cI cJ cB [(h0, .inr (1, [.int 0, .int 0, .null, .null, .int 0, .int 0, .int 0, .null, .null, .null, .null]))] sz)) (zg_Q dC dI (fun _ => none) (fun ad : Nat → Nat => zg_fresh ad 7 h0 sz) (fun ad => zm_w ad cI cJ cB (fun _ => 0) (fun _ => 0) (fun _ => 0) (fun _ => 0) (fun _ => 0) (fun _ => 0) 0 0 1 0 0) (zg_N h0 sz)) 6 5176 0 0 (zg_N h0 sz) := by
  refine zt_ofW (cc := cM_init) (maxL := 1) (ret := none) (by decide) rfl ?_
  intro p e s m args below meth c s₁ B hml hout hv
  obtain ⟨rfl, hsz, hP, hK⟩ := hv
  have hx := B.exec
  have hb := B.bytes
  have hr := B.returns
  have hz : ∀ w ∈ zw0, w.before ([.ref h0] : List Value).toArray s = true := fun w h => atoms_spec (ws := wM_init) B.pre w (List.mem_cons_of_mem _ h)
  have hown : s.vm.findClass RM = some m.cls := findClass_of_methodNamed B.named
  have hlocks := B.notSynchronized
  have hin : meth.name = "<init>" := (name_of_methodNamed B.named B.method).1
  subst hsz
  have hS : va_S (zg_N h0 s.heap.size) s.heap s.heap [] := va_S.rf
  have hA : ∀ q : Nat, s.heap.size ≤ q → zg_N h0 s.heap.size q := fun q h => Or.inr h
  have hD : va_D (zg_N h0 s.heap.size) [(h0, .inr (1, [.int 0, .int 0, .null, .null, .int 0, .int 0, .int 0, .null, .null, .null, .null]))] := ⟨fun i j p q h1 h2 _ => by have a1 := (List.getElem?_eq_some_iff.mp h1).1; have a2 := (List.getElem?_eq_some_iff.mp h2).1; simp at a1 a2; omega, fun i q h1 => by have a1 := (List.getElem?_eq_some_iff.mp h1).1; simp at a1; subst a1; cases h1; exact Or.inl rfl⟩
  have hl := lv_entry ([.ref h0]) (n := 1) (Nat.le_of_ble_eq_true rfl)
  rw [lg_entry_eq]
  generalize (lg_sl ([.ref h0]) ++ List.replicate (1 - (lg_sl ([.ref h0])).length) Slot.unset).toArray = ls at hl ⊢
  have hl : lv_has ls 1 [(0, .ref h0)] := hl
  refine lv_aload_n hx hb dM_init_0 rfl (lv_at hl 0 rfl) ?_
  refine W.objInit hx hb hown (hz _ kl_M_1) (hz _ ki_object) (hz _ kC_object) rfl (by rw [hml]; exact hl.1) rfl dM_init_1 (Nat.le_of_ble_eq_true rfl) (Nat.le_of_ble_eq_true rfl) ?_
  refine W.eq (g2 := F0 m 4 ls []) rfl ?_
  refine lv_aload_n hx hb dM_init_4 rfl (lv_at hl 0 rfl) ?_
  refine lv_bipush (v := nI 8) hx hb dM_init_5 (by decide) ?_
  refine va_newa (atype := .int) (ty := .int) (N' := 8) (a0 := (8, .inl (fun _ : Nat => (0 : Int32)))) hx hb (hz _ ka_int) rfl hK hP hD hS hA (fun _ => rfl) (by decide) (by decide) (Nat.le_of_ble_eq_true rfl) (Nat.le_of_ble_eq_true rfl) (Nat.le_of_ble_eq_true rfl) dM_init_7 (fun q1 cA H hK9 hP hD hS => ?_)
  have hc9 : cA = cI := zg_cA hK9 3 0 rfl rfl (by simp)
  rw [hc9] at hP hD
  clear hK9 hc9
  have hP : va_P (dC, dI) zcl [(h0, .inr (1, [.int 0, .int 0, .null, .null, .int 0, .int 0, .int 0, .null, .null, .null, .null])), (q1, .inl (cI, 8, .inl (fun _ : Nat => (0 : Int32))))] H := hP
  have hD : va_D (zg_N h0 s.heap.size) [(h0, .inr (1, [.int 0, .int 0, .null, .null, .int 0, .int 0, .int 0, .null, .null, .null, .null])), (q1, .inl (cI, 8, .inl (fun _ : Nat => (0 : Int32))))] := hD
  refine va_putF (D := (dC, dI)) (ci := 1) (v := .ref q1) (ty := .array .int) (C := RM) (T := TM) (N := 11) hx hb hz in_M tyM tyM_ok nmM hown hK hP hD hS 0 rfl rfl 2 (by decide) (hz _ kf_M_7) (fun _ h9 => h9) rfl hin rfl (by decide +kernel) rfl rfl (Nat.le_of_ble_eq_true rfl) dM_init_9 (fun H locs hP hD hS => ?_)
  have hP : va_P (dC, dI) zcl [(h0, .inr (1, [.int 0, .int 0, .ref q1, .null, .int 0, .int 0, .int 0, .null, .null, .null, .null])), (q1, .inl (cI, 8, .inl (fun _ : Nat => (0 : Int32))))] H := hP
  have hD : va_D (zg_N h0 s.heap.size) [(h0, .inr (1, [.int 0, .int 0, .ref q1, .null, .int 0, .int 0, .int 0, .null, .null, .null, .null])), (q1, .inl (cI, 8, .inl (fun _ : Nat => (0 : Int32))))] := hD
  refine lv_aload_n hx hb dM_init_12 rfl (lv_at hl 0 rfl) ?_
  refine lv_bipush (v := nI 32) hx hb dM_init_13 (by decide) ?_
  refine va_newa (atype := .int) (ty := .int) (N' := 32) (a0 := (32, .inl (fun _ : Nat => (0 : Int32)))) hx hb (hz _ ka_int) rfl hK hP hD hS hA (fun _ => rfl) (by decide) (by decide) (Nat.le_of_ble_eq_true rfl) (Nat.le_of_ble_eq_true rfl) (Nat.le_of_ble_eq_true rfl) dM_init_15 (fun q2 cA H hK9 hP hD hS => ?_)
  have hc9 : cA = cI := zg_cA hK9 3 0 rfl rfl (by simp)
  rw [hc9] at hP hD
  clear hK9 hc9
  have hP : va_P (dC, dI) zcl [(h0, .inr (1, [.int 0, .int 0, .ref q1, .null, .int 0, .int 0, .int 0, .null, .null, .null, .null])), (q1, .inl (cI, 8, .inl (fun _ : Nat => (0 : Int32)))), (q2, .inl (cI, 32, .inl (fun _ : Nat => (0 : Int32))))] H := hP
  have hD : va_D (zg_N h0 s.heap.size) [(h0, .inr (1, [.int 0, .int 0, .ref q1, .null, .int 0, .int 0, .int 0, .null, .null, .null, .null])), (q1, .inl (cI, 8, .inl (fun _ : Nat => (0 : Int32)))), (q2, .inl (cI, 32, .inl (fun _ : Nat => (0 : Int32))))] := hD
  refine va_putF (D := (dC, dI)) (ci := 1) (v := .ref q2) (ty := .array .int) (C := RM) (T := TM) (N := 11) hx hb hz in_M tyM tyM_ok nmM hown hK hP hD hS 0 rfl rfl 3 (by decide) (hz _ kf_M_13) (fun _ h9 => h9) rfl hin rfl (by decide +kernel) rfl rfl (Nat.le_of_ble_eq_true rfl) dM_init_17 (fun H locs hP hD hS => ?_)
  have hP : va_P (dC, dI) zcl [(h0, .inr (1, [.int 0, .int 0, .ref q1, .ref q2, .int 0, .int 0, .int 0, .null, .null, .null, .null])), (q1, .inl (cI, 8, .inl (fun _ : Nat => (0 : Int32)))), (q2, .inl (cI, 32, .inl (fun _ : Nat => (0 : Int32))))] H := hP
  have hD : va_D (zg_N h0 s.heap.size) [(h0, .inr (1, [.int 0, .int 0, .ref q1, .ref q2, .int 0, .int 0, .int 0, .null, .null, .null, .null])), (q1, .inl (cI, 8, .inl (fun _ : Nat => (0 : Int32)))), (q2, .inl (cI, 32, .inl (fun _ : Nat => (0 : Int32))))] := hD
  refine lv_aload_n hx hb dM_init_20 rfl (lv_at hl 0 rfl) ?_
  refine lv_iconst (v := nI 1) hx hb dM_init_21 (by decide) ?_
  refine va_put (D := (dC, dI)) (ci := 1) (v := .int (nI 1)) (ty := .int) (C := RM) (T := TM) (N := 11) hx hb hz in_M tyM tyM_ok nmM hown hK hP hD hS 0 rfl rfl 5 (by decide) (hz _ kf_M_16) (fun _ h9 => h9) rfl (by decide +kernel) rfl rfl (Nat.le_of_ble_eq_true rfl) dM_init_22 (fun H locs hP hD hS => ?_)
  have hP : va_P (dC, dI) zcl [(h0, .inr (1, [.int 0, .int 0, .ref q1, .ref q2, .int 0, .int (nI 1), .int 0, .null, .null, .null, .null])), (q1, .inl (cI, 8, .inl (fun _ : Nat => (0 : Int32)))), (q2, .inl (cI, 32, .inl (fun _ : Nat => (0 : Int32))))] H := hP
  have hD : va_D (zg_N h0 s.heap.size) [(h0, .inr (1, [.int 0, .int 0, .ref q1, .ref q2, .int 0, .int (nI 1), .int 0, .null, .null, .null, .null])), (q1, .inl (cI, 8, .inl (fun _ : Nat => (0 : Int32)))), (q2, .inl (cI, 32, .inl (fun _ : Nat => (0 : Int32))))] := hD
  refine lv_aload_n hx hb dM_init_25 rfl (lv_at hl 0 rfl) ?_
  refine lv_bipush (v := nI 16) hx hb dM_init_26 (by decide) ?_
  refine va_newa (atype := .int) (ty := .int) (N' := 16) (a0 := (16, .inl (fun _ : Nat => (0 : Int32)))) hx hb (hz _ ka_int) rfl hK hP hD hS hA (fun _ => rfl) (by decide) (by decide) (Nat.le_of_ble_eq_true rfl) (Nat.le_of_ble_eq_true rfl) (Nat.le_of_ble_eq_true rfl) dM_init_28 (fun q3 cA H hK9 hP hD hS => ?_)
  have hc9 : cA = cI := zg_cA hK9 3 0 rfl rfl (by simp)
  rw [hc9] at hP hD
  clear hK9 hc9
  have hP : va_P (dC, dI) zcl [(h0, .inr (1, [.int 0, .int 0, .ref q1, .ref q2, .int 0, .int (nI 1), .int 0, .null, .null, .null, .null])), (q1, .inl (cI, 8, .inl (fun _ : Nat => (0 : Int32)))), (q2, .inl (cI, 32, .inl (fun _ : Nat => (0 : Int32)))), (q3, .inl (cI, 16, .inl (fun _ : Nat => (0 : Int32))))] H := hP
  have hD : va_D (zg_N h0 s.heap.size) [(h0, .inr (1, [.int 0, .int 0, .ref q1, .ref q2, .int 0, .int (nI 1), .int 0, .null, .null, .null, .null])), (q1, .inl (cI, 8, .inl (fun _ : Nat => (0 : Int32)))), (q2, .inl (cI, 32, .inl (fun _ : Nat => (0 : Int32)))), (q3, .inl (cI, 16, .inl (fun _ : Nat => (0 : Int32))))] := hD
  refine va_putF (D := (dC, dI)) (ci := 1) (v := .ref q3) (ty := .array .int) (C := RM) (T := TM) (N := 11) hx hb hz in_M tyM tyM_ok nmM hown hK hP hD hS 0 rfl rfl 7 (by decide) (hz _ kf_M_20) (fun _ h9 => h9) rfl hin rfl (by decide +kernel) rfl rfl (Nat.le_of_ble_eq_true rfl) dM_init_30 (fun H locs hP hD hS => ?_)
  have hP : va_P (dC, dI) zcl [(h0, .inr (1, [.int 0, .int 0, .ref q1, .ref q2, .int 0, .int (nI 1), .int 0, .ref q3, .null, .null, .null])), (q1, .inl (cI, 8, .inl (fun _ : Nat => (0 : Int32)))), (q2, .inl (cI, 32, .inl (fun _ : Nat => (0 : Int32)))), (q3, .inl (cI, 16, .inl (fun _ : Nat => (0 : Int32))))] H := hP
  have hD : va_D (zg_N h0 s.heap.size) [(h0, .inr (1, [.int 0, .int 0, .ref q1, .ref q2, .int 0, .int (nI 1), .int 0, .ref q3, .null, .null, .null])), (q1, .inl (cI, 8, .inl (fun _ : Nat => (0 : Int32)))), (q2, .inl (cI, 32, .inl (fun _ : Nat => (0 : Int32)))), (q3, .inl (cI, 16, .inl (fun _ : Nat => (0 : Int32))))] := hD
  refine lv_aload_n hx hb dM_init_33 rfl (lv_at hl 0 rfl) ?_
  refine lv_sipush (v := nI 4096) hx hb dM_init_34 (by decide) ?_
  refine va_newa (atype := .byte) (ty := .byte) (N' := 4096) (a0 := (4096, .inl (fun _ : Nat => (0 : Int32)))) hx hb (hz _ ka_byte) rfl hK hP hD hS hA (fun _ => rfl) (by decide) (by decide) (Nat.le_of_ble_eq_true rfl) (Nat.le_of_ble_eq_true rfl) (Nat.le_of_ble_eq_true rfl) dM_init_37 (fun q4 cA H hK9 hP hD hS => ?_)
  have hc9 : cA = cB := zg_cA hK9 3 2 rfl rfl (by simp)
  rw [hc9] at hP hD
  clear hK9 hc9
  have hP : va_P (dC, dI) zcl [(h0, .inr (1, [.int 0, .int 0, .ref q1, .ref q2, .int 0, .int (nI 1), .int 0, .ref q3, .null, .null, .null])), (q1, .inl (cI, 8, .inl (fun _ : Nat => (0 : Int32)))), (q2, .inl (cI, 32, .inl (fun _ : Nat => (0 : Int32)))), (q3, .inl (cI, 16, .inl (fun _ : Nat => (0 : Int32)))), (q4, .inl (cB, 4096, .inl (fun _ : Nat => (0 : Int32))))] H := hP
  have hD : va_D (zg_N h0 s.heap.size) [(h0, .inr (1, [.int 0, .int 0, .ref q1, .ref q2, .int 0, .int (nI 1), .int 0, .ref q3, .null, .null, .null])), (q1, .inl (cI, 8, .inl (fun _ : Nat => (0 : Int32)))), (q2, .inl (cI, 32, .inl (fun _ : Nat => (0 : Int32)))), (q3, .inl (cI, 16, .inl (fun _ : Nat => (0 : Int32)))), (q4, .inl (cB, 4096, .inl (fun _ : Nat => (0 : Int32))))] := hD
  refine va_putF (D := (dC, dI)) (ci := 1) (v := .ref q4) (ty := .array .byte) (C := RM) (T := TM) (N := 11) hx hb hz in_M tyM tyM_ok nmM hown hK hP hD hS 0 rfl rfl 8 (by decide) (hz _ kf_M_23) (fun _ h9 => h9) rfl hin rfl (by decide +kernel) rfl rfl (Nat.le_of_ble_eq_true rfl) dM_init_39 (fun H locs hP hD hS => ?_)
  have hP : va_P (dC, dI) zcl [(h0, .inr (1, [.int 0, .int 0, .ref q1, .ref q2, .int 0, .int (nI 1), .int 0, .ref q3, .ref q4, .null, .null])), (q1, .inl (cI, 8, .inl (fun _ : Nat => (0 : Int32)))), (q2, .inl (cI, 32, .inl (fun _ : Nat => (0 : Int32)))), (q3, .inl (cI, 16, .inl (fun _ : Nat => (0 : Int32)))), (q4, .inl (cB, 4096, .inl (fun _ : Nat => (0 : Int32))))] H := hP
  have hD : va_D (zg_N h0 s.heap.size) [(h0, .inr (1, [.int 0, .int 0, .ref q1, .ref q2, .int 0, .int (nI 1), .int 0, .ref q3, .ref q4, .null, .null])), (q1, .inl (cI, 8, .inl (fun _ : Nat => (0 : Int32)))), (q2, .inl (cI, 32, .inl (fun _ : Nat => (0 : Int32)))), (q3, .inl (cI, 16, .inl (fun _ : Nat => (0 : Int32)))), (q4, .inl (cB, 4096, .inl (fun _ : Nat => (0 : Int32))))] := hD
  refine lv_aload_n hx hb dM_init_42 rfl (lv_at hl 0 rfl) ?_
  refine lv_sipush (v := nI 512) hx hb dM_init_43 (by decide) ?_
  refine va_newa (atype := .long) (ty := .long) (N' := 512) (a0 := (512, .inr (.inl (fun _ : Nat => (0 : Int64))))) hx hb (hz _ ka_long) rfl hK hP hD hS hA (fun _ => rfl) (by decide) (by decide) (Nat.le_of_ble_eq_true rfl) (Nat.le_of_ble_eq_true rfl) (Nat.le_of_ble_eq_true rfl) dM_init_46 (fun q5 cA H hK9 hP hD hS => ?_)
  have hc9 : cA = cJ := zg_cA hK9 3 1 rfl rfl (by simp)
  rw [hc9] at hP hD
  clear hK9 hc9
  have hP : va_P (dC, dI) zcl [(h0, .inr (1, [.int 0, .int 0, .ref q1, .ref q2, .int 0, .int (nI 1), .int 0, .ref q3, .ref q4, .null, .null])), (q1, .inl (cI, 8, .inl (fun _ : Nat => (0 : Int32)))), (q2, .inl (cI, 32, .inl (fun _ : Nat => (0 : Int32)))), (q3, .inl (cI, 16, .inl (fun _ : Nat => (0 : Int32)))), (q4, .inl (cB, 4096, .inl (fun _ : Nat => (0 : Int32)))), (q5, .inl (cJ, 512, .inr (.inl (fun _ : Nat => (0 : Int64)))))] H := hP
  have hD : va_D (zg_N h0 s.heap.size) [(h0, .inr (1, [.int 0, .int 0, .ref q1, .ref q2, .int 0, .int (nI 1), .int 0, .ref q3, .ref q4, .null, .null])), (q1, .inl (cI, 8, .inl (fun _ : Nat => (0 : Int32)))), (q2, .inl (cI, 32, .inl (fun _ : Nat => (0 : Int32)))), (q3, .inl (cI, 16, .inl (fun _ : Nat => (0 : Int32)))), (q4, .inl (cB, 4096, .inl (fun _ : Nat => (0 : Int32)))), (q5, .inl (cJ, 512, .inr (.inl (fun _ : Nat => (0 : Int64)))))] := hD
  refine va_putF (D := (dC, dI)) (ci := 1) (v := .ref q5) (ty := .array .long) (C := RM) (T := TM) (N := 11) hx hb hz in_M tyM tyM_ok nmM hown hK hP hD hS 0 rfl rfl 9 (by decide) (hz _ kf_M_27) (fun _ h9 => h9) rfl hin rfl (by decide +kernel) rfl rfl (Nat.le_of_ble_eq_true rfl) dM_init_48 (fun H locs hP hD hS => ?_)
  have hP : va_P (dC, dI) zcl [(h0, .inr (1, [.int 0, .int 0, .ref q1, .ref q2, .int 0, .int (nI 1), .int 0, .ref q3, .ref q4, .ref q5, .null])), (q1, .inl (cI, 8, .inl (fun _ : Nat => (0 : Int32)))), (q2, .inl (cI, 32, .inl (fun _ : Nat => (0 : Int32)))), (q3, .inl (cI, 16, .inl (fun _ : Nat => (0 : Int32)))), (q4, .inl (cB, 4096, .inl (fun _ : Nat => (0 : Int32)))), (q5, .inl (cJ, 512, .inr (.inl (fun _ : Nat => (0 : Int64)))))] H := hP
  have hD : va_D (zg_N h0 s.heap.size) [(h0, .inr (1, [.int 0, .int 0, .ref q1, .ref q2, .int 0, .int (nI 1), .int 0, .ref q3, .ref q4, .ref q5, .null])), (q1, .inl (cI, 8, .inl (fun _ : Nat => (0 : Int32)))), (q2, .inl (cI, 32, .inl (fun _ : Nat => (0 : Int32)))), (q3, .inl (cI, 16, .inl (fun _ : Nat => (0 : Int32)))), (q4, .inl (cB, 4096, .inl (fun _ : Nat => (0 : Int32)))), (q5, .inl (cJ, 512, .inr (.inl (fun _ : Nat => (0 : Int64)))))] := hD
  refine lv_aload_n hx hb dM_init_51 rfl (lv_at hl 0 rfl) ?_
  refine lv_sipush (v := nI 512) hx hb dM_init_52 (by decide) ?_
  refine va_newa (atype := .long) (ty := .long) (N' := 512) (a0 := (512, .inr (.inl (fun _ : Nat => (0 : Int64))))) hx hb (hz _ ka_long) rfl hK hP hD hS hA (fun _ => rfl) (by decide) (by decide) (Nat.le_of_ble_eq_true rfl) (Nat.le_of_ble_eq_true rfl) (Nat.le_of_ble_eq_true rfl) dM_init_55 (fun q6 cA H hK9 hP hD hS => ?_)
  have hc9 : cA = cJ := zg_cA hK9 3 1 rfl rfl (by simp)
  rw [hc9] at hP hD
  clear hK9 hc9
  have hP : va_P (dC, dI) zcl [(h0, .inr (1, [.int 0, .int 0, .ref q1, .ref q2, .int 0, .int (nI 1), .int 0, .ref q3, .ref q4, .ref q5, .null])), (q1, .inl (cI, 8, .inl (fun _ : Nat => (0 : Int32)))), (q2, .inl (cI, 32, .inl (fun _ : Nat => (0 : Int32)))), (q3, .inl (cI, 16, .inl (fun _ : Nat => (0 : Int32)))), (q4, .inl (cB, 4096, .inl (fun _ : Nat => (0 : Int32)))), (q5, .inl (cJ, 512, .inr (.inl (fun _ : Nat => (0 : Int64))))), (q6, .inl (cJ, 512, .inr (.inl (fun _ : Nat => (0 : Int64)))))] H := hP
  have hD : va_D (zg_N h0 s.heap.size) [(h0, .inr (1, [.int 0, .int 0, .ref q1, .ref q2, .int 0, .int (nI 1), .int 0, .ref q3, .ref q4, .ref q5, .null])), (q1, .inl (cI, 8, .inl (fun _ : Nat => (0 : Int32)))), (q2, .inl (cI, 32, .inl (fun _ : Nat => (0 : Int32)))), (q3, .inl (cI, 16, .inl (fun _ : Nat => (0 : Int32)))), (q4, .inl (cB, 4096, .inl (fun _ : Nat => (0 : Int32)))), (q5, .inl (cJ, 512, .inr (.inl (fun _ : Nat => (0 : Int64))))), (q6, .inl (cJ, 512, .inr (.inl (fun _ : Nat => (0 : Int64)))))] := hD
  refine va_putF (D := (dC, dI)) (ci := 1) (v := .ref q6) (ty := .array .long) (C := RM) (T := TM) (N := 11) hx hb hz in_M tyM tyM_ok nmM hown hK hP hD hS 0 rfl rfl 10 (by decide) (hz _ kf_M_31) (fun _ h9 => h9) rfl hin rfl (by decide +kernel) rfl rfl (Nat.le_of_ble_eq_true rfl) dM_init_57 (fun H locs hP hD hS => ?_)
  have hP : va_P (dC, dI) zcl [(h0, .inr (1, [.int 0, .int 0, .ref q1, .ref q2, .int 0, .int (nI 1), .int 0, .ref q3, .ref q4, .ref q5, .ref q6])), (q1, .inl (cI, 8, .inl (fun _ : Nat => (0 : Int32)))), (q2, .inl (cI, 32, .inl (fun _ : Nat => (0 : Int32)))), (q3, .inl (cI, 16, .inl (fun _ : Nat => (0 : Int32)))), (q4, .inl (cB, 4096, .inl (fun _ : Nat => (0 : Int32)))), (q5, .inl (cJ, 512, .inr (.inl (fun _ : Nat => (0 : Int64))))), (q6, .inl (cJ, 512, .inr (.inl (fun _ : Nat => (0 : Int64)))))] H := hP
  have hD : va_D (zg_N h0 s.heap.size) [(h0, .inr (1, [.int 0, .int 0, .ref q1, .ref q2, .int 0, .int (nI 1), .int 0, .ref q3, .ref q4, .ref q5, .ref q6])), (q1, .inl (cI, 8, .inl (fun _ : Nat => (0 : Int32)))), (q2, .inl (cI, 32, .inl (fun _ : Nat => (0 : Int32)))), (q3, .inl (cI, 16, .inl (fun _ : Nat => (0 : Int32)))), (q4, .inl (cB, 4096, .inl (fun _ : Nat => (0 : Int32)))), (q5, .inl (cJ, 512, .inr (.inl (fun _ : Nat => (0 : Int64))))), (q6, .inl (cJ, 512, .inr (.inl (fun _ : Nat => (0 : Int64)))))] := hD
  refine zt_rv hx hb hr hlocks (fun t ht _ => ⟨(fun i => match i with | 0 => h0 | 1 => q1 | 2 => q2 | 3 => q3 | 4 => q4 | 5 => q5 | _ => q6), rfl, zg_fresh_of hD rfl rfl (fun i hi => ?_), by rw [ht]; exact hP, hS.F ht⟩) hS.2.2 dM_init_60
  rcases (show i = 0 ∨ i = 1 ∨ i = 2 ∨ i = 3 ∨ i = 4 ∨ i = 5 ∨ i = 6 by omega) with rfl | rfl | rfl | rfl | rfl | rfl | rfl
  · exact ⟨_, rfl⟩
  · exact ⟨_, rfl⟩
  · exact ⟨_, rfl⟩
  · exact ⟨_, rfl⟩
  · exact ⟨_, rfl⟩
  · exact ⟨_, rfl⟩
  · exact ⟨_, rfl⟩
end
section
/-! what the law's helpers stand on: a call of the chooser that returns or throws, the handlers -/
section ZC
variable {p : Program} {l : Launch} {e : Env} {R : Room} {s : State} {m : MethodId} {args : Array Value} {below : List Frame} {meth : Method} {c : Code} {H : Heap} {locs : List Loc} {cells slots : Nat} {Q : State → Prop}
variable {pc : Nat} {ls : Array Slot} {rest : List Value} {x : Addr}
/-- a thrown cell of the class named E -/
def zt_Is (E : String) (x : Addr) (s : State) (H : Heap) : Prop := ∃ ce : Cell, H[x]? = some ce ∧ s.vm.findClass E = some ce.cls ∧ ce.vm = .none
/-- the first handler takes it -/
theorem zt_catch1 {own E : String} {a0 b0 hp ct : Nat} {more : List (Nat × Nat × Nat × Nat)} (htab : c.exceptionTable.toList.map (fun h => (h.startPc, h.endPc, h.handlerPc, h.catchType)) = (a0, b0, hp, ct) :: more) (h1 : a0 ≤ pc) (h2 : pc < b0) (h0 : ct ≠ 0)
    (hown : s.vm.findClass own = some m.cls) (hlink : (Cond.classLink own ct E).before args s = true) (hins : (Cond.instantiable E 6).before args s = true) (hcast : (Cond.castable E E).before args s = true) (hX : zt_Is E x s H)
    (k : W p l e R s m args below meth c H locs cells slots Q (F0 m hp ls [.ref x])) : zt_X p l e R s m args below meth c H locs cells slots Q (F0 m pc ls rest) x := by
  obtain ⟨ce, hce, hfc, hvm⟩ := hX
  obtain ⟨cE, kE, hfE, hkE, -, -⟩ := Cond.instantiable_spec hins
  cases hfc.symm.trans hfE
  obtain ⟨c1, c2, g1, g2, g3⟩ := Cond.castable_spec hcast
  cases hfc.symm.trans g1
  cases hfc.symm.trans g2
  intro T hT X
  obtain ⟨cl, q1, q2, q3⟩ := zt_link X hown hlink
  cases hfc.symm.trans q1
  obtain ⟨t, a1, b1⟩ := k (T.setVm (T.vm.noted m.cls ct (.cls ce.cls))) hT (X.noted q3)
  refine ⟨t, ?_, b1⟩
  obtain ⟨k2, hk2, -⟩ := q3.alike.2.2 _ _ hkE
  cases hl : c.exceptionTable.toList with
  | nil => rw [hl] at htab; cases htab
  | cons y ys =>
    rw [hl] at htab
    simp only [List.map_cons, List.cons.injEq, Prod.mk.injEq] at htab
    obtain ⟨⟨e1, e2, e3, e4⟩, -⟩ := htab
    refine zt_caught (g := F0 m pc ls rest) (pc := hp) (vm' := T.vm.noted m.cls ct (.cls ce.cls)) X.here (fun Q E d acts => ?_) a1
    rw [Jvm.W.findHandler_eq (s := (T.setTop (F0 m pc ls rest)).pushFrame (.throwing x)) (f := F0 m pc ls rest) (meth := meth) (code := c) X.method' X.code, hl]
    rw [zt_go_cold (f := F0 m pc ls rest) (u := (T.setTop (F0 m pc ls rest)).pushFrame (.throwing x)) (cl := ce.cls) (cell := ce) (vm' := T.vm.noted m.cls ct (.cls ce.cls)) (by simp only [covers, e1, e2, Bool.and_eq_true, decide_eq_true_eq]; exact ⟨h1, h2⟩) (by rw [e4]; exact h0) (by rw [e4]; exact q2) (by rw [Vm.size_noted]; exact Nat.le_refl _) (by rw [← hT] at hce; exact hce) (fun k h => by rw [hvm] at h; cases h) ⟨k2, hk2⟩ ⟨k2, hk2⟩]
    rw [if_pos (by rw [q3.alike.assignable]; exact g3), e3]
/-- the second does: the first is of another class -/
theorem zt_catch2 {own E E1 : String} {a0 b0 hp ct a2 b2 hp2 ct2 : Nat} {more : List (Nat × Nat × Nat × Nat)} (htab : c.exceptionTable.toList.map (fun h => (h.startPc, h.endPc, h.handlerPc, h.catchType)) = (a2, b2, hp2, ct2) :: (a0, b0, hp, ct) :: more) (h1 : a0 ≤ pc) (h2 : pc < b0) (h0 : ct ≠ 0) (h3 : a2 ≤ pc) (h4 : pc < b2) (h5 : ct2 ≠ 0)
    (hown : s.vm.findClass own = some m.cls) (hlink : (Cond.classLink own ct E).before args s = true) (hlink1 : (Cond.classLink own ct2 E1).before args s = true) (hins : (Cond.instantiable E 6).before args s = true) (hins1 : (Cond.instantiable E1 6).before args s = true) (hcast : (Cond.castable E E).before args s = true) (hno : va_Nc E E1 s) (hX : zt_Is E x s H)
    (k : W p l e R s m args below meth c H locs cells slots Q (F0 m hp ls [.ref x])) : zt_X p l e R s m args below meth c H locs cells slots Q (F0 m pc ls rest) x := by
  obtain ⟨ce, hce, hfc, hvm⟩ := hX
  obtain ⟨cE, kE, hfE, hkE, -, -⟩ := Cond.instantiable_spec hins
  cases hfc.symm.trans hfE
  obtain ⟨cF, kF, hfF, hkF, -, -⟩ := Cond.instantiable_spec hins1
  obtain ⟨c1, c2, g1, g2, g3⟩ := Cond.castable_spec hcast
  cases hfc.symm.trans g1
  cases hfc.symm.trans g2
  obtain ⟨n1, n2, f1, f2, f3⟩ := hno
  cases hfc.symm.trans f1
  cases hfF.symm.trans f2
  intro T hT X
  obtain ⟨cl1, p1, p2, p3⟩ := zt_link X hown hlink1
  cases hfF.symm.trans p1
  have X1 := X.noted p3
  obtain ⟨cl, q1, q2, q3⟩ := zt_link X1 hown hlink
  cases hfc.symm.trans q1
  obtain ⟨t, a1, b1⟩ := k (T.setVm ((T.vm.noted m.cls ct2 (.cls cF)).noted m.cls ct (.cls ce.cls))) hT (X1.noted q3)
  refine ⟨t, ?_, b1⟩
  obtain ⟨k2, hk2, -⟩ := q3.alike.2.2 _ _ hkE
  obtain ⟨k3, hk3, -⟩ := p3.alike.2.2 _ _ hkE
  obtain ⟨k4, hk4, -⟩ := p3.alike.2.2 _ _ hkF
  cases hl : c.exceptionTable.toList with
  | nil => rw [hl] at htab; cases htab
  | cons y ys =>
    rw [hl] at htab
    simp only [List.map_cons, List.cons.injEq, Prod.mk.injEq] at htab
    obtain ⟨⟨d1, d2, d3, d4⟩, htab⟩ := htab
    cases ys with
    | nil => cases htab
    | cons z zs =>
      simp only [List.map_cons, List.cons.injEq, Prod.mk.injEq] at htab
      obtain ⟨⟨e1, e2, e3, e4⟩, -⟩ := htab
      refine zt_caught (g := F0 m pc ls rest) (pc := hp) (vm' := (T.vm.noted m.cls ct2 (.cls cF)).noted m.cls ct (.cls ce.cls)) X.here (fun Q E d acts => ?_) a1
      rw [Jvm.W.findHandler_eq (s := (T.setTop (F0 m pc ls rest)).pushFrame (.throwing x)) (f := F0 m pc ls rest) (meth := meth) (code := c) X.method' X.code, hl]
      rw [zt_go_cold (f := F0 m pc ls rest) (u := (T.setTop (F0 m pc ls rest)).pushFrame (.throwing x)) (cl := cF) (cell := ce) (vm' := T.vm.noted m.cls ct2 (.cls cF)) (by simp only [covers, d1, d2, Bool.and_eq_true, decide_eq_true_eq]; exact ⟨h3, h4⟩) (by rw [d4]; exact h5) (by rw [d4]; exact p2) (by rw [Vm.size_noted]; exact Nat.le_refl _) (by rw [← hT] at hce; exact hce) (fun k h => by rw [hvm] at h; cases h) ⟨k3, hk3⟩ ⟨k4, hk4⟩]
      rw [if_neg (by rw [p3.alike.assignable, f3]; exact Bool.false_ne_true)]
      rw [zt_go_cold (f := F0 m pc ls rest) (u := ((T.setTop (F0 m pc ls rest)).pushFrame (.throwing x)).setVm (T.vm.noted m.cls ct2 (.cls cF))) (cl := ce.cls) (cell := ce) (vm' := (T.vm.noted m.cls ct2 (.cls cF)).noted m.cls ct (.cls ce.cls)) (by simp only [covers, e1, e2, Bool.and_eq_true, decide_eq_true_eq]; exact ⟨h1, h2⟩) (by rw [e4]; exact h0) (by rw [e4]; exact q2) (by rw [Vm.size_noted]; exact Nat.le_refl _) (by rw [← hT] at hce; exact hce) (fun k h => by rw [hvm] at h; cases h) ⟨k2, hk2⟩ ⟨k2, hk2⟩]
      rw [if_pos (show ((T.vm.noted m.cls ct2 (.cls cF)).noted m.cls ct (.cls ce.cls)).assignable ce.cls ce.cls = true from Eq.trans (q3.alike.assignable _ _) g3), e3]
      rfl
end ZC
/-! the chooser's world and the answer's cell -/
abbrev zo_w (ad : Nat → Nat) (cJ : ClassId) (f : Nat → Int64) : va_W := [(ad 6, .inl (cJ, 1, .inr (.inl f)))]
theorem zh_D {ad : Nat → Nat} {cI cJ : ClassId} {lev val pkd chs : Nat → Int32} {cst f : Nat → Int64} {D N F k sz : Nat} (had : zg_ap ad 7) : va_D (zg_A ad 7 sz) (zx_w ad cI cJ lev val pkd cst chs D N F k ++ zo_w ad cJ f) := by
  have key : ∀ (i : Nat) (q : Nat × va_E), (zx_w ad cI cJ lev val pkd cst chs D N F k ++ zo_w ad cJ f)[i]? = some q → i < 7 ∧ q.1 = ad i := by
    intro i q h
    match i, h with
    | 0, h => cases h; exact ⟨by decide, rfl⟩
    | 1, h => cases h; exact ⟨by decide, rfl⟩
    | 2, h => cases h; exact ⟨by decide, rfl⟩
    | 3, h => cases h; exact ⟨by decide, rfl⟩
    | 4, h => cases h; exact ⟨by decide, rfl⟩
    | 5, h => cases h; exact ⟨by decide, rfl⟩
    | 6, h => cases h; exact ⟨by decide, rfl⟩
    | i + 7, h => simp at h
  refine ⟨fun i j p q hi hj e => ?_, fun i q hi => ?_⟩
  · obtain ⟨h1, h2⟩ := key i p hi
    obtain ⟨h3, h4⟩ := key j q hj
    exact had i j h1 h3 (by rw [← h2, ← h4]; exact e)
  · obtain ⟨h1, h2⟩ := key i q hi
    exact Or.inl ⟨i, h1, h2⟩
theorem zg_ap6 {ad : Nat → Nat} (h : zg_ap ad 7) : zg_ap ad 6 := fun i j hi hj e => h i j (by omega) (by omega) e
theorem zg_A67 {ad : Nat → Nat} {sz q : Nat} (h : zg_A ad 6 sz q) : zg_A ad 7 sz q := h.elim (fun ⟨i, hi, e⟩ => Or.inl ⟨i, by omega, e⟩) Or.inr
theorem zg_not6 {ad : Nat → Nat} {sz : Nat} (had : zg_ap ad 7) (h : ad 6 < sz) : ¬ zg_A ad 6 sz (ad 6) := fun q => by
  rcases q with ⟨i, hi, e⟩ | q
  · have := had 6 i (by omega) (by omega) e
    omega
  · omega
/-- a helper's start -/
def zg_V (dC : Nat → ClassId) (dI : Nat → Nat → Nat) (cI cJ cB : ClassId) (w : va_W) (sz : Nat) (U : State) : Prop := zg_U dC dI cI cJ cB w sz U ∧ va_Nc zE_S zE_A U
theorem zg_V_blind {dC : Nat → ClassId} {dI : Nat → Nat → Nat} {cI cJ cB : ClassId} {w : va_W} {sz : Nat} {av : List Value} : FrameBlind (va_Pc av (zg_V dC dI cI cJ cB w sz)) :=
  fun a U g mk q => ⟨q.1, (zg_U_blind a U g mk ⟨q.1, q.2.1⟩).2, va_Nc.moved (u := U) (U := U.calling g mk a) (Vm.Alike.refl U.vm) q.2.2⟩
/-- a helper's end: its number; where it is 0 what is new, else all as it was -/
def zg_H {S : Type} (dC : Nat → ClassId) (dI : Nat → Nat → Nat) (cd : Nat) (post : S → Prop) (w0 : va_W) (w : S → va_W) (A : Nat → Prop) : Array Value → State → Outcome → State → Prop := fun _ st o t =>
  (cd = 0 ∧ ∃ u : S, o = .returned (some (.int (nI 0))) ∧ post u ∧ va_P (dC, dI) zcl (w u) t.heap ∧ va_F A st t) ∨ (cd ≠ 0 ∧ o = .returned (some (.int (nI cd))) ∧ va_P (dC, dI) zcl w0 t.heap ∧ va_F A st t)
section ZH
variable {p : Program} {l : Launch} {e : Env} {R : Room} {s : State} {m : MethodId} {args : Array Value} {below : List Frame} {meth : Method} {c : Code} {H : Heap} {locs : List Loc} {cells slots : Nat} {Q : State → Prop}
variable {cc : ByteArray} {pc : Nat} {ls : Array Slot} {rest st0 : List Value} {kr nr kt nt : Nat} {free free' : Addr → Prop} {Qa Qa' : State → Outcome → State → Prop} {g : JFrame}
theorem zt_Run_mono (h : ∀ st o t, st.heap = H → Qa st o t → Qa' st o t) (hf : ∀ q, free q → free' q) (hr : zt_Run p l e R s m args below meth c H locs cells slots kr nr kt nt g rest Qa free) : zt_Run p l e R s m args below meth c H locs cells slots kr nr kt nt g rest Qa' free' := by
  intro T hT X
  obtain ⟨o, st, t, T', L, h1, h2, h3, h4, h5, h6, h7, h8, h9⟩ := hr T hT X
  exact ⟨o, st, t, T', L, h1, h2, h3, fun q hq => hf _ (h4 q hq), h5, h6, h _ _ _ h1 h7, h8, h9⟩
/-- an instance call of a writer that may throw, from an unchanged heap -/
theorem zg_runU {dC : Nat → ClassId} {dI : Nat → Nat → Nat} {cI cJ cB : ClassId} {w : va_W} {y : MethodName} {bytes : ByteArray} {maxL nL n index ci b q0 : Nat} {q : vw_C} {fs : List Value} {ret : Option FieldType} {ws : List Cond} {rm : Room} {Qc : Array Value → State → Outcome → State → Prop} {own : String} {As : List Value}
    (hexec : p.tables.exec = Jvm.exec) (hb : c.code = cc) (hml : c.maxLocals = nL) (hown : s.vm.findClass own = some m.cls)
    (hM : zt_Met l y ws rm (va_Pc (.ref b :: As) (zg_U dC dI cI cJ cB w s.heap.size)) Qc kr nr kt nt free) (cw : zt_Cw R s args own index y maxL ws rm n) (hinst : (Cond.instanceMethod y).before args s = true) (hsel : (Cond.selects q.1 y y).before args s = true) (hcode : (Cond.code y bytes maxL ret).before args s = true)
    (hP : va_P (dC, dI) zcl w s.heap) (hK : va_K (dC, dI) zcl (zg_T cI cJ cB) s) (hT : zt_TS s) (hq : zcl[ci]? = some q) (he : w[q0]? = some (b, .inr (ci, fs))) (hn : As.length = n) (hsize : ls.size = nL) (hst : st0 = As.reverse ++ .ref b :: rest) (hW : (rest.map fun v => v.category).sum ≤ 8) (hdg : decode cc pc = .ok (.invokevirtual index, 3)) (hf : cells + rm.cells ≤ R.cells ∧ slots + rm.slots ≤ R.slots) :
    zt_Run p l e R s m args below meth c s.heap locs cells slots kr nr kt nt (F0 m pc ls st0) rest (Qc (Value.ref b :: As).toArray) free :=
  zt_runV hexec hb hml hown hM cw hinst hsel hcode ⟨zg_U_blind, va_recv hK hP hq he, fun U hU hW => ⟨rfl, by rw [hU], by rw [hU]; exact hP, va_K.moved hW.alike hK, zt_TS_to hT hW (fun q _ => by rw [hU])⟩⟩ rfl hn hsize hst (lv_room hW) hdg hf
/-- a reader's answer in a writer's words -/
theorem zt_Qp_X {dC : Nat → ClassId} {dI : Nat → Nat → Nat} {ok : Prop} {cd : Nat} {r : Option Value} {a : Array Value} {w : va_W} {A : Nat → Prop} (h0 : ok → cd = 0) (h1 : ¬ ok → cd = 1) (hP : va_P (dC, dI) zcl w H) (st t : State) (o : Outcome) (hH : st.heap = H) (h : zt_Qp ok r zE_A a st o t) : zg_X dC dI cd (fun _ : Unit => r) (fun _ => True) (fun _ => w) A a st o t := by
  rcases h with ⟨hok, ho, hh⟩ | ⟨hno, x, hx, hTh⟩
  · exact Or.inl ⟨h0 hok, (), ho, trivial, by rw [hh, hH]; exact hP, by rw [hh]; exact Nat.le_refl _, fun q _ _ => by rw [hh]⟩
  · exact Or.inr (Or.inl ⟨h1 hno, x, hx, hTh⟩)
/-- behind the chooser's call: it has returned, or one of two classes is being thrown -/
theorem zh_call {S : Type} {dC : Nat → ClassId} {dI : Nat → Nat → Nat} {cJ : ClassId} {ad : Nat → Nat} {cd : Nat} {r : S → Option Value} {post : S → Prop} {w0 : va_W} {w : S → va_W} {f : Nat → Int64} {a : Array Value} (had : zg_ap ad 7)
    (hr : zt_Run p l e R s m args below meth c s.heap [] 0 0 0 0 1 6 (F0 m pc ls st0) rest (zg_X dC dI cd r post w (zg_A ad 6 s.heap.size) a) (zg_A ad 6 s.heap.size)) (hP : va_P (dC, dI) zcl (w0 ++ zo_w ad cJ f) s.heap) (hP6 : va_P (dC, dI) zcl (zo_w ad cJ f) s.heap)
    (k0 : cd = 0 → ∀ (u : S) (H : Heap) (locs : List Loc), post u → va_P (dC, dI) zcl (w u ++ zo_w ad cJ f) H → va_S (zg_A ad 7 s.heap.size) s.heap H locs → W p l e R s m args below meth c H locs 0 0 Q (F0 m (pc + 3) ls ((r u).toList ++ rest)))
    (k1 : cd = 1 → ∀ (x : Addr) (H : Heap) (locs : List Loc), zt_Is zE_A x s H → va_P (dC, dI) zcl (w0 ++ zo_w ad cJ f) H → va_S (zg_A ad 7 s.heap.size) s.heap H locs → zt_X p l e R s m args below meth c H locs 1 6 Q (F0 m pc ls rest) x)
    (k2 : cd = 2 → ∀ (x : Addr) (H : Heap) (locs : List Loc), zt_Is zE_S x s H → va_P (dC, dI) zcl (w0 ++ zo_w ad cJ f) H → va_S (zg_A ad 7 s.heap.size) s.heap H locs → zt_X p l e R s m args below meth c H locs 1 6 Q (F0 m pc ls rest) x) :
    W p l e R s m args below meth c s.heap [] 0 0 Q (F0 m pc ls st0) := by
  have h6 : ad 6 < s.heap.size := (hP6 0 _ rfl).lt
  have hth : ∀ (E : String) (x : Addr) (st t : State) (L : List Loc), st.heap = s.heap → s.WarmedH st.vm → (∀ q ∈ L, zg_A ad 6 s.heap.size q.base) → zt_Th E x st t → zt_Is E x s t.heap ∧ va_P (dC, dI) zcl (w0 ++ zo_w ad cJ f) t.heap ∧ va_S (zg_A ad 7 s.heap.size) s.heap t.heap L := by
    intro E x st t L h0 hW hL hTh
    obtain ⟨b1, b2, b3, ce, b4, b5, b6⟩ := hTh
    rw [h0] at b2 b3
    refine ⟨⟨ce, b4, by rw [← hW.alike.findClass]; exact b5, b6⟩, hP.kept (fun k q hk => b3 _ (hP k q hk).lt), b2, fun q h1 _ => b3 q h1, fun q hq => zg_A67 (hL q hq)⟩
  refine zt_call hr (fun v st t L h0 hW0 hWt hL hq => ?_) (fun x st t L h0 hW0 hWt hL hq => ?_)
  · rcases hq with ⟨hcd, u, hv, hp, hPu, hz, hk⟩ | ⟨_, x, hx, _⟩ | ⟨_, x, hx, _⟩
    · cases hv
      rw [h0] at hz hk
      refine k0 hcd u t.heap ([] ++ L) hp (hPu.app (hP6.kept (fun k q hkq => ?_))) ⟨hz, fun q h1 h2 => hk q h1 (fun z => h2 (zg_A67 z)), fun q hq => zg_A67 (hL q hq)⟩
      have hz1 : k < 1 := (List.getElem?_eq_some_iff.mp hkq).1
      rw [show k = 0 by omega] at hkq
      cases hkq
      exact hk _ h6 (zg_not6 had h6)
    · cases hx
    · cases hx
  · rcases hq with ⟨_, u, hv, _⟩ | ⟨hcd, x', hx, hTh⟩ | ⟨hcd, x', hx, hTh⟩
    · cases hv
    · cases hx
      obtain ⟨q1, q2, q3⟩ := hth _ _ _ _ _ h0 hW0 hL hTh
      exact k1 hcd x t.heap ([] ++ L) q1 q2 q3
    · cases hx
      obtain ⟨q1, q2, q3⟩ := hth _ _ _ _ _ h0 hW0 hL hTh
      exact k2 hcd x t.heap ([] ++ L) q1 q2 q3
end ZH
end
section
/-! the law's ten helpers: by program (wip/gen/helpers.py) -/
theorem zt_Qp_X_at {H : Heap} {dC : Nat → ClassId} {dI : Nat → Nat → Nat} {ok : Prop} {cd : Nat} {r : Option Value} {a : Array Value} {w : va_W} {A : Nat → Prop} (h0 : ok → cd = 0) (h1 : ¬ ok → cd = 1) (hP : va_P (dC, dI) zcl w H) : ∀ (st : State) (o : Outcome) (t : State), st.heap = H → zt_Qp ok r zE_A a st o t → zg_X dC dI cd (fun _ : Unit => r) (fun _ => True) (fun _ => w) A a st o t := fun st o t hH h => zt_Qp_X h0 h1 hP st t o hH h
set_option maxHeartbeats 4000000 in
set_option maxRecDepth 100000 in
/-- the helper dimension -/
theorem tL_dimension (l : Launch) {dC : Nat → ClassId} {dI : Nat → Nat → Nat} {cI cJ cB : ClassId} {ad : Nat → Nat} {lev val pkd : Nat → Int32} {cst : Nat → Int64} {chs : Nat → Int32} {D N F k : Nat} {L V : Nat → Nat} {p0 : Int32} {f : Nat → Int64} {sz : Nat} (had : zg_ap ad 7) (hst : l.stackTraces = false) (hR : zx_R D N F L V lev val pkd) : zt_Met l yL_dimension wL_dimension rL_dimension (va_Pc [.ref (ad 0), .int p0, .ref (ad 6)] (zg_V dC dI cI cJ cB (zx_w ad cI cJ lev val pkd cst chs D N F k ++ zo_w ad cJ f) sz)) (zg_H dC dI (zc_dim (zn p0) D N) (fun u : (Nat → Int32) × (Nat → Int64) => (∀ w, w < N * (zn p0 + 1) → u.1 w = nI (zq_pk (zq_up L D (zn p0)) (D + 1) w)) ∧ ∀ j, j < 512 → u.2 j = lN F) (zx_w ad cI cJ lev val pkd cst chs D N F k ++ zo_w ad cJ f) (fun u => (zx_w ad cI cJ (upd lev D (nI (zn p0))) val u.1 u.2 chs (D + 1) (N * (zn p0 + 1)) F 0 ++ zo_w ad cJ (vp_updL f 0 (lN D)))) (zg_A ad 7 sz)) 1 6 0 0 (zg_A ad 7 sz) := by
  refine zt_ofWith (cc := cL_dimension) (maxL := 4) (ret := some .int) (hs := [(0, 9, 12, 13), (0, 9, 15, 15)]) (by decide) rfl ?_
  intro p e s m args below meth c s₁ B hml htab hv
  obtain ⟨rfl, ⟨hsz, hP, hK, hTS⟩, hNc⟩ := hv
  have hx := B.exec
  have hb := B.bytes
  have hr := B.returns
  have hz : ∀ w ∈ zw0, w.before ([.ref (ad 0), .int p0, .ref (ad 6)] : List Value).toArray s = true := fun w h => atoms_spec (ws := wL_dimension) B.pre w (List.mem_cons_of_mem _ h)
  have hown : s.vm.findClass RL = some m.cls := findClass_of_methodNamed B.named
  have hlocks := B.notSynchronized
  subst hsz
  have hPx : va_P (dC, dI) zcl (zx_w ad cI cJ lev val pkd cst chs D N F k) s.heap := hP.sub [0, 1, 2, 3, 4, 5] rfl
  have hP6 : va_P (dC, dI) zcl (zo_w ad cJ f) s.heap := hP.sub [6] rfl
  have hl := lv_entry ([.ref (ad 0), .int p0, .ref (ad 6)]) (n := 4) (Nat.le_of_ble_eq_true rfl)
  rw [lg_entry_eq]
  generalize (lg_sl ([.ref (ad 0), .int p0, .ref (ad 6)]) ++ List.replicate (4 - (lg_sl ([.ref (ad 0), .int p0, .ref (ad 6)])).length) Slot.unset).toArray = ls at hl ⊢
  have hl : lv_has ls 4 [(0, .ref (ad 0)), (1, .int p0), (2, .ref (ad 6))] := hl
  refine lv_aload_n hx hb dL_dimension_0 rfl (lv_at hl 2 rfl) ?_
  refine lv_iconst (v := nI 0) hx hb dL_dimension_1 (by decide) ?_
  refine lv_aload_n hx hb dL_dimension_2 rfl (lv_at hl 0 rfl) ?_
  refine lv_iload_n hx hb dL_dimension_3 rfl (lv_at hl 1 rfl) ?_
  refine zh_call (w0 := zx_w ad cI cJ lev val pkd cst chs D N F k) (f := f) had (zg_runU (rest := [.int (nI 0), .ref (ad 6)]) hx hb hml hown (tX_dimension l (zg_ap6 had) hst hR) (wcL_7 hz (Nat.le_of_ble_eq_true rfl) (Nat.le_of_ble_eq_true rfl)) (hz _ ki_X_dimension) (hz _ ks_X_dimension) (hz _ kC_X_dimension) hPx hK hTS rfl (q0 := 0) rfl rfl hl.1 rfl (Nat.le_of_ble_eq_true rfl) dL_dimension_4 ⟨Nat.le_of_ble_eq_true rfl, Nat.le_of_ble_eq_true rfl⟩) hP hP6 (fun hcd u H locs hu hP hS => ?_) (fun hcd x H locs hX hP hS => ?_) (fun hcd x H locs hX hP hS => ?_)
  · refine W.eq (g2 := F0 m 7 ls [.int (nI D), .int (nI 0), .ref (ad 6)]) rfl ?_
    refine lv_i2l (v := lN D) hx hb dL_dimension_7 (nI_l (by have := hR.1; omega)) ?_
    refine zt_last hx hb hK hP (zh_D had) hS 6 1 rfl rfl (i := 0) (by decide) (by decide) dL_dimension_8 (fun H locs hP _ hS => ?_)
    have hP : va_P (dC, dI) zcl (zx_w ad cI cJ (upd lev D (nI (zn p0))) val u.1 u.2 chs (D + 1) (N * (zn p0 + 1)) F 0 ++ zo_w ad cJ (vp_updL f 0 (lN D))) H := hP
    refine lv_goto (tgt := 18) hx hb dL_dimension_9 (by decide) ?_
    refine lv_iconst (v := nI 0) hx hb dL_dimension_18 (by decide) ?_
    refine W.widen (k := 1) (n := 6) (by omega) (by omega) ?_
    exact zt_ri hx hb hr hlocks (fun t ht _ => Or.inl ⟨hcd, u, rfl, hu, by rw [ht]; exact hP, hS.F ht⟩) hS.2.2 dL_dimension_19
  · refine zt_catch1 htab (by decide) (by decide) (by decide) hown (hz _ kc_L_13) (hz _ kt_IllegalArgumentException) (hz _ kcast_IllegalArgumentException_IllegalArgumentException) hX ?_
    refine lv_astore_n (lv' := [(3, .ref x), (0, .ref (ad 0)), (1, .int p0), (2, .ref (ad 6))]) hx hb dL_dimension_12 rfl hl (by decide) rfl (fun ls hl => ?_)
    refine lv_iconst (v := nI 1) hx hb dL_dimension_13 (by decide) ?_
    exact zt_ri hx hb hr hlocks (fun t ht _ => Or.inr ⟨by rw [hcd]; decide, by rw [hcd], by rw [ht]; exact hP, hS.F ht⟩) hS.2.2 dL_dimension_14
  · refine zt_catch2 htab (by decide) (by decide) (by decide) (by decide) (by decide) (by decide) hown (hz _ kc_L_15) (hz _ kc_L_13) (hz _ kt_IllegalStateException) (hz _ kt_IllegalArgumentException) (hz _ kcast_IllegalStateException_IllegalStateException) hNc hX ?_
    refine lv_astore_n (lv' := [(3, .ref x), (0, .ref (ad 0)), (1, .int p0), (2, .ref (ad 6))]) hx hb dL_dimension_15 rfl hl (by decide) rfl (fun ls hl => ?_)
    refine lv_iconst (v := nI 2) hx hb dL_dimension_16 (by decide) ?_
    exact zt_ri hx hb hr hlocks (fun t ht _ => Or.inr ⟨by rw [hcd]; decide, by rw [hcd], by rw [ht]; exact hP, hS.F ht⟩) hS.2.2 dL_dimension_17
set_option maxHeartbeats 4000000 in
set_option maxRecDepth 100000 in
/-- the helper values -/
theorem tL_values (l : Launch) {dC : Nat → ClassId} {dI : Nat → Nat → Nat} {cI cJ cB : ClassId} {ad : Nat → Nat} {lev val pkd : Nat → Int32} {cst : Nat → Int64} {chs : Nat → Int32} {D N F k : Nat} {L V : Nat → Nat} {p0 p1 p2 : Int32} {f : Nat → Int64} {sz : Nat} (had : zg_ap ad 7) (hst : l.stackTraces = false) (hR : zx_R D N F L V lev val pkd) : zt_Met l yL_values wL_values rL_values (va_Pc [.ref (ad 0), .int p0, .int p1, .int p2, .ref (ad 6)] (zg_V dC dI cI cJ cB (zx_w ad cI cJ lev val pkd cst chs D N F k ++ zo_w ad cJ f) sz)) (zg_H dC dI (zc_val (zn p0) (zn p1) (zn p2) D L) (fun u : Nat → Int64 => ∀ j, j < 512 → u j = lN F) (zx_w ad cI cJ lev val pkd cst chs D N F k ++ zo_w ad cJ f) (fun u => (zx_w ad cI cJ lev (upd val (4 * zn p0 + zn p1) (nI (zn p2))) pkd u chs D N F 0 ++ zo_w ad cJ (vp_updL f 0 (lN (V (4 * zn p0 + zn p1)))))) (zg_A ad 7 sz)) 1 6 0 0 (zg_A ad 7 sz) := by
  refine zt_ofWith (cc := cL_values) (maxL := 6) (ret := some .int) (hs := [(0, 12, 15, 13)]) (by decide) rfl ?_
  intro p e s m args below meth c s₁ B hml htab hv
  obtain ⟨rfl, ⟨hsz, hP, hK, hTS⟩, hNc⟩ := hv
  have hx := B.exec
  have hb := B.bytes
  have hr := B.returns
  have hz : ∀ w ∈ zw0, w.before ([.ref (ad 0), .int p0, .int p1, .int p2, .ref (ad 6)] : List Value).toArray s = true := fun w h => atoms_spec (ws := wL_values) B.pre w (List.mem_cons_of_mem _ h)
  have hown : s.vm.findClass RL = some m.cls := findClass_of_methodNamed B.named
  have hlocks := B.notSynchronized
  subst hsz
  have hPx : va_P (dC, dI) zcl (zx_w ad cI cJ lev val pkd cst chs D N F k) s.heap := hP.sub [0, 1, 2, 3, 4, 5] rfl
  have hP6 : va_P (dC, dI) zcl (zo_w ad cJ f) s.heap := hP.sub [6] rfl
  have hl := lv_entry ([.ref (ad 0), .int p0, .int p1, .int p2, .ref (ad 6)]) (n := 6) (Nat.le_of_ble_eq_true rfl)
  rw [lg_entry_eq]
  generalize (lg_sl ([.ref (ad 0), .int p0, .int p1, .int p2, .ref (ad 6)]) ++ List.replicate (6 - (lg_sl ([.ref (ad 0), .int p0, .int p1, .int p2, .ref (ad 6)])).length) Slot.unset).toArray = ls at hl ⊢
  have hl : lv_has ls 6 [(0, .ref (ad 0)), (1, .int p0), (2, .int p1), (3, .int p2), (4, .ref (ad 6))] := hl
  refine lv_aload hx hb dL_values_0 (lv_at hl 4 rfl) ?_
  refine lv_iconst (v := nI 0) hx hb dL_values_2 (by decide) ?_
  refine lv_aload_n hx hb dL_values_3 rfl (lv_at hl 0 rfl) ?_
  refine lv_iload_n hx hb dL_values_4 rfl (lv_at hl 1 rfl) ?_
  refine lv_iload_n hx hb dL_values_5 rfl (lv_at hl 2 rfl) ?_
  refine lv_iload_n hx hb dL_values_6 rfl (lv_at hl 3 rfl) ?_
  refine zh_call (w0 := zx_w ad cI cJ lev val pkd cst chs D N F k) (f := f) had (zg_runU (rest := [.int (nI 0), .ref (ad 6)]) hx hb hml hown (tX_values l (zg_ap6 had) hst hR) (wcL_17 hz (Nat.le_of_ble_eq_true rfl) (Nat.le_of_ble_eq_true rfl)) (hz _ ki_X_values) (hz _ ks_X_values) (hz _ kC_X_values) hPx hK hTS rfl (q0 := 0) rfl rfl hl.1 rfl (Nat.le_of_ble_eq_true rfl) dL_values_7 ⟨Nat.le_of_ble_eq_true rfl, Nat.le_of_ble_eq_true rfl⟩) hP hP6 (fun hcd u H locs hu hP hS => ?_) (fun hcd x H locs hX hP hS => ?_) (fun hcd x H locs hX hP hS => ?_)
  · refine W.eq (g2 := F0 m 10 ls [.int (nI (V (4 * zn p0 + zn p1))), .int (nI 0), .ref (ad 6)]) rfl ?_
    refine lv_i2l (v := lN (V (4 * zn p0 + zn p1))) hx hb dL_values_10 (nI_l (by have := hR.2.2.2.2.2.1 (4 * zn p0 + zn p1); omega)) ?_
    refine zt_last hx hb hK hP (zh_D had) hS 6 1 rfl rfl (i := 0) (by decide) (by decide) dL_values_11 (fun H locs hP _ hS => ?_)
    have hP : va_P (dC, dI) zcl (zx_w ad cI cJ lev (upd val (4 * zn p0 + zn p1) (nI (zn p2))) pkd u chs D N F 0 ++ zo_w ad cJ (vp_updL f 0 (lN (V (4 * zn p0 + zn p1))))) H := hP
    refine lv_goto (tgt := 19) hx hb dL_values_12 (by decide) ?_
    refine lv_iconst (v := nI 0) hx hb dL_values_19 (by decide) ?_
    refine W.widen (k := 1) (n := 6) (by omega) (by omega) ?_
    exact zt_ri hx hb hr hlocks (fun t ht _ => Or.inl ⟨hcd, u, rfl, hu, by rw [ht]; exact hP, hS.F ht⟩) hS.2.2 dL_values_20
  · refine zt_catch1 htab (by decide) (by decide) (by decide) hown (hz _ kc_L_13) (hz _ kt_IllegalArgumentException) (hz _ kcast_IllegalArgumentException_IllegalArgumentException) hX ?_
    refine lv_astore (lv' := [(5, .ref x), (0, .ref (ad 0)), (1, .int p0), (2, .int p1), (3, .int p2), (4, .ref (ad 6))]) hx hb dL_values_15 hl (by decide) rfl (fun ls hl => ?_)
    refine lv_iconst (v := nI 1) hx hb dL_values_17 (by decide) ?_
    exact zt_ri hx hb hr hlocks (fun t ht _ => Or.inr ⟨by rw [hcd]; decide, by rw [hcd], by rw [ht]; exact hP, hS.F ht⟩) hS.2.2 dL_values_18
  · exact absurd hcd (by unfold zc_val; split <;> decide)
set_option maxHeartbeats 4000000 in
set_option maxRecDepth 100000 in
/-- the helper facts -/
theorem tL_facts (l : Launch) {dC : Nat → ClassId} {dI : Nat → Nat → Nat} {cI cJ cB : ClassId} {ad : Nat → Nat} {lev val pkd : Nat → Int32} {cst : Nat → Int64} {chs : Nat → Int32} {D N F k : Nat} {p0 : Int32} {f : Nat → Int64} {sz : Nat} (had : zg_ap ad 7) (hst : l.stackTraces = false) (hF : F < 2 ^ 31) : zt_Met l yL_facts wL_facts rL_facts (va_Pc [.ref (ad 0), .int p0, .ref (ad 6)] (zg_V dC dI cI cJ cB (zx_w ad cI cJ lev val pkd cst chs D N F k ++ zo_w ad cJ f) sz)) (zg_H dC dI (zc_fac (zn p0)) (fun u : Nat → Int64 => ∀ j, j < 512 → u j = lN (zn p0)) (zx_w ad cI cJ lev val pkd cst chs D N F k ++ zo_w ad cJ f) (fun u => (zx_w ad cI cJ lev val pkd u chs D N (zn p0) 0 ++ zo_w ad cJ (vp_updL f 0 (lN F)))) (zg_A ad 7 sz)) 1 6 0 0 (zg_A ad 7 sz) := by
  refine zt_ofWith (cc := cL_facts) (maxL := 4) (ret := some .int) (hs := [(0, 9, 12, 13)]) (by decide) rfl ?_
  intro p e s m args below meth c s₁ B hml htab hv
  obtain ⟨rfl, ⟨hsz, hP, hK, hTS⟩, hNc⟩ := hv
  have hx := B.exec
  have hb := B.bytes
  have hr := B.returns
  have hz : ∀ w ∈ zw0, w.before ([.ref (ad 0), .int p0, .ref (ad 6)] : List Value).toArray s = true := fun w h => atoms_spec (ws := wL_facts) B.pre w (List.mem_cons_of_mem _ h)
  have hown : s.vm.findClass RL = some m.cls := findClass_of_methodNamed B.named
  have hlocks := B.notSynchronized
  subst hsz
  have hPx : va_P (dC, dI) zcl (zx_w ad cI cJ lev val pkd cst chs D N F k) s.heap := hP.sub [0, 1, 2, 3, 4, 5] rfl
  have hP6 : va_P (dC, dI) zcl (zo_w ad cJ f) s.heap := hP.sub [6] rfl
  have hl := lv_entry ([.ref (ad 0), .int p0, .ref (ad 6)]) (n := 4) (Nat.le_of_ble_eq_true rfl)
  rw [lg_entry_eq]
  generalize (lg_sl ([.ref (ad 0), .int p0, .ref (ad 6)]) ++ List.replicate (4 - (lg_sl ([.ref (ad 0), .int p0, .ref (ad 6)])).length) Slot.unset).toArray = ls at hl ⊢
  have hl : lv_has ls 4 [(0, .ref (ad 0)), (1, .int p0), (2, .ref (ad 6))] := hl
  refine lv_aload_n hx hb dL_facts_0 rfl (lv_at hl 2 rfl) ?_
  refine lv_iconst (v := nI 0) hx hb dL_facts_1 (by decide) ?_
  refine lv_aload_n hx hb dL_facts_2 rfl (lv_at hl 0 rfl) ?_
  refine lv_iload_n hx hb dL_facts_3 rfl (lv_at hl 1 rfl) ?_
  refine zh_call (w0 := zx_w ad cI cJ lev val pkd cst chs D N F k) (f := f) had (zg_runU (rest := [.int (nI 0), .ref (ad 6)]) hx hb hml hown (tX_facts l (zg_ap6 had) hst) (wcL_21 hz (Nat.le_of_ble_eq_true rfl) (Nat.le_of_ble_eq_true rfl)) (hz _ ki_X_facts) (hz _ ks_X_facts) (hz _ kC_X_facts) hPx hK hTS rfl (q0 := 0) rfl rfl hl.1 rfl (Nat.le_of_ble_eq_true rfl) dL_facts_4 ⟨Nat.le_of_ble_eq_true rfl, Nat.le_of_ble_eq_true rfl⟩) hP hP6 (fun hcd u H locs hu hP hS => ?_) (fun hcd x H locs hX hP hS => ?_) (fun hcd x H locs hX hP hS => ?_)
  · refine W.eq (g2 := F0 m 7 ls [.int (nI F), .int (nI 0), .ref (ad 6)]) rfl ?_
    refine lv_i2l (v := lN F) hx hb dL_facts_7 (nI_l hF) ?_
    refine zt_last hx hb hK hP (zh_D had) hS 6 1 rfl rfl (i := 0) (by decide) (by decide) dL_facts_8 (fun H locs hP _ hS => ?_)
    have hP : va_P (dC, dI) zcl (zx_w ad cI cJ lev val pkd u chs D N (zn p0) 0 ++ zo_w ad cJ (vp_updL f 0 (lN F))) H := hP
    refine lv_goto (tgt := 15) hx hb dL_facts_9 (by decide) ?_
    refine lv_iconst (v := nI 0) hx hb dL_facts_15 (by decide) ?_
    refine W.widen (k := 1) (n := 6) (by omega) (by omega) ?_
    exact zt_ri hx hb hr hlocks (fun t ht _ => Or.inl ⟨hcd, u, rfl, hu, by rw [ht]; exact hP, hS.F ht⟩) hS.2.2 dL_facts_16
  · refine zt_catch1 htab (by decide) (by decide) (by decide) hown (hz _ kc_L_13) (hz _ kt_IllegalArgumentException) (hz _ kcast_IllegalArgumentException_IllegalArgumentException) hX ?_
    refine lv_astore_n (lv' := [(3, .ref x), (0, .ref (ad 0)), (1, .int p0), (2, .ref (ad 6))]) hx hb dL_facts_12 rfl hl (by decide) rfl (fun ls hl => ?_)
    refine lv_iconst (v := nI 1) hx hb dL_facts_13 (by decide) ?_
    exact zt_ri hx hb hr hlocks (fun t ht _ => Or.inr ⟨by rw [hcd]; decide, by rw [hcd], by rw [ht]; exact hP, hS.F ht⟩) hS.2.2 dL_facts_14
  · exact absurd hcd (by unfold zc_fac; split <;> decide)
set_option maxHeartbeats 4000000 in
set_option maxRecDepth 100000 in
/-- the helper digit -/
theorem tL_digit (l : Launch) {dC : Nat → ClassId} {dI : Nat → Nat → Nat} {cI cJ cB : ClassId} {ad : Nat → Nat} {lev val pkd : Nat → Int32} {cst : Nat → Int64} {chs : Nat → Int32} {D N F k : Nat} {L V : Nat → Nat} {p0 p1 : Int32} {f : Nat → Int64} {sz : Nat} (had : zg_ap ad 7) (hst : l.stackTraces = false) (hR : zx_R D N F L V lev val pkd) : zt_Met l yL_digit wL_digit rL_digit (va_Pc [.ref (ad 0), .int p0, .int p1, .ref (ad 6)] (zg_V dC dI cI cJ cB (zx_w ad cI cJ lev val pkd cst chs D N F k ++ zo_w ad cJ f) sz)) (zg_H dC dI (zc_b (zb_in p0 N && zb_in p1 D)) (fun u : Unit => True) (zx_w ad cI cJ lev val pkd cst chs D N F k ++ zo_w ad cJ f) (fun u => (zx_w ad cI cJ lev val pkd cst chs D N F k ++ zo_w ad cJ (vp_updL f 0 ((nI (zq_dg L D p0.toNatClampNeg p1.toNatClampNeg)).toInt64)))) (zg_A ad 7 sz)) 1 6 0 0 (zg_A ad 7 sz) := by
  refine zt_ofWith (cc := cL_digit) (maxL := 5) (ret := some .int) (hs := [(0, 10, 13, 13)]) (by decide) rfl ?_
  intro p e s m args below meth c s₁ B hml htab hv
  obtain ⟨rfl, ⟨hsz, hP, hK, hTS⟩, hNc⟩ := hv
  have hx := B.exec
  have hb := B.bytes
  have hr := B.returns
  have hz : ∀ w ∈ zw0, w.before ([.ref (ad 0), .int p0, .int p1, .ref (ad 6)] : List Value).toArray s = true := fun w h => atoms_spec (ws := wL_digit) B.pre w (List.mem_cons_of_mem _ h)
  have hown : s.vm.findClass RL = some m.cls := findClass_of_methodNamed B.named
  have hlocks := B.notSynchronized
  subst hsz
  have hPx : va_P (dC, dI) zcl (zx_w ad cI cJ lev val pkd cst chs D N F k) s.heap := hP.sub [0, 1, 2, 3, 4, 5] rfl
  have hP6 : va_P (dC, dI) zcl (zo_w ad cJ f) s.heap := hP.sub [6] rfl
  have hl := lv_entry ([.ref (ad 0), .int p0, .int p1, .ref (ad 6)]) (n := 5) (Nat.le_of_ble_eq_true rfl)
  rw [lg_entry_eq]
  generalize (lg_sl ([.ref (ad 0), .int p0, .int p1, .ref (ad 6)]) ++ List.replicate (5 - (lg_sl ([.ref (ad 0), .int p0, .int p1, .ref (ad 6)])).length) Slot.unset).toArray = ls at hl ⊢
  have hl : lv_has ls 5 [(0, .ref (ad 0)), (1, .int p0), (2, .int p1), (3, .ref (ad 6))] := hl
  refine lv_aload_n hx hb dL_digit_0 rfl (lv_at hl 3 rfl) ?_
  refine lv_iconst (v := nI 0) hx hb dL_digit_1 (by decide) ?_
  refine lv_aload_n hx hb dL_digit_2 rfl (lv_at hl 0 rfl) ?_
  refine lv_iload_n hx hb dL_digit_3 rfl (lv_at hl 1 rfl) ?_
  refine lv_iload_n hx hb dL_digit_4 rfl (lv_at hl 2 rfl) ?_
  refine zh_call (w0 := zx_w ad cI cJ lev val pkd cst chs D N F k) (f := f) had (zt_Run_mono (zt_Qp_X_at (cd := zc_b (zb_in p0 N && zb_in p1 D)) (fun h => if_pos h) (fun h => if_neg h) hPx) (fun q h => h.elim) (zg_runT (rest := [.int (nI 0), .ref (ad 6)]) hx hb hml hown (tX_digit l hst hR) (wcL_24 hz (Nat.le_of_ble_eq_true rfl) (Nat.le_of_ble_eq_true rfl)) (hz _ ki_X_digit) (hz _ ks_X_digit) (hz _ kC_X_digit) hPx hK hTS rfl (q0 := 0) rfl rfl hl.1 rfl (Nat.le_of_ble_eq_true rfl) dL_digit_5 ⟨Nat.le_of_ble_eq_true rfl, Nat.le_of_ble_eq_true rfl⟩)) hP hP6 (fun hcd u H locs hu hP hS => ?_) (fun hcd x H locs hX hP hS => ?_) (fun hcd x H locs hX hP hS => ?_)
  · refine W.eq (g2 := F0 m 8 ls [.int (nI (zq_dg L D p0.toNatClampNeg p1.toNatClampNeg)), .int (nI 0), .ref (ad 6)]) rfl ?_
    refine lv_i2l (v := (nI (zq_dg L D p0.toNatClampNeg p1.toNatClampNeg)).toInt64) hx hb dL_digit_8 (rfl) ?_
    refine zt_last hx hb hK hP (zh_D had) hS 6 1 rfl rfl (i := 0) (by decide) (by decide) dL_digit_9 (fun H locs hP _ hS => ?_)
    have hP : va_P (dC, dI) zcl (zx_w ad cI cJ lev val pkd cst chs D N F k ++ zo_w ad cJ (vp_updL f 0 ((nI (zq_dg L D p0.toNatClampNeg p1.toNatClampNeg)).toInt64))) H := hP
    refine lv_goto (tgt := 17) hx hb dL_digit_10 (by decide) ?_
    refine lv_iconst (v := nI 0) hx hb dL_digit_17 (by decide) ?_
    refine W.widen (k := 1) (n := 6) (by omega) (by omega) ?_
    exact zt_ri hx hb hr hlocks (fun t ht _ => Or.inl ⟨hcd, u, rfl, hu, by rw [ht]; exact hP, hS.F ht⟩) hS.2.2 dL_digit_18
  · refine zt_catch1 htab (by decide) (by decide) (by decide) hown (hz _ kc_L_13) (hz _ kt_IllegalArgumentException) (hz _ kcast_IllegalArgumentException_IllegalArgumentException) hX ?_
    refine lv_astore (lv' := [(4, .ref x), (0, .ref (ad 0)), (1, .int p0), (2, .int p1), (3, .ref (ad 6))]) hx hb dL_digit_13 hl (by decide) rfl (fun ls hl => ?_)
    refine lv_iconst (v := nI 1) hx hb dL_digit_15 (by decide) ?_
    exact zt_ri hx hb hr hlocks (fun t ht _ => Or.inr ⟨by rw [hcd]; decide, by rw [hcd], by rw [ht]; exact hP, hS.F ht⟩) hS.2.2 dL_digit_16
  · exact absurd hcd (by unfold zc_b; split <;> decide)
set_option maxHeartbeats 4000000 in
set_option maxRecDepth 100000 in
/-- the helper isAbove -/
theorem tL_isAbove (l : Launch) {dC : Nat → ClassId} {dI : Nat → Nat → Nat} {cI cJ cB : ClassId} {ad : Nat → Nat} {lev val pkd : Nat → Int32} {cst : Nat → Int64} {chs : Nat → Int32} {D N F k : Nat} {L V : Nat → Nat} {p0 p1 : Int32} {f : Nat → Int64} {sz : Nat} (had : zg_ap ad 7) (hst : l.stackTraces = false) (hR : zx_R D N F L V lev val pkd) : zt_Met l yL_isAbove wL_isAbove rL_isAbove (va_Pc [.ref (ad 0), .int p0, .int p1, .ref (ad 6)] (zg_V dC dI cI cJ cB (zx_w ad cI cJ lev val pkd cst chs D N F k ++ zo_w ad cJ f) sz)) (zg_H dC dI (zc_b (zb_in p0 N && zb_in p1 N)) (fun u : Unit => True) (zx_w ad cI cJ lev val pkd cst chs D N F k ++ zo_w ad cJ f) (fun u => (zx_w ad cI cJ lev val pkd cst chs D N F k ++ zo_w ad cJ (vp_updL f 0 (if zq_ab L D p0.toNatClampNeg p1.toNatClampNeg = true then 1 else 0)))) (zg_A ad 7 sz)) 1 6 0 0 (zg_A ad 7 sz) := by
  refine zt_ofWith (cc := cL_isAbove) (maxL := 5) (ret := some .int) (hs := [(0, 17, 20, 13)]) (by decide) rfl ?_
  intro p e s m args below meth c s₁ B hml htab hv
  obtain ⟨rfl, ⟨hsz, hP, hK, hTS⟩, hNc⟩ := hv
  have hx := B.exec
  have hb := B.bytes
  have hr := B.returns
  have hz : ∀ w ∈ zw0, w.before ([.ref (ad 0), .int p0, .int p1, .ref (ad 6)] : List Value).toArray s = true := fun w h => atoms_spec (ws := wL_isAbove) B.pre w (List.mem_cons_of_mem _ h)
  have hown : s.vm.findClass RL = some m.cls := findClass_of_methodNamed B.named
  have hlocks := B.notSynchronized
  subst hsz
  have hPx : va_P (dC, dI) zcl (zx_w ad cI cJ lev val pkd cst chs D N F k) s.heap := hP.sub [0, 1, 2, 3, 4, 5] rfl
  have hP6 : va_P (dC, dI) zcl (zo_w ad cJ f) s.heap := hP.sub [6] rfl
  have hl := lv_entry ([.ref (ad 0), .int p0, .int p1, .ref (ad 6)]) (n := 5) (Nat.le_of_ble_eq_true rfl)
  rw [lg_entry_eq]
  generalize (lg_sl ([.ref (ad 0), .int p0, .int p1, .ref (ad 6)]) ++ List.replicate (5 - (lg_sl ([.ref (ad 0), .int p0, .int p1, .ref (ad 6)])).length) Slot.unset).toArray = ls at hl ⊢
  have hl : lv_has ls 5 [(0, .ref (ad 0)), (1, .int p0), (2, .int p1), (3, .ref (ad 6))] := hl
  refine lv_aload_n hx hb dL_isAbove_0 rfl (lv_at hl 3 rfl) ?_
  refine lv_iconst (v := nI 0) hx hb dL_isAbove_1 (by decide) ?_
  refine lv_aload_n hx hb dL_isAbove_2 rfl (lv_at hl 0 rfl) ?_
  refine lv_iload_n hx hb dL_isAbove_3 rfl (lv_at hl 1 rfl) ?_
  refine lv_iload_n hx hb dL_isAbove_4 rfl (lv_at hl 2 rfl) ?_
  refine zh_call (w0 := zx_w ad cI cJ lev val pkd cst chs D N F k) (f := f) had (zt_Run_mono (zt_Qp_X_at (cd := zc_b (zb_in p0 N && zb_in p1 N)) (fun h => if_pos h) (fun h => if_neg h) hPx) (fun q h => h.elim) (zg_runT (rest := [.int (nI 0), .ref (ad 6)]) hx hb hml hown (tX_isAbove l hst hR) (wcL_28 hz (Nat.le_of_ble_eq_true rfl) (Nat.le_of_ble_eq_true rfl)) (hz _ ki_X_isAbove) (hz _ ks_X_isAbove) (hz _ kC_X_isAbove) hPx hK hTS rfl (q0 := 0) rfl rfl hl.1 rfl (Nat.le_of_ble_eq_true rfl) dL_isAbove_5 ⟨Nat.le_of_ble_eq_true rfl, Nat.le_of_ble_eq_true rfl⟩)) hP hP6 (fun hcd u H locs hu hP hS => ?_) (fun hcd x H locs hX hP hS => ?_) (fun hcd x H locs hX hP hS => ?_)
  · refine W.eq (g2 := F0 m 8 ls [.int (if zq_ab L D p0.toNatClampNeg p1.toNatClampNeg = true then 1 else 0), .int (nI 0), .ref (ad 6)]) rfl ?_
    generalize zq_ab L D p0.toNatClampNeg p1.toNatClampNeg = bb
    cases bb
    · refine W.eq (g2 := F0 m 8 ls [.int (nI 0), .int (nI 0), .ref (ad 6)]) rfl ?_
      refine lv_if_eq (tgt := 15) hx hb dL_isAbove_8 (by decide) (fun _ => ?_) (fun c8 => absurd c8 (not_not_intro (by decide)))
      refine lv_lconst (v := lN 0) hx hb dL_isAbove_15 (by decide) ?_
      refine zt_last hx hb hK hP (zh_D had) hS 6 1 rfl rfl (i := 0) (by decide) (by decide) dL_isAbove_16 (fun H locs hP _ hS => ?_)
      have hP : va_P (dC, dI) zcl (zx_w ad cI cJ lev val pkd cst chs D N F k ++ zo_w ad cJ (vp_updL f 0 (lN 0))) H := hP
      refine lv_goto (tgt := 24) hx hb dL_isAbove_17 (by decide) ?_
      refine lv_iconst (v := nI 0) hx hb dL_isAbove_24 (by decide) ?_
      refine W.widen (k := 1) (n := 6) (by omega) (by omega) ?_
      exact zt_ri hx hb hr hlocks (fun t ht _ => Or.inl ⟨hcd, u, rfl, hu, by rw [ht]; exact hP, hS.F ht⟩) hS.2.2 dL_isAbove_25
    · refine W.eq (g2 := F0 m 8 ls [.int (nI 1), .int (nI 0), .ref (ad 6)]) rfl ?_
      refine lv_if_eq (tgt := 15) hx hb dL_isAbove_8 (by decide) (fun c8 => absurd c8 (by decide)) (fun _ => ?_)
      refine lv_lconst (v := lN 1) hx hb dL_isAbove_11 (by decide) ?_
      refine lv_goto (tgt := 16) hx hb dL_isAbove_12 (by decide) ?_
      refine zt_last hx hb hK hP (zh_D had) hS 6 1 rfl rfl (i := 0) (by decide) (by decide) dL_isAbove_16 (fun H locs hP _ hS => ?_)
      have hP : va_P (dC, dI) zcl (zx_w ad cI cJ lev val pkd cst chs D N F k ++ zo_w ad cJ (vp_updL f 0 (lN 1))) H := hP
      refine lv_goto (tgt := 24) hx hb dL_isAbove_17 (by decide) ?_
      refine lv_iconst (v := nI 0) hx hb dL_isAbove_24 (by decide) ?_
      refine W.widen (k := 1) (n := 6) (by omega) (by omega) ?_
      exact zt_ri hx hb hr hlocks (fun t ht _ => Or.inl ⟨hcd, u, rfl, hu, by rw [ht]; exact hP, hS.F ht⟩) hS.2.2 dL_isAbove_25
  · refine zt_catch1 htab (by decide) (by decide) (by decide) hown (hz _ kc_L_13) (hz _ kt_IllegalArgumentException) (hz _ kcast_IllegalArgumentException_IllegalArgumentException) hX ?_
    refine lv_astore (lv' := [(4, .ref x), (0, .ref (ad 0)), (1, .int p0), (2, .int p1), (3, .ref (ad 6))]) hx hb dL_isAbove_20 hl (by decide) rfl (fun ls hl => ?_)
    refine lv_iconst (v := nI 1) hx hb dL_isAbove_22 (by decide) ?_
    exact zt_ri hx hb hr hlocks (fun t ht _ => Or.inr ⟨by rw [hcd]; decide, by rw [hcd], by rw [ht]; exact hP, hS.F ht⟩) hS.2.2 dL_isAbove_23
  · exact absurd hcd (by unfold zc_b; split <;> decide)
set_option maxHeartbeats 4000000 in
set_option maxRecDepth 100000 in
/-- the helper told -/
theorem tL_told (l : Launch) {dC : Nat → ClassId} {dI : Nat → Nat → Nat} {cI cJ cB : ClassId} {ad : Nat → Nat} {lev val pkd : Nat → Int32} {cst : Nat → Int64} {chs : Nat → Int32} {D N F k : Nat} {L V : Nat → Nat} {p0 p1 : Int32} {cw : Nat → Nat} {f : Nat → Int64} {sz : Nat} (had : zg_ap ad 7) (hc : ∀ w, w < N → cst w = lN (cw w) ∧ cw w ≤ F) (hst : l.stackTraces = false) (hR : zx_R D N F L V lev val pkd) : zt_Met l yL_told wL_told rL_told (va_Pc [.ref (ad 0), .int p0, .int p1, .ref (ad 6)] (zg_V dC dI cI cJ cB (zx_w ad cI cJ lev val pkd cst chs D N F k ++ zo_w ad cJ f) sz)) (zg_H dC dI (zc_b (zb_in p0 N && zb_in p1 3)) (fun u : Unit => True) (zx_w ad cI cJ lev val pkd cst chs D N F k ++ zo_w ad cJ f) (fun u => (zx_w ad cI cJ lev val pkd cst chs D N F k ++ zo_w ad cJ (vp_updL f 0 (lN (zq_told (zq_es L V D F) (zq_ab L D) cw N p0.toNatClampNeg p1.toNatClampNeg))))) (zg_A ad 7 sz)) 1 6 0 0 (zg_A ad 7 sz) := by
  refine zt_ofWith (cc := cL_told) (maxL := 5) (ret := some .int) (hs := [(0, 9, 12, 13)]) (by decide) rfl ?_
  intro p e s m args below meth c s₁ B hml htab hv
  obtain ⟨rfl, ⟨hsz, hP, hK, hTS⟩, hNc⟩ := hv
  have hx := B.exec
  have hb := B.bytes
  have hr := B.returns
  have hz : ∀ w ∈ zw0, w.before ([.ref (ad 0), .int p0, .int p1, .ref (ad 6)] : List Value).toArray s = true := fun w h => atoms_spec (ws := wL_told) B.pre w (List.mem_cons_of_mem _ h)
  have hown : s.vm.findClass RL = some m.cls := findClass_of_methodNamed B.named
  have hlocks := B.notSynchronized
  subst hsz
  have hPx : va_P (dC, dI) zcl (zx_w ad cI cJ lev val pkd cst chs D N F k) s.heap := hP.sub [0, 1, 2, 3, 4, 5] rfl
  have hP6 : va_P (dC, dI) zcl (zo_w ad cJ f) s.heap := hP.sub [6] rfl
  have hl := lv_entry ([.ref (ad 0), .int p0, .int p1, .ref (ad 6)]) (n := 5) (Nat.le_of_ble_eq_true rfl)
  rw [lg_entry_eq]
  generalize (lg_sl ([.ref (ad 0), .int p0, .int p1, .ref (ad 6)]) ++ List.replicate (5 - (lg_sl ([.ref (ad 0), .int p0, .int p1, .ref (ad 6)])).length) Slot.unset).toArray = ls at hl ⊢
  have hl : lv_has ls 5 [(0, .ref (ad 0)), (1, .int p0), (2, .int p1), (3, .ref (ad 6))] := hl
  refine lv_aload_n hx hb dL_told_0 rfl (lv_at hl 3 rfl) ?_
  refine lv_iconst (v := nI 0) hx hb dL_told_1 (by decide) ?_
  refine lv_aload_n hx hb dL_told_2 rfl (lv_at hl 0 rfl) ?_
  refine lv_iload_n hx hb dL_told_3 rfl (lv_at hl 1 rfl) ?_
  refine lv_iload_n hx hb dL_told_4 rfl (lv_at hl 2 rfl) ?_
  refine zh_call (w0 := zx_w ad cI cJ lev val pkd cst chs D N F k) (f := f) had (zt_Run_mono (zt_Qp_X_at (cd := zc_b (zb_in p0 N && zb_in p1 3)) (fun h => if_pos h) (fun h => if_neg h) hPx) (fun q h => h.elim) (zg_runT (rest := [.int (nI 0), .ref (ad 6)]) hx hb hml hown (tX_told l hc hst hR) (wcL_32 hz (Nat.le_of_ble_eq_true rfl) (Nat.le_of_ble_eq_true rfl)) (hz _ ki_X_told) (hz _ ks_X_told) (hz _ kC_X_told) hPx hK hTS rfl (q0 := 0) rfl rfl hl.1 rfl (Nat.le_of_ble_eq_true rfl) dL_told_5 ⟨Nat.le_of_ble_eq_true rfl, Nat.le_of_ble_eq_true rfl⟩)) hP hP6 (fun hcd u H locs hu hP hS => ?_) (fun hcd x H locs hX hP hS => ?_) (fun hcd x H locs hX hP hS => ?_)
  · refine W.eq (g2 := F0 m 8 ls [.long (lN (zq_told (zq_es L V D F) (zq_ab L D) cw N p0.toNatClampNeg p1.toNatClampNeg)), .int (nI 0), .ref (ad 6)]) rfl ?_
    refine zt_last hx hb hK hP (zh_D had) hS 6 1 rfl rfl (i := 0) (by decide) (by decide) dL_told_8 (fun H locs hP _ hS => ?_)
    have hP : va_P (dC, dI) zcl (zx_w ad cI cJ lev val pkd cst chs D N F k ++ zo_w ad cJ (vp_updL f 0 (lN (zq_told (zq_es L V D F) (zq_ab L D) cw N p0.toNatClampNeg p1.toNatClampNeg)))) H := hP
    refine lv_goto (tgt := 16) hx hb dL_told_9 (by decide) ?_
    refine lv_iconst (v := nI 0) hx hb dL_told_16 (by decide) ?_
    refine W.widen (k := 1) (n := 6) (by omega) (by omega) ?_
    exact zt_ri hx hb hr hlocks (fun t ht _ => Or.inl ⟨hcd, u, rfl, hu, by rw [ht]; exact hP, hS.F ht⟩) hS.2.2 dL_told_17
  · refine zt_catch1 htab (by decide) (by decide) (by decide) hown (hz _ kc_L_13) (hz _ kt_IllegalArgumentException) (hz _ kcast_IllegalArgumentException_IllegalArgumentException) hX ?_
    refine lv_astore (lv' := [(4, .ref x), (0, .ref (ad 0)), (1, .int p0), (2, .int p1), (3, .ref (ad 6))]) hx hb dL_told_12 hl (by decide) rfl (fun ls hl => ?_)
    refine lv_iconst (v := nI 1) hx hb dL_told_14 (by decide) ?_
    exact zt_ri hx hb hr hlocks (fun t ht _ => Or.inr ⟨by rw [hcd]; decide, by rw [hcd], by rw [ht]; exact hP, hS.F ht⟩) hS.2.2 dL_told_15
  · exact absurd hcd (by unfold zc_b; split <;> decide)
set_option maxHeartbeats 4000000 in
set_option maxRecDepth 100000 in
/-- the helper take -/
theorem tL_take (l : Launch) {dC : Nat → ClassId} {dI : Nat → Nat → Nat} {cI cJ cB : ClassId} {ad : Nat → Nat} {lev val pkd : Nat → Int32} {cst : Nat → Int64} {chs : Nat → Int32} {D N F k : Nat} {L V S : Nat → Nat} {p0 : Int32} {f : Nat → Int64} {sz : Nat} (had : zg_ap ad 7) (hst : l.stackTraces = false) (hR : zx_R D N F L V lev val pkd) (hJ : zx_J D N F k L V S cst chs) (hk : k ≤ 16) : zt_Met l yL_take wL_take rL_take (va_Pc [.ref (ad 0), .int p0, .ref (ad 6)] (zg_V dC dI cI cJ cB (zx_w ad cI cJ lev val pkd cst chs D N F k ++ zo_w ad cJ f) sz)) (zg_H dC dI (zc_take (zn p0) N k) (fun u : (Nat → Int64) × (Nat → Int32) => zx_J D N F (k + 1) L V (zq_up S k (zn p0)) u.1 u.2) (zx_w ad cI cJ lev val pkd cst chs D N F k ++ zo_w ad cJ f) (fun u => (zx_w ad cI cJ lev val pkd u.1 u.2 D N F (k + 1) ++ zo_w ad cJ (vp_updL f 0 (lN (k + 1))))) (zg_A ad 7 sz)) 1 6 0 0 (zg_A ad 7 sz) := by
  refine zt_ofWith (cc := cL_take) (maxL := 4) (ret := some .int) (hs := [(0, 9, 12, 13), (0, 9, 15, 15)]) (by decide) rfl ?_
  intro p e s m args below meth c s₁ B hml htab hv
  obtain ⟨rfl, ⟨hsz, hP, hK, hTS⟩, hNc⟩ := hv
  have hx := B.exec
  have hb := B.bytes
  have hr := B.returns
  have hz : ∀ w ∈ zw0, w.before ([.ref (ad 0), .int p0, .ref (ad 6)] : List Value).toArray s = true := fun w h => atoms_spec (ws := wL_take) B.pre w (List.mem_cons_of_mem _ h)
  have hown : s.vm.findClass RL = some m.cls := findClass_of_methodNamed B.named
  have hlocks := B.notSynchronized
  subst hsz
  have hPx : va_P (dC, dI) zcl (zx_w ad cI cJ lev val pkd cst chs D N F k) s.heap := hP.sub [0, 1, 2, 3, 4, 5] rfl
  have hP6 : va_P (dC, dI) zcl (zo_w ad cJ f) s.heap := hP.sub [6] rfl
  have hl := lv_entry ([.ref (ad 0), .int p0, .ref (ad 6)]) (n := 4) (Nat.le_of_ble_eq_true rfl)
  rw [lg_entry_eq]
  generalize (lg_sl ([.ref (ad 0), .int p0, .ref (ad 6)]) ++ List.replicate (4 - (lg_sl ([.ref (ad 0), .int p0, .ref (ad 6)])).length) Slot.unset).toArray = ls at hl ⊢
  have hl : lv_has ls 4 [(0, .ref (ad 0)), (1, .int p0), (2, .ref (ad 6))] := hl
  refine lv_aload_n hx hb dL_take_0 rfl (lv_at hl 2 rfl) ?_
  refine lv_iconst (v := nI 0) hx hb dL_take_1 (by decide) ?_
  refine lv_aload_n hx hb dL_take_2 rfl (lv_at hl 0 rfl) ?_
  refine lv_iload_n hx hb dL_take_3 rfl (lv_at hl 1 rfl) ?_
  refine zh_call (w0 := zx_w ad cI cJ lev val pkd cst chs D N F k) (f := f) had (zg_runU (rest := [.int (nI 0), .ref (ad 6)]) hx hb hml hown (tX_take l (zg_ap6 had) hst hR hJ hk) (wcL_36 hz (Nat.le_of_ble_eq_true rfl) (Nat.le_of_ble_eq_true rfl)) (hz _ ki_X_take) (hz _ ks_X_take) (hz _ kC_X_take) hPx hK hTS rfl (q0 := 0) rfl rfl hl.1 rfl (Nat.le_of_ble_eq_true rfl) dL_take_4 ⟨Nat.le_of_ble_eq_true rfl, Nat.le_of_ble_eq_true rfl⟩) hP hP6 (fun hcd u H locs hu hP hS => ?_) (fun hcd x H locs hX hP hS => ?_) (fun hcd x H locs hX hP hS => ?_)
  · refine W.eq (g2 := F0 m 7 ls [.int (nI (k + 1)), .int (nI 0), .ref (ad 6)]) rfl ?_
    refine lv_i2l (v := lN (k + 1)) hx hb dL_take_7 (nI_l (by omega)) ?_
    refine zt_last hx hb hK hP (zh_D had) hS 6 1 rfl rfl (i := 0) (by decide) (by decide) dL_take_8 (fun H locs hP _ hS => ?_)
    have hP : va_P (dC, dI) zcl (zx_w ad cI cJ lev val pkd u.1 u.2 D N F (k + 1) ++ zo_w ad cJ (vp_updL f 0 (lN (k + 1)))) H := hP
    refine lv_goto (tgt := 18) hx hb dL_take_9 (by decide) ?_
    refine lv_iconst (v := nI 0) hx hb dL_take_18 (by decide) ?_
    refine W.widen (k := 1) (n := 6) (by omega) (by omega) ?_
    exact zt_ri hx hb hr hlocks (fun t ht _ => Or.inl ⟨hcd, u, rfl, hu, by rw [ht]; exact hP, hS.F ht⟩) hS.2.2 dL_take_19
  · refine zt_catch1 htab (by decide) (by decide) (by decide) hown (hz _ kc_L_13) (hz _ kt_IllegalArgumentException) (hz _ kcast_IllegalArgumentException_IllegalArgumentException) hX ?_
    refine lv_astore_n (lv' := [(3, .ref x), (0, .ref (ad 0)), (1, .int p0), (2, .ref (ad 6))]) hx hb dL_take_12 rfl hl (by decide) rfl (fun ls hl => ?_)
    refine lv_iconst (v := nI 1) hx hb dL_take_13 (by decide) ?_
    exact zt_ri hx hb hr hlocks (fun t ht _ => Or.inr ⟨by rw [hcd]; decide, by rw [hcd], by rw [ht]; exact hP, hS.F ht⟩) hS.2.2 dL_take_14
  · refine zt_catch2 htab (by decide) (by decide) (by decide) (by decide) (by decide) (by decide) hown (hz _ kc_L_15) (hz _ kc_L_13) (hz _ kt_IllegalStateException) (hz _ kt_IllegalArgumentException) (hz _ kcast_IllegalStateException_IllegalStateException) hNc hX ?_
    refine lv_astore_n (lv' := [(3, .ref x), (0, .ref (ad 0)), (1, .int p0), (2, .ref (ad 6))]) hx hb dL_take_15 rfl hl (by decide) rfl (fun ls hl => ?_)
    refine lv_iconst (v := nI 2) hx hb dL_take_16 (by decide) ?_
    exact zt_ri hx hb hr hlocks (fun t ht _ => Or.inr ⟨by rw [hcd]; decide, by rw [hcd], by rw [ht]; exact hP, hS.F ht⟩) hS.2.2 dL_take_17
set_option maxHeartbeats 4000000 in
set_option maxRecDepth 100000 in
/-- the helper step -/
theorem tL_step (l : Launch) {dC : Nat → ClassId} {dI : Nat → Nat → Nat} {cI cJ cB : ClassId} {ad : Nat → Nat} {lev val pkd : Nat → Int32} {cst : Nat → Int64} {chs : Nat → Int32} {D N F k : Nat} {L V S : Nat → Nat} {f : Nat → Int64} {sz : Nat} (had : zg_ap ad 7) (hst : l.stackTraces = false) (hR : zx_R D N F L V lev val pkd) (hJ : zx_J D N F k L V S cst chs) (hk : k ≤ 16) : zt_Met l yL_step wL_step rL_step (va_Pc [.ref (ad 0), .ref (ad 6)] (zg_V dC dI cI cJ cB (zx_w ad cI cJ lev val pkd cst chs D N F k ++ zo_w ad cJ f) sz)) (zg_H dC dI (zc_st k) (fun u : (Nat → Int64) × (Nat → Int32) => zx_J D N F (zq_go (zq_pick D N F L V) 1 k S).1 L V (zq_go (zq_pick D N F L V) 1 k S).2 u.1 u.2) (zx_w ad cI cJ lev val pkd cst chs D N F k ++ zo_w ad cJ f) (fun u => (zx_w ad cI cJ lev val pkd u.1 u.2 D N F ((zq_go (zq_pick D N F L V) 1 k S).1) ++ zo_w ad cJ (vp_updL f 0 ((nI (zq_pick D N F L V k S) - 1).toInt64)))) (zg_A ad 7 sz)) 1 6 0 0 (zg_A ad 7 sz) := by
  refine zt_ofWith (cc := cL_step) (maxL := 3) (ret := some .int) (hs := [(0, 8, 11, 15)]) (by decide) rfl ?_
  intro p e s m args below meth c s₁ B hml htab hv
  obtain ⟨rfl, ⟨hsz, hP, hK, hTS⟩, hNc⟩ := hv
  have hx := B.exec
  have hb := B.bytes
  have hr := B.returns
  have hz : ∀ w ∈ zw0, w.before ([.ref (ad 0), .ref (ad 6)] : List Value).toArray s = true := fun w h => atoms_spec (ws := wL_step) B.pre w (List.mem_cons_of_mem _ h)
  have hown : s.vm.findClass RL = some m.cls := findClass_of_methodNamed B.named
  have hlocks := B.notSynchronized
  subst hsz
  have hPx : va_P (dC, dI) zcl (zx_w ad cI cJ lev val pkd cst chs D N F k) s.heap := hP.sub [0, 1, 2, 3, 4, 5] rfl
  have hP6 : va_P (dC, dI) zcl (zo_w ad cJ f) s.heap := hP.sub [6] rfl
  have hl := lv_entry ([.ref (ad 0), .ref (ad 6)]) (n := 3) (Nat.le_of_ble_eq_true rfl)
  rw [lg_entry_eq]
  generalize (lg_sl ([.ref (ad 0), .ref (ad 6)]) ++ List.replicate (3 - (lg_sl ([.ref (ad 0), .ref (ad 6)])).length) Slot.unset).toArray = ls at hl ⊢
  have hl : lv_has ls 3 [(0, .ref (ad 0)), (1, .ref (ad 6))] := hl
  refine lv_aload_n hx hb dL_step_0 rfl (lv_at hl 1 rfl) ?_
  refine lv_iconst (v := nI 0) hx hb dL_step_1 (by decide) ?_
  refine lv_aload_n hx hb dL_step_2 rfl (lv_at hl 0 rfl) ?_
  refine zh_call (w0 := zx_w ad cI cJ lev val pkd cst chs D N F k) (f := f) had (zg_runU (rest := [.int (nI 0), .ref (ad 6)]) hx hb hml hown (tX_step l (zg_ap6 had) hst hR hJ hk) (wcL_39 hz (Nat.le_of_ble_eq_true rfl) (Nat.le_of_ble_eq_true rfl)) (hz _ ki_X_step) (hz _ ks_X_step) (hz _ kC_X_step) hPx hK hTS rfl (q0 := 0) rfl rfl hl.1 rfl (Nat.le_of_ble_eq_true rfl) dL_step_3 ⟨Nat.le_of_ble_eq_true rfl, Nat.le_of_ble_eq_true rfl⟩) hP hP6 (fun hcd u H locs hu hP hS => ?_) (fun hcd x H locs hX hP hS => ?_) (fun hcd x H locs hX hP hS => ?_)
  · refine W.eq (g2 := F0 m 6 ls [.int (nI (zq_pick D N F L V k S) - 1), .int (nI 0), .ref (ad 6)]) rfl ?_
    refine lv_i2l (v := (nI (zq_pick D N F L V k S) - 1).toInt64) hx hb dL_step_6 (rfl) ?_
    refine zt_last hx hb hK hP (zh_D had) hS 6 1 rfl rfl (i := 0) (by decide) (by decide) dL_step_7 (fun H locs hP _ hS => ?_)
    have hP : va_P (dC, dI) zcl (zx_w ad cI cJ lev val pkd u.1 u.2 D N F ((zq_go (zq_pick D N F L V) 1 k S).1) ++ zo_w ad cJ (vp_updL f 0 ((nI (zq_pick D N F L V k S) - 1).toInt64))) H := hP
    refine lv_goto (tgt := 14) hx hb dL_step_8 (by decide) ?_
    refine lv_iconst (v := nI 0) hx hb dL_step_14 (by decide) ?_
    refine W.widen (k := 1) (n := 6) (by omega) (by omega) ?_
    exact zt_ri hx hb hr hlocks (fun t ht _ => Or.inl ⟨by unfold zc_step at hcd; unfold zc_st; by_cases q : k < 16 <;> simp_all, u, rfl, hu, by rw [ht]; exact hP, hS.F ht⟩) hS.2.2 dL_step_15
  · exact absurd hcd (by unfold zc_step; by_cases q : k < 16 <;> simp [q])
  · refine zt_catch1 htab (by decide) (by decide) (by decide) hown (hz _ kc_L_15) (hz _ kt_IllegalStateException) (hz _ kcast_IllegalStateException_IllegalStateException) hX ?_
    refine lv_astore_n (lv' := [(2, .ref x), (0, .ref (ad 0)), (1, .ref (ad 6))]) hx hb dL_step_11 rfl hl (by decide) rfl (fun ls hl => ?_)
    refine lv_iconst (v := nI 1) hx hb dL_step_12 (by decide) ?_
    have hc9 : zc_st k = 1 := by unfold zc_step at hcd; unfold zc_st; by_cases q : k < 16 <;> simp_all
    exact zt_ri hx hb hr hlocks (fun t ht _ => Or.inr ⟨by rw [hc9]; decide, by rw [hc9], by rw [ht]; exact hP, hS.F ht⟩) hS.2.2 dL_step_13
set_option maxHeartbeats 4000000 in
set_option maxRecDepth 100000 in
/-- the helper choose -/
theorem tL_choose (l : Launch) {dC : Nat → ClassId} {dI : Nat → Nat → Nat} {cI cJ cB : ClassId} {ad : Nat → Nat} {lev val pkd : Nat → Int32} {cst : Nat → Int64} {chs : Nat → Int32} {D N F k : Nat} {L V S : Nat → Nat} {p0 : Int32} {f : Nat → Int64} {sz : Nat} (had : zg_ap ad 7) (hst : l.stackTraces = false) (hR : zx_R D N F L V lev val pkd) (hJ : zx_J D N F k L V S cst chs) (hk : k ≤ 16) : zt_Met l yL_choose wL_choose rL_choose (va_Pc [.ref (ad 0), .int p0, .ref (ad 6)] (zg_V dC dI cI cJ cB (zx_w ad cI cJ lev val pkd cst chs D N F k ++ zo_w ad cJ f) sz)) (zg_H dC dI (zc_cho (zn p0)) (fun u : (Nat → Int64) × (Nat → Int32) => zx_J D N F (zq_go (zq_pick D N F L V) (zn p0 - k) k S).1 L V (zq_go (zq_pick D N F L V) (zn p0 - k) k S).2 u.1 u.2) (zx_w ad cI cJ lev val pkd cst chs D N F k ++ zo_w ad cJ f) (fun u => (zx_w ad cI cJ lev val pkd u.1 u.2 D N F ((zq_go (zq_pick D N F L V) (zn p0 - k) k S).1) ++ zo_w ad cJ (vp_updL f 0 ((nI (zq_go (zq_pick D N F L V) (zn p0 - k) k S).1).toInt64)))) (zg_A ad 7 sz)) 1 6 0 0 (zg_A ad 7 sz) := by
  refine zt_ofWith (cc := cL_choose) (maxL := 4) (ret := some .int) (hs := [(0, 9, 12, 13)]) (by decide) rfl ?_
  intro p e s m args below meth c s₁ B hml htab hv
  obtain ⟨rfl, ⟨hsz, hP, hK, hTS⟩, hNc⟩ := hv
  have hx := B.exec
  have hb := B.bytes
  have hr := B.returns
  have hz : ∀ w ∈ zw0, w.before ([.ref (ad 0), .int p0, .ref (ad 6)] : List Value).toArray s = true := fun w h => atoms_spec (ws := wL_choose) B.pre w (List.mem_cons_of_mem _ h)
  have hown : s.vm.findClass RL = some m.cls := findClass_of_methodNamed B.named
  have hlocks := B.notSynchronized
  subst hsz
  have hPx : va_P (dC, dI) zcl (zx_w ad cI cJ lev val pkd cst chs D N F k) s.heap := hP.sub [0, 1, 2, 3, 4, 5] rfl
  have hP6 : va_P (dC, dI) zcl (zo_w ad cJ f) s.heap := hP.sub [6] rfl
  have hl := lv_entry ([.ref (ad 0), .int p0, .ref (ad 6)]) (n := 4) (Nat.le_of_ble_eq_true rfl)
  rw [lg_entry_eq]
  generalize (lg_sl ([.ref (ad 0), .int p0, .ref (ad 6)]) ++ List.replicate (4 - (lg_sl ([.ref (ad 0), .int p0, .ref (ad 6)])).length) Slot.unset).toArray = ls at hl ⊢
  have hl : lv_has ls 4 [(0, .ref (ad 0)), (1, .int p0), (2, .ref (ad 6))] := hl
  refine lv_aload_n hx hb dL_choose_0 rfl (lv_at hl 2 rfl) ?_
  refine lv_iconst (v := nI 0) hx hb dL_choose_1 (by decide) ?_
  refine lv_aload_n hx hb dL_choose_2 rfl (lv_at hl 0 rfl) ?_
  refine lv_iload_n hx hb dL_choose_3 rfl (lv_at hl 1 rfl) ?_
  refine zh_call (w0 := zx_w ad cI cJ lev val pkd cst chs D N F k) (f := f) had (zg_runU (rest := [.int (nI 0), .ref (ad 6)]) hx hb hml hown (tX_choose l (zg_ap6 had) hst hR hJ hk) (wcL_43 hz (Nat.le_of_ble_eq_true rfl) (Nat.le_of_ble_eq_true rfl)) (hz _ ki_X_choose) (hz _ ks_X_choose) (hz _ kC_X_choose) hPx hK hTS rfl (q0 := 0) rfl rfl hl.1 rfl (Nat.le_of_ble_eq_true rfl) dL_choose_4 ⟨Nat.le_of_ble_eq_true rfl, Nat.le_of_ble_eq_true rfl⟩) hP hP6 (fun hcd u H locs hu hP hS => ?_) (fun hcd x H locs hX hP hS => ?_) (fun hcd x H locs hX hP hS => ?_)
  · refine W.eq (g2 := F0 m 7 ls [.int (nI (zq_go (zq_pick D N F L V) (zn p0 - k) k S).1), .int (nI 0), .ref (ad 6)]) rfl ?_
    refine lv_i2l (v := (nI (zq_go (zq_pick D N F L V) (zn p0 - k) k S).1).toInt64) hx hb dL_choose_7 (rfl) ?_
    refine zt_last hx hb hK hP (zh_D had) hS 6 1 rfl rfl (i := 0) (by decide) (by decide) dL_choose_8 (fun H locs hP _ hS => ?_)
    have hP : va_P (dC, dI) zcl (zx_w ad cI cJ lev val pkd u.1 u.2 D N F ((zq_go (zq_pick D N F L V) (zn p0 - k) k S).1) ++ zo_w ad cJ (vp_updL f 0 ((nI (zq_go (zq_pick D N F L V) (zn p0 - k) k S).1).toInt64))) H := hP
    refine lv_goto (tgt := 15) hx hb dL_choose_9 (by decide) ?_
    refine lv_iconst (v := nI 0) hx hb dL_choose_15 (by decide) ?_
    refine W.widen (k := 1) (n := 6) (by omega) (by omega) ?_
    exact zt_ri hx hb hr hlocks (fun t ht _ => Or.inl ⟨hcd, u, rfl, hu, by rw [ht]; exact hP, hS.F ht⟩) hS.2.2 dL_choose_16
  · refine zt_catch1 htab (by decide) (by decide) (by decide) hown (hz _ kc_L_13) (hz _ kt_IllegalArgumentException) (hz _ kcast_IllegalArgumentException_IllegalArgumentException) hX ?_
    refine lv_astore_n (lv' := [(3, .ref x), (0, .ref (ad 0)), (1, .int p0), (2, .ref (ad 6))]) hx hb dL_choose_12 rfl hl (by decide) rfl (fun ls hl => ?_)
    refine lv_iconst (v := nI 1) hx hb dL_choose_13 (by decide) ?_
    exact zt_ri hx hb hr hlocks (fun t ht _ => Or.inr ⟨by rw [hcd]; decide, by rw [hcd], by rw [ht]; exact hP, hS.F ht⟩) hS.2.2 dL_choose_14
  · exact absurd hcd (by unfold zc_cho; split <;> decide)
set_option maxHeartbeats 4000000 in
set_option maxRecDepth 100000 in
/-- the helper chosen -/
theorem tL_chosen (l : Launch) {dC : Nat → ClassId} {dI : Nat → Nat → Nat} {cI cJ cB : ClassId} {ad : Nat → Nat} {lev val pkd : Nat → Int32} {cst : Nat → Int64} {chs : Nat → Int32} {D N F k : Nat} {S : Nat → Nat} {p0 : Int32} {f : Nat → Int64} {sz : Nat} (had : zg_ap ad 7) (hst : l.stackTraces = false) (h5 : k ≤ 16) (hs : ∀ i, i < k → chs i = nI (S i)) : zt_Met l yL_chosen wL_chosen rL_chosen (va_Pc [.ref (ad 0), .int p0, .ref (ad 6)] (zg_V dC dI cI cJ cB (zx_w ad cI cJ lev val pkd cst chs D N F k ++ zo_w ad cJ f) sz)) (zg_H dC dI (zc_b (zb_in p0 k)) (fun u : Unit => True) (zx_w ad cI cJ lev val pkd cst chs D N F k ++ zo_w ad cJ f) (fun u => (zx_w ad cI cJ lev val pkd cst chs D N F k ++ zo_w ad cJ (vp_updL f 0 ((nI (S p0.toNatClampNeg)).toInt64)))) (zg_A ad 7 sz)) 1 6 0 0 (zg_A ad 7 sz) := by
  refine zt_ofWith (cc := cL_chosen) (maxL := 4) (ret := some .int) (hs := [(0, 9, 12, 13)]) (by decide) rfl ?_
  intro p e s m args below meth c s₁ B hml htab hv
  obtain ⟨rfl, ⟨hsz, hP, hK, hTS⟩, hNc⟩ := hv
  have hx := B.exec
  have hb := B.bytes
  have hr := B.returns
  have hz : ∀ w ∈ zw0, w.before ([.ref (ad 0), .int p0, .ref (ad 6)] : List Value).toArray s = true := fun w h => atoms_spec (ws := wL_chosen) B.pre w (List.mem_cons_of_mem _ h)
  have hown : s.vm.findClass RL = some m.cls := findClass_of_methodNamed B.named
  have hlocks := B.notSynchronized
  subst hsz
  have hPx : va_P (dC, dI) zcl (zx_w ad cI cJ lev val pkd cst chs D N F k) s.heap := hP.sub [0, 1, 2, 3, 4, 5] rfl
  have hP6 : va_P (dC, dI) zcl (zo_w ad cJ f) s.heap := hP.sub [6] rfl
  have hl := lv_entry ([.ref (ad 0), .int p0, .ref (ad 6)]) (n := 4) (Nat.le_of_ble_eq_true rfl)
  rw [lg_entry_eq]
  generalize (lg_sl ([.ref (ad 0), .int p0, .ref (ad 6)]) ++ List.replicate (4 - (lg_sl ([.ref (ad 0), .int p0, .ref (ad 6)])).length) Slot.unset).toArray = ls at hl ⊢
  have hl : lv_has ls 4 [(0, .ref (ad 0)), (1, .int p0), (2, .ref (ad 6))] := hl
  refine lv_aload_n hx hb dL_chosen_0 rfl (lv_at hl 2 rfl) ?_
  refine lv_iconst (v := nI 0) hx hb dL_chosen_1 (by decide) ?_
  refine lv_aload_n hx hb dL_chosen_2 rfl (lv_at hl 0 rfl) ?_
  refine lv_iload_n hx hb dL_chosen_3 rfl (lv_at hl 1 rfl) ?_
  refine zh_call (w0 := zx_w ad cI cJ lev val pkd cst chs D N F k) (f := f) had (zt_Run_mono (zt_Qp_X_at (cd := zc_b (zb_in p0 k)) (fun h => if_pos h) (fun h => if_neg h) hPx) (fun q h => h.elim) (zg_runT (rest := [.int (nI 0), .ref (ad 6)]) hx hb hml hown (tX_chosen l hst h5 hs) (wcL_46 hz (Nat.le_of_ble_eq_true rfl) (Nat.le_of_ble_eq_true rfl)) (hz _ ki_X_chosen) (hz _ ks_X_chosen) (hz _ kC_X_chosen) hPx hK hTS rfl (q0 := 0) rfl rfl hl.1 rfl (Nat.le_of_ble_eq_true rfl) dL_chosen_4 ⟨Nat.le_of_ble_eq_true rfl, Nat.le_of_ble_eq_true rfl⟩)) hP hP6 (fun hcd u H locs hu hP hS => ?_) (fun hcd x H locs hX hP hS => ?_) (fun hcd x H locs hX hP hS => ?_)
  · refine W.eq (g2 := F0 m 7 ls [.int (nI (S p0.toNatClampNeg)), .int (nI 0), .ref (ad 6)]) rfl ?_
    refine lv_i2l (v := (nI (S p0.toNatClampNeg)).toInt64) hx hb dL_chosen_7 (rfl) ?_
    refine zt_last hx hb hK hP (zh_D had) hS 6 1 rfl rfl (i := 0) (by decide) (by decide) dL_chosen_8 (fun H locs hP _ hS => ?_)
    have hP : va_P (dC, dI) zcl (zx_w ad cI cJ lev val pkd cst chs D N F k ++ zo_w ad cJ (vp_updL f 0 ((nI (S p0.toNatClampNeg)).toInt64))) H := hP
    refine lv_goto (tgt := 15) hx hb dL_chosen_9 (by decide) ?_
    refine lv_iconst (v := nI 0) hx hb dL_chosen_15 (by decide) ?_
    refine W.widen (k := 1) (n := 6) (by omega) (by omega) ?_
    exact zt_ri hx hb hr hlocks (fun t ht _ => Or.inl ⟨hcd, u, rfl, hu, by rw [ht]; exact hP, hS.F ht⟩) hS.2.2 dL_chosen_16
  · refine zt_catch1 htab (by decide) (by decide) (by decide) hown (hz _ kc_L_13) (hz _ kt_IllegalArgumentException) (hz _ kcast_IllegalArgumentException_IllegalArgumentException) hX ?_
    refine lv_astore_n (lv' := [(3, .ref x), (0, .ref (ad 0)), (1, .int p0), (2, .ref (ad 6))]) hx hb dL_chosen_12 rfl hl (by decide) rfl (fun ls hl => ?_)
    refine lv_iconst (v := nI 1) hx hb dL_chosen_13 (by decide) ?_
    exact zt_ri hx hb hr hlocks (fun t ht _ => Or.inr ⟨by rw [hcd]; decide, by rw [hcd], by rw [ht]; exact hP, hS.F ht⟩) hS.2.2 dL_chosen_14
  · exact absurd hcd (by unfold zc_b; split <;> decide)
end
section
/-! the law's own rows -/
/-- what the law may change: cells that it, or what it calls, has made -/
def zl_A (sz : Nat) : Nat → Prop := fun q => sz ≤ q
theorem zh_w_at {ad : Nat → Nat} {cI cJ : ClassId} {lev val pkd chs : Nat → Int32} {cst f : Nat → Int64} {D N F k i : Nat} {q : Nat × va_E} (h : (zx_w ad cI cJ lev val pkd cst chs D N F k ++ zo_w ad cJ f)[i]? = some q) : i < 7 ∧ q.1 = ad i := by
  match i, h with
  | 0, h => cases h; exact ⟨by decide, rfl⟩
  | 1, h => cases h; exact ⟨by decide, rfl⟩
  | 2, h => cases h; exact ⟨by decide, rfl⟩
  | 3, h => cases h; exact ⟨by decide, rfl⟩
  | 4, h => cases h; exact ⟨by decide, rfl⟩
  | 5, h => cases h; exact ⟨by decide, rfl⟩
  | 6, h => cases h; exact ⟨by decide, rfl⟩
  | i + 7, h => simp at h
/-- a world at these cells -/
def zl_at (ad : Nat → Nat) (w : va_W) : Prop := ∀ (i : Nat) (q : Nat × va_E), w[i]? = some q → ∃ j, j < 7 ∧ q.1 = ad j
theorem zl_keep {dC : Nat → ClassId} {dI : Nat → Nat → Nat} {aX aM : Nat → Nat} {w : va_W} {H H1 : Heap} (hdis : ∀ i j, i < 7 → j < 7 → aX i ≠ aM j) (hw : zl_at aM w) (hP : va_P (dC, dI) zcl w H) (hk : ∀ q : Nat, q < H.size → ¬ zg_A aX 7 H.size q → H1[q]? = H[q]?) : va_P (dC, dI) zcl w H1 := by
  refine hP.kept (fun k q hkq => ?_)
  have hlt := (hP k q hkq).lt
  obtain ⟨j, hj, e⟩ := hw k q hkq
  refine hk _ hlt (fun z => ?_)
  rcases z with ⟨i, hi, e2⟩ | z
  · exact hdis i j hi hj (by rw [← e2, e])
  · omega
theorem zl_atX {ad : Nat → Nat} {cI cJ : ClassId} {lev val pkd chs : Nat → Int32} {cst f : Nat → Int64} {D N F k : Nat} : zl_at ad (zx_w ad cI cJ lev val pkd cst chs D N F k ++ zo_w ad cJ f) := fun i _ h => ⟨i, zh_w_at h⟩
theorem zl_atM {ad : Nat → Nat} {cI cJ cB : ClassId} {lev val chs dig : Nat → Int32} {est cst : Nat → Int64} {code : Int32} {D N F k : Nat} : zl_at ad (zm_w ad cI cJ cB lev val chs dig est cst code D N F k) := fun i _ h => ⟨i, zm_w_at h⟩
theorem zl_AA {ad : Nat → Nat} {sz s0 q : Nat} (h : ∀ i, i < 7 → s0 ≤ ad i) (h2 : s0 ≤ sz) (hq : zg_A ad 7 sz q) : zl_A s0 q := by
  rcases hq with ⟨i, hi, e⟩ | hq
  · show s0 ≤ q
    rw [e]
    exact h i hi
  · exact Nat.le_trans h2 hq
theorem zl_S {ad : Nat → Nat} {H0 H H1 : Heap} (h : ∀ i, i < 7 → H0.size ≤ ad i) (hS : va_S (zl_A H0.size) H0 H []) (h1 : H.size ≤ H1.size) (hk : ∀ q : Nat, q < H.size → ¬ zg_A ad 7 H.size q → H1[q]? = H[q]?) : va_S (zl_A H0.size) H0 H1 [] := by
  refine ⟨Nat.le_trans hS.1 h1, fun q g1 g2 => ?_, fun q hq => by cases hq⟩
  rw [hk q (Nat.lt_of_lt_of_le g1 hS.1) (fun z => g2 (zl_AA h hS.1 z))]
  exact hS.2.1 q g1 g2
section ZLR
variable {p : Program} {l : Launch} {e : Env} {R : Room} {s : State} {m : MethodId} {args : Array Value} {below : List Frame} {meth : Method} {c : Code} {H : Heap} {locs : List Loc} {cells slots : Nat} {Q : State → Prop}
variable {cc : ByteArray} {pc : Nat} {ls : Array Slot} {rest st0 : List Value} {kr nr kt nt : Nat} {free : Addr → Prop}
/-- script[i] -/
theorem zl_sld (hexec : p.tables.exec = Jvm.exec) (hb : c.code = cc) {b n : Nat} {xs : Nat → Int32} (hX : va_X b n xs s s.heap) (hbl : b < s.heap.size) (hS : va_S (zl_A s.heap.size) s.heap H locs) {i : Nat} (hi : i < n) (hn : n < 2 ^ 31) (hdg : decode cc pc = .ok (.iaload, 1))
    (kk : W p l e R s m args below meth c H locs cells slots Q (F0 m (pc + 1) ls (.int (xs i) :: rest))) : W p l e R s m args below meth c H locs cells slots Q (F0 m pc ls (.int (nI i) :: .ref b :: rest)) := by
  refine va_sld hexec hb hX hbl (fun z => ?_) hS (vp_in_nI hi hn) hdg ?_
  · exact absurd hbl (Nat.not_lt.mpr z)
  · rw [nI_clamp (by omega)]
    exact kk
/-- script.length -/
theorem zl_slen (hexec : p.tables.exec = Jvm.exec) (hb : c.code = cc) {b n : Nat} {xs : Nat → Int32} (hX : va_X b n xs s s.heap) (hbl : b < s.heap.size) (hS : va_S (zl_A s.heap.size) s.heap H locs) (hdg : decode cc pc = .ok (.arraylength, 1))
    (kk : W p l e R s m args below meth c H locs cells slots Q (F0 m (pc + 1) ls (.int (nI n) :: rest))) : W p l e R s m args below meth c H locs cells slots Q (F0 m pc ls (.ref b :: rest)) :=
  va_slen hexec hb hX hbl (fun z => absurd hbl (Nat.not_lt.mpr z)) hS hdg kk
/-- lcmp; ifeq of two that are one -/
theorem zl_same (hexec : p.tables.exec = Jvm.exec) (hb : c.code = cc) {x y : Int64} (hxy : x = y) {off : Int} {tgt : Nat} (hd1 : decode cc pc = .ok (.lcmp, 1)) (hdg : decode cc (pc + 1) = .ok (.ifCond .eq off, 3)) (ht : ((pc + 1 : Nat) : Int) + off = (tgt : Int))
    (k : W p l e R s m args below meth c H locs cells slots Q (F0 m tgt ls rest)) : W p l e R s m args below meth c H locs cells slots Q (F0 m pc ls (.long y :: .long x :: rest)) :=
  W.lcmp hexec hb hd1 (lv_if_eq hexec hb hdg ht (fun _ => k) (fun q => absurd ((lg_cmp_eq x y).mpr hxy) q))
/-- a helper's call -/
theorem zl_runH {dC : Nat → ClassId} {dI : Nat → Nat → Nat} {cI cJ cB : ClassId} {w : va_W} {y : MethodName} {bytes : ByteArray} {maxL nL n index : Nat} {ret : Option FieldType} {hs : List (Nat × Nat × Nat × Nat)} {ws : List Cond} {rm : Room} {Qc : Array Value → State → Outcome → State → Prop} {own : String} {As : List Value}
    (hexec : p.tables.exec = Jvm.exec) (hb : c.code = cc) (hml : c.maxLocals = nL) (hown : s.vm.findClass own = some m.cls)
    (hM : zt_Met l y ws rm (va_Pc As (zg_V dC dI cI cJ cB w H.size)) Qc kr nr kt nt free) (cw : zt_Cw R s args own index y maxL ws rm n) (hst9 : (Cond.static y).before args s = true) (hcode : (Cond.codeWith y bytes maxL ret hs).before args s = true)
    (hP : va_P (dC, dI) zcl w H) (hK : va_K (dC, dI) zcl (zg_T cI cJ cB) s) (hT : zt_TS s) (hNc : va_Nc zE_S zE_A s) (hS : va_S (zl_A s.heap.size) s.heap H locs) (hn : As.length = n) (hsize : ls.size = nL) (hst : st0 = As.reverse ++ rest) (hW : (rest.map fun v => v.category).sum ≤ 8) (hdg : decode cc pc = .ok (.invokestatic index, 3)) (hf : cells + rm.cells ≤ R.cells ∧ slots + rm.slots ≤ R.slots) :
    zt_Run p l e R s m args below meth c H locs cells slots kr nr kt nt (F0 m pc ls st0) rest (Qc As.toArray) free := by
  refine zt_runS hexec hb hml hown hM cw hst9 ?_ ⟨zg_V_blind, fun U hU hW => ⟨rfl, ⟨by rw [hU], by rw [hU]; exact hP, va_K.moved hW.alike hK, zt_TS_to hT hW (fun q hq => by rw [hU]; exact hS.2.1 q hq (fun z => absurd hq (Nat.not_lt.mpr z)))⟩, va_Nc.moved hW.alike hNc⟩⟩ rfl hn hsize hst (lv_room hW) hdg hf
  obtain ⟨mk, methM, cM, h1, h2, h3, -, h5, -, -, -, h9⟩ := Cond.codeWith_spec hcode
  exact ⟨mk, methM, cM, h1, h2, h3, h5, h9⟩
/-- behind a helper -/
theorem zl_callH {S : Type} {dC : Nat → ClassId} {dI : Nat → Nat → Nat} {aX aM : Nat → Nat} {cd : Nat} {post : S → Prop} {w0 wM : va_W} {w : S → va_W} {a : Array Value} (hr : zt_Run p l e R s m args below meth c H [] cells slots 1 6 0 0 (F0 m pc ls st0) rest (zg_H dC dI cd post w0 w (zg_A aX 7 H.size) a) (zg_A aX 7 H.size))
    (hdis : ∀ i j, i < 7 → j < 7 → aX i ≠ aM j) (hge : ∀ i, i < 7 → s.heap.size ≤ aX i) (hat : zl_at aM wM) (hPM : va_P (dC, dI) zcl wM H) (hS : va_S (zl_A s.heap.size) s.heap H [])
    (k0 : cd = 0 → ∀ (u : S) (H1 : Heap), post u → va_P (dC, dI) zcl (w u) H1 → va_P (dC, dI) zcl wM H1 → va_S (zl_A s.heap.size) s.heap H1 [] → W p l e R s m args below meth c H1 [] (cells + 1) (slots + 6) Q (F0 m (pc + 3) ls (.int (nI 0) :: rest)))
    (k1 : cd ≠ 0 → ∀ H1 : Heap, va_P (dC, dI) zcl w0 H1 → va_P (dC, dI) zcl wM H1 → va_S (zl_A s.heap.size) s.heap H1 [] → W p l e R s m args below meth c H1 [] (cells + 1) (slots + 6) Q (F0 m (pc + 3) ls (.int (nI cd) :: rest))) :
    W p l e R s m args below meth c H [] cells slots Q (F0 m pc ls st0) := by
  refine zt_callr hr (fun x st t hq => ?_) (fun v st t L h0 hW0 hWt hL hq => ?_)
  · rcases hq with ⟨_, u, h, _⟩ | ⟨_, h, _⟩ <;> cases h
  · refine zt_W_forget (L := L) (fun q hq => zl_AA hge hS.1 (hL q hq)) ?_
    rcases hq with ⟨hcd, u, hv, hp, hP, hz, hk⟩ | ⟨hcd, hv, hP, hz, hk⟩
    · cases hv
      rw [h0] at hz hk
      exact k0 hcd u t.heap hp hP (zl_keep hdis hat hPM hk) (zl_S hge hS hz hk)
    · cases hv
      rw [h0] at hz hk
      exact k1 hcd t.heap hP (zl_keep hdis hat hPM hk) (zl_S hge hS hz hk)
/-- behind a writer of either object -/
theorem zl_callM {S : Type} {dC : Nat → ClassId} {dI : Nat → Nat → Nat} {aX aM : Nat → Nat} {r : S → Option Value} {post : S → Prop} {wM : va_W} {w : S → va_W} {A : Nat → Prop} {a : Array Value} (hr : zt_Run p l e R s m args below meth c H [] cells slots 0 0 0 0 (F0 m pc ls st0) rest (zg_Q dC dI r post w A a) A) (hA : ∀ q, A q → zg_A aX 7 H.size q)
    (hdis : ∀ i j, i < 7 → j < 7 → aX i ≠ aM j) (hge : ∀ i, i < 7 → s.heap.size ≤ aX i) (hat : zl_at aM wM) (hPM : va_P (dC, dI) zcl wM H) (hS : va_S (zl_A s.heap.size) s.heap H [])
    (k0 : ∀ (u : S) (H1 : Heap), post u → va_P (dC, dI) zcl (w u) H1 → va_P (dC, dI) zcl wM H1 → (∀ q : Nat, q < H.size → ¬ A q → H1[q]? = H[q]?) → va_S (zl_A s.heap.size) s.heap H1 [] → W p l e R s m args below meth c H1 [] cells slots Q (F0 m (pc + 3) ls ((r u).toList ++ rest))) :
    W p l e R s m args below meth c H [] cells slots Q (F0 m pc ls st0) := by
  refine zt_callr hr (fun x st t hq => ?_) (fun v st t L h0 hW0 hWt hL hq => ?_)
  · obtain ⟨u, h, _⟩ := hq
    cases h
  · refine zt_W_forget (L := L) (fun q hq => zl_AA hge hS.1 (hA _ (hL q hq))) ?_
    obtain ⟨u, hv, hp, hP, hz, hk⟩ := hq
    cases hv
    rw [h0] at hz hk
    have hk7 : ∀ q : Nat, q < H.size → ¬ zg_A aX 7 H.size q → t.heap[q]? = H[q]? := fun q h1 h2 => hk q h1 (fun z => h2 (hA q z))
    exact k0 u t.heap hp hP (zl_keep hdis hat hPM hk7) hk (zl_S hge hS hz hk7)
end ZLR
theorem zc_dim_le (a D N : Nat) : zc_dim a D N < 2 ^ 31 := by unfold zc_dim; split <;> (try split) <;> decide
theorem zc_val_le (a b n D : Nat) (L : Nat → Nat) : zc_val a b n D L < 2 ^ 31 := by unfold zc_val; split <;> decide
theorem zc_fac_le (a : Nat) : zc_fac a < 2 ^ 31 := by unfold zc_fac; split <;> decide
theorem zc_take_le (a N k : Nat) : zc_take a N k < 2 ^ 31 := by unfold zc_take; split <;> (try split) <;> decide
theorem zc_st_le (k : Nat) : zc_st k < 2 ^ 31 := by unfold zc_st; split <;> decide
theorem zc_cho_le (a : Nat) : zc_cho a < 2 ^ 31 := by unfold zc_cho; split <;> decide
theorem zc_b_le (b : Bool) : zc_b b < 2 ^ 31 := by unfold zc_b; split <;> decide
theorem zc_ne {cd : Nat} (h : cd ≠ 0) (h2 : cd < 2 ^ 31) : ¬ nI cd = 0 := nI_ne0 (Nat.pos_of_ne_zero h) h2
/-! what both objects hold, between two calls of the law -/
def zl_I (dC : Nat → ClassId) (dI : Nat → Nat → Nat) (cI cJ cB : ClassId) (aX aM : Nat → Nat) (H : Heap) (D N F k : Nat) (L V S : Nat → Nat) : Prop :=
  ∃ (lev val pkd : Nat → Int32) (cst : Nat → Int64) (chs : Nat → Int32) (f : Nat → Int64) (levm valm chsm dig : Nat → Int32) (est cstm : Nat → Int64) (code : Int32), zx_R D N F L V lev val pkd ∧ zx_J D N F k L V S cst chs ∧ zm_R D N F L V levm valm dig ∧ zm_S N k S chsm ∧ (∀ j, 4 * D ≤ j → V j = 0) ∧
    va_P (dC, dI) zcl (zx_w aX cI cJ lev val pkd cst chs D N F k ++ zo_w aX cJ f) H ∧ va_P (dC, dI) zcl (zm_w aM cI cJ cB levm valm chsm dig est cstm code D N F k) H
/-- nothing chosen -/
theorem zx_J0 {D N F : Nat} {L V S : Nat → Nat} {cst : Nat → Int64} {chs : Nat → Int32} (hN : N ≤ 512) (h : ∀ j, j < 512 → cst j = lN F) : zx_J D N F 0 L V S cst chs := ⟨fun w hw => h w (by omega), fun i hi => absurd hi (Nat.not_lt_zero i)⟩
theorem zm_S0 {N : Nat} {S : Nat → Nat} {chs : Nat → Int32} : zm_S N 0 S chs := ⟨Nat.zero_le _, fun i hi => absurd hi (Nat.not_lt_zero i), fun i hi => absurd hi (Nat.not_lt_zero i)⟩
theorem zq_nv_up (L : Nat → Nat) (D a : Nat) : zq_nv (zq_up L D a) (D + 1) = zq_nv L D * (a + 1) := by
  have h : ∀ n, n ≤ D → zq_nv (zq_up L D a) n = zq_nv L n := by
    intro n
    induction n with
    | zero => intro _; rfl
    | succ n ih =>
      intro hn
      show zq_nv (zq_up L D a) n * (zq_up L D a n + 1) = zq_nv L n * (L n + 1)
      rw [ih (by omega), zq_up_n L (by omega)]
  show zq_nv (zq_up L D a) D * (zq_up L D a D + 1) = _
  rw [h D (Nat.le_refl _), zq_up_s]
theorem zc_dim_0 {a D N : Nat} (h : zc_dim a D N = 0) : (1 ≤ a ∧ a ≤ 4) ∧ D < 8 ∧ N * (a + 1) ≤ 512 := by
  unfold zc_dim at h
  split at h
  · split at h
    · exact ⟨by assumption, by assumption⟩
    · cases h
  · cases h
theorem zc_val_0 {a b n D : Nat} {L : Nat → Nat} (h : zc_val a b n D L = 0) : a < D ∧ b < L a ∧ n ≤ 1000000 := by
  unfold zc_val at h
  split at h
  · assumption
  · cases h
theorem zc_fac_0 {a : Nat} (h : zc_fac a = 0) : a < 2 ^ 31 := by
  unfold zc_fac at h
  split at h
  · assumption
  · cases h
theorem zc_take_0 {a N k : Nat} (h : zc_take a N k = 0) : a < N ∧ k < 16 := by
  unfold zc_take at h
  split at h
  · split at h
    · exact ⟨by assumption, by assumption⟩
    · cases h
  · cases h
theorem zc_b_0 {b : Bool} (h : zc_b b = 0) : b = true := by
  unfold zc_b at h
  split at h
  · assumption
  · cases h
theorem zx_R_dim {D N F a : Nat} {L V : Nat → Nat} {lev val pkd pkd' : Nat → Int32} (h : zx_R D N F L V lev val pkd) (hc : zc_dim a D N = 0) (hp : ∀ w, w < N * (a + 1) → pkd' w = nI (zq_pk (zq_up L D a) (D + 1) w)) : zx_R (D + 1) (N * (a + 1)) F (zq_up L D a) V (upd lev D (nI a)) val pkd' := by
  obtain ⟨h1, h2, h3, h4, h5, h6, h7, h8, h9⟩ := h
  obtain ⟨⟨g1, g2⟩, g3, g4⟩ := zc_dim_0 hc
  exact ⟨by omega, zq_upL h2 g1 g2, by rw [zq_nv_up, h3], g4, h5, h6, zq_upV h7, h8, hp⟩
theorem zm_R_dim {D N F a : Nat} {L V : Nat → Nat} {lev val dig val' dig' : Nat → Int32} (h : zm_R D N F L V lev val dig) (hc : zc_dim a D N = 0) (hv : ∀ j, j < 32 → val' j = nI (V j)) (hp : ∀ w, w < N * (a + 1) → ∀ d, d < D + 1 → dig' (8 * w + d) = nI (zq_dg (zq_up L D a) (D + 1) w d)) : zm_R (D + 1) (N * (a + 1)) F (zq_up L D a) V (upd lev D (nI a)) val' dig' := by
  obtain ⟨h1, h2, h3, h4, h5, h6, h7, h8, h9⟩ := h
  obtain ⟨⟨g1, g2⟩, g3, g4⟩ := zc_dim_0 hc
  exact ⟨by omega, zq_upL h2 g1 g2, by rw [zq_nv_up, h3], g4, h5, h6, zq_upV h7, hv, hp⟩
theorem zq_upB {V : Nat → Nat} {i n : Nat} (h : ∀ j, V j ≤ 1000000) (hn : n ≤ 1000000) : ∀ j, zq_up V i n j ≤ 1000000 := by
  intro j
  by_cases e : j = i
  · rw [e, zq_up_s]; exact hn
  · rw [zq_up_n V e]; exact h j
theorem zq_upW {V : Nat → Nat} {i n : Nat} {val : Nat → Int32} (h : ∀ j, j < 32 → val j = nI (V j)) : ∀ j, j < 32 → upd val i (nI n) j = nI (zq_up V i n j) := by
  intro j hj
  by_cases e : j = i
  · rw [e, pk_us, zq_up_s]
  · rw [pk_un e, zq_up_n V e]; exact h j hj
theorem zx_R_val {D N F i n : Nat} {L V : Nat → Nat} {lev val pkd : Nat → Int32} (h : zx_R D N F L V lev val pkd) (hn : n ≤ 1000000) : zx_R D N F L (zq_up V i n) lev (upd val i (nI n)) pkd := by
  obtain ⟨h1, h2, h3, h4, h5, h6, h7, h8, h9⟩ := h
  exact ⟨h1, h2, h3, h4, h5, zq_upB h6 hn, h7, zq_upW h8, h9⟩
theorem zm_R_val {D N F i n : Nat} {L V : Nat → Nat} {lev val dig : Nat → Int32} (h : zm_R D N F L V lev val dig) (hn : n ≤ 1000000) : zm_R D N F L (zq_up V i n) lev (upd val i (nI n)) dig := by
  obtain ⟨h1, h2, h3, h4, h5, h6, h7, h8, h9⟩ := h
  exact ⟨h1, h2, h3, h4, h5, zq_upB h6 hn, h7, zq_upW h8, h9⟩
theorem zx_R_fac {D N F F' : Nat} {L V : Nat → Nat} {lev val pkd : Nat → Int32} (h : zx_R D N F L V lev val pkd) (hF : F' < 2 ^ 31) : zx_R D N F' L V lev val pkd := by
  obtain ⟨h1, h2, h3, h4, h5, h6, h7, h8, h9⟩ := h
  exact ⟨h1, h2, h3, h4, hF, h6, h7, h8, h9⟩
theorem zm_R_fac {D N F F' : Nat} {L V : Nat → Nat} {lev val dig : Nat → Int32} (h : zm_R D N F L V lev val dig) (hF : F' < 2 ^ 31) : zm_R D N F' L V lev val dig := by
  obtain ⟨h1, h2, h3, h4, h5, h6, h7, h8, h9⟩ := h
  exact ⟨h1, h2, h3, h4, hF, h6, h7, h8, h9⟩
end
section
-- the skeleton's rows (kit/laws/SKELETON.whole): the law's own end, what holds at its entry
/-! THE CLAIM OUT OF ONE WALK OF THE LAW'S BODY. Your part is whole_start (and what it stands on); all else here is the same for every law, but numbers. -/
def R_law : String := "ViewChooserLaw"
def lw_P (b : Addr) (xs : List Int32) (args : Array Value) (s : State) : Prop := args = #[.ref b] ∧ s.IntsAt b xs ∧ xs.length ≤ 2048 ∧ (Jvm.Cond.and given_1 narrow_1).before args s = true
def lw_Q (_ : Array Value) (s : State) (o : Outcome) (t : State) : Prop := o = .returned (some (.int 1)) ∧ Framed s o t [] 1050 14541
def lw_Z (below : List Frame) (a : Array Value) (s : State) : State → Prop := fun t => ∃ o, t.status = .running ∧ Ended t below o ∧ lw_Q a s o t
/-- the law's own end, with 1 on the stack, nothing written that was there before, its room as the claim has it -/
theorem lw_ret {p : Program} {l : Launch} {e : Env} {s : State} {m : MethodId} {below : List Frame} {meth : Method} {c : Code} {b : Nat} (hx : p.tables.exec = Jvm.exec) (hb : c.code = code) (hr : meth.sig.returnType = ret) (hlocks : meth.locks = false) {pc : Nat} {H : Heap} {ls : Array Slot} (hdg : decode code pc = .ok (.ireturn, 1)) : W p l e room_1 s m #[Value.ref b] below meth c H [] 1050 14541 (lw_Z below #[Value.ref b] s) (F0 m pc ls [.int 1]) := by
  intro T hT X
  obtain ⟨fs, hret, hrun, hended, hW, hframe⟩ := X.leave (v := some (.int 1)) (hlocks := hlocks) (fun h => by rw [hr] at h; cases h)
  have hmeth' : T.vm.method? m = some meth := X.method'
  refine ⟨T.setFrames fs, ?_, .returned (some (.int 1)), hrun, hended, rfl, ⟨_, rfl⟩, hW, hframe⟩
  jvm_step X.here [X.here.top, hx, hb, hdg, hmeth', hr, ret, narrow_b1]
  (try refine ⟨rfl, ?_⟩); (try refine ⟨rfl, ?_⟩)
  first | (intro acts; rw [hret _ acts rfl rfl rfl]) | rw [hret _ _ rfl rfl rfl]
  exact Steps.refl _
/-- what holds at the law's entry: the machine, the code, the tables' words (any of lw_tbl by 'hts w (by decide +kernel)'), the script of L ints xs at the cell b, what the Statement gives of the start (any of its parts by flat_of_before) -/
def lw_At (p : Program) (s : State) (m : MethodId) (meth : Method) (c : Code) (b L : Nat) (xs : Nat → Int32) : Prop :=
  p.tables.exec = Jvm.exec ∧ c.code = code ∧ meth.sig.returnType = ret ∧ c.maxLocals = 8 ∧ s.vm.findClass R_law = some m.cls ∧ (∀ w ∈ lw_tbl, w.before #[Value.ref b] s = true) ∧ va_X b L xs s s.heap ∧ b < s.heap.size ∧ meth.locks = false ∧ (Jvm.Cond.and given_1 narrow_1).before #[Value.ref b] s = true
end
section
/-! the law's cases, one after the other: by program (wip/gen/law_cases.py) -/
/-- what doesn't change while the law runs -/
def zl_C (p : Program) (l : Launch) (s : State) (m : MethodId) (c : Code) (b n : Nat) (xs : Nat → Int32) (dC : Nat → ClassId) (dI : Nat → Nat → Nat) (cI cJ cB : ClassId) (aX aM : Nat → Nat) : Prop :=
  p.tables.exec = Jvm.exec ∧ c.code = cL_law ∧ c.maxLocals = 8 ∧ s.vm.findClass RL = some m.cls ∧ (∀ w ∈ zw0, w.before #[Value.ref b] s = true) ∧ va_K (dC, dI) zcl (zg_T cI cJ cB) s ∧ zt_TS s ∧ va_Nc zE_S zE_A s ∧ l.stackTraces = false ∧ zg_ap aX 7 ∧ zg_ap aM 7 ∧ (∀ i j, i < 7 → j < 7 → aX i ≠ aM j) ∧ (∀ i, i < 7 → s.heap.size ≤ aX i) ∧ (∀ i, i < 7 → s.heap.size ≤ aM i) ∧ va_X b n xs s s.heap ∧ b < s.heap.size ∧ n ≤ 2048
set_option maxHeartbeats 4000000 in
set_option maxRecDepth 100000 in
/-- case 0: dimension -/
theorem zl_c0 {p : Program} {l : Launch} {e : Env} {s : State} {m : MethodId} {below : List Frame} {meth : Method} {c : Code} {b n : Nat} {xs : Nat → Int32} {dC : Nat → ClassId} {dI : Nat → Nat → Nat} {cI cJ cB : ClassId} {aX aM : Nat → Nat} (C : zl_C p l s m c b n xs dC dI cI cJ cB aX aM) {cells slots i : Nat} (hc9 : cells + 1 ≤ 1050) (hs9 : slots + 6 ≤ 14541) (hi : i + 4 ≤ n) {H : Heap} (hS : va_S (zl_A s.heap.size) s.heap H []) {D N F k : Nat} {L V S : Nat → Nat} (hI : zl_I dC dI cI cJ cB aX aM H D N F k L V S) {ls : Array Slot} (hl : lv_has ls 8 [(0, .ref b), (1, .ref (aX 0)), (2, .ref (aM 0)), (3, .ref (aX 6)), (4, .int (nI i))]) {Q : State → Prop}
    (kk : ∀ (H : Heap) (D N F k : Nat) (L V S : Nat → Nat), va_S (zl_A s.heap.size) s.heap H [] → zl_I dC dI cI cJ cB aX aM H D N F k L V S → ∀ ls : Array Slot, lv_has ls 8 [(0, .ref b), (1, .ref (aX 0)), (2, .ref (aM 0)), (3, .ref (aX 6)), (4, .int (nI i))] → W p l e room_1 s m #[Value.ref b] below meth c H [] (cells + 1) (slots + 6) Q (F0 m 758 ls [])) : W p l e room_1 s m #[Value.ref b] below meth c H [] cells slots Q (F0 m 104 ls []) := by
  obtain ⟨hx, hb, hml, hown, hz, hK, hTS, hNc, hst, hadX, hadM, hdis, hgX, hgM, hXs, hbl, hn⟩ := C
  obtain ⟨lev, val, pkd, cst, chs, f, levm, valm, chsm, dig, est, cstm, code, hR, hJ, hRm, hs, hV0, hP, hPM⟩ := hI
  have hk := hs.1
  have hdis2 : ∀ i j, i < 7 → j < 7 → aM i ≠ aX j := fun i j hi hj e => hdis j i hj hi e.symm
  refine lv_aload_n hx hb dL_law_104 rfl (lv_at hl 1 rfl) ?_
  refine lv_aload_n hx hb dL_law_105 rfl (lv_at hl 0 rfl) ?_
  refine lv_iload hx hb dL_law_106 (lv_at hl 4 rfl) ?_
  refine lv_iconst (v := nI 1) hx hb dL_law_108 (by decide) ?_
  refine lv_iadd hx hb dL_law_109 ?_
  refine zt_ti (nI_add _ _) ?_
  refine zl_sld hx hb hXs hbl hS (i := i + 1) (by omega) (by omega) dL_law_110 ?_
  refine lv_aload_n hx hb dL_law_111 rfl (lv_at hl 3 rfl) ?_
  refine zl_callH (aX := aX) (aM := aM) (zl_runH (rest := []) hx hb hml hown (tL_dimension l hadX hst hR) (wcL_53 hz (Nat.le_of_ble_eq_true rfl) (Nat.le_of_ble_eq_true rfl)) (hz _ kst_L_dimension) (hz _ kC_L_dimension) hP hK hTS hNc hS rfl hl.1 rfl (Nat.le_of_ble_eq_true rfl) dL_law_112 ⟨by show cells + 1 ≤ 1050; omega, by show slots + 6 ≤ 14541; omega⟩) hdis hgX zl_atM hPM hS (fun hcd v H hv hP hPM hS => ?_) (fun hcd H hP hPM hS => ?_)
  · refine lv_istore (lv' := [(5, .int (nI 0)), (0, .ref b), (1, .ref (aX 0)), (2, .ref (aM 0)), (3, .ref (aX 6)), (4, .int (nI i))]) hx hb dL_law_115 hl (by decide) rfl (fun ls hl => ?_)
    refine lv_aload_n hx hb dL_law_117 rfl (lv_at hl 3 rfl) ?_
    refine lv_aload_n hx hb dL_law_118 rfl (lv_at hl 1 rfl) ?_
    refine lv_iload hx hb dL_law_119 (lv_at hl 5 rfl) ?_
    refine lv_iconst (v := nI 1) hx hb dL_law_121 (by decide) ?_
    refine lv_iadd hx hb dL_law_122 ?_
    refine zt_ti (nI_add _ _) ?_
    refine zl_sld hx hb hXs hbl hS (i := i + 1) (by omega) (by omega) dL_law_123 ?_
    refine zl_callM (aX := aM) (aM := aX) (zg_runC (rest := []) hx hb hml hown (tM_dimension l hadM hRm hV0) (wcL_58 hz (Nat.le_of_ble_eq_true rfl) (Nat.le_of_ble_eq_true rfl)) (hz _ ki_M_dimension) (hz _ ks_M_dimension) (hz _ kC_M_dimension) hPM hK rfl (q0 := 0) rfl rfl hl.1 rfl (Nat.le_of_ble_eq_true rfl) dL_law_124 ⟨by show cells + 1 + 0 ≤ 1050; omega, by show slots + 6 + 0 ≤ 14541; omega⟩) (fun _ h => h) hdis2 hgM zl_atX hP hS (fun ⟨u1, u2, u3, u4, u5, u6, u7⟩ H hu hPM hP _ hS => ?_)
    refine W.eq (g2 := F0 m 127 ls [.int u1]) rfl ?_
    rcases hu with ⟨-, e1, e2, e3, e4, e5⟩ | ⟨q, -⟩
    · dsimp only at e1 e2 e3 e4 e5
      cases e5
      subst e1
      subst e2
      refine W.eq (g2 := F0 m 127 ls [.int (nI D)]) rfl ?_
      refine lv_istore (lv' := [(6, .int (nI D)), (5, .int (nI 0)), (0, .ref b), (1, .ref (aX 0)), (2, .ref (aM 0)), (3, .ref (aX 6)), (4, .int (nI i))]) hx hb dL_law_127 hl (by decide) rfl (fun ls hl => ?_)
      refine lv_aload_n hx hb dL_law_129 rfl (lv_at hl 4 rfl) ?_
      refine zt_callRi (r := nI (zc_dim (zn (xs (i + 1))) D N)) (zg_run (rest := []) hx hb hml hown (tM_thrown l) (wcL_59 hz (Nat.le_of_ble_eq_true rfl) (Nat.le_of_ble_eq_true rfl)) (hz _ ki_M_thrown) (hz _ ks_M_thrown) (hz _ kC_M_thrown) hPM hK rfl (q0 := 0) rfl rfl hl.1 rfl (Nat.le_of_ble_eq_true rfl) dL_law_130 ⟨by show cells + 1 + 0 ≤ 1050; omega, by show slots + 6 + 0 ≤ 14541; omega⟩) ?_
      refine lv_iload hx hb dL_law_133 (lv_at hl 1 rfl) ?_
      refine lv_icmp_eq (tgt := 140) hx hb dL_law_135 (by decide) (fun _ => ?_) (fun c135 => absurd c135 (not_not_intro (by rw [hcd])))
      refine lv_iload hx hb dL_law_140 (lv_at hl 1 rfl) ?_
      refine lv_if_ne (tgt := 157) hx hb dL_law_142 (by decide) (fun c142 => absurd c142 (not_not_intro (by decide))) (fun _ => ?_)
      refine lv_aload_n hx hb dL_law_145 rfl (lv_at hl 5 rfl) ?_
      refine lv_iconst (v := nI 0) hx hb dL_law_146 (by decide) ?_
      refine zt_lald hx hb hK hP 6 1 rfl rfl (i := 0) (by decide) (by decide) (v := lN D) (if_pos rfl) dL_law_147 ?_
      refine lv_iload hx hb dL_law_148 (lv_at hl 0 rfl) ?_
      refine lv_i2l (v := lN D) hx hb dL_law_150 (nI_l (by have := hR.1; omega)) ?_
      refine zl_same (tgt := 157) hx hb rfl dL_law_151 dL_law_152 (by decide) ?_
      refine lv_goto (tgt := 758) hx hb dL_law_157 (by decide) ?_
      exact kk H (D + 1) (N * (zn (xs (i + 1)) + 1)) F 0 (zq_up L D (zn (xs (i + 1)))) V S hS ⟨_, _, _, _, _, _, _, _, _, _, _, _, _, zx_R_dim hR hcd hv.1, zx_J0 (zc_dim_0 hcd).2.2 hv.2, zm_R_dim hRm hcd e3 e4, zm_S0, fun j hj => hV0 j (by omega), hP, hPM⟩ ls (lv_sub hl [2, 3, 4, 5, 6] rfl)
    · exact absurd hcd q
  · refine lv_istore (lv' := [(5, .int (nI (zc_dim (zn (xs (i + 1))) D N))), (0, .ref b), (1, .ref (aX 0)), (2, .ref (aM 0)), (3, .ref (aX 6)), (4, .int (nI i))]) hx hb dL_law_115 hl (by decide) rfl (fun ls hl => ?_)
    refine lv_aload_n hx hb dL_law_117 rfl (lv_at hl 3 rfl) ?_
    refine lv_aload_n hx hb dL_law_118 rfl (lv_at hl 1 rfl) ?_
    refine lv_iload hx hb dL_law_119 (lv_at hl 5 rfl) ?_
    refine lv_iconst (v := nI 1) hx hb dL_law_121 (by decide) ?_
    refine lv_iadd hx hb dL_law_122 ?_
    refine zt_ti (nI_add _ _) ?_
    refine zl_sld hx hb hXs hbl hS (i := i + 1) (by omega) (by omega) dL_law_123 ?_
    refine zl_callM (aX := aM) (aM := aX) (zg_runC (rest := []) hx hb hml hown (tM_dimension l hadM hRm hV0) (wcL_58 hz (Nat.le_of_ble_eq_true rfl) (Nat.le_of_ble_eq_true rfl)) (hz _ ki_M_dimension) (hz _ ks_M_dimension) (hz _ kC_M_dimension) hPM hK rfl (q0 := 0) rfl rfl hl.1 rfl (Nat.le_of_ble_eq_true rfl) dL_law_124 ⟨by show cells + 1 + 0 ≤ 1050; omega, by show slots + 6 + 0 ≤ 14541; omega⟩) (fun _ h => h) hdis2 hgM zl_atX hP hS (fun ⟨u1, u2, u3, u4, u5, u6, u7⟩ H hu hPM hP _ hS => ?_)
    refine W.eq (g2 := F0 m 127 ls [.int u1]) rfl ?_
    rcases hu with ⟨q, -⟩ | ⟨-, e1⟩
    · exact absurd q hcd
    · dsimp only at e1
      cases e1
      refine lv_istore (lv' := [(6, .int u1), (5, .int (nI (zc_dim (zn (xs (i + 1))) D N))), (0, .ref b), (1, .ref (aX 0)), (2, .ref (aM 0)), (3, .ref (aX 6)), (4, .int (nI i))]) hx hb dL_law_127 hl (by decide) rfl (fun ls hl => ?_)
      refine lv_aload_n hx hb dL_law_129 rfl (lv_at hl 4 rfl) ?_
      refine zt_callRi (r := nI (zc_dim (zn (xs (i + 1))) D N)) (zg_run (rest := []) hx hb hml hown (tM_thrown l) (wcL_59 hz (Nat.le_of_ble_eq_true rfl) (Nat.le_of_ble_eq_true rfl)) (hz _ ki_M_thrown) (hz _ ks_M_thrown) (hz _ kC_M_thrown) hPM hK rfl (q0 := 0) rfl rfl hl.1 rfl (Nat.le_of_ble_eq_true rfl) dL_law_130 ⟨by show cells + 1 + 0 ≤ 1050; omega, by show slots + 6 + 0 ≤ 14541; omega⟩) ?_
      refine lv_iload hx hb dL_law_133 (lv_at hl 1 rfl) ?_
      refine lv_icmp_eq (tgt := 140) hx hb dL_law_135 (by decide) (fun _ => ?_) (fun c135 => absurd c135 (not_not_intro rfl))
      refine lv_iload hx hb dL_law_140 (lv_at hl 1 rfl) ?_
      refine lv_if_ne (tgt := 157) hx hb dL_law_142 (by decide) (fun _ => ?_) (fun c142 => absurd c142 (zc_ne hcd (zc_dim_le _ _ _)))
      refine lv_goto (tgt := 758) hx hb dL_law_157 (by decide) ?_
      exact kk H D N F k L V S hS ⟨_, _, _, _, _, _, _, _, _, _, _, _, _, hR, hJ, hRm, hs, hV0, hP, hPM⟩ ls (lv_sub hl [2, 3, 4, 5, 6] rfl)
set_option maxHeartbeats 4000000 in
set_option maxRecDepth 100000 in
/-- case 1: values -/
theorem zl_c1 {p : Program} {l : Launch} {e : Env} {s : State} {m : MethodId} {below : List Frame} {meth : Method} {c : Code} {b n : Nat} {xs : Nat → Int32} {dC : Nat → ClassId} {dI : Nat → Nat → Nat} {cI cJ cB : ClassId} {aX aM : Nat → Nat} (C : zl_C p l s m c b n xs dC dI cI cJ cB aX aM) {cells slots i : Nat} (hc9 : cells + 1 ≤ 1050) (hs9 : slots + 6 ≤ 14541) (hi : i + 4 ≤ n) {H : Heap} (hS : va_S (zl_A s.heap.size) s.heap H []) {D N F k : Nat} {L V S : Nat → Nat} (hI : zl_I dC dI cI cJ cB aX aM H D N F k L V S) {ls : Array Slot} (hl : lv_has ls 8 [(0, .ref b), (1, .ref (aX 0)), (2, .ref (aM 0)), (3, .ref (aX 6)), (4, .int (nI i))]) {Q : State → Prop}
    (kk : ∀ (H : Heap) (D N F k : Nat) (L V S : Nat → Nat), va_S (zl_A s.heap.size) s.heap H [] → zl_I dC dI cI cJ cB aX aM H D N F k L V S → ∀ ls : Array Slot, lv_has ls 8 [(0, .ref b), (1, .ref (aX 0)), (2, .ref (aM 0)), (3, .ref (aX 6)), (4, .int (nI i))] → W p l e room_1 s m #[Value.ref b] below meth c H [] (cells + 1) (slots + 6) Q (F0 m 758 ls [])) : W p l e room_1 s m #[Value.ref b] below meth c H [] cells slots Q (F0 m 160 ls []) := by
  obtain ⟨hx, hb, hml, hown, hz, hK, hTS, hNc, hst, hadX, hadM, hdis, hgX, hgM, hXs, hbl, hn⟩ := C
  obtain ⟨lev, val, pkd, cst, chs, f, levm, valm, chsm, dig, est, cstm, code, hR, hJ, hRm, hs, hV0, hP, hPM⟩ := hI
  have hk := hs.1
  have hdis2 : ∀ i j, i < 7 → j < 7 → aM i ≠ aX j := fun i j hi hj e => hdis j i hj hi e.symm
  refine lv_aload_n hx hb dL_law_160 rfl (lv_at hl 1 rfl) ?_
  refine lv_aload_n hx hb dL_law_161 rfl (lv_at hl 0 rfl) ?_
  refine lv_iload hx hb dL_law_162 (lv_at hl 4 rfl) ?_
  refine lv_iconst (v := nI 1) hx hb dL_law_164 (by decide) ?_
  refine lv_iadd hx hb dL_law_165 ?_
  refine zt_ti (nI_add _ _) ?_
  refine zl_sld hx hb hXs hbl hS (i := i + 1) (by omega) (by omega) dL_law_166 ?_
  refine lv_aload_n hx hb dL_law_167 rfl (lv_at hl 0 rfl) ?_
  refine lv_iload hx hb dL_law_168 (lv_at hl 4 rfl) ?_
  refine lv_iconst (v := nI 2) hx hb dL_law_170 (by decide) ?_
  refine lv_iadd hx hb dL_law_171 ?_
  refine zt_ti (nI_add _ _) ?_
  refine zl_sld hx hb hXs hbl hS (i := i + 2) (by omega) (by omega) dL_law_172 ?_
  refine lv_aload_n hx hb dL_law_173 rfl (lv_at hl 0 rfl) ?_
  refine lv_iload hx hb dL_law_174 (lv_at hl 4 rfl) ?_
  refine lv_iconst (v := nI 3) hx hb dL_law_176 (by decide) ?_
  refine lv_iadd hx hb dL_law_177 ?_
  refine zt_ti (nI_add _ _) ?_
  refine zl_sld hx hb hXs hbl hS (i := i + 3) (by omega) (by omega) dL_law_178 ?_
  refine lv_aload_n hx hb dL_law_179 rfl (lv_at hl 3 rfl) ?_
  refine zl_callH (aX := aX) (aM := aM) (zl_runH (rest := []) hx hb hml hown (tL_values l hadX hst hR) (wcL_62 hz (Nat.le_of_ble_eq_true rfl) (Nat.le_of_ble_eq_true rfl)) (hz _ kst_L_values) (hz _ kC_L_values) hP hK hTS hNc hS rfl hl.1 rfl (Nat.le_of_ble_eq_true rfl) dL_law_180 ⟨by show cells + 1 ≤ 1050; omega, by show slots + 6 ≤ 14541; omega⟩) hdis hgX zl_atM hPM hS (fun hcd v H hv hP hPM hS => ?_) (fun hcd H hP hPM hS => ?_)
  · refine lv_istore (lv' := [(5, .int (nI 0)), (0, .ref b), (1, .ref (aX 0)), (2, .ref (aM 0)), (3, .ref (aX 6)), (4, .int (nI i))]) hx hb dL_law_183 hl (by decide) rfl (fun ls hl => ?_)
    refine lv_aload_n hx hb dL_law_185 rfl (lv_at hl 3 rfl) ?_
    refine lv_aload_n hx hb dL_law_186 rfl (lv_at hl 1 rfl) ?_
    refine lv_iload hx hb dL_law_187 (lv_at hl 5 rfl) ?_
    refine lv_iconst (v := nI 1) hx hb dL_law_189 (by decide) ?_
    refine lv_iadd hx hb dL_law_190 ?_
    refine zt_ti (nI_add _ _) ?_
    refine zl_sld hx hb hXs hbl hS (i := i + 1) (by omega) (by omega) dL_law_191 ?_
    refine lv_aload_n hx hb dL_law_192 rfl (lv_at hl 1 rfl) ?_
    refine lv_iload hx hb dL_law_193 (lv_at hl 5 rfl) ?_
    refine lv_iconst (v := nI 2) hx hb dL_law_195 (by decide) ?_
    refine lv_iadd hx hb dL_law_196 ?_
    refine zt_ti (nI_add _ _) ?_
    refine zl_sld hx hb hXs hbl hS (i := i + 2) (by omega) (by omega) dL_law_197 ?_
    refine lv_aload_n hx hb dL_law_198 rfl (lv_at hl 1 rfl) ?_
    refine lv_iload hx hb dL_law_199 (lv_at hl 5 rfl) ?_
    refine lv_iconst (v := nI 3) hx hb dL_law_201 (by decide) ?_
    refine lv_iadd hx hb dL_law_202 ?_
    refine zt_ti (nI_add _ _) ?_
    refine zl_sld hx hb hXs hbl hS (i := i + 3) (by omega) (by omega) dL_law_203 ?_
    refine zl_callM (aX := aM) (aM := aX) (zg_runC (rest := []) hx hb hml hown (tM_values l hadM hRm) (wcL_65 hz (Nat.le_of_ble_eq_true rfl) (Nat.le_of_ble_eq_true rfl)) (hz _ ki_M_values) (hz _ ks_M_values) (hz _ kC_M_values) hPM hK rfl (q0 := 0) rfl rfl hl.1 rfl (Nat.le_of_ble_eq_true rfl) dL_law_204 ⟨by show cells + 1 + 0 ≤ 1050; omega, by show slots + 6 + 0 ≤ 14541; omega⟩) (fun _ h => h) hdis2 hgM zl_atX hP hS (fun ⟨u1, u2, u3⟩ H hu hPM hP _ hS => ?_)
    refine W.eq (g2 := F0 m 207 ls [.int u1]) rfl ?_
    rcases hu with ⟨-, e5⟩ | ⟨q, -⟩
    · cases e5
      refine W.eq (g2 := F0 m 207 ls [.int (nI (V (4 * zn (xs (i + 1)) + zn (xs (i + 2)))))]) rfl ?_
      refine lv_istore (lv' := [(6, .int (nI (V (4 * zn (xs (i + 1)) + zn (xs (i + 2)))))), (5, .int (nI 0)), (0, .ref b), (1, .ref (aX 0)), (2, .ref (aM 0)), (3, .ref (aX 6)), (4, .int (nI i))]) hx hb dL_law_207 hl (by decide) rfl (fun ls hl => ?_)
      refine lv_aload_n hx hb dL_law_209 rfl (lv_at hl 4 rfl) ?_
      refine zt_callRi (r := nI (zc_val (zn (xs (i + 1))) (zn (xs (i + 2))) (zn (xs (i + 3))) D L)) (zg_run (rest := []) hx hb hml hown (tM_thrown l) (wcL_59 hz (Nat.le_of_ble_eq_true rfl) (Nat.le_of_ble_eq_true rfl)) (hz _ ki_M_thrown) (hz _ ks_M_thrown) (hz _ kC_M_thrown) hPM hK rfl (q0 := 0) rfl rfl hl.1 rfl (Nat.le_of_ble_eq_true rfl) dL_law_210 ⟨by show cells + 1 + 0 ≤ 1050; omega, by show slots + 6 + 0 ≤ 14541; omega⟩) ?_
      refine lv_iload hx hb dL_law_213 (lv_at hl 1 rfl) ?_
      refine lv_icmp_eq (tgt := 220) hx hb dL_law_215 (by decide) (fun _ => ?_) (fun c215 => absurd c215 (not_not_intro (by rw [hcd])))
      refine lv_iload hx hb dL_law_220 (lv_at hl 1 rfl) ?_
      refine lv_if_ne (tgt := 237) hx hb dL_law_222 (by decide) (fun c222 => absurd c222 (not_not_intro (by decide))) (fun _ => ?_)
      refine lv_aload_n hx hb dL_law_225 rfl (lv_at hl 5 rfl) ?_
      refine lv_iconst (v := nI 0) hx hb dL_law_226 (by decide) ?_
      refine zt_lald hx hb hK hP 6 1 rfl rfl (i := 0) (by decide) (by decide) (v := lN (V (4 * zn (xs (i + 1)) + zn (xs (i + 2))))) (if_pos rfl) dL_law_227 ?_
      refine lv_iload hx hb dL_law_228 (lv_at hl 0 rfl) ?_
      refine lv_i2l (v := lN (V (4 * zn (xs (i + 1)) + zn (xs (i + 2))))) hx hb dL_law_230 (nI_l (by have := hR.2.2.2.2.2.1 (4 * zn (xs (i + 1)) + zn (xs (i + 2))); omega)) ?_
      refine zl_same (tgt := 237) hx hb rfl dL_law_231 dL_law_232 (by decide) ?_
      refine lv_goto (tgt := 758) hx hb dL_law_237 (by decide) ?_
      exact kk H D N F 0 L (zq_up V (4 * zn (xs (i + 1)) + zn (xs (i + 2))) (zn (xs (i + 3)))) S hS ⟨_, _, _, _, _, _, _, _, _, _, _, _, _, zx_R_val hR (zc_val_0 hcd).2.2, zx_J0 hR.2.2.2.1 hv, zm_R_val hRm (zc_val_0 hcd).2.2, zm_S0, fun j hj => by obtain ⟨g1, g2, -⟩ := zc_val_0 hcd; have g3 := (hR.2.1 _ g1).2; rw [zq_up_n V (by omega)]; exact hV0 j hj, hP, hPM⟩ ls (lv_sub hl [2, 3, 4, 5, 6] rfl)
    · exact absurd hcd q
  · refine lv_istore (lv' := [(5, .int (nI (zc_val (zn (xs (i + 1))) (zn (xs (i + 2))) (zn (xs (i + 3))) D L))), (0, .ref b), (1, .ref (aX 0)), (2, .ref (aM 0)), (3, .ref (aX 6)), (4, .int (nI i))]) hx hb dL_law_183 hl (by decide) rfl (fun ls hl => ?_)
    refine lv_aload_n hx hb dL_law_185 rfl (lv_at hl 3 rfl) ?_
    refine lv_aload_n hx hb dL_law_186 rfl (lv_at hl 1 rfl) ?_
    refine lv_iload hx hb dL_law_187 (lv_at hl 5 rfl) ?_
    refine lv_iconst (v := nI 1) hx hb dL_law_189 (by decide) ?_
    refine lv_iadd hx hb dL_law_190 ?_
    refine zt_ti (nI_add _ _) ?_
    refine zl_sld hx hb hXs hbl hS (i := i + 1) (by omega) (by omega) dL_law_191 ?_
    refine lv_aload_n hx hb dL_law_192 rfl (lv_at hl 1 rfl) ?_
    refine lv_iload hx hb dL_law_193 (lv_at hl 5 rfl) ?_
    refine lv_iconst (v := nI 2) hx hb dL_law_195 (by decide) ?_
    refine lv_iadd hx hb dL_law_196 ?_
    refine zt_ti (nI_add _ _) ?_
    refine zl_sld hx hb hXs hbl hS (i := i + 2) (by omega) (by omega) dL_law_197 ?_
    refine lv_aload_n hx hb dL_law_198 rfl (lv_at hl 1 rfl) ?_
    refine lv_iload hx hb dL_law_199 (lv_at hl 5 rfl) ?_
    refine lv_iconst (v := nI 3) hx hb dL_law_201 (by decide) ?_
    refine lv_iadd hx hb dL_law_202 ?_
    refine zt_ti (nI_add _ _) ?_
    refine zl_sld hx hb hXs hbl hS (i := i + 3) (by omega) (by omega) dL_law_203 ?_
    refine zl_callM (aX := aM) (aM := aX) (zg_runC (rest := []) hx hb hml hown (tM_values l hadM hRm) (wcL_65 hz (Nat.le_of_ble_eq_true rfl) (Nat.le_of_ble_eq_true rfl)) (hz _ ki_M_values) (hz _ ks_M_values) (hz _ kC_M_values) hPM hK rfl (q0 := 0) rfl rfl hl.1 rfl (Nat.le_of_ble_eq_true rfl) dL_law_204 ⟨by show cells + 1 + 0 ≤ 1050; omega, by show slots + 6 + 0 ≤ 14541; omega⟩) (fun _ h => h) hdis2 hgM zl_atX hP hS (fun ⟨u1, u2, u3⟩ H hu hPM hP _ hS => ?_)
    refine W.eq (g2 := F0 m 207 ls [.int u1]) rfl ?_
    rcases hu with ⟨q, -⟩ | ⟨-, e1⟩
    · exact absurd q hcd
    · dsimp only at e1
      cases e1
      refine lv_istore (lv' := [(6, .int u1), (5, .int (nI (zc_val (zn (xs (i + 1))) (zn (xs (i + 2))) (zn (xs (i + 3))) D L))), (0, .ref b), (1, .ref (aX 0)), (2, .ref (aM 0)), (3, .ref (aX 6)), (4, .int (nI i))]) hx hb dL_law_207 hl (by decide) rfl (fun ls hl => ?_)
      refine lv_aload_n hx hb dL_law_209 rfl (lv_at hl 4 rfl) ?_
      refine zt_callRi (r := nI (zc_val (zn (xs (i + 1))) (zn (xs (i + 2))) (zn (xs (i + 3))) D L)) (zg_run (rest := []) hx hb hml hown (tM_thrown l) (wcL_59 hz (Nat.le_of_ble_eq_true rfl) (Nat.le_of_ble_eq_true rfl)) (hz _ ki_M_thrown) (hz _ ks_M_thrown) (hz _ kC_M_thrown) hPM hK rfl (q0 := 0) rfl rfl hl.1 rfl (Nat.le_of_ble_eq_true rfl) dL_law_210 ⟨by show cells + 1 + 0 ≤ 1050; omega, by show slots + 6 + 0 ≤ 14541; omega⟩) ?_
      refine lv_iload hx hb dL_law_213 (lv_at hl 1 rfl) ?_
      refine lv_icmp_eq (tgt := 220) hx hb dL_law_215 (by decide) (fun _ => ?_) (fun c215 => absurd c215 (not_not_intro rfl))
      refine lv_iload hx hb dL_law_220 (lv_at hl 1 rfl) ?_
      refine lv_if_ne (tgt := 237) hx hb dL_law_222 (by decide) (fun _ => ?_) (fun c222 => absurd c222 (zc_ne hcd (zc_val_le _ _ _ _ _)))
      refine lv_goto (tgt := 758) hx hb dL_law_237 (by decide) ?_
      exact kk H D N F k L V S hS ⟨_, _, _, _, _, _, _, _, _, _, _, _, _, hR, hJ, hRm, hs, hV0, hP, hPM⟩ ls (lv_sub hl [2, 3, 4, 5, 6] rfl)
set_option maxHeartbeats 4000000 in
set_option maxRecDepth 100000 in
/-- case 2: facts -/
theorem zl_c2 {p : Program} {l : Launch} {e : Env} {s : State} {m : MethodId} {below : List Frame} {meth : Method} {c : Code} {b n : Nat} {xs : Nat → Int32} {dC : Nat → ClassId} {dI : Nat → Nat → Nat} {cI cJ cB : ClassId} {aX aM : Nat → Nat} (C : zl_C p l s m c b n xs dC dI cI cJ cB aX aM) {cells slots i : Nat} (hc9 : cells + 1 ≤ 1050) (hs9 : slots + 6 ≤ 14541) (hi : i + 4 ≤ n) {H : Heap} (hS : va_S (zl_A s.heap.size) s.heap H []) {D N F k : Nat} {L V S : Nat → Nat} (hI : zl_I dC dI cI cJ cB aX aM H D N F k L V S) {ls : Array Slot} (hl : lv_has ls 8 [(0, .ref b), (1, .ref (aX 0)), (2, .ref (aM 0)), (3, .ref (aX 6)), (4, .int (nI i))]) {Q : State → Prop}
    (kk : ∀ (H : Heap) (D N F k : Nat) (L V S : Nat → Nat), va_S (zl_A s.heap.size) s.heap H [] → zl_I dC dI cI cJ cB aX aM H D N F k L V S → ∀ ls : Array Slot, lv_has ls 8 [(0, .ref b), (1, .ref (aX 0)), (2, .ref (aM 0)), (3, .ref (aX 6)), (4, .int (nI i))] → W p l e room_1 s m #[Value.ref b] below meth c H [] (cells + 1) (slots + 6) Q (F0 m 758 ls [])) : W p l e room_1 s m #[Value.ref b] below meth c H [] cells slots Q (F0 m 240 ls []) := by
  obtain ⟨hx, hb, hml, hown, hz, hK, hTS, hNc, hst, hadX, hadM, hdis, hgX, hgM, hXs, hbl, hn⟩ := C
  obtain ⟨lev, val, pkd, cst, chs, f, levm, valm, chsm, dig, est, cstm, code, hR, hJ, hRm, hs, hV0, hP, hPM⟩ := hI
  have hk := hs.1
  have hdis2 : ∀ i j, i < 7 → j < 7 → aM i ≠ aX j := fun i j hi hj e => hdis j i hj hi e.symm
  refine lv_aload_n hx hb dL_law_240 rfl (lv_at hl 1 rfl) ?_
  refine lv_aload_n hx hb dL_law_241 rfl (lv_at hl 0 rfl) ?_
  refine lv_iload hx hb dL_law_242 (lv_at hl 4 rfl) ?_
  refine lv_iconst (v := nI 1) hx hb dL_law_244 (by decide) ?_
  refine lv_iadd hx hb dL_law_245 ?_
  refine zt_ti (nI_add _ _) ?_
  refine zl_sld hx hb hXs hbl hS (i := i + 1) (by omega) (by omega) dL_law_246 ?_
  refine lv_aload_n hx hb dL_law_247 rfl (lv_at hl 3 rfl) ?_
  refine zl_callH (aX := aX) (aM := aM) (zl_runH (rest := []) hx hb hml hown (tL_facts l hadX hst hR.2.2.2.2.1) (wcL_66 hz (Nat.le_of_ble_eq_true rfl) (Nat.le_of_ble_eq_true rfl)) (hz _ kst_L_facts) (hz _ kC_L_facts) hP hK hTS hNc hS rfl hl.1 rfl (Nat.le_of_ble_eq_true rfl) dL_law_248 ⟨by show cells + 1 ≤ 1050; omega, by show slots + 6 ≤ 14541; omega⟩) hdis hgX zl_atM hPM hS (fun hcd v H hv hP hPM hS => ?_) (fun hcd H hP hPM hS => ?_)
  · refine lv_istore (lv' := [(5, .int (nI 0)), (0, .ref b), (1, .ref (aX 0)), (2, .ref (aM 0)), (3, .ref (aX 6)), (4, .int (nI i))]) hx hb dL_law_251 hl (by decide) rfl (fun ls hl => ?_)
    refine lv_aload_n hx hb dL_law_253 rfl (lv_at hl 3 rfl) ?_
    refine lv_aload_n hx hb dL_law_254 rfl (lv_at hl 1 rfl) ?_
    refine lv_iload hx hb dL_law_255 (lv_at hl 5 rfl) ?_
    refine lv_iconst (v := nI 1) hx hb dL_law_257 (by decide) ?_
    refine lv_iadd hx hb dL_law_258 ?_
    refine zt_ti (nI_add _ _) ?_
    refine zl_sld hx hb hXs hbl hS (i := i + 1) (by omega) (by omega) dL_law_259 ?_
    refine zl_callM (aX := aM) (aM := aX) (zg_runC (rest := []) hx hb hml hown (tM_facts l hadM) (wcL_68 hz (Nat.le_of_ble_eq_true rfl) (Nat.le_of_ble_eq_true rfl)) (hz _ ki_M_facts) (hz _ ks_M_facts) (hz _ kC_M_facts) hPM hK rfl (q0 := 0) rfl rfl hl.1 rfl (Nat.le_of_ble_eq_true rfl) dL_law_260 ⟨by show cells + 1 + 0 ≤ 1050; omega, by show slots + 6 + 0 ≤ 14541; omega⟩) (fun _ h => h) hdis2 hgM zl_atX hP hS (fun ⟨u1, u2, u3⟩ H hu hPM hP _ hS => ?_)
    refine W.eq (g2 := F0 m 263 ls [.int u1]) rfl ?_
    rcases hu with ⟨-, e5⟩ | ⟨q, -⟩
    · cases e5
      refine W.eq (g2 := F0 m 263 ls [.int (nI F)]) rfl ?_
      refine lv_istore (lv' := [(6, .int (nI F)), (5, .int (nI 0)), (0, .ref b), (1, .ref (aX 0)), (2, .ref (aM 0)), (3, .ref (aX 6)), (4, .int (nI i))]) hx hb dL_law_263 hl (by decide) rfl (fun ls hl => ?_)
      refine lv_aload_n hx hb dL_law_265 rfl (lv_at hl 4 rfl) ?_
      refine zt_callRi (r := nI (zc_fac (zn (xs (i + 1))))) (zg_run (rest := []) hx hb hml hown (tM_thrown l) (wcL_59 hz (Nat.le_of_ble_eq_true rfl) (Nat.le_of_ble_eq_true rfl)) (hz _ ki_M_thrown) (hz _ ks_M_thrown) (hz _ kC_M_thrown) hPM hK rfl (q0 := 0) rfl rfl hl.1 rfl (Nat.le_of_ble_eq_true rfl) dL_law_266 ⟨by show cells + 1 + 0 ≤ 1050; omega, by show slots + 6 + 0 ≤ 14541; omega⟩) ?_
      refine lv_iload hx hb dL_law_269 (lv_at hl 1 rfl) ?_
      refine lv_icmp_eq (tgt := 276) hx hb dL_law_271 (by decide) (fun _ => ?_) (fun c271 => absurd c271 (not_not_intro (by rw [hcd])))
      refine lv_iload hx hb dL_law_276 (lv_at hl 1 rfl) ?_
      refine lv_if_ne (tgt := 293) hx hb dL_law_278 (by decide) (fun c278 => absurd c278 (not_not_intro (by decide))) (fun _ => ?_)
      refine lv_aload_n hx hb dL_law_281 rfl (lv_at hl 5 rfl) ?_
      refine lv_iconst (v := nI 0) hx hb dL_law_282 (by decide) ?_
      refine zt_lald hx hb hK hP 6 1 rfl rfl (i := 0) (by decide) (by decide) (v := lN F) (if_pos rfl) dL_law_283 ?_
      refine lv_iload hx hb dL_law_284 (lv_at hl 0 rfl) ?_
      refine lv_i2l (v := lN F) hx hb dL_law_286 (nI_l hR.2.2.2.2.1) ?_
      refine zl_same (tgt := 293) hx hb rfl dL_law_287 dL_law_288 (by decide) ?_
      refine lv_goto (tgt := 758) hx hb dL_law_293 (by decide) ?_
      exact kk H D N (zn (xs (i + 1))) 0 L V S hS ⟨_, _, _, _, _, _, _, _, _, _, _, _, _, zx_R_fac hR (zc_fac_0 hcd), zx_J0 hR.2.2.2.1 hv, zm_R_fac hRm (zc_fac_0 hcd), zm_S0, hV0, hP, hPM⟩ ls (lv_sub hl [2, 3, 4, 5, 6] rfl)
    · exact absurd hcd q
  · refine lv_istore (lv' := [(5, .int (nI (zc_fac (zn (xs (i + 1)))))), (0, .ref b), (1, .ref (aX 0)), (2, .ref (aM 0)), (3, .ref (aX 6)), (4, .int (nI i))]) hx hb dL_law_251 hl (by decide) rfl (fun ls hl => ?_)
    refine lv_aload_n hx hb dL_law_253 rfl (lv_at hl 3 rfl) ?_
    refine lv_aload_n hx hb dL_law_254 rfl (lv_at hl 1 rfl) ?_
    refine lv_iload hx hb dL_law_255 (lv_at hl 5 rfl) ?_
    refine lv_iconst (v := nI 1) hx hb dL_law_257 (by decide) ?_
    refine lv_iadd hx hb dL_law_258 ?_
    refine zt_ti (nI_add _ _) ?_
    refine zl_sld hx hb hXs hbl hS (i := i + 1) (by omega) (by omega) dL_law_259 ?_
    refine zl_callM (aX := aM) (aM := aX) (zg_runC (rest := []) hx hb hml hown (tM_facts l hadM) (wcL_68 hz (Nat.le_of_ble_eq_true rfl) (Nat.le_of_ble_eq_true rfl)) (hz _ ki_M_facts) (hz _ ks_M_facts) (hz _ kC_M_facts) hPM hK rfl (q0 := 0) rfl rfl hl.1 rfl (Nat.le_of_ble_eq_true rfl) dL_law_260 ⟨by show cells + 1 + 0 ≤ 1050; omega, by show slots + 6 + 0 ≤ 14541; omega⟩) (fun _ h => h) hdis2 hgM zl_atX hP hS (fun ⟨u1, u2, u3⟩ H hu hPM hP _ hS => ?_)
    refine W.eq (g2 := F0 m 263 ls [.int u1]) rfl ?_
    rcases hu with ⟨q, -⟩ | ⟨-, e1⟩
    · exact absurd q hcd
    · dsimp only at e1
      cases e1
      refine lv_istore (lv' := [(6, .int u1), (5, .int (nI (zc_fac (zn (xs (i + 1)))))), (0, .ref b), (1, .ref (aX 0)), (2, .ref (aM 0)), (3, .ref (aX 6)), (4, .int (nI i))]) hx hb dL_law_263 hl (by decide) rfl (fun ls hl => ?_)
      refine lv_aload_n hx hb dL_law_265 rfl (lv_at hl 4 rfl) ?_
      refine zt_callRi (r := nI (zc_fac (zn (xs (i + 1))))) (zg_run (rest := []) hx hb hml hown (tM_thrown l) (wcL_59 hz (Nat.le_of_ble_eq_true rfl) (Nat.le_of_ble_eq_true rfl)) (hz _ ki_M_thrown) (hz _ ks_M_thrown) (hz _ kC_M_thrown) hPM hK rfl (q0 := 0) rfl rfl hl.1 rfl (Nat.le_of_ble_eq_true rfl) dL_law_266 ⟨by show cells + 1 + 0 ≤ 1050; omega, by show slots + 6 + 0 ≤ 14541; omega⟩) ?_
      refine lv_iload hx hb dL_law_269 (lv_at hl 1 rfl) ?_
      refine lv_icmp_eq (tgt := 276) hx hb dL_law_271 (by decide) (fun _ => ?_) (fun c271 => absurd c271 (not_not_intro rfl))
      refine lv_iload hx hb dL_law_276 (lv_at hl 1 rfl) ?_
      refine lv_if_ne (tgt := 293) hx hb dL_law_278 (by decide) (fun _ => ?_) (fun c278 => absurd c278 (zc_ne hcd (zc_fac_le _)))
      refine lv_goto (tgt := 758) hx hb dL_law_293 (by decide) ?_
      exact kk H D N F k L V S hS ⟨_, _, _, _, _, _, _, _, _, _, _, _, _, hR, hJ, hRm, hs, hV0, hP, hPM⟩ ls (lv_sub hl [2, 3, 4, 5, 6] rfl)
set_option maxHeartbeats 4000000 in
set_option maxRecDepth 100000 in
/-- case 4: digit -/
theorem zl_c4 {p : Program} {l : Launch} {e : Env} {s : State} {m : MethodId} {below : List Frame} {meth : Method} {c : Code} {b n : Nat} {xs : Nat → Int32} {dC : Nat → ClassId} {dI : Nat → Nat → Nat} {cI cJ cB : ClassId} {aX aM : Nat → Nat} (C : zl_C p l s m c b n xs dC dI cI cJ cB aX aM) {cells slots i : Nat} (hc9 : cells + 1 ≤ 1050) (hs9 : slots + 6 ≤ 14541) (hi : i + 4 ≤ n) {H : Heap} (hS : va_S (zl_A s.heap.size) s.heap H []) {D N F k : Nat} {L V S : Nat → Nat} (hI : zl_I dC dI cI cJ cB aX aM H D N F k L V S) {ls : Array Slot} (hl : lv_has ls 8 [(0, .ref b), (1, .ref (aX 0)), (2, .ref (aM 0)), (3, .ref (aX 6)), (4, .int (nI i))]) {Q : State → Prop}
    (kk : ∀ (H : Heap) (D N F k : Nat) (L V S : Nat → Nat), va_S (zl_A s.heap.size) s.heap H [] → zl_I dC dI cI cJ cB aX aM H D N F k L V S → ∀ ls : Array Slot, lv_has ls 8 [(0, .ref b), (1, .ref (aX 0)), (2, .ref (aM 0)), (3, .ref (aX 6)), (4, .int (nI i))] → W p l e room_1 s m #[Value.ref b] below meth c H [] (cells + 1) (slots + 6) Q (F0 m 758 ls [])) : W p l e room_1 s m #[Value.ref b] below meth c H [] cells slots Q (F0 m 309 ls []) := by
  obtain ⟨hx, hb, hml, hown, hz, hK, hTS, hNc, hst, hadX, hadM, hdis, hgX, hgM, hXs, hbl, hn⟩ := C
  obtain ⟨lev, val, pkd, cst, chs, f, levm, valm, chsm, dig, est, cstm, code, hR, hJ, hRm, hs, hV0, hP, hPM⟩ := hI
  have hk := hs.1
  have hdis2 : ∀ i j, i < 7 → j < 7 → aM i ≠ aX j := fun i j hi hj e => hdis j i hj hi e.symm
  refine lv_aload_n hx hb dL_law_309 rfl (lv_at hl 1 rfl) ?_
  refine lv_aload_n hx hb dL_law_310 rfl (lv_at hl 0 rfl) ?_
  refine lv_iload hx hb dL_law_311 (lv_at hl 4 rfl) ?_
  refine lv_iconst (v := nI 1) hx hb dL_law_313 (by decide) ?_
  refine lv_iadd hx hb dL_law_314 ?_
  refine zt_ti (nI_add _ _) ?_
  refine zl_sld hx hb hXs hbl hS (i := i + 1) (by omega) (by omega) dL_law_315 ?_
  refine lv_aload_n hx hb dL_law_316 rfl (lv_at hl 0 rfl) ?_
  refine lv_iload hx hb dL_law_317 (lv_at hl 4 rfl) ?_
  refine lv_iconst (v := nI 2) hx hb dL_law_319 (by decide) ?_
  refine lv_iadd hx hb dL_law_320 ?_
  refine zt_ti (nI_add _ _) ?_
  refine zl_sld hx hb hXs hbl hS (i := i + 2) (by omega) (by omega) dL_law_321 ?_
  refine lv_aload_n hx hb dL_law_322 rfl (lv_at hl 3 rfl) ?_
  refine zl_callH (aX := aX) (aM := aM) (zl_runH (rest := []) hx hb hml hown (tL_digit l hadX hst hR) (wcL_73 hz (Nat.le_of_ble_eq_true rfl) (Nat.le_of_ble_eq_true rfl)) (hz _ kst_L_digit) (hz _ kC_L_digit) hP hK hTS hNc hS rfl hl.1 rfl (Nat.le_of_ble_eq_true rfl) dL_law_323 ⟨by show cells + 1 ≤ 1050; omega, by show slots + 6 ≤ 14541; omega⟩) hdis hgX zl_atM hPM hS (fun hcd v H hv hP hPM hS => ?_) (fun hcd H hP hPM hS => ?_)
  · refine lv_istore (lv' := [(5, .int (nI 0)), (0, .ref b), (1, .ref (aX 0)), (2, .ref (aM 0)), (3, .ref (aX 6)), (4, .int (nI i))]) hx hb dL_law_326 hl (by decide) rfl (fun ls hl => ?_)
    refine lv_aload_n hx hb dL_law_328 rfl (lv_at hl 3 rfl) ?_
    refine lv_aload_n hx hb dL_law_329 rfl (lv_at hl 1 rfl) ?_
    refine lv_iload hx hb dL_law_330 (lv_at hl 5 rfl) ?_
    refine lv_iconst (v := nI 1) hx hb dL_law_332 (by decide) ?_
    refine lv_iadd hx hb dL_law_333 ?_
    refine zt_ti (nI_add _ _) ?_
    refine zl_sld hx hb hXs hbl hS (i := i + 1) (by omega) (by omega) dL_law_334 ?_
    refine lv_aload_n hx hb dL_law_335 rfl (lv_at hl 1 rfl) ?_
    refine lv_iload hx hb dL_law_336 (lv_at hl 5 rfl) ?_
    refine lv_iconst (v := nI 2) hx hb dL_law_338 (by decide) ?_
    refine lv_iadd hx hb dL_law_339 ?_
    refine zt_ti (nI_add _ _) ?_
    refine zl_sld hx hb hXs hbl hS (i := i + 2) (by omega) (by omega) dL_law_340 ?_
    refine zl_callM (aX := aM) (aM := aX) (zg_runC (rest := []) hx hb hml hown (tM_digit l hadM hRm) (wcL_76 hz (Nat.le_of_ble_eq_true rfl) (Nat.le_of_ble_eq_true rfl)) (hz _ ki_M_digit) (hz _ ks_M_digit) (hz _ kC_M_digit) hPM hK rfl (q0 := 0) rfl rfl hl.1 rfl (Nat.le_of_ble_eq_true rfl) dL_law_341 ⟨by show cells + 1 + 0 ≤ 1050; omega, by show slots + 6 + 0 ≤ 14541; omega⟩) (fun _ h => h) hdis2 hgM zl_atX hP hS (fun u1 H hu hPM hP _ hS => ?_)
    refine W.eq (g2 := F0 m 344 ls [.int u1]) rfl ?_
    have e1 := hu (zc_b_0 hcd)
    subst e1
    refine W.eq (g2 := F0 m 344 ls [.int (nI (zq_dg L D (xs (i + 1)).toNatClampNeg (xs (i + 2)).toNatClampNeg))]) rfl ?_
    refine lv_istore (lv' := [(6, .int (nI (zq_dg L D (xs (i + 1)).toNatClampNeg (xs (i + 2)).toNatClampNeg))), (5, .int (nI 0)), (0, .ref b), (1, .ref (aX 0)), (2, .ref (aM 0)), (3, .ref (aX 6)), (4, .int (nI i))]) hx hb dL_law_344 hl (by decide) rfl (fun ls hl => ?_)
    refine lv_aload_n hx hb dL_law_346 rfl (lv_at hl 4 rfl) ?_
    refine zt_callRi (r := nI (zc_b (zb_in (xs (i + 1)) N && zb_in (xs (i + 2)) D))) (zg_run (rest := []) hx hb hml hown (tM_thrown l) (wcL_59 hz (Nat.le_of_ble_eq_true rfl) (Nat.le_of_ble_eq_true rfl)) (hz _ ki_M_thrown) (hz _ ks_M_thrown) (hz _ kC_M_thrown) hPM hK rfl (q0 := 0) rfl rfl hl.1 rfl (Nat.le_of_ble_eq_true rfl) dL_law_347 ⟨by show cells + 1 + 0 ≤ 1050; omega, by show slots + 6 + 0 ≤ 14541; omega⟩) ?_
    refine lv_iload hx hb dL_law_350 (lv_at hl 1 rfl) ?_
    refine lv_icmp_eq (tgt := 357) hx hb dL_law_352 (by decide) (fun _ => ?_) (fun c352 => absurd c352 (not_not_intro (by rw [hcd])))
    refine lv_iload hx hb dL_law_357 (lv_at hl 1 rfl) ?_
    refine lv_if_ne (tgt := 374) hx hb dL_law_359 (by decide) (fun c359 => absurd c359 (not_not_intro (by decide))) (fun _ => ?_)
    refine lv_aload_n hx hb dL_law_362 rfl (lv_at hl 5 rfl) ?_
    refine lv_iconst (v := nI 0) hx hb dL_law_363 (by decide) ?_
    refine zt_lald hx hb hK hP 6 1 rfl rfl (i := 0) (by decide) (by decide) (v := (nI (zq_dg L D (xs (i + 1)).toNatClampNeg (xs (i + 2)).toNatClampNeg)).toInt64) (if_pos rfl) dL_law_364 ?_
    refine lv_iload hx hb dL_law_365 (lv_at hl 0 rfl) ?_
    refine lv_i2l (v := (nI (zq_dg L D (xs (i + 1)).toNatClampNeg (xs (i + 2)).toNatClampNeg)).toInt64) hx hb dL_law_367 (rfl) ?_
    refine zl_same (tgt := 374) hx hb rfl dL_law_368 dL_law_369 (by decide) ?_
    refine lv_goto (tgt := 758) hx hb dL_law_374 (by decide) ?_
    exact kk H D N F k L V S hS ⟨_, _, _, _, _, _, _, _, _, _, _, _, _, hR, hJ, hRm, hs, hV0, hP, hPM⟩ ls (lv_sub hl [2, 3, 4, 5, 6] rfl)
  · refine lv_istore (lv' := [(5, .int (nI (zc_b (zb_in (xs (i + 1)) N && zb_in (xs (i + 2)) D)))), (0, .ref b), (1, .ref (aX 0)), (2, .ref (aM 0)), (3, .ref (aX 6)), (4, .int (nI i))]) hx hb dL_law_326 hl (by decide) rfl (fun ls hl => ?_)
    refine lv_aload_n hx hb dL_law_328 rfl (lv_at hl 3 rfl) ?_
    refine lv_aload_n hx hb dL_law_329 rfl (lv_at hl 1 rfl) ?_
    refine lv_iload hx hb dL_law_330 (lv_at hl 5 rfl) ?_
    refine lv_iconst (v := nI 1) hx hb dL_law_332 (by decide) ?_
    refine lv_iadd hx hb dL_law_333 ?_
    refine zt_ti (nI_add _ _) ?_
    refine zl_sld hx hb hXs hbl hS (i := i + 1) (by omega) (by omega) dL_law_334 ?_
    refine lv_aload_n hx hb dL_law_335 rfl (lv_at hl 1 rfl) ?_
    refine lv_iload hx hb dL_law_336 (lv_at hl 5 rfl) ?_
    refine lv_iconst (v := nI 2) hx hb dL_law_338 (by decide) ?_
    refine lv_iadd hx hb dL_law_339 ?_
    refine zt_ti (nI_add _ _) ?_
    refine zl_sld hx hb hXs hbl hS (i := i + 2) (by omega) (by omega) dL_law_340 ?_
    refine zl_callM (aX := aM) (aM := aX) (zg_runC (rest := []) hx hb hml hown (tM_digit l hadM hRm) (wcL_76 hz (Nat.le_of_ble_eq_true rfl) (Nat.le_of_ble_eq_true rfl)) (hz _ ki_M_digit) (hz _ ks_M_digit) (hz _ kC_M_digit) hPM hK rfl (q0 := 0) rfl rfl hl.1 rfl (Nat.le_of_ble_eq_true rfl) dL_law_341 ⟨by show cells + 1 + 0 ≤ 1050; omega, by show slots + 6 + 0 ≤ 14541; omega⟩) (fun _ h => h) hdis2 hgM zl_atX hP hS (fun u1 H hu hPM hP _ hS => ?_)
    refine W.eq (g2 := F0 m 344 ls [.int u1]) rfl ?_
    refine lv_istore (lv' := [(6, .int u1), (5, .int (nI (zc_b (zb_in (xs (i + 1)) N && zb_in (xs (i + 2)) D)))), (0, .ref b), (1, .ref (aX 0)), (2, .ref (aM 0)), (3, .ref (aX 6)), (4, .int (nI i))]) hx hb dL_law_344 hl (by decide) rfl (fun ls hl => ?_)
    refine lv_aload_n hx hb dL_law_346 rfl (lv_at hl 4 rfl) ?_
    refine zt_callRi (r := nI (zc_b (zb_in (xs (i + 1)) N && zb_in (xs (i + 2)) D))) (zg_run (rest := []) hx hb hml hown (tM_thrown l) (wcL_59 hz (Nat.le_of_ble_eq_true rfl) (Nat.le_of_ble_eq_true rfl)) (hz _ ki_M_thrown) (hz _ ks_M_thrown) (hz _ kC_M_thrown) hPM hK rfl (q0 := 0) rfl rfl hl.1 rfl (Nat.le_of_ble_eq_true rfl) dL_law_347 ⟨by show cells + 1 + 0 ≤ 1050; omega, by show slots + 6 + 0 ≤ 14541; omega⟩) ?_
    refine lv_iload hx hb dL_law_350 (lv_at hl 1 rfl) ?_
    refine lv_icmp_eq (tgt := 357) hx hb dL_law_352 (by decide) (fun _ => ?_) (fun c352 => absurd c352 (not_not_intro rfl))
    refine lv_iload hx hb dL_law_357 (lv_at hl 1 rfl) ?_
    refine lv_if_ne (tgt := 374) hx hb dL_law_359 (by decide) (fun _ => ?_) (fun c359 => absurd c359 (zc_ne hcd (zc_b_le _)))
    refine lv_goto (tgt := 758) hx hb dL_law_374 (by decide) ?_
    exact kk H D N F k L V S hS ⟨_, _, _, _, _, _, _, _, _, _, _, _, _, hR, hJ, hRm, hs, hV0, hP, hPM⟩ ls (lv_sub hl [2, 3, 4, 5, 6] rfl)
set_option maxHeartbeats 4000000 in
set_option maxRecDepth 100000 in
/-- case 5: isAbove -/
theorem zl_c5 {p : Program} {l : Launch} {e : Env} {s : State} {m : MethodId} {below : List Frame} {meth : Method} {c : Code} {b n : Nat} {xs : Nat → Int32} {dC : Nat → ClassId} {dI : Nat → Nat → Nat} {cI cJ cB : ClassId} {aX aM : Nat → Nat} (C : zl_C p l s m c b n xs dC dI cI cJ cB aX aM) {cells slots i : Nat} (hc9 : cells + 1 ≤ 1050) (hs9 : slots + 6 ≤ 14541) (hi : i + 4 ≤ n) {H : Heap} (hS : va_S (zl_A s.heap.size) s.heap H []) {D N F k : Nat} {L V S : Nat → Nat} (hI : zl_I dC dI cI cJ cB aX aM H D N F k L V S) {ls : Array Slot} (hl : lv_has ls 8 [(0, .ref b), (1, .ref (aX 0)), (2, .ref (aM 0)), (3, .ref (aX 6)), (4, .int (nI i))]) {Q : State → Prop}
    (kk : ∀ (H : Heap) (D N F k : Nat) (L V S : Nat → Nat), va_S (zl_A s.heap.size) s.heap H [] → zl_I dC dI cI cJ cB aX aM H D N F k L V S → ∀ ls : Array Slot, lv_has ls 8 [(0, .ref b), (1, .ref (aX 0)), (2, .ref (aM 0)), (3, .ref (aX 6)), (4, .int (nI i))] → W p l e room_1 s m #[Value.ref b] below meth c H [] (cells + 1) (slots + 6) Q (F0 m 758 ls [])) : W p l e room_1 s m #[Value.ref b] below meth c H [] cells slots Q (F0 m 377 ls []) := by
  obtain ⟨hx, hb, hml, hown, hz, hK, hTS, hNc, hst, hadX, hadM, hdis, hgX, hgM, hXs, hbl, hn⟩ := C
  obtain ⟨lev, val, pkd, cst, chs, f, levm, valm, chsm, dig, est, cstm, code, hR, hJ, hRm, hs, hV0, hP, hPM⟩ := hI
  have hk := hs.1
  have hdis2 : ∀ i j, i < 7 → j < 7 → aM i ≠ aX j := fun i j hi hj e => hdis j i hj hi e.symm
  refine lv_aload_n hx hb dL_law_377 rfl (lv_at hl 1 rfl) ?_
  refine lv_aload_n hx hb dL_law_378 rfl (lv_at hl 0 rfl) ?_
  refine lv_iload hx hb dL_law_379 (lv_at hl 4 rfl) ?_
  refine lv_iconst (v := nI 1) hx hb dL_law_381 (by decide) ?_
  refine lv_iadd hx hb dL_law_382 ?_
  refine zt_ti (nI_add _ _) ?_
  refine zl_sld hx hb hXs hbl hS (i := i + 1) (by omega) (by omega) dL_law_383 ?_
  refine lv_aload_n hx hb dL_law_384 rfl (lv_at hl 0 rfl) ?_
  refine lv_iload hx hb dL_law_385 (lv_at hl 4 rfl) ?_
  refine lv_iconst (v := nI 2) hx hb dL_law_387 (by decide) ?_
  refine lv_iadd hx hb dL_law_388 ?_
  refine zt_ti (nI_add _ _) ?_
  refine zl_sld hx hb hXs hbl hS (i := i + 2) (by omega) (by omega) dL_law_389 ?_
  refine lv_aload_n hx hb dL_law_390 rfl (lv_at hl 3 rfl) ?_
  refine zl_callH (aX := aX) (aM := aM) (zl_runH (rest := []) hx hb hml hown (tL_isAbove l hadX hst hR) (wcL_77 hz (Nat.le_of_ble_eq_true rfl) (Nat.le_of_ble_eq_true rfl)) (hz _ kst_L_isAbove) (hz _ kC_L_isAbove) hP hK hTS hNc hS rfl hl.1 rfl (Nat.le_of_ble_eq_true rfl) dL_law_391 ⟨by show cells + 1 ≤ 1050; omega, by show slots + 6 ≤ 14541; omega⟩) hdis hgX zl_atM hPM hS (fun hcd v H hv hP hPM hS => ?_) (fun hcd H hP hPM hS => ?_)
  · refine lv_istore (lv' := [(5, .int (nI 0)), (0, .ref b), (1, .ref (aX 0)), (2, .ref (aM 0)), (3, .ref (aX 6)), (4, .int (nI i))]) hx hb dL_law_394 hl (by decide) rfl (fun ls hl => ?_)
    refine lv_aload_n hx hb dL_law_396 rfl (lv_at hl 3 rfl) ?_
    refine lv_aload_n hx hb dL_law_397 rfl (lv_at hl 1 rfl) ?_
    refine lv_iload hx hb dL_law_398 (lv_at hl 5 rfl) ?_
    refine lv_iconst (v := nI 1) hx hb dL_law_400 (by decide) ?_
    refine lv_iadd hx hb dL_law_401 ?_
    refine zt_ti (nI_add _ _) ?_
    refine zl_sld hx hb hXs hbl hS (i := i + 1) (by omega) (by omega) dL_law_402 ?_
    refine lv_aload_n hx hb dL_law_403 rfl (lv_at hl 1 rfl) ?_
    refine lv_iload hx hb dL_law_404 (lv_at hl 5 rfl) ?_
    refine lv_iconst (v := nI 2) hx hb dL_law_406 (by decide) ?_
    refine lv_iadd hx hb dL_law_407 ?_
    refine zt_ti (nI_add _ _) ?_
    refine zl_sld hx hb hXs hbl hS (i := i + 2) (by omega) (by omega) dL_law_408 ?_
    refine zl_callM (aX := aM) (aM := aX) (zg_runC (rest := []) hx hb hml hown (tM_isAbove l hadM hRm) (wcL_79 hz (Nat.le_of_ble_eq_true rfl) (Nat.le_of_ble_eq_true rfl)) (hz _ ki_M_isAbove) (hz _ ks_M_isAbove) (hz _ kC_M_isAbove) hPM hK rfl (q0 := 0) rfl rfl hl.1 rfl (Nat.le_of_ble_eq_true rfl) dL_law_409 ⟨by show cells + 1 + 0 ≤ 1050; omega, by show slots + 6 + 0 ≤ 14541; omega⟩) (fun _ h => h) hdis2 hgM zl_atX hP hS (fun u1 H hu hPM hP _ hS => ?_)
    refine W.eq (g2 := F0 m 412 ls [.int u1]) rfl ?_
    have e1 := hu.1 (zc_b_0 hcd)
    subst e1
    refine W.eq (g2 := F0 m 412 ls [.int (if zq_ab L D (xs (i + 1)).toNatClampNeg (xs (i + 2)).toNatClampNeg = true then 1 else 0)]) rfl ?_
    refine lv_istore (lv' := [(6, .int (if zq_ab L D (xs (i + 1)).toNatClampNeg (xs (i + 2)).toNatClampNeg = true then 1 else 0)), (5, .int (nI 0)), (0, .ref b), (1, .ref (aX 0)), (2, .ref (aM 0)), (3, .ref (aX 6)), (4, .int (nI i))]) hx hb dL_law_412 hl (by decide) rfl (fun ls hl => ?_)
    refine lv_aload_n hx hb dL_law_414 rfl (lv_at hl 4 rfl) ?_
    refine zt_callRi (r := nI (zc_b (zb_in (xs (i + 1)) N && zb_in (xs (i + 2)) N))) (zg_run (rest := []) hx hb hml hown (tM_thrown l) (wcL_59 hz (Nat.le_of_ble_eq_true rfl) (Nat.le_of_ble_eq_true rfl)) (hz _ ki_M_thrown) (hz _ ks_M_thrown) (hz _ kC_M_thrown) hPM hK rfl (q0 := 0) rfl rfl hl.1 rfl (Nat.le_of_ble_eq_true rfl) dL_law_415 ⟨by show cells + 1 + 0 ≤ 1050; omega, by show slots + 6 + 0 ≤ 14541; omega⟩) ?_
    refine lv_iload hx hb dL_law_418 (lv_at hl 1 rfl) ?_
    refine lv_icmp_eq (tgt := 425) hx hb dL_law_420 (by decide) (fun _ => ?_) (fun c420 => absurd c420 (not_not_intro (by rw [hcd])))
    refine lv_iload hx hb dL_law_425 (lv_at hl 1 rfl) ?_
    refine lv_if_ne (tgt := 449) hx hb dL_law_427 (by decide) (fun c427 => absurd c427 (not_not_intro (by decide))) (fun _ => ?_)
    refine lv_aload_n hx hb dL_law_430 rfl (lv_at hl 5 rfl) ?_
    refine lv_iconst (v := nI 0) hx hb dL_law_431 (by decide) ?_
    refine zt_lald hx hb hK hP 6 1 rfl rfl (i := 0) (by decide) (by decide) (v := if zq_ab L D (xs (i + 1)).toNatClampNeg (xs (i + 2)).toNatClampNeg = true then 1 else 0) (if_pos rfl) dL_law_432 ?_
    refine lv_iload hx hb dL_law_433 (lv_at hl 0 rfl) ?_
    generalize hab : zq_ab L D (xs (i + 1)).toNatClampNeg (xs (i + 2)).toNatClampNeg = bb at hl ⊢
    refine zb_eq (tgt := 442) hx hb dL_law_435 (by decide) (fun c435 => ?_) (fun c435 => ?_)
    · subst c435
      refine W.eq (g2 := F0 m 442 ls [.long (lN 0)]) rfl ?_
      refine lv_lconst (v := lN 0) hx hb dL_law_442 (by decide) ?_
      refine zl_same (tgt := 449) hx hb rfl dL_law_443 dL_law_444 (by decide) ?_
      refine lv_goto (tgt := 758) hx hb dL_law_449 (by decide) ?_
      exact kk H D N F k L V S hS ⟨_, _, _, _, _, _, _, _, _, _, _, _, _, hR, hJ, hRm, hs, hV0, hP, hPM⟩ ls (lv_sub hl [2, 3, 4, 5, 6] rfl)
    · subst c435
      refine W.eq (g2 := F0 m 438 ls [.long (lN 1)]) rfl ?_
      refine lv_lconst (v := lN 1) hx hb dL_law_438 (by decide) ?_
      refine lv_goto (tgt := 443) hx hb dL_law_439 (by decide) ?_
      refine zl_same (tgt := 449) hx hb rfl dL_law_443 dL_law_444 (by decide) ?_
      refine lv_goto (tgt := 758) hx hb dL_law_449 (by decide) ?_
      exact kk H D N F k L V S hS ⟨_, _, _, _, _, _, _, _, _, _, _, _, _, hR, hJ, hRm, hs, hV0, hP, hPM⟩ ls (lv_sub hl [2, 3, 4, 5, 6] rfl)
  · refine lv_istore (lv' := [(5, .int (nI (zc_b (zb_in (xs (i + 1)) N && zb_in (xs (i + 2)) N)))), (0, .ref b), (1, .ref (aX 0)), (2, .ref (aM 0)), (3, .ref (aX 6)), (4, .int (nI i))]) hx hb dL_law_394 hl (by decide) rfl (fun ls hl => ?_)
    refine lv_aload_n hx hb dL_law_396 rfl (lv_at hl 3 rfl) ?_
    refine lv_aload_n hx hb dL_law_397 rfl (lv_at hl 1 rfl) ?_
    refine lv_iload hx hb dL_law_398 (lv_at hl 5 rfl) ?_
    refine lv_iconst (v := nI 1) hx hb dL_law_400 (by decide) ?_
    refine lv_iadd hx hb dL_law_401 ?_
    refine zt_ti (nI_add _ _) ?_
    refine zl_sld hx hb hXs hbl hS (i := i + 1) (by omega) (by omega) dL_law_402 ?_
    refine lv_aload_n hx hb dL_law_403 rfl (lv_at hl 1 rfl) ?_
    refine lv_iload hx hb dL_law_404 (lv_at hl 5 rfl) ?_
    refine lv_iconst (v := nI 2) hx hb dL_law_406 (by decide) ?_
    refine lv_iadd hx hb dL_law_407 ?_
    refine zt_ti (nI_add _ _) ?_
    refine zl_sld hx hb hXs hbl hS (i := i + 2) (by omega) (by omega) dL_law_408 ?_
    refine zl_callM (aX := aM) (aM := aX) (zg_runC (rest := []) hx hb hml hown (tM_isAbove l hadM hRm) (wcL_79 hz (Nat.le_of_ble_eq_true rfl) (Nat.le_of_ble_eq_true rfl)) (hz _ ki_M_isAbove) (hz _ ks_M_isAbove) (hz _ kC_M_isAbove) hPM hK rfl (q0 := 0) rfl rfl hl.1 rfl (Nat.le_of_ble_eq_true rfl) dL_law_409 ⟨by show cells + 1 + 0 ≤ 1050; omega, by show slots + 6 + 0 ≤ 14541; omega⟩) (fun _ h => h) hdis2 hgM zl_atX hP hS (fun u1 H hu hPM hP _ hS => ?_)
    refine W.eq (g2 := F0 m 412 ls [.int u1]) rfl ?_
    refine lv_istore (lv' := [(6, .int u1), (5, .int (nI (zc_b (zb_in (xs (i + 1)) N && zb_in (xs (i + 2)) N)))), (0, .ref b), (1, .ref (aX 0)), (2, .ref (aM 0)), (3, .ref (aX 6)), (4, .int (nI i))]) hx hb dL_law_412 hl (by decide) rfl (fun ls hl => ?_)
    refine lv_aload_n hx hb dL_law_414 rfl (lv_at hl 4 rfl) ?_
    refine zt_callRi (r := nI (zc_b (zb_in (xs (i + 1)) N && zb_in (xs (i + 2)) N))) (zg_run (rest := []) hx hb hml hown (tM_thrown l) (wcL_59 hz (Nat.le_of_ble_eq_true rfl) (Nat.le_of_ble_eq_true rfl)) (hz _ ki_M_thrown) (hz _ ks_M_thrown) (hz _ kC_M_thrown) hPM hK rfl (q0 := 0) rfl rfl hl.1 rfl (Nat.le_of_ble_eq_true rfl) dL_law_415 ⟨by show cells + 1 + 0 ≤ 1050; omega, by show slots + 6 + 0 ≤ 14541; omega⟩) ?_
    refine lv_iload hx hb dL_law_418 (lv_at hl 1 rfl) ?_
    refine lv_icmp_eq (tgt := 425) hx hb dL_law_420 (by decide) (fun _ => ?_) (fun c420 => absurd c420 (not_not_intro rfl))
    refine lv_iload hx hb dL_law_425 (lv_at hl 1 rfl) ?_
    refine lv_if_ne (tgt := 449) hx hb dL_law_427 (by decide) (fun _ => ?_) (fun c427 => absurd c427 (zc_ne hcd (zc_b_le _)))
    refine lv_goto (tgt := 758) hx hb dL_law_449 (by decide) ?_
    exact kk H D N F k L V S hS ⟨_, _, _, _, _, _, _, _, _, _, _, _, _, hR, hJ, hRm, hs, hV0, hP, hPM⟩ ls (lv_sub hl [2, 3, 4, 5, 6] rfl)
set_option maxHeartbeats 4000000 in
set_option maxRecDepth 100000 in
/-- case 6: told -/
theorem zl_c6 {p : Program} {l : Launch} {e : Env} {s : State} {m : MethodId} {below : List Frame} {meth : Method} {c : Code} {b n : Nat} {xs : Nat → Int32} {dC : Nat → ClassId} {dI : Nat → Nat → Nat} {cI cJ cB : ClassId} {aX aM : Nat → Nat} (C : zl_C p l s m c b n xs dC dI cI cJ cB aX aM) {cells slots i : Nat} (hc9 : cells + 1 ≤ 1050) (hs9 : slots + 6 ≤ 14541) (hi : i + 4 ≤ n) {H : Heap} (hS : va_S (zl_A s.heap.size) s.heap H []) {D N F k : Nat} {L V S : Nat → Nat} (hI : zl_I dC dI cI cJ cB aX aM H D N F k L V S) {ls : Array Slot} (hl : lv_has ls 8 [(0, .ref b), (1, .ref (aX 0)), (2, .ref (aM 0)), (3, .ref (aX 6)), (4, .int (nI i))]) {Q : State → Prop}
    (kk : ∀ (H : Heap) (D N F k : Nat) (L V S : Nat → Nat), va_S (zl_A s.heap.size) s.heap H [] → zl_I dC dI cI cJ cB aX aM H D N F k L V S → ∀ ls : Array Slot, lv_has ls 8 [(0, .ref b), (1, .ref (aX 0)), (2, .ref (aM 0)), (3, .ref (aX 6)), (4, .int (nI i))] → W p l e room_1 s m #[Value.ref b] below meth c H [] (cells + 1) (slots + 6) Q (F0 m 758 ls [])) : W p l e room_1 s m #[Value.ref b] below meth c H [] cells slots Q (F0 m 452 ls []) := by
  obtain ⟨hx, hb, hml, hown, hz, hK, hTS, hNc, hst, hadX, hadM, hdis, hgX, hgM, hXs, hbl, hn⟩ := C
  obtain ⟨lev, val, pkd, cst, chs, f, levm, valm, chsm, dig, est, cstm, code, hR, hJ, hRm, hs, hV0, hP, hPM⟩ := hI
  have hk := hs.1
  have hdis2 : ∀ i j, i < 7 → j < 7 → aM i ≠ aX j := fun i j hi hj e => hdis j i hj hi e.symm
  refine lv_aload_n hx hb dL_law_452 rfl (lv_at hl 1 rfl) ?_
  refine lv_aload_n hx hb dL_law_453 rfl (lv_at hl 0 rfl) ?_
  refine lv_iload hx hb dL_law_454 (lv_at hl 4 rfl) ?_
  refine lv_iconst (v := nI 1) hx hb dL_law_456 (by decide) ?_
  refine lv_iadd hx hb dL_law_457 ?_
  refine zt_ti (nI_add _ _) ?_
  refine zl_sld hx hb hXs hbl hS (i := i + 1) (by omega) (by omega) dL_law_458 ?_
  refine lv_aload_n hx hb dL_law_459 rfl (lv_at hl 0 rfl) ?_
  refine lv_iload hx hb dL_law_460 (lv_at hl 4 rfl) ?_
  refine lv_iconst (v := nI 2) hx hb dL_law_462 (by decide) ?_
  refine lv_iadd hx hb dL_law_463 ?_
  refine zt_ti (nI_add _ _) ?_
  refine zl_sld hx hb hXs hbl hS (i := i + 2) (by omega) (by omega) dL_law_464 ?_
  refine lv_aload_n hx hb dL_law_465 rfl (lv_at hl 3 rfl) ?_
  refine zl_callH (aX := aX) (aM := aM) (zl_runH (rest := []) hx hb hml hown (tL_told l hadX (zx_J_c hJ) hst hR) (wcL_80 hz (Nat.le_of_ble_eq_true rfl) (Nat.le_of_ble_eq_true rfl)) (hz _ kst_L_told) (hz _ kC_L_told) hP hK hTS hNc hS rfl hl.1 rfl (Nat.le_of_ble_eq_true rfl) dL_law_466 ⟨by show cells + 1 ≤ 1050; omega, by show slots + 6 ≤ 14541; omega⟩) hdis hgX zl_atM hPM hS (fun hcd v H hv hP hPM hS => ?_) (fun hcd H hP hPM hS => ?_)
  · refine lv_istore (lv' := [(5, .int (nI 0)), (0, .ref b), (1, .ref (aX 0)), (2, .ref (aM 0)), (3, .ref (aX 6)), (4, .int (nI i))]) hx hb dL_law_469 hl (by decide) rfl (fun ls hl => ?_)
    refine lv_aload_n hx hb dL_law_471 rfl (lv_at hl 3 rfl) ?_
    refine lv_aload_n hx hb dL_law_472 rfl (lv_at hl 1 rfl) ?_
    refine lv_iload hx hb dL_law_473 (lv_at hl 5 rfl) ?_
    refine lv_iconst (v := nI 1) hx hb dL_law_475 (by decide) ?_
    refine lv_iadd hx hb dL_law_476 ?_
    refine zt_ti (nI_add _ _) ?_
    refine zl_sld hx hb hXs hbl hS (i := i + 1) (by omega) (by omega) dL_law_477 ?_
    refine lv_aload_n hx hb dL_law_478 rfl (lv_at hl 1 rfl) ?_
    refine lv_iload hx hb dL_law_479 (lv_at hl 5 rfl) ?_
    refine lv_iconst (v := nI 2) hx hb dL_law_481 (by decide) ?_
    refine lv_iadd hx hb dL_law_482 ?_
    refine zt_ti (nI_add _ _) ?_
    refine zl_sld hx hb hXs hbl hS (i := i + 2) (by omega) (by omega) dL_law_483 ?_
    refine zl_callM (aX := aM) (aM := aX) (zg_runC (rest := []) hx hb hml hown (tM_told l hadM hRm hs) (wcL_82 hz (Nat.le_of_ble_eq_true rfl) (Nat.le_of_ble_eq_true rfl)) (hz _ ki_M_told) (hz _ ks_M_told) (hz _ kC_M_told) hPM hK rfl (q0 := 0) rfl rfl hl.1 rfl (Nat.le_of_ble_eq_true rfl) dL_law_484 ⟨by show cells + 1 + 0 ≤ 1050; omega, by show slots + 6 + 0 ≤ 14541; omega⟩) (fun _ h => h) hdis2 hgM zl_atX hP hS (fun ⟨u1, u2, u3⟩ H hu hPM hP _ hS => ?_)
    refine W.eq (g2 := F0 m 487 ls [.long u1]) rfl ?_
    have e1 := hu (zc_b_0 hcd)
    dsimp only at e1
    subst e1
    refine W.eq (g2 := F0 m 487 ls [.long (lN (zq_told (zq_es L V D F) (zq_ab L D) (zq_ct (zq_es L V D F) (zq_ab L D) F S k) N (xs (i + 1)).toNatClampNeg (xs (i + 2)).toNatClampNeg))]) rfl ?_
    refine lv_lstore (lv' := [(6, .long (lN (zq_told (zq_es L V D F) (zq_ab L D) (zq_ct (zq_es L V D F) (zq_ab L D) F S k) N (xs (i + 1)).toNatClampNeg (xs (i + 2)).toNatClampNeg))), (5, .int (nI 0)), (0, .ref b), (1, .ref (aX 0)), (2, .ref (aM 0)), (3, .ref (aX 6)), (4, .int (nI i))]) hx hb dL_law_487 hl (by decide) rfl (fun ls hl => ?_)
    refine lv_aload_n hx hb dL_law_489 rfl (lv_at hl 4 rfl) ?_
    refine zt_callRi (r := nI (zc_b (zb_in (xs (i + 1)) N && zb_in (xs (i + 2)) 3))) (zg_run (rest := []) hx hb hml hown (tM_thrown l) (wcL_59 hz (Nat.le_of_ble_eq_true rfl) (Nat.le_of_ble_eq_true rfl)) (hz _ ki_M_thrown) (hz _ ks_M_thrown) (hz _ kC_M_thrown) hPM hK rfl (q0 := 0) rfl rfl hl.1 rfl (Nat.le_of_ble_eq_true rfl) dL_law_490 ⟨by show cells + 1 + 0 ≤ 1050; omega, by show slots + 6 + 0 ≤ 14541; omega⟩) ?_
    refine lv_iload hx hb dL_law_493 (lv_at hl 1 rfl) ?_
    refine lv_icmp_eq (tgt := 500) hx hb dL_law_495 (by decide) (fun _ => ?_) (fun c495 => absurd c495 (not_not_intro (by rw [hcd])))
    refine lv_iload hx hb dL_law_500 (lv_at hl 1 rfl) ?_
    refine lv_if_ne (tgt := 516) hx hb dL_law_502 (by decide) (fun c502 => absurd c502 (not_not_intro (by decide))) (fun _ => ?_)
    refine lv_aload_n hx hb dL_law_505 rfl (lv_at hl 5 rfl) ?_
    refine lv_iconst (v := nI 0) hx hb dL_law_506 (by decide) ?_
    refine zt_lald hx hb hK hP 6 1 rfl rfl (i := 0) (by decide) (by decide) (v := lN (zq_told (zq_es L V D F) (zq_ab L D) (zq_ct (zq_es L V D F) (zq_ab L D) F S k) N (xs (i + 1)).toNatClampNeg (xs (i + 2)).toNatClampNeg)) (if_pos rfl) dL_law_507 ?_
    refine lv_lload hx hb dL_law_508 (lv_at hl 0 rfl) ?_
    refine zl_same (tgt := 516) hx hb rfl dL_law_510 dL_law_511 (by decide) ?_
    refine lv_goto (tgt := 758) hx hb dL_law_516 (by decide) ?_
    exact kk H D N F k L V S hS ⟨_, _, _, _, _, _, _, _, _, _, _, _, _, hR, hJ, hRm, hs, hV0, hP, hPM⟩ ls (lv_sub hl [2, 3, 4, 5, 6] rfl)
  · refine lv_istore (lv' := [(5, .int (nI (zc_b (zb_in (xs (i + 1)) N && zb_in (xs (i + 2)) 3)))), (0, .ref b), (1, .ref (aX 0)), (2, .ref (aM 0)), (3, .ref (aX 6)), (4, .int (nI i))]) hx hb dL_law_469 hl (by decide) rfl (fun ls hl => ?_)
    refine lv_aload_n hx hb dL_law_471 rfl (lv_at hl 3 rfl) ?_
    refine lv_aload_n hx hb dL_law_472 rfl (lv_at hl 1 rfl) ?_
    refine lv_iload hx hb dL_law_473 (lv_at hl 5 rfl) ?_
    refine lv_iconst (v := nI 1) hx hb dL_law_475 (by decide) ?_
    refine lv_iadd hx hb dL_law_476 ?_
    refine zt_ti (nI_add _ _) ?_
    refine zl_sld hx hb hXs hbl hS (i := i + 1) (by omega) (by omega) dL_law_477 ?_
    refine lv_aload_n hx hb dL_law_478 rfl (lv_at hl 1 rfl) ?_
    refine lv_iload hx hb dL_law_479 (lv_at hl 5 rfl) ?_
    refine lv_iconst (v := nI 2) hx hb dL_law_481 (by decide) ?_
    refine lv_iadd hx hb dL_law_482 ?_
    refine zt_ti (nI_add _ _) ?_
    refine zl_sld hx hb hXs hbl hS (i := i + 2) (by omega) (by omega) dL_law_483 ?_
    refine zl_callM (aX := aM) (aM := aX) (zg_runC (rest := []) hx hb hml hown (tM_told l hadM hRm hs) (wcL_82 hz (Nat.le_of_ble_eq_true rfl) (Nat.le_of_ble_eq_true rfl)) (hz _ ki_M_told) (hz _ ks_M_told) (hz _ kC_M_told) hPM hK rfl (q0 := 0) rfl rfl hl.1 rfl (Nat.le_of_ble_eq_true rfl) dL_law_484 ⟨by show cells + 1 + 0 ≤ 1050; omega, by show slots + 6 + 0 ≤ 14541; omega⟩) (fun _ h => h) hdis2 hgM zl_atX hP hS (fun ⟨u1, u2, u3⟩ H hu hPM hP _ hS => ?_)
    refine W.eq (g2 := F0 m 487 ls [.long u1]) rfl ?_
    refine lv_lstore (lv' := [(6, .long u1), (5, .int (nI (zc_b (zb_in (xs (i + 1)) N && zb_in (xs (i + 2)) 3)))), (0, .ref b), (1, .ref (aX 0)), (2, .ref (aM 0)), (3, .ref (aX 6)), (4, .int (nI i))]) hx hb dL_law_487 hl (by decide) rfl (fun ls hl => ?_)
    refine lv_aload_n hx hb dL_law_489 rfl (lv_at hl 4 rfl) ?_
    refine zt_callRi (r := nI (zc_b (zb_in (xs (i + 1)) N && zb_in (xs (i + 2)) 3))) (zg_run (rest := []) hx hb hml hown (tM_thrown l) (wcL_59 hz (Nat.le_of_ble_eq_true rfl) (Nat.le_of_ble_eq_true rfl)) (hz _ ki_M_thrown) (hz _ ks_M_thrown) (hz _ kC_M_thrown) hPM hK rfl (q0 := 0) rfl rfl hl.1 rfl (Nat.le_of_ble_eq_true rfl) dL_law_490 ⟨by show cells + 1 + 0 ≤ 1050; omega, by show slots + 6 + 0 ≤ 14541; omega⟩) ?_
    refine lv_iload hx hb dL_law_493 (lv_at hl 1 rfl) ?_
    refine lv_icmp_eq (tgt := 500) hx hb dL_law_495 (by decide) (fun _ => ?_) (fun c495 => absurd c495 (not_not_intro rfl))
    refine lv_iload hx hb dL_law_500 (lv_at hl 1 rfl) ?_
    refine lv_if_ne (tgt := 516) hx hb dL_law_502 (by decide) (fun _ => ?_) (fun c502 => absurd c502 (zc_ne hcd (zc_b_le _)))
    refine lv_goto (tgt := 758) hx hb dL_law_516 (by decide) ?_
    exact kk H D N F k L V S hS ⟨_, _, _, _, _, _, _, _, _, _, _, _, _, hR, hJ, hRm, hs, hV0, hP, hPM⟩ ls (lv_sub hl [2, 3, 4, 5, 6] rfl)
set_option maxHeartbeats 4000000 in
set_option maxRecDepth 100000 in
/-- case 7: take -/
theorem zl_c7 {p : Program} {l : Launch} {e : Env} {s : State} {m : MethodId} {below : List Frame} {meth : Method} {c : Code} {b n : Nat} {xs : Nat → Int32} {dC : Nat → ClassId} {dI : Nat → Nat → Nat} {cI cJ cB : ClassId} {aX aM : Nat → Nat} (C : zl_C p l s m c b n xs dC dI cI cJ cB aX aM) {cells slots i : Nat} (hc9 : cells + 1 ≤ 1050) (hs9 : slots + 6 ≤ 14541) (hi : i + 4 ≤ n) {H : Heap} (hS : va_S (zl_A s.heap.size) s.heap H []) {D N F k : Nat} {L V S : Nat → Nat} (hI : zl_I dC dI cI cJ cB aX aM H D N F k L V S) {ls : Array Slot} (hl : lv_has ls 8 [(0, .ref b), (1, .ref (aX 0)), (2, .ref (aM 0)), (3, .ref (aX 6)), (4, .int (nI i))]) {Q : State → Prop}
    (kk : ∀ (H : Heap) (D N F k : Nat) (L V S : Nat → Nat), va_S (zl_A s.heap.size) s.heap H [] → zl_I dC dI cI cJ cB aX aM H D N F k L V S → ∀ ls : Array Slot, lv_has ls 8 [(0, .ref b), (1, .ref (aX 0)), (2, .ref (aM 0)), (3, .ref (aX 6)), (4, .int (nI i))] → W p l e room_1 s m #[Value.ref b] below meth c H [] (cells + 1) (slots + 6) Q (F0 m 758 ls [])) : W p l e room_1 s m #[Value.ref b] below meth c H [] cells slots Q (F0 m 519 ls []) := by
  obtain ⟨hx, hb, hml, hown, hz, hK, hTS, hNc, hst, hadX, hadM, hdis, hgX, hgM, hXs, hbl, hn⟩ := C
  obtain ⟨lev, val, pkd, cst, chs, f, levm, valm, chsm, dig, est, cstm, code, hR, hJ, hRm, hs, hV0, hP, hPM⟩ := hI
  have hk := hs.1
  have hdis2 : ∀ i j, i < 7 → j < 7 → aM i ≠ aX j := fun i j hi hj e => hdis j i hj hi e.symm
  refine lv_aload_n hx hb dL_law_519 rfl (lv_at hl 1 rfl) ?_
  refine lv_aload_n hx hb dL_law_520 rfl (lv_at hl 0 rfl) ?_
  refine lv_iload hx hb dL_law_521 (lv_at hl 4 rfl) ?_
  refine lv_iconst (v := nI 1) hx hb dL_law_523 (by decide) ?_
  refine lv_iadd hx hb dL_law_524 ?_
  refine zt_ti (nI_add _ _) ?_
  refine zl_sld hx hb hXs hbl hS (i := i + 1) (by omega) (by omega) dL_law_525 ?_
  refine lv_aload_n hx hb dL_law_526 rfl (lv_at hl 3 rfl) ?_
  refine zl_callH (aX := aX) (aM := aM) (zl_runH (rest := []) hx hb hml hown (tL_take l hadX hst hR hJ hk) (wcL_83 hz (Nat.le_of_ble_eq_true rfl) (Nat.le_of_ble_eq_true rfl)) (hz _ kst_L_take) (hz _ kC_L_take) hP hK hTS hNc hS rfl hl.1 rfl (Nat.le_of_ble_eq_true rfl) dL_law_527 ⟨by show cells + 1 ≤ 1050; omega, by show slots + 6 ≤ 14541; omega⟩) hdis hgX zl_atM hPM hS (fun hcd v H hv hP hPM hS => ?_) (fun hcd H hP hPM hS => ?_)
  · refine lv_istore (lv' := [(5, .int (nI 0)), (0, .ref b), (1, .ref (aX 0)), (2, .ref (aM 0)), (3, .ref (aX 6)), (4, .int (nI i))]) hx hb dL_law_530 hl (by decide) rfl (fun ls hl => ?_)
    refine lv_aload_n hx hb dL_law_532 rfl (lv_at hl 3 rfl) ?_
    refine lv_aload_n hx hb dL_law_533 rfl (lv_at hl 1 rfl) ?_
    refine lv_iload hx hb dL_law_534 (lv_at hl 5 rfl) ?_
    refine lv_iconst (v := nI 1) hx hb dL_law_536 (by decide) ?_
    refine lv_iadd hx hb dL_law_537 ?_
    refine zt_ti (nI_add _ _) ?_
    refine zl_sld hx hb hXs hbl hS (i := i + 1) (by omega) (by omega) dL_law_538 ?_
    refine zl_callM (aX := aM) (aM := aX) (zg_runC (rest := []) hx hb hml hown (tM_take l hadM hR.2.2.2.1 hk) (wcL_85 hz (Nat.le_of_ble_eq_true rfl) (Nat.le_of_ble_eq_true rfl)) (hz _ ki_M_take) (hz _ ks_M_take) (hz _ kC_M_take) hPM hK rfl (q0 := 0) rfl rfl hl.1 rfl (Nat.le_of_ble_eq_true rfl) dL_law_539 ⟨by show cells + 1 + 0 ≤ 1050; omega, by show slots + 6 + 0 ≤ 14541; omega⟩) (fun _ h => h) hdis2 hgM zl_atX hP hS (fun ⟨u1, u2, u3⟩ H hu hPM hP _ hS => ?_)
    refine W.eq (g2 := F0 m 542 ls [.int u1]) rfl ?_
    rcases hu with ⟨-, e5⟩ | ⟨q, -⟩
    · cases e5
      refine W.eq (g2 := F0 m 542 ls [.int (nI (k + 1))]) rfl ?_
      refine lv_istore (lv' := [(6, .int (nI (k + 1))), (5, .int (nI 0)), (0, .ref b), (1, .ref (aX 0)), (2, .ref (aM 0)), (3, .ref (aX 6)), (4, .int (nI i))]) hx hb dL_law_542 hl (by decide) rfl (fun ls hl => ?_)
      refine lv_aload_n hx hb dL_law_544 rfl (lv_at hl 4 rfl) ?_
      refine zt_callRi (r := nI (zc_take (zn (xs (i + 1))) N k)) (zg_run (rest := []) hx hb hml hown (tM_thrown l) (wcL_59 hz (Nat.le_of_ble_eq_true rfl) (Nat.le_of_ble_eq_true rfl)) (hz _ ki_M_thrown) (hz _ ks_M_thrown) (hz _ kC_M_thrown) hPM hK rfl (q0 := 0) rfl rfl hl.1 rfl (Nat.le_of_ble_eq_true rfl) dL_law_545 ⟨by show cells + 1 + 0 ≤ 1050; omega, by show slots + 6 + 0 ≤ 14541; omega⟩) ?_
      refine lv_iload hx hb dL_law_548 (lv_at hl 1 rfl) ?_
      refine lv_icmp_eq (tgt := 555) hx hb dL_law_550 (by decide) (fun _ => ?_) (fun c550 => absurd c550 (not_not_intro (by rw [hcd])))
      refine lv_iload hx hb dL_law_555 (lv_at hl 1 rfl) ?_
      refine lv_if_ne (tgt := 572) hx hb dL_law_557 (by decide) (fun c557 => absurd c557 (not_not_intro (by decide))) (fun _ => ?_)
      refine lv_aload_n hx hb dL_law_560 rfl (lv_at hl 5 rfl) ?_
      refine lv_iconst (v := nI 0) hx hb dL_law_561 (by decide) ?_
      refine zt_lald hx hb hK hP 6 1 rfl rfl (i := 0) (by decide) (by decide) (v := lN (k + 1)) (if_pos rfl) dL_law_562 ?_
      refine lv_iload hx hb dL_law_563 (lv_at hl 0 rfl) ?_
      refine lv_i2l (v := lN (k + 1)) hx hb dL_law_565 (nI_l (by omega)) ?_
      refine zl_same (tgt := 572) hx hb rfl dL_law_566 dL_law_567 (by decide) ?_
      refine lv_goto (tgt := 758) hx hb dL_law_572 (by decide) ?_
      exact kk H D N F (k + 1) L V (zq_up S k (zn (xs (i + 1)))) hS ⟨_, _, _, _, _, _, _, _, _, _, _, _, _, hR, hv, hRm, zm_S_up hs (zc_take_0 hcd).2 (zc_take_0 hcd).1, hV0, hP, hPM⟩ ls (lv_sub hl [2, 3, 4, 5, 6] rfl)
    · exact absurd hcd q
  · refine lv_istore (lv' := [(5, .int (nI (zc_take (zn (xs (i + 1))) N k))), (0, .ref b), (1, .ref (aX 0)), (2, .ref (aM 0)), (3, .ref (aX 6)), (4, .int (nI i))]) hx hb dL_law_530 hl (by decide) rfl (fun ls hl => ?_)
    refine lv_aload_n hx hb dL_law_532 rfl (lv_at hl 3 rfl) ?_
    refine lv_aload_n hx hb dL_law_533 rfl (lv_at hl 1 rfl) ?_
    refine lv_iload hx hb dL_law_534 (lv_at hl 5 rfl) ?_
    refine lv_iconst (v := nI 1) hx hb dL_law_536 (by decide) ?_
    refine lv_iadd hx hb dL_law_537 ?_
    refine zt_ti (nI_add _ _) ?_
    refine zl_sld hx hb hXs hbl hS (i := i + 1) (by omega) (by omega) dL_law_538 ?_
    refine zl_callM (aX := aM) (aM := aX) (zg_runC (rest := []) hx hb hml hown (tM_take l hadM hR.2.2.2.1 hk) (wcL_85 hz (Nat.le_of_ble_eq_true rfl) (Nat.le_of_ble_eq_true rfl)) (hz _ ki_M_take) (hz _ ks_M_take) (hz _ kC_M_take) hPM hK rfl (q0 := 0) rfl rfl hl.1 rfl (Nat.le_of_ble_eq_true rfl) dL_law_539 ⟨by show cells + 1 + 0 ≤ 1050; omega, by show slots + 6 + 0 ≤ 14541; omega⟩) (fun _ h => h) hdis2 hgM zl_atX hP hS (fun ⟨u1, u2, u3⟩ H hu hPM hP _ hS => ?_)
    refine W.eq (g2 := F0 m 542 ls [.int u1]) rfl ?_
    rcases hu with ⟨q, -⟩ | ⟨-, e1⟩
    · exact absurd q hcd
    · dsimp only at e1
      cases e1
      refine lv_istore (lv' := [(6, .int u1), (5, .int (nI (zc_take (zn (xs (i + 1))) N k))), (0, .ref b), (1, .ref (aX 0)), (2, .ref (aM 0)), (3, .ref (aX 6)), (4, .int (nI i))]) hx hb dL_law_542 hl (by decide) rfl (fun ls hl => ?_)
      refine lv_aload_n hx hb dL_law_544 rfl (lv_at hl 4 rfl) ?_
      refine zt_callRi (r := nI (zc_take (zn (xs (i + 1))) N k)) (zg_run (rest := []) hx hb hml hown (tM_thrown l) (wcL_59 hz (Nat.le_of_ble_eq_true rfl) (Nat.le_of_ble_eq_true rfl)) (hz _ ki_M_thrown) (hz _ ks_M_thrown) (hz _ kC_M_thrown) hPM hK rfl (q0 := 0) rfl rfl hl.1 rfl (Nat.le_of_ble_eq_true rfl) dL_law_545 ⟨by show cells + 1 + 0 ≤ 1050; omega, by show slots + 6 + 0 ≤ 14541; omega⟩) ?_
      refine lv_iload hx hb dL_law_548 (lv_at hl 1 rfl) ?_
      refine lv_icmp_eq (tgt := 555) hx hb dL_law_550 (by decide) (fun _ => ?_) (fun c550 => absurd c550 (not_not_intro rfl))
      refine lv_iload hx hb dL_law_555 (lv_at hl 1 rfl) ?_
      refine lv_if_ne (tgt := 572) hx hb dL_law_557 (by decide) (fun _ => ?_) (fun c557 => absurd c557 (zc_ne hcd (zc_take_le _ _ _)))
      refine lv_goto (tgt := 758) hx hb dL_law_572 (by decide) ?_
      exact kk H D N F k L V S hS ⟨_, _, _, _, _, _, _, _, _, _, _, _, _, hR, hJ, hRm, hs, hV0, hP, hPM⟩ ls (lv_sub hl [2, 3, 4, 5, 6] rfl)
set_option maxHeartbeats 4000000 in
set_option maxRecDepth 100000 in
/-- case 8: step -/
theorem zl_c8 {p : Program} {l : Launch} {e : Env} {s : State} {m : MethodId} {below : List Frame} {meth : Method} {c : Code} {b n : Nat} {xs : Nat → Int32} {dC : Nat → ClassId} {dI : Nat → Nat → Nat} {cI cJ cB : ClassId} {aX aM : Nat → Nat} (C : zl_C p l s m c b n xs dC dI cI cJ cB aX aM) {cells slots i : Nat} (hc9 : cells + 1 ≤ 1050) (hs9 : slots + 6 ≤ 14541) (hi : i + 4 ≤ n) {H : Heap} (hS : va_S (zl_A s.heap.size) s.heap H []) {D N F k : Nat} {L V S : Nat → Nat} (hI : zl_I dC dI cI cJ cB aX aM H D N F k L V S) {ls : Array Slot} (hl : lv_has ls 8 [(0, .ref b), (1, .ref (aX 0)), (2, .ref (aM 0)), (3, .ref (aX 6)), (4, .int (nI i))]) {Q : State → Prop}
    (kk : ∀ (H : Heap) (D N F k : Nat) (L V S : Nat → Nat), va_S (zl_A s.heap.size) s.heap H [] → zl_I dC dI cI cJ cB aX aM H D N F k L V S → ∀ ls : Array Slot, lv_has ls 8 [(0, .ref b), (1, .ref (aX 0)), (2, .ref (aM 0)), (3, .ref (aX 6)), (4, .int (nI i))] → W p l e room_1 s m #[Value.ref b] below meth c H [] (cells + 1) (slots + 6) Q (F0 m 758 ls [])) : W p l e room_1 s m #[Value.ref b] below meth c H [] cells slots Q (F0 m 575 ls []) := by
  obtain ⟨hx, hb, hml, hown, hz, hK, hTS, hNc, hst, hadX, hadM, hdis, hgX, hgM, hXs, hbl, hn⟩ := C
  obtain ⟨lev, val, pkd, cst, chs, f, levm, valm, chsm, dig, est, cstm, code, hR, hJ, hRm, hs, hV0, hP, hPM⟩ := hI
  have hk := hs.1
  have hdis2 : ∀ i j, i < 7 → j < 7 → aM i ≠ aX j := fun i j hi hj e => hdis j i hj hi e.symm
  refine lv_aload_n hx hb dL_law_575 rfl (lv_at hl 1 rfl) ?_
  refine lv_aload_n hx hb dL_law_576 rfl (lv_at hl 3 rfl) ?_
  refine zl_callH (aX := aX) (aM := aM) (zl_runH (rest := []) hx hb hml hown (tL_step l hadX hst hR hJ hk) (wcL_86 hz (Nat.le_of_ble_eq_true rfl) (Nat.le_of_ble_eq_true rfl)) (hz _ kst_L_step) (hz _ kC_L_step) hP hK hTS hNc hS rfl hl.1 rfl (Nat.le_of_ble_eq_true rfl) dL_law_577 ⟨by show cells + 1 ≤ 1050; omega, by show slots + 6 ≤ 14541; omega⟩) hdis hgX zl_atM hPM hS (fun hcd v H hv hP hPM hS => ?_) (fun hcd H hP hPM hS => ?_)
  · refine lv_istore (lv' := [(5, .int (nI 0)), (0, .ref b), (1, .ref (aX 0)), (2, .ref (aM 0)), (3, .ref (aX 6)), (4, .int (nI i))]) hx hb dL_law_580 hl (by decide) rfl (fun ls hl => ?_)
    refine lv_aload_n hx hb dL_law_582 rfl (lv_at hl 3 rfl) ?_
    refine zl_callM (aX := aM) (aM := aX) (zg_runC (rest := []) hx hb hml hown (tM_step l hadM hRm hs) (wcL_89 hz (Nat.le_of_ble_eq_true rfl) (Nat.le_of_ble_eq_true rfl)) (hz _ ki_M_step) (hz _ ks_M_step) (hz _ kC_M_step) hPM hK rfl (q0 := 0) rfl rfl hl.1 rfl (Nat.le_of_ble_eq_true rfl) dL_law_583 ⟨by show cells + 1 + 0 ≤ 1050; omega, by show slots + 6 + 0 ≤ 14541; omega⟩) (fun _ h => h) hdis2 hgM zl_atX hP hS (fun ⟨u1, u2, u3, u4, u5⟩ H hu hPM hP _ hS => ?_)
    refine W.eq (g2 := F0 m 586 ls [.int u1]) rfl ?_
    rcases hu with ⟨-, e1, e2, e3⟩ | ⟨q, -⟩
    · dsimp only at e1 e2 e3
      subst e1
      subst e2
      refine W.eq (g2 := F0 m 586 ls [.int (nI (zq_pick D N F L V k S) - 1)]) rfl ?_
      refine lv_istore (lv' := [(6, .int (nI (zq_pick D N F L V k S) - 1)), (5, .int (nI 0)), (0, .ref b), (1, .ref (aX 0)), (2, .ref (aM 0)), (3, .ref (aX 6)), (4, .int (nI i))]) hx hb dL_law_586 hl (by decide) rfl (fun ls hl => ?_)
      refine lv_aload_n hx hb dL_law_588 rfl (lv_at hl 4 rfl) ?_
      refine zt_callRi (r := nI (zc_st k)) (zg_run (rest := []) hx hb hml hown (tM_thrown l) (wcL_59 hz (Nat.le_of_ble_eq_true rfl) (Nat.le_of_ble_eq_true rfl)) (hz _ ki_M_thrown) (hz _ ks_M_thrown) (hz _ kC_M_thrown) hPM hK rfl (q0 := 0) rfl rfl hl.1 rfl (Nat.le_of_ble_eq_true rfl) dL_law_589 ⟨by show cells + 1 + 0 ≤ 1050; omega, by show slots + 6 + 0 ≤ 14541; omega⟩) ?_
      refine lv_iload hx hb dL_law_592 (lv_at hl 1 rfl) ?_
      refine lv_icmp_eq (tgt := 599) hx hb dL_law_594 (by decide) (fun _ => ?_) (fun c594 => absurd c594 (not_not_intro (by rw [hcd])))
      refine lv_iload hx hb dL_law_599 (lv_at hl 1 rfl) ?_
      refine lv_if_ne (tgt := 616) hx hb dL_law_601 (by decide) (fun c601 => absurd c601 (not_not_intro (by decide))) (fun _ => ?_)
      refine lv_aload_n hx hb dL_law_604 rfl (lv_at hl 5 rfl) ?_
      refine lv_iconst (v := nI 0) hx hb dL_law_605 (by decide) ?_
      refine zt_lald hx hb hK hP 6 1 rfl rfl (i := 0) (by decide) (by decide) (v := (nI (zq_pick D N F L V k S) - 1).toInt64) (if_pos rfl) dL_law_606 ?_
      refine lv_iload hx hb dL_law_607 (lv_at hl 0 rfl) ?_
      refine lv_i2l (v := (nI (zq_pick D N F L V k S) - 1).toInt64) hx hb dL_law_609 (rfl) ?_
      refine zl_same (tgt := 616) hx hb rfl dL_law_610 dL_law_611 (by decide) ?_
      refine lv_goto (tgt := 758) hx hb dL_law_616 (by decide) ?_
      exact kk H D N F (zq_go (zq_pick D N F L V) 1 k S).1 L V (zq_go (zq_pick D N F L V) 1 k S).2 hS ⟨_, _, _, _, _, _, _, _, _, _, _, _, _, hR, hv, hRm, e3, hV0, hP, hPM⟩ ls (lv_sub hl [2, 3, 4, 5, 6] rfl)
    · exact absurd hcd q
  · refine lv_istore (lv' := [(5, .int (nI (zc_st k))), (0, .ref b), (1, .ref (aX 0)), (2, .ref (aM 0)), (3, .ref (aX 6)), (4, .int (nI i))]) hx hb dL_law_580 hl (by decide) rfl (fun ls hl => ?_)
    refine lv_aload_n hx hb dL_law_582 rfl (lv_at hl 3 rfl) ?_
    refine zl_callM (aX := aM) (aM := aX) (zg_runC (rest := []) hx hb hml hown (tM_step l hadM hRm hs) (wcL_89 hz (Nat.le_of_ble_eq_true rfl) (Nat.le_of_ble_eq_true rfl)) (hz _ ki_M_step) (hz _ ks_M_step) (hz _ kC_M_step) hPM hK rfl (q0 := 0) rfl rfl hl.1 rfl (Nat.le_of_ble_eq_true rfl) dL_law_583 ⟨by show cells + 1 + 0 ≤ 1050; omega, by show slots + 6 + 0 ≤ 14541; omega⟩) (fun _ h => h) hdis2 hgM zl_atX hP hS (fun ⟨u1, u2, u3, u4, u5⟩ H hu hPM hP _ hS => ?_)
    refine W.eq (g2 := F0 m 586 ls [.int u1]) rfl ?_
    rcases hu with ⟨q, -⟩ | ⟨-, e1⟩
    · exact absurd q hcd
    · dsimp only at e1
      cases e1
      refine lv_istore (lv' := [(6, .int u1), (5, .int (nI (zc_st k))), (0, .ref b), (1, .ref (aX 0)), (2, .ref (aM 0)), (3, .ref (aX 6)), (4, .int (nI i))]) hx hb dL_law_586 hl (by decide) rfl (fun ls hl => ?_)
      refine lv_aload_n hx hb dL_law_588 rfl (lv_at hl 4 rfl) ?_
      refine zt_callRi (r := nI (zc_st k)) (zg_run (rest := []) hx hb hml hown (tM_thrown l) (wcL_59 hz (Nat.le_of_ble_eq_true rfl) (Nat.le_of_ble_eq_true rfl)) (hz _ ki_M_thrown) (hz _ ks_M_thrown) (hz _ kC_M_thrown) hPM hK rfl (q0 := 0) rfl rfl hl.1 rfl (Nat.le_of_ble_eq_true rfl) dL_law_589 ⟨by show cells + 1 + 0 ≤ 1050; omega, by show slots + 6 + 0 ≤ 14541; omega⟩) ?_
      refine lv_iload hx hb dL_law_592 (lv_at hl 1 rfl) ?_
      refine lv_icmp_eq (tgt := 599) hx hb dL_law_594 (by decide) (fun _ => ?_) (fun c594 => absurd c594 (not_not_intro rfl))
      refine lv_iload hx hb dL_law_599 (lv_at hl 1 rfl) ?_
      refine lv_if_ne (tgt := 616) hx hb dL_law_601 (by decide) (fun _ => ?_) (fun c601 => absurd c601 (zc_ne hcd (zc_st_le _)))
      refine lv_goto (tgt := 758) hx hb dL_law_616 (by decide) ?_
      exact kk H D N F k L V S hS ⟨_, _, _, _, _, _, _, _, _, _, _, _, _, hR, hJ, hRm, hs, hV0, hP, hPM⟩ ls (lv_sub hl [2, 3, 4, 5, 6] rfl)
set_option maxHeartbeats 4000000 in
set_option maxRecDepth 100000 in
/-- case 9: choose -/
theorem zl_c9 {p : Program} {l : Launch} {e : Env} {s : State} {m : MethodId} {below : List Frame} {meth : Method} {c : Code} {b n : Nat} {xs : Nat → Int32} {dC : Nat → ClassId} {dI : Nat → Nat → Nat} {cI cJ cB : ClassId} {aX aM : Nat → Nat} (C : zl_C p l s m c b n xs dC dI cI cJ cB aX aM) {cells slots i : Nat} (hc9 : cells + 1 ≤ 1050) (hs9 : slots + 6 ≤ 14541) (hi : i + 4 ≤ n) {H : Heap} (hS : va_S (zl_A s.heap.size) s.heap H []) {D N F k : Nat} {L V S : Nat → Nat} (hI : zl_I dC dI cI cJ cB aX aM H D N F k L V S) {ls : Array Slot} (hl : lv_has ls 8 [(0, .ref b), (1, .ref (aX 0)), (2, .ref (aM 0)), (3, .ref (aX 6)), (4, .int (nI i))]) {Q : State → Prop}
    (kk : ∀ (H : Heap) (D N F k : Nat) (L V S : Nat → Nat), va_S (zl_A s.heap.size) s.heap H [] → zl_I dC dI cI cJ cB aX aM H D N F k L V S → ∀ ls : Array Slot, lv_has ls 8 [(0, .ref b), (1, .ref (aX 0)), (2, .ref (aM 0)), (3, .ref (aX 6)), (4, .int (nI i))] → W p l e room_1 s m #[Value.ref b] below meth c H [] (cells + 1) (slots + 6) Q (F0 m 758 ls [])) : W p l e room_1 s m #[Value.ref b] below meth c H [] cells slots Q (F0 m 619 ls []) := by
  obtain ⟨hx, hb, hml, hown, hz, hK, hTS, hNc, hst, hadX, hadM, hdis, hgX, hgM, hXs, hbl, hn⟩ := C
  obtain ⟨lev, val, pkd, cst, chs, f, levm, valm, chsm, dig, est, cstm, code, hR, hJ, hRm, hs, hV0, hP, hPM⟩ := hI
  have hk := hs.1
  have hdis2 : ∀ i j, i < 7 → j < 7 → aM i ≠ aX j := fun i j hi hj e => hdis j i hj hi e.symm
  refine lv_aload_n hx hb dL_law_619 rfl (lv_at hl 1 rfl) ?_
  refine lv_aload_n hx hb dL_law_620 rfl (lv_at hl 0 rfl) ?_
  refine lv_iload hx hb dL_law_621 (lv_at hl 4 rfl) ?_
  refine lv_iconst (v := nI 1) hx hb dL_law_623 (by decide) ?_
  refine lv_iadd hx hb dL_law_624 ?_
  refine zt_ti (nI_add _ _) ?_
  refine zl_sld hx hb hXs hbl hS (i := i + 1) (by omega) (by omega) dL_law_625 ?_
  refine lv_aload_n hx hb dL_law_626 rfl (lv_at hl 3 rfl) ?_
  refine zl_callH (aX := aX) (aM := aM) (zl_runH (rest := []) hx hb hml hown (tL_choose l hadX hst hR hJ hk) (wcL_90 hz (Nat.le_of_ble_eq_true rfl) (Nat.le_of_ble_eq_true rfl)) (hz _ kst_L_choose) (hz _ kC_L_choose) hP hK hTS hNc hS rfl hl.1 rfl (Nat.le_of_ble_eq_true rfl) dL_law_627 ⟨by show cells + 1 ≤ 1050; omega, by show slots + 6 ≤ 14541; omega⟩) hdis hgX zl_atM hPM hS (fun hcd v H hv hP hPM hS => ?_) (fun hcd H hP hPM hS => ?_)
  · refine lv_istore (lv' := [(5, .int (nI 0)), (0, .ref b), (1, .ref (aX 0)), (2, .ref (aM 0)), (3, .ref (aX 6)), (4, .int (nI i))]) hx hb dL_law_630 hl (by decide) rfl (fun ls hl => ?_)
    refine lv_aload_n hx hb dL_law_632 rfl (lv_at hl 3 rfl) ?_
    refine lv_aload_n hx hb dL_law_633 rfl (lv_at hl 1 rfl) ?_
    refine lv_iload hx hb dL_law_634 (lv_at hl 5 rfl) ?_
    refine lv_iconst (v := nI 1) hx hb dL_law_636 (by decide) ?_
    refine lv_iadd hx hb dL_law_637 ?_
    refine zt_ti (nI_add _ _) ?_
    refine zl_sld hx hb hXs hbl hS (i := i + 1) (by omega) (by omega) dL_law_638 ?_
    refine zl_callM (aX := aM) (aM := aX) (zg_runC (rest := []) hx hb hml hown (tM_choose l hadM hRm hs) (wcL_92 hz (Nat.le_of_ble_eq_true rfl) (Nat.le_of_ble_eq_true rfl)) (hz _ ki_M_choose) (hz _ ks_M_choose) (hz _ kC_M_choose) hPM hK rfl (q0 := 0) rfl rfl hl.1 rfl (Nat.le_of_ble_eq_true rfl) dL_law_639 ⟨by show cells + 1 + 0 ≤ 1050; omega, by show slots + 6 + 0 ≤ 14541; omega⟩) (fun _ h => h) hdis2 hgM zl_atX hP hS (fun ⟨u1, u2, u3, u4, u5⟩ H hu hPM hP _ hS => ?_)
    refine W.eq (g2 := F0 m 642 ls [.int u1]) rfl ?_
    rcases hu with ⟨-, e1, e2, e3⟩ | ⟨q, -⟩
    · dsimp only at e1 e2 e3
      subst e1
      subst e2
      refine W.eq (g2 := F0 m 642 ls [.int (nI (zq_go (zq_pick D N F L V) (zn (xs (i + 1)) - k) k S).1)]) rfl ?_
      refine lv_istore (lv' := [(6, .int (nI (zq_go (zq_pick D N F L V) (zn (xs (i + 1)) - k) k S).1)), (5, .int (nI 0)), (0, .ref b), (1, .ref (aX 0)), (2, .ref (aM 0)), (3, .ref (aX 6)), (4, .int (nI i))]) hx hb dL_law_642 hl (by decide) rfl (fun ls hl => ?_)
      refine lv_aload_n hx hb dL_law_644 rfl (lv_at hl 4 rfl) ?_
      refine zt_callRi (r := nI (zc_cho (zn (xs (i + 1))))) (zg_run (rest := []) hx hb hml hown (tM_thrown l) (wcL_59 hz (Nat.le_of_ble_eq_true rfl) (Nat.le_of_ble_eq_true rfl)) (hz _ ki_M_thrown) (hz _ ks_M_thrown) (hz _ kC_M_thrown) hPM hK rfl (q0 := 0) rfl rfl hl.1 rfl (Nat.le_of_ble_eq_true rfl) dL_law_645 ⟨by show cells + 1 + 0 ≤ 1050; omega, by show slots + 6 + 0 ≤ 14541; omega⟩) ?_
      refine lv_iload hx hb dL_law_648 (lv_at hl 1 rfl) ?_
      refine lv_icmp_eq (tgt := 655) hx hb dL_law_650 (by decide) (fun _ => ?_) (fun c650 => absurd c650 (not_not_intro (by rw [hcd])))
      refine lv_iload hx hb dL_law_655 (lv_at hl 1 rfl) ?_
      refine lv_if_ne (tgt := 672) hx hb dL_law_657 (by decide) (fun c657 => absurd c657 (not_not_intro (by decide))) (fun _ => ?_)
      refine lv_aload_n hx hb dL_law_660 rfl (lv_at hl 5 rfl) ?_
      refine lv_iconst (v := nI 0) hx hb dL_law_661 (by decide) ?_
      refine zt_lald hx hb hK hP 6 1 rfl rfl (i := 0) (by decide) (by decide) (v := (nI (zq_go (zq_pick D N F L V) (zn (xs (i + 1)) - k) k S).1).toInt64) (if_pos rfl) dL_law_662 ?_
      refine lv_iload hx hb dL_law_663 (lv_at hl 0 rfl) ?_
      refine lv_i2l (v := (nI (zq_go (zq_pick D N F L V) (zn (xs (i + 1)) - k) k S).1).toInt64) hx hb dL_law_665 (rfl) ?_
      refine zl_same (tgt := 672) hx hb rfl dL_law_666 dL_law_667 (by decide) ?_
      refine lv_goto (tgt := 758) hx hb dL_law_672 (by decide) ?_
      exact kk H D N F (zq_go (zq_pick D N F L V) (zn (xs (i + 1)) - k) k S).1 L V (zq_go (zq_pick D N F L V) (zn (xs (i + 1)) - k) k S).2 hS ⟨_, _, _, _, _, _, _, _, _, _, _, _, _, hR, hv, hRm, e3, hV0, hP, hPM⟩ ls (lv_sub hl [2, 3, 4, 5, 6] rfl)
    · exact absurd hcd q
  · refine lv_istore (lv' := [(5, .int (nI (zc_cho (zn (xs (i + 1)))))), (0, .ref b), (1, .ref (aX 0)), (2, .ref (aM 0)), (3, .ref (aX 6)), (4, .int (nI i))]) hx hb dL_law_630 hl (by decide) rfl (fun ls hl => ?_)
    refine lv_aload_n hx hb dL_law_632 rfl (lv_at hl 3 rfl) ?_
    refine lv_aload_n hx hb dL_law_633 rfl (lv_at hl 1 rfl) ?_
    refine lv_iload hx hb dL_law_634 (lv_at hl 5 rfl) ?_
    refine lv_iconst (v := nI 1) hx hb dL_law_636 (by decide) ?_
    refine lv_iadd hx hb dL_law_637 ?_
    refine zt_ti (nI_add _ _) ?_
    refine zl_sld hx hb hXs hbl hS (i := i + 1) (by omega) (by omega) dL_law_638 ?_
    refine zl_callM (aX := aM) (aM := aX) (zg_runC (rest := []) hx hb hml hown (tM_choose l hadM hRm hs) (wcL_92 hz (Nat.le_of_ble_eq_true rfl) (Nat.le_of_ble_eq_true rfl)) (hz _ ki_M_choose) (hz _ ks_M_choose) (hz _ kC_M_choose) hPM hK rfl (q0 := 0) rfl rfl hl.1 rfl (Nat.le_of_ble_eq_true rfl) dL_law_639 ⟨by show cells + 1 + 0 ≤ 1050; omega, by show slots + 6 + 0 ≤ 14541; omega⟩) (fun _ h => h) hdis2 hgM zl_atX hP hS (fun ⟨u1, u2, u3, u4, u5⟩ H hu hPM hP _ hS => ?_)
    refine W.eq (g2 := F0 m 642 ls [.int u1]) rfl ?_
    rcases hu with ⟨q, -⟩ | ⟨-, e1⟩
    · exact absurd q hcd
    · dsimp only at e1
      cases e1
      refine lv_istore (lv' := [(6, .int u1), (5, .int (nI (zc_cho (zn (xs (i + 1)))))), (0, .ref b), (1, .ref (aX 0)), (2, .ref (aM 0)), (3, .ref (aX 6)), (4, .int (nI i))]) hx hb dL_law_642 hl (by decide) rfl (fun ls hl => ?_)
      refine lv_aload_n hx hb dL_law_644 rfl (lv_at hl 4 rfl) ?_
      refine zt_callRi (r := nI (zc_cho (zn (xs (i + 1))))) (zg_run (rest := []) hx hb hml hown (tM_thrown l) (wcL_59 hz (Nat.le_of_ble_eq_true rfl) (Nat.le_of_ble_eq_true rfl)) (hz _ ki_M_thrown) (hz _ ks_M_thrown) (hz _ kC_M_thrown) hPM hK rfl (q0 := 0) rfl rfl hl.1 rfl (Nat.le_of_ble_eq_true rfl) dL_law_645 ⟨by show cells + 1 + 0 ≤ 1050; omega, by show slots + 6 + 0 ≤ 14541; omega⟩) ?_
      refine lv_iload hx hb dL_law_648 (lv_at hl 1 rfl) ?_
      refine lv_icmp_eq (tgt := 655) hx hb dL_law_650 (by decide) (fun _ => ?_) (fun c650 => absurd c650 (not_not_intro rfl))
      refine lv_iload hx hb dL_law_655 (lv_at hl 1 rfl) ?_
      refine lv_if_ne (tgt := 672) hx hb dL_law_657 (by decide) (fun _ => ?_) (fun c657 => absurd c657 (zc_ne hcd (zc_cho_le _)))
      refine lv_goto (tgt := 758) hx hb dL_law_672 (by decide) ?_
      exact kk H D N F k L V S hS ⟨_, _, _, _, _, _, _, _, _, _, _, _, _, hR, hJ, hRm, hs, hV0, hP, hPM⟩ ls (lv_sub hl [2, 3, 4, 5, 6] rfl)
set_option maxHeartbeats 4000000 in
set_option maxRecDepth 100000 in
/-- case 10: chosen -/
theorem zl_c10 {p : Program} {l : Launch} {e : Env} {s : State} {m : MethodId} {below : List Frame} {meth : Method} {c : Code} {b n : Nat} {xs : Nat → Int32} {dC : Nat → ClassId} {dI : Nat → Nat → Nat} {cI cJ cB : ClassId} {aX aM : Nat → Nat} (C : zl_C p l s m c b n xs dC dI cI cJ cB aX aM) {cells slots i : Nat} (hc9 : cells + 1 ≤ 1050) (hs9 : slots + 6 ≤ 14541) (hi : i + 4 ≤ n) {H : Heap} (hS : va_S (zl_A s.heap.size) s.heap H []) {D N F k : Nat} {L V S : Nat → Nat} (hI : zl_I dC dI cI cJ cB aX aM H D N F k L V S) {ls : Array Slot} (hl : lv_has ls 8 [(0, .ref b), (1, .ref (aX 0)), (2, .ref (aM 0)), (3, .ref (aX 6)), (4, .int (nI i))]) {Q : State → Prop}
    (kk : ∀ (H : Heap) (D N F k : Nat) (L V S : Nat → Nat), va_S (zl_A s.heap.size) s.heap H [] → zl_I dC dI cI cJ cB aX aM H D N F k L V S → ∀ ls : Array Slot, lv_has ls 8 [(0, .ref b), (1, .ref (aX 0)), (2, .ref (aM 0)), (3, .ref (aX 6)), (4, .int (nI i))] → W p l e room_1 s m #[Value.ref b] below meth c H [] (cells + 1) (slots + 6) Q (F0 m 758 ls [])) : W p l e room_1 s m #[Value.ref b] below meth c H [] cells slots Q (F0 m 675 ls []) := by
  obtain ⟨hx, hb, hml, hown, hz, hK, hTS, hNc, hst, hadX, hadM, hdis, hgX, hgM, hXs, hbl, hn⟩ := C
  obtain ⟨lev, val, pkd, cst, chs, f, levm, valm, chsm, dig, est, cstm, code, hR, hJ, hRm, hs, hV0, hP, hPM⟩ := hI
  have hk := hs.1
  have hdis2 : ∀ i j, i < 7 → j < 7 → aM i ≠ aX j := fun i j hi hj e => hdis j i hj hi e.symm
  refine lv_aload_n hx hb dL_law_675 rfl (lv_at hl 1 rfl) ?_
  refine lv_aload_n hx hb dL_law_676 rfl (lv_at hl 0 rfl) ?_
  refine lv_iload hx hb dL_law_677 (lv_at hl 4 rfl) ?_
  refine lv_iconst (v := nI 1) hx hb dL_law_679 (by decide) ?_
  refine lv_iadd hx hb dL_law_680 ?_
  refine zt_ti (nI_add _ _) ?_
  refine zl_sld hx hb hXs hbl hS (i := i + 1) (by omega) (by omega) dL_law_681 ?_
  refine lv_aload_n hx hb dL_law_682 rfl (lv_at hl 3 rfl) ?_
  refine zl_callH (aX := aX) (aM := aM) (zl_runH (rest := []) hx hb hml hown (tL_chosen l hadX hst hk hJ.2) (wcL_93 hz (Nat.le_of_ble_eq_true rfl) (Nat.le_of_ble_eq_true rfl)) (hz _ kst_L_chosen) (hz _ kC_L_chosen) hP hK hTS hNc hS rfl hl.1 rfl (Nat.le_of_ble_eq_true rfl) dL_law_683 ⟨by show cells + 1 ≤ 1050; omega, by show slots + 6 ≤ 14541; omega⟩) hdis hgX zl_atM hPM hS (fun hcd v H hv hP hPM hS => ?_) (fun hcd H hP hPM hS => ?_)
  · refine lv_istore (lv' := [(5, .int (nI 0)), (0, .ref b), (1, .ref (aX 0)), (2, .ref (aM 0)), (3, .ref (aX 6)), (4, .int (nI i))]) hx hb dL_law_686 hl (by decide) rfl (fun ls hl => ?_)
    refine lv_aload_n hx hb dL_law_688 rfl (lv_at hl 3 rfl) ?_
    refine lv_aload_n hx hb dL_law_689 rfl (lv_at hl 1 rfl) ?_
    refine lv_iload hx hb dL_law_690 (lv_at hl 5 rfl) ?_
    refine lv_iconst (v := nI 1) hx hb dL_law_692 (by decide) ?_
    refine lv_iadd hx hb dL_law_693 ?_
    refine zt_ti (nI_add _ _) ?_
    refine zl_sld hx hb hXs hbl hS (i := i + 1) (by omega) (by omega) dL_law_694 ?_
    refine zl_callM (aX := aM) (aM := aX) (zg_runC (rest := []) hx hb hml hown (tM_chosen l hadM hs) (wcL_95 hz (Nat.le_of_ble_eq_true rfl) (Nat.le_of_ble_eq_true rfl)) (hz _ ki_M_chosen) (hz _ ks_M_chosen) (hz _ kC_M_chosen) hPM hK rfl (q0 := 0) rfl rfl hl.1 rfl (Nat.le_of_ble_eq_true rfl) dL_law_695 ⟨by show cells + 1 + 0 ≤ 1050; omega, by show slots + 6 + 0 ≤ 14541; omega⟩) (fun _ h => h) hdis2 hgM zl_atX hP hS (fun u1 H hu hPM hP _ hS => ?_)
    refine W.eq (g2 := F0 m 698 ls [.int u1]) rfl ?_
    have e1 := hu (zc_b_0 hcd)
    subst e1
    refine W.eq (g2 := F0 m 698 ls [.int (nI (S (xs (i + 1)).toNatClampNeg))]) rfl ?_
    refine lv_istore (lv' := [(6, .int (nI (S (xs (i + 1)).toNatClampNeg))), (5, .int (nI 0)), (0, .ref b), (1, .ref (aX 0)), (2, .ref (aM 0)), (3, .ref (aX 6)), (4, .int (nI i))]) hx hb dL_law_698 hl (by decide) rfl (fun ls hl => ?_)
    refine lv_aload_n hx hb dL_law_700 rfl (lv_at hl 4 rfl) ?_
    refine zt_callRi (r := nI (zc_b (zb_in (xs (i + 1)) k))) (zg_run (rest := []) hx hb hml hown (tM_thrown l) (wcL_59 hz (Nat.le_of_ble_eq_true rfl) (Nat.le_of_ble_eq_true rfl)) (hz _ ki_M_thrown) (hz _ ks_M_thrown) (hz _ kC_M_thrown) hPM hK rfl (q0 := 0) rfl rfl hl.1 rfl (Nat.le_of_ble_eq_true rfl) dL_law_701 ⟨by show cells + 1 + 0 ≤ 1050; omega, by show slots + 6 + 0 ≤ 14541; omega⟩) ?_
    refine lv_iload hx hb dL_law_704 (lv_at hl 1 rfl) ?_
    refine lv_icmp_eq (tgt := 711) hx hb dL_law_706 (by decide) (fun _ => ?_) (fun c706 => absurd c706 (not_not_intro (by rw [hcd])))
    refine lv_iload hx hb dL_law_711 (lv_at hl 1 rfl) ?_
    refine lv_if_ne (tgt := 728) hx hb dL_law_713 (by decide) (fun c713 => absurd c713 (not_not_intro (by decide))) (fun _ => ?_)
    refine lv_aload_n hx hb dL_law_716 rfl (lv_at hl 5 rfl) ?_
    refine lv_iconst (v := nI 0) hx hb dL_law_717 (by decide) ?_
    refine zt_lald hx hb hK hP 6 1 rfl rfl (i := 0) (by decide) (by decide) (v := (nI (S (xs (i + 1)).toNatClampNeg)).toInt64) (if_pos rfl) dL_law_718 ?_
    refine lv_iload hx hb dL_law_719 (lv_at hl 0 rfl) ?_
    refine lv_i2l (v := (nI (S (xs (i + 1)).toNatClampNeg)).toInt64) hx hb dL_law_721 (rfl) ?_
    refine zl_same (tgt := 728) hx hb rfl dL_law_722 dL_law_723 (by decide) ?_
    refine lv_goto (tgt := 758) hx hb dL_law_728 (by decide) ?_
    exact kk H D N F k L V S hS ⟨_, _, _, _, _, _, _, _, _, _, _, _, _, hR, hJ, hRm, hs, hV0, hP, hPM⟩ ls (lv_sub hl [2, 3, 4, 5, 6] rfl)
  · refine lv_istore (lv' := [(5, .int (nI (zc_b (zb_in (xs (i + 1)) k)))), (0, .ref b), (1, .ref (aX 0)), (2, .ref (aM 0)), (3, .ref (aX 6)), (4, .int (nI i))]) hx hb dL_law_686 hl (by decide) rfl (fun ls hl => ?_)
    refine lv_aload_n hx hb dL_law_688 rfl (lv_at hl 3 rfl) ?_
    refine lv_aload_n hx hb dL_law_689 rfl (lv_at hl 1 rfl) ?_
    refine lv_iload hx hb dL_law_690 (lv_at hl 5 rfl) ?_
    refine lv_iconst (v := nI 1) hx hb dL_law_692 (by decide) ?_
    refine lv_iadd hx hb dL_law_693 ?_
    refine zt_ti (nI_add _ _) ?_
    refine zl_sld hx hb hXs hbl hS (i := i + 1) (by omega) (by omega) dL_law_694 ?_
    refine zl_callM (aX := aM) (aM := aX) (zg_runC (rest := []) hx hb hml hown (tM_chosen l hadM hs) (wcL_95 hz (Nat.le_of_ble_eq_true rfl) (Nat.le_of_ble_eq_true rfl)) (hz _ ki_M_chosen) (hz _ ks_M_chosen) (hz _ kC_M_chosen) hPM hK rfl (q0 := 0) rfl rfl hl.1 rfl (Nat.le_of_ble_eq_true rfl) dL_law_695 ⟨by show cells + 1 + 0 ≤ 1050; omega, by show slots + 6 + 0 ≤ 14541; omega⟩) (fun _ h => h) hdis2 hgM zl_atX hP hS (fun u1 H hu hPM hP _ hS => ?_)
    refine W.eq (g2 := F0 m 698 ls [.int u1]) rfl ?_
    refine lv_istore (lv' := [(6, .int u1), (5, .int (nI (zc_b (zb_in (xs (i + 1)) k)))), (0, .ref b), (1, .ref (aX 0)), (2, .ref (aM 0)), (3, .ref (aX 6)), (4, .int (nI i))]) hx hb dL_law_698 hl (by decide) rfl (fun ls hl => ?_)
    refine lv_aload_n hx hb dL_law_700 rfl (lv_at hl 4 rfl) ?_
    refine zt_callRi (r := nI (zc_b (zb_in (xs (i + 1)) k))) (zg_run (rest := []) hx hb hml hown (tM_thrown l) (wcL_59 hz (Nat.le_of_ble_eq_true rfl) (Nat.le_of_ble_eq_true rfl)) (hz _ ki_M_thrown) (hz _ ks_M_thrown) (hz _ kC_M_thrown) hPM hK rfl (q0 := 0) rfl rfl hl.1 rfl (Nat.le_of_ble_eq_true rfl) dL_law_701 ⟨by show cells + 1 + 0 ≤ 1050; omega, by show slots + 6 + 0 ≤ 14541; omega⟩) ?_
    refine lv_iload hx hb dL_law_704 (lv_at hl 1 rfl) ?_
    refine lv_icmp_eq (tgt := 711) hx hb dL_law_706 (by decide) (fun _ => ?_) (fun c706 => absurd c706 (not_not_intro rfl))
    refine lv_iload hx hb dL_law_711 (lv_at hl 1 rfl) ?_
    refine lv_if_ne (tgt := 728) hx hb dL_law_713 (by decide) (fun _ => ?_) (fun c713 => absurd c713 (zc_ne hcd (zc_b_le _)))
    refine lv_goto (tgt := 758) hx hb dL_law_728 (by decide) ?_
    exact kk H D N F k L V S hS ⟨_, _, _, _, _, _, _, _, _, _, _, _, _, hR, hJ, hRm, hs, hV0, hP, hPM⟩ ls (lv_sub hl [2, 3, 4, 5, 6] rfl)
set_option maxHeartbeats 4000000 in
set_option maxRecDepth 100000 in
/-- case 3: views -/
theorem zl_c3 {p : Program} {l : Launch} {e : Env} {s : State} {m : MethodId} {below : List Frame} {meth : Method} {c : Code} {b n : Nat} {xs : Nat → Int32} {dC : Nat → ClassId} {dI : Nat → Nat → Nat} {cI cJ cB : ClassId} {aX aM : Nat → Nat} (C : zl_C p l s m c b n xs dC dI cI cJ cB aX aM) {cells slots i : Nat} (hc9 : cells + 1 ≤ 1050) (hs9 : slots + 6 ≤ 14541) (hi : i + 4 ≤ n) {H : Heap} (hS : va_S (zl_A s.heap.size) s.heap H []) {D N F k : Nat} {L V S : Nat → Nat} (hI : zl_I dC dI cI cJ cB aX aM H D N F k L V S) {ls : Array Slot} (hl : lv_has ls 8 [(0, .ref b), (1, .ref (aX 0)), (2, .ref (aM 0)), (3, .ref (aX 6)), (4, .int (nI i))]) {Q : State → Prop}
    (kk : ∀ (H : Heap) (D N F k : Nat) (L V S : Nat → Nat), va_S (zl_A s.heap.size) s.heap H [] → zl_I dC dI cI cJ cB aX aM H D N F k L V S → ∀ ls : Array Slot, lv_has ls 8 [(0, .ref b), (1, .ref (aX 0)), (2, .ref (aM 0)), (3, .ref (aX 6)), (4, .int (nI i))] → W p l e room_1 s m #[Value.ref b] below meth c H [] (cells + 1) (slots + 6) Q (F0 m 758 ls [])) : W p l e room_1 s m #[Value.ref b] below meth c H [] cells slots Q (F0 m 296 ls []) := by
  obtain ⟨hx, hb, hml, hown, hz, hK, hTS, hNc, hst, hadX, hadM, hdis, hgX, hgM, hXs, hbl, hn⟩ := C
  obtain ⟨lev, val, pkd, cst, chs, f, levm, valm, chsm, dig, est, cstm, code, hR, hJ, hRm, hs, hV0, hP, hPM⟩ := hI
  have hk := hs.1
  have hdis2 : ∀ i j, i < 7 → j < 7 → aM i ≠ aX j := fun i j hi hj e => hdis j i hj hi e.symm
  have hPx := hP.sub (ws' := zx_w aX cI cJ lev val pkd cst chs D N F k) [0, 1, 2, 3, 4, 5] rfl
  refine lv_aload_n hx hb dL_law_296 rfl (lv_at hl 1 rfl) ?_
  refine zt_callRi (zg_run (rest := []) hx hb hml hown (tX_views l) (wcL_69 hz (Nat.le_of_ble_eq_true rfl) (Nat.le_of_ble_eq_true rfl)) (hz _ ki_X_views) (hz _ ks_X_views) (hz _ kC_X_views) hPx hK rfl (q0 := 0) rfl rfl hl.1 rfl (Nat.le_of_ble_eq_true rfl) dL_law_297 ⟨by show cells + 0 ≤ 1050; omega, by show slots + 0 ≤ 14541; omega⟩) ?_
  refine lv_aload_n hx hb dL_law_300 rfl (lv_at hl 2 rfl) ?_
  refine zl_callM (aX := aM) (aM := aX) (zg_runC (rest := [.int (nI N)]) hx hb hml hown (tM_views l hadM) (wcL_72 hz (Nat.le_of_ble_eq_true rfl) (Nat.le_of_ble_eq_true rfl)) (hz _ ki_M_views) (hz _ ks_M_views) (hz _ kC_M_views) hPM hK rfl (q0 := 0) rfl rfl hl.1 rfl (Nat.le_of_ble_eq_true rfl) dL_law_301 ⟨by show cells + 0 ≤ 1050; omega, by show slots + 0 ≤ 14541; omega⟩) (fun _ h => h) hdis2 hgM zl_atX hP hS (fun u H _ hPM hP _ hS => ?_)
  refine W.eq (g2 := F0 m 304 ls [.int (nI N), .int (nI N)]) rfl ?_
  refine lv_icmp_eq (tgt := 758) hx hb dL_law_304 (by decide) (fun _ => ?_) (fun c304 => absurd c304 (not_not_intro rfl))
  refine W.widen (k := cells + 1) (n := slots + 6) (by omega) (by omega) ?_
  exact kk H D N F k L V S hS ⟨_, _, _, _, _, _, _, _, _, _, _, _, _, hR, hJ, hRm, hs, hV0, hP, hPM⟩ ls (lv_sub hl [0, 1, 2, 3, 4] rfl)
set_option maxHeartbeats 4000000 in
set_option maxRecDepth 100000 in
/-- case 11: drop -/
theorem zl_c11 {p : Program} {l : Launch} {e : Env} {s : State} {m : MethodId} {below : List Frame} {meth : Method} {c : Code} {b n : Nat} {xs : Nat → Int32} {dC : Nat → ClassId} {dI : Nat → Nat → Nat} {cI cJ cB : ClassId} {aX aM : Nat → Nat} (C : zl_C p l s m c b n xs dC dI cI cJ cB aX aM) {cells slots i : Nat} (hc9 : cells + 1 ≤ 1050) (hs9 : slots + 6 ≤ 14541) (hi : i + 4 ≤ n) {H : Heap} (hS : va_S (zl_A s.heap.size) s.heap H []) {D N F k : Nat} {L V S : Nat → Nat} (hI : zl_I dC dI cI cJ cB aX aM H D N F k L V S) {ls : Array Slot} (hl : lv_has ls 8 [(0, .ref b), (1, .ref (aX 0)), (2, .ref (aM 0)), (3, .ref (aX 6)), (4, .int (nI i))]) {Q : State → Prop}
    (kk : ∀ (H : Heap) (D N F k : Nat) (L V S : Nat → Nat), va_S (zl_A s.heap.size) s.heap H [] → zl_I dC dI cI cJ cB aX aM H D N F k L V S → ∀ ls : Array Slot, lv_has ls 8 [(0, .ref b), (1, .ref (aX 0)), (2, .ref (aM 0)), (3, .ref (aX 6)), (4, .int (nI i))] → W p l e room_1 s m #[Value.ref b] below meth c H [] (cells + 1) (slots + 6) Q (F0 m 758 ls [])) : W p l e room_1 s m #[Value.ref b] below meth c H [] cells slots Q (F0 m 731 ls []) := by
  obtain ⟨hx, hb, hml, hown, hz, hK, hTS, hNc, hst, hadX, hadM, hdis, hgX, hgM, hXs, hbl, hn⟩ := C
  obtain ⟨lev, val, pkd, cst, chs, f, levm, valm, chsm, dig, est, cstm, code, hR, hJ, hRm, hs, hV0, hP, hPM⟩ := hI
  have hk := hs.1
  have hdis2 : ∀ i j, i < 7 → j < 7 → aM i ≠ aX j := fun i j hi hj e => hdis j i hj hi e.symm
  have hPx := hP.sub (ws' := zx_w aX cI cJ lev val pkd cst chs D N F k) [0, 1, 2, 3, 4, 5] rfl
  refine lv_aload_n hx hb dL_law_731 rfl (lv_at hl 1 rfl) ?_
  have hP6 := hP.sub (ws' := zo_w aX cJ f) [6] rfl
  have h6 : aX 6 < H.size := (hP6 0 _ rfl).lt
  refine zl_callM (aX := aX) (aM := aM) (zg_runC (rest := []) hx hb hml hown (tX_drop l (zg_ap6 hadX) hR.2.2.2.2.1) (wcL_96 hz (Nat.le_of_ble_eq_true rfl) (Nat.le_of_ble_eq_true rfl)) (hz _ ki_X_drop) (hz _ ks_X_drop) (hz _ kC_X_drop) hPx hK rfl (q0 := 0) rfl rfl hl.1 rfl (Nat.le_of_ble_eq_true rfl) dL_law_732 ⟨by show cells + 0 ≤ 1050; omega, by show slots + 0 ≤ 14541; omega⟩) (fun _ h => zg_A67 h) hdis hgX zl_atM hPM hS (fun v H hv hPx hPM hk9 hS => ?_)
  refine W.eq (g2 := F0 m 735 ls [.int (nI k)]) rfl ?_
  have hP := hPx.app (hP6.kept (H1 := H) (fun j q hjq => ?_))
  rotate_left
  · have hz1 : j < 1 := (List.getElem?_eq_some_iff.mp hjq).1
    rw [show j = 0 by omega] at hjq
    cases hjq
    exact hk9 _ h6 (zg_not6 hadX h6)
  refine lv_aload_n hx hb dL_law_735 rfl (lv_at hl 2 rfl) ?_
  refine zl_callM (aX := aM) (aM := aX) (zg_runC (rest := [.int (nI k)]) hx hb hml hown (tM_drop l hadM) (wcL_99 hz (Nat.le_of_ble_eq_true rfl) (Nat.le_of_ble_eq_true rfl)) (hz _ ki_M_drop) (hz _ ks_M_drop) (hz _ kC_M_drop) hPM hK rfl (q0 := 0) rfl rfl hl.1 rfl (Nat.le_of_ble_eq_true rfl) dL_law_736 ⟨by show cells + 0 ≤ 1050; omega, by show slots + 0 ≤ 14541; omega⟩) (fun _ h => h) hdis2 hgM zl_atX hP hS (fun u H _ hPM hP _ hS => ?_)
  refine W.eq (g2 := F0 m 739 ls [.int (nI k), .int (nI k)]) rfl ?_
  refine lv_icmp_eq (tgt := 758) hx hb dL_law_739 (by decide) (fun _ => ?_) (fun c739 => absurd c739 (not_not_intro rfl))
  refine W.widen (k := cells + 1) (n := slots + 6) (by omega) (by omega) ?_
  exact kk H D N F 0 L V S hS ⟨_, _, _, _, _, _, _, _, _, _, _, _, _, hR, zx_J0 hR.2.2.2.1 hv, hRm, zm_S0, hV0, hP, hPM⟩ ls (lv_sub hl [0, 1, 2, 3, 4] rfl)
set_option maxHeartbeats 4000000 in
set_option maxRecDepth 100000 in
/-- case 12: total -/
theorem zl_c12 {p : Program} {l : Launch} {e : Env} {s : State} {m : MethodId} {below : List Frame} {meth : Method} {c : Code} {b n : Nat} {xs : Nat → Int32} {dC : Nat → ClassId} {dI : Nat → Nat → Nat} {cI cJ cB : ClassId} {aX aM : Nat → Nat} (C : zl_C p l s m c b n xs dC dI cI cJ cB aX aM) {cells slots i : Nat} (hc9 : cells + 1 ≤ 1050) (hs9 : slots + 6 ≤ 14541) (hi : i + 4 ≤ n) {H : Heap} (hS : va_S (zl_A s.heap.size) s.heap H []) {D N F k : Nat} {L V S : Nat → Nat} (hI : zl_I dC dI cI cJ cB aX aM H D N F k L V S) {ls : Array Slot} (hl : lv_has ls 8 [(0, .ref b), (1, .ref (aX 0)), (2, .ref (aM 0)), (3, .ref (aX 6)), (4, .int (nI i))]) {Q : State → Prop}
    (kk : ∀ (H : Heap) (D N F k : Nat) (L V S : Nat → Nat), va_S (zl_A s.heap.size) s.heap H [] → zl_I dC dI cI cJ cB aX aM H D N F k L V S → ∀ ls : Array Slot, lv_has ls 8 [(0, .ref b), (1, .ref (aX 0)), (2, .ref (aM 0)), (3, .ref (aX 6)), (4, .int (nI i))] → W p l e room_1 s m #[Value.ref b] below meth c H [] (cells + 1) (slots + 6) Q (F0 m 758 ls [])) : W p l e room_1 s m #[Value.ref b] below meth c H [] cells slots Q (F0 m 744 ls []) := by
  obtain ⟨hx, hb, hml, hown, hz, hK, hTS, hNc, hst, hadX, hadM, hdis, hgX, hgM, hXs, hbl, hn⟩ := C
  obtain ⟨lev, val, pkd, cst, chs, f, levm, valm, chsm, dig, est, cstm, code, hR, hJ, hRm, hs, hV0, hP, hPM⟩ := hI
  have hk := hs.1
  have hdis2 : ∀ i j, i < 7 → j < 7 → aM i ≠ aX j := fun i j hi hj e => hdis j i hj hi e.symm
  have hPx := hP.sub (ws' := zx_w aX cI cJ lev val pkd cst chs D N F k) [0, 1, 2, 3, 4, 5] rfl
  refine lv_aload_n hx hb dL_law_744 rfl (lv_at hl 1 rfl) ?_
  refine zt_callRl (zg_run (rest := []) hx hb hml hown (tX_total l (zx_J_c hJ) hR.2.2.2.1) (wcL_100 hz (Nat.le_of_ble_eq_true rfl) (Nat.le_of_ble_eq_true rfl)) (hz _ ki_X_total) (hz _ ks_X_total) (hz _ kC_X_total) hPx hK rfl (q0 := 0) rfl rfl hl.1 rfl (Nat.le_of_ble_eq_true rfl) dL_law_745 ⟨by show cells + 0 ≤ 1050; omega, by show slots + 0 ≤ 14541; omega⟩) ?_
  refine lv_aload_n hx hb dL_law_748 rfl (lv_at hl 2 rfl) ?_
  refine zl_callM (aX := aM) (aM := aX) (zg_runC (rest := [.long (lN (zq_sm (zq_ct (zq_es L V D F) (zq_ab L D) F S k) N))]) hx hb hml hown (tM_total l hadM hRm hs) (wcL_104 hz (Nat.le_of_ble_eq_true rfl) (Nat.le_of_ble_eq_true rfl)) (hz _ ki_M_total) (hz _ ks_M_total) (hz _ kC_M_total) hPM hK rfl (q0 := 0) rfl rfl hl.1 rfl (Nat.le_of_ble_eq_true rfl) dL_law_749 ⟨by show cells + 0 ≤ 1050; omega, by show slots + 0 ≤ 14541; omega⟩) (fun _ h => h) hdis2 hgM zl_atX hP hS (fun ⟨u1, u2⟩ H _ hPM hP _ hS => ?_)
  refine W.eq (g2 := F0 m 752 ls [.long (lN (zq_sm (zq_ct (zq_es L V D F) (zq_ab L D) F S k) N)), .long (lN (zq_sm (zq_ct (zq_es L V D F) (zq_ab L D) F S k) N))]) rfl ?_
  refine zl_same (tgt := 758) hx hb rfl dL_law_752 dL_law_753 (by decide) ?_
  refine W.widen (k := cells + 1) (n := slots + 6) (by omega) (by omega) ?_
  exact kk H D N F k L V S hS ⟨_, _, _, _, _, _, _, _, _, _, _, _, _, hR, hJ, hRm, hs, hV0, hP, hPM⟩ ls (lv_sub hl [0, 1, 2, 3, 4] rfl)
end
section
/-! the law's loop: by program (wip/gen/law_loop.py) -/
theorem zl_lt {n i : Nat} (hn : n ≤ 2048) (hi : i ≤ 2048) : nI n - nI 4 < nI i ↔ n < i + 4 := by
  by_cases h : 4 ≤ n
  · rw [pk_sub h, nI_ltI (by omega) (by omega)]
    omega
  · have h1 : nI n - nI 4 < 0 := by
      rcases (show n = 0 ∨ n = 1 ∨ n = 2 ∨ n = 3 by omega) with rfl | rfl | rfl | rfl <;> decide
    exact ⟨fun _ => by omega, fun _ => Int32.lt_of_lt_of_le h1 (nI_pos' (by omega))⟩
set_option maxHeartbeats 4000000 in
set_option maxRecDepth 100000 in
/-- the script is done -/
theorem zl_exit {p : Program} {l : Launch} {e : Env} {s : State} {m : MethodId} {below : List Frame} {meth : Method} {c : Code} {b n : Nat} {xs : Nat → Int32} {dC : Nat → ClassId} {dI : Nat → Nat → Nat} {cI cJ cB : ClassId} {aX aM : Nat → Nat} (C : zl_C p l s m c b n xs dC dI cI cJ cB aX aM) (hr : meth.sig.returnType = ret) (hlocks : meth.locks = false) {cells slots i : Nat} (hc9 : cells ≤ 1050) (hs9 : slots ≤ 14541) (hi : i ≤ n) (hi2 : n < i + 4) {H : Heap} (hS : va_S (zl_A s.heap.size) s.heap H []) {ls : Array Slot} (hl : lv_has ls 8 [(0, .ref b), (1, .ref (aX 0)), (2, .ref (aM 0)), (3, .ref (aX 6)), (4, .int (nI i))]) : W p l e room_1 s m #[Value.ref b] below meth c H [] cells slots (lw_Z below #[Value.ref b] s) (F0 m 23 ls []) := by
  obtain ⟨hx, hb, hml, hown, hz, hK, hTS, hNc, hst, hadX, hadM, hdis, hgX, hgM, hXs, hbl, hn⟩ := C
  refine lv_iload hx hb dL_law_23 (lv_at hl 4 rfl) ?_
  refine lv_aload_n hx hb dL_law_25 rfl (lv_at hl 0 rfl) ?_
  refine zl_slen hx hb hXs hbl hS dL_law_26 ?_
  refine lv_iconst (v := nI 4) hx hb dL_law_27 (by decide) ?_
  refine lv_isub hx hb dL_law_28 ?_
  refine lv_icmp_gt (tgt := 764) hx hb dL_law_29 (by decide) (fun _ => ?_) (fun c29 => absurd c29 (not_not_intro ((zl_lt hn (by omega)).mpr hi2)))
  refine lv_iconst (v := 1) hx hb dL_law_764 (by decide) ?_
  refine W.widen (k := 1050) (n := 14541) hc9 hs9 ?_
  exact lw_ret hx hb hr hlocks dL_law_765
set_option maxHeartbeats 4000000 in
set_option maxRecDepth 100000 in
/-- one call of the script -/
theorem zl_step {p : Program} {l : Launch} {e : Env} {s : State} {m : MethodId} {below : List Frame} {meth : Method} {c : Code} {b n : Nat} {xs : Nat → Int32} {dC : Nat → ClassId} {dI : Nat → Nat → Nat} {cI cJ cB : ClassId} {aX aM : Nat → Nat} (C : zl_C p l s m c b n xs dC dI cI cJ cB aX aM) {cells slots i : Nat} (hc9 : cells + 1 ≤ 1050) (hs9 : slots + 6 ≤ 14541) (hi : i + 4 ≤ n) {H : Heap} (hS : va_S (zl_A s.heap.size) s.heap H []) {D N F k : Nat} {L V S : Nat → Nat} (hI : zl_I dC dI cI cJ cB aX aM H D N F k L V S) {ls : Array Slot} (hl : lv_has ls 8 [(0, .ref b), (1, .ref (aX 0)), (2, .ref (aM 0)), (3, .ref (aX 6)), (4, .int (nI i))]) {Q : State → Prop}
    (kk : ∀ (H : Heap) (D N F k : Nat) (L V S : Nat → Nat), va_S (zl_A s.heap.size) s.heap H [] → zl_I dC dI cI cJ cB aX aM H D N F k L V S → ∀ ls : Array Slot, lv_has ls 8 [(0, .ref b), (1, .ref (aX 0)), (2, .ref (aM 0)), (3, .ref (aX 6)), (4, .int (nI (i + 4)))] → W p l e room_1 s m #[Value.ref b] below meth c H [] (cells + 1) (slots + 6) Q (F0 m 23 ls [])) : W p l e room_1 s m #[Value.ref b] below meth c H [] cells slots Q (F0 m 23 ls []) := by
  have C0 := C
  obtain ⟨hx, hb, hml, hown, hz, hK, hTS, hNc, hst, hadX, hadM, hdis, hgX, hgM, hXs, hbl, hn⟩ := C
  have kk2 : ∀ (H : Heap) (D N F k : Nat) (L V S : Nat → Nat), va_S (zl_A s.heap.size) s.heap H [] → zl_I dC dI cI cJ cB aX aM H D N F k L V S → ∀ ls : Array Slot, lv_has ls 8 [(0, .ref b), (1, .ref (aX 0)), (2, .ref (aM 0)), (3, .ref (aX 6)), (4, .int (nI i))] → W p l e room_1 s m #[Value.ref b] below meth c H [] (cells + 1) (slots + 6) Q (F0 m 758 ls []) := by
    intro H D N F k L V S hS hI ls hl
    refine lv_iinc (v := nI (i + 4)) (lv' := [(4, .int (nI (i + 4))), (0, .ref b), (1, .ref (aX 0)), (2, .ref (aM 0)), (3, .ref (aX 6))]) hx hb dL_law_758 hl (k := 4) rfl (nI_add i 4) (by decide) rfl (fun ls hl => ?_)
    refine lv_goto (tgt := 23) hx hb dL_law_761 (by decide) ?_
    exact kk H D N F k L V S hS hI ls (lv_sub hl [1, 2, 3, 4, 0] rfl)
  refine lv_iload hx hb dL_law_23 (lv_at hl 4 rfl) ?_
  refine lv_aload_n hx hb dL_law_25 rfl (lv_at hl 0 rfl) ?_
  refine zl_slen hx hb hXs hbl hS dL_law_26 ?_
  refine lv_iconst (v := nI 4) hx hb dL_law_27 (by decide) ?_
  refine lv_isub hx hb dL_law_28 ?_
  refine lv_icmp_gt (tgt := 764) hx hb dL_law_29 (by decide) (fun c29 => absurd c29 (fun q => absurd ((zl_lt hn (by omega)).mp q) (by omega))) (fun _ => ?_)
  refine lv_aload_n hx hb dL_law_32 rfl (lv_at hl 0 rfl) ?_
  refine lv_iload hx hb dL_law_33 (lv_at hl 4 rfl) ?_
  refine zl_sld hx hb hXs hbl hS (i := i) (by omega) (by omega) dL_law_35 ?_
  refine lv_bipush (v := nI 15) hx hb dL_law_36 (by decide) ?_
  refine lv_iand hx hb dL_law_38 ?_
  obtain ⟨t, ht, et⟩ := pk_andE (xs i) (m := nI 15) 4 (by decide)
  rw [et]
  rcases (show t = 0 ∨ t = 1 ∨ t = 2 ∨ t = 3 ∨ t = 4 ∨ t = 5 ∨ t = 6 ∨ t = 7 ∨ t = 8 ∨ t = 9 ∨ t = 10 ∨ t = 11 ∨ t = 12 ∨ t = 13 ∨ t = 14 ∨ t = 15 by have h16 : t < 16 := ht; omega) with rfl | rfl | rfl | rfl | rfl | rfl | rfl | rfl | rfl | rfl | rfl | rfl | rfl | rfl | rfl | rfl
  · exact lv_tableIn (off := 65) (tgt := 104) hx hb dL_law_39 (by decide) (by decide) (by decide) (by decide) (zl_c0 C0 hc9 hs9 hi hS hI hl kk2)
  · exact lv_tableIn (off := 121) (tgt := 160) hx hb dL_law_39 (by decide) (by decide) (by decide) (by decide) (zl_c1 C0 hc9 hs9 hi hS hI hl kk2)
  · exact lv_tableIn (off := 201) (tgt := 240) hx hb dL_law_39 (by decide) (by decide) (by decide) (by decide) (zl_c2 C0 hc9 hs9 hi hS hI hl kk2)
  · exact lv_tableIn (off := 257) (tgt := 296) hx hb dL_law_39 (by decide) (by decide) (by decide) (by decide) (zl_c3 C0 hc9 hs9 hi hS hI hl kk2)
  · exact lv_tableIn (off := 270) (tgt := 309) hx hb dL_law_39 (by decide) (by decide) (by decide) (by decide) (zl_c4 C0 hc9 hs9 hi hS hI hl kk2)
  · exact lv_tableIn (off := 338) (tgt := 377) hx hb dL_law_39 (by decide) (by decide) (by decide) (by decide) (zl_c5 C0 hc9 hs9 hi hS hI hl kk2)
  · exact lv_tableIn (off := 413) (tgt := 452) hx hb dL_law_39 (by decide) (by decide) (by decide) (by decide) (zl_c6 C0 hc9 hs9 hi hS hI hl kk2)
  · exact lv_tableIn (off := 480) (tgt := 519) hx hb dL_law_39 (by decide) (by decide) (by decide) (by decide) (zl_c7 C0 hc9 hs9 hi hS hI hl kk2)
  · exact lv_tableIn (off := 536) (tgt := 575) hx hb dL_law_39 (by decide) (by decide) (by decide) (by decide) (zl_c8 C0 hc9 hs9 hi hS hI hl kk2)
  · exact lv_tableIn (off := 580) (tgt := 619) hx hb dL_law_39 (by decide) (by decide) (by decide) (by decide) (zl_c9 C0 hc9 hs9 hi hS hI hl kk2)
  · exact lv_tableIn (off := 636) (tgt := 675) hx hb dL_law_39 (by decide) (by decide) (by decide) (by decide) (zl_c10 C0 hc9 hs9 hi hS hI hl kk2)
  · exact lv_tableIn (off := 692) (tgt := 731) hx hb dL_law_39 (by decide) (by decide) (by decide) (by decide) (zl_c11 C0 hc9 hs9 hi hS hI hl kk2)
  · exact lv_tableIn (off := 705) (tgt := 744) hx hb dL_law_39 (by decide) (by decide) (by decide) (by decide) (zl_c12 C0 hc9 hs9 hi hS hI hl kk2)
  · exact lv_tableOut (tgt := 758) hx hb dL_law_39 (by decide) (by decide) (W.widen (k := cells + 1) (n := slots + 6) (by omega) (by omega) (kk2 H D N F k L V S hS hI ls hl))
  · exact lv_tableOut (tgt := 758) hx hb dL_law_39 (by decide) (by decide) (W.widen (k := cells + 1) (n := slots + 6) (by omega) (by omega) (kk2 H D N F k L V S hS hI ls hl))
  · exact lv_tableOut (tgt := 758) hx hb dL_law_39 (by decide) (by decide) (W.widen (k := cells + 1) (n := slots + 6) (by omega) (by omega) (kk2 H D N F k L V S hS hI ls hl))
set_option maxHeartbeats 4000000 in
set_option maxRecDepth 100000 in
/-- the loop -/
theorem zl_loop {p : Program} {l : Launch} {e : Env} {s : State} {m : MethodId} {below : List Frame} {meth : Method} {c : Code} {b n : Nat} {xs : Nat → Int32} {dC : Nat → ClassId} {dI : Nat → Nat → Nat} {cI cJ cB : ClassId} {aX aM : Nat → Nat} (C : zl_C p l s m c b n xs dC dI cI cJ cB aX aM) (hr : meth.sig.returnType = ret) (hlocks : meth.locks = false) : ∀ (r j : Nat), n ≤ 4 * j + r → 4 * j ≤ n → ∀ (H : Heap) (D N F k : Nat) (L V S : Nat → Nat), va_S (zl_A s.heap.size) s.heap H [] → zl_I dC dI cI cJ cB aX aM H D N F k L V S → ∀ ls : Array Slot, lv_has ls 8 [(0, .ref b), (1, .ref (aX 0)), (2, .ref (aM 0)), (3, .ref (aX 6)), (4, .int (nI (4 * j)))] → W p l e room_1 s m #[Value.ref b] below meth c H [] (14 + j) (6277 + 6 * j) (lw_Z below #[Value.ref b] s) (F0 m 23 ls []) := by
  have hn : n ≤ 2048 := C.2.2.2.2.2.2.2.2.2.2.2.2.2.2.2.2
  intro r
  induction r with
  | zero =>
    intro j h1 h2 H D N F k L V S hS hI ls hl
    exact zl_exit C hr hlocks (by omega) (by omega) h2 (by omega) hS hl
  | succ r ih =>
    intro j h1 h2 H D N F k L V S hS hI ls hl
    by_cases h : 4 * j + 4 ≤ n
    · refine zl_step C (by omega) (by omega) h hS hI hl (fun H D N F k L V S hS hI ls hl => ?_)
      exact ih (j + 1) (by omega) (by omega) H D N F k L V S hS hI ls hl
    · exact zl_exit C hr hlocks (by omega) (by omega) h2 (by omega) hS hl
end
section
/-! the law's start: by program (wip/gen/law_start.py) -/
theorem zs_w1 : ∀ q ∈ zs_list, Cond.stringRef RX q.1 q.2 ∈ lw_tbl := by decide +kernel
theorem zs_w2 : ∀ q ∈ zs_list, Cond.exactly (.string RX q.1) "java/lang/String" ∈ flatC (Jvm.Cond.and given_1 narrow_1) := by decide +kernel
theorem zs_w3 : Cond.laysStatic Bundle.tN "UNASSIGNED_STACK" Bundle.steD ∈ lw_tbl ∧ Cond.laysStatic Bundle.tN "SUPPRESSED_SENTINEL" Bundle.listD ∈ lw_tbl ∧ Cond.initialized Bundle.tN ∈ lw_tbl := by decide +kernel
theorem zs_w4 : Cond.isRef (.static Bundle.tN "UNASSIGNED_STACK" Bundle.steD) ∈ flatC (Jvm.Cond.and given_1 narrow_1) ∧ Cond.isRef (.static Bundle.tN "SUPPRESSED_SENTINEL" Bundle.listD) ∈ flatC (Jvm.Cond.and given_1 narrow_1) ∧ Cond.not (.castable zE_S zE_A) ∈ flatC (Jvm.Cond.and given_1 narrow_1) := by decide +kernel
theorem zl_given {b : Nat} {s : State} (hts : ∀ w ∈ lw_tbl, w.before #[Value.ref b] s = true) (hgv : (Jvm.Cond.and given_1 narrow_1).before #[Value.ref b] s = true) : zt_TS s ∧ va_Nc zE_S zE_A s := by
  have hg := flat_of_before _ hgv
  refine ⟨⟨vx_Zqof (hts _ zs_w3.1) (hts _ zs_w3.2.2) (hg _ zs_w4.1) (fun _ _ h => h), vx_Zqof (hts _ zs_w3.2.1) (hts _ zs_w3.2.2) (hg _ zs_w4.2.1) (fun _ _ h => h), fun q hq => ?_⟩, va_Nc.of (hg _ zs_w4.2.2)⟩
  have h1 := hts _ (zs_w1 q hq)
  obtain ⟨a, c, cA, kA, q1, -⟩ := Cond.exactly_spec (args := #[Value.ref b]) (first := s) (o := none) (s := s) (idx := []) (t := .string RX q.1) (cls := "java/lang/String") (hg _ (zs_w2 q hq))
  exact ⟨a, h1, q1⟩
theorem zl_Karr {b : Nat} {s : State} {ty : FieldType} (hty : ty = .int ∨ ty = .long ∨ ty = .byte) (h : (Cond.arrayClass ty).before #[Value.ref b] s = true) : ∃ cA : ClassId, ArrOfT s cA ty ∧ va_RA s cA ty := by
  obtain ⟨cA, kA, comp, h1, h2, h3⟩ := Cond.arrayClass_spec h
  refine ⟨cA, fun n z => ⟨fun k h => (by cases h), kA, h2, comp, h3⟩, ?_⟩
  rcases hty with rfl | rfl | rfl <;> exact h1
theorem zl_K {b : Nat} {s : State} (hz : ∀ w ∈ zw0, w.before #[Value.ref b] s = true) : ∃ (dC : Nat → ClassId) (dI : Nat → Nat → Nat) (cI cJ cB : ClassId), va_K (dC, dI) zcl (zg_T cI cJ cB) s := by
  obtain ⟨cX, iX, hX⟩ := u_known (C := RX) (T := TX) (N := 9) hz in_X (hz _ kt_ViewChooser)
  obtain ⟨cM, iM, hM⟩ := u_known (C := RM) (T := TM) (N := 11) hz in_M (hz _ kt_ViewChooserModel)
  obtain ⟨cI, hI⟩ := zl_Karr (Or.inl rfl) (hz _ ka_int)
  obtain ⟨cJ, hJ⟩ := zl_Karr (Or.inr (Or.inl rfl)) (hz _ ka_long)
  obtain ⟨cB, hB⟩ := zl_Karr (Or.inr (Or.inr rfl)) (hz _ ka_byte)
  refine ⟨fun k => match k with | 0 => cX | _ => cM, fun k => match k with | 0 => iX | _ => iM, cI, cJ, cB, fun k q hq => ?_, fun k q hq => ?_⟩
  · match k, hq with
    | 0, hq => cases hq; exact hX
    | 1, hq => cases hq; exact hM
    | k + 2, hq => simp at hq
  · match k, hq with
    | 0, hq => cases hq; exact hI
    | 1, hq => cases hq; exact hJ
    | 2, hq => cases hq; exact hB
    | k + 3, hq => simp at hq
/-- both objects as they are new -/
theorem zl_I0 {dC : Nat → ClassId} {dI : Nat → Nat → Nat} {cI cJ cB : ClassId} {aX aM : Nat → Nat} {H : Heap} (hP : va_P (dC, dI) zcl (zx_w aX cI cJ (fun _ => 0) (fun _ => 0) (fun _ => 0) (fun _ => 0) (fun _ => 0) 0 1 0 0 ++ zo_w aX cJ (fun _ => 0)) H) (hPM : va_P (dC, dI) zcl (zm_w aM cI cJ cB (fun _ => 0) (fun _ => 0) (fun _ => 0) (fun _ => 0) (fun _ => 0) (fun _ => 0) 0 0 1 0 0) H) :
    zl_I dC dI cI cJ cB aX aM H 0 1 0 0 (fun _ => 0) (fun _ => 0) (fun _ => 0) := by
  refine ⟨_, _, _, _, _, _, _, _, _, _, _, _, _, ⟨by decide, fun j hj => absurd hj (Nat.not_lt_zero j), rfl, by decide, by decide, fun _ => Nat.zero_le _, fun j hj => absurd hj (Nat.not_lt_zero j), fun _ _ => (by decide : (0 : Int32) = nI 0), fun _ _ => (by decide : (0 : Int32) = nI 0)⟩, zx_J0 (by decide) (fun _ _ => by decide), ⟨by decide, fun j hj => absurd hj (Nat.not_lt_zero j), rfl, by decide, by decide, fun _ => Nat.zero_le _, fun j hj => absurd hj (Nat.not_lt_zero j), fun _ _ => (by decide : (0 : Int32) = nI 0), fun _ _ d hd => absurd hd (Nat.not_lt_zero d)⟩, zm_S0, fun _ _ => rfl, hP, hPM⟩
set_option maxHeartbeats 4000000 in
set_option maxRecDepth 100000 in
/-- YOUR PART: from the entry, for every script of at most 2048 ints, the law comes to its end with true -/
theorem whole_start {p : Program} {e : Env} {s : State} {m : MethodId} {below : List Frame} {meth : Method} {c : Code} (l : Launch) (hst : l.stackTraces = false) {b n : Nat} {xs : Nat → Int32} (hn : n ≤ 2048) (C0 : lw_At p s m meth c b n xs) : W p l e room_1 s m #[Value.ref b] below meth c s.heap [] 0 0 (lw_Z below #[Value.ref b] s) (entryFrame m ([Value.ref b] : List Value).toArray 8) := by
  obtain ⟨hx, hb, hr, hml, hown, hts, hXs, hbl, hlocks, hgv⟩ := C0
  have hz : ∀ w ∈ zw0, w.before #[Value.ref b] s = true := fun w hw => hts w (List.mem_filter.mp hw).1
  obtain ⟨hTS, hNc⟩ := zl_given hts hgv
  obtain ⟨dC, dI, cI, cJ, cB, hK⟩ := zl_K hz
  have hl := lv_entry ([.ref b]) (n := 8) (Nat.le_of_ble_eq_true rfl)
  rw [lg_entry_eq]
  generalize (lg_sl ([.ref b]) ++ List.replicate (8 - (lg_sl ([.ref b])).length) Slot.unset).toArray = ls at hl ⊢
  have hl : lv_has ls 8 [(0, .ref b)] := hl
  have hS : va_S (zl_A s.heap.size) s.heap s.heap [] := va_S.rf
  have hA : ∀ q : Nat, s.heap.size ≤ q → zl_A s.heap.size q := fun q h => h
  have hP : va_P (dC, dI) zcl [] s.heap := fun k q h => by simp at h
  have hD : va_D (zl_A s.heap.size) [] := ⟨fun i j p q h => by simp at h, fun k q h => by simp at h⟩
  refine va_new (D := (dC, dI)) (ci := 0) (fs := [.null, .null, .null, .null, .null, .int 0, .int 0, .int 0, .int 0]) (C := RX) (T := TX) (N := 9) hx hb hz in_X tyX tyX_ok hown (hz _ kc_L_8) (hz _ kt_ViewChooser) (hz _ kin_ViewChooser) hK hP hD hS hA rfl (fun j hj => by rcases (show j = 0 ∨ j = 1 ∨ j = 2 ∨ j = 3 ∨ j = 4 ∨ j = 5 ∨ j = 6 ∨ j = 7 ∨ j = 8 by omega) with rfl | rfl | rfl | rfl | rfl | rfl | rfl | rfl | rfl <;> rfl) (Nat.le_of_ble_eq_true rfl) (Nat.le_of_ble_eq_true rfl) dL_law_0 (fun q H hP hD hS => ?_)
  have hP : va_P (dC, dI) zcl [(q, .inr (0, [.null, .null, .null, .null, .null, .int 0, .int 0, .int 0, .int 0]))] H := hP
  have hq : s.heap.size ≤ q := hD.2 0 _ rfl
  refine lv_dup hx hb dL_law_3 rfl ?_
  refine zg_callW (zt_runI (rest := [.ref q]) hx hb hml hown (tX_init l (h0 := q) (sz := H.size)) (wcL_49 hz (Nat.le_of_ble_eq_true rfl) (Nat.le_of_ble_eq_true rfl)) rfl (hz _ ki_X_init) (hz _ kC_X_init) ⟨zg_C_blind, fun U hU hW => ⟨rfl, by rw [hU], by rw [hU]; exact hP, va_K.moved hW.alike hK⟩⟩ rfl rfl hl.1 rfl (lv_room (Nat.le_of_ble_eq_true rfl)) dL_law_4 ⟨Nat.le_of_ble_eq_true rfl, Nat.le_of_ble_eq_true rfl⟩) hS (fun z hz => hz.elim (fun h => by rw [h]; exact hq) (fun h => Nat.le_trans hS.1 h)) (fun z hz => hz.elim (fun h => by rw [h]; exact hq) (fun h => Nat.le_trans hS.1 h)) (fun ad H1 locs hfr hP1 hz1 hk1 hS1 => ?_)
  refine va_forget (fun z hz => hS1.2.2 z hz) ?_
  have hS : va_S (zl_A s.heap.size) s.heap H1 [] := ⟨hS1.1, hS1.2.1, fun z hz => by cases hz⟩
  refine W.eq (g2 := F0 m 7 ls [.ref q]) rfl ?_
  obtain ⟨e0, had, hge⟩ := hfr
  have hgX : ∀ i, i < 6 → s.heap.size ≤ ad i := fun i hi => by
    by_cases h : i = 0
    · rw [h, e0]; exact hq
    · exact Nat.le_trans (Nat.le_trans (Nat.le_of_lt (Nat.lt_of_le_of_lt hq (hP 0 _ rfl).lt)) (Nat.le_refl _)) (hge i (by omega) hi)
  rw [← e0]
  refine lv_astore_n (lv' := [(1, .ref (ad 0)), (0, .ref b)]) hx hb dL_law_7 rfl hl (by decide) rfl (fun ls hl => ?_)
  have hDX : va_D (zl_A s.heap.size) (zx_w ad cI cJ (fun _ => 0) (fun _ => 0) (fun _ => 0) (fun _ => 0) (fun _ => 0) 0 1 0 0) := (zx_D (sz := H1.size) had).weaken (fun k x hk hx => by obtain ⟨h1, h2⟩ := zx_w_at hk; show s.heap.size ≤ x.1; rw [h2]; exact hgX k h1)
  refine va_new (D := (dC, dI)) (ci := 1) (fs := [.int 0, .int 0, .null, .null, .int 0, .int 0, .int 0, .null, .null, .null, .null]) (C := RM) (T := TM) (N := 11) hx hb hz in_M tyM tyM_ok hown (hz _ kc_L_50) (hz _ kt_ViewChooserModel) (hz _ kin_ViewChooserModel) hK hP1 hDX hS hA rfl (fun j hj => by rcases (show j = 0 ∨ j = 1 ∨ j = 2 ∨ j = 3 ∨ j = 4 ∨ j = 5 ∨ j = 6 ∨ j = 7 ∨ j = 8 ∨ j = 9 ∨ j = 10 by omega) with rfl | rfl | rfl | rfl | rfl | rfl | rfl | rfl | rfl | rfl | rfl <;> rfl) (Nat.le_of_ble_eq_true rfl) (Nat.le_of_ble_eq_true rfl) dL_law_8 (fun q2 H hP2 hD2 hS => ?_)
  clear hP
  have hP : va_P (dC, dI) zcl [(q2, .inr (1, [.int 0, .int 0, .null, .null, .int 0, .int 0, .int 0, .null, .null, .null, .null]))] H := hP2.sub [6] rfl
  have hPX : va_P (dC, dI) zcl (zx_w ad cI cJ (fun _ => 0) (fun _ => 0) (fun _ => 0) (fun _ => 0) (fun _ => 0) 0 1 0 0) H := hP2.sub [0, 1, 2, 3, 4, 5] rfl
  have hq2 : s.heap.size ≤ q2 := hD2.2 6 _ rfl
  have hne : ∀ i, i < 6 → ad i ≠ q2 := fun i hi h => by
    rcases (show i = 0 ∨ i = 1 ∨ i = 2 ∨ i = 3 ∨ i = 4 ∨ i = 5 by omega) with rfl | rfl | rfl | rfl | rfl | rfl
    · exact absurd (hD2.1 0 6 _ _ rfl rfl h) (by decide)
    · exact absurd (hD2.1 1 6 _ _ rfl rfl h) (by decide)
    · exact absurd (hD2.1 2 6 _ _ rfl rfl h) (by decide)
    · exact absurd (hD2.1 3 6 _ _ rfl rfl h) (by decide)
    · exact absurd (hD2.1 4 6 _ _ rfl rfl h) (by decide)
    · exact absurd (hD2.1 5 6 _ _ rfl rfl h) (by decide)
  refine lv_dup hx hb dL_law_11 rfl ?_
  refine zg_callW (zt_runI (rest := [.ref q2]) hx hb hml hown (tM_init l (h0 := q2) (sz := H.size)) (wcL_52 hz (Nat.le_of_ble_eq_true rfl) (Nat.le_of_ble_eq_true rfl)) rfl (hz _ ki_M_init) (hz _ kC_M_init) ⟨zg_C_blind, fun U hU hW => ⟨rfl, by rw [hU], by rw [hU]; exact hP, va_K.moved hW.alike hK⟩⟩ rfl rfl hl.1 rfl (lv_room (Nat.le_of_ble_eq_true rfl)) dL_law_12 ⟨Nat.le_of_ble_eq_true rfl, Nat.le_of_ble_eq_true rfl⟩) hS (fun z hz => hz.elim (fun h => by rw [h]; exact hq2) (fun h => Nat.le_trans hS.1 h)) (fun z hz => hz.elim (fun h => by rw [h]; exact hq2) (fun h => Nat.le_trans hS.1 h)) (fun aM H1 locs hfm hP1 hz1 hk1 hS1 => ?_)
  refine va_forget (fun z hz => hS1.2.2 z hz) ?_
  have hS9 : va_S (zl_A s.heap.size) s.heap H1 [] := ⟨hS1.1, hS1.2.1, fun z hz => by cases hz⟩
  refine W.eq (g2 := F0 m 15 ls [.ref q2]) rfl ?_
  obtain ⟨f0, hadM, hgeM⟩ := hfm
  have hltX : ∀ i, i < 6 → ad i < H.size := fun i hi => by
    rcases (show i = 0 ∨ i = 1 ∨ i = 2 ∨ i = 3 ∨ i = 4 ∨ i = 5 by omega) with rfl | rfl | rfl | rfl | rfl | rfl
    · exact (hPX 0 _ rfl).lt
    · exact (hPX 1 _ rfl).lt
    · exact (hPX 2 _ rfl).lt
    · exact (hPX 3 _ rfl).lt
    · exact (hPX 4 _ rfl).lt
    · exact (hPX 5 _ rfl).lt
  have hgM : ∀ i, i < 7 → s.heap.size ≤ aM i := fun i hi => by
    by_cases h : i = 0
    · rw [h, f0]; exact hq2
    · exact Nat.le_trans hS.1 (hgeM i (by omega) hi)
  have hdis6 : ∀ i j, i < 6 → j < 7 → ad i ≠ aM j := fun i j hi hj h => by
    by_cases h0 : j = 0
    · rw [h0, f0] at h; exact hne i hi h
    · have h1 := hgeM j (by omega) hj; have h2 := hltX i hi; omega
  have hPX : va_P (dC, dI) zcl (zx_w ad cI cJ (fun _ => 0) (fun _ => 0) (fun _ => 0) (fun _ => 0) (fun _ => 0) 0 1 0 0) H1 := hPX.kept (fun k x hk => by obtain ⟨h1, h2⟩ := zx_w_at hk; refine hk1 _ (by rw [h2]; exact hltX k h1) (fun z => ?_); rcases z with z | z; (exact hne k h1 (by rw [← h2]; exact z)); (have h3 := hltX k h1; rw [h2] at z; omega))
  rw [← f0]
  refine lv_astore_n (lv' := [(2, .ref (aM 0)), (1, .ref (ad 0)), (0, .ref b)]) hx hb dL_law_15 rfl hl (by decide) rfl (fun ls hl => ?_)
  have hDM : va_D (zl_A s.heap.size) (zm_w aM cI cJ cB (fun _ => 0) (fun _ => 0) (fun _ => 0) (fun _ => 0) (fun _ => 0) (fun _ => 0) 0 0 1 0 0) := (zm_D (sz := H1.size) hadM).weaken (fun k x hk hx => by obtain ⟨h1, h2⟩ := zm_w_at hk; show s.heap.size ≤ x.1; rw [h2]; exact hgM k h1)
  have hD9 : va_D (zl_A s.heap.size) (zx_w ad cI cJ (fun _ => 0) (fun _ => 0) (fun _ => 0) (fun _ => 0) (fun _ => 0) 0 1 0 0 ++ zm_w aM cI cJ cB (fun _ => 0) (fun _ => 0) (fun _ => 0) (fun _ => 0) (fun _ => 0) (fun _ => 0) 0 0 1 0 0) := hDX.app hDM (fun i j x y h1 h2 h3 => by obtain ⟨g1, g2⟩ := zx_w_at h1; obtain ⟨g3, g4⟩ := zm_w_at h2; exact hdis6 i j g1 g3 (by rw [← g2, ← g4]; exact h3))
  refine lv_iconst (v := nI 1) hx hb dL_law_16 (by decide) ?_
  refine va_newa (atype := .long) (ty := .long) (N' := 1) (a0 := (1, .inr (.inl (fun _ : Nat => (0 : Int64))))) hx hb (hz _ ka_long) rfl hK (hPX.app hP1) hD9 hS9 hA (fun _ => rfl) (by decide) (by decide) (Nat.le_of_ble_eq_true rfl) (Nat.le_of_ble_eq_true rfl) (Nat.le_of_ble_eq_true rfl) dL_law_17 (fun q3 cA H2 hK9 hP9 hD9 hS => ?_)
  have hc9 : cA = cJ := zg_cA hK9 3 1 rfl rfl (by simp)
  rw [hc9] at hP9 hD9
  have h3 : s.heap.size ≤ q3 := hD9.2 13 _ rfl
  obtain ⟨aX, haX, haX6⟩ : ∃ aX : Nat → Nat, (∀ i, i < 6 → aX i = ad i) ∧ aX 6 = q3 := ⟨fun i => if i = 6 then q3 else ad i, fun i hi => if_neg (by omega), if_pos rfl⟩
  have hw0 := haX 0 (by decide)
  have hw1 := haX 1 (by decide)
  have hw2 := haX 2 (by decide)
  have hw3 := haX 3 (by decide)
  have hw4 := haX 4 (by decide)
  have hw5 := haX 5 (by decide)
  have hP : va_P (dC, dI) zcl (zx_w aX cI cJ (fun _ => 0) (fun _ => 0) (fun _ => 0) (fun _ => 0) (fun _ => 0) 0 1 0 0 ++ zo_w aX cJ (fun _ => 0)) H2 := by
    have h := hP9.sub [0, 1, 2, 3, 4, 5, 13] rfl
    show va_P (dC, dI) zcl [(aX 0, .inr (0, [.ref (aX 1), .ref (aX 2), .ref (aX 3), .ref (aX 4), .ref (aX 5), .int (nI 0), .int (nI 1), .int (nI 0), .int (nI 0)])), (aX 1, .inl (cI, 8, .inl (fun _ => 0))), (aX 2, .inl (cI, 32, .inl (fun _ => 0))), (aX 3, .inl (cI, 512, .inl (fun _ => 0))), (aX 4, .inl (cJ, 512, .inr (.inl (fun _ => 0)))), (aX 5, .inl (cI, 16, .inl (fun _ => 0))), (aX 6, .inl (cJ, 1, .inr (.inl (fun _ => 0))))] H2
    rw [hw0, hw1, hw2, hw3, hw4, hw5, haX6]
    exact h
  have hPM : va_P (dC, dI) zcl (zm_w aM cI cJ cB (fun _ => 0) (fun _ => 0) (fun _ => 0) (fun _ => 0) (fun _ => 0) (fun _ => 0) 0 0 1 0 0) H2 := hP9.sub [6, 7, 8, 9, 10, 11, 12] rfl
  have hne3 : ∀ i, i < 6 → ad i ≠ q3 := fun i hi h => by
    rcases (show i = 0 ∨ i = 1 ∨ i = 2 ∨ i = 3 ∨ i = 4 ∨ i = 5 by omega) with rfl | rfl | rfl | rfl | rfl | rfl
    · exact absurd (hD9.1 0 13 _ _ rfl rfl h) (by decide)
    · exact absurd (hD9.1 1 13 _ _ rfl rfl h) (by decide)
    · exact absurd (hD9.1 2 13 _ _ rfl rfl h) (by decide)
    · exact absurd (hD9.1 3 13 _ _ rfl rfl h) (by decide)
    · exact absurd (hD9.1 4 13 _ _ rfl rfl h) (by decide)
    · exact absurd (hD9.1 5 13 _ _ rfl rfl h) (by decide)
  have hneM : ∀ i, i < 7 → aM i ≠ q3 := fun i hi h => by
    rcases (show i = 0 ∨ i = 1 ∨ i = 2 ∨ i = 3 ∨ i = 4 ∨ i = 5 ∨ i = 6 by omega) with rfl | rfl | rfl | rfl | rfl | rfl | rfl
    · exact absurd (hD9.1 6 13 _ _ rfl rfl h) (by decide)
    · exact absurd (hD9.1 7 13 _ _ rfl rfl h) (by decide)
    · exact absurd (hD9.1 8 13 _ _ rfl rfl h) (by decide)
    · exact absurd (hD9.1 9 13 _ _ rfl rfl h) (by decide)
    · exact absurd (hD9.1 10 13 _ _ rfl rfl h) (by decide)
    · exact absurd (hD9.1 11 13 _ _ rfl rfl h) (by decide)
    · exact absurd (hD9.1 12 13 _ _ rfl rfl h) (by decide)
  have hadX : zg_ap aX 7 := fun i j hi hj h => by
    by_cases h1 : i = 6
    · by_cases h2 : j = 6
      · omega
      · rw [h1, haX6, haX j (by omega)] at h; exact absurd h.symm (hne3 j (by omega))
    · by_cases h2 : j = 6
      · rw [h2, haX6, haX i (by omega)] at h; exact absurd h (hne3 i (by omega))
      · rw [haX i (by omega), haX j (by omega)] at h; exact had i j (by omega) (by omega) h
  have hdis : ∀ i j, i < 7 → j < 7 → aX i ≠ aM j := fun i j hi hj h => by
    by_cases h1 : i = 6
    · rw [h1, haX6] at h; exact hneM j hj h.symm
    · rw [haX i (by omega)] at h; exact hdis6 i j (by omega) hj h
  have hgX7 : ∀ i, i < 7 → s.heap.size ≤ aX i := fun i hi => by
    by_cases h1 : i = 6
    · rw [h1, haX6]; exact h3
    · rw [haX i (by omega)]; exact hgX i (by omega)
  rw [← hw0] at hl
  rw [← haX6]
  refine lv_astore_n (lv' := [(3, .ref (aX 6)), (2, .ref (aM 0)), (1, .ref (aX 0)), (0, .ref b)]) hx hb dL_law_19 rfl hl (by decide) rfl (fun ls hl => ?_)
  refine lv_iconst (v := nI 0) hx hb dL_law_20 (by decide) ?_
  refine lv_istore (lv' := [(4, .int (nI 0)), (3, .ref (aX 6)), (2, .ref (aM 0)), (1, .ref (aX 0)), (0, .ref b)]) hx hb dL_law_21 hl (by decide) rfl (fun ls hl => ?_)
  exact zl_loop (aX := aX) (aM := aM) ⟨hx, hb, hml, hown, hz, hK, hTS, hNc, hst, hadX, hadM, hdis, hgX7, hgM, hXs, hbl, hn⟩ hr hlocks n 0 (by omega) (by omega) H2 0 1 0 0 _ _ _ hS (zl_I0 hP hPM) ls (lv_sub hl [4, 3, 2, 1, 0] rfl)
end
section
-- the skeleton's rows (kit/laws/SKELETON.whole), with the launch's word on stack traces handed down
set_option maxHeartbeats 4000000 in
theorem lw_walk (l : Launch) (hst : l.stackTraces = false) (b : Addr) (xs : List Int32) : MetFree l x (headSpec (Jvm.Cond.code x code maxLocals ret :: tables_1) room_1) (lw_P b xs) (fun _ _ _ _ _ => True) lw_Q := by
  refine MetFree.of_bodyS (code := code) (maxLocals := maxLocals) (ret := ret) (by decide) ?_ ?_
  · intro args s m h hn
    obtain ⟨meth, c, h1, h2, h3, h4, h5, h6, -, -⟩ := Cond.code_spec hn (atoms_spec (ws := Jvm.Cond.code x code maxLocals ret :: tables_1) h _ List.mem_cons_self)
    exact ⟨meth, c, h1, h2, h3, h4, h5, h6⟩
  · intro p e s m args below meth c s₁ B hml0 hP _
    obtain ⟨rfl, hx, hbd, hgv⟩ := hP
    obtain ⟨scr, harrAt, hlist, hof, hsmall⟩ := hx
    obtain ⟨hcb, hkn, -, -⟩ := State.arrayAt?_spec harrAt
    have hown : s.vm.findClass R_law = some m.cls := findClass_of_methodNamed B.named
    have hts0 : ∀ c ∈ (Jvm.Cond.code x code maxLocals ret :: tables_1), c.before #[Value.ref b] s = true := atoms_spec (ws := Jvm.Cond.code x code maxLocals ret :: tables_1) B.pre
    have hts : ∀ w ∈ lw_tbl, w.before #[Value.ref b] s = true := k2_hts_sels lw_privs (fun w hw => hts0 w (List.mem_cons_of_mem _ hw)) lw_privs_ok
    have hml : c.maxLocals = 8 := B.maxLocals_eq (hts0 _ List.mem_cons_self)
    have X₀ : Stand p l e room_1 s m #[Value.ref b] below meth c s₁ [] 0 0 := Stand.of_body B
    have hh0 : s₁.heap = s.heap := by rw [B.state]; rfl
    have hsz : scr.slots.size = xs.length := by rw [← Array.length_toList, hlist, List.length_map]
    have hval : ∀ j : Nat, j < xs.length → scr.slots[j]? = some (.int (xs.getD j 0)) := fun j hj => by
      rw [← Array.getElem?_toList, hlist]
      simp [hj]
    have hbl : b < s.heap.size := (Array.getElem?_eq_some_iff.mp hcb).1
    have hX : va_X b xs.length (fun j => xs.getD j 0) s s.heap := ⟨scr, hcb, hof, hkn, hsz, hval⟩
    have K : W p l e room_1 s m #[Value.ref b] below meth c s₁.heap [] 0 0 (lw_Z below #[Value.ref b] s) (entryFrame m ([Value.ref b] : List Value).toArray 8) := by
      rw [hh0]
      exact whole_start l hst hbd ⟨B.exec, B.bytes, B.returns, hml, hown, hts, hX, hbl, B.notSynchronized, hgv⟩
    obtain ⟨t, a1, o, b1, b2, b3⟩ := K s₁ rfl X₀
    exact ⟨t, o, a1, b1, b2, b3⟩
theorem lw_pre_spec {args : Array Value} {s : State} (h : (Jvm.Cond.and given_1 narrow_1).before args s = true) (hr : rest_1_c.before args s = true) : ∃ (b : Addr) (xs : List Int32), lw_P b xs args s := by
  have hs := flat_of_before _ h
  have hq := flat_of_before _ hr
  have hc : (Cond.count 1).before args s = true := hs _ (by decide +kernel)
  have harr : (Cond.arrayOf (.arg 0) .int).before args s = true := hs _ (by decide +kernel)
  have hle : (Cond.le (.length (.arg 0)) (.int 2048)).before args s = true := hs _ (by decide +kernel)
  have hlen : (Cond.isInt (.length (.arg 0))).before args s = true := hq _ (by decide +kernel)
  have hall : (Cond.all (.arg 0) (.isInt (.elem (.arg 0) (.index 0)))).before args s = true := hq _ (by decide +kernel)
  obtain ⟨b, xs, hb, hx⟩ := State.ints_of_pre rfl harr hlen hall
  have hsm : xs.length < 2 ^ 31 := hx.choose_spec.2.2.2
  have hev : (Term.length (.arg 0)).eval args s none [] s = some (.int xs.length.toInt32) := hx.length_eval hb
  have hv := Cond.le_ints hev (show (Term.int 2048).eval args s none [] s = some (.int 2048) from rfl)
  have hd : xs.length.toInt32 ≤ 2048 := by
    simpa [Cond.before, Cond.holds, hv] using hle
  have hN : xs.length ≤ 2048 := (Int32.ofNat_le_ofNat hsm (by decide)).mp (show Int32.ofNat xs.length ≤ Int32.ofNat 2048 from hd)
  exact ⟨b, xs, Cond.one_arg hc (show args[0]? = some (.ref b) from hb), hx, hN, h⟩
theorem lw_comes (l : Launch) (hst : l.stackTraces = false) : Comes l x (Jvm.Cond.code x code maxLocals ret :: tables_1) room_1 (fun tb e args s => Calls_1 tb e args s ∧ rest_1 tb e args s ∧ Pre_1 tb e args s)
    (fun _ _ args s o t => lw_Q args s o t) := by
  intro p e ha hc hk s m args below hf hfit hheap happ hpre
  obtain ⟨b, xs, hP⟩ := lw_pre_spec hpre.2.2 hpre.2.1
  obtain ⟨k, o, h1, h2, h3, hQ⟩ := lw_walk l hst b xs p e ha hc hk s m args below hf ((Spec.applies_iff_loose hf).mp happ).1 hP trivial
  exact ⟨k, o, h1, h2, h3, hQ⟩
theorem lw_frame {s t : State} {o : Outcome} {args : Array Value} (h : Framed s o t [] 1050 14541) :
    Framed s o t (fieldLocs frame_1_writes args s ++ arrayLocs frame_1_arrays args s ++ staticLocs frame_1_statics s) 1050 14541 := h
theorem lw_limb (L : Cond) (hL : ∀ (args : Array Value) (s t : State), L.after args s (.returned (some (.int 1))) t = true) :
    ArmFor flags0 classFile x code maxLocals ret World_1 tables_1 room_1 Calls_1 rest_1 Pre_1
      (fun tb e a s o t => postC L tb e a s o t ∧ Framed s o t (fieldLocs frame_1_writes a s ++ arrayLocs frame_1_arrays a s ++ staticLocs frame_1_statics s) 1050 14541) := by
  intro l hfl _ _ p e ha hc hk s m args below hf hfit hheap happ hpre
  have hst : l.stackTraces = false := by
    show (!l.flags.contains noTraceFlag) = false
    rw [hfl]
    decide +kernel
  obtain ⟨k, o, h1, h2, h3, rfl, hF⟩ := lw_comes l hst p e ha hc hk s m args below hf hfit hheap happ hpre
  exact ⟨k, _, h1, h2, h3, hL args s _, lw_frame hF⟩
theorem i_vc : Claimed_1_1 ∧ Claimed_1_2 := ⟨lw_limb limb_1_1 (fun args s t => by simp [limb_1_1, Cond.after, Cond.holds, Cond.value]), lw_limb limb_1_2 (fun args s t => Cond.after_iff.mpr (by
  first | (rw [show limb_1_2 = Cond.eq .result (.int 1) from rfl, Cond.eq_ints (x := 1) (y := 1) rfl rfl]; simp; done) | (simp [limb_1_2, Cond.value, Term.eval]; done)))⟩
end
