section
-- ===== PART A: goes FIRST, ahead of the names: the tables' words, and 'selects' of the private methods out of them =====
/-- a private method of a class that the tables say can be made, by its rows of tables_1 -/
def lw_okq (q : MethodName × Nat) : Prop := (q.1.cls ≠ "java/lang/invoke/MethodHandle" ∧ q.1.cls ≠ "java/lang/invoke/VarHandle") ∧ Cond.instantiable q.1.cls q.2 ∈ tables_1 ∧ Cond.privateMethod q.1 ∈ tables_1 ∧ Cond.instanceMethod q.1 ∈ tables_1
theorem lw_p0 : lw_okq (⟨"ViewChooser", "forgetChosen", "()V"⟩, 9) := ⟨⟨by decide +kernel, by decide +kernel⟩, List.mem_of_getElem? (i := 11) (by decide +kernel), List.mem_of_getElem? (i := 57) (by decide +kernel), List.mem_of_getElem? (i := 58) (by decide +kernel)⟩
theorem lw_p1 : lw_okq (⟨"java/lang/Throwable", "fillInStackTrace", "(I)Ljava/lang/Throwable;"⟩, 6) := ⟨⟨by decide +kernel, by decide +kernel⟩, List.mem_of_getElem? (i := 114) (by decide +kernel), List.mem_of_getElem? (i := 112) (by decide +kernel), List.mem_of_getElem? (i := 113) (by decide +kernel)⟩
theorem lw_p2 : lw_okq (⟨"ViewChooser", "splitViews", "(II)V"⟩, 9) := ⟨⟨by decide +kernel, by decide +kernel⟩, List.mem_of_getElem? (i := 11) (by decide +kernel), List.mem_of_getElem? (i := 161) (by decide +kernel), List.mem_of_getElem? (i := 162) (by decide +kernel)⟩
theorem lw_p3 : lw_okq (⟨"ViewChooser", "checkDimension", "(I)V"⟩, 9) := ⟨⟨by decide +kernel, by decide +kernel⟩, List.mem_of_getElem? (i := 11) (by decide +kernel), List.mem_of_getElem? (i := 172) (by decide +kernel), List.mem_of_getElem? (i := 173) (by decide +kernel)⟩
theorem lw_p4 : lw_okq (⟨"ViewChooser", "checkView", "(I)V"⟩, 9) := ⟨⟨by decide +kernel, by decide +kernel⟩, List.mem_of_getElem? (i := 11) (by decide +kernel), List.mem_of_getElem? (i := 195) (by decide +kernel), List.mem_of_getElem? (i := 196) (by decide +kernel)⟩
theorem lw_p5 : lw_okq (⟨"ViewChooser", "estimateOf", "(I)J"⟩, 9) := ⟨⟨by decide +kernel, by decide +kernel⟩, List.mem_of_getElem? (i := 11) (by decide +kernel), List.mem_of_getElem? (i := 221) (by decide +kernel), List.mem_of_getElem? (i := 222) (by decide +kernel)⟩
theorem lw_p6 : lw_okq (⟨"ViewChooser", "benefitOf", "(I)J"⟩, 9) := ⟨⟨by decide +kernel, by decide +kernel⟩, List.mem_of_getElem? (i := 11) (by decide +kernel), List.mem_of_getElem? (i := 231) (by decide +kernel), List.mem_of_getElem? (i := 232) (by decide +kernel)⟩
theorem lw_p7 : lw_okq (⟨"ViewChooser", "checkRoomForChosen", "()V"⟩, 9) := ⟨⟨by decide +kernel, by decide +kernel⟩, List.mem_of_getElem? (i := 11) (by decide +kernel), List.mem_of_getElem? (i := 243) (by decide +kernel), List.mem_of_getElem? (i := 244) (by decide +kernel)⟩
theorem lw_p8 : lw_okq (⟨"ViewChooser", "addChosen", "(I)V"⟩, 9) := ⟨⟨by decide +kernel, by decide +kernel⟩, List.mem_of_getElem? (i := 11) (by decide +kernel), List.mem_of_getElem? (i := 248) (by decide +kernel), List.mem_of_getElem? (i := 249) (by decide +kernel)⟩
theorem lw_p9 : lw_okq (⟨"ViewChooser", "mostBeneficial", "()I"⟩, 9) := ⟨⟨by decide +kernel, by decide +kernel⟩, List.mem_of_getElem? (i := 11) (by decide +kernel), List.mem_of_getElem? (i := 259) (by decide +kernel), List.mem_of_getElem? (i := 260) (by decide +kernel)⟩
theorem lw_p10 : lw_okq (⟨"ViewChooserModel", "spread", "()V"⟩, 11) := ⟨⟨by decide +kernel, by decide +kernel⟩, List.mem_of_getElem? (i := 279) (by decide +kernel), List.mem_of_getElem? (i := 327) (by decide +kernel), List.mem_of_getElem? (i := 328) (by decide +kernel)⟩
theorem lw_p11 : lw_okq (⟨"ViewChooserModel", "divided", "(II)I"⟩, 11) := ⟨⟨by decide +kernel, by decide +kernel⟩, List.mem_of_getElem? (i := 279) (by decide +kernel), List.mem_of_getElem? (i := 331) (by decide +kernel), List.mem_of_getElem? (i := 332) (by decide +kernel)⟩
theorem lw_p12 : lw_okq (⟨"ViewChooserModel", "isDimension", "(I)Z"⟩, 11) := ⟨⟨by decide +kernel, by decide +kernel⟩, List.mem_of_getElem? (i := 279) (by decide +kernel), List.mem_of_getElem? (i := 339) (by decide +kernel), List.mem_of_getElem? (i := 340) (by decide +kernel)⟩
theorem lw_p13 : lw_okq (⟨"ViewChooserModel", "isView", "(I)Z"⟩, 11) := ⟨⟨by decide +kernel, by decide +kernel⟩, List.mem_of_getElem? (i := 279) (by decide +kernel), List.mem_of_getElem? (i := 356) (by decide +kernel), List.mem_of_getElem? (i := 357) (by decide +kernel)⟩
theorem lw_p14 : lw_okq (⟨"ViewChooserModel", "digitOf", "(II)I"⟩, 11) := ⟨⟨by decide +kernel, by decide +kernel⟩, List.mem_of_getElem? (i := 279) (by decide +kernel), List.mem_of_getElem? (i := 360) (by decide +kernel), List.mem_of_getElem? (i := 361) (by decide +kernel)⟩
theorem lw_p15 : lw_okq (⟨"ViewChooserModel", "above", "(II)Z"⟩, 11) := ⟨⟨by decide +kernel, by decide +kernel⟩, List.mem_of_getElem? (i := 279) (by decide +kernel), List.mem_of_getElem? (i := 368) (by decide +kernel), List.mem_of_getElem? (i := 369) (by decide +kernel)⟩
def lw_privs_1 : List (MethodName × Nat) := [(⟨"ViewChooser", "forgetChosen", "()V"⟩, 9), (⟨"java/lang/Throwable", "fillInStackTrace", "(I)Ljava/lang/Throwable;"⟩, 6), (⟨"ViewChooser", "splitViews", "(II)V"⟩, 9), (⟨"ViewChooser", "checkDimension", "(I)V"⟩, 9), (⟨"ViewChooser", "checkView", "(I)V"⟩, 9), (⟨"ViewChooser", "estimateOf", "(I)J"⟩, 9), (⟨"ViewChooser", "benefitOf", "(I)J"⟩, 9), (⟨"ViewChooser", "checkRoomForChosen", "()V"⟩, 9), (⟨"ViewChooser", "addChosen", "(I)V"⟩, 9), (⟨"ViewChooser", "mostBeneficial", "()I"⟩, 9), (⟨"ViewChooserModel", "spread", "()V"⟩, 11), (⟨"ViewChooserModel", "divided", "(II)I"⟩, 11), (⟨"ViewChooserModel", "isDimension", "(I)Z"⟩, 11), (⟨"ViewChooserModel", "isView", "(I)Z"⟩, 11), (⟨"ViewChooserModel", "digitOf", "(II)I"⟩, 11), (⟨"ViewChooserModel", "above", "(II)Z"⟩, 11)]
theorem lw_r1 : ∀ q ∈ lw_privs_1, lw_okq q := List.forall_mem_cons.mpr ⟨lw_p0, List.forall_mem_cons.mpr ⟨lw_p1, List.forall_mem_cons.mpr ⟨lw_p2, List.forall_mem_cons.mpr ⟨lw_p3, List.forall_mem_cons.mpr ⟨lw_p4, List.forall_mem_cons.mpr ⟨lw_p5, List.forall_mem_cons.mpr ⟨lw_p6, List.forall_mem_cons.mpr ⟨lw_p7, List.forall_mem_cons.mpr ⟨lw_p8, List.forall_mem_cons.mpr ⟨lw_p9, List.forall_mem_cons.mpr ⟨lw_p10, List.forall_mem_cons.mpr ⟨lw_p11, List.forall_mem_cons.mpr ⟨lw_p12, List.forall_mem_cons.mpr ⟨lw_p13, List.forall_mem_cons.mpr ⟨lw_p14, List.forall_mem_cons.mpr ⟨lw_p15, fun _ h => absurd h List.not_mem_nil⟩⟩⟩⟩⟩⟩⟩⟩⟩⟩⟩⟩⟩⟩⟩⟩
theorem lw_p16 : lw_okq (⟨"ViewChooserModel", "reckon", "()V"⟩, 11) := ⟨⟨by decide +kernel, by decide +kernel⟩, List.mem_of_getElem? (i := 279) (by decide +kernel), List.mem_of_getElem? (i := 376) (by decide +kernel), List.mem_of_getElem? (i := 377) (by decide +kernel)⟩
theorem lw_p17 : lw_okq (⟨"ViewChooserModel", "estimateOf", "(I)J"⟩, 11) := ⟨⟨by decide +kernel, by decide +kernel⟩, List.mem_of_getElem? (i := 279) (by decide +kernel), List.mem_of_getElem? (i := 380) (by decide +kernel), List.mem_of_getElem? (i := 381) (by decide +kernel)⟩
theorem lw_p18 : lw_okq (⟨"ViewChooserModel", "benefitOf", "(I)J"⟩, 11) := ⟨⟨by decide +kernel, by decide +kernel⟩, List.mem_of_getElem? (i := 279) (by decide +kernel), List.mem_of_getElem? (i := 385) (by decide +kernel), List.mem_of_getElem? (i := 386) (by decide +kernel)⟩
theorem lw_p19 : lw_okq (⟨"ViewChooserModel", "choosesOne", "()I"⟩, 11) := ⟨⟨by decide +kernel, by decide +kernel⟩, List.mem_of_getElem? (i := 279) (by decide +kernel), List.mem_of_getElem? (i := 397) (by decide +kernel), List.mem_of_getElem? (i := 398) (by decide +kernel)⟩
def lw_privs_2 : List (MethodName × Nat) := [(⟨"ViewChooserModel", "reckon", "()V"⟩, 11), (⟨"ViewChooserModel", "estimateOf", "(I)J"⟩, 11), (⟨"ViewChooserModel", "benefitOf", "(I)J"⟩, 11), (⟨"ViewChooserModel", "choosesOne", "()I"⟩, 11)]
theorem lw_r2 : ∀ q ∈ lw_privs_2, lw_okq q := List.forall_mem_cons.mpr ⟨lw_p16, List.forall_mem_cons.mpr ⟨lw_p17, List.forall_mem_cons.mpr ⟨lw_p18, List.forall_mem_cons.mpr ⟨lw_p19, fun _ h => absurd h List.not_mem_nil⟩⟩⟩⟩
def lw_privs : List (MethodName × Nat) := lw_privs_1 ++ (lw_privs_2)
def lw_tbl : List Cond := k2_sels lw_privs ++ tables_1
theorem lw_privs_ok : ∀ q ∈ lw_privs, lw_okq q := by
  show ∀ q ∈ lw_privs_1 ++ (lw_privs_2), lw_okq q
  exact List.forall_mem_append.mpr ⟨lw_r1, lw_r2⟩
end
section
/-! PURE: the views' numbers, digits, estimates, costs, benefits; the packed digits -/
/-- the digit of dimension d in view v, of D dimensions with the levels L -/
def zq_dg (L : Nat → Nat) : Nat → Nat → Nat → Nat
  | 0, _, _ => 0
  | D + 1, v, d => if d = D then v % (L D + 1) else zq_dg L D (v / (L D + 1)) d
/-- how many views -/
def zq_nv (L : Nat → Nat) : Nat → Nat
  | 0 => 1
  | D + 1 => zq_nv L D * (L D + 1)
def zq_ab (L : Nat → Nat) (D u v : Nat) : Bool := decide (∀ d, d < D → zq_dg L D u d ≤ zq_dg L D v d)
def zq_pr (L V : Nat → Nat) (D v : Nat) : Nat → Nat
  | 0 => 1
  | d + 1 => if zq_dg L D v d < L d then zq_pr L V D v d * V (4 * d + zq_dg L D v d) else zq_pr L V D v d
def zq_es (L V : Nat → Nat) (D F v : Nat) : Nat := min F (zq_pr L V D v D)
def zq_ct (e : Nat → Nat) (ab : Nat → Nat → Bool) (F : Nat) (S : Nat → Nat) : Nat → Nat → Nat
  | 0, _ => F
  | k + 1, v => if e (S k) < zq_ct e ab F S k v ∧ ab (S k) v = true then e (S k) else zq_ct e ab F S k v
def zq_sm (f : Nat → Nat) : Nat → Nat
  | 0 => 0
  | n + 1 => zq_sm f n + f n
def zq_bf (e : Nat → Nat) (ab : Nat → Nat → Bool) (c : Nat → Nat) (v i : Nat) : Nat := if e v < c i ∧ ab v i = true then c i - e v else 0
def zq_bn (e : Nat → Nat) (ab : Nat → Nat → Bool) (c : Nat → Nat) (N v : Nat) : Nat := zq_sm (zq_bf e ab c v) N
/-- the greatest so far, and one more than its place (0: none) -/
def zq_mx (b : Nat → Nat) : Nat → Nat × Nat
  | 0 => (0, 0)
  | n + 1 => if (zq_mx b n).1 < b n then (b n, n + 1) else zq_mx b n
def zq_up (f : Nat → Nat) (k x : Nat) : Nat → Nat := fun j => if j = k then x else f j
theorem zq_up_s (f : Nat → Nat) (k x : Nat) : zq_up f k x k = x := by simp [zq_up]
theorem zq_up_n (f : Nat → Nat) {k x j : Nat} (h : j ≠ k) : zq_up f k x j = f j := by simp [zq_up, h]
/-- steps: pick gives one more than the view that is taken, 0 if none -/
def zq_go (pick : Nat → (Nat → Nat) → Nat) : Nat → Nat → (Nat → Nat) → Nat × (Nat → Nat)
  | 0, k, S => (k, S)
  | n + 1, k, S => if pick k S = 0 then (k, S) else zq_go pick n (k + 1) (zq_up S k (pick k S - 1))
theorem zq_nv_pos (L : Nat → Nat) (D : Nat) : 0 < zq_nv L D := by
  induction D with
  | zero => exact Nat.one_pos
  | succ D ih => exact Nat.mul_pos ih (Nat.succ_pos _)
theorem zq_dg_le (L : Nat → Nat) : ∀ (D v d : Nat), d < D → zq_dg L D v d ≤ L d
  | 0, _, _, h => absurd h (Nat.not_lt_zero _)
  | D + 1, v, d, h => by
    unfold zq_dg
    by_cases hd : d = D
    · subst hd
      rw [if_pos rfl]
      exact Nat.le_of_lt_succ (Nat.mod_lt _ (Nat.succ_pos _))
    · rw [if_neg hd]
      exact zq_dg_le L D _ d (by omega)
theorem zq_dg_congr {L L' : Nat → Nat} : ∀ (D v d : Nat), (∀ j, j < D → L j = L' j) → zq_dg L D v d = zq_dg L' D v d
  | 0, _, _, _ => rfl
  | D + 1, v, d, h => by
    unfold zq_dg
    rw [h D (Nat.lt_succ_self D), zq_dg_congr D _ d (fun j hj => h j (Nat.lt_succ_of_lt hj))]
theorem zq_nv_congr {L L' : Nat → Nat} : ∀ (D : Nat), (∀ j, j < D → L j = L' j) → zq_nv L D = zq_nv L' D
  | 0, _ => rfl
  | D + 1, h => by
    unfold zq_nv
    rw [h D (Nat.lt_succ_self D), zq_nv_congr D (fun j hj => h j (Nat.lt_succ_of_lt hj))]
theorem zq_dg_last (L : Nat → Nat) (D v : Nat) : zq_dg L (D + 1) v D = v % (L D + 1) := by simp [zq_dg]
theorem zq_dg_lower (L : Nat → Nat) {D v d : Nat} (h : d ≠ D) : zq_dg L (D + 1) v d = zq_dg L D (v / (L D + 1)) d := by simp [zq_dg, h]
/-- a view is above none with a lesser number -/
theorem zq_ab_le (L : Nat → Nat) : ∀ (D u v : Nat), u < zq_nv L D → zq_ab L D u v = true → u ≤ v
  | 0, u, v, h, _ => by
    have h : u < 1 := h
    omega
  | D + 1, u, v, h, ha => by
    have h : u < zq_nv L D * (L D + 1) := h
    have ha := of_decide_eq_true ha
    have hq : u / (L D + 1) < zq_nv L D := (Nat.div_lt_iff_lt_mul (Nat.succ_pos _)).mpr h
    have h1 : u / (L D + 1) ≤ v / (L D + 1) := by
      refine zq_ab_le L D _ _ hq (decide_eq_true fun d hd => ?_)
      have := ha d (Nat.lt_succ_of_lt hd)
      rwa [zq_dg_lower L (by omega), zq_dg_lower L (by omega)] at this
    have h2 : u % (L D + 1) ≤ v % (L D + 1) := by
      have := ha D (Nat.lt_succ_self D)
      rwa [zq_dg_last, zq_dg_last] at this
    have e1 := Nat.div_add_mod u (L D + 1)
    have e2 := Nat.div_add_mod v (L D + 1)
    have h3 := Nat.mul_le_mul_left (L D + 1) h1
    omega
theorem zq_cap (c P v : Nat) : min c (min c P * v) = min c (P * v) := by
  rcases Nat.le_total c P with h | h
  · rw [Nat.min_eq_left h]
    rcases Nat.eq_zero_or_pos v with rfl | hv
    · simp
    · have h1 : c ≤ c * v := Nat.le_mul_of_pos_right c hv
      have h2 : c ≤ P * v := Nat.le_trans h1 (Nat.mul_le_mul_right v h)
      rw [Nat.min_eq_left h1, Nat.min_eq_left h2]
  · rw [Nat.min_eq_right h]
theorem zq_es_le (L V : Nat → Nat) (D F v : Nat) : zq_es L V D F v ≤ F := Nat.min_le_left _ _
theorem zq_ct_le (e : Nat → Nat) (ab : Nat → Nat → Bool) (F : Nat) (S : Nat → Nat) (k v : Nat) : zq_ct e ab F S k v ≤ F := by
  induction k with
  | zero => exact Nat.le_refl _
  | succ k ih =>
    unfold zq_ct
    split
    · omega
    · exact ih
theorem zq_ct_congr (e : Nat → Nat) (ab : Nat → Nat → Bool) (F : Nat) {S S' : Nat → Nat} : ∀ (k v : Nat), (∀ i, i < k → S i = S' i) → zq_ct e ab F S k v = zq_ct e ab F S' k v
  | 0, _, _ => rfl
  | k + 1, v, h => by
    unfold zq_ct
    rw [h k (Nat.lt_succ_self k), zq_ct_congr e ab F k v (fun i hi => h i (Nat.lt_succ_of_lt hi))]
theorem zq_sm_congr {f g : Nat → Nat} : ∀ (n : Nat), (∀ i, i < n → f i = g i) → zq_sm f n = zq_sm g n
  | 0, _ => rfl
  | n + 1, h => by
    unfold zq_sm
    rw [h n (Nat.lt_succ_self n), zq_sm_congr n (fun i hi => h i (Nat.lt_succ_of_lt hi))]
theorem zq_sm_le {f : Nat → Nat} {B : Nat} : ∀ (n : Nat), (∀ i, i < n → f i ≤ B) → zq_sm f n ≤ n * B
  | 0, _ => by simp [zq_sm]
  | n + 1, h => by
    unfold zq_sm
    have h1 := zq_sm_le n (fun i hi => h i (Nat.lt_succ_of_lt hi))
    have h2 := h n (Nat.lt_succ_self n)
    rw [Nat.succ_mul]
    omega
theorem zq_sm_zero {f : Nat → Nat} : ∀ (n : Nat), (∀ i, i < n → f i = 0) → zq_sm f n = 0
  | 0, _ => rfl
  | n + 1, h => by
    unfold zq_sm
    rw [zq_sm_zero n (fun i hi => h i (Nat.lt_succ_of_lt hi)), h n (Nat.lt_succ_self n)]
theorem zq_bf_le (e : Nat → Nat) (ab : Nat → Nat → Bool) (c : Nat → Nat) (v i : Nat) : zq_bf e ab c v i ≤ c i := by
  unfold zq_bf
  split <;> omega
theorem zq_bf_congr (e : Nat → Nat) (ab : Nat → Nat → Bool) {c c' : Nat → Nat} (v : Nat) {i : Nat} (h : c i = c' i) : zq_bf e ab c v i = zq_bf e ab c' v i := by
  unfold zq_bf
  rw [h]
theorem zq_mx_congr {b b' : Nat → Nat} : ∀ (n : Nat), (∀ i, i < n → b i = b' i) → zq_mx b n = zq_mx b' n
  | 0, _ => rfl
  | n + 1, h => by
    unfold zq_mx
    rw [h n (Nat.lt_succ_self n), zq_mx_congr n (fun i hi => h i (Nat.lt_succ_of_lt hi))]
theorem zq_mx_le (b : Nat → Nat) (n : Nat) : (zq_mx b n).2 ≤ n := by
  induction n with
  | zero => exact Nat.le_refl _
  | succ n ih =>
    unfold zq_mx
    split
    · exact Nat.le_refl _
    · exact Nat.le_succ_of_le ih
theorem zq_mx_bd {b : Nat → Nat} {B : Nat} : ∀ (n : Nat), (∀ i, i < n → b i ≤ B) → (zq_mx b n).1 ≤ B
  | 0, _ => Nat.zero_le _
  | n + 1, h => by
    unfold zq_mx
    split
    · exact h n (Nat.lt_succ_self n)
    · exact zq_mx_bd n (fun i hi => h i (Nat.lt_succ_of_lt hi))
/-! the packed digits: four bits each -/
def zq_pk (L : Nat → Nat) : Nat → Nat → Nat
  | 0, _ => 0
  | D + 1, v => zq_pk L D (v / (L D + 1)) + v % (L D + 1) * 16 ^ D
theorem zq_pk_congr {L L' : Nat → Nat} : ∀ (D v : Nat), (∀ j, j < D → L j = L' j) → zq_pk L D v = zq_pk L' D v
  | 0, _, _ => rfl
  | D + 1, v, h => by
    unfold zq_pk
    rw [h D (Nat.lt_succ_self D), zq_pk_congr D _ (fun j hj => h j (Nat.lt_succ_of_lt hj))]
theorem zq_pk_lt (L : Nat → Nat) : ∀ (D v : Nat), (∀ j, j < D → L j ≤ 4) → zq_pk L D v < 16 ^ D
  | 0, _, _ => Nat.one_pos
  | D + 1, v, h => by
    unfold zq_pk
    have h1 := zq_pk_lt L D (v / (L D + 1)) (fun j hj => h j (Nat.lt_succ_of_lt hj))
    have h2 : v % (L D + 1) ≤ 4 := Nat.le_trans (Nat.le_of_lt_succ (Nat.mod_lt _ (Nat.succ_pos _))) (h D (Nat.lt_succ_self D))
    have h3 := Nat.mul_le_mul_right (16 ^ D) h2
    rw [Nat.pow_succ]
    omega
theorem zq_pk_nib (L : Nat → Nat) : ∀ (D v d : Nat), (∀ j, j < D → L j ≤ 4) → d < D → zq_pk L D v / 16 ^ d % 16 = zq_dg L D v d
  | 0, _, _, _, h => absurd h (Nat.not_lt_zero _)
  | D + 1, v, d, h, hd => by
    have hL := fun j hj => h j (Nat.lt_succ_of_lt hj)
    have h2 : v % (L D + 1) ≤ 4 := Nat.le_trans (Nat.le_of_lt_succ (Nat.mod_lt _ (Nat.succ_pos _))) (h D (Nat.lt_succ_self D))
    have h1 := zq_pk_lt L D (v / (L D + 1)) hL
    unfold zq_pk
    by_cases e : d = D
    · subst e
      rw [zq_dg_last, Nat.add_mul_div_right _ _ (Nat.pow_pos (by decide)), Nat.div_eq_of_lt h1]
      omega
    · have hlt : d < D := by omega
      rw [zq_dg_lower L e, ← zq_pk_nib L D _ d hL hlt]
      have e1 : 16 ^ D = 16 ^ d * (16 * 16 ^ (D - d - 1)) := by
        rw [← Nat.pow_succ', ← Nat.pow_add]
        congr 1
        omega
      rw [e1, show v % (L D + 1) * (16 ^ d * (16 * 16 ^ (D - d - 1))) = 16 ^ d * (16 * (v % (L D + 1) * 16 ^ (D - d - 1))) by
        rw [Nat.mul_left_comm, Nat.mul_left_comm (v % (L D + 1))], Nat.add_mul_div_left _ _ (Nat.pow_pos (by decide)), Nat.add_mul_mod_self_left]
theorem zq_pk_hi (L : Nat → Nat) (D v d : Nat) (h : ∀ j, j < D → L j ≤ 4) (hd : D ≤ d) : zq_pk L D v / 16 ^ d = 0 :=
  Nat.div_eq_of_lt (Nat.lt_of_lt_of_le (zq_pk_lt L D v h) (Nat.pow_le_pow_right (by decide) hd))
/-- the free bits of n digits -/
def zq_fb : Nat → Nat
  | 0 => 0
  | n + 1 => 16 * zq_fb n + 8
theorem zq_nib_or : ∀ w, w < 8 → w ||| 8 = w + 8 := by decide
theorem zq_nib_and : ∀ w, w < 16 → (w &&& 8 = 8 ↔ 8 ≤ w) := by decide
theorem zq_nib_and0 : ∀ w, w < 16 → w &&& 8 ≤ 8 := by decide
theorem zq_split16 (x : Nat) : x = 16 * (x / 16) + x % 16 := (Nat.div_add_mod x 16).symm
theorem zq_and16 (x y : Nat) : x &&& y = 16 * (x / 16 &&& y / 16) + (x % 16 &&& y % 16) := by
  rw [zq_split16 (x &&& y), Nat.and_div_two_pow (n := 4) (a := x) (b := y), Nat.and_mod_two_pow (n := 4) (a := x) (b := y)]
theorem zq_or16 (x y : Nat) : x ||| y = 16 * (x / 16 ||| y / 16) + (x % 16 ||| y % 16) := by
  rw [zq_split16 (x ||| y), Nat.or_div_two_pow (n := 4) (a := x) (b := y), Nat.or_mod_two_pow (n := 4) (a := x) (b := y)]
/-- all digits at once: none of u's is greater than w's just where every free bit is left -/
theorem zq_above : ∀ (n u w : Nat), u < 16 ^ n → w < 16 ^ n → (∀ d, d < n → u / 16 ^ d % 16 < 8) → (∀ d, d < n → w / 16 ^ d % 16 < 8) →
    w ||| zq_fb n = w + zq_fb n ∧ u ≤ w + zq_fb n ∧ ((w + zq_fb n - u) &&& zq_fb n = zq_fb n ↔ ∀ d, d < n → u / 16 ^ d % 16 ≤ w / 16 ^ d % 16)
  | 0, u, w, hu, hw, _, _ => by
    have hu : u < 1 := hu
    have hw : w < 1 := hw
    have e1 : u = 0 := by omega
    have e2 : w = 0 := by omega
    subst e1; subst e2
    exact ⟨rfl, Nat.le_refl _, ⟨fun _ d h => absurd h (Nat.not_lt_zero _), fun _ => rfl⟩⟩
  | n + 1, u, w, hu, hw, du, dw => by
    rw [Nat.pow_succ] at hu hw
    have sh : ∀ (x d : Nat), x / 16 / 16 ^ d = x / 16 ^ (d + 1) := fun x d => by rw [Nat.div_div_eq_div_mul, Nat.pow_succ, Nat.mul_comm]
    obtain ⟨i1, i2, i3⟩ := zq_above n (u / 16) (w / 16) (by omega) (by omega) (fun d hd => by rw [sh]; exact du (d + 1) (by omega)) (fun d hd => by rw [sh]; exact dw (d + 1) (by omega))
    have u0 : u % 16 < 8 := by simpa using du 0 (Nat.succ_pos n)
    have w0 : w % 16 < 8 := by simpa using dw 0 (Nat.succ_pos n)
    have f3 : zq_fb (n + 1) = 16 * zq_fb n + 8 := rfl
    have f1 : zq_fb (n + 1) / 16 = zq_fb n := by omega
    have f2 : zq_fb (n + 1) % 16 = 8 := by omega
    have eu := zq_split16 u
    have ew := zq_split16 w
    have g1 : w ||| zq_fb (n + 1) = w + zq_fb (n + 1) := by
      rw [zq_or16, f1, f2, i1, zq_nib_or _ w0, f3]
      omega
    refine ⟨g1, by omega, ?_⟩
    have k1 : (w + zq_fb (n + 1) - u) / 16 = w / 16 + zq_fb n - u / 16 := by omega
    have k2 : (w + zq_fb (n + 1) - u) % 16 = w % 16 + 8 - u % 16 := by omega
    rw [zq_and16, k1, k2, f1, f2, f3]
    have b1 := zq_nib_and0 (w % 16 + 8 - u % 16) (by omega)
    have b2 := zq_nib_and (w % 16 + 8 - u % 16) (by omega)
    have b3 : (w / 16 + zq_fb n - u / 16) &&& zq_fb n ≤ zq_fb n := Nat.and_le_right
    constructor
    · intro h d hd
      have h4 : (w / 16 + zq_fb n - u / 16) &&& zq_fb n = zq_fb n := by omega
      have h5 : (w % 16 + 8 - u % 16) &&& 8 = 8 := by omega
      cases d with
      | zero =>
        have := b2.mp h5
        simp only [Nat.pow_zero, Nat.div_one]
        omega
      | succ d =>
        have := i3.mp h4 d (by omega)
        rwa [sh, sh] at this
    · intro h
      have h4 := i3.mpr (fun d hd => by rw [sh, sh]; exact h (d + 1) (by omega))
      have h0 := h 0 (Nat.succ_pos n)
      simp only [Nat.pow_zero, Nat.div_one] at h0
      have h5 := b2.mpr (by omega)
      omega
end
section
/-! the packed digits as ints -/
theorem zq_orI (a b : Nat) : nI a ||| nI b = nI (a ||| b) := by
  apply Int32.toBitVec_inj.1
  show BitVec.ofNat 32 a ||| BitVec.ofNat 32 b = BitVec.ofNat 32 (a ||| b)
  apply BitVec.eq_of_getLsbD_eq
  intro i hi
  simp [hi]
theorem zq_andI (a b : Nat) : nI a &&& nI b = nI (a &&& b) := by
  apply Int32.toBitVec_inj.1
  show BitVec.ofNat 32 a &&& BitVec.ofNat 32 b = BitVec.ofNat 32 (a &&& b)
  apply BitVec.eq_of_getLsbD_eq
  intro i hi
  simp [hi]
theorem zq_injI {a b : Nat} (ha : a < 2 ^ 32) (hb : b < 2 ^ 32) : nI a = nI b ↔ a = b := by
  constructor
  · intro h
    have := congrArg (fun z : Int32 => z.toBitVec.toNat) h
    simpa only [pk_tn ha, pk_tn hb] using this
  · intro h
    rw [h]
theorem zq_free : (-2004318072 : Int32) = nI (zq_fb 8) := by decide +kernel
theorem zq_fb_lt : zq_fb 8 < 2 ^ 32 := by decide +kernel
/-- the program's comparison of all digits at once -/
theorem zq_aboveI {u w : Nat} (hu : u < 16 ^ 8) (hw : w < 16 ^ 8) (du : ∀ d, d < 8 → u / 16 ^ d % 16 < 8) (dw : ∀ d, d < 8 → w / 16 ^ d % 16 < 8) :
    ((nI w ||| (-2004318072)) - nI u) &&& (-2004318072) = (-2004318072) ↔ ∀ d, d < 8 → u / 16 ^ d % 16 ≤ w / 16 ^ d % 16 := by
  obtain ⟨h1, h2, h3⟩ := zq_above 8 u w hu hw du dw
  rw [zq_free, zq_orI, h1, pk_sub h2, zq_andI, zq_injI (Nat.lt_of_le_of_lt Nat.and_le_right zq_fb_lt) zq_fb_lt]
  exact h3
theorem zq_pk32 (L : Nat → Nat) {D : Nat} (v : Nat) (hD : D ≤ 8) (h : ∀ j, j < D → L j ≤ 4) : zq_pk L D v < 16 ^ 8 := Nat.lt_of_lt_of_le (zq_pk_lt L D v h) (Nat.pow_le_pow_right (by decide) hD)
theorem zq_pk_d (L : Nat → Nat) {D : Nat} (v d : Nat) (h : ∀ j, j < D → L j ≤ 4) : zq_pk L D v / 16 ^ d % 16 = if d < D then zq_dg L D v d else 0 := by
  by_cases hd : d < D
  · rw [if_pos hd, zq_pk_nib L D v d h hd]
  · rw [if_neg hd, zq_pk_hi L D v d h (by omega)]
theorem zq_pk_7 (L : Nat → Nat) {D : Nat} (v d : Nat) (h : ∀ j, j < D → L j ≤ 4) : zq_pk L D v / 16 ^ d % 16 < 8 := by
  rw [zq_pk_d L v d h]
  split
  · next hd => have := zq_dg_le L D v d hd; have := h d hd; omega
  · decide
theorem zq_abI (L : Nat → Nat) {D : Nat} (u v : Nat) (hD : D ≤ 8) (h : ∀ j, j < D → L j ≤ 4) :
    ((nI (zq_pk L D v) ||| (-2004318072)) - nI (zq_pk L D u)) &&& (-2004318072) = (-2004318072) ↔ zq_ab L D u v = true := by
  rw [zq_aboveI (zq_pk32 L u hD h) (zq_pk32 L v hD h) (fun d _ => zq_pk_7 L u d h) (fun d _ => zq_pk_7 L v d h)]
  unfold zq_ab
  rw [decide_eq_true_iff]
  constructor
  · intro q d hd
    have := q d (by omega)
    rwa [zq_pk_d L u d h, zq_pk_d L v d h, if_pos hd, if_pos hd] at this
  · intro q d _
    rw [zq_pk_d L u d h, zq_pk_d L v d h]
    by_cases hd : d < D
    · rw [if_pos hd, if_pos hd]
      exact q d hd
    · rw [if_neg hd, if_neg hd]
      exact Nat.le_refl _
theorem zq_sh : ∀ d, d < 8 → (((nI (d * 4)).toUInt32 &&& Int32.toUInt32 31).toBitVec % 32).toNat = 4 * d := by decide +kernel
theorem zq_shl : ∀ d, d < 8 → ((nI (d * 4) &&& 31).toBitVec.smod 32).toNat = 4 * d := by decide +kernel
/-- the program's digit -/
theorem zq_unp (L : Nat → Nat) {D : Nat} (v : Nat) {d : Nat} (hD : D ≤ 8) (h : ∀ j, j < D → L j ≤ 4) (hd : d < D) :
    ((nI (zq_pk L D v)).toUInt32 >>> ((nI (d * 4)).toUInt32 &&& Int32.toUInt32 31)).toInt32 &&& 15 = nI (zq_dg L D v d) := by
  have h16 : zq_pk L D v < 2 ^ 32 := zq_pk32 L v hD h
  rw [pk_ushrN h16 (nI (d * 4)) (4 * d) (zq_sh d (by omega)), pk_andN (Nat.lt_of_le_of_lt (Nat.div_le_self _ _) h16) 4 (by decide +kernel), Nat.pow_mul]
  rw [show (2 ^ 4 : Nat) = 16 from rfl, zq_pk_nib L D v d h hd]
theorem zq_or_add {a b k : Nat} (h : a < 2 ^ k) : a ||| b * 2 ^ k = a + b * 2 ^ k := by
  rw [Nat.mul_comm b, Nat.add_comm, Nat.two_pow_add_eq_or_of_lt h, Nat.or_comm]
/-- what splitting a view writes -/
theorem zq_split (L : Nat → Nat) {D : Nat} (v n j : Nat) (hD : D < 8) (h : ∀ i, i < D → L i ≤ 4) (hn : n ≤ 4) (hj : j ≤ n) :
    nI (zq_pk L D v) ||| (nI j <<< (nI (D * 4) &&& 31)) = nI (zq_pk (zq_up L D n) (D + 1) (v * (n + 1) + j)) := by
  have e0 : ∀ i, i < D → zq_up L D n i = L i := fun i hi => zq_up_n L (by omega)
  have e1 : zq_pk (zq_up L D n) (D + 1) (v * (n + 1) + j) = zq_pk L D v + j * 16 ^ D := by
    show zq_pk (zq_up L D n) D ((v * (n + 1) + j) / (zq_up L D n D + 1)) + (v * (n + 1) + j) % (zq_up L D n D + 1) * 16 ^ D = _
    rw [zq_up_s, zq_pk_congr D _ e0, Nat.mul_comm v, Nat.mul_add_div (Nat.succ_pos n), Nat.div_eq_of_lt (by omega), Nat.mul_add_mod, Nat.mod_eq_of_lt (by omega), Nat.add_zero]
  have h1 := zq_pk_lt L D v h
  have e16 : (16 : Nat) ^ D = 2 ^ (4 * D) := by rw [Nat.pow_mul]
  have h2 : 2 ^ (4 * D) ≤ 2 ^ 28 := Nat.pow_le_pow_right (by decide) (by omega)
  have h3 : j * 2 ^ (4 * D) ≤ 4 * 2 ^ 28 := Nat.mul_le_mul (by omega) h2
  rw [pk_shlN _ (4 * D) (zq_shl D hD) (Nat.lt_of_le_of_lt h3 (by decide)), zq_orI, e1]
  rw [e16] at h1 ⊢
  rw [zq_or_add h1]
end
section
/-! CALLS THAT MAY THROW: contracts whose outcome is a return or a throw -/
section ZT
variable {p : Program} {l : Launch} {e : Env} {R : Room} {s : State} {m : MethodId} {args : Array Value} {below : List Frame} {meth : Method} {c : Code} {H : Heap} {locs : List Loc} {cells slots : Nat} {Q Q' : State → Prop}
def zt_FE (st t : State) (L : List Loc) (k n : Nat) : Prop := st.WarmedH t.vm ∧ st.sameButNew ({ t with vm := st.vm } : State) L k n
/-- what a return makes, what a throw makes -/
def zt_k (a b : Nat) : Outcome → Nat
  | .returned _ => a
  | .threw _ => b
def zt_Met (l : Launch) (y : MethodName) (ws : List Cond) (rm : Room) (Pc : Array Value → State → Prop) (Qc : Array Value → State → Outcome → State → Prop) (kr nr kt nt : Nat) (free : Addr → Prop) : Prop :=
  MetFree l y (headSpec ws rm) Pc (fun _ _ _ _ _ => True) (fun a st o t => Qc a st o t ∧ ∃ L, zt_FE st t L (zt_k kr kt o) (zt_k nr nt o) ∧ ∀ q ∈ L, free q.base)
def zt_MQ (below : List Frame) (Qc : Array Value → State → Outcome → State → Prop) (a : Array Value) (s : State) (kr nr kt nt : Nat) (free : Addr → Prop) : State → Prop := fun t =>
  ∃ o, t.status = .running ∧ Ended t below o ∧ Qc a s o t ∧ ∃ L, zt_FE s t L (zt_k kr kt o) (zt_k nr nt o) ∧ ∀ q ∈ L, free q.base
theorem zt_MQ_of {Qc : Array Value → State → Outcome → State → Prop} {a : Array Value} {kr nr kt nt : Nat} {free : Addr → Prop} (t : State) (h : MQ below Qc a s kr nr free t) : zt_MQ below Qc a s kr nr kt nt free t := by
  obtain ⟨o, h1, h2, h3, L, ⟨⟨v, hv⟩, h4⟩, h5⟩ := h
  subst hv
  exact ⟨_, h1, h2, h3, L, ⟨h4.1, h4.2⟩, h5⟩
theorem zt_mono {g : JFrame} (hQ : ∀ t, Q t → Q' t) (k : W p l e R s m args below meth c H locs cells slots Q g) : W p l e R s m args below meth c H locs cells slots Q' g := by
  intro T hT X
  obtain ⟨t, a, b⟩ := k T hT X
  exact ⟨t, a, hQ t b⟩
theorem zt_ofW {y : MethodName} {ws ws' : List Cond} {rm : Room} {Pc : Array Value → State → Prop} {Qc : Array Value → State → Outcome → State → Prop} {kr nr kt nt : Nat} {free : Addr → Prop} {cc : ByteArray} {maxL : Nat} {ret : Option FieldType}
    (hy : plainName y.cls = true) (hw : ws = Cond.code y cc maxL ret :: ws')
    (body : ∀ p e s m args below meth c s₁, BodyLoose p l y (headSpec ws rm) cc maxL ret e s m args below meth c s₁ → c.maxLocals = maxL → c.exceptionTable.toList = [] → Pc args s →
      W p l e (headSpec ws rm).room s m args below meth c s.heap [] 0 0 (zt_MQ below Qc args s kr nr kt nt free) (entryFrame m args maxL)) : zt_Met l y ws rm Pc Qc kr nr kt nt free := by
  refine MetFree.of_bodyS (code := cc) (maxLocals := maxL) (ret := ret) hy ?_ ?_
  · intro args s m h hn
    obtain ⟨meth, c, h1, h2, h3, h4, h5, h6, -, -⟩ := Cond.code_spec hn (atoms_spec (ws := ws) h _ (by rw [hw]; exact List.mem_cons_self))
    exact ⟨meth, c, h1, h2, h3, h4, h5, h6⟩
  · intro p e s m args below meth c s₁ B hml hP _
    have hcw : (Cond.code y cc maxL ret).before args s = true := atoms_spec (ws := ws) B.pre _ (by rw [hw]; exact List.mem_cons_self)
    have h0 := B.noHandlers hcw
    have h1 : c.exceptionTable.toList = [] := List.eq_nil_of_length_eq_zero (by simpa [Array.isEmpty] using h0)
    have hh0 : s₁.heap = s.heap := by rw [B.state]; rfl
    obtain ⟨t, a1, o, b1, b2, b3, b4⟩ := body p e s m args below meth c s₁ B hml h1 hP s₁ hh0 (Stand.of_body B)
    exact ⟨t, o, a1, b1, b2, b3, b4⟩
/-- .. of a method with a table of handlers -/
theorem zt_ofWith {y : MethodName} {ws ws' : List Cond} {rm : Room} {Pc : Array Value → State → Prop} {Qc : Array Value → State → Outcome → State → Prop} {kr nr kt nt : Nat} {free : Addr → Prop} {cc : ByteArray} {maxL : Nat} {ret : Option FieldType} {hs : List (Nat × Nat × Nat × Nat)}
    (hy : plainName y.cls = true) (hw : ws = Cond.codeWith y cc maxL ret hs :: ws')
    (body : ∀ p e s m args below meth c s₁, BodyLoose p l y (headSpec ws rm) cc maxL ret e s m args below meth c s₁ → c.maxLocals = maxL → c.exceptionTable.toList.map (fun h => (h.startPc, h.endPc, h.handlerPc, h.catchType)) = hs → Pc args s →
      W p l e (headSpec ws rm).room s m args below meth c s.heap [] 0 0 (zt_MQ below Qc args s kr nr kt nt free) (entryFrame m args maxL)) : zt_Met l y ws rm Pc Qc kr nr kt nt free := by
  refine MetFree.of_bodyS (code := cc) (maxLocals := maxL) (ret := ret) hy ?_ ?_
  · intro args s m h hn
    obtain ⟨m', meth, c, h0, h1, h2, h3, h4, -, h5, h6, -⟩ := Cond.codeWith_spec (atoms_spec (ws := ws) h (Cond.codeWith y cc maxL ret hs) (by rw [hw]; exact List.mem_cons_self))
    cases hn.symm.trans h0
    exact ⟨meth, c, h1, h2, h3, h4, h5, h6⟩
  · intro p e s m args below meth c s₁ B hml hP _
    have hcw : (Cond.codeWith y cc maxL ret hs).before args s = true := atoms_spec (ws := ws) B.pre _ (by rw [hw]; exact List.mem_cons_self)
    obtain ⟨m', meth', c', hn', hm', hc', -, -, he', -⟩ := Cond.codeWith_spec hcw
    cases B.named.symm.trans hn'
    cases B.method.symm.trans hm'
    cases (Stand.of_body B).code.symm.trans hc'
    have hh0 : s₁.heap = s.heap := by rw [B.state]; rfl
    obtain ⟨t, a1, o, b1, b2, b3, b4⟩ := body p e s m args below meth c s₁ B hml he' hP s₁ hh0 (Stand.of_body B)
    exact ⟨t, o, a1, b1, b2, b3, b4⟩
/-- a word that any state with warmer tables still bears -/
def zt_gw (w : Cond) : Bool := (w.onTables && w.keepsFace) || goodWord w
theorem zt_word_at {a a' : Array Value} {s U : State} (hW : s.WarmedH U.vm) {w : Cond} (hc : zt_gw w = true) (h : w.before a s = true) : w.before a' U = true := by
  simp only [zt_gw, Bool.or_eq_true] at hc
  rcases hc with hc | hc
  · simp only [Bool.and_eq_true] at hc
    have h1 : w.before a (s.setVm U.vm) = true := Cond.before_shiftedFace (State.Shifted.of_warmed hW) w hc.2 h
    exact va_tabs hc.1 (rfl : (s.setVm U.vm).vm = U.vm) h1
  · exact word_at hW (good_of_word hc) h
/-- the callee's run, from the point where the invoking instruction has linked -/
theorem zt_in {T : State} {y : MethodName} {ws : List Cond} {rm : Room} {Pc : Array Value → State → Prop} {Qc : Array Value → State → Outcome → State → Prop} {kr nr kt nt maxL : Nat} {free : Addr → Prop}
    (X : Stand p l e R s m args below meth c T locs cells slots) (hM : zt_Met l y ws rm Pc Qc kr nr kt nt free)
    (hfr : rm.frames + 1 ≤ R.frames) (hlo : 8 + (maxL + 11) + rm.locals ≤ R.locals) (hf : cells + rm.cells ≤ R.cells ∧ slots + rm.slots ≤ R.slots)
    {mk : MethodId} {methY : Method} {cY : Code} (hn : T.methodNamed? y = some mk) (hmY : T.vm.method? mk = some methY) (hcY : methY.code = some cY) (hlY : cY.maxLocals = maxL) {a0 : Array Value} (hinit : (Cond.initialized y.cls).before a0 T = true)
    {g : JFrame} (hg : g.method = m) (hsize : g.locals.size = c.maxLocals) {ig : Instr} {len : Nat} (hdg : decode c.code g.pc = .ok (ig, len)) (hW : 2 * g.monitorRoom + (g.stack.map fun v => v.category).sum ≤ 8)
    {a : Array Value} (hws : ∀ w ∈ ws, w.before a T = true) (hP : Pc a (T.calling g mk a)) :
    ∃ (o : Outcome) (t T' : State) (L : List Loc), Stand p l e R s m args below meth c T' (locs ++ L) (cells + zt_k kr kt o) (slots + zt_k nr nt o) ∧ (∀ q ∈ L, free q.base) ∧ T'.heap = t.heap ∧ T'.vm = t.vm ∧ Qc a (T.calling g mk a) o t ∧
      Steps p.tables e below (doInvoke e (T.setTop g) [] mk a).1 t ∧ (∀ v, o = .returned v → t = T'.setTop { g with pc := g.pc + len, stack := v.toList ++ g.stack }) ∧ (∀ x, o = .threw x → t = (T'.setTop g).pushFrame (.throwing x)) := by
  obtain ⟨kY, hkY, -⟩ := className_of_methodNamed hn
  have hinitY : kY.init = .initialized := Cond.initialized_spec (findClass_of_methodNamed hn) hkY hinit
  have h : At T g.method c below := by rw [hg]; exact X.here
  have happ : (headSpec ws rm).appliesLoose y e.platform (T.calling g mk a) = true :=
    Spec.appliesLoose_calling (g := g) h hdg hn hkY hinitY (X.room_calling (g := g) (R' := rm) hsize hmY hcY hfr (by rw [hlY]; omega) hf.1 hf.2) (atoms_intro hws)
  obtain ⟨mid, hmid⟩ := h.above
  have hfr' : (T.setTop g).frames = (.java g :: mid) ++ below := by rw [State.frames_setTop' g h.top, hmid]; rfl
  obtain ⟨o, t, hsteps, -, hend, hq, L, ⟨hW₂, hsame⟩, hL⟩ := Steps.callFree hM p X.admits X.cas X.clock (acts := []) hfr' happ hP trivial
  rw [State.frames_setTop' g h.top, X.tail] at hend
  cases o with
  | returned v =>
    obtain ⟨T', X', -, -, ht⟩ := X.outOf hg hdg hend hW₂ hsame
    refine ⟨.returned v, t, T', L, X', hL, ?_, ?_, hq, hsteps, fun w hw => by cases hw; exact ht, fun x hx => by cases hx⟩
    · rw [ht]; simp [State.setTop, State.modifyTopJava, State.setFrames]
    · rw [ht]; simp [State.setTop, State.modifyTopJava, State.setFrames]
  | threw x =>
    obtain ⟨T', X', -, -, ht⟩ := X.outOfThrown hg hend hW₂ hsame
    refine ⟨.threw x, t, T', L, X', hL, ?_, ?_, hq, hsteps, fun w hw => by (cases hw), fun z hz => by cases hz; exact ht⟩
    · rw [ht]; exact (Stand.throwing_heap T' g x).symm
    · rw [ht]; exact (Stand.throwing_vm T' g x).symm
/-- a call that may throw -/
def zt_Run (p : Program) (l : Launch) (e : Env) (R : Room) (s : State) (m : MethodId) (args : Array Value) (below : List Frame) (meth : Method) (c : Code) (H : Heap) (locs : List Loc) (cells slots kr nr kt nt : Nat) (g : JFrame) (rest : List Value) (Qa : State → Outcome → State → Prop) (free : Addr → Prop) : Prop :=
  ∀ T : State, T.heap = H → Stand p l e R s m args below meth c T locs cells slots → ∃ (o : Outcome) (st₀ t T' : State) (L : List Loc), st₀.heap = H ∧ s.WarmedH st₀.vm ∧ Stand p l e R s m args below meth c T' (locs ++ L) (cells + zt_k kr kt o) (slots + zt_k nr nt o) ∧ (∀ q ∈ L, free q.base) ∧ T'.heap = t.heap ∧ T'.vm = t.vm ∧ Qa st₀ o t ∧
    (∀ v, o = .returned v → Goes p e below T g T' { g with pc := g.pc + 3, stack := v.toList ++ rest }) ∧ (∀ x, o = .threw x → ∀ target, Steps p.tables e below ((T'.setTop { g with stack := rest }).pushFrame (.throwing x)) target → Steps p.tables e below (T.setTop g) target)
/-- what a call asks of the tables and the room -/
def zt_Cw (R : Room) (s : State) (args : Array Value) (own : String) (index : Nat) (y : MethodName) (maxL : Nat) (ws : List Cond) (rm : Room) (n : Nat) : Prop :=
  rm.frames + 1 ≤ R.frames ∧ 8 + (maxL + 11) + rm.locals ≤ R.locals ∧ (∀ w ∈ ws, zt_gw w = true ∧ w.before args s = true) ∧ (Cond.initialized y.cls).before args s = true ∧ (Cond.methodLink own index y).before args s = true ∧
    (y.cls ≠ "java/lang/invoke/MethodHandle" ∧ y.cls ≠ "java/lang/invoke/VarHandle") ∧ (parseMethodDescriptor y.desc).map (fun d => d.parameters.length) = some n
theorem zt_runV {y : MethodName} {bytes cc : ByteArray} {maxL nL kr nr kt nt n index : Nat} {ret : Option FieldType} {ws : List Cond} {rm : Room} {Pc : Array Value → State → Prop} {Qc : Array Value → State → Outcome → State → Prop} {free : Addr → Prop} {own C : String} {b : Addr} {As rest : List Value} {g : JFrame}
    (hexec : p.tables.exec = Jvm.exec) (hb : c.code = cc) (hml : c.maxLocals = nL) (hown : s.vm.findClass own = some m.cls)
    (hM : zt_Met l y ws rm Pc Qc kr nr kt nt free) (cw : zt_Cw R s args own index y maxL ws rm n) (hinst : (Cond.instanceMethod y).before args s = true) (hsel : (Cond.selects C y y).before args s = true) (hcode : (Cond.code y bytes maxL ret).before args s = true)
    (hp : PreV s H C b Pc As) (hg : g.method = m) (hn : As.length = n) (hsize : g.locals.size = nL) (hstack : g.stack = As.reverse ++ .ref b :: rest) (hW : 2 * g.monitorRoom + (rest.map fun v => v.category).sum ≤ 8) (hdg : decode cc g.pc = .ok (.invokevirtual index, 3)) (hf : cells + rm.cells ≤ R.cells ∧ slots + rm.slots ≤ R.slots) :
    zt_Run p l e R s m args below meth c H locs cells slots kr nr kt nt g rest (Qc (Value.ref b :: As).toArray) free := by
  obtain ⟨hfr, hlo, hws, hini, hlink, hy, hlen⟩ := cw
  obtain ⟨hbl, ⟨cellB, hcB, hoB, hclB⟩, hPc⟩ := hp
  intro T hT X
  obtain ⟨mk, methM, hnamed, hmethM, hstM, habM⟩ := Cond.instanceMethod_spec hinst
  obtain ⟨methM', cM, hmethM', hcM, -, hlM, -, -, -, hsigM⟩ := Cond.code_spec hnamed hcode
  cases hmethM.symm.trans hmethM'
  obtain ⟨c2, r2, m2, q1, q2, q3, q4, kP, hkP, hkPi⟩ := Cond.selects_spec hsel
  cases hclB.symm.trans q1
  cases (State.methodFound?_of_named hnamed hy).symm.trans q2
  cases hnamed.symm.trans q3
  have hselP : selectMethod e.platform s.vm cellB.cls mk = .method mk := by rw [Launch.admits_selectMethod X.admits]; exact q4
  have hlenA : As.length = methM.sig.parameters.length := by
    rw [hsigM] at hlen
    have h1 : methM.sig.parameters.length = n := Option.some.inj hlen
    rw [hn, h1]
  obtain ⟨vm₁, X₁, hstep₁⟩ := X.invokevirtual hexec hown hlink hnamed hmethM hstM hkP hkPi hy (a := b) (cell := cellB) (by rw [hT]; exact hcB)
    (fun z h => by rw [h] at hoB; cases hoB) hselP hmethM habM hkP hkPi (g := g) hg (argsL := As) (rest := rest) hlenA hstack (by rw [hb]; exact hdg)
  have hmk₁ : (T.setVm vm₁).vm.method? mk = some methM := by
    have := X₁.warmed.alike.method? (m := mk)
    exact this.trans hmethM
  obtain ⟨o, t, T', L, X', hL, e1, e2, hq, hst, hr, hx⟩ := zt_in (g := { g with stack := rest }) X₁ hM hfr hlo hf (X₁.named hnamed) hmk₁ hcM hlM (a0 := args) (zt_word_at X₁.warmed (by simp [zt_gw, Cond.onTables, Cond.keepsFace, Cond.keeps, Cond.steady]) hini) hg (hsize.trans hml.symm) (ig := .invokevirtual index) (len := 3) (by rw [hb]; exact hdg) hW
    (a := (Value.ref b :: As).toArray) (fun w hw => zt_word_at X₁.warmed (hws w hw).1 (hws w hw).2) (hbl _ _ _ _ (hPc (T.setVm vm₁) hT X₁.warmed))
  refine ⟨o, _, t, T', L, ?_, ?_, X', hL, e1, e2, hq, fun v hv target h => hstep₁ _ fun acts => ?_, fun x hx' target h => hstep₁ _ fun acts => ?_⟩
  · exact hT
  · exact X₁.warmed
  · rw [doInvoke_state]; exact hst.trans (by rw [hr v hv]; exact h)
  · rw [doInvoke_state]; exact hst.trans (by rw [hx x hx']; exact h)
theorem zt_runS {y : MethodName} {cc : ByteArray} {maxL nL kr nr kt nt n index : Nat} {ws : List Cond} {rm : Room} {Pc : Array Value → State → Prop} {Qc : Array Value → State → Outcome → State → Prop} {free : Addr → Prop} {own : String} {As rest : List Value} {g : JFrame}
    (hexec : p.tables.exec = Jvm.exec) (hb : c.code = cc) (hml : c.maxLocals = nL) (hown : s.vm.findClass own = some m.cls)
    (hM : zt_Met l y ws rm Pc Qc kr nr kt nt free) (cw : zt_Cw R s args own index y maxL ws rm n) (hstat : (Cond.static y).before args s = true)
    (hcode : ∃ (mk : MethodId) (methM : Method) (cM : Code), s.methodNamed? y = some mk ∧ s.vm.method? mk = some methM ∧ methM.code = some cM ∧ cM.maxLocals = maxL ∧ parseMethodDescriptor y.desc = some methM.sig)
    (hp : PreS s H Pc As) (hg : g.method = m) (hn : As.length = n) (hsize : g.locals.size = nL) (hstack : g.stack = As.reverse ++ rest) (hW : 2 * g.monitorRoom + (rest.map fun v => v.category).sum ≤ 8) (hdg : decode cc g.pc = .ok (.invokestatic index, 3)) (hf : cells + rm.cells ≤ R.cells ∧ slots + rm.slots ≤ R.slots) :
    zt_Run p l e R s m args below meth c H locs cells slots kr nr kt nt g rest (Qc As.toArray) free := by
  obtain ⟨hfr, hlo, hws, hini, hlink, hy, hlen⟩ := cw
  obtain ⟨hbl, hPc⟩ := hp
  intro T hT X
  obtain ⟨mk, methM, cM, hnamed, hmethM, hcM, hlM, hsigM⟩ := hcode
  have hstatic : methM.isStatic = true := Cond.static_spec hnamed hmethM hstat
  obtain ⟨kP, hkP, -⟩ := className_of_methodNamed hnamed
  have hinitP : kP.init = .initialized := Cond.initialized_spec (findClass_of_methodNamed hnamed) hkP hini
  have hlenA : As.length = methM.sig.parameters.length := by
    rw [hsigM] at hlen
    have h1 : methM.sig.parameters.length = n := Option.some.inj hlen
    rw [hn, h1]
  obtain ⟨vm₁, X₁, hstep₁⟩ := X.invokestatic hexec hown hlink hnamed hmethM hstatic hkP hinitP hy (g := g) hg (argsL := As) (rest := rest) hlenA hstack (by rw [hb]; exact hdg)
  have hmk₁ : (T.setVm vm₁).vm.method? mk = some methM := by
    have := X₁.warmed.alike.method? (m := mk)
    exact this.trans hmethM
  obtain ⟨o, t, T', L, X', hL, e1, e2, hq, hst, hr, hx⟩ := zt_in (g := { g with stack := rest }) X₁ hM hfr hlo hf (X₁.named hnamed) hmk₁ hcM hlM (a0 := args) (zt_word_at X₁.warmed (by simp [zt_gw, Cond.onTables, Cond.keepsFace, Cond.keeps, Cond.steady]) hini) hg (hsize.trans hml.symm) (ig := .invokestatic index) (len := 3) (by rw [hb]; exact hdg) hW
    (a := As.toArray) (fun w hw => zt_word_at X₁.warmed (hws w hw).1 (hws w hw).2) (hbl _ _ _ _ (hPc (T.setVm vm₁) hT X₁.warmed))
  refine ⟨o, _, t, T', L, ?_, ?_, X', hL, e1, e2, hq, fun v hv target h => hstep₁ _ fun acts => ?_, fun x hx' target h => hstep₁ _ fun acts => ?_⟩
  · exact hT
  · exact X₁.warmed
  · rw [doInvoke_state]; exact hst.trans (by rw [hr v hv]; exact h)
  · rw [doInvoke_state]; exact hst.trans (by rw [hx x hx']; exact h)
/-- what has been thrown: a new cell of the class named; nothing that was there has changed -/
def zt_Th (E : String) (x : Addr) (st t : State) : Prop := st.heap.size ≤ x ∧ st.heap.size ≤ t.heap.size ∧ (∀ q : Nat, q < st.heap.size → t.heap[q]? = st.heap[q]?) ∧ ∃ ce : Cell, t.heap[x]? = some ce ∧ st.vm.findClass E = some ce.cls ∧ ce.vm = .none
theorem zt_same_old {s t : State} {k n : Nat} (h : s.sameButNew t [] k n) : s.heap.size ≤ t.heap.size ∧ ∀ q : Nat, q < s.heap.size → t.heap[q]? = s.heap[q]? := by
  obtain ⟨-, h2, -, -, -, h6⟩ := h
  refine ⟨h2, fun q hq => ?_⟩
  have hc : s.heap[q]? = some s.heap[q] := Array.getElem?_eq_getElem hq
  obtain ⟨c', h1, e1, hs, hi⟩ := h6 q _ hc
  rw [h1, hc]
  congr 1
  rw [e1]
  have : c'.slots = (s.heap[q]).slots := by
    apply Array.ext_getElem?
    intro i
    exact hi i (by simp)
  rw [this]
/-- the walked method is left by what its callee has thrown -/
theorem zt_out {T' : State} {x : Addr} {g : JFrame} {Qc : Array Value → State → Outcome → State → Prop} {free : Addr → Prop} {kr nr : Nat} (X : Stand p l e R s m args below meth c T' locs cells slots) (hg : g.method = m) (hlocked : g.locked = none) (hentered : g.entered = [])
    (hout : c.exceptionTable.toList = []) (hlocks : meth.locks = false) (hL : ∀ q ∈ locs, free q.base) (hq : ∀ t : State, t.heap = T'.heap → t.vm = T'.vm → s.WarmedH t.vm → Qc args s (.threw x) t) :
    ∃ t, Steps p.tables e below ((T'.setTop g).pushFrame (.throwing x)) t ∧ zt_MQ below Qc args s kr nr cells slots free t := by
  obtain ⟨h1, h2, h3, h4, h5⟩ := X.leaveThrown x (g := g) hg hlocked hentered (fun y hy => by rw [hout] at hy; cases hy) hlocks
  exact ⟨_, h1, _, h2, h3, hq _ rfl rfl h4, locs, ⟨h4, h5⟩, hL⟩
end ZT
end
section
/-! rows for calls that may throw, for throws of one's own, for handlers -/
section ZU
variable {p : Program} {l : Launch} {e : Env} {R : Room} {s : State} {m : MethodId} {args : Array Value} {below : List Frame} {meth : Method} {c : Code} {H : Heap} {locs : List Loc} {cells slots : Nat} {Q Q' : State → Prop}
variable {cc : ByteArray} {pc : Nat} {ls : Array Slot} {rest st0 : List Value} {kr nr kt nt : Nat} {free : Addr → Prop} {Qa : State → Outcome → State → Prop}
theorem zt_ti {x y : Int32} (h : x = y) (k : W p l e R s m args below meth c H locs cells slots Q (F0 m pc ls (.int y :: rest))) : W p l e R s m args below meth c H locs cells slots Q (F0 m pc ls (.int x :: rest)) := h ▸ k
theorem zt_tl {x y : Int64} (h : x = y) (k : W p l e R s m args below meth c H locs cells slots Q (F0 m pc ls (.long y :: rest))) : W p l e R s m args below meth c H locs cells slots Q (F0 m pc ls (.long x :: rest)) := h ▸ k
/-- x is being thrown over the method's own frame g -/
def zt_X (p : Program) (l : Launch) (e : Env) (R : Room) (s : State) (m : MethodId) (args : Array Value) (below : List Frame) (meth : Method) (c : Code) (H : Heap) (locs : List Loc) (cells slots : Nat) (Q : State → Prop) (g : JFrame) (x : Addr) : Prop :=
  ∀ T : State, T.heap = H → Stand p l e R s m args below meth c T locs cells slots → ∃ t, Steps p.tables e below ((T.setTop g).pushFrame (.throwing x)) t ∧ Q t
theorem zt_call (hr : zt_Run p l e R s m args below meth c H locs cells slots kr nr kt nt (F0 m pc ls st0) rest Qa free)
    (kr : ∀ (v : Option Value) (st t : State) (L : List Loc), st.heap = H → s.WarmedH st.vm → s.WarmedH t.vm → (∀ q ∈ L, free q.base) → Qa st (.returned v) t → W p l e R s m args below meth c t.heap (locs ++ L) (cells + kr) (slots + nr) Q (F0 m (pc + 3) ls (v.toList ++ rest)))
    (kt : ∀ (x : Addr) (st t : State) (L : List Loc), st.heap = H → s.WarmedH st.vm → s.WarmedH t.vm → (∀ q ∈ L, free q.base) → Qa st (.threw x) t → zt_X p l e R s m args below meth c t.heap (locs ++ L) (cells + kt) (slots + nt) Q (F0 m pc ls rest) x) :
    W p l e R s m args below meth c H locs cells slots Q (F0 m pc ls st0) := by
  intro T hT X
  obtain ⟨o, st₀, t, T', L, h0, hW0, X', hL, e1, e2, hq, hret, hthr⟩ := hr T hT X
  have hWt : s.WarmedH t.vm := e2 ▸ X'.warmed
  cases o with
  | returned v =>
    obtain ⟨t2, a1, b1⟩ := kr v st₀ t L h0 hW0 hWt hL hq T' e1 X'
    exact ⟨t2, hret v rfl t2 a1, b1⟩
  | threw x =>
    obtain ⟨t2, a1, b1⟩ := kt x st₀ t L h0 hW0 hWt hL hq T' e1 X'
    exact ⟨t2, hthr x rfl t2 a1, b1⟩
/-- a call that only returns -/
theorem zt_callr (hr : zt_Run p l e R s m args below meth c H locs cells slots kr nr kt nt (F0 m pc ls st0) rest Qa free) (hn : ∀ x st t, ¬ Qa st (.threw x) t)
    (kr : ∀ (v : Option Value) (st t : State) (L : List Loc), st.heap = H → s.WarmedH st.vm → s.WarmedH t.vm → (∀ q ∈ L, free q.base) → Qa st (.returned v) t → W p l e R s m args below meth c t.heap (locs ++ L) (cells + kr) (slots + nr) Q (F0 m (pc + 3) ls (v.toList ++ rest))) :
    W p l e R s m args below meth c H locs cells slots Q (F0 m pc ls st0) :=
  zt_call hr kr (fun x st t _ _ _ _ _ hq => absurd hq (hn x st t))
theorem zt_X_out {x : Addr} {Qc : Array Value → State → Outcome → State → Prop} (hout : c.exceptionTable.toList = []) (hlocks : meth.locks = false) (hL : ∀ q ∈ locs, free q.base) (hq : ∀ t : State, t.heap = H → s.WarmedH t.vm → Qc args s (.threw x) t) :
    zt_X p l e R s m args below meth c H locs cells slots (zt_MQ below Qc args s kr nr cells slots free) (F0 m pc ls rest) x := by
  intro T hT X
  exact zt_out X rfl rfl rfl hout hlocks hL (fun t ht hv hW => hq t (ht.trans hT) hW)
theorem zt_X_widen {x : Addr} {g : JFrame} {k n : Nat} (h1 : cells ≤ k) (h2 : slots ≤ n) (kk : zt_X p l e R s m args below meth c H locs k n Q g x) : zt_X p l e R s m args below meth c H locs cells slots Q g x := fun T hT X => kk T hT (stand_widen X h1 h2)
theorem zt_X_forget {x : Addr} {g : JFrame} {L : List Loc} (hL : ∀ q ∈ L, s.heap.size ≤ q.base) (kk : zt_X p l e R s m args below meth c H locs cells slots Q g x) : zt_X p l e R s m args below meth c H (locs ++ L) cells slots Q g x := fun T hT X => kk T hT (Stand.forget X hL)
theorem zt_W_forget {g : JFrame} {L : List Loc} (hL : ∀ q ∈ L, s.heap.size ≤ q.base) (kk : W p l e R s m args below meth c H locs cells slots Q g) : W p l e R s m args below meth c H (locs ++ L) cells slots Q g := fun T hT X => kk T hT (Stand.forget X hL)
/-- a read, or a throw of a new E that changes nothing -/
def zt_Qp (ok : Prop) (r : Option Value) (E : String) : Array Value → State → Outcome → State → Prop := fun _ st o t => (ok ∧ o = .returned r ∧ t.heap = st.heap) ∨ (¬ ok ∧ ∃ x, o = .threw x ∧ zt_Th E x st t)
/-- a read -/
def zt_Qr (r : Option Value) : Array Value → State → Outcome → State → Prop := fun _ st o t => o = .returned r ∧ t.heap = st.heap
theorem zt_Th_to {E : String} {x : Addr} {st t st' t' : State} (h : zt_Th E x st t) (h1 : st'.heap = st.heap) (hW : st'.WarmedH st.vm) (h2 : t'.heap = t.heap) : zt_Th E x st' t' := by
  obtain ⟨a1, a2, a3, ce, a4, a5, a6⟩ := h
  rw [← h1] at a1 a2 a3
  refine ⟨a1, by rw [h2]; exact a2, fun q hq => by rw [h2]; exact a3 q hq, ce, by rw [h2]; exact a4, ?_, a6⟩
  rw [← hW.alike.findClass]
  exact a5
/-- a call of a reader that may throw, from an unchanged heap; what it throws goes on -/
theorem zt_callP {ok : Prop} {r : Option Value} {E : String} {a : Array Value} {Qc : Array Value → State → Outcome → State → Prop} {free' : Addr → Prop} {ar br kc ks : Nat} (hr : zt_Run p l e R s m args below meth c s.heap [] cells slots kr nr kt nt (F0 m pc ls st0) rest (zt_Qp ok r E a) (fun _ => False)) (hout : c.exceptionTable.toList = []) (hlocks : meth.locks = false)
    (hkc : cells + kt ≤ kc) (hks : slots + nt ≤ ks) (hth : ¬ ok → ∀ (t : State) (x : Addr), zt_Th E x s t → s.WarmedH t.vm → Qc args s (.threw x) t)
    (k : ok → W p l e R s m args below meth c s.heap [] (cells + kr) (slots + nr) (zt_MQ below Qc args s ar br kc ks free') (F0 m (pc + 3) ls (r.toList ++ rest))) : W p l e R s m args below meth c s.heap [] cells slots (zt_MQ below Qc args s ar br kc ks free') (F0 m pc ls st0) := by
  refine zt_call hr (fun v st t L h0 hW0 hWt hL hq => ?_) (fun x st t L h0 hW0 hWt hL hq => ?_)
  · rcases hq with ⟨hok, hv, hh⟩ | ⟨_, x, hx, _⟩
    · cases hv
      rw [hh, h0]
      exact zt_W_forget (fun q h => (hL q h).elim) (k hok)
    · cases hx
  · rcases hq with ⟨_, hv, _⟩ | ⟨hno, x', hx, hTh⟩
    · cases hv
    · cases hx
      refine zt_X_forget (fun q h => (hL q h).elim) (zt_X_widen hkc hks ?_)
      exact zt_X_out hout hlocks (fun q h => by cases h) (fun t' ht' hW => hth hno t' x (zt_Th_to hTh h0.symm hW0 ht') hW)
/-- a call of a reader, from any heap -/
theorem zt_callR {r : Option Value} {a : Array Value} (hr : zt_Run p l e R s m args below meth c H locs cells slots kr nr kt nt (F0 m pc ls st0) rest (zt_Qr r a) (fun _ => False))
    (k : W p l e R s m args below meth c H locs (cells + kr) (slots + nr) Q (F0 m (pc + 3) ls (r.toList ++ rest))) : W p l e R s m args below meth c H locs cells slots Q (F0 m pc ls st0) := by
  refine zt_callr hr (fun x st t hq => by have := hq.1; cases this) (fun v st t L h0 hW0 hWt hL hq => ?_)
  obtain ⟨hv, hh⟩ := hq
  cases hv
  rw [hh, h0]
  exact zt_W_forget (fun q h => (hL q h).elim) k
/-- throw new E("..") -/
theorem zt_throwNew {Qc : Array Value → State → Outcome → State → Prop} {free' : Addr → Prop} {ar br kc ks : Nat} (hexec : p.tables.exec = Jvm.exec) (hb : c.code = cc) (htr : e.platform.stackTraces = false) (hml : ls.size = c.maxLocals) {own cls tx : String} {names : List String} {ix is ic q : Nat}
    (hown : s.vm.findClass own = some m.cls) (hcls : Bundle.fit cls = true) (hnames : ∀ n ∈ names, Bundle.fit n = true) (h : ∀ a ∈ Bundle.ownAtoms own ic cls names, a.before args s = true)
    (hclink : (Cond.classLink own ix cls).before args s = true) (hins : (Cond.instantiable cls 6).before args s = true) (hinit : (Cond.initialized cls).before args s = true) (hZ : vk_R own is tx q s)
    (hout : c.exceptionTable.toList = []) (hlocks : meth.locks = false)
    (d0 : decode cc pc = .ok (.new ix, 3)) (d3 : decode cc (pc + 3) = .ok (.dup, 1)) (d4 : decode cc (pc + 3 + 1) = .ok (.ldc is, 2)) (d6 : decode cc (pc + 3 + 1 + 2) = .ok (.invokespecial ic, 3)) (d9 : decode cc (pc + 3 + 1 + 2 + 3) = .ok (.athrow, 1))
    (hcells : cells + 1 ≤ R.cells) (hslots : slots + 6 ≤ R.slots) (hkc : cells + 1 ≤ kc) (hks : slots + 6 ≤ ks) (hfr : names.length + 3 < R.frames) (hlo : (rest.map fun v => v.category).sum + (13 * (names.length + 1) + 44) ≤ R.locals)
    (hq : ∀ (t : State) (x : Addr), zt_Th cls x s t → s.WarmedH t.vm → Qc args s (.threw x) t) :
    W p l e R s m args below meth c s.heap [] cells slots (zt_MQ below Qc args s ar br kc ks free') (F0 m pc ls rest) := by
  refine W.newc hexec hb hown hclink hins hinit rfl d0 hcells hslots (fun cC kC hfc hkC hord hn => ?_)
  refine W.eq (g2 := F0 m (pc + 3) ls (.ref s.heap.size :: rest)) rfl ?_
  refine lv_dup hexec hb d3 rfl ?_
  refine va_ldcS hexec hb hown hZ d4 ?_
  intro T hT X
  have hcell : T.heap[s.heap.size]? = some (freshCell cC kC) := by rw [hT]; simp
  have hmr : 2 * (F0 m (pc + 3 + 1 + 2) ls (.ref q :: .ref s.heap.size :: .ref s.heap.size :: rest)).monitorRoom = 0 := rfl
  have hcat : (Value.ref s.heap.size).category = 1 := rfl
  obtain ⟨U, h1, h2, h3, h4, h5, ce, h6, h7⟩ := X.ctorThrowS hexec htr hown hcls hnames h (fun x hx => by cases hx) hfc hkC hcell (Nat.le_refl _) (msg := .ref q) rfl (g := F0 m (pc + 3 + 1 + 2) ls (.ref q :: .ref s.heap.size :: .ref s.heap.size :: rest)) rfl hml rfl rfl (rest := rest) rfl
    (by rw [hb]; exact d6) (by rw [hb]; exact d9) (fun y hy => by rw [hout] at hy; cases hy) hfr (by rw [hmr]; simp only [List.map_cons, List.sum_cons, hcat]; omega) hlocks
  refine ⟨U, h1, .threw _, h2, h3, ?_, [], ⟨h4, h5.mono hkc hks⟩, fun q hq => by cases hq⟩
  have h8 := zt_same_old h5
  exact hq U _ ⟨Nat.le_refl _, h8.1, h8.2, ce, h6, h7.cls, h7.vm⟩ h4
end ZU
end
section
/-! HANDLERS whose class may not be resolved yet: the search resolves it -/
section ZV
variable {e : Env} {u : State} {f : JFrame} {a : Addr}
/-- one entry that covers the pc, its class found cold or warm -/
theorem zt_go_cold {Q : Handler → Pre} {E : CtlPost} {d : Bool} {acts : List Action} {x : ExceptionTableEntry} {t : List ExceptionTableEntry} {cl : ClassId} {cell : Cell} {vm' : Vm} (hx : covers x f.pc = true) (h0 : x.catchType ≠ 0)
    (hg : (Jvm.resolveClass f.method.cls x.catchType).Gives e.toSetting u.vm (.ok cl) vm') (hsz : vm'.classes.size ≤ u.vm.classes.size) (hcell : u.heap[a]? = some cell) (hobj : ∀ k, cell.vm ≠ .statics k) (hk : ∃ k, vm'.classes[cell.cls]? = some k) (hc : ∃ k, vm'.classes[cl]? = some k) :
    wp (findHandler.go f a (x :: t)) Q E e d acts u ↔ if vm'.assignable cell.cls cl = true then Q (.found x.handlerPc) d acts (u.setVm vm') else wp (findHandler.go f a t) Q E e d acts (u.setVm vm') := by
  simp only [covers] at hx
  obtain ⟨ha, ht⟩ := hg.op (op := VmOp.resolveClass f.method.cls x.catchType) rfl
  cases hfit : vm'.assignable cell.cls cl <;>
    simp [findHandler.go, hx, h0, ha, ht, hsz, hcell, hobj, hk, hc, hfit, VmOp.dirties, VmOp.acts]
theorem zt_stepCatch {r : List Frame} {pc : Nat} {vm' : Vm} (hfind : ∀ (Q : Handler → Pre) (E : CtlPost) (d : Bool) (acts : List Action), wp (findHandler f a) Q E e d acts u ↔ Q (.found pc) d acts (u.setVm vm')) :
    (stepThrowing e u a (.java f :: r)).Is ((u.setVm vm').setFrames (.java { f with pc := pc, stack := [.ref a] } :: r)) [] := by
  simp only [stepThrowing, searchFrame, vmDo]
  generalize hr : Sem.go _ e false [] u = res
  obtain ⟨as, rfl, ha⟩ := Sem.eq_ok_of hr (a := Handler.found pc) (s' := u.setVm vm') (acts' := []) (by simp [hfind _ _ _ _])
  exact ⟨rfl, ha⟩
theorem zt_caught {tb : Tables} {s target : State} {g : JFrame} {c : Code} {below : List Frame} {pc : Nat} {vm' : Vm} (h : At s g.method c below)
    (hfind : ∀ (Q : Handler → Pre) (E : CtlPost) (d : Bool) (acts : List Action), wp (findHandler g a) Q E e d acts ((s.setTop g).pushFrame (.throwing a)) ↔ Q (.found pc) d acts (((s.setTop g).pushFrame (.throwing a)).setVm vm'))
    (hrest : Steps tb e below ((s.setVm vm').setTop { g with pc := pc, stack := [.ref a] }) target) :
    Steps tb e below ((s.setTop g).pushFrame (.throwing a)) target := by
  obtain ⟨hgo, hw⟩ := h.throwing a
  refine Steps.head hgo hw ?_
  rw [stepThread_throwing (frames_entered h.top _), (zt_stepCatch (u := (s.setTop g).pushFrame (.throwing a)) hfind).1]
  obtain ⟨g₀, hg⟩ := Option.isSome_iff_exists.mp h.top
  obtain ⟨r, hr⟩ := State.topJava?_eq_some.mp hg
  have hr' : (s.setVm vm').frames = .java g₀ :: r := hr
  rw [State.setTop_of_frames _ hr'] at hrest
  have e1 : (((s.setTop g).pushFrame (.throwing a)).setVm vm').setFrames (.java { g with pc := pc, stack := [.ref a] } :: s.frames.tail) = (s.setVm vm').setFrames (.java { g with pc := pc, stack := [.ref a] } :: r) := by
    show (((s.setTop g).pushFrame (.throwing a)).setFrames (.java { g with pc := pc, stack := [.ref a] } :: s.frames.tail)).setVm vm' = (s.setFrames (.java { g with pc := pc, stack := [.ref a] } :: r)).setVm vm'
    rw [State.pushFrame, State.setFrames_setFrames, State.setTop_of_frames _ hr, State.setFrames_setFrames, hr]
    rfl
  rw [e1]
  exact hrest
end ZV
section ZY
variable {p : Program} {l : Launch} {e : Env} {R : Room} {s : State} {m : MethodId} {args : Array Value} {below : List Frame} {meth : Method} {c : Code} {H : Heap} {locs : List Loc} {cells slots : Nat} {Q : State → Prop}
variable {pc : Nat} {ls : Array Slot} {rest : List Value} {x : Addr}
/-- what an entry's class gives, cold or warm -/
theorem zt_link {T : State} (X : Stand p l e R s m args below meth c T locs cells slots) {own E : String} {idx : Nat} (hown : s.vm.findClass own = some m.cls) (hlink : (Cond.classLink own idx E).before args s = true) :
    ∃ cl, s.vm.findClass E = some cl ∧ (Jvm.resolveClass m.cls idx).Gives e.toSetting T.vm (.ok cl) (T.vm.noted m.cls idx (.cls cl)) ∧ s.WarmedH (T.vm.noted m.cls idx (.cls cl)) := by
  have hpl : e.platform.magicAccessors = ({} : Platform).magicAccessors := by rw [X.admits.platform]
  obtain ⟨c', hc', hcl⟩ := Cond.classLink_spec hown hlink e.platform hpl
  obtain ⟨dk, _, _, kt, hd, _, _, _, _, hkt, _, hopen⟩ := hcl.here
  exact ⟨c', hc', resolveClass_links e.toSetting (X.warmed.classLinks hcl), X.warmed.noted hd hopen (State.rightAt_cls hcl)⟩
end ZY
end
section
/-! array rows with a number as index -/
section ZA
variable {p : Program} {l : Launch} {e : Env} {R : Room} {s : State} {m : MethodId} {args : Array Value} {below : List Frame} {meth : Method} {c : Code} {H : Heap} {locs : List Loc} {cells slots : Nat} {Q : State → Prop}
variable {cc : ByteArray} {pc : Nat} {ls : Array Slot} {rest : List Value} {D : va_G} {cl : List vw_C} {A : Nat → Prop} {a : Nat} {tys : List (ClassId × FieldType)} {ws : va_W} {H0 : Heap}
theorem zt_iald (hexec : p.tables.exec = Jvm.exec) (hb : c.code = cc) (hK : va_K D cl tys s) (hP : va_P D cl ws H) (q0 t0 : Nat) {cA : ClassId} {n i : Nat} {f : Nat → Int32} (ha : ws[q0]? = some (a, .inl (cA, n, .inl f))) (ht : tys[t0]? = some (cA, .int)) (hi : i < n) (hn : n < 2 ^ 31) {v : Int32} (hv : f i = v) (hdg : decode cc pc = .ok (.iaload, 1))
    (kk : W p l e R s m args below meth c H locs cells slots Q (F0 m (pc + 1) ls (.int v :: rest))) : W p l e R s m args below meth c H locs cells slots Q (F0 m pc ls (.int (nI i) :: .ref a :: rest)) := by
  refine va_iald hexec hb hK hP q0 t0 ha ht (vp_in_nI hi hn) hdg ?_
  rw [nI_clamp (by omega), hv]
  exact kk
theorem zt_bald (hexec : p.tables.exec = Jvm.exec) (hb : c.code = cc) (hK : va_K D cl tys s) (hP : va_P D cl ws H) (q0 t0 : Nat) {cA : ClassId} {n i : Nat} {f : Nat → Int32} (ha : ws[q0]? = some (a, .inl (cA, n, .inl f))) (ht : tys[t0]? = some (cA, .byte)) (hi : i < n) (hn : n < 2 ^ 31) {v : Int32} (hv : f i = v) (hdg : decode cc pc = .ok (.baload, 1))
    (kk : W p l e R s m args below meth c H locs cells slots Q (F0 m (pc + 1) ls (.int v :: rest))) : W p l e R s m args below meth c H locs cells slots Q (F0 m pc ls (.int (nI i) :: .ref a :: rest)) := by
  refine va_bald hexec hb hK hP q0 t0 ha ht (vp_in_nI hi hn) hdg ?_
  rw [nI_clamp (by omega), hv]
  exact kk
theorem zt_lald (hexec : p.tables.exec = Jvm.exec) (hb : c.code = cc) (hK : va_K D cl tys s) (hP : va_P D cl ws H) (q0 t0 : Nat) {cA : ClassId} {n i : Nat} {f : Nat → Int64} (ha : ws[q0]? = some (a, .inl (cA, n, .inr (.inl f)))) (ht : tys[t0]? = some (cA, .long)) (hi : i < n) (hn : n < 2 ^ 31) {v : Int64} (hv : f i = v) (hdg : decode cc pc = .ok (.laload, 1))
    (kk : W p l e R s m args below meth c H locs cells slots Q (F0 m (pc + 1) ls (.long v :: rest))) : W p l e R s m args below meth c H locs cells slots Q (F0 m pc ls (.int (nI i) :: .ref a :: rest)) := by
  refine va_lald hexec hb hK hP q0 t0 ha ht (vp_in_nI hi hn) hdg ?_
  rw [nI_clamp (by omega), hv]
  exact kk
theorem zt_iast (hexec : p.tables.exec = Jvm.exec) (hb : c.code = cc) (hK : va_K D cl tys s) (hP : va_P D cl ws H) (hD : va_D A ws) (hS : va_S A H0 H locs) (q0 t0 : Nat) {cA : ClassId} {n i : Nat} {f : Nat → Int32} (ha : ws[q0]? = some (a, .inl (cA, n, .inl f))) (ht : tys[t0]? = some (cA, .int)) {x : Int32} (hi : i < n) (hn : n < 2 ^ 31) (hdg : decode cc pc = .ok (.iastore, 1))
    (kk : ∀ (H1 : Heap) (locs1 : List Loc), va_P D cl (ws.set q0 (a, .inl (cA, n, .inl (upd f i x)))) H1 → va_D A (ws.set q0 (a, .inl (cA, n, .inl (upd f i x)))) → va_S A H0 H1 locs1 → W p l e R s m args below meth c H1 locs1 cells slots Q (F0 m (pc + 1) ls rest)) : W p l e R s m args below meth c H locs cells slots Q (F0 m pc ls (.int x :: .int (nI i) :: .ref a :: rest)) := by
  refine va_iast hexec hb hK hP hD hS q0 t0 ha ht (vp_in_nI hi hn) hdg ?_
  rw [nI_clamp (by omega)]
  exact kk
theorem zt_last (hexec : p.tables.exec = Jvm.exec) (hb : c.code = cc) (hK : va_K D cl tys s) (hP : va_P D cl ws H) (hD : va_D A ws) (hS : va_S A H0 H locs) (q0 t0 : Nat) {cA : ClassId} {n i : Nat} {f : Nat → Int64} (ha : ws[q0]? = some (a, .inl (cA, n, .inr (.inl f)))) (ht : tys[t0]? = some (cA, .long)) {x : Int64} (hi : i < n) (hn : n < 2 ^ 31) (hdg : decode cc pc = .ok (.lastore, 1))
    (kk : ∀ (H1 : Heap) (locs1 : List Loc), va_P D cl (ws.set q0 (a, .inl (cA, n, .inr (.inl (vp_updL f i x))))) H1 → va_D A (ws.set q0 (a, .inl (cA, n, .inr (.inl (vp_updL f i x))))) → va_S A H0 H1 locs1 → W p l e R s m args below meth c H1 locs1 cells slots Q (F0 m (pc + 1) ls rest)) : W p l e R s m args below meth c H locs cells slots Q (F0 m pc ls (.long x :: .int (nI i) :: .ref a :: rest)) := by
  refine va_last hexec hb hK hP hD hS q0 t0 ha ht (vp_in_nI hi hn) hdg ?_
  rw [nI_clamp (by omega)]
  exact kk
theorem zt_bast (hexec : p.tables.exec = Jvm.exec) (hb : c.code = cc) (hK : va_K D cl tys s) (hP : va_P D cl ws H) (hD : va_D A ws) (hS : va_S A H0 H locs) (q0 t0 : Nat) {cA : ClassId} {n i : Nat} {f : Nat → Int32} (ha : ws[q0]? = some (a, .inl (cA, n, .inl f))) (ht : tys[t0]? = some (cA, .byte)) {x y : Int32} (hi : i < n) (hn : n < 2 ^ 31) (hy : vp_nar .byte x = y) (hdg : decode cc pc = .ok (.bastore, 1))
    (kk : ∀ (H1 : Heap) (locs1 : List Loc), va_P D cl (ws.set q0 (a, .inl (cA, n, .inl (upd f i y)))) H1 → va_D A (ws.set q0 (a, .inl (cA, n, .inl (upd f i y)))) → va_S A H0 H1 locs1 → W p l e R s m args below meth c H1 locs1 cells slots Q (F0 m (pc + 1) ls rest)) : W p l e R s m args below meth c H locs cells slots Q (F0 m pc ls (.int x :: .int (nI i) :: .ref a :: rest)) := by
  refine va_bast hexec hb hK hP hD hS q0 t0 ha ht (vp_in_nI hi hn) hdg ?_
  rw [nI_clamp (by omega), hy]
  exact kk
end ZA
end
