/-! ===== WALKING with postconditions: ints as images of Int ===== -/
def ei_ (z : Int) : Int32 := Int32.ofInt z
def el_ (z : Int) : Int64 := Int64.ofInt z
def vi_ (m : am_M) (k : Nat) (j : Int) : Int := (m.1 k j.toNat).toInt
def vl_ (m : am_M) (k : Nat) (j : Int) : Int := (m.2 k j.toNat).toInt
def wi_ (m : am_M) (k : Nat) (j v : Int) : am_M := (am_ui m.1 k j.toNat (ei_ v), m.2)
def wl_ (m : am_M) (k : Nat) (j v : Int) : am_M := (m.1, am_ul m.2 k j.toNat (el_ v))
theorem ei_toInt (x : Int32) : ei_ x.toInt = x := Int32.ofInt_toInt x
theorem el_toInt (x : Int64) : el_ x.toInt = x := Int64.ofInt_toInt x
theorem ei_i {z : Int} (h : -2147483648 ≤ z ∧ z < 2147483648) : (ei_ z).toInt = z := Int32.toInt_ofInt_of_le h.1 h.2
theorem el_i {z : Int} (h : -9223372036854775808 ≤ z ∧ z < 9223372036854775808) : (el_ z).toInt = z := Int64.toInt_ofInt_of_le h.1 h.2
theorem vi_r (m : am_M) (k : Nat) (j : Int) : -2147483648 ≤ vi_ m k j ∧ vi_ m k j < 2147483648 := ⟨Int32.le_toInt _, Int32.toInt_lt _⟩
theorem vl_r (m : am_M) (k : Nat) (j : Int) : -9223372036854775808 ≤ vl_ m k j ∧ vl_ m k j < 9223372036854775808 := ⟨Int64.le_toInt _, Int64.toInt_lt _⟩
theorem ei_add {x y : Int32} {a b : Int} (hx : x = ei_ a) (hy : y = ei_ b) : x + y = ei_ (a + b) := by rw [hx, hy]; exact (Int32.ofInt_add a b).symm
theorem ei_sub {x y : Int32} {a b : Int} (hx : x = ei_ a) (hy : y = ei_ b) : x - y = ei_ (a - b) := by rw [hx, hy]; exact (Int32.ofInt_sub a b).symm
theorem ei_mul {x y : Int32} {a b : Int} (hx : x = ei_ a) (hy : y = ei_ b) : x * y = ei_ (a * b) := by rw [hx, hy]; exact (Int32.ofInt_mul a b).symm
theorem ei_neg {x : Int32} {a : Int} (hx : x = ei_ a) : -x = ei_ (-a) := by rw [hx]; exact (Int32.ofInt_neg a).symm
theorem ei_rfl {a : Int} : ei_ a = ei_ a := rfl
/-- wrapped into an int -/
def wr_ (z : Int) : Int := (ei_ z).toInt
theorem wr_r (z : Int) : -2147483648 ≤ wr_ z ∧ wr_ z < 2147483648 := ⟨Int32.le_toInt _, Int32.toInt_lt _⟩
theorem wr_i {z : Int} (h : -2147483648 ≤ z ∧ z < 2147483648) : wr_ z = z := ei_i h
theorem ei_wr (z : Int) : ei_ (wr_ z) = ei_ z := ei_toInt _
/-- what the bit operations give -/
def xr_ (a b : Int) : Int := (ei_ a ^^^ ei_ b).toInt
def or_ (a b : Int) : Int := (ei_ a ||| ei_ b).toInt
def an_ (a b : Int) : Int := (ei_ a &&& ei_ b).toInt
def sl_ (a b : Int) : Int := (ei_ a <<< (ei_ b &&& 31)).toInt
def us_ (a b : Int) : Int := ((ei_ a).toUInt32 >>> ((ei_ b).toUInt32 &&& Int32.toUInt32 31)).toInt32.toInt
def by_ (a : Int) : Int := ((ei_ a).toInt8.toInt32).toInt
def sh_ (a : Int) : Int := ((ei_ a).toInt16.toInt32).toInt
theorem ei_xr {x y : Int32} {a b : Int} (hx : x = ei_ a) (hy : y = ei_ b) : x ^^^ y = ei_ (xr_ a b) := by rw [hx, hy]; exact (ei_toInt _).symm
theorem ei_or {x y : Int32} {a b : Int} (hx : x = ei_ a) (hy : y = ei_ b) : x ||| y = ei_ (or_ a b) := by rw [hx, hy]; exact (ei_toInt _).symm
theorem ei_an {x y : Int32} {a b : Int} (hx : x = ei_ a) (hy : y = ei_ b) : x &&& y = ei_ (an_ a b) := by rw [hx, hy]; exact (ei_toInt _).symm
theorem ei_sl {x y : Int32} {a b : Int} (hx : x = ei_ a) (hy : y = ei_ b) : x <<< (y &&& 31) = ei_ (sl_ a b) := by rw [hx, hy]; exact (ei_toInt _).symm
theorem ei_us {x y : Int32} {a b : Int} (hx : x = ei_ a) (hy : y = ei_ b) : (x.toUInt32 >>> (y.toUInt32 &&& Int32.toUInt32 31)).toInt32 = ei_ (us_ a b) := by rw [hx, hy]; exact (ei_toInt _).symm
theorem ei_by {x : Int32} {a : Int} (hx : x = ei_ a) : x.toInt8.toInt32 = ei_ (by_ a) := by rw [hx]; exact (ei_toInt _).symm
theorem ei_sh {x : Int32} {a : Int} (hx : x = ei_ a) : x.toInt16.toInt32 = ei_ (sh_ a) := by rw [hx]; exact (ei_toInt _).symm
theorem ei_l2i {x : Int64} {a : Int} (hx : x = el_ a) : x.toInt32 = ei_ a := by rw [hx]; exact Int64.toInt32_ofInt
theorem el_i2l {x : Int32} {a : Int} (ra : -2147483648 ≤ a ∧ a < 2147483648) (hx : x = ei_ a) : x.toInt64 = el_ a := by
  rw [hx]; exact Int32.toInt64_ofInt ra.1 (Int.le_of_lt_add_one ra.2)
theorem ei_max {x y : Int32} {a b : Int} (ra : -2147483648 ≤ a ∧ a < 2147483648) (rb : -2147483648 ≤ b ∧ b < 2147483648) (hx : x = ei_ a) (hy : y = ei_ b) : (if x < y then y else x) = ei_ (max a b) := by
  subst hx hy
  have e : (ei_ a < ei_ b) ↔ a < b := by rw [Int32.lt_iff_toInt_lt, ei_i ra, ei_i rb]
  by_cases h : a < b
  · rw [if_pos (e.mpr h), Int.max_eq_right (Int.le_of_lt h)]
  · rw [if_neg (fun g => h (e.mp g)), Int.max_eq_left (Int.not_lt.mp h)]
theorem ei_min {x y : Int32} {a b : Int} (ra : -2147483648 ≤ a ∧ a < 2147483648) (rb : -2147483648 ≤ b ∧ b < 2147483648) (hx : x = ei_ a) (hy : y = ei_ b) : (if y < x then y else x) = ei_ (min a b) := by
  subst hx hy
  have e : (ei_ b < ei_ a) ↔ b < a := by rw [Int32.lt_iff_toInt_lt, ei_i ra, ei_i rb]
  by_cases h : b < a
  · rw [if_pos (e.mpr h), Int.min_eq_right (Int.le_of_lt h)]
  · rw [if_neg (fun g => h (e.mp g)), Int.min_eq_left (Int.not_lt.mp h)]
/-! reading what was written -/
theorem vi_ne {m : am_M} {k k' : Nat} {j v i : Int} (h : k' ≠ k) : vi_ (wi_ m k j v) k' i = vi_ m k' i := by
  simp only [vi_, wi_, am_ui, if_neg h]
theorem vi_eq {m : am_M} {k : Nat} {j v : Int} (r : -2147483648 ≤ v ∧ v < 2147483648) : vi_ (wi_ m k j v) k j = v := by
  simp only [vi_, wi_, am_ui, if_true, upd]
  exact ei_i r
theorem vi_up {m : am_M} {k : Nat} {j v i : Int} (r : -2147483648 ≤ v ∧ v < 2147483648) (hj : 0 ≤ j) (hi : 0 ≤ i) : vi_ (wi_ m k j v) k i = if i = j then v else vi_ m k i := by
  by_cases h : i = j
  · subst h; rw [if_pos rfl]; exact vi_eq r
  · rw [if_neg h]
    have : i.toNat ≠ j.toNat := by omega
    simp only [vi_, wi_, am_ui, if_true, upd, if_neg this]
theorem vl_wi {m : am_M} {k k' : Nat} {j v i : Int} : vl_ (wi_ m k j v) k' i = vl_ m k' i := rfl
theorem vi_wl {m : am_M} {k k' : Nat} {j v i : Int} : vi_ (wl_ m k j v) k' i = vi_ m k' i := rfl
theorem vl_ne {m : am_M} {k k' : Nat} {j v i : Int} (h : k' ≠ k) : vl_ (wl_ m k j v) k' i = vl_ m k' i := by
  simp only [vl_, wl_, am_ul, if_neg h]
theorem vl_up {m : am_M} {k : Nat} {j v i : Int} (r : -9223372036854775808 ≤ v ∧ v < 9223372036854775808) (hj : 0 ≤ j) (hi : 0 ≤ i) : vl_ (wl_ m k j v) k i = if i = j then v else vl_ m k i := by
  by_cases h : i = j
  · subst h; rw [if_pos rfl]; simp only [vl_, wl_, am_ul, if_true, vp_updL]; exact el_i r
  · rw [if_neg h]
    have : i.toNat ≠ j.toNat := by omega
    simp only [vl_, wl_, am_ul, if_true, vp_updL, if_neg this]
/-! ### the two words: a frame goes on to an answer of which Q holds; a call does -/
def pw_V (q : am_X) (d : Nat) (rt : Option FieldType) (T : am_T) (Q : Option Value → am_M → Prop) (s : am_S) : Prop := ∃ r m', am_E q d rt T r m' s ∧ Q r m'
def pw_C (q : am_X) (d y : Nat) (args : List Value) (m : am_M) (Q : Option Value → am_M → Prop) : Prop := ∃ r m', am_run q d y args m r m' ∧ Q r m'
theorem pw_mono {q : am_X} {d y : Nat} {args : List Value} {m : am_M} {Q Q' : Option Value → am_M → Prop} (h : pw_C q d y args m Q) (hq : ∀ r m', Q r m' → Q' r m') : pw_C q d y args m Q' := by
  obtain ⟨r, m', h1, h2⟩ := h
  exact ⟨r, m', h1, hq r m' h2⟩
def pz_ (c : ClassFile.Cond) (a : Int) : Prop := match c with
  | .eq => a = 0
  | .ne => ¬ a = 0
  | .lt => a < 0
  | .ge => 0 ≤ a
  | .gt => 0 < a
  | .le => a ≤ 0
def pc_ (c : ClassFile.Cond) (a b : Int) : Prop := match c with
  | .eq => a = b
  | .ne => ¬ a = b
  | .lt => a < b
  | .ge => b ≤ a
  | .gt => b < a
  | .le => a ≤ b
theorem pz_iff {c : ClassFile.Cond} {a : Int} (ra : -2147483648 ≤ a ∧ a < 2147483648) : am_cz c (ei_ a) ↔ pz_ c a := by
  have e := ei_i ra
  have e0 : (0 : Int32).toInt = 0 := rfl
  cases c <;> simp only [am_cz, pz_, Int32.lt_iff_toInt_lt, Int32.le_iff_toInt_le, ← Int32.toInt_inj, e, e0]
theorem pc_iff {c : ClassFile.Cond} {a b : Int} (ra : -2147483648 ≤ a ∧ a < 2147483648) (rb : -2147483648 ≤ b ∧ b < 2147483648) : am_cc c (ei_ a) (ei_ b) ↔ pc_ c a b := by
  have e := ei_i ra
  have e0 := ei_i rb
  cases c <;> simp only [am_cc, pc_, Int32.lt_iff_toInt_lt, Int32.le_iff_toInt_le, ← Int32.toInt_inj, e, e0]
section PwRules
variable {q : am_X} {d : Nat} {rt : Option FieldType} {T : am_T} {Q : Option Value → am_M → Prop} {m : am_M} {pc : Nat} {l : List (Option Value)} {st : List Value} {len : Nat} {cv : Int32} {xs : List Nat}
theorem pw_steps (n : Nat) {s s' : am_S} (h : am_nst q T n s = some s') (k : pw_V q d rt T Q s') : pw_V q d rt T Q s := by
  obtain ⟨r, m', h1, h2⟩ := k
  exact ⟨r, m', am_steps n h h1, h2⟩
theorem pw_cv {s s' : am_S} (h : s = s') (k : pw_V q d rt T Q s') : pw_V q d rt T Q s := by rw [h]; exact k
theorem pw_if {c : ClassFile.Cond} {off : Int} {a : Int} (ha : am_at T pc = some (.ifCond c off, len, xs, cv)) (ra : -2147483648 ≤ a ∧ a < 2147483648) (h1 : pz_ c a → pw_V q d rt T Q (xs.headD 0, l, st, m)) (h2 : ¬ pz_ c a → pw_V q d rt T Q (pc + 3, l, st, m)) : pw_V q d rt T Q (pc, l, .int (ei_ a) :: st, m) := by
  by_cases h : pz_ c a
  · obtain ⟨r, m', k1, k2⟩ := h1 h
    exact ⟨r, m', am_rif ha (fun _ => k1) (fun g => absurd ((pz_iff ra).mpr h) g), k2⟩
  · obtain ⟨r, m', k1, k2⟩ := h2 h
    exact ⟨r, m', am_rif ha (fun g => absurd ((pz_iff ra).mp g) h) (fun _ => k1), k2⟩
theorem pw_ifT {c : ClassFile.Cond} {off : Int} {a : Int} (ha : am_at T pc = some (.ifCond c off, len, xs, cv)) (ra : -2147483648 ≤ a ∧ a < 2147483648) (h : pz_ c a) (h1 : pw_V q d rt T Q (xs.headD 0, l, st, m)) : pw_V q d rt T Q (pc, l, .int (ei_ a) :: st, m) := pw_if ha ra (fun _ => h1) (fun g => absurd h g)
theorem pw_ifF {c : ClassFile.Cond} {off : Int} {a : Int} (ha : am_at T pc = some (.ifCond c off, len, xs, cv)) (ra : -2147483648 ≤ a ∧ a < 2147483648) (h : ¬ pz_ c a) (h1 : pw_V q d rt T Q (pc + 3, l, st, m)) : pw_V q d rt T Q (pc, l, .int (ei_ a) :: st, m) := pw_if ha ra (fun g => absurd g h) (fun _ => h1)
theorem pw_cmp {c : ClassFile.Cond} {off : Int} {a b : Int} (ha : am_at T pc = some (.if_icmp c off, len, xs, cv)) (ra : -2147483648 ≤ a ∧ a < 2147483648) (rb : -2147483648 ≤ b ∧ b < 2147483648) (h1 : pc_ c a b → pw_V q d rt T Q (xs.headD 0, l, st, m)) (h2 : ¬ pc_ c a b → pw_V q d rt T Q (pc + 3, l, st, m)) : pw_V q d rt T Q (pc, l, .int (ei_ b) :: .int (ei_ a) :: st, m) := by
  by_cases h : pc_ c a b
  · obtain ⟨r, m', k1, k2⟩ := h1 h
    exact ⟨r, m', am_rcmp ha (fun _ => k1) (fun g => absurd ((pc_iff ra rb).mpr h) g), k2⟩
  · obtain ⟨r, m', k1, k2⟩ := h2 h
    exact ⟨r, m', am_rcmp ha (fun g => absurd ((pc_iff ra rb).mp g) h) (fun _ => k1), k2⟩
theorem pw_cmpT {c : ClassFile.Cond} {off : Int} {a b : Int} (ha : am_at T pc = some (.if_icmp c off, len, xs, cv)) (ra : -2147483648 ≤ a ∧ a < 2147483648) (rb : -2147483648 ≤ b ∧ b < 2147483648) (h : pc_ c a b) (h1 : pw_V q d rt T Q (xs.headD 0, l, st, m)) : pw_V q d rt T Q (pc, l, .int (ei_ b) :: .int (ei_ a) :: st, m) := pw_cmp ha ra rb (fun _ => h1) (fun g => absurd h g)
theorem pw_cmpF {c : ClassFile.Cond} {off : Int} {a b : Int} (ha : am_at T pc = some (.if_icmp c off, len, xs, cv)) (ra : -2147483648 ≤ a ∧ a < 2147483648) (rb : -2147483648 ≤ b ∧ b < 2147483648) (h : ¬ pc_ c a b) (h1 : pw_V q d rt T Q (pc + 3, l, st, m)) : pw_V q d rt T Q (pc, l, .int (ei_ b) :: .int (ei_ a) :: st, m) := pw_cmp ha ra rb (fun g => absurd g h) (fun _ => h1)
theorem pw_lcmp {c : ClassFile.Cond} {off : Int} {a b : Int} {len2 : Nat} {cv2 : Int32} {xs2 : List Nat} (ha : am_at T pc = some (.lcmp, len2, xs2, cv2)) (hb : am_at T (pc + 1) = some (.ifCond c off, len, xs, cv)) (ra : -9223372036854775808 ≤ a ∧ a < 9223372036854775808) (rb : -9223372036854775808 ≤ b ∧ b < 9223372036854775808) (h1 : pc_ c a b → pw_V q d rt T Q (xs.headD 0, l, st, m)) (h2 : ¬ pc_ c a b → pw_V q d rt T Q (pc + 4, l, st, m)) : pw_V q d rt T Q (pc, l, .long (el_ b) :: .long (el_ a) :: st, m) := by
  have e1 : am_nst q T 1 (pc, l, .long (el_ b) :: .long (el_ a) :: st, m) = some (pc + 1, l, .int (lg_cmp (el_ a) (el_ b)) :: st, m) := by
    simp only [am_nst, am_st1, ha, Option.bind_some, am_step, am_lcmp]
  have ee := el_i ra
  have ef := el_i rb
  have key : am_cz c (lg_cmp (el_ a) (el_ b)) ↔ pc_ c a b := by
    have t : (lg_cmp (el_ a) (el_ b)) = if b < a then 1 else if a = b then 0 else -1 := by
      unfold lg_cmp
      simp only [gt_iff_lt, Int64.lt_iff_toInt_lt, ← Int64.toInt_inj, ee, ef]
    rw [t]
    have c1 : ¬ (1 : Int32) < 0 := by decide
    have c2 : (0 : Int32) ≤ 1 := by decide
    have c3 : ¬ (1 : Int32) ≤ 0 := by decide
    have c4 : (0 : Int32) < 1 := by decide
    have c5 : ¬ (1 : Int32) = 0 := by decide
    have d1 : (-1 : Int32) < 0 := by decide
    have d2 : ¬ (0 : Int32) ≤ -1 := by decide
    have d3 : (-1 : Int32) ≤ 0 := by decide
    have d4 : ¬ (0 : Int32) < -1 := by decide
    have d5 : ¬ (-1 : Int32) = 0 := by decide
    have f1 : ¬ (0 : Int32) < 0 := by decide
    have f2 : (0 : Int32) ≤ 0 := by decide
    rcases Int.lt_trichotomy a b with h | h | h
    · rw [if_neg (by omega), if_neg (by omega)]
      cases c <;> simp only [am_cz, pc_, d1, d2, d3, d4, d5, true_iff, false_iff, not_false_eq_true] <;> omega
    · rw [if_neg (by omega), if_pos h]
      cases c <;> simp only [am_cz, pc_, f1, f2, true_iff, false_iff, not_true] <;> omega
    · rw [if_pos h]
      cases c <;> simp only [am_cz, pc_, c1, c2, c3, c4, c5, true_iff, false_iff, not_false_eq_true] <;> omega
  by_cases h : pc_ c a b
  · obtain ⟨r, m', k1, k2⟩ := h1 h
    exact ⟨r, m', am_steps 1 e1 (am_rif hb (fun _ => k1) (fun g => absurd (key.mpr h) g)), k2⟩
  · obtain ⟨r, m', k1, k2⟩ := h2 h
    exact ⟨r, m', am_steps 1 e1 (am_rif hb (fun g => absurd (key.mp g) h) (fun _ => k1)), k2⟩
theorem pw_get {idx k : Nat} (ha : am_at T pc = some (.getfield idx, len, xs, cv)) (hf : am_fld k (xs.headD 0) (xs.getD 1 0) = some none) (kk : ∀ x : Int, x = (m.1 k (xs.getD 1 0)).toInt → -2147483648 ≤ x → x < 2147483648 → pw_V q d rt T Q (pc + 3, l, .int (ei_ x) :: st, m)) : pw_V q d rt T Q (pc, l, .ref k :: st, m) := by
  refine pw_steps 1 (s' := (pc + 3, l, .int (m.1 k (xs.getD 1 0)) :: st, m)) ?_ ?_
  · simp only [am_nst, am_st1, ha, Option.bind_some, am_step, am_get, hf]
  · have := kk _ rfl (Int32.le_toInt _) (Int32.toInt_lt _)
    rwa [ei_toInt] at this
theorem pw_getE {idx k : Nat} {x : Int} (ha : am_at T pc = some (.getfield idx, len, xs, cv)) (hf : am_fld k (xs.headD 0) (xs.getD 1 0) = some none) (hx : x = (m.1 k (xs.getD 1 0)).toInt) (kk : pw_V q d rt T Q (pc + 3, l, .int (ei_ x) :: st, m)) : pw_V q d rt T Q (pc, l, .ref k :: st, m) := pw_get ha hf (fun x' h _ _ => by rw [h, ← hx]; exact kk)
theorem pw_getR {idx k r : Nat} (ha : am_at T pc = some (.getfield idx, len, xs, cv)) (hf : am_fld k (xs.headD 0) (xs.getD 1 0) = some (some r)) (kk : pw_V q d rt T Q (pc + 3, l, .ref r :: st, m)) : pw_V q d rt T Q (pc, l, .ref k :: st, m) := by
  refine pw_steps 1 ?_ kk
  simp only [am_nst, am_st1, ha, Option.bind_some, am_step, am_get, hf]
theorem pw_put {idx k : Nat} {v : Int} (ha : am_at T pc = some (.putfield idx, len, xs, cv)) (hf : am_fld k (xs.headD 0) (xs.getD 1 0) = some none) (hb : xs.getD 3 0 = 0 ∨ v = 0 ∨ v = 1) (kk : pw_V q d rt T Q (pc + 3, l, st, (am_ui m.1 k (xs.getD 1 0) (ei_ v), m.2))) : pw_V q d rt T Q (pc, l, .int (ei_ v) :: .ref k :: st, m) := by
  refine pw_steps 1 ?_ kk
  have hb' : xs.getD 3 0 = 0 ∨ ei_ v = 0 ∨ ei_ v = 1 := by
    rcases hb with h | h | h
    · exact Or.inl h
    · exact Or.inr (Or.inl (by rw [h]; rfl))
    · exact Or.inr (Or.inr (by rw [h]; rfl))
  simp only [am_nst, am_st1, ha, Option.bind_some, am_step, am_set, hf, if_pos hb']
theorem ei_cl {a : Int} (h0 : 0 ≤ a) (h : a < 2147483648) : (ei_ a).toNatClampNeg = a.toNat := Int32.toNatClampNeg_ofInt_of_le (by omega) h
theorem ei_in {a : Int} {N : Nat} (h0 : 0 ≤ a) (h : a < 2147483648) (hN : a < (N : Int)) : vp_in (ei_ a) N := by
  rw [vp_in_iff, ei_i ⟨by omega, h⟩]; exact ⟨h0, hN⟩
theorem pw_ild {a : Int} {k N : Nat} {f : Nat → Int32} (ha : am_at T pc = some (.iaload, len, xs, cv)) (hk : am_arr q m k = some (N, f)) (hi : 0 ≤ a ∧ a < (N : Int) ∧ a < 2147483648) (kk : ∀ x : Int, x = (f a.toNat).toInt → -2147483648 ≤ x → x < 2147483648 → pw_V q d rt T Q (pc + 1, l, .int (ei_ x) :: st, m)) : pw_V q d rt T Q (pc, l, .int (ei_ a) :: .ref k :: st, m) := by
  obtain ⟨r, m', k1, k2⟩ := kk _ rfl (Int32.le_toInt _) (Int32.toInt_lt _)
  rw [ei_toInt] at k1
  exact ⟨r, m', am_rild ha hk (ei_in hi.1 hi.2.2 hi.2.1) (by rw [ei_cl hi.1 hi.2.2]; exact k1), k2⟩
theorem pw_ildE {a x : Int} {k N : Nat} {f : Nat → Int32} (ha : am_at T pc = some (.iaload, len, xs, cv)) (hk : am_arr q m k = some (N, f)) (hi : 0 ≤ a ∧ a < (N : Int) ∧ a < 2147483648) (hx : x = (f a.toNat).toInt) (kk : pw_V q d rt T Q (pc + 1, l, .int (ei_ x) :: st, m)) : pw_V q d rt T Q (pc, l, .int (ei_ a) :: .ref k :: st, m) := pw_ild ha hk hi (fun x' h _ _ => by rw [h, ← hx]; exact kk)
theorem pw_bld {a : Int} {k N : Nat} (ha : am_at T pc = some (.baload, len, xs, cv)) (hk : am_typ 1 k = some N) (hi : 0 ≤ a ∧ a < (N : Int) ∧ a < 2147483648) (kk : ∀ x : Int, x = (m.1 k a.toNat).toInt → -2147483648 ≤ x → x < 2147483648 → pw_V q d rt T Q (pc + 1, l, .int (ei_ x) :: st, m)) : pw_V q d rt T Q (pc, l, .int (ei_ a) :: .ref k :: st, m) := by
  obtain ⟨r, m', k1, k2⟩ := kk _ rfl (Int32.le_toInt _) (Int32.toInt_lt _)
  rw [ei_toInt] at k1
  exact ⟨r, m', am_rbld ha hk (ei_in hi.1 hi.2.2 hi.2.1) (by rw [ei_cl hi.1 hi.2.2]; exact k1), k2⟩
theorem pw_lld {a : Int} {k N : Nat} (ha : am_at T pc = some (.laload, len, xs, cv)) (hk : am_typ 2 k = some N) (hi : 0 ≤ a ∧ a < (N : Int) ∧ a < 2147483648) (kk : ∀ x : Int, x = (m.2 k a.toNat).toInt → -9223372036854775808 ≤ x → x < 9223372036854775808 → pw_V q d rt T Q (pc + 1, l, .long (el_ x) :: st, m)) : pw_V q d rt T Q (pc, l, .int (ei_ a) :: .ref k :: st, m) := by
  obtain ⟨r, m', k1, k2⟩ := kk _ rfl (Int64.le_toInt _) (Int64.toInt_lt _)
  rw [el_toInt] at k1
  exact ⟨r, m', am_rlld ha hk (ei_in hi.1 hi.2.2 hi.2.1) (by rw [ei_cl hi.1 hi.2.2]; exact k1), k2⟩
theorem pw_ist {a v : Int} {k N : Nat} (ha : am_at T pc = some (.iastore, len, xs, cv)) (hk : am_typ 0 k = some N) (hi : 0 ≤ a ∧ a < (N : Int) ∧ a < 2147483648) (kk : pw_V q d rt T Q (pc + 1, l, st, wi_ m k a v)) : pw_V q d rt T Q (pc, l, .int (ei_ v) :: .int (ei_ a) :: .ref k :: st, m) := by
  obtain ⟨r, m', k1, k2⟩ := kk
  exact ⟨r, m', am_rist ha hk (ei_in hi.1 hi.2.2 hi.2.1) (by rw [ei_cl hi.1 hi.2.2]; exact k1), k2⟩
theorem pw_bst {a v : Int} {k N : Nat} (ha : am_at T pc = some (.bastore, len, xs, cv)) (hk : am_typ 1 k = some N) (hi : 0 ≤ a ∧ a < (N : Int) ∧ a < 2147483648) (hv : v = 0 ∨ v = 1) (kk : pw_V q d rt T Q (pc + 1, l, st, wi_ m k a v)) : pw_V q d rt T Q (pc, l, .int (ei_ v) :: .int (ei_ a) :: .ref k :: st, m) := by
  obtain ⟨r, m', k1, k2⟩ := kk
  refine ⟨r, m', am_rbst ha hk (ei_in hi.1 hi.2.2 hi.2.1) ?_, k2⟩
  have e : vp_nar .boolean (ei_ v) = ei_ v := by rcases hv with h | h <;> rw [h] <;> rfl
  rw [e, ei_cl hi.1 hi.2.2]; exact k1
theorem pw_lst {a v : Int} {k N : Nat} (ha : am_at T pc = some (.lastore, len, xs, cv)) (hk : am_typ 2 k = some N) (hi : 0 ≤ a ∧ a < (N : Int) ∧ a < 2147483648) (kk : pw_V q d rt T Q (pc + 1, l, st, wl_ m k a v)) : pw_V q d rt T Q (pc, l, .long (el_ v) :: .int (ei_ a) :: .ref k :: st, m) := by
  obtain ⟨r, m', k1, k2⟩ := kk
  exact ⟨r, m', am_rlst ha hk (ei_in hi.1 hi.2.2 hi.2.1) (by rw [ei_cl hi.1 hi.2.2]; exact k1), k2⟩
theorem pw_ald {a : Int} {k r0 : Nat} {al : List Nat} (ha : am_at T pc = some (.aaload, len, xs, cv)) (hk : am_sk[k]? = some (.inr (.inr al))) (hi : 0 ≤ a ∧ a < (al.length : Int) ∧ a < 2147483648) (hr : al[a.toNat]? = some r0) (kk : pw_V q d rt T Q (pc + 1, l, .ref r0 :: st, m)) : pw_V q d rt T Q (pc, l, .int (ei_ a) :: .ref k :: st, m) := by
  obtain ⟨r, m', k1, k2⟩ := kk
  exact ⟨r, m', am_rald ha hk (ei_in hi.1 hi.2.2 hi.2.1) (by rw [ei_cl hi.1 hi.2.2]; exact hr) k1, k2⟩
theorem ei_nz {b : Int} (rb : -2147483648 ≤ b ∧ b < 2147483648) (hb : b ≠ 0) : ¬ ei_ b = 0 := fun h => hb (by have := congrArg Int32.toInt h; rwa [ei_i rb] at this)
theorem ei_div {a b : Int} (ra : -2147483648 ≤ a ∧ a < 2147483648) (rb : -2147483648 ≤ b ∧ b < 2147483648) : ei_ a / ei_ b = ei_ (a.tdiv b) := (Int32.ofInt_tdiv ra.1 (Int.le_of_lt_add_one ra.2) rb.1 (Int.le_of_lt_add_one rb.2)).symm
theorem pw_div {a b : Int} (ha : am_at T pc = some (.idiv, len, xs, cv)) (ra : -2147483648 ≤ a ∧ a < 2147483648) (rb : -2147483648 ≤ b ∧ b < 2147483648) (hb : b ≠ 0) (kk : pw_V q d rt T Q (pc + 1, l, .int (ei_ (a.tdiv b)) :: st, m)) : pw_V q d rt T Q (pc, l, .int (ei_ b) :: .int (ei_ a) :: st, m) := by
  obtain ⟨r, m', k1, k2⟩ := kk
  exact ⟨r, m', am_rdiv ha (ei_nz rb hb) (by rw [ei_div ra rb]; exact k1), k2⟩
theorem pw_rem {a b : Int} (ha : am_at T pc = some (.irem, len, xs, cv)) (ra : -2147483648 ≤ a ∧ a < 2147483648) (rb : -2147483648 ≤ b ∧ b < 2147483648) (hb : b ≠ 0) (kk : pw_V q d rt T Q (pc + 1, l, .int (ei_ (a - a.tdiv b * b)) :: st, m)) : pw_V q d rt T Q (pc, l, .int (ei_ b) :: .int (ei_ a) :: st, m) := by
  obtain ⟨r, m', k1, k2⟩ := kk
  refine ⟨r, m', am_rrem ha (ei_nz rb hb) ?_, k2⟩
  rw [ei_div ra rb, ei_sub rfl (ei_mul rfl rfl)]; exact k1
/-- division of one that is not below 0 -/
theorem pw_divN {a b : Int} (ha : am_at T pc = some (.idiv, len, xs, cv)) (ra : 0 ≤ a ∧ a < 2147483648) (rb : 0 < b ∧ b < 2147483648) (kk : pw_V q d rt T Q (pc + 1, l, .int (ei_ (a / b)) :: st, m)) : pw_V q d rt T Q (pc, l, .int (ei_ b) :: .int (ei_ a) :: st, m) :=
  pw_div ha ⟨by omega, ra.2⟩ ⟨by omega, rb.2⟩ (by omega) (by rw [Int.tdiv_eq_ediv_of_nonneg ra.1]; exact kk)
theorem pw_remN {a b : Int} (ha : am_at T pc = some (.irem, len, xs, cv)) (ra : 0 ≤ a ∧ a < 2147483648) (rb : 0 < b ∧ b < 2147483648) (kk : pw_V q d rt T Q (pc + 1, l, .int (ei_ (a % b)) :: st, m)) : pw_V q d rt T Q (pc, l, .int (ei_ b) :: .int (ei_ a) :: st, m) :=
  pw_rem ha ⟨by omega, ra.2⟩ ⟨by omega, rb.2⟩ (by omega) (by
    rw [Int.tdiv_eq_ediv_of_nonneg ra.1, show a - a / b * b = a % b by have := Int.mul_ediv_add_emod a b; rw [Int.mul_comm] at this; omega]; exact kk)
theorem pw_tab {a : Int} {dd lo hi : Int} {offs : Array Int} (i t : Nat) (ha : am_at T pc = some (.tableswitch dd lo hi offs, len, xs, cv)) (ra : -2147483648 ≤ a ∧ a < 2147483648) (hx : a = lo + i) (hh : a ≤ hi) (ht : (xs.drop 1)[i]? = some t) (k : pw_V q d rt T Q (t, l, st, m)) : pw_V q d rt T Q (pc, l, .int (ei_ a) :: st, m) := by
  obtain ⟨r, m', k1, k2⟩ := k
  refine ⟨r, m', am_rtab ha (fun g => ?_) (fun _ => ⟨t, ?_, k1⟩), k2⟩
  · rw [ei_i ra] at g; omega
  · rw [ei_i ra, show (a - lo).toNat = i by omega]; exact ht
theorem pw_tabD {a : Int} {dd lo hi : Int} {offs : Array Int} (ha : am_at T pc = some (.tableswitch dd lo hi offs, len, xs, cv)) (ra : -2147483648 ≤ a ∧ a < 2147483648) (hx : a < lo ∨ hi < a) (k : pw_V q d rt T Q (xs.headD 0, l, st, m)) : pw_V q d rt T Q (pc, l, .int (ei_ a) :: st, m) := by
  obtain ⟨r, m', k1, k2⟩ := k
  exact ⟨r, m', am_rtab ha (fun _ => k1) (fun g => absurd (by rw [ei_i ra]; exact hx) g), k2⟩
theorem pw_look {a : Int} {dd : Int} {ps : Array (Int × Int)} {t : Nat} (ha : am_at T pc = some (.lookupswitch dd ps, len, xs, cv)) (ra : -2147483648 ≤ a ∧ a < 2147483648) (ht : am_lk ps.toList (xs.drop 1) (xs.headD 0) a = some t) (k : pw_V q d rt T Q (t, l, st, m)) : pw_V q d rt T Q (pc, l, .int (ei_ a) :: st, m) := by
  obtain ⟨r, m', k1, k2⟩ := k
  exact ⟨r, m', am_rlook ha (by rw [ei_i ra]; exact ht) k1, k2⟩
theorem pw_call {idx y np k ci pl : Nat} {st0 As : List Value} {o : Nat × List (Option Nat)} (ha : am_at T pc = some (.invokevirtual idx, len, [y, np, ci, pl], cv)) (hst : st0 = As.reverse ++ .ref k :: st) (hn : As.length = np) (hk : am_sk[k]? = some (.inl o)) (ho : o.1 = ci) (hc : am_cs st ≤ 8) (hr : pw_C q d y (.ref k :: As) m (fun r1 m1 => pw_V q d rt T Q (pc + 3, l, r1.toList ++ st, m1))) : pw_V q d rt T Q (pc, l, st0, m) := by
  obtain ⟨r1, m1, h1, r, m', k1, k2⟩ := hr
  exact ⟨r, m', am_rcall ha hst hn hk ho hc h1 k1, k2⟩
theorem pw_callS {idx y np pl : Nat} {st0 As : List Value} (ha : am_at T pc = some (.invokestatic idx, len, [y, np, pl], cv)) (hy : y < 9000) (hst : st0 = As.reverse ++ st) (hn : As.length = np) (hc : am_cs st ≤ 8) (hr : pw_C q d y As m (fun r1 m1 => pw_V q d rt T Q (pc + 3, l, r1.toList ++ st, m1))) : pw_V q d rt T Q (pc, l, st0, m) := by
  obtain ⟨r1, m1, h1, r, m', k1, k2⟩ := hr
  exact ⟨r, m', am_rcallS ha hy hst hn hc h1 k1, k2⟩
/-- a copy between int arrays -/
def cp_ (m : am_M) (a b : Nat) (sp dp n : Int) : am_M := (am_ri m.1 b (va_cpy (m.1 a) (m.1 b) sp.toNat dp.toNat n.toNat), m.2)
def cl_ (m : am_M) (a b : Nat) (sp dp n : Int) : am_M := (m.1, am_rl m.2 b (va_cpy (m.2 a) (m.2 b) sp.toNat dp.toNat n.toNat))
theorem ei_nn {a : Int} (h : 0 ≤ a ∧ a < 2147483648) : ¬ ei_ a < 0 := by
  rw [Int32.lt_iff_toInt_lt, ei_i ⟨by omega, h.2⟩]; exact Int.not_lt.mpr h.1
theorem pw_cpy {idx pl a b na nb : Nat} {sp dp n : Int} (ha : am_at T pc = some (.invokestatic idx, len, [9999, pl], cv)) (hc : am_cs st ≤ 8) (ta : am_typ 0 a = some na) (tb : am_typ 0 b = some nb) (h1 : 0 ≤ sp ∧ 0 ≤ dp ∧ 0 ≤ n ∧ sp + n ≤ na ∧ dp + n ≤ nb ∧ sp < 2147483648 ∧ dp < 2147483648 ∧ n < 2147483648) (kk : pw_V q d rt T Q (pc + 3, l, st, cp_ m a b sp dp n)) : pw_V q d rt T Q (pc, l, .int (ei_ n) :: .int (ei_ dp) :: .ref b :: .int (ei_ sp) :: .ref a :: st, m) := by
  obtain ⟨g1, g2, g3, g4, g5, g6, g7, g8⟩ := h1
  obtain ⟨r, m', k1, k2⟩ := kk
  refine ⟨r, m', am_rcpy ha hc (ei_nn ⟨g1, g6⟩) (ei_nn ⟨g2, g7⟩) (ei_nn ⟨g3, g8⟩) ta tb ?_ ?_ ?_, k2⟩
  · rw [ei_cl g1 g6, ei_cl g3 g8]; omega
  · rw [ei_cl g2 g7, ei_cl g3 g8]; omega
  · rw [ei_cl g1 g6, ei_cl g2 g7, ei_cl g3 g8]; exact k1
theorem pw_cpyL {idx pl a b na nb : Nat} {sp dp n : Int} (ha : am_at T pc = some (.invokestatic idx, len, [9999, pl], cv)) (hc : am_cs st ≤ 8) (ta : am_typ 2 a = some na) (tb : am_typ 2 b = some nb) (h1 : 0 ≤ sp ∧ 0 ≤ dp ∧ 0 ≤ n ∧ sp + n ≤ na ∧ dp + n ≤ nb ∧ sp < 2147483648 ∧ dp < 2147483648 ∧ n < 2147483648) (kk : pw_V q d rt T Q (pc + 3, l, st, cl_ m a b sp dp n)) : pw_V q d rt T Q (pc, l, .int (ei_ n) :: .int (ei_ dp) :: .ref b :: .int (ei_ sp) :: .ref a :: st, m) := by
  obtain ⟨g1, g2, g3, g4, g5, g6, g7, g8⟩ := h1
  obtain ⟨r, m', k1, k2⟩ := kk
  refine ⟨r, m', am_rcpyL ha hc (ei_nn ⟨g1, g6⟩) (ei_nn ⟨g2, g7⟩) (ei_nn ⟨g3, g8⟩) ta tb ?_ ?_ ?_, k2⟩
  · rw [ei_cl g1 g6, ei_cl g3 g8]; omega
  · rw [ei_cl g2 g7, ei_cl g3 g8]; omega
  · rw [ei_cl g1 g6, ei_cl g2 g7, ei_cl g3 g8]; exact k1
theorem pw_iret {v : Int} {ty : FieldType} (ha : am_at T pc = some (.ireturn, len, xs, cv)) (ht : rt = some ty) (hn : narrow ty (.int (ei_ v)) = .int (ei_ v)) (k : Q (some (.int (ei_ v))) m) : pw_V q d rt T Q (pc, l, [.int (ei_ v)], m) := ⟨_, _, am_riret ha rfl rfl ht hn, k⟩
theorem pw_lret {v : Int} (ha : am_at T pc = some (.lreturn, len, xs, cv)) (ht : rt = some .long) (k : Q (some (.long (el_ v))) m) : pw_V q d rt T Q (pc, l, [.long (el_ v)], m) := ⟨_, _, am_rlret ha rfl rfl ht, k⟩
theorem pw_vret (ha : am_at T pc = some (.return_, len, xs, cv)) (ht : rt = none) (k : Q none m) : pw_V q d rt T Q (pc, l, [], m) := ⟨_, _, am_rvret ha rfl rfl ht, k⟩
end PwRules
theorem ei_bool {v : Int} (h : v = 0 ∨ v = 1) : narrow .boolean (.int (ei_ v)) = .int (ei_ v) := by rcases h with h | h <;> rw [h] <;> rfl
theorem pw_intro {q : am_X} {d y : Nat} {args : List Value} {m : am_M} {Q : Option Value → am_M → Prop} {I : am_Mi} {T : am_T} (hI : am_ms[y]? = some I) (hT : am_tb[y]? = some T) (hn : (am_ent I.2.2.1 args).length = I.2.2.1) (h : pw_V q d I.2.2.2.1 T Q (0, am_ent I.2.2.1 args, [], m)) : pw_C q (d + 1) y args m Q := by
  obtain ⟨r, m', h1, h2⟩ := h
  exact ⟨r, m', am_intro hI hT hn h1, h2⟩
/-! shelves -/
def sf_ (a : Int) : Nat := 33 + 2 * a.toNat
def so_ (k : Nat) : Prop := am_fld k 5 0 = some none ∧ am_fld k 5 1 = some none ∧ am_fld k 5 2 = some none ∧ am_fld k 5 3 = some (some (k + 1)) ∧ am_typ 2 (k + 1) = some 60
theorem sf_six {a : Int} (h : 0 ≤ a ∧ a < 6) : a = 0 ∨ a = 1 ∨ a = 2 ∨ a = 3 ∨ a = 4 ∨ a = 5 := by omega
theorem sf_ok {a : Int} (h : 0 ≤ a ∧ a < 6) : so_ (sf_ a) := by
  rcases sf_six h with h | h | h | h | h | h <;> subst h <;> exact ⟨rfl, rfl, rfl, rfl, rfl⟩
theorem sf_sk {a : Int} (h : 0 ≤ a ∧ a < 6) : am_sk[sf_ a]? = some (.inl (5, [none, none, none, some (sf_ a + 1)])) := by
  rcases sf_six h with h | h | h | h | h | h <;> subst h <;> rfl
theorem sf_al {a : Int} (h : 0 ≤ a ∧ a < 6) : ([33, 35, 37, 39, 41, 43] : List Nat)[a.toNat]? = some (sf_ a) := by
  rcases sf_six h with h | h | h | h | h | h <;> subst h <;> rfl
def sc_ (q : am_X) (j : Int) : Int := (q.2 j.toNat).toInt
/-- how many of the first n are v -/
def cn_ (f : Int → Int) (v : Int) : Nat → Int
  | 0 => 0
  | n + 1 => cn_ f v n + (if f n = v then 1 else 0)
theorem cn_s {f : Int → Int} {v k : Int} (h : 0 ≤ k) : cn_ f v (k + 1).toNat = cn_ f v k.toNat + (if f k = v then 1 else 0) := by
  rw [show (k + 1).toNat = k.toNat + 1 by omega]
  simp only [cn_]
  rw [Int.toNat_of_nonneg h]
theorem cn_b (f : Int → Int) (v : Int) : ∀ n, 0 ≤ cn_ f v n ∧ cn_ f v n ≤ n := by
  intro n
  induction n with
  | zero => exact ⟨Int.le_refl _, Int.le_refl _⟩
  | succ n ih =>
    simp only [cn_]
    split <;> omega
