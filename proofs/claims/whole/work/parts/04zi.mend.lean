
/-! ===== mend ===== -/
theorem vi_cp1 {m : am_M} {b : Nat} {j : Int} (h0 : 0 ≤ j) (h : j < 39) : vi_ (cp_ m b b 1 0 39) b j = vi_ m b (j + 1) := by
  simp only [vi_, cp_, am_ri, if_true]
  rw [pk_cpy_in (by omega) (by omega), show (1 : Int).toNat + (j.toNat - (0 : Int).toNat) = (j + 1).toNat by omega]
/-- a number that is told -/
def tl_ (m : am_M) (a b p : Int) : Prop := (0 ≤ b ∧ b ≤ 3 ∧ 0 ≤ a ∧ a < vi_ m 1 1 ∧ p = 8 * b + a) ∨ (4 ≤ b ∧ b ≤ 5 ∧ a = 0 ∧ p = 28 + b)
def ft_ (b v : Int) : Prop := ((b = 0 ∨ b = 2) ∧ 1 ≤ v ∧ v ≤ 9) ∨ (b = 3 ∧ 0 ≤ v ∧ v ≤ 1) ∨ ((b = 1 ∨ b = 4 ∨ b = 5) ∧ 0 ≤ v ∧ v ≤ 9)
def ns_ (d n s : Int) : Prop := (d < 40 ∧ n = d ∧ s = 0) ∨ (d = 40 ∧ n = 39 ∧ s = 1)
theorem tl_u {m : am_M} {a b p r : Int} (h : tl_ m a b p) (g : tl_ m a b r) : r = p := by unfold tl_ at h g; omega
theorem ns_u {d n s n2 s2 : Int} (h : ns_ d n s) (g : ns_ d n2 s2) : n2 = n ∧ s2 = s := by unfold ns_ at h g; omega

def pD25 (k _j : Nat) : Bool := k == 25
def pD26 (k _j : Nat) : Bool := k == 26
def pD27 (k _j : Nat) : Bool := k == 27
def pD28 (k _j : Nat) : Bool := k == 28
set_option maxHeartbeats 4000000 in
set_option maxRecDepth 20000 in
theorem cs_drop25 {q : am_X} {d : Nat} {m : am_M} {Q : Option Value → am_M → Prop}    (k0 : ∀ (m1 : am_M), (sm_ pD25 m m1) → (∀ j, 0 ≤ j → j < 39 → vi_ m1 25 j = vi_ m 25 (j + 1)) → Q none m1) : pw_C q (d + 1) 18 [.ref 25] m Q := by
  refine pw_intro (I := iX1_dropOldest) (T := tX1_dropOldest) rfl rfl rfl ?_
  refine pw_steps 5 (s' := (6, [some (.ref 25)], [.int (ei_ (39)), .int (ei_ (0)), .ref 25, .int (ei_ (1)), .ref 25], m)) rfl ?_
  refine pw_cpy rfl (Nat.le_of_ble_eq_true rfl) rfl rfl (by omega) ?_
  refine pw_vret rfl rfl ?_
  exact k0 (cp_ m 25 25 1 0 39) (by exact sm_cp (fun _ => rfl)) (by intro j a_ b_; exact vi_cp1 a_ b_)

set_option maxHeartbeats 4000000 in
set_option maxRecDepth 20000 in
theorem cs_drop26 {q : am_X} {d : Nat} {m : am_M} {Q : Option Value → am_M → Prop}    (k0 : ∀ (m1 : am_M), (sm_ pD26 m m1) → (∀ j, 0 ≤ j → j < 39 → vi_ m1 26 j = vi_ m 26 (j + 1)) → Q none m1) : pw_C q (d + 1) 18 [.ref 26] m Q := by
  refine pw_intro (I := iX1_dropOldest) (T := tX1_dropOldest) rfl rfl rfl ?_
  refine pw_steps 5 (s' := (6, [some (.ref 26)], [.int (ei_ (39)), .int (ei_ (0)), .ref 26, .int (ei_ (1)), .ref 26], m)) rfl ?_
  refine pw_cpy rfl (Nat.le_of_ble_eq_true rfl) rfl rfl (by omega) ?_
  refine pw_vret rfl rfl ?_
  exact k0 (cp_ m 26 26 1 0 39) (by exact sm_cp (fun _ => rfl)) (by intro j a_ b_; exact vi_cp1 a_ b_)

set_option maxHeartbeats 4000000 in
set_option maxRecDepth 20000 in
theorem cs_drop27 {q : am_X} {d : Nat} {m : am_M} {Q : Option Value → am_M → Prop}    (k0 : ∀ (m1 : am_M), (sm_ pD27 m m1) → (∀ j, 0 ≤ j → j < 39 → vi_ m1 27 j = vi_ m 27 (j + 1)) → Q none m1) : pw_C q (d + 1) 18 [.ref 27] m Q := by
  refine pw_intro (I := iX1_dropOldest) (T := tX1_dropOldest) rfl rfl rfl ?_
  refine pw_steps 5 (s' := (6, [some (.ref 27)], [.int (ei_ (39)), .int (ei_ (0)), .ref 27, .int (ei_ (1)), .ref 27], m)) rfl ?_
  refine pw_cpy rfl (Nat.le_of_ble_eq_true rfl) rfl rfl (by omega) ?_
  refine pw_vret rfl rfl ?_
  exact k0 (cp_ m 27 27 1 0 39) (by exact sm_cp (fun _ => rfl)) (by intro j a_ b_; exact vi_cp1 a_ b_)

set_option maxHeartbeats 4000000 in
set_option maxRecDepth 20000 in
theorem cs_drop28 {q : am_X} {d : Nat} {m : am_M} {Q : Option Value → am_M → Prop}    (k0 : ∀ (m1 : am_M), (sm_ pD28 m m1) → (∀ j, 0 ≤ j → j < 39 → vi_ m1 28 j = vi_ m 28 (j + 1)) → Q none m1) : pw_C q (d + 1) 18 [.ref 28] m Q := by
  refine pw_intro (I := iX1_dropOldest) (T := tX1_dropOldest) rfl rfl rfl ?_
  refine pw_steps 5 (s' := (6, [some (.ref 28)], [.int (ei_ (39)), .int (ei_ (0)), .ref 28, .int (ei_ (1)), .ref 28], m)) rfl ?_
  refine pw_cpy rfl (Nat.le_of_ble_eq_true rfl) rfl rfl (by omega) ?_
  refine pw_vret rfl rfl ?_
  exact k0 (cp_ m 28 28 1 0 39) (by exact sm_cp (fun _ => rfl)) (by intro j a_ b_; exact vi_cp1 a_ b_)

def pCh (k j : Nat) : Bool := k == 25 || k == 26 || k == 27 || k == 28 || (k == 24 && j == 4) || (k == 24 && j == 5)
theorem pD25_Ch : ∀ k j, pCh k j = false → pD25 k j = false := by
  intro k j h
  simp only [pD25, pCh, Bool.or_eq_false_iff, Bool.and_eq_false_iff, beq_eq_false_iff_ne, decide_eq_false_iff_not] at h ⊢
  omega

theorem pD26_Ch : ∀ k j, pCh k j = false → pD26 k j = false := by
  intro k j h
  simp only [pD26, pCh, Bool.or_eq_false_iff, Bool.and_eq_false_iff, beq_eq_false_iff_ne, decide_eq_false_iff_not] at h ⊢
  omega

theorem pD27_Ch : ∀ k j, pCh k j = false → pD27 k j = false := by
  intro k j h
  simp only [pD27, pCh, Bool.or_eq_false_iff, Bool.and_eq_false_iff, beq_eq_false_iff_ne, decide_eq_false_iff_not] at h ⊢
  omega

theorem pD28_Ch : ∀ k j, pCh k j = false → pD28 k j = false := by
  intro k j h
  simp only [pD28, pCh, Bool.or_eq_false_iff, Bool.and_eq_false_iff, beq_eq_false_iff_ne, decide_eq_false_iff_not] at h ⊢
  omega

set_option maxHeartbeats 4000000 in
set_option maxRecDepth 20000 in
theorem cs_chg {q : am_X} {d : Nat} {m : am_M} {Q : Option Value → am_M → Prop} {a : Int} {b : Int} {u : Int} {v : Int}  (p0 : 0 ≤ vi_ m 24 4 ∧ vi_ m 24 4 ≤ 40) (p1 : -2147483648 ≤ a ∧ a < 2147483648) (p2 : -2147483648 ≤ b ∧ b < 2147483648) (p3 : -2147483648 ≤ u ∧ u < 2147483648) (p4 : -2147483648 ≤ v ∧ v < 2147483648) (k0 : ∀ (n : Int) (s : Int) (m1 : am_M), (ns_ (vi_ m 24 4) n s) → (sm_ pCh m m1) → (vi_ m1 24 4 = n + 1) → (vi_ m1 24 5 = n + 1) → (∀ j, 0 ≤ j → j < n → vi_ m1 25 j = vi_ m 25 (j + s)) → (vi_ m1 25 n = a) → (∀ j, 0 ≤ j → j < n → vi_ m1 26 j = vi_ m 26 (j + s)) → (vi_ m1 26 n = b) → (∀ j, 0 ≤ j → j < n → vi_ m1 27 j = vi_ m 27 (j + s)) → (vi_ m1 27 n = u) → (∀ j, 0 ≤ j → j < n → vi_ m1 28 j = vi_ m 28 (j + s)) → (vi_ m1 28 n = v) → Q none m1) : pw_C q (d + 3) 17 [.ref 24, .int (ei_ (a)), .int (ei_ (b)), .int (ei_ (u)), .int (ei_ (v))] m Q := by
  refine pw_intro (I := iX1_add) (T := tX1_add) rfl rfl rfl ?_
  refine pw_steps 1 (s' := (1, [some (.ref 24), some (.int (ei_ (a))), some (.int (ei_ (b))), some (.int (ei_ (u))), some (.int (ei_ (v)))], [.ref 24], m)) rfl ?_
  refine pw_get rfl rfl (fun x1 (hx1 : x1 = vi_ m 24 4) rx1 sx1 => ?_)
  refine pw_steps 1 (s' := (6, [some (.ref 24), some (.int (ei_ (a))), some (.int (ei_ (b))), some (.int (ei_ (u))), some (.int (ei_ (v)))], [.int (ei_ (40)), .int (ei_ (x1))], m)) rfl ?_
  refine pw_cmp rfl ⟨rx1, sx1⟩ (by decide) (fun (h2 : x1 < 40) => ?_) (fun (h2 : ¬ (x1 < 40)) => ?_)
  · refine pw_steps 3 (s' := (48, [some (.ref 24), some (.int (ei_ (a))), some (.int (ei_ (b))), some (.int (ei_ (u))), some (.int (ei_ (v)))], [.ref 24, .ref 25], m)) rfl ?_
    refine pw_getE (x := x1) rfl rfl hx1 ?_
    refine pw_steps 1 (s' := (52, [some (.ref 24), some (.int (ei_ (a))), some (.int (ei_ (b))), some (.int (ei_ (u))), some (.int (ei_ (v)))], [.int (ei_ (a)), .int (ei_ (x1)), .ref 25], m)) rfl ?_
    refine pw_ist rfl rfl (by omega) ?_
    refine pw_steps 3 (s' := (58, [some (.ref 24), some (.int (ei_ (a))), some (.int (ei_ (b))), some (.int (ei_ (u))), some (.int (ei_ (v)))], [.ref 24, .ref 26], wi_ m 25 (x1) (a))) rfl ?_
    refine pw_getE (x := x1) rfl rfl hx1 ?_
    refine pw_steps 1 (s' := (62, [some (.ref 24), some (.int (ei_ (a))), some (.int (ei_ (b))), some (.int (ei_ (u))), some (.int (ei_ (v)))], [.int (ei_ (b)), .int (ei_ (x1)), .ref 26], wi_ m 25 (x1) (a))) rfl ?_
    refine pw_ist rfl rfl (by omega) ?_
    refine pw_steps 3 (s' := (68, [some (.ref 24), some (.int (ei_ (a))), some (.int (ei_ (b))), some (.int (ei_ (u))), some (.int (ei_ (v)))], [.ref 24, .ref 27], wi_ (wi_ m 25 (x1) (a)) 26 (x1) (b))) rfl ?_
    refine pw_getE (x := x1) rfl rfl hx1 ?_
    refine pw_steps 1 (s' := (72, [some (.ref 24), some (.int (ei_ (a))), some (.int (ei_ (b))), some (.int (ei_ (u))), some (.int (ei_ (v)))], [.int (ei_ (u)), .int (ei_ (x1)), .ref 27], wi_ (wi_ m 25 (x1) (a)) 26 (x1) (b))) rfl ?_
    refine pw_ist rfl rfl (by omega) ?_
    refine pw_steps 3 (s' := (78, [some (.ref 24), some (.int (ei_ (a))), some (.int (ei_ (b))), some (.int (ei_ (u))), some (.int (ei_ (v)))], [.ref 24, .ref 28], wi_ (wi_ (wi_ m 25 (x1) (a)) 26 (x1) (b)) 27 (x1) (u))) rfl ?_
    refine pw_getE (x := x1) rfl rfl hx1 ?_
    refine pw_steps 1 (s' := (83, [some (.ref 24), some (.int (ei_ (a))), some (.int (ei_ (b))), some (.int (ei_ (u))), some (.int (ei_ (v)))], [.int (ei_ (v)), .int (ei_ (x1)), .ref 28], wi_ (wi_ (wi_ m 25 (x1) (a)) 26 (x1) (b)) 27 (x1) (u))) rfl ?_
    refine pw_ist rfl rfl (by omega) ?_
    refine pw_steps 2 (s' := (86, [some (.ref 24), some (.int (ei_ (a))), some (.int (ei_ (b))), some (.int (ei_ (u))), some (.int (ei_ (v)))], [.ref 24, .ref 24], wi_ (wi_ (wi_ (wi_ m 25 (x1) (a)) 26 (x1) (b)) 27 (x1) (u)) 28 (x1) (v))) rfl ?_
    refine pw_getE (x := x1) rfl rfl hx1 ?_
    refine pw_steps 2 (s' := (91, [some (.ref 24), some (.int (ei_ (a))), some (.int (ei_ (b))), some (.int (ei_ (u))), some (.int (ei_ (v)))], [.int ((ei_ (x1)) + (ei_ (1))), .ref 24], wi_ (wi_ (wi_ (wi_ m 25 (x1) (a)) 26 (x1) (b)) 27 (x1) (u)) 28 (x1) (v))) rfl ?_
    refine pw_cv (congrArg (fun z_ : Int32 => ((91, [some (.ref 24), some (.int (ei_ (a))), some (.int (ei_ (b))), some (.int (ei_ (u))), some (.int (ei_ (v)))], [.int z_, .ref 24], wi_ (wi_ (wi_ (wi_ m 25 (x1) (a)) 26 (x1) (b)) 27 (x1) (u)) 28 (x1) (v)) : am_S)) (ei_add rfl rfl)) ?_
    refine pw_put (v := (x1 + 1)) rfl rfl (Or.inl rfl) ?_
    refine pw_cv (s' := (94, [some (.ref 24), some (.int (ei_ (a))), some (.int (ei_ (b))), some (.int (ei_ (u))), some (.int (ei_ (v)))], [], wi_ (wi_ (wi_ (wi_ (wi_ m 25 (x1) (a)) 26 (x1) (b)) 27 (x1) (u)) 28 (x1) (v)) 24 (4) ((x1 + 1)))) rfl ?_
    refine pw_steps 3 (s' := (99, [some (.ref 24), some (.int (ei_ (a))), some (.int (ei_ (b))), some (.int (ei_ (u))), some (.int (ei_ (v)))], [.int (ei_ ((x1 + 1))), .ref 24], wi_ (wi_ (wi_ (wi_ (wi_ m 25 (x1) (a)) 26 (x1) (b)) 27 (x1) (u)) 28 (x1) (v)) 24 (4) ((x1 + 1)))) rfl ?_
    refine pw_put (v := (x1 + 1)) rfl rfl (Or.inl rfl) ?_
    refine pw_cv (s' := (102, [some (.ref 24), some (.int (ei_ (a))), some (.int (ei_ (b))), some (.int (ei_ (u))), some (.int (ei_ (v)))], [], wi_ (wi_ (wi_ (wi_ (wi_ (wi_ m 25 (x1) (a)) 26 (x1) (b)) 27 (x1) (u)) 28 (x1) (v)) 24 (4) ((x1 + 1))) 24 (5) ((x1 + 1)))) rfl ?_
    refine pw_vret rfl rfl ?_
    exact k0 x1 0 (wi_ (wi_ (wi_ (wi_ (wi_ (wi_ m 25 (x1) (a)) 26 (x1) (b)) 27 (x1) (u)) 28 (x1) (v)) 24 (4) ((x1 + 1))) 24 (5) ((x1 + 1))) (by unfold ns_; omega) ((sm_w (sm_w (sm_w (sm_w (sm_w (sm_w (sm_rfl m) (fun _ h_ => by rw [h_]; rfl)) (fun _ h_ => by rw [h_]; rfl)) (fun _ h_ => by rw [h_]; rfl)) (fun _ h_ => by rw [h_]; rfl)) (fun _ h_ => by rw [h_]; rfl)) (fun _ h_ => by rw [h_]; rfl))) (((ei_i (by omega))).trans (by omega)) (((ei_i (by omega))).trans (by omega)) (by intro j a_ b_; (simp (disch := omega) only [vi_up, vi_ne]); rw [if_neg (by omega), Int.add_zero]) (by (simp (disch := omega) only [vi_up, vi_ne, if_true, eq_self])) (by intro j a_ b_; (simp (disch := omega) only [vi_up, vi_ne]); rw [if_neg (by omega), Int.add_zero]) (by (simp (disch := omega) only [vi_up, vi_ne, if_true, eq_self])) (by intro j a_ b_; (simp (disch := omega) only [vi_up, vi_ne]); rw [if_neg (by omega), Int.add_zero]) (by (simp (disch := omega) only [vi_up, vi_ne, if_true, eq_self])) (by intro j a_ b_; (simp (disch := omega) only [vi_up, vi_ne]); rw [if_neg (by omega), Int.add_zero]) (by (simp (disch := omega) only [vi_up, vi_ne, if_true, eq_self]))
  · refine pw_steps 2 (s' := (13, [some (.ref 24), some (.int (ei_ (a))), some (.int (ei_ (b))), some (.int (ei_ (u))), some (.int (ei_ (v)))], [.ref 25], m)) rfl ?_
    refine pw_callS (As := [.ref 25]) (st := []) rfl (by decide) rfl rfl (Nat.le_of_ble_eq_true rfl) ?_
    refine cs_drop25  (fun m13 g4 g5 => ?_)
    refine pw_steps 2 (s' := (20, [some (.ref 24), some (.int (ei_ (a))), some (.int (ei_ (b))), some (.int (ei_ (u))), some (.int (ei_ (v)))], [.ref 26], m13)) rfl ?_
    refine pw_callS (As := [.ref 26]) (st := []) rfl (by decide) rfl rfl (Nat.le_of_ble_eq_true rfl) ?_
    refine cs_drop26  (fun m16 g7 g8 => ?_)
    refine pw_steps 2 (s' := (27, [some (.ref 24), some (.int (ei_ (a))), some (.int (ei_ (b))), some (.int (ei_ (u))), some (.int (ei_ (v)))], [.ref 27], m16)) rfl ?_
    refine pw_callS (As := [.ref 27]) (st := []) rfl (by decide) rfl rfl (Nat.le_of_ble_eq_true rfl) ?_
    refine cs_drop27  (fun m19 g10 g11 => ?_)
    refine pw_steps 2 (s' := (34, [some (.ref 24), some (.int (ei_ (a))), some (.int (ei_ (b))), some (.int (ei_ (u))), some (.int (ei_ (v)))], [.ref 28], m19)) rfl ?_
    refine pw_callS (As := [.ref 28]) (st := []) rfl (by decide) rfl rfl (Nat.le_of_ble_eq_true rfl) ?_
    refine cs_drop28  (fun m112 g13 g14 => ?_)
    refine pw_steps 2 (s' := (40, [some (.ref 24), some (.int (ei_ (a))), some (.int (ei_ (b))), some (.int (ei_ (u))), some (.int (ei_ (v)))], [.int (ei_ (39)), .ref 24], m112)) rfl ?_
    refine pw_put (v := 39) rfl rfl (Or.inl rfl) ?_
    refine pw_cv (s' := (43, [some (.ref 24), some (.int (ei_ (a))), some (.int (ei_ (b))), some (.int (ei_ (u))), some (.int (ei_ (v)))], [], wi_ m112 24 (4) (39))) rfl ?_
    refine pw_steps 5 (s' := (52, [some (.ref 24), some (.int (ei_ (a))), some (.int (ei_ (b))), some (.int (ei_ (u))), some (.int (ei_ (v)))], [.int (ei_ (a)), .int (ei_ (39)), .ref 25], wi_ m112 24 (4) (39))) rfl ?_
    refine pw_ist rfl rfl (by omega) ?_
    refine pw_steps 5 (s' := (62, [some (.ref 24), some (.int (ei_ (a))), some (.int (ei_ (b))), some (.int (ei_ (u))), some (.int (ei_ (v)))], [.int (ei_ (b)), .int (ei_ (39)), .ref 26], wi_ (wi_ m112 24 (4) (39)) 25 (39) (a))) rfl ?_
    refine pw_ist rfl rfl (by omega) ?_
    refine pw_steps 5 (s' := (72, [some (.ref 24), some (.int (ei_ (a))), some (.int (ei_ (b))), some (.int (ei_ (u))), some (.int (ei_ (v)))], [.int (ei_ (u)), .int (ei_ (39)), .ref 27], wi_ (wi_ (wi_ m112 24 (4) (39)) 25 (39) (a)) 26 (39) (b))) rfl ?_
    refine pw_ist rfl rfl (by omega) ?_
    refine pw_steps 5 (s' := (83, [some (.ref 24), some (.int (ei_ (a))), some (.int (ei_ (b))), some (.int (ei_ (u))), some (.int (ei_ (v)))], [.int (ei_ (v)), .int (ei_ (39)), .ref 28], wi_ (wi_ (wi_ (wi_ m112 24 (4) (39)) 25 (39) (a)) 26 (39) (b)) 27 (39) (u))) rfl ?_
    refine pw_ist rfl rfl (by omega) ?_
    refine pw_steps 5 (s' := (91, [some (.ref 24), some (.int (ei_ (a))), some (.int (ei_ (b))), some (.int (ei_ (u))), some (.int (ei_ (v)))], [.int ((ei_ (39)) + (ei_ (1))), .ref 24], wi_ (wi_ (wi_ (wi_ (wi_ m112 24 (4) (39)) 25 (39) (a)) 26 (39) (b)) 27 (39) (u)) 28 (39) (v))) rfl ?_
    refine pw_cv (congrArg (fun z_ : Int32 => ((91, [some (.ref 24), some (.int (ei_ (a))), some (.int (ei_ (b))), some (.int (ei_ (u))), some (.int (ei_ (v)))], [.int z_, .ref 24], wi_ (wi_ (wi_ (wi_ (wi_ m112 24 (4) (39)) 25 (39) (a)) 26 (39) (b)) 27 (39) (u)) 28 (39) (v)) : am_S)) (ei_add rfl rfl)) ?_
    refine pw_put (v := 40) rfl rfl (Or.inl rfl) ?_
    refine pw_cv (s' := (94, [some (.ref 24), some (.int (ei_ (a))), some (.int (ei_ (b))), some (.int (ei_ (u))), some (.int (ei_ (v)))], [], wi_ (wi_ (wi_ (wi_ (wi_ (wi_ m112 24 (4) (39)) 25 (39) (a)) 26 (39) (b)) 27 (39) (u)) 28 (39) (v)) 24 (4) (40))) rfl ?_
    refine pw_steps 3 (s' := (99, [some (.ref 24), some (.int (ei_ (a))), some (.int (ei_ (b))), some (.int (ei_ (u))), some (.int (ei_ (v)))], [.int (ei_ (40)), .ref 24], wi_ (wi_ (wi_ (wi_ (wi_ (wi_ m112 24 (4) (39)) 25 (39) (a)) 26 (39) (b)) 27 (39) (u)) 28 (39) (v)) 24 (4) (40))) rfl ?_
    refine pw_put (v := 40) rfl rfl (Or.inl rfl) ?_
    refine pw_cv (s' := (102, [some (.ref 24), some (.int (ei_ (a))), some (.int (ei_ (b))), some (.int (ei_ (u))), some (.int (ei_ (v)))], [], wi_ (wi_ (wi_ (wi_ (wi_ (wi_ (wi_ m112 24 (4) (39)) 25 (39) (a)) 26 (39) (b)) 27 (39) (u)) 28 (39) (v)) 24 (4) (40)) 24 (5) (40))) rfl ?_
    refine pw_vret rfl rfl ?_
    exact k0 39 1 (wi_ (wi_ (wi_ (wi_ (wi_ (wi_ (wi_ m112 24 (4) (39)) 25 (39) (a)) 26 (39) (b)) 27 (39) (u)) 28 (39) (v)) 24 (4) (40)) 24 (5) (40)) (by unfold ns_; omega) ((sm_w (sm_w (sm_w (sm_w (sm_w (sm_w (sm_w (sm_tr (sm_tr (sm_tr (sm_le g4 pD25_Ch) (sm_le g7 pD26_Ch)) (sm_le g10 pD27_Ch)) (sm_le g13 pD28_Ch)) (fun _ h_ => by rw [h_]; rfl)) (fun _ h_ => by rw [h_]; rfl)) (fun _ h_ => by rw [h_]; rfl)) (fun _ h_ => by rw [h_]; rfl)) (fun _ h_ => by rw [h_]; rfl)) (fun _ h_ => by rw [h_]; rfl)) (fun _ h_ => by rw [h_]; rfl))) (((ei_i (by omega))).trans (by omega)) (((ei_i (by omega))).trans (by omega)) (by intro j a_ b_; (simp (disch := omega) only [vi_up, vi_ne]); rw [if_neg (by omega), sm_f g13 (k := 25) (fun _ => rfl), sm_f g10 (k := 25) (fun _ => rfl), sm_f g7 (k := 25) (fun _ => rfl), g5 j a_ (by omega)]) (by (simp (disch := omega) only [vi_up, vi_ne, if_true, eq_self])) (by intro j a_ b_; (simp (disch := omega) only [vi_up, vi_ne]); rw [if_neg (by omega), sm_f g13 (k := 26) (fun _ => rfl), sm_f g10 (k := 26) (fun _ => rfl), g8 j a_ (by omega), sm_f g4 (k := 26) (fun _ => rfl)]) (by (simp (disch := omega) only [vi_up, vi_ne, if_true, eq_self])) (by intro j a_ b_; (simp (disch := omega) only [vi_up, vi_ne]); rw [if_neg (by omega), sm_f g13 (k := 27) (fun _ => rfl), g11 j a_ (by omega), sm_f g7 (k := 27) (fun _ => rfl), sm_f g4 (k := 27) (fun _ => rfl)]) (by (simp (disch := omega) only [vi_up, vi_ne, if_true, eq_self])) (by intro j a_ b_; (simp (disch := omega) only [vi_up, vi_ne]); rw [if_neg (by omega), g14 j a_ (by omega), sm_f g10 (k := 28) (fun _ => rfl), sm_f g7 (k := 28) (fun _ => rfl), sm_f g4 (k := 28) (fun _ => rfl)]) (by (simp (disch := omega) only [vi_up, vi_ne, if_true, eq_self]))

def pMc (k j : Nat) : Bool := k == 2 || k == 25 || k == 26 || k == 27 || k == 28 || (k == 24 && j == 4) || (k == 24 && j == 5)
theorem pCh_Mc : ∀ k j, pMc k j = false → pCh k j = false := by
  intro k j h
  simp only [pCh, pMc, Bool.or_eq_false_iff, Bool.and_eq_false_iff, beq_eq_false_iff_ne, decide_eq_false_iff_not] at h ⊢
  omega

set_option maxHeartbeats 4000000 in
set_option maxRecDepth 20000 in
theorem cs_mend {q : am_X} {d : Nat} {m : am_M} {Q : Option Value → am_M → Prop} {a : Int} {b : Int} {v : Int}  (p0 : rP_ m) (p1 : 0 ≤ vi_ m 24 4 ∧ vi_ m 24 4 ≤ 40) (p2 : -2147483648 ≤ a ∧ a < 2147483648) (p3 : -2147483648 ≤ b ∧ b < 2147483648) (p4 : -2147483648 ≤ v ∧ v < 2147483648) (k0 : (¬ (((0 ≤ b ∧ b ≤ 3 ∧ 0 ≤ a ∧ a < vi_ m 1 1) ∨ (4 ≤ b ∧ b ≤ 5 ∧ a = 0)) ∧ (((b = 0 ∨ b = 2) ∧ 1 ≤ v ∧ v ≤ 9) ∨ (b = 3 ∧ 0 ≤ v ∧ v ≤ 1) ∨ ((b = 1 ∨ b = 4 ∨ b = 5) ∧ 0 ≤ v ∧ v ≤ 9)))) → Q (some (.int (ei_ ((-1))))) m) (k1 : ∀ (p : Int), (((b = 0 ∨ b = 2) ∧ 1 ≤ v ∧ v ≤ 9) ∨ (b = 3 ∧ 0 ≤ v ∧ v ≤ 1) ∨ ((b = 1 ∨ b = 4 ∨ b = 5) ∧ 0 ≤ v ∧ v ≤ 9)) → (tl_ m a b p) → (vi_ m 2 p = v) → Q (some (.int (ei_ (v)))) m) (k2 : ∀ (x : Int) (p : Int) (n : Int) (s : Int) (m1 : am_M), (((b = 0 ∨ b = 2) ∧ 1 ≤ v ∧ v ≤ 9) ∨ (b = 3 ∧ 0 ≤ v ∧ v ≤ 1) ∨ ((b = 1 ∨ b = 4 ∨ b = 5) ∧ 0 ≤ v ∧ v ≤ 9)) → (tl_ m a b p) → (x = vi_ m 2 p) → (¬ x = v) → (ns_ (vi_ m 24 4) n s) → (sm_ pMc m m1) → (∀ j, 0 ≤ j → vi_ m1 2 j = if j = p then v else vi_ m 2 j) → (vi_ m1 24 4 = n + 1) → (vi_ m1 24 5 = n + 1) → (∀ j, 0 ≤ j → j < n → vi_ m1 25 j = vi_ m 25 (j + s)) → (vi_ m1 25 n = a) → (∀ j, 0 ≤ j → j < n → vi_ m1 26 j = vi_ m 26 (j + s)) → (vi_ m1 26 n = b) → (∀ j, 0 ≤ j → j < n → vi_ m1 27 j = vi_ m 27 (j + s)) → (vi_ m1 27 n = x) → (∀ j, 0 ≤ j → j < n → vi_ m1 28 j = vi_ m 28 (j + s)) → (vi_ m1 28 n = v) → Q (some (.int (ei_ (x)))) m1) : pw_C q (d + 60) 15 [.ref 0, .int (ei_ (a)), .int (ei_ (b)), .int (ei_ (v))] m Q := by
  obtain ⟨hP1, hP2, hP3, hP4⟩ := id p0
  refine pw_intro (I := iX8_mend) (T := tX8_mend) rfl rfl rfl ?_
  rcases (show b < 0 ∨ b = 0 ∨ b = 1 ∨ b = 2 ∨ b = 3 ∨ b = 4 ∨ b = 5 ∨ 5 < b by omega) with h1 | h1 | h1 | h1 | h1 | h1 | h1 | h1
  · refine pw_steps 4 (s' := (6, [some (.ref 0), some (.int (ei_ (a))), some (.int (ei_ (b))), some (.int (ei_ (v))), none], [.int (ei_ (b)), .int (ei_ (a)), .ref 1], m)) rfl ?_
    refine pw_call (As := [.int (ei_ (a)), .int (ei_ (b))]) (st := []) (k := 1) rfl rfl rfl rfl rfl (Nat.le_of_ble_eq_true rfl) ?_
    refine pw_intro (I := iX3_tells) (T := tX3_tells) rfl rfl rfl ?_
    refine pw_steps 1 (s' := (1, [some (.ref 1), some (.int (ei_ (a))), some (.int (ei_ (b)))], [.int (ei_ (b))], m)) rfl ?_
    refine pw_ifT rfl p3 (show b < 0 by omega) ?_
    refine pw_steps 1 (s' := (10, [some (.ref 1), some (.int (ei_ (a))), some (.int (ei_ (b)))], [.int (ei_ (0))], m)) rfl ?_
    refine pw_iret rfl rfl rfl ?_
    refine pw_ifT rfl (by decide) (show 0 = 0 by decide) ?_
    refine pw_steps 1 (s' := (21, [some (.ref 0), some (.int (ei_ (a))), some (.int (ei_ (b))), some (.int (ei_ (v))), none], [.int (ei_ ((-1)))], m)) rfl ?_
    refine pw_iret rfl rfl rfl ?_
    exact k0 (by omega)
  · subst h1
    refine pw_steps 4 (s' := (6, [some (.ref 0), some (.int (ei_ (a))), some (.int (ei_ (0))), some (.int (ei_ (v))), none], [.int (ei_ (0)), .int (ei_ (a)), .ref 1], m)) rfl ?_
    refine pw_call (As := [.int (ei_ (a)), .int (ei_ (0))]) (st := []) (k := 1) rfl rfl rfl rfl rfl (Nat.le_of_ble_eq_true rfl) ?_
    refine pw_intro (I := iX3_tells) (T := tX3_tells) rfl rfl rfl ?_
    refine pw_steps 1 (s' := (1, [some (.ref 1), some (.int (ei_ (a))), some (.int (ei_ (0)))], [.int (ei_ (0))], m)) rfl ?_
    refine pw_ifF rfl (by decide) (show ¬ (0 < 0) by decide) ?_
    refine pw_steps 2 (s' := (6, [some (.ref 1), some (.int (ei_ (a))), some (.int (ei_ (0)))], [.int (ei_ (5)), .int (ei_ (0))], m)) rfl ?_
    refine pw_cmpT rfl (by decide) (by decide) (show 0 ≤ 5 by decide) ?_
    refine pw_steps 2 (s' := (13, [some (.ref 1), some (.int (ei_ (a))), some (.int (ei_ (0)))], [.int (ei_ (4)), .int (ei_ (0))], m)) rfl ?_
    refine pw_cmpF rfl (by decide) (by decide) (show ¬ (4 ≤ 0) by decide) ?_
    refine pw_steps 2 (s' := (18, [some (.ref 1), some (.int (ei_ (a))), some (.int (ei_ (0)))], [.int (ei_ (a)), .ref 1], m)) rfl ?_
    refine pw_call (As := [.int (ei_ (a))]) (st := []) (k := 1) rfl rfl rfl rfl rfl (Nat.le_of_ble_eq_true rfl) ?_
    refine pw_intro (I := iX3_has) (T := tX3_has) rfl rfl rfl ?_
    refine pw_steps 1 (s' := (1, [some (.ref 1), some (.int (ei_ (a)))], [.int (ei_ (a))], m)) rfl ?_
    refine pw_if rfl p2 (fun (h2 : a < 0) => ?_) (fun (h2 : ¬ (a < 0)) => ?_)
    · refine pw_steps 1 (s' := (17, [some (.ref 1), some (.int (ei_ (a)))], [.int (ei_ (0))], m)) rfl ?_
      refine pw_iret rfl rfl rfl ?_
      refine pw_steps 1 (s' := (33, [some (.ref 1), some (.int (ei_ (a))), some (.int (ei_ (0)))], [.int (ei_ (0))], m)) rfl ?_
      refine pw_iret rfl rfl rfl ?_
      refine pw_ifT rfl (by decide) (show 0 = 0 by decide) ?_
      refine pw_steps 1 (s' := (21, [some (.ref 0), some (.int (ei_ (a))), some (.int (ei_ (0))), some (.int (ei_ (v))), none], [.int (ei_ ((-1)))], m)) rfl ?_
      refine pw_iret rfl rfl rfl ?_
      exact k0 (by omega)
    · refine pw_steps 2 (s' := (6, [some (.ref 1), some (.int (ei_ (a)))], [.ref 1, .int (ei_ (a))], m)) rfl ?_
      refine pw_get rfl rfl (fun x3 (hx3 : x3 = vi_ m 1 1) rx3 sx3 => ?_)
      refine pw_cmp rfl p2 ⟨rx3, sx3⟩ (fun (h4 : x3 ≤ a) => ?_) (fun (h4 : ¬ (x3 ≤ a)) => ?_)
      · refine pw_steps 1 (s' := (17, [some (.ref 1), some (.int (ei_ (a)))], [.int (ei_ (0))], m)) rfl ?_
        refine pw_iret rfl rfl rfl ?_
        refine pw_steps 1 (s' := (33, [some (.ref 1), some (.int (ei_ (a))), some (.int (ei_ (0)))], [.int (ei_ (0))], m)) rfl ?_
        refine pw_iret rfl rfl rfl ?_
        refine pw_ifT rfl (by decide) (show 0 = 0 by decide) ?_
        refine pw_steps 1 (s' := (21, [some (.ref 0), some (.int (ei_ (a))), some (.int (ei_ (0))), some (.int (ei_ (v))), none], [.int (ei_ ((-1)))], m)) rfl ?_
        refine pw_iret rfl rfl rfl ?_
        exact k0 (by omega)
      · refine pw_steps 2 (s' := (17, [some (.ref 1), some (.int (ei_ (a)))], [.int (ei_ (1))], m)) rfl ?_
        refine pw_iret rfl rfl rfl ?_
        refine pw_steps 1 (s' := (33, [some (.ref 1), some (.int (ei_ (a))), some (.int (ei_ (0)))], [.int (ei_ (1))], m)) rfl ?_
        refine pw_iret rfl rfl rfl ?_
        refine pw_ifF rfl (by decide) (show ¬ (1 = 0) by decide) ?_
        refine pw_steps 2 (s' := (14, [some (.ref 0), some (.int (ei_ (a))), some (.int (ei_ (0))), some (.int (ei_ (v))), none], [.int (ei_ (v)), .int (ei_ (0))], m)) rfl ?_
        refine pw_callS (As := [.int (ei_ (0)), .int (ei_ (v))]) (st := []) rfl (by decide) rfl rfl (Nat.le_of_ble_eq_true rfl) ?_
        refine pw_intro (I := iX3_fits) (T := tX3_fits) rfl rfl rfl ?_
        refine pw_steps 1 (s' := (1, [some (.int (ei_ (0))), some (.int (ei_ (v)))], [.int (ei_ (0))], m)) rfl ?_
        refine pw_ifF rfl (by decide) (show ¬ (0 < 0) by decide) ?_
        refine pw_steps 3 (s' := (9, [some (.int (ei_ (0))), some (.int (ei_ (v)))], [.int (ei_ (6)), .int (ei_ (0))], m)) rfl ?_
        refine pw_cmpF rfl (by decide) (by decide) (show ¬ (6 ≤ 0) by decide) ?_
        refine pw_steps 3 (s' := (17, [some (.int (ei_ (0))), some (.int (ei_ (v)))], [.int (ei_ (0)), .ref 1001, .int (ei_ (v))], m)) rfl ?_
        refine pw_ildE (x := 1) rfl rfl (by decide) (by decide) ?_
        refine pw_cmp rfl p4 (by decide) (fun (h5 : v < 1) => ?_) (fun (h5 : ¬ (v < 1)) => ?_)
        · refine pw_steps 1 (s' := (35, [some (.int (ei_ (0))), some (.int (ei_ (v)))], [.int (ei_ (0))], m)) rfl ?_
          refine pw_iret rfl rfl rfl ?_
          refine pw_ifF rfl (by decide) (show ¬ (¬ 0 = 0) by decide) ?_
          refine pw_steps 1 (s' := (21, [some (.ref 0), some (.int (ei_ (a))), some (.int (ei_ (0))), some (.int (ei_ (v))), none], [.int (ei_ ((-1)))], m)) rfl ?_
          refine pw_iret rfl rfl rfl ?_
          exact k0 (by omega)
        · refine pw_steps 3 (s' := (26, [some (.int (ei_ (0))), some (.int (ei_ (v)))], [.int (ei_ (0)), .ref 1002, .int (ei_ (v))], m)) rfl ?_
          refine pw_ildE (x := 9) rfl rfl (by decide) (by decide) ?_
          refine pw_cmp rfl p4 (by decide) (fun (h6 : 9 < v) => ?_) (fun (h6 : ¬ (9 < v)) => ?_)
          · refine pw_steps 1 (s' := (35, [some (.int (ei_ (0))), some (.int (ei_ (v)))], [.int (ei_ (0))], m)) rfl ?_
            refine pw_iret rfl rfl rfl ?_
            refine pw_ifF rfl (by decide) (show ¬ (¬ 0 = 0) by decide) ?_
            refine pw_steps 1 (s' := (21, [some (.ref 0), some (.int (ei_ (a))), some (.int (ei_ (0))), some (.int (ei_ (v))), none], [.int (ei_ ((-1)))], m)) rfl ?_
            refine pw_iret rfl rfl rfl ?_
            exact k0 (by omega)
          · refine pw_steps 2 (s' := (35, [some (.int (ei_ (0))), some (.int (ei_ (v)))], [.int (ei_ (1))], m)) rfl ?_
            refine pw_iret rfl rfl rfl ?_
            refine pw_ifT rfl (by decide) (show ¬ 1 = 0 by decide) ?_
            refine pw_steps 4 (s' := (28, [some (.ref 0), some (.int (ei_ (a))), some (.int (ei_ (0))), some (.int (ei_ (v))), none], [.int (ei_ (0)), .int (ei_ (a)), .ref 1], m)) rfl ?_
            refine pw_call (As := [.int (ei_ (a)), .int (ei_ (0))]) (st := []) (k := 1) rfl rfl rfl rfl rfl (Nat.le_of_ble_eq_true rfl) ?_
            refine cw_told0 (p0) ((sm_rfl m)) (by omega) (fun x7 g8 g9 => ?_)
            refine pw_steps 3 (s' := (36, [some (.ref 0), some (.int (ei_ (a))), some (.int (ei_ (0))), some (.int (ei_ (v))), some (.int (ei_ (x7)))], [.int (ei_ (v)), .int (ei_ (x7))], m)) rfl ?_
            refine pw_cmp rfl (by omega) p4 (fun (h10 : x7 = v) => ?_) (fun (h10 : ¬ (x7 = v)) => ?_)
            · refine pw_steps 1 (s' := (63, [some (.ref 0), some (.int (ei_ (a))), some (.int (ei_ (0))), some (.int (ei_ (v))), some (.int (ei_ (x7)))], [.int (ei_ (x7))], m)) rfl ?_
              refine pw_iret rfl rfl rfl ?_
              have hxv_ : x7 = v := by omega
              rw [hxv_]
              exact k1 a (by omega) (by unfold tl_; omega) (by omega)
            · refine pw_steps 5 (s' := (46, [some (.ref 0), some (.int (ei_ (a))), some (.int (ei_ (0))), some (.int (ei_ (v))), some (.int (ei_ (x7)))], [.int (ei_ (v)), .int (ei_ (0)), .int (ei_ (a)), .ref 1], m)) rfl ?_
              refine pw_call (As := [.int (ei_ (a)), .int (ei_ (0)), .int (ei_ (v))]) (st := []) (k := 1) rfl rfl rfl rfl rfl (Nat.le_of_ble_eq_true rfl) ?_
              refine cw_tell (P := (vi_ m 1 1)) (rfl) (by omega) (by omega) (p4) (p2) (by omega) (fun pl11 g12 => ?_)
              have hpl_ : pl11 = a := by omega
              subst pl11
              refine pw_steps 6 (s' := (58, [some (.ref 0), some (.int (ei_ (a))), some (.int (ei_ (0))), some (.int (ei_ (v))), some (.int (ei_ (x7)))], [.int (ei_ (v)), .int (ei_ (x7)), .int (ei_ (0)), .int (ei_ (a)), .ref 24], wi_ m 2 (a) (v))) rfl ?_
              refine pw_call (As := [.int (ei_ (a)), .int (ei_ (0)), .int (ei_ (x7)), .int (ei_ (v))]) (st := []) (k := 24) rfl rfl rfl rfl rfl (Nat.le_of_ble_eq_true rfl) ?_
              refine cs_chg (p1) (p2) (by omega) (by omega) (p4) (fun n13 s14 m115 g16 g17 g18 g19 g20 g21 g22 g23 g24 g25 g26 g27 => ?_)
              refine pw_steps 1 (s' := (63, [some (.ref 0), some (.int (ei_ (a))), some (.int (ei_ (0))), some (.int (ei_ (v))), some (.int (ei_ (x7)))], [.int (ei_ (x7))], m115)) rfl ?_
              refine pw_iret rfl rfl rfl ?_
              exact k2 x7 a n13 s14 m115 (by omega) (by unfold tl_; omega) (by omega) (by omega) g16 ((sm_tr (sm_w (sm_rfl m) (fun _ h_ => by rw [h_]; rfl)) (sm_le g17 pCh_Mc))) (by intro j a_; rw [sm_f g17 (k := 2) (fun _ => rfl)]; simp (disch := omega) only [vi_up]) g18 g19 g20 g21 g22 g23 g24 g25 g26 g27
  · subst h1
    refine pw_steps 4 (s' := (6, [some (.ref 0), some (.int (ei_ (a))), some (.int (ei_ (1))), some (.int (ei_ (v))), none], [.int (ei_ (1)), .int (ei_ (a)), .ref 1], m)) rfl ?_
    refine pw_call (As := [.int (ei_ (a)), .int (ei_ (1))]) (st := []) (k := 1) rfl rfl rfl rfl rfl (Nat.le_of_ble_eq_true rfl) ?_
    refine pw_intro (I := iX3_tells) (T := tX3_tells) rfl rfl rfl ?_
    refine pw_steps 1 (s' := (1, [some (.ref 1), some (.int (ei_ (a))), some (.int (ei_ (1)))], [.int (ei_ (1))], m)) rfl ?_
    refine pw_ifF rfl (by decide) (show ¬ (1 < 0) by decide) ?_
    refine pw_steps 2 (s' := (6, [some (.ref 1), some (.int (ei_ (a))), some (.int (ei_ (1)))], [.int (ei_ (5)), .int (ei_ (1))], m)) rfl ?_
    refine pw_cmpT rfl (by decide) (by decide) (show 1 ≤ 5 by decide) ?_
    refine pw_steps 2 (s' := (13, [some (.ref 1), some (.int (ei_ (a))), some (.int (ei_ (1)))], [.int (ei_ (4)), .int (ei_ (1))], m)) rfl ?_
    refine pw_cmpF rfl (by decide) (by decide) (show ¬ (4 ≤ 1) by decide) ?_
    refine pw_steps 2 (s' := (18, [some (.ref 1), some (.int (ei_ (a))), some (.int (ei_ (1)))], [.int (ei_ (a)), .ref 1], m)) rfl ?_
    refine pw_call (As := [.int (ei_ (a))]) (st := []) (k := 1) rfl rfl rfl rfl rfl (Nat.le_of_ble_eq_true rfl) ?_
    refine pw_intro (I := iX3_has) (T := tX3_has) rfl rfl rfl ?_
    refine pw_steps 1 (s' := (1, [some (.ref 1), some (.int (ei_ (a)))], [.int (ei_ (a))], m)) rfl ?_
    refine pw_if rfl p2 (fun (h28 : a < 0) => ?_) (fun (h28 : ¬ (a < 0)) => ?_)
    · refine pw_steps 1 (s' := (17, [some (.ref 1), some (.int (ei_ (a)))], [.int (ei_ (0))], m)) rfl ?_
      refine pw_iret rfl rfl rfl ?_
      refine pw_steps 1 (s' := (33, [some (.ref 1), some (.int (ei_ (a))), some (.int (ei_ (1)))], [.int (ei_ (0))], m)) rfl ?_
      refine pw_iret rfl rfl rfl ?_
      refine pw_ifT rfl (by decide) (show 0 = 0 by decide) ?_
      refine pw_steps 1 (s' := (21, [some (.ref 0), some (.int (ei_ (a))), some (.int (ei_ (1))), some (.int (ei_ (v))), none], [.int (ei_ ((-1)))], m)) rfl ?_
      refine pw_iret rfl rfl rfl ?_
      exact k0 (by omega)
    · refine pw_steps 2 (s' := (6, [some (.ref 1), some (.int (ei_ (a)))], [.ref 1, .int (ei_ (a))], m)) rfl ?_
      refine pw_get rfl rfl (fun x29 (hx29 : x29 = vi_ m 1 1) rx29 sx29 => ?_)
      refine pw_cmp rfl p2 ⟨rx29, sx29⟩ (fun (h30 : x29 ≤ a) => ?_) (fun (h30 : ¬ (x29 ≤ a)) => ?_)
      · refine pw_steps 1 (s' := (17, [some (.ref 1), some (.int (ei_ (a)))], [.int (ei_ (0))], m)) rfl ?_
        refine pw_iret rfl rfl rfl ?_
        refine pw_steps 1 (s' := (33, [some (.ref 1), some (.int (ei_ (a))), some (.int (ei_ (1)))], [.int (ei_ (0))], m)) rfl ?_
        refine pw_iret rfl rfl rfl ?_
        refine pw_ifT rfl (by decide) (show 0 = 0 by decide) ?_
        refine pw_steps 1 (s' := (21, [some (.ref 0), some (.int (ei_ (a))), some (.int (ei_ (1))), some (.int (ei_ (v))), none], [.int (ei_ ((-1)))], m)) rfl ?_
        refine pw_iret rfl rfl rfl ?_
        exact k0 (by omega)
      · refine pw_steps 2 (s' := (17, [some (.ref 1), some (.int (ei_ (a)))], [.int (ei_ (1))], m)) rfl ?_
        refine pw_iret rfl rfl rfl ?_
        refine pw_steps 1 (s' := (33, [some (.ref 1), some (.int (ei_ (a))), some (.int (ei_ (1)))], [.int (ei_ (1))], m)) rfl ?_
        refine pw_iret rfl rfl rfl ?_
        refine pw_ifF rfl (by decide) (show ¬ (1 = 0) by decide) ?_
        refine pw_steps 2 (s' := (14, [some (.ref 0), some (.int (ei_ (a))), some (.int (ei_ (1))), some (.int (ei_ (v))), none], [.int (ei_ (v)), .int (ei_ (1))], m)) rfl ?_
        refine pw_callS (As := [.int (ei_ (1)), .int (ei_ (v))]) (st := []) rfl (by decide) rfl rfl (Nat.le_of_ble_eq_true rfl) ?_
        refine pw_intro (I := iX3_fits) (T := tX3_fits) rfl rfl rfl ?_
        refine pw_steps 1 (s' := (1, [some (.int (ei_ (1))), some (.int (ei_ (v)))], [.int (ei_ (1))], m)) rfl ?_
        refine pw_ifF rfl (by decide) (show ¬ (1 < 0) by decide) ?_
        refine pw_steps 3 (s' := (9, [some (.int (ei_ (1))), some (.int (ei_ (v)))], [.int (ei_ (6)), .int (ei_ (1))], m)) rfl ?_
        refine pw_cmpF rfl (by decide) (by decide) (show ¬ (6 ≤ 1) by decide) ?_
        refine pw_steps 3 (s' := (17, [some (.int (ei_ (1))), some (.int (ei_ (v)))], [.int (ei_ (1)), .ref 1001, .int (ei_ (v))], m)) rfl ?_
        refine pw_ildE (x := 0) rfl rfl (by decide) (by decide) ?_
        refine pw_cmp rfl p4 (by decide) (fun (h31 : v < 0) => ?_) (fun (h31 : ¬ (v < 0)) => ?_)
        · refine pw_steps 1 (s' := (35, [some (.int (ei_ (1))), some (.int (ei_ (v)))], [.int (ei_ (0))], m)) rfl ?_
          refine pw_iret rfl rfl rfl ?_
          refine pw_ifF rfl (by decide) (show ¬ (¬ 0 = 0) by decide) ?_
          refine pw_steps 1 (s' := (21, [some (.ref 0), some (.int (ei_ (a))), some (.int (ei_ (1))), some (.int (ei_ (v))), none], [.int (ei_ ((-1)))], m)) rfl ?_
          refine pw_iret rfl rfl rfl ?_
          exact k0 (by omega)
        · refine pw_steps 3 (s' := (26, [some (.int (ei_ (1))), some (.int (ei_ (v)))], [.int (ei_ (1)), .ref 1002, .int (ei_ (v))], m)) rfl ?_
          refine pw_ildE (x := 9) rfl rfl (by decide) (by decide) ?_
          refine pw_cmp rfl p4 (by decide) (fun (h32 : 9 < v) => ?_) (fun (h32 : ¬ (9 < v)) => ?_)
          · refine pw_steps 1 (s' := (35, [some (.int (ei_ (1))), some (.int (ei_ (v)))], [.int (ei_ (0))], m)) rfl ?_
            refine pw_iret rfl rfl rfl ?_
            refine pw_ifF rfl (by decide) (show ¬ (¬ 0 = 0) by decide) ?_
            refine pw_steps 1 (s' := (21, [some (.ref 0), some (.int (ei_ (a))), some (.int (ei_ (1))), some (.int (ei_ (v))), none], [.int (ei_ ((-1)))], m)) rfl ?_
            refine pw_iret rfl rfl rfl ?_
            exact k0 (by omega)
          · refine pw_steps 2 (s' := (35, [some (.int (ei_ (1))), some (.int (ei_ (v)))], [.int (ei_ (1))], m)) rfl ?_
            refine pw_iret rfl rfl rfl ?_
            refine pw_ifT rfl (by decide) (show ¬ 1 = 0 by decide) ?_
            refine pw_steps 4 (s' := (28, [some (.ref 0), some (.int (ei_ (a))), some (.int (ei_ (1))), some (.int (ei_ (v))), none], [.int (ei_ (1)), .int (ei_ (a)), .ref 1], m)) rfl ?_
            refine pw_call (As := [.int (ei_ (a)), .int (ei_ (1))]) (st := []) (k := 1) rfl rfl rfl rfl rfl (Nat.le_of_ble_eq_true rfl) ?_
            refine cw_told1 (p0) ((sm_rfl m)) (by omega) (fun x33 g34 g35 => ?_)
            refine pw_steps 3 (s' := (36, [some (.ref 0), some (.int (ei_ (a))), some (.int (ei_ (1))), some (.int (ei_ (v))), some (.int (ei_ (x33)))], [.int (ei_ (v)), .int (ei_ (x33))], m)) rfl ?_
            refine pw_cmp rfl (by omega) p4 (fun (h36 : x33 = v) => ?_) (fun (h36 : ¬ (x33 = v)) => ?_)
            · refine pw_steps 1 (s' := (63, [some (.ref 0), some (.int (ei_ (a))), some (.int (ei_ (1))), some (.int (ei_ (v))), some (.int (ei_ (x33)))], [.int (ei_ (x33))], m)) rfl ?_
              refine pw_iret rfl rfl rfl ?_
              have hxv_ : x33 = v := by omega
              rw [hxv_]
              exact k1 (8 + a) (by omega) (by unfold tl_; omega) (by omega)
            · refine pw_steps 5 (s' := (46, [some (.ref 0), some (.int (ei_ (a))), some (.int (ei_ (1))), some (.int (ei_ (v))), some (.int (ei_ (x33)))], [.int (ei_ (v)), .int (ei_ (1)), .int (ei_ (a)), .ref 1], m)) rfl ?_
              refine pw_call (As := [.int (ei_ (a)), .int (ei_ (1)), .int (ei_ (v))]) (st := []) (k := 1) rfl rfl rfl rfl rfl (Nat.le_of_ble_eq_true rfl) ?_
              refine cw_tell (P := (vi_ m 1 1)) (rfl) (by omega) (by omega) (p4) (p2) (by omega) (fun pl37 g38 => ?_)
              have hpl_ : pl37 = (8 + a) := by omega
              subst pl37
              refine pw_steps 6 (s' := (58, [some (.ref 0), some (.int (ei_ (a))), some (.int (ei_ (1))), some (.int (ei_ (v))), some (.int (ei_ (x33)))], [.int (ei_ (v)), .int (ei_ (x33)), .int (ei_ (1)), .int (ei_ (a)), .ref 24], wi_ m 2 ((8 + a)) (v))) rfl ?_
              refine pw_call (As := [.int (ei_ (a)), .int (ei_ (1)), .int (ei_ (x33)), .int (ei_ (v))]) (st := []) (k := 24) rfl rfl rfl rfl rfl (Nat.le_of_ble_eq_true rfl) ?_
              refine cs_chg (p1) (p2) (by omega) (by omega) (p4) (fun n39 s40 m141 g42 g43 g44 g45 g46 g47 g48 g49 g50 g51 g52 g53 => ?_)
              refine pw_steps 1 (s' := (63, [some (.ref 0), some (.int (ei_ (a))), some (.int (ei_ (1))), some (.int (ei_ (v))), some (.int (ei_ (x33)))], [.int (ei_ (x33))], m141)) rfl ?_
              refine pw_iret rfl rfl rfl ?_
              exact k2 x33 (8 + a) n39 s40 m141 (by omega) (by unfold tl_; omega) (by omega) (by omega) g42 ((sm_tr (sm_w (sm_rfl m) (fun _ h_ => by rw [h_]; rfl)) (sm_le g43 pCh_Mc))) (by intro j a_; rw [sm_f g43 (k := 2) (fun _ => rfl)]; simp (disch := omega) only [vi_up]) g44 g45 g46 g47 g48 g49 g50 g51 g52 g53
  · subst h1
    refine pw_steps 4 (s' := (6, [some (.ref 0), some (.int (ei_ (a))), some (.int (ei_ (2))), some (.int (ei_ (v))), none], [.int (ei_ (2)), .int (ei_ (a)), .ref 1], m)) rfl ?_
    refine pw_call (As := [.int (ei_ (a)), .int (ei_ (2))]) (st := []) (k := 1) rfl rfl rfl rfl rfl (Nat.le_of_ble_eq_true rfl) ?_
    refine pw_intro (I := iX3_tells) (T := tX3_tells) rfl rfl rfl ?_
    refine pw_steps 1 (s' := (1, [some (.ref 1), some (.int (ei_ (a))), some (.int (ei_ (2)))], [.int (ei_ (2))], m)) rfl ?_
    refine pw_ifF rfl (by decide) (show ¬ (2 < 0) by decide) ?_
    refine pw_steps 2 (s' := (6, [some (.ref 1), some (.int (ei_ (a))), some (.int (ei_ (2)))], [.int (ei_ (5)), .int (ei_ (2))], m)) rfl ?_
    refine pw_cmpT rfl (by decide) (by decide) (show 2 ≤ 5 by decide) ?_
    refine pw_steps 2 (s' := (13, [some (.ref 1), some (.int (ei_ (a))), some (.int (ei_ (2)))], [.int (ei_ (4)), .int (ei_ (2))], m)) rfl ?_
    refine pw_cmpF rfl (by decide) (by decide) (show ¬ (4 ≤ 2) by decide) ?_
    refine pw_steps 2 (s' := (18, [some (.ref 1), some (.int (ei_ (a))), some (.int (ei_ (2)))], [.int (ei_ (a)), .ref 1], m)) rfl ?_
    refine pw_call (As := [.int (ei_ (a))]) (st := []) (k := 1) rfl rfl rfl rfl rfl (Nat.le_of_ble_eq_true rfl) ?_
    refine pw_intro (I := iX3_has) (T := tX3_has) rfl rfl rfl ?_
    refine pw_steps 1 (s' := (1, [some (.ref 1), some (.int (ei_ (a)))], [.int (ei_ (a))], m)) rfl ?_
    refine pw_if rfl p2 (fun (h54 : a < 0) => ?_) (fun (h54 : ¬ (a < 0)) => ?_)
    · refine pw_steps 1 (s' := (17, [some (.ref 1), some (.int (ei_ (a)))], [.int (ei_ (0))], m)) rfl ?_
      refine pw_iret rfl rfl rfl ?_
      refine pw_steps 1 (s' := (33, [some (.ref 1), some (.int (ei_ (a))), some (.int (ei_ (2)))], [.int (ei_ (0))], m)) rfl ?_
      refine pw_iret rfl rfl rfl ?_
      refine pw_ifT rfl (by decide) (show 0 = 0 by decide) ?_
      refine pw_steps 1 (s' := (21, [some (.ref 0), some (.int (ei_ (a))), some (.int (ei_ (2))), some (.int (ei_ (v))), none], [.int (ei_ ((-1)))], m)) rfl ?_
      refine pw_iret rfl rfl rfl ?_
      exact k0 (by omega)
    · refine pw_steps 2 (s' := (6, [some (.ref 1), some (.int (ei_ (a)))], [.ref 1, .int (ei_ (a))], m)) rfl ?_
      refine pw_get rfl rfl (fun x55 (hx55 : x55 = vi_ m 1 1) rx55 sx55 => ?_)
      refine pw_cmp rfl p2 ⟨rx55, sx55⟩ (fun (h56 : x55 ≤ a) => ?_) (fun (h56 : ¬ (x55 ≤ a)) => ?_)
      · refine pw_steps 1 (s' := (17, [some (.ref 1), some (.int (ei_ (a)))], [.int (ei_ (0))], m)) rfl ?_
        refine pw_iret rfl rfl rfl ?_
        refine pw_steps 1 (s' := (33, [some (.ref 1), some (.int (ei_ (a))), some (.int (ei_ (2)))], [.int (ei_ (0))], m)) rfl ?_
        refine pw_iret rfl rfl rfl ?_
        refine pw_ifT rfl (by decide) (show 0 = 0 by decide) ?_
        refine pw_steps 1 (s' := (21, [some (.ref 0), some (.int (ei_ (a))), some (.int (ei_ (2))), some (.int (ei_ (v))), none], [.int (ei_ ((-1)))], m)) rfl ?_
        refine pw_iret rfl rfl rfl ?_
        exact k0 (by omega)
      · refine pw_steps 2 (s' := (17, [some (.ref 1), some (.int (ei_ (a)))], [.int (ei_ (1))], m)) rfl ?_
        refine pw_iret rfl rfl rfl ?_
        refine pw_steps 1 (s' := (33, [some (.ref 1), some (.int (ei_ (a))), some (.int (ei_ (2)))], [.int (ei_ (1))], m)) rfl ?_
        refine pw_iret rfl rfl rfl ?_
        refine pw_ifF rfl (by decide) (show ¬ (1 = 0) by decide) ?_
        refine pw_steps 2 (s' := (14, [some (.ref 0), some (.int (ei_ (a))), some (.int (ei_ (2))), some (.int (ei_ (v))), none], [.int (ei_ (v)), .int (ei_ (2))], m)) rfl ?_
        refine pw_callS (As := [.int (ei_ (2)), .int (ei_ (v))]) (st := []) rfl (by decide) rfl rfl (Nat.le_of_ble_eq_true rfl) ?_
        refine pw_intro (I := iX3_fits) (T := tX3_fits) rfl rfl rfl ?_
        refine pw_steps 1 (s' := (1, [some (.int (ei_ (2))), some (.int (ei_ (v)))], [.int (ei_ (2))], m)) rfl ?_
        refine pw_ifF rfl (by decide) (show ¬ (2 < 0) by decide) ?_
        refine pw_steps 3 (s' := (9, [some (.int (ei_ (2))), some (.int (ei_ (v)))], [.int (ei_ (6)), .int (ei_ (2))], m)) rfl ?_
        refine pw_cmpF rfl (by decide) (by decide) (show ¬ (6 ≤ 2) by decide) ?_
        refine pw_steps 3 (s' := (17, [some (.int (ei_ (2))), some (.int (ei_ (v)))], [.int (ei_ (2)), .ref 1001, .int (ei_ (v))], m)) rfl ?_
        refine pw_ildE (x := 1) rfl rfl (by decide) (by decide) ?_
        refine pw_cmp rfl p4 (by decide) (fun (h57 : v < 1) => ?_) (fun (h57 : ¬ (v < 1)) => ?_)
        · refine pw_steps 1 (s' := (35, [some (.int (ei_ (2))), some (.int (ei_ (v)))], [.int (ei_ (0))], m)) rfl ?_
          refine pw_iret rfl rfl rfl ?_
          refine pw_ifF rfl (by decide) (show ¬ (¬ 0 = 0) by decide) ?_
          refine pw_steps 1 (s' := (21, [some (.ref 0), some (.int (ei_ (a))), some (.int (ei_ (2))), some (.int (ei_ (v))), none], [.int (ei_ ((-1)))], m)) rfl ?_
          refine pw_iret rfl rfl rfl ?_
          exact k0 (by omega)
        · refine pw_steps 3 (s' := (26, [some (.int (ei_ (2))), some (.int (ei_ (v)))], [.int (ei_ (2)), .ref 1002, .int (ei_ (v))], m)) rfl ?_
          refine pw_ildE (x := 9) rfl rfl (by decide) (by decide) ?_
          refine pw_cmp rfl p4 (by decide) (fun (h58 : 9 < v) => ?_) (fun (h58 : ¬ (9 < v)) => ?_)
          · refine pw_steps 1 (s' := (35, [some (.int (ei_ (2))), some (.int (ei_ (v)))], [.int (ei_ (0))], m)) rfl ?_
            refine pw_iret rfl rfl rfl ?_
            refine pw_ifF rfl (by decide) (show ¬ (¬ 0 = 0) by decide) ?_
            refine pw_steps 1 (s' := (21, [some (.ref 0), some (.int (ei_ (a))), some (.int (ei_ (2))), some (.int (ei_ (v))), none], [.int (ei_ ((-1)))], m)) rfl ?_
            refine pw_iret rfl rfl rfl ?_
            exact k0 (by omega)
          · refine pw_steps 2 (s' := (35, [some (.int (ei_ (2))), some (.int (ei_ (v)))], [.int (ei_ (1))], m)) rfl ?_
            refine pw_iret rfl rfl rfl ?_
            refine pw_ifT rfl (by decide) (show ¬ 1 = 0 by decide) ?_
            refine pw_steps 4 (s' := (28, [some (.ref 0), some (.int (ei_ (a))), some (.int (ei_ (2))), some (.int (ei_ (v))), none], [.int (ei_ (2)), .int (ei_ (a)), .ref 1], m)) rfl ?_
            refine pw_call (As := [.int (ei_ (a)), .int (ei_ (2))]) (st := []) (k := 1) rfl rfl rfl rfl rfl (Nat.le_of_ble_eq_true rfl) ?_
            refine cw_told2 (p0) ((sm_rfl m)) (by omega) (fun x59 g60 g61 => ?_)
            refine pw_steps 3 (s' := (36, [some (.ref 0), some (.int (ei_ (a))), some (.int (ei_ (2))), some (.int (ei_ (v))), some (.int (ei_ (x59)))], [.int (ei_ (v)), .int (ei_ (x59))], m)) rfl ?_
            refine pw_cmp rfl (by omega) p4 (fun (h62 : x59 = v) => ?_) (fun (h62 : ¬ (x59 = v)) => ?_)
            · refine pw_steps 1 (s' := (63, [some (.ref 0), some (.int (ei_ (a))), some (.int (ei_ (2))), some (.int (ei_ (v))), some (.int (ei_ (x59)))], [.int (ei_ (x59))], m)) rfl ?_
              refine pw_iret rfl rfl rfl ?_
              have hxv_ : x59 = v := by omega
              rw [hxv_]
              exact k1 (16 + a) (by omega) (by unfold tl_; omega) (by omega)
            · refine pw_steps 5 (s' := (46, [some (.ref 0), some (.int (ei_ (a))), some (.int (ei_ (2))), some (.int (ei_ (v))), some (.int (ei_ (x59)))], [.int (ei_ (v)), .int (ei_ (2)), .int (ei_ (a)), .ref 1], m)) rfl ?_
              refine pw_call (As := [.int (ei_ (a)), .int (ei_ (2)), .int (ei_ (v))]) (st := []) (k := 1) rfl rfl rfl rfl rfl (Nat.le_of_ble_eq_true rfl) ?_
              refine cw_tell (P := (vi_ m 1 1)) (rfl) (by omega) (by omega) (p4) (p2) (by omega) (fun pl63 g64 => ?_)
              have hpl_ : pl63 = (16 + a) := by omega
              subst pl63
              refine pw_steps 6 (s' := (58, [some (.ref 0), some (.int (ei_ (a))), some (.int (ei_ (2))), some (.int (ei_ (v))), some (.int (ei_ (x59)))], [.int (ei_ (v)), .int (ei_ (x59)), .int (ei_ (2)), .int (ei_ (a)), .ref 24], wi_ m 2 ((16 + a)) (v))) rfl ?_
              refine pw_call (As := [.int (ei_ (a)), .int (ei_ (2)), .int (ei_ (x59)), .int (ei_ (v))]) (st := []) (k := 24) rfl rfl rfl rfl rfl (Nat.le_of_ble_eq_true rfl) ?_
              refine cs_chg (p1) (p2) (by omega) (by omega) (p4) (fun n65 s66 m167 g68 g69 g70 g71 g72 g73 g74 g75 g76 g77 g78 g79 => ?_)
              refine pw_steps 1 (s' := (63, [some (.ref 0), some (.int (ei_ (a))), some (.int (ei_ (2))), some (.int (ei_ (v))), some (.int (ei_ (x59)))], [.int (ei_ (x59))], m167)) rfl ?_
              refine pw_iret rfl rfl rfl ?_
              exact k2 x59 (16 + a) n65 s66 m167 (by omega) (by unfold tl_; omega) (by omega) (by omega) g68 ((sm_tr (sm_w (sm_rfl m) (fun _ h_ => by rw [h_]; rfl)) (sm_le g69 pCh_Mc))) (by intro j a_; rw [sm_f g69 (k := 2) (fun _ => rfl)]; simp (disch := omega) only [vi_up]) g70 g71 g72 g73 g74 g75 g76 g77 g78 g79
  · subst h1
    refine pw_steps 4 (s' := (6, [some (.ref 0), some (.int (ei_ (a))), some (.int (ei_ (3))), some (.int (ei_ (v))), none], [.int (ei_ (3)), .int (ei_ (a)), .ref 1], m)) rfl ?_
    refine pw_call (As := [.int (ei_ (a)), .int (ei_ (3))]) (st := []) (k := 1) rfl rfl rfl rfl rfl (Nat.le_of_ble_eq_true rfl) ?_
    refine pw_intro (I := iX3_tells) (T := tX3_tells) rfl rfl rfl ?_
    refine pw_steps 1 (s' := (1, [some (.ref 1), some (.int (ei_ (a))), some (.int (ei_ (3)))], [.int (ei_ (3))], m)) rfl ?_
    refine pw_ifF rfl (by decide) (show ¬ (3 < 0) by decide) ?_
    refine pw_steps 2 (s' := (6, [some (.ref 1), some (.int (ei_ (a))), some (.int (ei_ (3)))], [.int (ei_ (5)), .int (ei_ (3))], m)) rfl ?_
    refine pw_cmpT rfl (by decide) (by decide) (show 3 ≤ 5 by decide) ?_
    refine pw_steps 2 (s' := (13, [some (.ref 1), some (.int (ei_ (a))), some (.int (ei_ (3)))], [.int (ei_ (4)), .int (ei_ (3))], m)) rfl ?_
    refine pw_cmpF rfl (by decide) (by decide) (show ¬ (4 ≤ 3) by decide) ?_
    refine pw_steps 2 (s' := (18, [some (.ref 1), some (.int (ei_ (a))), some (.int (ei_ (3)))], [.int (ei_ (a)), .ref 1], m)) rfl ?_
    refine pw_call (As := [.int (ei_ (a))]) (st := []) (k := 1) rfl rfl rfl rfl rfl (Nat.le_of_ble_eq_true rfl) ?_
    refine pw_intro (I := iX3_has) (T := tX3_has) rfl rfl rfl ?_
    refine pw_steps 1 (s' := (1, [some (.ref 1), some (.int (ei_ (a)))], [.int (ei_ (a))], m)) rfl ?_
    refine pw_if rfl p2 (fun (h80 : a < 0) => ?_) (fun (h80 : ¬ (a < 0)) => ?_)
    · refine pw_steps 1 (s' := (17, [some (.ref 1), some (.int (ei_ (a)))], [.int (ei_ (0))], m)) rfl ?_
      refine pw_iret rfl rfl rfl ?_
      refine pw_steps 1 (s' := (33, [some (.ref 1), some (.int (ei_ (a))), some (.int (ei_ (3)))], [.int (ei_ (0))], m)) rfl ?_
      refine pw_iret rfl rfl rfl ?_
      refine pw_ifT rfl (by decide) (show 0 = 0 by decide) ?_
      refine pw_steps 1 (s' := (21, [some (.ref 0), some (.int (ei_ (a))), some (.int (ei_ (3))), some (.int (ei_ (v))), none], [.int (ei_ ((-1)))], m)) rfl ?_
      refine pw_iret rfl rfl rfl ?_
      exact k0 (by omega)
    · refine pw_steps 2 (s' := (6, [some (.ref 1), some (.int (ei_ (a)))], [.ref 1, .int (ei_ (a))], m)) rfl ?_
      refine pw_get rfl rfl (fun x81 (hx81 : x81 = vi_ m 1 1) rx81 sx81 => ?_)
      refine pw_cmp rfl p2 ⟨rx81, sx81⟩ (fun (h82 : x81 ≤ a) => ?_) (fun (h82 : ¬ (x81 ≤ a)) => ?_)
      · refine pw_steps 1 (s' := (17, [some (.ref 1), some (.int (ei_ (a)))], [.int (ei_ (0))], m)) rfl ?_
        refine pw_iret rfl rfl rfl ?_
        refine pw_steps 1 (s' := (33, [some (.ref 1), some (.int (ei_ (a))), some (.int (ei_ (3)))], [.int (ei_ (0))], m)) rfl ?_
        refine pw_iret rfl rfl rfl ?_
        refine pw_ifT rfl (by decide) (show 0 = 0 by decide) ?_
        refine pw_steps 1 (s' := (21, [some (.ref 0), some (.int (ei_ (a))), some (.int (ei_ (3))), some (.int (ei_ (v))), none], [.int (ei_ ((-1)))], m)) rfl ?_
        refine pw_iret rfl rfl rfl ?_
        exact k0 (by omega)
      · refine pw_steps 2 (s' := (17, [some (.ref 1), some (.int (ei_ (a)))], [.int (ei_ (1))], m)) rfl ?_
        refine pw_iret rfl rfl rfl ?_
        refine pw_steps 1 (s' := (33, [some (.ref 1), some (.int (ei_ (a))), some (.int (ei_ (3)))], [.int (ei_ (1))], m)) rfl ?_
        refine pw_iret rfl rfl rfl ?_
        refine pw_ifF rfl (by decide) (show ¬ (1 = 0) by decide) ?_
        refine pw_steps 2 (s' := (14, [some (.ref 0), some (.int (ei_ (a))), some (.int (ei_ (3))), some (.int (ei_ (v))), none], [.int (ei_ (v)), .int (ei_ (3))], m)) rfl ?_
        refine pw_callS (As := [.int (ei_ (3)), .int (ei_ (v))]) (st := []) rfl (by decide) rfl rfl (Nat.le_of_ble_eq_true rfl) ?_
        refine pw_intro (I := iX3_fits) (T := tX3_fits) rfl rfl rfl ?_
        refine pw_steps 1 (s' := (1, [some (.int (ei_ (3))), some (.int (ei_ (v)))], [.int (ei_ (3))], m)) rfl ?_
        refine pw_ifF rfl (by decide) (show ¬ (3 < 0) by decide) ?_
        refine pw_steps 3 (s' := (9, [some (.int (ei_ (3))), some (.int (ei_ (v)))], [.int (ei_ (6)), .int (ei_ (3))], m)) rfl ?_
        refine pw_cmpF rfl (by decide) (by decide) (show ¬ (6 ≤ 3) by decide) ?_
        refine pw_steps 3 (s' := (17, [some (.int (ei_ (3))), some (.int (ei_ (v)))], [.int (ei_ (3)), .ref 1001, .int (ei_ (v))], m)) rfl ?_
        refine pw_ildE (x := 0) rfl rfl (by decide) (by decide) ?_
        refine pw_cmp rfl p4 (by decide) (fun (h83 : v < 0) => ?_) (fun (h83 : ¬ (v < 0)) => ?_)
        · refine pw_steps 1 (s' := (35, [some (.int (ei_ (3))), some (.int (ei_ (v)))], [.int (ei_ (0))], m)) rfl ?_
          refine pw_iret rfl rfl rfl ?_
          refine pw_ifF rfl (by decide) (show ¬ (¬ 0 = 0) by decide) ?_
          refine pw_steps 1 (s' := (21, [some (.ref 0), some (.int (ei_ (a))), some (.int (ei_ (3))), some (.int (ei_ (v))), none], [.int (ei_ ((-1)))], m)) rfl ?_
          refine pw_iret rfl rfl rfl ?_
          exact k0 (by omega)
        · refine pw_steps 3 (s' := (26, [some (.int (ei_ (3))), some (.int (ei_ (v)))], [.int (ei_ (3)), .ref 1002, .int (ei_ (v))], m)) rfl ?_
          refine pw_ildE (x := 1) rfl rfl (by decide) (by decide) ?_
          refine pw_cmp rfl p4 (by decide) (fun (h84 : 1 < v) => ?_) (fun (h84 : ¬ (1 < v)) => ?_)
          · refine pw_steps 1 (s' := (35, [some (.int (ei_ (3))), some (.int (ei_ (v)))], [.int (ei_ (0))], m)) rfl ?_
            refine pw_iret rfl rfl rfl ?_
            refine pw_ifF rfl (by decide) (show ¬ (¬ 0 = 0) by decide) ?_
            refine pw_steps 1 (s' := (21, [some (.ref 0), some (.int (ei_ (a))), some (.int (ei_ (3))), some (.int (ei_ (v))), none], [.int (ei_ ((-1)))], m)) rfl ?_
            refine pw_iret rfl rfl rfl ?_
            exact k0 (by omega)
          · refine pw_steps 2 (s' := (35, [some (.int (ei_ (3))), some (.int (ei_ (v)))], [.int (ei_ (1))], m)) rfl ?_
            refine pw_iret rfl rfl rfl ?_
            refine pw_ifT rfl (by decide) (show ¬ 1 = 0 by decide) ?_
            refine pw_steps 4 (s' := (28, [some (.ref 0), some (.int (ei_ (a))), some (.int (ei_ (3))), some (.int (ei_ (v))), none], [.int (ei_ (3)), .int (ei_ (a)), .ref 1], m)) rfl ?_
            refine pw_call (As := [.int (ei_ (a)), .int (ei_ (3))]) (st := []) (k := 1) rfl rfl rfl rfl rfl (Nat.le_of_ble_eq_true rfl) ?_
            refine cw_told3 (p0) ((sm_rfl m)) (by omega) (fun x85 g86 g87 => ?_)
            refine pw_steps 3 (s' := (36, [some (.ref 0), some (.int (ei_ (a))), some (.int (ei_ (3))), some (.int (ei_ (v))), some (.int (ei_ (x85)))], [.int (ei_ (v)), .int (ei_ (x85))], m)) rfl ?_
            refine pw_cmp rfl (by omega) p4 (fun (h88 : x85 = v) => ?_) (fun (h88 : ¬ (x85 = v)) => ?_)
            · refine pw_steps 1 (s' := (63, [some (.ref 0), some (.int (ei_ (a))), some (.int (ei_ (3))), some (.int (ei_ (v))), some (.int (ei_ (x85)))], [.int (ei_ (x85))], m)) rfl ?_
              refine pw_iret rfl rfl rfl ?_
              have hxv_ : x85 = v := by omega
              rw [hxv_]
              exact k1 (24 + a) (by omega) (by unfold tl_; omega) (by omega)
            · refine pw_steps 5 (s' := (46, [some (.ref 0), some (.int (ei_ (a))), some (.int (ei_ (3))), some (.int (ei_ (v))), some (.int (ei_ (x85)))], [.int (ei_ (v)), .int (ei_ (3)), .int (ei_ (a)), .ref 1], m)) rfl ?_
              refine pw_call (As := [.int (ei_ (a)), .int (ei_ (3)), .int (ei_ (v))]) (st := []) (k := 1) rfl rfl rfl rfl rfl (Nat.le_of_ble_eq_true rfl) ?_
              refine cw_tell (P := (vi_ m 1 1)) (rfl) (by omega) (by omega) (p4) (p2) (by omega) (fun pl89 g90 => ?_)
              have hpl_ : pl89 = (24 + a) := by omega
              subst pl89
              refine pw_steps 6 (s' := (58, [some (.ref 0), some (.int (ei_ (a))), some (.int (ei_ (3))), some (.int (ei_ (v))), some (.int (ei_ (x85)))], [.int (ei_ (v)), .int (ei_ (x85)), .int (ei_ (3)), .int (ei_ (a)), .ref 24], wi_ m 2 ((24 + a)) (v))) rfl ?_
              refine pw_call (As := [.int (ei_ (a)), .int (ei_ (3)), .int (ei_ (x85)), .int (ei_ (v))]) (st := []) (k := 24) rfl rfl rfl rfl rfl (Nat.le_of_ble_eq_true rfl) ?_
              refine cs_chg (p1) (p2) (by omega) (by omega) (p4) (fun n91 s92 m193 g94 g95 g96 g97 g98 g99 g100 g101 g102 g103 g104 g105 => ?_)
              refine pw_steps 1 (s' := (63, [some (.ref 0), some (.int (ei_ (a))), some (.int (ei_ (3))), some (.int (ei_ (v))), some (.int (ei_ (x85)))], [.int (ei_ (x85))], m193)) rfl ?_
              refine pw_iret rfl rfl rfl ?_
              exact k2 x85 (24 + a) n91 s92 m193 (by omega) (by unfold tl_; omega) (by omega) (by omega) g94 ((sm_tr (sm_w (sm_rfl m) (fun _ h_ => by rw [h_]; rfl)) (sm_le g95 pCh_Mc))) (by intro j a_; rw [sm_f g95 (k := 2) (fun _ => rfl)]; simp (disch := omega) only [vi_up]) g96 g97 g98 g99 g100 g101 g102 g103 g104 g105
  · subst h1
    refine pw_steps 4 (s' := (6, [some (.ref 0), some (.int (ei_ (a))), some (.int (ei_ (4))), some (.int (ei_ (v))), none], [.int (ei_ (4)), .int (ei_ (a)), .ref 1], m)) rfl ?_
    refine pw_call (As := [.int (ei_ (a)), .int (ei_ (4))]) (st := []) (k := 1) rfl rfl rfl rfl rfl (Nat.le_of_ble_eq_true rfl) ?_
    refine pw_intro (I := iX3_tells) (T := tX3_tells) rfl rfl rfl ?_
    refine pw_steps 1 (s' := (1, [some (.ref 1), some (.int (ei_ (a))), some (.int (ei_ (4)))], [.int (ei_ (4))], m)) rfl ?_
    refine pw_ifF rfl (by decide) (show ¬ (4 < 0) by decide) ?_
    refine pw_steps 2 (s' := (6, [some (.ref 1), some (.int (ei_ (a))), some (.int (ei_ (4)))], [.int (ei_ (5)), .int (ei_ (4))], m)) rfl ?_
    refine pw_cmpT rfl (by decide) (by decide) (show 4 ≤ 5 by decide) ?_
    refine pw_steps 2 (s' := (13, [some (.ref 1), some (.int (ei_ (a))), some (.int (ei_ (4)))], [.int (ei_ (4)), .int (ei_ (4))], m)) rfl ?_
    refine pw_cmpT rfl (by decide) (by decide) (show 4 ≤ 4 by decide) ?_
    refine pw_steps 1 (s' := (25, [some (.ref 1), some (.int (ei_ (a))), some (.int (ei_ (4)))], [.int (ei_ (a))], m)) rfl ?_
    refine pw_if rfl p2 (fun (h106 : ¬ a = 0) => ?_) (fun (h106 : ¬ ¬ a = 0) => ?_)
    · refine pw_steps 1 (s' := (33, [some (.ref 1), some (.int (ei_ (a))), some (.int (ei_ (4)))], [.int (ei_ (0))], m)) rfl ?_
      refine pw_iret rfl rfl rfl ?_
      refine pw_ifT rfl (by decide) (show 0 = 0 by decide) ?_
      refine pw_steps 1 (s' := (21, [some (.ref 0), some (.int (ei_ (a))), some (.int (ei_ (4))), some (.int (ei_ (v))), none], [.int (ei_ ((-1)))], m)) rfl ?_
      refine pw_iret rfl rfl rfl ?_
      exact k0 (by omega)
    · refine pw_steps 2 (s' := (33, [some (.ref 1), some (.int (ei_ (a))), some (.int (ei_ (4)))], [.int (ei_ (1))], m)) rfl ?_
      refine pw_iret rfl rfl rfl ?_
      refine pw_ifF rfl (by decide) (show ¬ (1 = 0) by decide) ?_
      refine pw_steps 2 (s' := (14, [some (.ref 0), some (.int (ei_ (a))), some (.int (ei_ (4))), some (.int (ei_ (v))), none], [.int (ei_ (v)), .int (ei_ (4))], m)) rfl ?_
      refine pw_callS (As := [.int (ei_ (4)), .int (ei_ (v))]) (st := []) rfl (by decide) rfl rfl (Nat.le_of_ble_eq_true rfl) ?_
      refine pw_intro (I := iX3_fits) (T := tX3_fits) rfl rfl rfl ?_
      refine pw_steps 1 (s' := (1, [some (.int (ei_ (4))), some (.int (ei_ (v)))], [.int (ei_ (4))], m)) rfl ?_
      refine pw_ifF rfl (by decide) (show ¬ (4 < 0) by decide) ?_
      refine pw_steps 3 (s' := (9, [some (.int (ei_ (4))), some (.int (ei_ (v)))], [.int (ei_ (6)), .int (ei_ (4))], m)) rfl ?_
      refine pw_cmpF rfl (by decide) (by decide) (show ¬ (6 ≤ 4) by decide) ?_
      refine pw_steps 3 (s' := (17, [some (.int (ei_ (4))), some (.int (ei_ (v)))], [.int (ei_ (4)), .ref 1001, .int (ei_ (v))], m)) rfl ?_
      refine pw_ildE (x := 0) rfl rfl (by decide) (by decide) ?_
      refine pw_cmp rfl p4 (by decide) (fun (h107 : v < 0) => ?_) (fun (h107 : ¬ (v < 0)) => ?_)
      · refine pw_steps 1 (s' := (35, [some (.int (ei_ (4))), some (.int (ei_ (v)))], [.int (ei_ (0))], m)) rfl ?_
        refine pw_iret rfl rfl rfl ?_
        refine pw_ifF rfl (by decide) (show ¬ (¬ 0 = 0) by decide) ?_
        refine pw_steps 1 (s' := (21, [some (.ref 0), some (.int (ei_ (a))), some (.int (ei_ (4))), some (.int (ei_ (v))), none], [.int (ei_ ((-1)))], m)) rfl ?_
        refine pw_iret rfl rfl rfl ?_
        exact k0 (by omega)
      · refine pw_steps 3 (s' := (26, [some (.int (ei_ (4))), some (.int (ei_ (v)))], [.int (ei_ (4)), .ref 1002, .int (ei_ (v))], m)) rfl ?_
        refine pw_ildE (x := 9) rfl rfl (by decide) (by decide) ?_
        refine pw_cmp rfl p4 (by decide) (fun (h108 : 9 < v) => ?_) (fun (h108 : ¬ (9 < v)) => ?_)
        · refine pw_steps 1 (s' := (35, [some (.int (ei_ (4))), some (.int (ei_ (v)))], [.int (ei_ (0))], m)) rfl ?_
          refine pw_iret rfl rfl rfl ?_
          refine pw_ifF rfl (by decide) (show ¬ (¬ 0 = 0) by decide) ?_
          refine pw_steps 1 (s' := (21, [some (.ref 0), some (.int (ei_ (a))), some (.int (ei_ (4))), some (.int (ei_ (v))), none], [.int (ei_ ((-1)))], m)) rfl ?_
          refine pw_iret rfl rfl rfl ?_
          exact k0 (by omega)
        · refine pw_steps 2 (s' := (35, [some (.int (ei_ (4))), some (.int (ei_ (v)))], [.int (ei_ (1))], m)) rfl ?_
          refine pw_iret rfl rfl rfl ?_
          refine pw_ifT rfl (by decide) (show ¬ 1 = 0 by decide) ?_
          refine pw_steps 4 (s' := (28, [some (.ref 0), some (.int (ei_ (a))), some (.int (ei_ (4))), some (.int (ei_ (v))), none], [.int (ei_ (4)), .int (ei_ (a)), .ref 1], m)) rfl ?_
          refine pw_call (As := [.int (ei_ (a)), .int (ei_ (4))]) (st := []) (k := 1) rfl rfl rfl rfl rfl (Nat.le_of_ble_eq_true rfl) ?_
          refine pw_intro (I := iX3_told) (T := tX3_told) rfl rfl rfl ?_
          refine pw_steps 3 (s' := (3, [some (.ref 1), some (.int (ei_ (a))), some (.int (ei_ (4)))], [.int (ei_ (4)), .int (ei_ (a)), .ref 1], m)) rfl ?_
          refine pw_call (As := [.int (ei_ (a)), .int (ei_ (4))]) (st := []) (k := 1) rfl rfl rfl rfl rfl (Nat.le_of_ble_eq_true rfl) ?_
          refine pw_intro (I := iX3_tells) (T := tX3_tells) rfl rfl rfl ?_
          refine pw_steps 1 (s' := (1, [some (.ref 1), some (.int (ei_ (a))), some (.int (ei_ (4)))], [.int (ei_ (4))], m)) rfl ?_
          refine pw_ifF rfl (by decide) (show ¬ (4 < 0) by decide) ?_
          refine pw_steps 2 (s' := (6, [some (.ref 1), some (.int (ei_ (a))), some (.int (ei_ (4)))], [.int (ei_ (5)), .int (ei_ (4))], m)) rfl ?_
          refine pw_cmpT rfl (by decide) (by decide) (show 4 ≤ 5 by decide) ?_
          refine pw_steps 2 (s' := (13, [some (.ref 1), some (.int (ei_ (a))), some (.int (ei_ (4)))], [.int (ei_ (4)), .int (ei_ (4))], m)) rfl ?_
          refine pw_cmpT rfl (by decide) (by decide) (show 4 ≤ 4 by decide) ?_
          refine pw_steps 1 (s' := (25, [some (.ref 1), some (.int (ei_ (a))), some (.int (ei_ (4)))], [.int (ei_ (a))], m)) rfl ?_
          refine pw_ifF rfl p2 (show ¬ (¬ a = 0) by omega) ?_
          refine pw_steps 2 (s' := (33, [some (.ref 1), some (.int (ei_ (a))), some (.int (ei_ (4)))], [.int (ei_ (1))], m)) rfl ?_
          refine pw_iret rfl rfl rfl ?_
          refine pw_ifF rfl (by decide) (show ¬ (1 = 0) by decide) ?_
          refine pw_steps 4 (s' := (15, [some (.ref 1), some (.int (ei_ (a))), some (.int (ei_ (4)))], [.int (ei_ (4)), .int (ei_ (a)), .ref 2], m)) rfl ?_
          refine pw_callS (As := [.int (ei_ (a)), .int (ei_ (4))]) (st := [.ref 2]) rfl (by decide) rfl rfl (Nat.le_of_ble_eq_true rfl) ?_
          refine pw_intro (I := iX3_placeOf) (T := tX3_placeOf) rfl rfl rfl ?_
          refine pw_steps 2 (s' := (2, [some (.int (ei_ (a))), some (.int (ei_ (4)))], [.int (ei_ (4)), .int (ei_ (4))], m)) rfl ?_
          refine pw_cmpT rfl (by decide) (by decide) (show 4 ≤ 4 by decide) ?_
          refine pw_steps 5 (s' := (20, [some (.int (ei_ (a))), some (.int (ei_ (4)))], [.int (((ei_ (32)) + (ei_ (4))) - (ei_ (4)))], m)) rfl ?_
          refine pw_cv (congrArg (fun z_ : Int32 => ((20, [some (.int (ei_ (a))), some (.int (ei_ (4)))], [.int z_], m) : am_S)) (ei_sub (ei_add rfl rfl) rfl)) ?_
          refine pw_iret rfl rfl rfl ?_
          refine pw_ild rfl rfl (by omega) (fun x109 (hx109 : x109 = vi_ m 2 32) rx109 sx109 => ?_)
          refine pw_steps 1 (s' := (23, [some (.ref 1), some (.int (ei_ (a))), some (.int (ei_ (4)))], [.int (ei_ (x109))], m)) rfl ?_
          refine pw_iret rfl rfl rfl ?_
          refine pw_steps 3 (s' := (36, [some (.ref 0), some (.int (ei_ (a))), some (.int (ei_ (4))), some (.int (ei_ (v))), some (.int (ei_ (x109)))], [.int (ei_ (v)), .int (ei_ (x109))], m)) rfl ?_
          refine pw_cmp rfl ⟨rx109, sx109⟩ p4 (fun (h110 : x109 = v) => ?_) (fun (h110 : ¬ (x109 = v)) => ?_)
          · refine pw_steps 1 (s' := (63, [some (.ref 0), some (.int (ei_ (a))), some (.int (ei_ (4))), some (.int (ei_ (v))), some (.int (ei_ (x109)))], [.int (ei_ (x109))], m)) rfl ?_
            refine pw_iret rfl rfl rfl ?_
            have hxv_ : x109 = v := by omega
            rw [hxv_]
            exact k1 32 (by omega) (by unfold tl_; omega) (by omega)
          · refine pw_steps 5 (s' := (46, [some (.ref 0), some (.int (ei_ (a))), some (.int (ei_ (4))), some (.int (ei_ (v))), some (.int (ei_ (x109)))], [.int (ei_ (v)), .int (ei_ (4)), .int (ei_ (a)), .ref 1], m)) rfl ?_
            refine pw_call (As := [.int (ei_ (a)), .int (ei_ (4)), .int (ei_ (v))]) (st := []) (k := 1) rfl rfl rfl rfl rfl (Nat.le_of_ble_eq_true rfl) ?_
            refine cw_tell (P := (vi_ m 1 1)) (rfl) (by omega) (by omega) (p4) (p2) (by omega) (fun pl111 g112 => ?_)
            have hpl_ : pl111 = 32 := by omega
            subst pl111
            refine pw_steps 6 (s' := (58, [some (.ref 0), some (.int (ei_ (a))), some (.int (ei_ (4))), some (.int (ei_ (v))), some (.int (ei_ (x109)))], [.int (ei_ (v)), .int (ei_ (x109)), .int (ei_ (4)), .int (ei_ (a)), .ref 24], wi_ m 2 (32) (v))) rfl ?_
            refine pw_call (As := [.int (ei_ (a)), .int (ei_ (4)), .int (ei_ (x109)), .int (ei_ (v))]) (st := []) (k := 24) rfl rfl rfl rfl rfl (Nat.le_of_ble_eq_true rfl) ?_
            refine cs_chg (p1) (p2) (by omega) (by omega) (p4) (fun n113 s114 m1115 g116 g117 g118 g119 g120 g121 g122 g123 g124 g125 g126 g127 => ?_)
            refine pw_steps 1 (s' := (63, [some (.ref 0), some (.int (ei_ (a))), some (.int (ei_ (4))), some (.int (ei_ (v))), some (.int (ei_ (x109)))], [.int (ei_ (x109))], m1115)) rfl ?_
            refine pw_iret rfl rfl rfl ?_
            exact k2 x109 32 n113 s114 m1115 (by omega) (by unfold tl_; omega) (by omega) (by omega) g116 ((sm_tr (sm_w (sm_rfl m) (fun _ h_ => by rw [h_]; rfl)) (sm_le g117 pCh_Mc))) (by intro j a_; rw [sm_f g117 (k := 2) (fun _ => rfl)]; simp (disch := omega) only [vi_up]) g118 g119 g120 g121 g122 g123 g124 g125 g126 g127
  · subst h1
    refine pw_steps 4 (s' := (6, [some (.ref 0), some (.int (ei_ (a))), some (.int (ei_ (5))), some (.int (ei_ (v))), none], [.int (ei_ (5)), .int (ei_ (a)), .ref 1], m)) rfl ?_
    refine pw_call (As := [.int (ei_ (a)), .int (ei_ (5))]) (st := []) (k := 1) rfl rfl rfl rfl rfl (Nat.le_of_ble_eq_true rfl) ?_
    refine pw_intro (I := iX3_tells) (T := tX3_tells) rfl rfl rfl ?_
    refine pw_steps 1 (s' := (1, [some (.ref 1), some (.int (ei_ (a))), some (.int (ei_ (5)))], [.int (ei_ (5))], m)) rfl ?_
    refine pw_ifF rfl (by decide) (show ¬ (5 < 0) by decide) ?_
    refine pw_steps 2 (s' := (6, [some (.ref 1), some (.int (ei_ (a))), some (.int (ei_ (5)))], [.int (ei_ (5)), .int (ei_ (5))], m)) rfl ?_
    refine pw_cmpT rfl (by decide) (by decide) (show 5 ≤ 5 by decide) ?_
    refine pw_steps 2 (s' := (13, [some (.ref 1), some (.int (ei_ (a))), some (.int (ei_ (5)))], [.int (ei_ (4)), .int (ei_ (5))], m)) rfl ?_
    refine pw_cmpT rfl (by decide) (by decide) (show 4 ≤ 5 by decide) ?_
    refine pw_steps 1 (s' := (25, [some (.ref 1), some (.int (ei_ (a))), some (.int (ei_ (5)))], [.int (ei_ (a))], m)) rfl ?_
    refine pw_if rfl p2 (fun (h128 : ¬ a = 0) => ?_) (fun (h128 : ¬ ¬ a = 0) => ?_)
    · refine pw_steps 1 (s' := (33, [some (.ref 1), some (.int (ei_ (a))), some (.int (ei_ (5)))], [.int (ei_ (0))], m)) rfl ?_
      refine pw_iret rfl rfl rfl ?_
      refine pw_ifT rfl (by decide) (show 0 = 0 by decide) ?_
      refine pw_steps 1 (s' := (21, [some (.ref 0), some (.int (ei_ (a))), some (.int (ei_ (5))), some (.int (ei_ (v))), none], [.int (ei_ ((-1)))], m)) rfl ?_
      refine pw_iret rfl rfl rfl ?_
      exact k0 (by omega)
    · refine pw_steps 2 (s' := (33, [some (.ref 1), some (.int (ei_ (a))), some (.int (ei_ (5)))], [.int (ei_ (1))], m)) rfl ?_
      refine pw_iret rfl rfl rfl ?_
      refine pw_ifF rfl (by decide) (show ¬ (1 = 0) by decide) ?_
      refine pw_steps 2 (s' := (14, [some (.ref 0), some (.int (ei_ (a))), some (.int (ei_ (5))), some (.int (ei_ (v))), none], [.int (ei_ (v)), .int (ei_ (5))], m)) rfl ?_
      refine pw_callS (As := [.int (ei_ (5)), .int (ei_ (v))]) (st := []) rfl (by decide) rfl rfl (Nat.le_of_ble_eq_true rfl) ?_
      refine pw_intro (I := iX3_fits) (T := tX3_fits) rfl rfl rfl ?_
      refine pw_steps 1 (s' := (1, [some (.int (ei_ (5))), some (.int (ei_ (v)))], [.int (ei_ (5))], m)) rfl ?_
      refine pw_ifF rfl (by decide) (show ¬ (5 < 0) by decide) ?_
      refine pw_steps 3 (s' := (9, [some (.int (ei_ (5))), some (.int (ei_ (v)))], [.int (ei_ (6)), .int (ei_ (5))], m)) rfl ?_
      refine pw_cmpF rfl (by decide) (by decide) (show ¬ (6 ≤ 5) by decide) ?_
      refine pw_steps 3 (s' := (17, [some (.int (ei_ (5))), some (.int (ei_ (v)))], [.int (ei_ (5)), .ref 1001, .int (ei_ (v))], m)) rfl ?_
      refine pw_ildE (x := 0) rfl rfl (by decide) (by decide) ?_
      refine pw_cmp rfl p4 (by decide) (fun (h129 : v < 0) => ?_) (fun (h129 : ¬ (v < 0)) => ?_)
      · refine pw_steps 1 (s' := (35, [some (.int (ei_ (5))), some (.int (ei_ (v)))], [.int (ei_ (0))], m)) rfl ?_
        refine pw_iret rfl rfl rfl ?_
        refine pw_ifF rfl (by decide) (show ¬ (¬ 0 = 0) by decide) ?_
        refine pw_steps 1 (s' := (21, [some (.ref 0), some (.int (ei_ (a))), some (.int (ei_ (5))), some (.int (ei_ (v))), none], [.int (ei_ ((-1)))], m)) rfl ?_
        refine pw_iret rfl rfl rfl ?_
        exact k0 (by omega)
      · refine pw_steps 3 (s' := (26, [some (.int (ei_ (5))), some (.int (ei_ (v)))], [.int (ei_ (5)), .ref 1002, .int (ei_ (v))], m)) rfl ?_
        refine pw_ildE (x := 9) rfl rfl (by decide) (by decide) ?_
        refine pw_cmp rfl p4 (by decide) (fun (h130 : 9 < v) => ?_) (fun (h130 : ¬ (9 < v)) => ?_)
        · refine pw_steps 1 (s' := (35, [some (.int (ei_ (5))), some (.int (ei_ (v)))], [.int (ei_ (0))], m)) rfl ?_
          refine pw_iret rfl rfl rfl ?_
          refine pw_ifF rfl (by decide) (show ¬ (¬ 0 = 0) by decide) ?_
          refine pw_steps 1 (s' := (21, [some (.ref 0), some (.int (ei_ (a))), some (.int (ei_ (5))), some (.int (ei_ (v))), none], [.int (ei_ ((-1)))], m)) rfl ?_
          refine pw_iret rfl rfl rfl ?_
          exact k0 (by omega)
        · refine pw_steps 2 (s' := (35, [some (.int (ei_ (5))), some (.int (ei_ (v)))], [.int (ei_ (1))], m)) rfl ?_
          refine pw_iret rfl rfl rfl ?_
          refine pw_ifT rfl (by decide) (show ¬ 1 = 0 by decide) ?_
          refine pw_steps 4 (s' := (28, [some (.ref 0), some (.int (ei_ (a))), some (.int (ei_ (5))), some (.int (ei_ (v))), none], [.int (ei_ (5)), .int (ei_ (a)), .ref 1], m)) rfl ?_
          refine pw_call (As := [.int (ei_ (a)), .int (ei_ (5))]) (st := []) (k := 1) rfl rfl rfl rfl rfl (Nat.le_of_ble_eq_true rfl) ?_
          refine pw_intro (I := iX3_told) (T := tX3_told) rfl rfl rfl ?_
          refine pw_steps 3 (s' := (3, [some (.ref 1), some (.int (ei_ (a))), some (.int (ei_ (5)))], [.int (ei_ (5)), .int (ei_ (a)), .ref 1], m)) rfl ?_
          refine pw_call (As := [.int (ei_ (a)), .int (ei_ (5))]) (st := []) (k := 1) rfl rfl rfl rfl rfl (Nat.le_of_ble_eq_true rfl) ?_
          refine pw_intro (I := iX3_tells) (T := tX3_tells) rfl rfl rfl ?_
          refine pw_steps 1 (s' := (1, [some (.ref 1), some (.int (ei_ (a))), some (.int (ei_ (5)))], [.int (ei_ (5))], m)) rfl ?_
          refine pw_ifF rfl (by decide) (show ¬ (5 < 0) by decide) ?_
          refine pw_steps 2 (s' := (6, [some (.ref 1), some (.int (ei_ (a))), some (.int (ei_ (5)))], [.int (ei_ (5)), .int (ei_ (5))], m)) rfl ?_
          refine pw_cmpT rfl (by decide) (by decide) (show 5 ≤ 5 by decide) ?_
          refine pw_steps 2 (s' := (13, [some (.ref 1), some (.int (ei_ (a))), some (.int (ei_ (5)))], [.int (ei_ (4)), .int (ei_ (5))], m)) rfl ?_
          refine pw_cmpT rfl (by decide) (by decide) (show 4 ≤ 5 by decide) ?_
          refine pw_steps 1 (s' := (25, [some (.ref 1), some (.int (ei_ (a))), some (.int (ei_ (5)))], [.int (ei_ (a))], m)) rfl ?_
          refine pw_ifF rfl p2 (show ¬ (¬ a = 0) by omega) ?_
          refine pw_steps 2 (s' := (33, [some (.ref 1), some (.int (ei_ (a))), some (.int (ei_ (5)))], [.int (ei_ (1))], m)) rfl ?_
          refine pw_iret rfl rfl rfl ?_
          refine pw_ifF rfl (by decide) (show ¬ (1 = 0) by decide) ?_
          refine pw_steps 4 (s' := (15, [some (.ref 1), some (.int (ei_ (a))), some (.int (ei_ (5)))], [.int (ei_ (5)), .int (ei_ (a)), .ref 2], m)) rfl ?_
          refine pw_callS (As := [.int (ei_ (a)), .int (ei_ (5))]) (st := [.ref 2]) rfl (by decide) rfl rfl (Nat.le_of_ble_eq_true rfl) ?_
          refine pw_intro (I := iX3_placeOf) (T := tX3_placeOf) rfl rfl rfl ?_
          refine pw_steps 2 (s' := (2, [some (.int (ei_ (a))), some (.int (ei_ (5)))], [.int (ei_ (4)), .int (ei_ (5))], m)) rfl ?_
          refine pw_cmpT rfl (by decide) (by decide) (show 4 ≤ 5 by decide) ?_
          refine pw_steps 5 (s' := (20, [some (.int (ei_ (a))), some (.int (ei_ (5)))], [.int (((ei_ (32)) + (ei_ (5))) - (ei_ (4)))], m)) rfl ?_
          refine pw_cv (congrArg (fun z_ : Int32 => ((20, [some (.int (ei_ (a))), some (.int (ei_ (5)))], [.int z_], m) : am_S)) (ei_sub (ei_add rfl rfl) rfl)) ?_
          refine pw_iret rfl rfl rfl ?_
          refine pw_ild rfl rfl (by omega) (fun x131 (hx131 : x131 = vi_ m 2 33) rx131 sx131 => ?_)
          refine pw_steps 1 (s' := (23, [some (.ref 1), some (.int (ei_ (a))), some (.int (ei_ (5)))], [.int (ei_ (x131))], m)) rfl ?_
          refine pw_iret rfl rfl rfl ?_
          refine pw_steps 3 (s' := (36, [some (.ref 0), some (.int (ei_ (a))), some (.int (ei_ (5))), some (.int (ei_ (v))), some (.int (ei_ (x131)))], [.int (ei_ (v)), .int (ei_ (x131))], m)) rfl ?_
          refine pw_cmp rfl ⟨rx131, sx131⟩ p4 (fun (h132 : x131 = v) => ?_) (fun (h132 : ¬ (x131 = v)) => ?_)
          · refine pw_steps 1 (s' := (63, [some (.ref 0), some (.int (ei_ (a))), some (.int (ei_ (5))), some (.int (ei_ (v))), some (.int (ei_ (x131)))], [.int (ei_ (x131))], m)) rfl ?_
            refine pw_iret rfl rfl rfl ?_
            have hxv_ : x131 = v := by omega
            rw [hxv_]
            exact k1 33 (by omega) (by unfold tl_; omega) (by omega)
          · refine pw_steps 5 (s' := (46, [some (.ref 0), some (.int (ei_ (a))), some (.int (ei_ (5))), some (.int (ei_ (v))), some (.int (ei_ (x131)))], [.int (ei_ (v)), .int (ei_ (5)), .int (ei_ (a)), .ref 1], m)) rfl ?_
            refine pw_call (As := [.int (ei_ (a)), .int (ei_ (5)), .int (ei_ (v))]) (st := []) (k := 1) rfl rfl rfl rfl rfl (Nat.le_of_ble_eq_true rfl) ?_
            refine cw_tell (P := (vi_ m 1 1)) (rfl) (by omega) (by omega) (p4) (p2) (by omega) (fun pl133 g134 => ?_)
            have hpl_ : pl133 = 33 := by omega
            subst pl133
            refine pw_steps 6 (s' := (58, [some (.ref 0), some (.int (ei_ (a))), some (.int (ei_ (5))), some (.int (ei_ (v))), some (.int (ei_ (x131)))], [.int (ei_ (v)), .int (ei_ (x131)), .int (ei_ (5)), .int (ei_ (a)), .ref 24], wi_ m 2 (33) (v))) rfl ?_
            refine pw_call (As := [.int (ei_ (a)), .int (ei_ (5)), .int (ei_ (x131)), .int (ei_ (v))]) (st := []) (k := 24) rfl rfl rfl rfl rfl (Nat.le_of_ble_eq_true rfl) ?_
            refine cs_chg (p1) (p2) (by omega) (by omega) (p4) (fun n135 s136 m1137 g138 g139 g140 g141 g142 g143 g144 g145 g146 g147 g148 g149 => ?_)
            refine pw_steps 1 (s' := (63, [some (.ref 0), some (.int (ei_ (a))), some (.int (ei_ (5))), some (.int (ei_ (v))), some (.int (ei_ (x131)))], [.int (ei_ (x131))], m1137)) rfl ?_
            refine pw_iret rfl rfl rfl ?_
            exact k2 x131 33 n135 s136 m1137 (by omega) (by unfold tl_; omega) (by omega) (by omega) g138 ((sm_tr (sm_w (sm_rfl m) (fun _ h_ => by rw [h_]; rfl)) (sm_le g139 pCh_Mc))) (by intro j a_; rw [sm_f g139 (k := 2) (fun _ => rfl)]; simp (disch := omega) only [vi_up]) g140 g141 g142 g143 g144 g145 g146 g147 g148 g149
  · refine pw_steps 4 (s' := (6, [some (.ref 0), some (.int (ei_ (a))), some (.int (ei_ (b))), some (.int (ei_ (v))), none], [.int (ei_ (b)), .int (ei_ (a)), .ref 1], m)) rfl ?_
    refine pw_call (As := [.int (ei_ (a)), .int (ei_ (b))]) (st := []) (k := 1) rfl rfl rfl rfl rfl (Nat.le_of_ble_eq_true rfl) ?_
    refine pw_intro (I := iX3_tells) (T := tX3_tells) rfl rfl rfl ?_
    refine pw_steps 1 (s' := (1, [some (.ref 1), some (.int (ei_ (a))), some (.int (ei_ (b)))], [.int (ei_ (b))], m)) rfl ?_
    refine pw_ifF rfl p3 (show ¬ (b < 0) by omega) ?_
    refine pw_steps 2 (s' := (6, [some (.ref 1), some (.int (ei_ (a))), some (.int (ei_ (b)))], [.int (ei_ (5)), .int (ei_ (b))], m)) rfl ?_
    refine pw_cmpF rfl p3 (by decide) (show ¬ (b ≤ 5) by omega) ?_
    refine pw_steps 1 (s' := (10, [some (.ref 1), some (.int (ei_ (a))), some (.int (ei_ (b)))], [.int (ei_ (0))], m)) rfl ?_
    refine pw_iret rfl rfl rfl ?_
    refine pw_ifT rfl (by decide) (show 0 = 0 by decide) ?_
    refine pw_steps 1 (s' := (21, [some (.ref 0), some (.int (ei_ (a))), some (.int (ei_ (b))), some (.int (ei_ (v))), none], [.int (ei_ ((-1)))], m)) rfl ?_
    refine pw_iret rfl rfl rfl ?_
    exact k0 (by omega)

def pM3 (k j : Nat) : Bool := k == 49 || k == 50 || k == 51
def pMb2 (k j : Nat) : Bool := k == 48 || k == 49 || k == 50 || k == 51 || (k == 47 && j == 4) || (k == 47 && j == 5)
theorem pM3_Mb2 : ∀ k j, pMb2 k j = false → pM3 k j = false := by
  intro k j h
  simp only [pM3, pMb2, Bool.or_eq_false_iff, Bool.and_eq_false_iff, beq_eq_false_iff_ne, decide_eq_false_iff_not] at h ⊢
  omega

set_option maxHeartbeats 4000000 in
set_option maxRecDepth 20000 in
theorem ms_bec {q : am_X} {d : Nat} {m : am_M} {Q : Option Value → am_M → Prop} {p : Int} {v : Int}  (p0 : 0 ≤ p ∧ p < 34) (p1 : 0 ≤ vi_ m 47 5 ∧ vi_ m 47 5 ≤ 40) (p2 : -2147483648 ≤ v ∧ v < 2147483648) (p3 : -2147483648 ≤ p ∧ p < 2147483648) (k0 : (vi_ m 48 p = v) → Q (some (.int (ei_ (v)))) m) (k1 : ∀ (x : Int) (n : Int) (s : Int) (m1 : am_M), (x = vi_ m 48 p) → (¬ x = v) → (ns_ (vi_ m 47 5) n s) → (sm_ pMb2 m m1) → (∀ j, 0 ≤ j → vi_ m1 48 j = if j = p then v else vi_ m 48 j) → (vi_ m1 47 5 = n + 1) → (vi_ m1 47 4 = n + 1) → (∀ j, 0 ≤ j → j < n → vi_ m1 49 j = vi_ m 49 (j + s)) → (vi_ m1 49 n = p) → (∀ j, 0 ≤ j → j < n → vi_ m1 50 j = vi_ m 50 (j + s)) → (vi_ m1 50 n = x) → (∀ j, 0 ≤ j → j < n → vi_ m1 51 j = vi_ m 51 (j + s)) → (vi_ m1 51 n = v) → Q (some (.int (ei_ (x)))) m1) : pw_C q (d + 2) 185 [.ref 47, .int (ei_ (p)), .int (ei_ (v))] m Q := by
  refine pw_intro (I := iX9_becomes) (T := tX9_becomes) rfl rfl rfl ?_
  refine pw_steps 3 (s' := (5, [some (.ref 47), some (.int (ei_ (p))), some (.int (ei_ (v))), none, none], [.int (ei_ (p)), .ref 48], m)) rfl ?_
  refine pw_ild rfl rfl (by omega) (fun x1 (hx1 : x1 = vi_ m 48 p) rx1 sx1 => ?_)
  refine pw_steps 3 (s' := (9, [some (.ref 47), some (.int (ei_ (p))), some (.int (ei_ (v))), some (.int (ei_ (x1))), none], [.int (ei_ (v)), .int (ei_ (x1))], m)) rfl ?_
  refine pw_cmp rfl ⟨rx1, sx1⟩ p2 (fun (h2 : ¬ x1 = v) => ?_) (fun (h2 : ¬ ¬ x1 = v) => ?_)
  · refine pw_steps 1 (s' := (15, [some (.ref 47), some (.int (ei_ (p))), some (.int (ei_ (v))), some (.int (ei_ (x1))), none], [.ref 47], m)) rfl ?_
    refine pw_get rfl rfl (fun x3 (hx3 : x3 = vi_ m 47 5) rx3 sx3 => ?_)
    refine pw_steps 1 (s' := (20, [some (.ref 47), some (.int (ei_ (p))), some (.int (ei_ (v))), some (.int (ei_ (x1))), none], [.int (ei_ (40)), .int (ei_ (x3))], m)) rfl ?_
    refine pw_cmp rfl ⟨rx3, sx3⟩ (by decide) (fun (h4 : ¬ x3 = 40) => ?_) (fun (h4 : ¬ ¬ x3 = 40) => ?_)
    · refine pw_steps 3 (s' := (102, [some (.ref 47), some (.int (ei_ (p))), some (.int (ei_ (v))), some (.int (ei_ (x1))), none], [.ref 47, .ref 49], m)) rfl ?_
      refine pw_getE (x := x3) rfl rfl hx3 ?_
      refine pw_steps 1 (s' := (106, [some (.ref 47), some (.int (ei_ (p))), some (.int (ei_ (v))), some (.int (ei_ (x1))), none], [.int (ei_ (p)), .int (ei_ (x3)), .ref 49], m)) rfl ?_
      refine pw_ist rfl rfl (by omega) ?_
      refine pw_steps 3 (s' := (112, [some (.ref 47), some (.int (ei_ (p))), some (.int (ei_ (v))), some (.int (ei_ (x1))), none], [.ref 47, .ref 50], wi_ m 49 (x3) (p))) rfl ?_
      refine pw_getE (x := x3) rfl rfl hx3 ?_
      refine pw_steps 1 (s' := (116, [some (.ref 47), some (.int (ei_ (p))), some (.int (ei_ (v))), some (.int (ei_ (x1))), none], [.int (ei_ (x1)), .int (ei_ (x3)), .ref 50], wi_ m 49 (x3) (p))) rfl ?_
      refine pw_ist rfl rfl (by omega) ?_
      refine pw_steps 3 (s' := (122, [some (.ref 47), some (.int (ei_ (p))), some (.int (ei_ (v))), some (.int (ei_ (x1))), none], [.ref 47, .ref 51], wi_ (wi_ m 49 (x3) (p)) 50 (x3) (x1))) rfl ?_
      refine pw_getE (x := x3) rfl rfl hx3 ?_
      refine pw_steps 1 (s' := (126, [some (.ref 47), some (.int (ei_ (p))), some (.int (ei_ (v))), some (.int (ei_ (x1))), none], [.int (ei_ (v)), .int (ei_ (x3)), .ref 51], wi_ (wi_ m 49 (x3) (p)) 50 (x3) (x1))) rfl ?_
      refine pw_ist rfl rfl (by omega) ?_
      refine pw_steps 2 (s' := (129, [some (.ref 47), some (.int (ei_ (p))), some (.int (ei_ (v))), some (.int (ei_ (x1))), none], [.ref 47, .ref 47], wi_ (wi_ (wi_ m 49 (x3) (p)) 50 (x3) (x1)) 51 (x3) (v))) rfl ?_
      refine pw_getE (x := x3) rfl rfl hx3 ?_
      refine pw_steps 2 (s' := (134, [some (.ref 47), some (.int (ei_ (p))), some (.int (ei_ (v))), some (.int (ei_ (x1))), none], [.int ((ei_ (x3)) + (ei_ (1))), .ref 47], wi_ (wi_ (wi_ m 49 (x3) (p)) 50 (x3) (x1)) 51 (x3) (v))) rfl ?_
      refine pw_cv (congrArg (fun z_ : Int32 => ((134, [some (.ref 47), some (.int (ei_ (p))), some (.int (ei_ (v))), some (.int (ei_ (x1))), none], [.int z_, .ref 47], wi_ (wi_ (wi_ m 49 (x3) (p)) 50 (x3) (x1)) 51 (x3) (v)) : am_S)) (ei_add rfl rfl)) ?_
      refine pw_put (v := (x3 + 1)) rfl rfl (Or.inl rfl) ?_
      refine pw_cv (s' := (137, [some (.ref 47), some (.int (ei_ (p))), some (.int (ei_ (v))), some (.int (ei_ (x1))), none], [], wi_ (wi_ (wi_ (wi_ m 49 (x3) (p)) 50 (x3) (x1)) 51 (x3) (v)) 47 (5) ((x3 + 1)))) rfl ?_
      refine pw_steps 3 (s' := (142, [some (.ref 47), some (.int (ei_ (p))), some (.int (ei_ (v))), some (.int (ei_ (x1))), none], [.int (ei_ ((x3 + 1))), .ref 47], wi_ (wi_ (wi_ (wi_ m 49 (x3) (p)) 50 (x3) (x1)) 51 (x3) (v)) 47 (5) ((x3 + 1)))) rfl ?_
      refine pw_put (v := (x3 + 1)) rfl rfl (Or.inl rfl) ?_
      refine pw_cv (s' := (145, [some (.ref 47), some (.int (ei_ (p))), some (.int (ei_ (v))), some (.int (ei_ (x1))), none], [], wi_ (wi_ (wi_ (wi_ (wi_ m 49 (x3) (p)) 50 (x3) (x1)) 51 (x3) (v)) 47 (5) ((x3 + 1))) 47 (4) ((x3 + 1)))) rfl ?_
      refine pw_steps 4 (s' := (151, [some (.ref 47), some (.int (ei_ (p))), some (.int (ei_ (v))), some (.int (ei_ (x1))), none], [.int (ei_ (v)), .int (ei_ (p)), .ref 48], wi_ (wi_ (wi_ (wi_ (wi_ m 49 (x3) (p)) 50 (x3) (x1)) 51 (x3) (v)) 47 (5) ((x3 + 1))) 47 (4) ((x3 + 1)))) rfl ?_
      refine pw_ist rfl rfl (by omega) ?_
      refine pw_steps 1 (s' := (153, [some (.ref 47), some (.int (ei_ (p))), some (.int (ei_ (v))), some (.int (ei_ (x1))), none], [.int (ei_ (x1))], wi_ (wi_ (wi_ (wi_ (wi_ (wi_ m 49 (x3) (p)) 50 (x3) (x1)) 51 (x3) (v)) 47 (5) ((x3 + 1))) 47 (4) ((x3 + 1))) 48 (p) (v))) rfl ?_
      refine pw_iret rfl rfl rfl ?_
      exact k1 x1 x3 0 (wi_ (wi_ (wi_ (wi_ (wi_ (wi_ m 49 (x3) (p)) 50 (x3) (x1)) 51 (x3) (v)) 47 (5) ((x3 + 1))) 47 (4) ((x3 + 1))) 48 (p) (v)) (by omega) (by omega) (by unfold ns_; omega) ((sm_w (sm_w (sm_w (sm_w (sm_w (sm_w (sm_rfl m) (fun _ h_ => by rw [h_]; rfl)) (fun _ h_ => by rw [h_]; rfl)) (fun _ h_ => by rw [h_]; rfl)) (fun _ h_ => by rw [h_]; rfl)) (fun _ h_ => by rw [h_]; rfl)) (fun _ h_ => by rw [h_]; rfl))) (by intro j a_; (simp (disch := omega) only [vi_up, vi_ne])) (((ei_i (by omega))).trans (by omega)) (((ei_i (by omega))).trans (by omega)) (by intro j a_ b_; (simp (disch := omega) only [vi_up, vi_ne]); rw [if_neg (by omega), Int.add_zero]) (by simp (disch := omega) only [vi_up, vi_ne, if_true, eq_self]) (by intro j a_ b_; (simp (disch := omega) only [vi_up, vi_ne]); rw [if_neg (by omega), Int.add_zero]) (by simp (disch := omega) only [vi_up, vi_ne, if_true, eq_self]) (by intro j a_ b_; (simp (disch := omega) only [vi_up, vi_ne]); rw [if_neg (by omega), Int.add_zero]) (by simp (disch := omega) only [vi_up, vi_ne, if_true, eq_self])
    · refine pw_steps 2 (s' := (26, [some (.ref 47), some (.int (ei_ (p))), some (.int (ei_ (v))), some (.int (ei_ (x1))), some (.int (ei_ (1)))], [], m)) rfl ?_
      have L7 : ∀ (n5 : Nat) (k : Int) (m1 : am_M), (40 - k).toNat = n5 → (1 ≤ k ∧ k ≤ 40) → (sm_ pM3 m m1) → (∀ j, 0 ≤ j → j < k - 1 → vi_ m1 49 j = vi_ m 49 (j + 1)) → (∀ j, k - 1 ≤ j → j < 40 → vi_ m1 49 j = vi_ m 49 j) → (∀ j, 0 ≤ j → j < k - 1 → vi_ m1 50 j = vi_ m 50 (j + 1)) → (∀ j, k - 1 ≤ j → j < 40 → vi_ m1 50 j = vi_ m 50 j) → (∀ j, 0 ≤ j → j < k - 1 → vi_ m1 51 j = vi_ m 51 (j + 1)) → (∀ j, k - 1 ≤ j → j < 40 → vi_ m1 51 j = vi_ m 51 j) → pw_V q (d + 1) iX9_becomes.2.2.2.1 tX9_becomes Q (26, [some (.ref 47), some (.int (ei_ (p))), some (.int (ei_ (v))), some (.int (ei_ (x1))), some (.int (ei_ (k)))], [], m1) := by
        intro n5
        induction n5 using Nat.strongRecOn with
        | _ n5 ih6 =>
          intro k m1 hm_n5 v8 hs hA49 hB49 hA50 hB50 hA51 hB51
          refine pw_steps 2 (s' := (30, [some (.ref 47), some (.int (ei_ (p))), some (.int (ei_ (v))), some (.int (ei_ (x1))), some (.int (ei_ (k)))], [.int (ei_ (40)), .int (ei_ (k))], m1)) rfl ?_
          refine pw_cmp rfl (by omega) (by decide) (fun (h9 : 40 ≤ k) => ?_) (fun (h9 : ¬ (40 ≤ k)) => ?_)
          · refine pw_steps 2 (s' := (89, [some (.ref 47), some (.int (ei_ (p))), some (.int (ei_ (v))), some (.int (ei_ (x1))), some (.int (ei_ (k)))], [.ref 47, .ref 47], m1)) rfl ?_
            refine pw_get rfl rfl (fun x10 (hx10 : x10 = vi_ m1 47 5) rx10 sx10 => ?_)
            have ox10 := hx10
            replace hx10 : x10 = vi_ m 47 5 := hx10.trans (sm_v hs rfl)
            refine pw_steps 2 (s' := (94, [some (.ref 47), some (.int (ei_ (p))), some (.int (ei_ (v))), some (.int (ei_ (x1))), some (.int (ei_ (k)))], [.int ((ei_ (x10)) - (ei_ (1))), .ref 47], m1)) rfl ?_
            refine pw_cv (congrArg (fun z_ : Int32 => ((94, [some (.ref 47), some (.int (ei_ (p))), some (.int (ei_ (v))), some (.int (ei_ (x1))), some (.int (ei_ (k)))], [.int z_, .ref 47], m1) : am_S)) (ei_sub rfl rfl)) ?_
            refine pw_put (v := (x10 - 1)) rfl rfl (Or.inl rfl) ?_
            refine pw_cv (s' := (97, [some (.ref 47), some (.int (ei_ (p))), some (.int (ei_ (v))), some (.int (ei_ (x1))), some (.int (ei_ (k)))], [], wi_ m1 47 (5) ((x10 - 1)))) rfl ?_
            refine pw_steps 5 (s' := (106, [some (.ref 47), some (.int (ei_ (p))), some (.int (ei_ (v))), some (.int (ei_ (x1))), some (.int (ei_ (k)))], [.int (ei_ (p)), .int (ei_ ((x10 - 1))), .ref 49], wi_ m1 47 (5) ((x10 - 1)))) rfl ?_
            refine pw_ist rfl rfl (by omega) ?_
            refine pw_steps 5 (s' := (116, [some (.ref 47), some (.int (ei_ (p))), some (.int (ei_ (v))), some (.int (ei_ (x1))), some (.int (ei_ (k)))], [.int (ei_ (x1)), .int (ei_ ((x10 - 1))), .ref 50], wi_ (wi_ m1 47 (5) ((x10 - 1))) 49 ((x10 - 1)) (p))) rfl ?_
            refine pw_ist rfl rfl (by omega) ?_
            refine pw_steps 5 (s' := (126, [some (.ref 47), some (.int (ei_ (p))), some (.int (ei_ (v))), some (.int (ei_ (x1))), some (.int (ei_ (k)))], [.int (ei_ (v)), .int (ei_ ((x10 - 1))), .ref 51], wi_ (wi_ (wi_ m1 47 (5) ((x10 - 1))) 49 ((x10 - 1)) (p)) 50 ((x10 - 1)) (x1))) rfl ?_
            refine pw_ist rfl rfl (by omega) ?_
            refine pw_steps 5 (s' := (134, [some (.ref 47), some (.int (ei_ (p))), some (.int (ei_ (v))), some (.int (ei_ (x1))), some (.int (ei_ (k)))], [.int ((ei_ ((x10 - 1))) + (ei_ (1))), .ref 47], wi_ (wi_ (wi_ (wi_ m1 47 (5) ((x10 - 1))) 49 ((x10 - 1)) (p)) 50 ((x10 - 1)) (x1)) 51 ((x10 - 1)) (v))) rfl ?_
            refine pw_cv (congrArg (fun z_ : Int32 => ((134, [some (.ref 47), some (.int (ei_ (p))), some (.int (ei_ (v))), some (.int (ei_ (x1))), some (.int (ei_ (k)))], [.int z_, .ref 47], wi_ (wi_ (wi_ (wi_ m1 47 (5) ((x10 - 1))) 49 ((x10 - 1)) (p)) 50 ((x10 - 1)) (x1)) 51 ((x10 - 1)) (v)) : am_S)) (ei_add rfl rfl)) ?_
            refine pw_put (v := ((x10 - 1) + 1)) rfl rfl (Or.inl rfl) ?_
            refine pw_cv (s' := (137, [some (.ref 47), some (.int (ei_ (p))), some (.int (ei_ (v))), some (.int (ei_ (x1))), some (.int (ei_ (k)))], [], wi_ (wi_ (wi_ (wi_ (wi_ m1 47 (5) ((x10 - 1))) 49 ((x10 - 1)) (p)) 50 ((x10 - 1)) (x1)) 51 ((x10 - 1)) (v)) 47 (5) (((x10 - 1) + 1)))) rfl ?_
            refine pw_steps 3 (s' := (142, [some (.ref 47), some (.int (ei_ (p))), some (.int (ei_ (v))), some (.int (ei_ (x1))), some (.int (ei_ (k)))], [.int (ei_ (((x10 - 1) + 1))), .ref 47], wi_ (wi_ (wi_ (wi_ (wi_ m1 47 (5) ((x10 - 1))) 49 ((x10 - 1)) (p)) 50 ((x10 - 1)) (x1)) 51 ((x10 - 1)) (v)) 47 (5) (((x10 - 1) + 1)))) rfl ?_
            refine pw_put (v := ((x10 - 1) + 1)) rfl rfl (Or.inl rfl) ?_
            refine pw_cv (s' := (145, [some (.ref 47), some (.int (ei_ (p))), some (.int (ei_ (v))), some (.int (ei_ (x1))), some (.int (ei_ (k)))], [], wi_ (wi_ (wi_ (wi_ (wi_ (wi_ m1 47 (5) ((x10 - 1))) 49 ((x10 - 1)) (p)) 50 ((x10 - 1)) (x1)) 51 ((x10 - 1)) (v)) 47 (5) (((x10 - 1) + 1))) 47 (4) (((x10 - 1) + 1)))) rfl ?_
            refine pw_steps 4 (s' := (151, [some (.ref 47), some (.int (ei_ (p))), some (.int (ei_ (v))), some (.int (ei_ (x1))), some (.int (ei_ (k)))], [.int (ei_ (v)), .int (ei_ (p)), .ref 48], wi_ (wi_ (wi_ (wi_ (wi_ (wi_ m1 47 (5) ((x10 - 1))) 49 ((x10 - 1)) (p)) 50 ((x10 - 1)) (x1)) 51 ((x10 - 1)) (v)) 47 (5) (((x10 - 1) + 1))) 47 (4) (((x10 - 1) + 1)))) rfl ?_
            refine pw_ist rfl rfl (by omega) ?_
            refine pw_steps 1 (s' := (153, [some (.ref 47), some (.int (ei_ (p))), some (.int (ei_ (v))), some (.int (ei_ (x1))), some (.int (ei_ (k)))], [.int (ei_ (x1))], wi_ (wi_ (wi_ (wi_ (wi_ (wi_ (wi_ m1 47 (5) ((x10 - 1))) 49 ((x10 - 1)) (p)) 50 ((x10 - 1)) (x1)) 51 ((x10 - 1)) (v)) 47 (5) (((x10 - 1) + 1))) 47 (4) (((x10 - 1) + 1))) 48 (p) (v))) rfl ?_
            refine pw_iret rfl rfl rfl ?_
            exact k1 x1 (x10 - 1) 1 (wi_ (wi_ (wi_ (wi_ (wi_ (wi_ (wi_ m1 47 (5) ((x10 - 1))) 49 ((x10 - 1)) (p)) 50 ((x10 - 1)) (x1)) 51 ((x10 - 1)) (v)) 47 (5) (((x10 - 1) + 1))) 47 (4) (((x10 - 1) + 1))) 48 (p) (v)) (by omega) (by omega) (by unfold ns_; omega) ((sm_w (sm_w (sm_w (sm_w (sm_w (sm_w (sm_w (sm_le hs pM3_Mb2) (fun _ h_ => by rw [h_]; rfl)) (fun _ h_ => by rw [h_]; rfl)) (fun _ h_ => by rw [h_]; rfl)) (fun _ h_ => by rw [h_]; rfl)) (fun _ h_ => by rw [h_]; rfl)) (fun _ h_ => by rw [h_]; rfl)) (fun _ h_ => by rw [h_]; rfl))) (by intro j a_; (simp (disch := omega) only [vi_up, vi_ne]); rw [sm_f hs (k := 48) (fun _ => rfl)]) (((ei_i (by omega))).trans (by omega)) (((ei_i (by omega))).trans (by omega)) (by intro j a_ b_; (simp (disch := omega) only [vi_up, vi_ne]); rw [if_neg (by omega)]; exact hA49 j a_ (by omega)) (by simp (disch := omega) only [vi_up, vi_ne, if_true, eq_self]) (by intro j a_ b_; (simp (disch := omega) only [vi_up, vi_ne]); rw [if_neg (by omega)]; exact hA50 j a_ (by omega)) (by simp (disch := omega) only [vi_up, vi_ne, if_true, eq_self]) (by intro j a_ b_; (simp (disch := omega) only [vi_up, vi_ne]); rw [if_neg (by omega)]; exact hA51 j a_ (by omega)) (by simp (disch := omega) only [vi_up, vi_ne, if_true, eq_self])
          · refine pw_steps 8 (s' := (47, [some (.ref 47), some (.int (ei_ (p))), some (.int (ei_ (v))), some (.int (ei_ (x1))), some (.int (ei_ (k)))], [.int (ei_ (k)), .ref 49, .int ((ei_ (k)) - (ei_ (1))), .ref 49], m1)) rfl ?_
            refine pw_cv (congrArg (fun z_ : Int32 => ((47, [some (.ref 47), some (.int (ei_ (p))), some (.int (ei_ (v))), some (.int (ei_ (x1))), some (.int (ei_ (k)))], [.int (ei_ (k)), .ref 49, .int z_, .ref 49], m1) : am_S)) (ei_sub rfl rfl)) ?_
            refine pw_ild rfl rfl (by omega) (fun x11 (hx11 : x11 = vi_ m1 49 k) rx11 sx11 => ?_)
            have b12 := hB49 k (by omega) (by omega)
            refine pw_ist rfl rfl (by omega) ?_
            refine pw_steps 8 (s' := (63, [some (.ref 47), some (.int (ei_ (p))), some (.int (ei_ (v))), some (.int (ei_ (x1))), some (.int (ei_ (k)))], [.int (ei_ (k)), .ref 50, .int ((ei_ (k)) - (ei_ (1))), .ref 50], wi_ m1 49 ((k - 1)) (x11))) rfl ?_
            refine pw_cv (congrArg (fun z_ : Int32 => ((63, [some (.ref 47), some (.int (ei_ (p))), some (.int (ei_ (v))), some (.int (ei_ (x1))), some (.int (ei_ (k)))], [.int (ei_ (k)), .ref 50, .int z_, .ref 50], wi_ m1 49 ((k - 1)) (x11)) : am_S)) (ei_sub rfl rfl)) ?_
            refine pw_ild rfl rfl (by omega) (fun x13 (hx13 : x13 = vi_ m1 50 k) rx13 sx13 => ?_)
            have b14 := hB50 k (by omega) (by omega)
            refine pw_ist rfl rfl (by omega) ?_
            refine pw_steps 8 (s' := (79, [some (.ref 47), some (.int (ei_ (p))), some (.int (ei_ (v))), some (.int (ei_ (x1))), some (.int (ei_ (k)))], [.int (ei_ (k)), .ref 51, .int ((ei_ (k)) - (ei_ (1))), .ref 51], wi_ (wi_ m1 49 ((k - 1)) (x11)) 50 ((k - 1)) (x13))) rfl ?_
            refine pw_cv (congrArg (fun z_ : Int32 => ((79, [some (.ref 47), some (.int (ei_ (p))), some (.int (ei_ (v))), some (.int (ei_ (x1))), some (.int (ei_ (k)))], [.int (ei_ (k)), .ref 51, .int z_, .ref 51], wi_ (wi_ m1 49 ((k - 1)) (x11)) 50 ((k - 1)) (x13)) : am_S)) (ei_sub rfl rfl)) ?_
            refine pw_ild rfl rfl (by omega) (fun x15 (hx15 : x15 = vi_ m1 51 k) rx15 sx15 => ?_)
            have b16 := hB51 k (by omega) (by omega)
            refine pw_ist rfl rfl (by omega) ?_
            refine pw_steps 2 (s' := (26, [some (.ref 47), some (.int (ei_ (p))), some (.int (ei_ (v))), some (.int (ei_ (x1))), some (.int ((ei_ (k)) + (ei_ (1))))], [], wi_ (wi_ (wi_ m1 49 ((k - 1)) (x11)) 50 ((k - 1)) (x13)) 51 ((k - 1)) (x15))) rfl ?_
            refine pw_cv (congrArg (fun z_ : Int32 => ((26, [some (.ref 47), some (.int (ei_ (p))), some (.int (ei_ (v))), some (.int (ei_ (x1))), some (.int z_)], [], wi_ (wi_ (wi_ m1 49 ((k - 1)) (x11)) 50 ((k - 1)) (x13)) 51 ((k - 1)) (x15)) : am_S)) (ei_add rfl rfl)) ?_
            exact ih6 _ (by omega) (k + 1) (wi_ (wi_ (wi_ m1 49 ((k - 1)) (x11)) 50 ((k - 1)) (x13)) 51 ((k - 1)) (x15)) rfl (by omega) ((sm_w (sm_w (sm_w hs (fun _ h_ => by rw [h_]; rfl)) (fun _ h_ => by rw [h_]; rfl)) (fun _ h_ => by rw [h_]; rfl))) (by intro j a_ b_; (simp (disch := omega) only [vi_up, vi_ne]); by_cases e_ : j = k - 1; (rw [if_pos e_, show j + 1 = k by omega]; omega); (rw [if_neg e_]; exact hA49 j a_ (by omega))) (by intro j a_ b_; (simp (disch := omega) only [vi_up, vi_ne]); rw [if_neg (by omega)]; exact hB49 j (by omega) b_) (by intro j a_ b_; (simp (disch := omega) only [vi_up, vi_ne]); by_cases e_ : j = k - 1; (rw [if_pos e_, show j + 1 = k by omega]; omega); (rw [if_neg e_]; exact hA50 j a_ (by omega))) (by intro j a_ b_; (simp (disch := omega) only [vi_up, vi_ne]); rw [if_neg (by omega)]; exact hB50 j (by omega) b_) (by intro j a_ b_; (simp (disch := omega) only [vi_up, vi_ne]); by_cases e_ : j = k - 1; (rw [if_pos e_, show j + 1 = k by omega]; omega); (rw [if_neg e_]; exact hA51 j a_ (by omega))) (by intro j a_ b_; (simp (disch := omega) only [vi_up, vi_ne]); rw [if_neg (by omega)]; exact hB51 j (by omega) b_)
      exact L7 _ 1 m rfl (by omega) ((sm_rfl m)) (by intro j a_ b_; omega) (by intro j a_ b_; rfl) (by intro j a_ b_; omega) (by intro j a_ b_; rfl) (by intro j a_ b_; omega) (by intro j a_ b_; rfl)
  · refine pw_steps 1 (s' := (13, [some (.ref 47), some (.int (ei_ (p))), some (.int (ei_ (v))), some (.int (ei_ (x1))), none], [.int (ei_ (x1))], m)) rfl ?_
    refine pw_iret rfl rfl rfl ?_
    have hxv_ : x1 = v := by omega
    rw [hxv_]
    exact k0 (by omega)

set_option maxHeartbeats 4000000 in
set_option maxRecDepth 20000 in
theorem ms_mend {q : am_X} {d : Nat} {m : am_M} {Q : Option Value → am_M → Prop} {a : Int} {b : Int} {v : Int}  (p0 : 0 ≤ vi_ m 1 1 ∧ vi_ m 1 1 ≤ 8) (p1 : vi_ m 47 6 = vi_ m 1 1) (p2 : 0 ≤ vi_ m 47 5 ∧ vi_ m 47 5 ≤ 40) (p3 : -2147483648 ≤ a ∧ a < 2147483648) (p4 : -2147483648 ≤ b ∧ b < 2147483648) (p5 : -2147483648 ≤ v ∧ v < 2147483648) (k0 : (¬ (((0 ≤ b ∧ b ≤ 3 ∧ 0 ≤ a ∧ a < vi_ m 1 1) ∨ (4 ≤ b ∧ b ≤ 5 ∧ a = 0)) ∧ (((b = 0 ∨ b = 2) ∧ 1 ≤ v ∧ v ≤ 9) ∨ (b = 3 ∧ 0 ≤ v ∧ v ≤ 1) ∨ ((b = 1 ∨ b = 4 ∨ b = 5) ∧ 0 ≤ v ∧ v ≤ 9)))) → Q (some (.int (ei_ ((-1))))) m) (k1 : ∀ (p : Int), (((b = 0 ∨ b = 2) ∧ 1 ≤ v ∧ v ≤ 9) ∨ (b = 3 ∧ 0 ≤ v ∧ v ≤ 1) ∨ ((b = 1 ∨ b = 4 ∨ b = 5) ∧ 0 ≤ v ∧ v ≤ 9)) → (tl_ m a b p) → (vi_ m 48 p = v) → Q (some (.int (ei_ (v)))) m) (k2 : ∀ (x : Int) (p : Int) (n : Int) (s : Int) (m1 : am_M), (((b = 0 ∨ b = 2) ∧ 1 ≤ v ∧ v ≤ 9) ∨ (b = 3 ∧ 0 ≤ v ∧ v ≤ 1) ∨ ((b = 1 ∨ b = 4 ∨ b = 5) ∧ 0 ≤ v ∧ v ≤ 9)) → (tl_ m a b p) → (x = vi_ m 48 p) → (¬ x = v) → (ns_ (vi_ m 47 5) n s) → (sm_ pMb2 m m1) → (∀ j, 0 ≤ j → vi_ m1 48 j = if j = p then v else vi_ m 48 j) → (vi_ m1 47 5 = n + 1) → (vi_ m1 47 4 = n + 1) → (∀ j, 0 ≤ j → j < n → vi_ m1 49 j = vi_ m 49 (j + s)) → (vi_ m1 49 n = p) → (∀ j, 0 ≤ j → j < n → vi_ m1 50 j = vi_ m 50 (j + s)) → (vi_ m1 50 n = x) → (∀ j, 0 ≤ j → j < n → vi_ m1 51 j = vi_ m 51 (j + s)) → (vi_ m1 51 n = v) → Q (some (.int (ei_ (x)))) m1) : pw_C q (d + 60) 181 [.ref 47, .int (ei_ (a)), .int (ei_ (b)), .int (ei_ (v))] m Q := by
  refine pw_intro (I := iX9_mend) (T := tX9_mend) rfl rfl rfl ?_
  rcases (show b < 0 ∨ b = 0 ∨ b = 1 ∨ b = 2 ∨ b = 3 ∨ b = 4 ∨ b = 5 ∨ 5 < b by omega) with h1 | h1 | h1 | h1 | h1 | h1 | h1 | h1
  · refine pw_steps 3 (s' := (3, [some (.ref 47), some (.int (ei_ (a))), some (.int (ei_ (b))), some (.int (ei_ (v))), none], [.int (ei_ (b)), .int (ei_ (a)), .ref 47], m)) rfl ?_
    refine pw_call (As := [.int (ei_ (a)), .int (ei_ (b))]) (st := []) (k := 47) rfl rfl rfl rfl rfl (Nat.le_of_ble_eq_true rfl) ?_
    refine pw_intro (I := iX9_placeOf) (T := tX9_placeOf) rfl rfl rfl ?_
    refine pw_steps 4 (s' := (6, [some (.ref 47), some (.int (ei_ (a))), some (.int (ei_ (b)))], [.long (el_ (3)), .long (el_ (0)), .long ((ei_ (b)).toInt64)], m)) rfl ?_
    refine pw_cv (congrArg (fun z_ : Int64 => ((6, [some (.ref 47), some (.int (ei_ (a))), some (.int (ei_ (b)))], [.long (el_ (3)), .long (el_ (0)), .long z_], m) : am_S)) (el_i2l p4 rfl)) ?_
    refine pw_callS (As := [.long (el_ (b)), .long (el_ (0)), .long (el_ (3))]) (st := []) rfl (by decide) rfl rfl (Nat.le_of_ble_eq_true rfl) ?_
    refine mt_within (by omega) (by omega) (by omega) (fun g2 g3 => ?_) (fun g4 => ?_) (fun g5 => ?_)
    · exact False.elim (by omega)
    · refine pw_ifT rfl (by decide) (show 0 = 0 by decide) ?_
      refine pw_steps 1 (s' := (33, [some (.ref 47), some (.int (ei_ (a))), some (.int (ei_ (b)))], [.int (ei_ (a))], m)) rfl ?_
      refine pw_if rfl p3 (fun (h6 : ¬ a = 0) => ?_) (fun (h6 : ¬ ¬ a = 0) => ?_)
      · refine pw_steps 1 (s' := (60, [some (.ref 47), some (.int (ei_ (a))), some (.int (ei_ (b)))], [.int (ei_ ((-1)))], m)) rfl ?_
        refine pw_iret rfl rfl rfl ?_
        refine pw_steps 2 (s' := (10, [some (.ref 47), some (.int (ei_ (a))), some (.int (ei_ (b))), some (.int (ei_ (v))), some (.int (ei_ ((-1))))], [.int (ei_ ((-1)))], m)) rfl ?_
        refine pw_ifT rfl (by decide) (show (-1) < 0 by decide) ?_
        refine pw_steps 1 (s' := (32, [some (.ref 47), some (.int (ei_ (a))), some (.int (ei_ (b))), some (.int (ei_ (v))), some (.int (ei_ ((-1))))], [.int (ei_ ((-1)))], m)) rfl ?_
        refine pw_iret rfl rfl rfl ?_
        exact k0 (by omega)
      · refine pw_steps 4 (s' := (44, [some (.ref 47), some (.int (ei_ (a))), some (.int (ei_ (b)))], [.long (el_ (5)), .long (el_ (4)), .long ((ei_ (b)).toInt64)], m)) rfl ?_
        refine pw_cv (congrArg (fun z_ : Int64 => ((44, [some (.ref 47), some (.int (ei_ (a))), some (.int (ei_ (b)))], [.long (el_ (5)), .long (el_ (4)), .long z_], m) : am_S)) (el_i2l p4 rfl)) ?_
        refine pw_callS (As := [.long (el_ (b)), .long (el_ (4)), .long (el_ (5))]) (st := []) rfl (by decide) rfl rfl (Nat.le_of_ble_eq_true rfl) ?_
        refine mt_within (by omega) (by omega) (by omega) (fun g7 g8 => ?_) (fun g9 => ?_) (fun g10 => ?_)
        · exact False.elim (by omega)
        · refine pw_ifT rfl (by decide) (show 0 = 0 by decide) ?_
          refine pw_steps 1 (s' := (60, [some (.ref 47), some (.int (ei_ (a))), some (.int (ei_ (b)))], [.int (ei_ ((-1)))], m)) rfl ?_
          refine pw_iret rfl rfl rfl ?_
          refine pw_steps 2 (s' := (10, [some (.ref 47), some (.int (ei_ (a))), some (.int (ei_ (b))), some (.int (ei_ (v))), some (.int (ei_ ((-1))))], [.int (ei_ ((-1)))], m)) rfl ?_
          refine pw_ifT rfl (by decide) (show (-1) < 0 by decide) ?_
          refine pw_steps 1 (s' := (32, [some (.ref 47), some (.int (ei_ (a))), some (.int (ei_ (b))), some (.int (ei_ (v))), some (.int (ei_ ((-1))))], [.int (ei_ ((-1)))], m)) rfl ?_
          refine pw_iret rfl rfl rfl ?_
          exact k0 (by omega)
        · exact False.elim (by omega)
    · exact False.elim (by omega)
  · subst h1
    refine pw_steps 3 (s' := (3, [some (.ref 47), some (.int (ei_ (a))), some (.int (ei_ (0))), some (.int (ei_ (v))), none], [.int (ei_ (0)), .int (ei_ (a)), .ref 47], m)) rfl ?_
    refine pw_call (As := [.int (ei_ (a)), .int (ei_ (0))]) (st := []) (k := 47) rfl rfl rfl rfl rfl (Nat.le_of_ble_eq_true rfl) ?_
    refine pw_intro (I := iX9_placeOf) (T := tX9_placeOf) rfl rfl rfl ?_
    refine pw_steps 4 (s' := (6, [some (.ref 47), some (.int (ei_ (a))), some (.int (ei_ (0)))], [.long (el_ (3)), .long (el_ (0)), .long ((ei_ (0)).toInt64)], m)) rfl ?_
    refine pw_cv (congrArg (fun z_ : Int64 => ((6, [some (.ref 47), some (.int (ei_ (a))), some (.int (ei_ (0)))], [.long (el_ (3)), .long (el_ (0)), .long z_], m) : am_S)) (el_i2l (by decide) rfl)) ?_
    refine pw_callS (As := [.long (el_ (0)), .long (el_ (0)), .long (el_ (3))]) (st := []) rfl (by decide) rfl rfl (Nat.le_of_ble_eq_true rfl) ?_
    refine mt_within (by omega) (by omega) (by omega) (fun g11 g12 => ?_) (fun g13 => ?_) (fun g14 => ?_)
    · refine pw_ifF rfl (by decide) (show ¬ (1 = 0) by decide) ?_
      refine pw_steps 3 (s' := (15, [some (.ref 47), some (.int (ei_ (a))), some (.int (ei_ (0)))], [.long ((ei_ (a)).toInt64), .ref 47], m)) rfl ?_
      refine pw_cv (congrArg (fun z_ : Int64 => ((15, [some (.ref 47), some (.int (ei_ (a))), some (.int (ei_ (0)))], [.long z_, .ref 47], m) : am_S)) (el_i2l p3 rfl)) ?_
      refine pw_call (As := [.long (el_ (a))]) (st := []) (k := 47) rfl rfl rfl rfl rfl (Nat.le_of_ble_eq_true rfl) ?_
      refine pw_intro (I := iX9_isOne) (T := tX9_isOne) rfl rfl rfl ?_
      refine pw_steps 3 (s' := (3, [some (.ref 47), some (.long (el_ (a))), none], [.ref 47, .long (el_ (0)), .long (el_ (a))], m)) rfl ?_
      refine pw_get rfl rfl (fun x15 (hx15 : x15 = vi_ m 47 6) rx15 sx15 => ?_)
      have ox15 := hx15
      replace hx15 : x15 = vi_ m 1 1 := hx15.trans p1
      refine pw_steps 3 (s' := (9, [some (.ref 47), some (.long (el_ (a))), none], [.long (((ei_ (x15)) - (ei_ (1))).toInt64), .long (el_ (0)), .long (el_ (a))], m)) rfl ?_
      refine pw_cv (congrArg (fun z_ : Int64 => ((9, [some (.ref 47), some (.long (el_ (a))), none], [.long z_, .long (el_ (0)), .long (el_ (a))], m) : am_S)) (el_i2l (by omega) (ei_sub rfl rfl))) ?_
      refine pw_callS (As := [.long (el_ (a)), .long (el_ (0)), .long (el_ ((x15 - 1)))]) (st := []) rfl (by decide) rfl rfl (Nat.le_of_ble_eq_true rfl) ?_
      refine mt_within (by omega) (by omega) (by omega) (fun g16 g17 => ?_) (fun g18 => ?_) (fun g19 => ?_)
      · refine pw_iret rfl rfl rfl ?_
        refine pw_ifF rfl (by decide) (show ¬ (1 = 0) by decide) ?_
        refine pw_steps 6 (s' := (31, [some (.ref 47), some (.int (ei_ (a))), some (.int (ei_ (0)))], [.int (((ei_ (8)) * (ei_ (0))) + (ei_ (a)))], m)) rfl ?_
        refine pw_cv (congrArg (fun z_ : Int32 => ((31, [some (.ref 47), some (.int (ei_ (a))), some (.int (ei_ (0)))], [.int z_], m) : am_S)) (ei_add (ei_mul rfl rfl) rfl)) ?_
        refine pw_iret rfl rfl rfl ?_
        refine pw_steps 2 (s' := (10, [some (.ref 47), some (.int (ei_ (a))), some (.int (ei_ (0))), some (.int (ei_ (v))), some (.int (ei_ ((0 + a))))], [.int (ei_ ((0 + a)))], m)) rfl ?_
        refine pw_ifF rfl (by omega) (show ¬ ((0 + a) < 0) by omega) ?_
        refine pw_steps 2 (s' := (15, [some (.ref 47), some (.int (ei_ (a))), some (.int (ei_ (0))), some (.int (ei_ (v))), some (.int (ei_ ((0 + a))))], [.int (ei_ (v)), .int (ei_ (0))], m)) rfl ?_
        refine pw_callS (As := [.int (ei_ (0)), .int (ei_ (v))]) (st := []) rfl (by decide) rfl rfl (Nat.le_of_ble_eq_true rfl) ?_
        refine pw_intro (I := iX9_mayBecome) (T := tX9_mayBecome) rfl rfl rfl ?_
        refine pw_steps 1 (s' := (1, [some (.int (ei_ (0))), some (.int (ei_ (v)))], [.int (ei_ (0))], m)) rfl ?_
        refine pw_tab 0 32 rfl (by decide) (by decide) (by decide) rfl ?_
        refine pw_steps 4 (s' := (38, [some (.int (ei_ (0))), some (.int (ei_ (v)))], [.long (el_ (9)), .long (el_ (1)), .long ((ei_ (v)).toInt64)], m)) rfl ?_
        refine pw_cv (congrArg (fun z_ : Int64 => ((38, [some (.int (ei_ (0))), some (.int (ei_ (v)))], [.long (el_ (9)), .long (el_ (1)), .long z_], m) : am_S)) (el_i2l p5 rfl)) ?_
        refine pw_callS (As := [.long (el_ (v)), .long (el_ (1)), .long (el_ (9))]) (st := []) rfl (by decide) rfl rfl (Nat.le_of_ble_eq_true rfl) ?_
        refine mt_within (by omega) (by omega) (by omega) (fun g20 g21 => ?_) (fun g22 => ?_) (fun g23 => ?_)
        · refine pw_iret rfl rfl rfl ?_
          refine pw_ifF rfl (by decide) (show ¬ (1 = 0) by decide) ?_
          refine pw_steps 3 (s' := (25, [some (.ref 47), some (.int (ei_ (a))), some (.int (ei_ (0))), some (.int (ei_ (v))), some (.int (ei_ ((0 + a))))], [.int (ei_ (v)), .int (ei_ ((0 + a))), .ref 47], m)) rfl ?_
          refine pw_call (As := [.int (ei_ ((0 + a))), .int (ei_ (v))]) (st := []) (k := 47) rfl rfl rfl rfl rfl (Nat.le_of_ble_eq_true rfl) ?_
          refine ms_bec (by omega) (p2) (p5) (by omega) (fun g24 => ?_) (fun x25 n26 s27 m128 g29 g30 g31 g32 g33 g34 g35 g36 g37 g38 g39 g40 g41 => ?_)
          · refine pw_steps 1 (s' := (32, [some (.ref 47), some (.int (ei_ (a))), some (.int (ei_ (0))), some (.int (ei_ (v))), some (.int (ei_ ((0 + a))))], [.int (ei_ (v))], m)) rfl ?_
            refine pw_iret rfl rfl rfl ?_
            exact k1 (0 + a) (by omega) (by unfold tl_; omega) g24
          · refine pw_steps 1 (s' := (32, [some (.ref 47), some (.int (ei_ (a))), some (.int (ei_ (0))), some (.int (ei_ (v))), some (.int (ei_ ((0 + a))))], [.int (ei_ (x25))], m128)) rfl ?_
            refine pw_iret rfl rfl rfl ?_
            exact k2 x25 (0 + a) n26 s27 m128 (by omega) (by unfold tl_; omega) g29 g30 g31 g32 g33 g34 g35 g36 g37 g38 g39 g40 g41
        · refine pw_iret rfl rfl rfl ?_
          refine pw_ifT rfl (by decide) (show 0 = 0 by decide) ?_
          refine pw_steps 1 (s' := (32, [some (.ref 47), some (.int (ei_ (a))), some (.int (ei_ (0))), some (.int (ei_ (v))), some (.int (ei_ ((0 + a))))], [.int (ei_ ((-1)))], m)) rfl ?_
          refine pw_iret rfl rfl rfl ?_
          exact k0 (by omega)
        · refine pw_iret rfl rfl rfl ?_
          refine pw_ifT rfl (by decide) (show 0 = 0 by decide) ?_
          refine pw_steps 1 (s' := (32, [some (.ref 47), some (.int (ei_ (a))), some (.int (ei_ (0))), some (.int (ei_ (v))), some (.int (ei_ ((0 + a))))], [.int (ei_ ((-1)))], m)) rfl ?_
          refine pw_iret rfl rfl rfl ?_
          exact k0 (by omega)
      · refine pw_iret rfl rfl rfl ?_
        refine pw_ifT rfl (by decide) (show 0 = 0 by decide) ?_
        refine pw_steps 1 (s' := (31, [some (.ref 47), some (.int (ei_ (a))), some (.int (ei_ (0)))], [.int (ei_ ((-1)))], m)) rfl ?_
        refine pw_iret rfl rfl rfl ?_
        refine pw_steps 2 (s' := (10, [some (.ref 47), some (.int (ei_ (a))), some (.int (ei_ (0))), some (.int (ei_ (v))), some (.int (ei_ ((-1))))], [.int (ei_ ((-1)))], m)) rfl ?_
        refine pw_ifT rfl (by decide) (show (-1) < 0 by decide) ?_
        refine pw_steps 1 (s' := (32, [some (.ref 47), some (.int (ei_ (a))), some (.int (ei_ (0))), some (.int (ei_ (v))), some (.int (ei_ ((-1))))], [.int (ei_ ((-1)))], m)) rfl ?_
        refine pw_iret rfl rfl rfl ?_
        exact k0 (by omega)
      · refine pw_iret rfl rfl rfl ?_
        refine pw_ifT rfl (by decide) (show 0 = 0 by decide) ?_
        refine pw_steps 1 (s' := (31, [some (.ref 47), some (.int (ei_ (a))), some (.int (ei_ (0)))], [.int (ei_ ((-1)))], m)) rfl ?_
        refine pw_iret rfl rfl rfl ?_
        refine pw_steps 2 (s' := (10, [some (.ref 47), some (.int (ei_ (a))), some (.int (ei_ (0))), some (.int (ei_ (v))), some (.int (ei_ ((-1))))], [.int (ei_ ((-1)))], m)) rfl ?_
        refine pw_ifT rfl (by decide) (show (-1) < 0 by decide) ?_
        refine pw_steps 1 (s' := (32, [some (.ref 47), some (.int (ei_ (a))), some (.int (ei_ (0))), some (.int (ei_ (v))), some (.int (ei_ ((-1))))], [.int (ei_ ((-1)))], m)) rfl ?_
        refine pw_iret rfl rfl rfl ?_
        exact k0 (by omega)
    · exact False.elim (by omega)
    · exact False.elim (by omega)
  · subst h1
    refine pw_steps 3 (s' := (3, [some (.ref 47), some (.int (ei_ (a))), some (.int (ei_ (1))), some (.int (ei_ (v))), none], [.int (ei_ (1)), .int (ei_ (a)), .ref 47], m)) rfl ?_
    refine pw_call (As := [.int (ei_ (a)), .int (ei_ (1))]) (st := []) (k := 47) rfl rfl rfl rfl rfl (Nat.le_of_ble_eq_true rfl) ?_
    refine pw_intro (I := iX9_placeOf) (T := tX9_placeOf) rfl rfl rfl ?_
    refine pw_steps 4 (s' := (6, [some (.ref 47), some (.int (ei_ (a))), some (.int (ei_ (1)))], [.long (el_ (3)), .long (el_ (0)), .long ((ei_ (1)).toInt64)], m)) rfl ?_
    refine pw_cv (congrArg (fun z_ : Int64 => ((6, [some (.ref 47), some (.int (ei_ (a))), some (.int (ei_ (1)))], [.long (el_ (3)), .long (el_ (0)), .long z_], m) : am_S)) (el_i2l (by decide) rfl)) ?_
    refine pw_callS (As := [.long (el_ (1)), .long (el_ (0)), .long (el_ (3))]) (st := []) rfl (by decide) rfl rfl (Nat.le_of_ble_eq_true rfl) ?_
    refine mt_within (by omega) (by omega) (by omega) (fun g42 g43 => ?_) (fun g44 => ?_) (fun g45 => ?_)
    · refine pw_ifF rfl (by decide) (show ¬ (1 = 0) by decide) ?_
      refine pw_steps 3 (s' := (15, [some (.ref 47), some (.int (ei_ (a))), some (.int (ei_ (1)))], [.long ((ei_ (a)).toInt64), .ref 47], m)) rfl ?_
      refine pw_cv (congrArg (fun z_ : Int64 => ((15, [some (.ref 47), some (.int (ei_ (a))), some (.int (ei_ (1)))], [.long z_, .ref 47], m) : am_S)) (el_i2l p3 rfl)) ?_
      refine pw_call (As := [.long (el_ (a))]) (st := []) (k := 47) rfl rfl rfl rfl rfl (Nat.le_of_ble_eq_true rfl) ?_
      refine pw_intro (I := iX9_isOne) (T := tX9_isOne) rfl rfl rfl ?_
      refine pw_steps 3 (s' := (3, [some (.ref 47), some (.long (el_ (a))), none], [.ref 47, .long (el_ (0)), .long (el_ (a))], m)) rfl ?_
      refine pw_get rfl rfl (fun x46 (hx46 : x46 = vi_ m 47 6) rx46 sx46 => ?_)
      have ox46 := hx46
      replace hx46 : x46 = vi_ m 1 1 := hx46.trans p1
      refine pw_steps 3 (s' := (9, [some (.ref 47), some (.long (el_ (a))), none], [.long (((ei_ (x46)) - (ei_ (1))).toInt64), .long (el_ (0)), .long (el_ (a))], m)) rfl ?_
      refine pw_cv (congrArg (fun z_ : Int64 => ((9, [some (.ref 47), some (.long (el_ (a))), none], [.long z_, .long (el_ (0)), .long (el_ (a))], m) : am_S)) (el_i2l (by omega) (ei_sub rfl rfl))) ?_
      refine pw_callS (As := [.long (el_ (a)), .long (el_ (0)), .long (el_ ((x46 - 1)))]) (st := []) rfl (by decide) rfl rfl (Nat.le_of_ble_eq_true rfl) ?_
      refine mt_within (by omega) (by omega) (by omega) (fun g47 g48 => ?_) (fun g49 => ?_) (fun g50 => ?_)
      · refine pw_iret rfl rfl rfl ?_
        refine pw_ifF rfl (by decide) (show ¬ (1 = 0) by decide) ?_
        refine pw_steps 6 (s' := (31, [some (.ref 47), some (.int (ei_ (a))), some (.int (ei_ (1)))], [.int (((ei_ (8)) * (ei_ (1))) + (ei_ (a)))], m)) rfl ?_
        refine pw_cv (congrArg (fun z_ : Int32 => ((31, [some (.ref 47), some (.int (ei_ (a))), some (.int (ei_ (1)))], [.int z_], m) : am_S)) (ei_add (ei_mul rfl rfl) rfl)) ?_
        refine pw_iret rfl rfl rfl ?_
        refine pw_steps 2 (s' := (10, [some (.ref 47), some (.int (ei_ (a))), some (.int (ei_ (1))), some (.int (ei_ (v))), some (.int (ei_ ((8 + a))))], [.int (ei_ ((8 + a)))], m)) rfl ?_
        refine pw_ifF rfl (by omega) (show ¬ ((8 + a) < 0) by omega) ?_
        refine pw_steps 2 (s' := (15, [some (.ref 47), some (.int (ei_ (a))), some (.int (ei_ (1))), some (.int (ei_ (v))), some (.int (ei_ ((8 + a))))], [.int (ei_ (v)), .int (ei_ (1))], m)) rfl ?_
        refine pw_callS (As := [.int (ei_ (1)), .int (ei_ (v))]) (st := []) rfl (by decide) rfl rfl (Nat.le_of_ble_eq_true rfl) ?_
        refine pw_intro (I := iX9_mayBecome) (T := tX9_mayBecome) rfl rfl rfl ?_
        refine pw_steps 1 (s' := (1, [some (.int (ei_ (1))), some (.int (ei_ (v)))], [.int (ei_ (1))], m)) rfl ?_
        refine pw_tab 1 50 rfl (by decide) (by decide) (by decide) rfl ?_
        refine pw_steps 4 (s' := (56, [some (.int (ei_ (1))), some (.int (ei_ (v)))], [.long (el_ (9)), .long (el_ (0)), .long ((ei_ (v)).toInt64)], m)) rfl ?_
        refine pw_cv (congrArg (fun z_ : Int64 => ((56, [some (.int (ei_ (1))), some (.int (ei_ (v)))], [.long (el_ (9)), .long (el_ (0)), .long z_], m) : am_S)) (el_i2l p5 rfl)) ?_
        refine pw_callS (As := [.long (el_ (v)), .long (el_ (0)), .long (el_ (9))]) (st := []) rfl (by decide) rfl rfl (Nat.le_of_ble_eq_true rfl) ?_
        refine mt_within (by omega) (by omega) (by omega) (fun g51 g52 => ?_) (fun g53 => ?_) (fun g54 => ?_)
        · refine pw_iret rfl rfl rfl ?_
          refine pw_ifF rfl (by decide) (show ¬ (1 = 0) by decide) ?_
          refine pw_steps 3 (s' := (25, [some (.ref 47), some (.int (ei_ (a))), some (.int (ei_ (1))), some (.int (ei_ (v))), some (.int (ei_ ((8 + a))))], [.int (ei_ (v)), .int (ei_ ((8 + a))), .ref 47], m)) rfl ?_
          refine pw_call (As := [.int (ei_ ((8 + a))), .int (ei_ (v))]) (st := []) (k := 47) rfl rfl rfl rfl rfl (Nat.le_of_ble_eq_true rfl) ?_
          refine ms_bec (by omega) (p2) (p5) (by omega) (fun g55 => ?_) (fun x56 n57 s58 m159 g60 g61 g62 g63 g64 g65 g66 g67 g68 g69 g70 g71 g72 => ?_)
          · refine pw_steps 1 (s' := (32, [some (.ref 47), some (.int (ei_ (a))), some (.int (ei_ (1))), some (.int (ei_ (v))), some (.int (ei_ ((8 + a))))], [.int (ei_ (v))], m)) rfl ?_
            refine pw_iret rfl rfl rfl ?_
            exact k1 (8 + a) (by omega) (by unfold tl_; omega) g55
          · refine pw_steps 1 (s' := (32, [some (.ref 47), some (.int (ei_ (a))), some (.int (ei_ (1))), some (.int (ei_ (v))), some (.int (ei_ ((8 + a))))], [.int (ei_ (x56))], m159)) rfl ?_
            refine pw_iret rfl rfl rfl ?_
            exact k2 x56 (8 + a) n57 s58 m159 (by omega) (by unfold tl_; omega) g60 g61 g62 g63 g64 g65 g66 g67 g68 g69 g70 g71 g72
        · refine pw_iret rfl rfl rfl ?_
          refine pw_ifT rfl (by decide) (show 0 = 0 by decide) ?_
          refine pw_steps 1 (s' := (32, [some (.ref 47), some (.int (ei_ (a))), some (.int (ei_ (1))), some (.int (ei_ (v))), some (.int (ei_ ((8 + a))))], [.int (ei_ ((-1)))], m)) rfl ?_
          refine pw_iret rfl rfl rfl ?_
          exact k0 (by omega)
        · refine pw_iret rfl rfl rfl ?_
          refine pw_ifT rfl (by decide) (show 0 = 0 by decide) ?_
          refine pw_steps 1 (s' := (32, [some (.ref 47), some (.int (ei_ (a))), some (.int (ei_ (1))), some (.int (ei_ (v))), some (.int (ei_ ((8 + a))))], [.int (ei_ ((-1)))], m)) rfl ?_
          refine pw_iret rfl rfl rfl ?_
          exact k0 (by omega)
      · refine pw_iret rfl rfl rfl ?_
        refine pw_ifT rfl (by decide) (show 0 = 0 by decide) ?_
        refine pw_steps 1 (s' := (31, [some (.ref 47), some (.int (ei_ (a))), some (.int (ei_ (1)))], [.int (ei_ ((-1)))], m)) rfl ?_
        refine pw_iret rfl rfl rfl ?_
        refine pw_steps 2 (s' := (10, [some (.ref 47), some (.int (ei_ (a))), some (.int (ei_ (1))), some (.int (ei_ (v))), some (.int (ei_ ((-1))))], [.int (ei_ ((-1)))], m)) rfl ?_
        refine pw_ifT rfl (by decide) (show (-1) < 0 by decide) ?_
        refine pw_steps 1 (s' := (32, [some (.ref 47), some (.int (ei_ (a))), some (.int (ei_ (1))), some (.int (ei_ (v))), some (.int (ei_ ((-1))))], [.int (ei_ ((-1)))], m)) rfl ?_
        refine pw_iret rfl rfl rfl ?_
        exact k0 (by omega)
      · refine pw_iret rfl rfl rfl ?_
        refine pw_ifT rfl (by decide) (show 0 = 0 by decide) ?_
        refine pw_steps 1 (s' := (31, [some (.ref 47), some (.int (ei_ (a))), some (.int (ei_ (1)))], [.int (ei_ ((-1)))], m)) rfl ?_
        refine pw_iret rfl rfl rfl ?_
        refine pw_steps 2 (s' := (10, [some (.ref 47), some (.int (ei_ (a))), some (.int (ei_ (1))), some (.int (ei_ (v))), some (.int (ei_ ((-1))))], [.int (ei_ ((-1)))], m)) rfl ?_
        refine pw_ifT rfl (by decide) (show (-1) < 0 by decide) ?_
        refine pw_steps 1 (s' := (32, [some (.ref 47), some (.int (ei_ (a))), some (.int (ei_ (1))), some (.int (ei_ (v))), some (.int (ei_ ((-1))))], [.int (ei_ ((-1)))], m)) rfl ?_
        refine pw_iret rfl rfl rfl ?_
        exact k0 (by omega)
    · exact False.elim (by omega)
    · exact False.elim (by omega)
  · subst h1
    refine pw_steps 3 (s' := (3, [some (.ref 47), some (.int (ei_ (a))), some (.int (ei_ (2))), some (.int (ei_ (v))), none], [.int (ei_ (2)), .int (ei_ (a)), .ref 47], m)) rfl ?_
    refine pw_call (As := [.int (ei_ (a)), .int (ei_ (2))]) (st := []) (k := 47) rfl rfl rfl rfl rfl (Nat.le_of_ble_eq_true rfl) ?_
    refine pw_intro (I := iX9_placeOf) (T := tX9_placeOf) rfl rfl rfl ?_
    refine pw_steps 4 (s' := (6, [some (.ref 47), some (.int (ei_ (a))), some (.int (ei_ (2)))], [.long (el_ (3)), .long (el_ (0)), .long ((ei_ (2)).toInt64)], m)) rfl ?_
    refine pw_cv (congrArg (fun z_ : Int64 => ((6, [some (.ref 47), some (.int (ei_ (a))), some (.int (ei_ (2)))], [.long (el_ (3)), .long (el_ (0)), .long z_], m) : am_S)) (el_i2l (by decide) rfl)) ?_
    refine pw_callS (As := [.long (el_ (2)), .long (el_ (0)), .long (el_ (3))]) (st := []) rfl (by decide) rfl rfl (Nat.le_of_ble_eq_true rfl) ?_
    refine mt_within (by omega) (by omega) (by omega) (fun g73 g74 => ?_) (fun g75 => ?_) (fun g76 => ?_)
    · refine pw_ifF rfl (by decide) (show ¬ (1 = 0) by decide) ?_
      refine pw_steps 3 (s' := (15, [some (.ref 47), some (.int (ei_ (a))), some (.int (ei_ (2)))], [.long ((ei_ (a)).toInt64), .ref 47], m)) rfl ?_
      refine pw_cv (congrArg (fun z_ : Int64 => ((15, [some (.ref 47), some (.int (ei_ (a))), some (.int (ei_ (2)))], [.long z_, .ref 47], m) : am_S)) (el_i2l p3 rfl)) ?_
      refine pw_call (As := [.long (el_ (a))]) (st := []) (k := 47) rfl rfl rfl rfl rfl (Nat.le_of_ble_eq_true rfl) ?_
      refine pw_intro (I := iX9_isOne) (T := tX9_isOne) rfl rfl rfl ?_
      refine pw_steps 3 (s' := (3, [some (.ref 47), some (.long (el_ (a))), none], [.ref 47, .long (el_ (0)), .long (el_ (a))], m)) rfl ?_
      refine pw_get rfl rfl (fun x77 (hx77 : x77 = vi_ m 47 6) rx77 sx77 => ?_)
      have ox77 := hx77
      replace hx77 : x77 = vi_ m 1 1 := hx77.trans p1
      refine pw_steps 3 (s' := (9, [some (.ref 47), some (.long (el_ (a))), none], [.long (((ei_ (x77)) - (ei_ (1))).toInt64), .long (el_ (0)), .long (el_ (a))], m)) rfl ?_
      refine pw_cv (congrArg (fun z_ : Int64 => ((9, [some (.ref 47), some (.long (el_ (a))), none], [.long z_, .long (el_ (0)), .long (el_ (a))], m) : am_S)) (el_i2l (by omega) (ei_sub rfl rfl))) ?_
      refine pw_callS (As := [.long (el_ (a)), .long (el_ (0)), .long (el_ ((x77 - 1)))]) (st := []) rfl (by decide) rfl rfl (Nat.le_of_ble_eq_true rfl) ?_
      refine mt_within (by omega) (by omega) (by omega) (fun g78 g79 => ?_) (fun g80 => ?_) (fun g81 => ?_)
      · refine pw_iret rfl rfl rfl ?_
        refine pw_ifF rfl (by decide) (show ¬ (1 = 0) by decide) ?_
        refine pw_steps 6 (s' := (31, [some (.ref 47), some (.int (ei_ (a))), some (.int (ei_ (2)))], [.int (((ei_ (8)) * (ei_ (2))) + (ei_ (a)))], m)) rfl ?_
        refine pw_cv (congrArg (fun z_ : Int32 => ((31, [some (.ref 47), some (.int (ei_ (a))), some (.int (ei_ (2)))], [.int z_], m) : am_S)) (ei_add (ei_mul rfl rfl) rfl)) ?_
        refine pw_iret rfl rfl rfl ?_
        refine pw_steps 2 (s' := (10, [some (.ref 47), some (.int (ei_ (a))), some (.int (ei_ (2))), some (.int (ei_ (v))), some (.int (ei_ ((16 + a))))], [.int (ei_ ((16 + a)))], m)) rfl ?_
        refine pw_ifF rfl (by omega) (show ¬ ((16 + a) < 0) by omega) ?_
        refine pw_steps 2 (s' := (15, [some (.ref 47), some (.int (ei_ (a))), some (.int (ei_ (2))), some (.int (ei_ (v))), some (.int (ei_ ((16 + a))))], [.int (ei_ (v)), .int (ei_ (2))], m)) rfl ?_
        refine pw_callS (As := [.int (ei_ (2)), .int (ei_ (v))]) (st := []) rfl (by decide) rfl rfl (Nat.le_of_ble_eq_true rfl) ?_
        refine pw_intro (I := iX9_mayBecome) (T := tX9_mayBecome) rfl rfl rfl ?_
        refine pw_steps 1 (s' := (1, [some (.int (ei_ (2))), some (.int (ei_ (v)))], [.int (ei_ (2))], m)) rfl ?_
        refine pw_tab 2 32 rfl (by decide) (by decide) (by decide) rfl ?_
        refine pw_steps 4 (s' := (38, [some (.int (ei_ (2))), some (.int (ei_ (v)))], [.long (el_ (9)), .long (el_ (1)), .long ((ei_ (v)).toInt64)], m)) rfl ?_
        refine pw_cv (congrArg (fun z_ : Int64 => ((38, [some (.int (ei_ (2))), some (.int (ei_ (v)))], [.long (el_ (9)), .long (el_ (1)), .long z_], m) : am_S)) (el_i2l p5 rfl)) ?_
        refine pw_callS (As := [.long (el_ (v)), .long (el_ (1)), .long (el_ (9))]) (st := []) rfl (by decide) rfl rfl (Nat.le_of_ble_eq_true rfl) ?_
        refine mt_within (by omega) (by omega) (by omega) (fun g82 g83 => ?_) (fun g84 => ?_) (fun g85 => ?_)
        · refine pw_iret rfl rfl rfl ?_
          refine pw_ifF rfl (by decide) (show ¬ (1 = 0) by decide) ?_
          refine pw_steps 3 (s' := (25, [some (.ref 47), some (.int (ei_ (a))), some (.int (ei_ (2))), some (.int (ei_ (v))), some (.int (ei_ ((16 + a))))], [.int (ei_ (v)), .int (ei_ ((16 + a))), .ref 47], m)) rfl ?_
          refine pw_call (As := [.int (ei_ ((16 + a))), .int (ei_ (v))]) (st := []) (k := 47) rfl rfl rfl rfl rfl (Nat.le_of_ble_eq_true rfl) ?_
          refine ms_bec (by omega) (p2) (p5) (by omega) (fun g86 => ?_) (fun x87 n88 s89 m190 g91 g92 g93 g94 g95 g96 g97 g98 g99 g100 g101 g102 g103 => ?_)
          · refine pw_steps 1 (s' := (32, [some (.ref 47), some (.int (ei_ (a))), some (.int (ei_ (2))), some (.int (ei_ (v))), some (.int (ei_ ((16 + a))))], [.int (ei_ (v))], m)) rfl ?_
            refine pw_iret rfl rfl rfl ?_
            exact k1 (16 + a) (by omega) (by unfold tl_; omega) g86
          · refine pw_steps 1 (s' := (32, [some (.ref 47), some (.int (ei_ (a))), some (.int (ei_ (2))), some (.int (ei_ (v))), some (.int (ei_ ((16 + a))))], [.int (ei_ (x87))], m190)) rfl ?_
            refine pw_iret rfl rfl rfl ?_
            exact k2 x87 (16 + a) n88 s89 m190 (by omega) (by unfold tl_; omega) g91 g92 g93 g94 g95 g96 g97 g98 g99 g100 g101 g102 g103
        · refine pw_iret rfl rfl rfl ?_
          refine pw_ifT rfl (by decide) (show 0 = 0 by decide) ?_
          refine pw_steps 1 (s' := (32, [some (.ref 47), some (.int (ei_ (a))), some (.int (ei_ (2))), some (.int (ei_ (v))), some (.int (ei_ ((16 + a))))], [.int (ei_ ((-1)))], m)) rfl ?_
          refine pw_iret rfl rfl rfl ?_
          exact k0 (by omega)
        · refine pw_iret rfl rfl rfl ?_
          refine pw_ifT rfl (by decide) (show 0 = 0 by decide) ?_
          refine pw_steps 1 (s' := (32, [some (.ref 47), some (.int (ei_ (a))), some (.int (ei_ (2))), some (.int (ei_ (v))), some (.int (ei_ ((16 + a))))], [.int (ei_ ((-1)))], m)) rfl ?_
          refine pw_iret rfl rfl rfl ?_
          exact k0 (by omega)
      · refine pw_iret rfl rfl rfl ?_
        refine pw_ifT rfl (by decide) (show 0 = 0 by decide) ?_
        refine pw_steps 1 (s' := (31, [some (.ref 47), some (.int (ei_ (a))), some (.int (ei_ (2)))], [.int (ei_ ((-1)))], m)) rfl ?_
        refine pw_iret rfl rfl rfl ?_
        refine pw_steps 2 (s' := (10, [some (.ref 47), some (.int (ei_ (a))), some (.int (ei_ (2))), some (.int (ei_ (v))), some (.int (ei_ ((-1))))], [.int (ei_ ((-1)))], m)) rfl ?_
        refine pw_ifT rfl (by decide) (show (-1) < 0 by decide) ?_
        refine pw_steps 1 (s' := (32, [some (.ref 47), some (.int (ei_ (a))), some (.int (ei_ (2))), some (.int (ei_ (v))), some (.int (ei_ ((-1))))], [.int (ei_ ((-1)))], m)) rfl ?_
        refine pw_iret rfl rfl rfl ?_
        exact k0 (by omega)
      · refine pw_iret rfl rfl rfl ?_
        refine pw_ifT rfl (by decide) (show 0 = 0 by decide) ?_
        refine pw_steps 1 (s' := (31, [some (.ref 47), some (.int (ei_ (a))), some (.int (ei_ (2)))], [.int (ei_ ((-1)))], m)) rfl ?_
        refine pw_iret rfl rfl rfl ?_
        refine pw_steps 2 (s' := (10, [some (.ref 47), some (.int (ei_ (a))), some (.int (ei_ (2))), some (.int (ei_ (v))), some (.int (ei_ ((-1))))], [.int (ei_ ((-1)))], m)) rfl ?_
        refine pw_ifT rfl (by decide) (show (-1) < 0 by decide) ?_
        refine pw_steps 1 (s' := (32, [some (.ref 47), some (.int (ei_ (a))), some (.int (ei_ (2))), some (.int (ei_ (v))), some (.int (ei_ ((-1))))], [.int (ei_ ((-1)))], m)) rfl ?_
        refine pw_iret rfl rfl rfl ?_
        exact k0 (by omega)
    · exact False.elim (by omega)
    · exact False.elim (by omega)
  · subst h1
    refine pw_steps 3 (s' := (3, [some (.ref 47), some (.int (ei_ (a))), some (.int (ei_ (3))), some (.int (ei_ (v))), none], [.int (ei_ (3)), .int (ei_ (a)), .ref 47], m)) rfl ?_
    refine pw_call (As := [.int (ei_ (a)), .int (ei_ (3))]) (st := []) (k := 47) rfl rfl rfl rfl rfl (Nat.le_of_ble_eq_true rfl) ?_
    refine pw_intro (I := iX9_placeOf) (T := tX9_placeOf) rfl rfl rfl ?_
    refine pw_steps 4 (s' := (6, [some (.ref 47), some (.int (ei_ (a))), some (.int (ei_ (3)))], [.long (el_ (3)), .long (el_ (0)), .long ((ei_ (3)).toInt64)], m)) rfl ?_
    refine pw_cv (congrArg (fun z_ : Int64 => ((6, [some (.ref 47), some (.int (ei_ (a))), some (.int (ei_ (3)))], [.long (el_ (3)), .long (el_ (0)), .long z_], m) : am_S)) (el_i2l (by decide) rfl)) ?_
    refine pw_callS (As := [.long (el_ (3)), .long (el_ (0)), .long (el_ (3))]) (st := []) rfl (by decide) rfl rfl (Nat.le_of_ble_eq_true rfl) ?_
    refine mt_within (by omega) (by omega) (by omega) (fun g104 g105 => ?_) (fun g106 => ?_) (fun g107 => ?_)
    · refine pw_ifF rfl (by decide) (show ¬ (1 = 0) by decide) ?_
      refine pw_steps 3 (s' := (15, [some (.ref 47), some (.int (ei_ (a))), some (.int (ei_ (3)))], [.long ((ei_ (a)).toInt64), .ref 47], m)) rfl ?_
      refine pw_cv (congrArg (fun z_ : Int64 => ((15, [some (.ref 47), some (.int (ei_ (a))), some (.int (ei_ (3)))], [.long z_, .ref 47], m) : am_S)) (el_i2l p3 rfl)) ?_
      refine pw_call (As := [.long (el_ (a))]) (st := []) (k := 47) rfl rfl rfl rfl rfl (Nat.le_of_ble_eq_true rfl) ?_
      refine pw_intro (I := iX9_isOne) (T := tX9_isOne) rfl rfl rfl ?_
      refine pw_steps 3 (s' := (3, [some (.ref 47), some (.long (el_ (a))), none], [.ref 47, .long (el_ (0)), .long (el_ (a))], m)) rfl ?_
      refine pw_get rfl rfl (fun x108 (hx108 : x108 = vi_ m 47 6) rx108 sx108 => ?_)
      have ox108 := hx108
      replace hx108 : x108 = vi_ m 1 1 := hx108.trans p1
      refine pw_steps 3 (s' := (9, [some (.ref 47), some (.long (el_ (a))), none], [.long (((ei_ (x108)) - (ei_ (1))).toInt64), .long (el_ (0)), .long (el_ (a))], m)) rfl ?_
      refine pw_cv (congrArg (fun z_ : Int64 => ((9, [some (.ref 47), some (.long (el_ (a))), none], [.long z_, .long (el_ (0)), .long (el_ (a))], m) : am_S)) (el_i2l (by omega) (ei_sub rfl rfl))) ?_
      refine pw_callS (As := [.long (el_ (a)), .long (el_ (0)), .long (el_ ((x108 - 1)))]) (st := []) rfl (by decide) rfl rfl (Nat.le_of_ble_eq_true rfl) ?_
      refine mt_within (by omega) (by omega) (by omega) (fun g109 g110 => ?_) (fun g111 => ?_) (fun g112 => ?_)
      · refine pw_iret rfl rfl rfl ?_
        refine pw_ifF rfl (by decide) (show ¬ (1 = 0) by decide) ?_
        refine pw_steps 6 (s' := (31, [some (.ref 47), some (.int (ei_ (a))), some (.int (ei_ (3)))], [.int (((ei_ (8)) * (ei_ (3))) + (ei_ (a)))], m)) rfl ?_
        refine pw_cv (congrArg (fun z_ : Int32 => ((31, [some (.ref 47), some (.int (ei_ (a))), some (.int (ei_ (3)))], [.int z_], m) : am_S)) (ei_add (ei_mul rfl rfl) rfl)) ?_
        refine pw_iret rfl rfl rfl ?_
        refine pw_steps 2 (s' := (10, [some (.ref 47), some (.int (ei_ (a))), some (.int (ei_ (3))), some (.int (ei_ (v))), some (.int (ei_ ((24 + a))))], [.int (ei_ ((24 + a)))], m)) rfl ?_
        refine pw_ifF rfl (by omega) (show ¬ ((24 + a) < 0) by omega) ?_
        refine pw_steps 2 (s' := (15, [some (.ref 47), some (.int (ei_ (a))), some (.int (ei_ (3))), some (.int (ei_ (v))), some (.int (ei_ ((24 + a))))], [.int (ei_ (v)), .int (ei_ (3))], m)) rfl ?_
        refine pw_callS (As := [.int (ei_ (3)), .int (ei_ (v))]) (st := []) rfl (by decide) rfl rfl (Nat.le_of_ble_eq_true rfl) ?_
        refine pw_intro (I := iX9_mayBecome) (T := tX9_mayBecome) rfl rfl rfl ?_
        refine pw_steps 1 (s' := (1, [some (.int (ei_ (3))), some (.int (ei_ (v)))], [.int (ei_ (3))], m)) rfl ?_
        refine pw_tab 3 42 rfl (by decide) (by decide) (by decide) rfl ?_
        refine pw_steps 4 (s' := (46, [some (.int (ei_ (3))), some (.int (ei_ (v)))], [.long (el_ (1)), .long (el_ (0)), .long ((ei_ (v)).toInt64)], m)) rfl ?_
        refine pw_cv (congrArg (fun z_ : Int64 => ((46, [some (.int (ei_ (3))), some (.int (ei_ (v)))], [.long (el_ (1)), .long (el_ (0)), .long z_], m) : am_S)) (el_i2l p5 rfl)) ?_
        refine pw_callS (As := [.long (el_ (v)), .long (el_ (0)), .long (el_ (1))]) (st := []) rfl (by decide) rfl rfl (Nat.le_of_ble_eq_true rfl) ?_
        refine mt_within (by omega) (by omega) (by omega) (fun g113 g114 => ?_) (fun g115 => ?_) (fun g116 => ?_)
        · refine pw_iret rfl rfl rfl ?_
          refine pw_ifF rfl (by decide) (show ¬ (1 = 0) by decide) ?_
          refine pw_steps 3 (s' := (25, [some (.ref 47), some (.int (ei_ (a))), some (.int (ei_ (3))), some (.int (ei_ (v))), some (.int (ei_ ((24 + a))))], [.int (ei_ (v)), .int (ei_ ((24 + a))), .ref 47], m)) rfl ?_
          refine pw_call (As := [.int (ei_ ((24 + a))), .int (ei_ (v))]) (st := []) (k := 47) rfl rfl rfl rfl rfl (Nat.le_of_ble_eq_true rfl) ?_
          refine ms_bec (by omega) (p2) (p5) (by omega) (fun g117 => ?_) (fun x118 n119 s120 m1121 g122 g123 g124 g125 g126 g127 g128 g129 g130 g131 g132 g133 g134 => ?_)
          · refine pw_steps 1 (s' := (32, [some (.ref 47), some (.int (ei_ (a))), some (.int (ei_ (3))), some (.int (ei_ (v))), some (.int (ei_ ((24 + a))))], [.int (ei_ (v))], m)) rfl ?_
            refine pw_iret rfl rfl rfl ?_
            exact k1 (24 + a) (by omega) (by unfold tl_; omega) g117
          · refine pw_steps 1 (s' := (32, [some (.ref 47), some (.int (ei_ (a))), some (.int (ei_ (3))), some (.int (ei_ (v))), some (.int (ei_ ((24 + a))))], [.int (ei_ (x118))], m1121)) rfl ?_
            refine pw_iret rfl rfl rfl ?_
            exact k2 x118 (24 + a) n119 s120 m1121 (by omega) (by unfold tl_; omega) g122 g123 g124 g125 g126 g127 g128 g129 g130 g131 g132 g133 g134
        · refine pw_iret rfl rfl rfl ?_
          refine pw_ifT rfl (by decide) (show 0 = 0 by decide) ?_
          refine pw_steps 1 (s' := (32, [some (.ref 47), some (.int (ei_ (a))), some (.int (ei_ (3))), some (.int (ei_ (v))), some (.int (ei_ ((24 + a))))], [.int (ei_ ((-1)))], m)) rfl ?_
          refine pw_iret rfl rfl rfl ?_
          exact k0 (by omega)
        · refine pw_iret rfl rfl rfl ?_
          refine pw_ifT rfl (by decide) (show 0 = 0 by decide) ?_
          refine pw_steps 1 (s' := (32, [some (.ref 47), some (.int (ei_ (a))), some (.int (ei_ (3))), some (.int (ei_ (v))), some (.int (ei_ ((24 + a))))], [.int (ei_ ((-1)))], m)) rfl ?_
          refine pw_iret rfl rfl rfl ?_
          exact k0 (by omega)
      · refine pw_iret rfl rfl rfl ?_
        refine pw_ifT rfl (by decide) (show 0 = 0 by decide) ?_
        refine pw_steps 1 (s' := (31, [some (.ref 47), some (.int (ei_ (a))), some (.int (ei_ (3)))], [.int (ei_ ((-1)))], m)) rfl ?_
        refine pw_iret rfl rfl rfl ?_
        refine pw_steps 2 (s' := (10, [some (.ref 47), some (.int (ei_ (a))), some (.int (ei_ (3))), some (.int (ei_ (v))), some (.int (ei_ ((-1))))], [.int (ei_ ((-1)))], m)) rfl ?_
        refine pw_ifT rfl (by decide) (show (-1) < 0 by decide) ?_
        refine pw_steps 1 (s' := (32, [some (.ref 47), some (.int (ei_ (a))), some (.int (ei_ (3))), some (.int (ei_ (v))), some (.int (ei_ ((-1))))], [.int (ei_ ((-1)))], m)) rfl ?_
        refine pw_iret rfl rfl rfl ?_
        exact k0 (by omega)
      · refine pw_iret rfl rfl rfl ?_
        refine pw_ifT rfl (by decide) (show 0 = 0 by decide) ?_
        refine pw_steps 1 (s' := (31, [some (.ref 47), some (.int (ei_ (a))), some (.int (ei_ (3)))], [.int (ei_ ((-1)))], m)) rfl ?_
        refine pw_iret rfl rfl rfl ?_
        refine pw_steps 2 (s' := (10, [some (.ref 47), some (.int (ei_ (a))), some (.int (ei_ (3))), some (.int (ei_ (v))), some (.int (ei_ ((-1))))], [.int (ei_ ((-1)))], m)) rfl ?_
        refine pw_ifT rfl (by decide) (show (-1) < 0 by decide) ?_
        refine pw_steps 1 (s' := (32, [some (.ref 47), some (.int (ei_ (a))), some (.int (ei_ (3))), some (.int (ei_ (v))), some (.int (ei_ ((-1))))], [.int (ei_ ((-1)))], m)) rfl ?_
        refine pw_iret rfl rfl rfl ?_
        exact k0 (by omega)
    · exact False.elim (by omega)
    · exact False.elim (by omega)
  · subst h1
    refine pw_steps 3 (s' := (3, [some (.ref 47), some (.int (ei_ (a))), some (.int (ei_ (4))), some (.int (ei_ (v))), none], [.int (ei_ (4)), .int (ei_ (a)), .ref 47], m)) rfl ?_
    refine pw_call (As := [.int (ei_ (a)), .int (ei_ (4))]) (st := []) (k := 47) rfl rfl rfl rfl rfl (Nat.le_of_ble_eq_true rfl) ?_
    refine pw_intro (I := iX9_placeOf) (T := tX9_placeOf) rfl rfl rfl ?_
    refine pw_steps 4 (s' := (6, [some (.ref 47), some (.int (ei_ (a))), some (.int (ei_ (4)))], [.long (el_ (3)), .long (el_ (0)), .long ((ei_ (4)).toInt64)], m)) rfl ?_
    refine pw_cv (congrArg (fun z_ : Int64 => ((6, [some (.ref 47), some (.int (ei_ (a))), some (.int (ei_ (4)))], [.long (el_ (3)), .long (el_ (0)), .long z_], m) : am_S)) (el_i2l (by decide) rfl)) ?_
    refine pw_callS (As := [.long (el_ (4)), .long (el_ (0)), .long (el_ (3))]) (st := []) rfl (by decide) rfl rfl (Nat.le_of_ble_eq_true rfl) ?_
    refine mt_within (by omega) (by omega) (by omega) (fun g135 g136 => ?_) (fun g137 => ?_) (fun g138 => ?_)
    · exact False.elim (by omega)
    · exact False.elim (by omega)
    · refine pw_ifT rfl (by decide) (show 0 = 0 by decide) ?_
      refine pw_steps 1 (s' := (33, [some (.ref 47), some (.int (ei_ (a))), some (.int (ei_ (4)))], [.int (ei_ (a))], m)) rfl ?_
      refine pw_if rfl p3 (fun (h139 : ¬ a = 0) => ?_) (fun (h139 : ¬ ¬ a = 0) => ?_)
      · refine pw_steps 1 (s' := (60, [some (.ref 47), some (.int (ei_ (a))), some (.int (ei_ (4)))], [.int (ei_ ((-1)))], m)) rfl ?_
        refine pw_iret rfl rfl rfl ?_
        refine pw_steps 2 (s' := (10, [some (.ref 47), some (.int (ei_ (a))), some (.int (ei_ (4))), some (.int (ei_ (v))), some (.int (ei_ ((-1))))], [.int (ei_ ((-1)))], m)) rfl ?_
        refine pw_ifT rfl (by decide) (show (-1) < 0 by decide) ?_
        refine pw_steps 1 (s' := (32, [some (.ref 47), some (.int (ei_ (a))), some (.int (ei_ (4))), some (.int (ei_ (v))), some (.int (ei_ ((-1))))], [.int (ei_ ((-1)))], m)) rfl ?_
        refine pw_iret rfl rfl rfl ?_
        exact k0 (by omega)
      · refine pw_steps 4 (s' := (44, [some (.ref 47), some (.int (ei_ (a))), some (.int (ei_ (4)))], [.long (el_ (5)), .long (el_ (4)), .long ((ei_ (4)).toInt64)], m)) rfl ?_
        refine pw_cv (congrArg (fun z_ : Int64 => ((44, [some (.ref 47), some (.int (ei_ (a))), some (.int (ei_ (4)))], [.long (el_ (5)), .long (el_ (4)), .long z_], m) : am_S)) (el_i2l (by decide) rfl)) ?_
        refine pw_callS (As := [.long (el_ (4)), .long (el_ (4)), .long (el_ (5))]) (st := []) rfl (by decide) rfl rfl (Nat.le_of_ble_eq_true rfl) ?_
        refine mt_within (by omega) (by omega) (by omega) (fun g140 g141 => ?_) (fun g142 => ?_) (fun g143 => ?_)
        · refine pw_ifF rfl (by decide) (show ¬ (1 = 0) by decide) ?_
          refine pw_steps 6 (s' := (60, [some (.ref 47), some (.int (ei_ (a))), some (.int (ei_ (4)))], [.int (((ei_ (32)) + (ei_ (4))) - (ei_ (4)))], m)) rfl ?_
          refine pw_cv (congrArg (fun z_ : Int32 => ((60, [some (.ref 47), some (.int (ei_ (a))), some (.int (ei_ (4)))], [.int z_], m) : am_S)) (ei_sub (ei_add rfl rfl) rfl)) ?_
          refine pw_iret rfl rfl rfl ?_
          refine pw_steps 2 (s' := (10, [some (.ref 47), some (.int (ei_ (a))), some (.int (ei_ (4))), some (.int (ei_ (v))), some (.int (ei_ (32)))], [.int (ei_ (32))], m)) rfl ?_
          refine pw_ifF rfl (by decide) (show ¬ (32 < 0) by decide) ?_
          refine pw_steps 2 (s' := (15, [some (.ref 47), some (.int (ei_ (a))), some (.int (ei_ (4))), some (.int (ei_ (v))), some (.int (ei_ (32)))], [.int (ei_ (v)), .int (ei_ (4))], m)) rfl ?_
          refine pw_callS (As := [.int (ei_ (4)), .int (ei_ (v))]) (st := []) rfl (by decide) rfl rfl (Nat.le_of_ble_eq_true rfl) ?_
          refine pw_intro (I := iX9_mayBecome) (T := tX9_mayBecome) rfl rfl rfl ?_
          refine pw_steps 1 (s' := (1, [some (.int (ei_ (4))), some (.int (ei_ (v)))], [.int (ei_ (4))], m)) rfl ?_
          refine pw_tabD rfl (by decide) (by decide) ?_
          refine pw_steps 4 (s' := (56, [some (.int (ei_ (4))), some (.int (ei_ (v)))], [.long (el_ (9)), .long (el_ (0)), .long ((ei_ (v)).toInt64)], m)) rfl ?_
          refine pw_cv (congrArg (fun z_ : Int64 => ((56, [some (.int (ei_ (4))), some (.int (ei_ (v)))], [.long (el_ (9)), .long (el_ (0)), .long z_], m) : am_S)) (el_i2l p5 rfl)) ?_
          refine pw_callS (As := [.long (el_ (v)), .long (el_ (0)), .long (el_ (9))]) (st := []) rfl (by decide) rfl rfl (Nat.le_of_ble_eq_true rfl) ?_
          refine mt_within (by omega) (by omega) (by omega) (fun g144 g145 => ?_) (fun g146 => ?_) (fun g147 => ?_)
          · refine pw_iret rfl rfl rfl ?_
            refine pw_ifF rfl (by decide) (show ¬ (1 = 0) by decide) ?_
            refine pw_steps 3 (s' := (25, [some (.ref 47), some (.int (ei_ (a))), some (.int (ei_ (4))), some (.int (ei_ (v))), some (.int (ei_ (32)))], [.int (ei_ (v)), .int (ei_ (32)), .ref 47], m)) rfl ?_
            refine pw_call (As := [.int (ei_ (32)), .int (ei_ (v))]) (st := []) (k := 47) rfl rfl rfl rfl rfl (Nat.le_of_ble_eq_true rfl) ?_
            refine ms_bec (by omega) (p2) (p5) (by omega) (fun g148 => ?_) (fun x149 n150 s151 m1152 g153 g154 g155 g156 g157 g158 g159 g160 g161 g162 g163 g164 g165 => ?_)
            · refine pw_steps 1 (s' := (32, [some (.ref 47), some (.int (ei_ (a))), some (.int (ei_ (4))), some (.int (ei_ (v))), some (.int (ei_ (32)))], [.int (ei_ (v))], m)) rfl ?_
              refine pw_iret rfl rfl rfl ?_
              exact k1 32 (by omega) (by unfold tl_; omega) g148
            · refine pw_steps 1 (s' := (32, [some (.ref 47), some (.int (ei_ (a))), some (.int (ei_ (4))), some (.int (ei_ (v))), some (.int (ei_ (32)))], [.int (ei_ (x149))], m1152)) rfl ?_
              refine pw_iret rfl rfl rfl ?_
              exact k2 x149 32 n150 s151 m1152 (by omega) (by unfold tl_; omega) g153 g154 g155 g156 g157 g158 g159 g160 g161 g162 g163 g164 g165
          · refine pw_iret rfl rfl rfl ?_
            refine pw_ifT rfl (by decide) (show 0 = 0 by decide) ?_
            refine pw_steps 1 (s' := (32, [some (.ref 47), some (.int (ei_ (a))), some (.int (ei_ (4))), some (.int (ei_ (v))), some (.int (ei_ (32)))], [.int (ei_ ((-1)))], m)) rfl ?_
            refine pw_iret rfl rfl rfl ?_
            exact k0 (by omega)
          · refine pw_iret rfl rfl rfl ?_
            refine pw_ifT rfl (by decide) (show 0 = 0 by decide) ?_
            refine pw_steps 1 (s' := (32, [some (.ref 47), some (.int (ei_ (a))), some (.int (ei_ (4))), some (.int (ei_ (v))), some (.int (ei_ (32)))], [.int (ei_ ((-1)))], m)) rfl ?_
            refine pw_iret rfl rfl rfl ?_
            exact k0 (by omega)
        · exact False.elim (by omega)
        · exact False.elim (by omega)
  · subst h1
    refine pw_steps 3 (s' := (3, [some (.ref 47), some (.int (ei_ (a))), some (.int (ei_ (5))), some (.int (ei_ (v))), none], [.int (ei_ (5)), .int (ei_ (a)), .ref 47], m)) rfl ?_
    refine pw_call (As := [.int (ei_ (a)), .int (ei_ (5))]) (st := []) (k := 47) rfl rfl rfl rfl rfl (Nat.le_of_ble_eq_true rfl) ?_
    refine pw_intro (I := iX9_placeOf) (T := tX9_placeOf) rfl rfl rfl ?_
    refine pw_steps 4 (s' := (6, [some (.ref 47), some (.int (ei_ (a))), some (.int (ei_ (5)))], [.long (el_ (3)), .long (el_ (0)), .long ((ei_ (5)).toInt64)], m)) rfl ?_
    refine pw_cv (congrArg (fun z_ : Int64 => ((6, [some (.ref 47), some (.int (ei_ (a))), some (.int (ei_ (5)))], [.long (el_ (3)), .long (el_ (0)), .long z_], m) : am_S)) (el_i2l (by decide) rfl)) ?_
    refine pw_callS (As := [.long (el_ (5)), .long (el_ (0)), .long (el_ (3))]) (st := []) rfl (by decide) rfl rfl (Nat.le_of_ble_eq_true rfl) ?_
    refine mt_within (by omega) (by omega) (by omega) (fun g166 g167 => ?_) (fun g168 => ?_) (fun g169 => ?_)
    · exact False.elim (by omega)
    · exact False.elim (by omega)
    · refine pw_ifT rfl (by decide) (show 0 = 0 by decide) ?_
      refine pw_steps 1 (s' := (33, [some (.ref 47), some (.int (ei_ (a))), some (.int (ei_ (5)))], [.int (ei_ (a))], m)) rfl ?_
      refine pw_if rfl p3 (fun (h170 : ¬ a = 0) => ?_) (fun (h170 : ¬ ¬ a = 0) => ?_)
      · refine pw_steps 1 (s' := (60, [some (.ref 47), some (.int (ei_ (a))), some (.int (ei_ (5)))], [.int (ei_ ((-1)))], m)) rfl ?_
        refine pw_iret rfl rfl rfl ?_
        refine pw_steps 2 (s' := (10, [some (.ref 47), some (.int (ei_ (a))), some (.int (ei_ (5))), some (.int (ei_ (v))), some (.int (ei_ ((-1))))], [.int (ei_ ((-1)))], m)) rfl ?_
        refine pw_ifT rfl (by decide) (show (-1) < 0 by decide) ?_
        refine pw_steps 1 (s' := (32, [some (.ref 47), some (.int (ei_ (a))), some (.int (ei_ (5))), some (.int (ei_ (v))), some (.int (ei_ ((-1))))], [.int (ei_ ((-1)))], m)) rfl ?_
        refine pw_iret rfl rfl rfl ?_
        exact k0 (by omega)
      · refine pw_steps 4 (s' := (44, [some (.ref 47), some (.int (ei_ (a))), some (.int (ei_ (5)))], [.long (el_ (5)), .long (el_ (4)), .long ((ei_ (5)).toInt64)], m)) rfl ?_
        refine pw_cv (congrArg (fun z_ : Int64 => ((44, [some (.ref 47), some (.int (ei_ (a))), some (.int (ei_ (5)))], [.long (el_ (5)), .long (el_ (4)), .long z_], m) : am_S)) (el_i2l (by decide) rfl)) ?_
        refine pw_callS (As := [.long (el_ (5)), .long (el_ (4)), .long (el_ (5))]) (st := []) rfl (by decide) rfl rfl (Nat.le_of_ble_eq_true rfl) ?_
        refine mt_within (by omega) (by omega) (by omega) (fun g171 g172 => ?_) (fun g173 => ?_) (fun g174 => ?_)
        · refine pw_ifF rfl (by decide) (show ¬ (1 = 0) by decide) ?_
          refine pw_steps 6 (s' := (60, [some (.ref 47), some (.int (ei_ (a))), some (.int (ei_ (5)))], [.int (((ei_ (32)) + (ei_ (5))) - (ei_ (4)))], m)) rfl ?_
          refine pw_cv (congrArg (fun z_ : Int32 => ((60, [some (.ref 47), some (.int (ei_ (a))), some (.int (ei_ (5)))], [.int z_], m) : am_S)) (ei_sub (ei_add rfl rfl) rfl)) ?_
          refine pw_iret rfl rfl rfl ?_
          refine pw_steps 2 (s' := (10, [some (.ref 47), some (.int (ei_ (a))), some (.int (ei_ (5))), some (.int (ei_ (v))), some (.int (ei_ (33)))], [.int (ei_ (33))], m)) rfl ?_
          refine pw_ifF rfl (by decide) (show ¬ (33 < 0) by decide) ?_
          refine pw_steps 2 (s' := (15, [some (.ref 47), some (.int (ei_ (a))), some (.int (ei_ (5))), some (.int (ei_ (v))), some (.int (ei_ (33)))], [.int (ei_ (v)), .int (ei_ (5))], m)) rfl ?_
          refine pw_callS (As := [.int (ei_ (5)), .int (ei_ (v))]) (st := []) rfl (by decide) rfl rfl (Nat.le_of_ble_eq_true rfl) ?_
          refine pw_intro (I := iX9_mayBecome) (T := tX9_mayBecome) rfl rfl rfl ?_
          refine pw_steps 1 (s' := (1, [some (.int (ei_ (5))), some (.int (ei_ (v)))], [.int (ei_ (5))], m)) rfl ?_
          refine pw_tabD rfl (by decide) (by decide) ?_
          refine pw_steps 4 (s' := (56, [some (.int (ei_ (5))), some (.int (ei_ (v)))], [.long (el_ (9)), .long (el_ (0)), .long ((ei_ (v)).toInt64)], m)) rfl ?_
          refine pw_cv (congrArg (fun z_ : Int64 => ((56, [some (.int (ei_ (5))), some (.int (ei_ (v)))], [.long (el_ (9)), .long (el_ (0)), .long z_], m) : am_S)) (el_i2l p5 rfl)) ?_
          refine pw_callS (As := [.long (el_ (v)), .long (el_ (0)), .long (el_ (9))]) (st := []) rfl (by decide) rfl rfl (Nat.le_of_ble_eq_true rfl) ?_
          refine mt_within (by omega) (by omega) (by omega) (fun g175 g176 => ?_) (fun g177 => ?_) (fun g178 => ?_)
          · refine pw_iret rfl rfl rfl ?_
            refine pw_ifF rfl (by decide) (show ¬ (1 = 0) by decide) ?_
            refine pw_steps 3 (s' := (25, [some (.ref 47), some (.int (ei_ (a))), some (.int (ei_ (5))), some (.int (ei_ (v))), some (.int (ei_ (33)))], [.int (ei_ (v)), .int (ei_ (33)), .ref 47], m)) rfl ?_
            refine pw_call (As := [.int (ei_ (33)), .int (ei_ (v))]) (st := []) (k := 47) rfl rfl rfl rfl rfl (Nat.le_of_ble_eq_true rfl) ?_
            refine ms_bec (by omega) (p2) (p5) (by omega) (fun g179 => ?_) (fun x180 n181 s182 m1183 g184 g185 g186 g187 g188 g189 g190 g191 g192 g193 g194 g195 g196 => ?_)
            · refine pw_steps 1 (s' := (32, [some (.ref 47), some (.int (ei_ (a))), some (.int (ei_ (5))), some (.int (ei_ (v))), some (.int (ei_ (33)))], [.int (ei_ (v))], m)) rfl ?_
              refine pw_iret rfl rfl rfl ?_
              exact k1 33 (by omega) (by unfold tl_; omega) g179
            · refine pw_steps 1 (s' := (32, [some (.ref 47), some (.int (ei_ (a))), some (.int (ei_ (5))), some (.int (ei_ (v))), some (.int (ei_ (33)))], [.int (ei_ (x180))], m1183)) rfl ?_
              refine pw_iret rfl rfl rfl ?_
              exact k2 x180 33 n181 s182 m1183 (by omega) (by unfold tl_; omega) g184 g185 g186 g187 g188 g189 g190 g191 g192 g193 g194 g195 g196
          · refine pw_iret rfl rfl rfl ?_
            refine pw_ifT rfl (by decide) (show 0 = 0 by decide) ?_
            refine pw_steps 1 (s' := (32, [some (.ref 47), some (.int (ei_ (a))), some (.int (ei_ (5))), some (.int (ei_ (v))), some (.int (ei_ (33)))], [.int (ei_ ((-1)))], m)) rfl ?_
            refine pw_iret rfl rfl rfl ?_
            exact k0 (by omega)
          · refine pw_iret rfl rfl rfl ?_
            refine pw_ifT rfl (by decide) (show 0 = 0 by decide) ?_
            refine pw_steps 1 (s' := (32, [some (.ref 47), some (.int (ei_ (a))), some (.int (ei_ (5))), some (.int (ei_ (v))), some (.int (ei_ (33)))], [.int (ei_ ((-1)))], m)) rfl ?_
            refine pw_iret rfl rfl rfl ?_
            exact k0 (by omega)
        · exact False.elim (by omega)
        · exact False.elim (by omega)
  · refine pw_steps 3 (s' := (3, [some (.ref 47), some (.int (ei_ (a))), some (.int (ei_ (b))), some (.int (ei_ (v))), none], [.int (ei_ (b)), .int (ei_ (a)), .ref 47], m)) rfl ?_
    refine pw_call (As := [.int (ei_ (a)), .int (ei_ (b))]) (st := []) (k := 47) rfl rfl rfl rfl rfl (Nat.le_of_ble_eq_true rfl) ?_
    refine pw_intro (I := iX9_placeOf) (T := tX9_placeOf) rfl rfl rfl ?_
    refine pw_steps 4 (s' := (6, [some (.ref 47), some (.int (ei_ (a))), some (.int (ei_ (b)))], [.long (el_ (3)), .long (el_ (0)), .long ((ei_ (b)).toInt64)], m)) rfl ?_
    refine pw_cv (congrArg (fun z_ : Int64 => ((6, [some (.ref 47), some (.int (ei_ (a))), some (.int (ei_ (b)))], [.long (el_ (3)), .long (el_ (0)), .long z_], m) : am_S)) (el_i2l p4 rfl)) ?_
    refine pw_callS (As := [.long (el_ (b)), .long (el_ (0)), .long (el_ (3))]) (st := []) rfl (by decide) rfl rfl (Nat.le_of_ble_eq_true rfl) ?_
    refine mt_within (by omega) (by omega) (by omega) (fun g197 g198 => ?_) (fun g199 => ?_) (fun g200 => ?_)
    · exact False.elim (by omega)
    · exact False.elim (by omega)
    · refine pw_ifT rfl (by decide) (show 0 = 0 by decide) ?_
      refine pw_steps 1 (s' := (33, [some (.ref 47), some (.int (ei_ (a))), some (.int (ei_ (b)))], [.int (ei_ (a))], m)) rfl ?_
      refine pw_if rfl p3 (fun (h201 : ¬ a = 0) => ?_) (fun (h201 : ¬ ¬ a = 0) => ?_)
      · refine pw_steps 1 (s' := (60, [some (.ref 47), some (.int (ei_ (a))), some (.int (ei_ (b)))], [.int (ei_ ((-1)))], m)) rfl ?_
        refine pw_iret rfl rfl rfl ?_
        refine pw_steps 2 (s' := (10, [some (.ref 47), some (.int (ei_ (a))), some (.int (ei_ (b))), some (.int (ei_ (v))), some (.int (ei_ ((-1))))], [.int (ei_ ((-1)))], m)) rfl ?_
        refine pw_ifT rfl (by decide) (show (-1) < 0 by decide) ?_
        refine pw_steps 1 (s' := (32, [some (.ref 47), some (.int (ei_ (a))), some (.int (ei_ (b))), some (.int (ei_ (v))), some (.int (ei_ ((-1))))], [.int (ei_ ((-1)))], m)) rfl ?_
        refine pw_iret rfl rfl rfl ?_
        exact k0 (by omega)
      · refine pw_steps 4 (s' := (44, [some (.ref 47), some (.int (ei_ (a))), some (.int (ei_ (b)))], [.long (el_ (5)), .long (el_ (4)), .long ((ei_ (b)).toInt64)], m)) rfl ?_
        refine pw_cv (congrArg (fun z_ : Int64 => ((44, [some (.ref 47), some (.int (ei_ (a))), some (.int (ei_ (b)))], [.long (el_ (5)), .long (el_ (4)), .long z_], m) : am_S)) (el_i2l p4 rfl)) ?_
        refine pw_callS (As := [.long (el_ (b)), .long (el_ (4)), .long (el_ (5))]) (st := []) rfl (by decide) rfl rfl (Nat.le_of_ble_eq_true rfl) ?_
        refine mt_within (by omega) (by omega) (by omega) (fun g202 g203 => ?_) (fun g204 => ?_) (fun g205 => ?_)
        · exact False.elim (by omega)
        · exact False.elim (by omega)
        · refine pw_ifT rfl (by decide) (show 0 = 0 by decide) ?_
          refine pw_steps 1 (s' := (60, [some (.ref 47), some (.int (ei_ (a))), some (.int (ei_ (b)))], [.int (ei_ ((-1)))], m)) rfl ?_
          refine pw_iret rfl rfl rfl ?_
          refine pw_steps 2 (s' := (10, [some (.ref 47), some (.int (ei_ (a))), some (.int (ei_ (b))), some (.int (ei_ (v))), some (.int (ei_ ((-1))))], [.int (ei_ ((-1)))], m)) rfl ?_
          refine pw_ifT rfl (by decide) (show (-1) < 0 by decide) ?_
          refine pw_steps 1 (s' := (32, [some (.ref 47), some (.int (ei_ (a))), some (.int (ei_ (b))), some (.int (ei_ (v))), some (.int (ei_ ((-1))))], [.int (ei_ ((-1)))], m)) rfl ?_
          refine pw_iret rfl rfl rfl ?_
          exact k0 (by omega)

def pMnd (k j : Nat) : Bool := k == 2 || k == 25 || k == 26 || k == 27 || k == 28 || (k == 24 && j == 4) || (k == 24 && j == 5) || k == 48 || k == 49 || k == 50 || k == 51 || (k == 47 && j == 4) || (k == 47 && j == 5)
theorem pMc_Mnd : ∀ k j, pMnd k j = false → pMc k j = false := by
  intro k j h
  simp only [pMc, pMnd, Bool.or_eq_false_iff, Bool.and_eq_false_iff, beq_eq_false_iff_ne, decide_eq_false_iff_not] at h ⊢
  omega

theorem pMb2_Mnd : ∀ k j, pMnd k j = false → pMb2 k j = false := by
  intro k j h
  simp only [pMb2, pMnd, Bool.or_eq_false_iff, Bool.and_eq_false_iff, beq_eq_false_iff_ne, decide_eq_false_iff_not] at h ⊢
  omega


theorem rC_mend {m m2 : am_M} {a b p v n s : Int} (hp : rP_ m) (hc : rC_ m) (hP : vi_ m2 1 1 = vi_ m 1 1) (ht : tl_ m a b p) (hv : 0 ≤ v ∧ v ≤ 9) (hn : ns_ (vi_ m 24 4) n s)
    (c4 : vi_ m2 24 4 = n + 1) (c5 : vi_ m2 24 5 = n + 1) (g5 : vi_ m2 47 5 = n + 1) (g4 : vi_ m2 47 4 = n + 1)
    (a25 : ∀ j, 0 ≤ j → j < n → vi_ m2 25 j = vi_ m 25 (j + s)) (b25 : vi_ m2 25 n = a) (a26 : ∀ j, 0 ≤ j → j < n → vi_ m2 26 j = vi_ m 26 (j + s)) (b26 : vi_ m2 26 n = b)
    (a27 : ∀ j, 0 ≤ j → j < n → vi_ m2 27 j = vi_ m 27 (j + s)) (b27 : vi_ m2 27 n = vi_ m 2 p) (a28 : ∀ j, 0 ≤ j → j < n → vi_ m2 28 j = vi_ m 28 (j + s)) (b28 : vi_ m2 28 n = v)
    (a49 : ∀ j, 0 ≤ j → j < n → vi_ m2 49 j = vi_ m 49 (j + s)) (b49 : vi_ m2 49 n = p) (a50 : ∀ j, 0 ≤ j → j < n → vi_ m2 50 j = vi_ m 50 (j + s)) (b50 : vi_ m2 50 n = vi_ m 2 p)
    (a51 : ∀ j, 0 ≤ j → j < n → vi_ m2 51 j = vi_ m 51 (j + s)) (b51 : vi_ m2 51 n = v) : rC_ m2 := by
  obtain ⟨h1, h2, h3, h4⟩ := hc
  obtain ⟨p1, p2, p3, p4⟩ := hp
  unfold ns_ at hn
  unfold tl_ at ht
  refine ⟨by rw [g5, c4], by rw [g4, c5], by rw [c4, c5]; omega, fun j j1 j2 => ?_⟩
  rw [c5] at j2
  by_cases e : j = n
  · subst e
    rw [b25, b26, b27, b28, b49, b50, b51, hP]
    have t := p3 p (by omega) (by omega)
    refine ⟨?_, rfl, rfl, t.1, t.2.1, hv.1, hv.2⟩
    omega
  · rw [a25 j j1 (by omega), a26 j j1 (by omega), a27 j j1 (by omega), a28 j j1 (by omega), a49 j j1 (by omega), a50 j j1 (by omega), a51 j j1 (by omega), hP]
    exact h4 (j + s) (by omega) (by omega)

theorem op_mend {q : am_X} {d : Nat} {m : am_M} {a b v : Int} (q0 : -2147483648 ≤ a ∧ a < 2147483648) (q1 : -2147483648 ≤ b ∧ b < 2147483648) (q2 : -2147483648 ≤ v ∧ v < 2147483648) (hR : rR_ m) : pw_C q (d + 60) 15 [.ref 0, .int (ei_ a), .int (ei_ b), .int (ei_ v)] m (fun r1 m1 => pw_C q (d + 60) 181 [.ref 47, .int (ei_ a), .int (ei_ b), .int (ei_ v)] m1 (fun r2 m2 => ∃ x : Int, r1 = some (.int (ei_ x)) ∧ r2 = some (.int (ei_ x)) ∧ rR_ m2)) := by
  obtain ⟨hp, hd, hi, ht, hl, hz, hc, ha, hs⟩ := id hR
  obtain ⟨hP1, hP2, hP3, hP4⟩ := id hp
  obtain ⟨hc1, hc2, hc3, hc4⟩ := id hc
  have heq : ∀ p, tl_ m a b p → 0 ≤ p ∧ p < 34 ∧ vi_ m 48 p = vi_ m 2 p := by
    intro p h
    have h' : 0 ≤ p ∧ p < 34 := by unfold tl_ at h; omega
    exact ⟨h'.1, h'.2, (hP3 p h'.1 (by omega)).2.2⟩
  refine cs_mend hp (by omega) q0 q1 q2 (fun g => ?_) (fun p f t e => ?_) (fun x p n s m1 f t e ne hn s1 c2 c4 c5 a25 b25 a26 b26 a27 b27 a28 b28 => ?_)
  · refine ms_mend (by omega) hP2 (by omega) q0 q1 q2 (fun g => ?_) (fun p f t e => ?_) (fun x p n s m1 f t _ _ _ _ _ _ _ _ _ _ _ _ _ => ?_)
    · exact ⟨-1, rfl, rfl, hR⟩
    · unfold tl_ at t; omega
    · unfold tl_ at t; omega
  · refine ms_mend (by omega) hP2 (by omega) q0 q1 q2 (fun g => ?_) (fun p2 f2 t2 e2 => ?_) (fun x p2 n s m1 f2 t2 e2 ne2 _ _ _ _ _ _ _ _ _ _ _ => ?_)
    · unfold tl_ at t; omega
    · exact ⟨v, rfl, rfl, hR⟩
    · have h := heq p t
      have h2 := tl_u t t2
      subst h2
      omega
  · have f1 : vi_ m1 1 1 = vi_ m 1 1 := sm_v s1 (k := 1) (j := 1) rfl
    have f6 : vi_ m1 47 6 = vi_ m 47 6 := sm_v s1 (k := 47) (j := 6) rfl
    have f5 : vi_ m1 47 5 = vi_ m 47 5 := sm_v s1 (k := 47) (j := 5) rfl
    have h := heq p t
    refine ms_mend (by omega) (by omega) (by omega) q0 q1 q2 (fun g => ?_) (fun p2 f2 t2 e2 => ?_) (fun x2 p2 n2 sx m2 f2 t2 e2 ne2 hn2 s2 c48 g5 g4 a49 b49 a50 b50 a51 b51 => ?_)
    · unfold tl_ at t; omega
    · exfalso
      have t3 : tl_ m a b p2 := by unfold tl_ at t2 ⊢; rw [f1] at t2; exact t2
      have h2 := tl_u t t3
      subst h2
      rw [sm_v s1 (k := 48) (j := p2) rfl] at e2
      omega
    · have t3 : tl_ m a b p2 := by unfold tl_ at t2 ⊢; rw [f1] at t2; exact t2
      have h2 := tl_u t t3
      subst h2
      rw [f5, hc1] at hn2
      obtain ⟨h3, h4⟩ := ns_u hn hn2
      subst h3
      subst h4
      have e48 : vi_ m1 48 p2 = vi_ m 48 p2 := sm_v s1 (k := 48) (j := p2) rfl
      have hx : x2 = x := by omega
      have hv : 0 ≤ v ∧ v ≤ 9 := by omega
      have hsm : sm_ pMnd m m2 := sm_tr (sm_le s1 pMc_Mnd) (sm_le s2 pMb2_Mnd)
      have hP : rP_ m2 := rP_up (pl := p2) (v := v) hp ((sm_v s2 (k := 1) (j := 1) rfl).trans f1) ((sm_v s2 (k := 47) (j := 6) rfl).trans f6) (fun j a_ => (sm_v s2 (k := 2) (j := j) rfl).trans (c2 j a_)) (fun j a_ => by rw [c48 j a_, sm_f s1 (k := 48) (fun _ => rfl)]) hv (fun j a_ b_ => by unfold tl_ at t; omega)
      have hC : rC_ m2 := rC_mend hp hc ((sm_v s2 (k := 1) (j := 1) rfl).trans f1) t hv hn ((sm_v s2 (k := 24) (j := 4) rfl).trans c4) ((sm_v s2 (k := 24) (j := 5) rfl).trans c5) g5 g4 (fun j a_ b_ => (sm_v s2 (k := 25) (j := j) rfl).trans (a25 j a_ b_)) ((sm_v s2 (k := 25) (j := n2) rfl).trans b25) (fun j a_ b_ => (sm_v s2 (k := 26) (j := j) rfl).trans (a26 j a_ b_)) ((sm_v s2 (k := 26) (j := n2) rfl).trans b26) (fun j a_ b_ => (sm_v s2 (k := 27) (j := j) rfl).trans (a27 j a_ b_)) (((sm_v s2 (k := 27) (j := n2) rfl).trans b27).trans e) (fun j a_ b_ => (sm_v s2 (k := 28) (j := j) rfl).trans (a28 j a_ b_)) ((sm_v s2 (k := 28) (j := n2) rfl).trans b28) (fun j a_ b_ => (a49 j a_ b_).trans (sm_v s1 (k := 49) (j := j + sx) rfl)) b49 (fun j a_ b_ => (a50 j a_ b_).trans (sm_v s1 (k := 50) (j := j + sx) rfl)) (b50.trans (by omega)) (fun j a_ b_ => (a51 j a_ b_).trans (sm_v s1 (k := 51) (j := j + sx) rfl)) b51
      exact ⟨x, rfl, by rw [hx], ⟨hP, rD_fr hsm rfl (fun _ => rfl) (fun _ => rfl) (fun _ => rfl) (fun _ => rfl) (fun _ => rfl) (fun _ => rfl) rfl rfl rfl rfl rfl rfl hd, rI_fr hsm rfl rfl rfl rfl (fun _ => rfl) (fun _ => rfl) (fun _ => rfl) (fun _ => rfl) (fun _ => rfl) (fun _ => rfl) (fun _ => rfl) rfl rfl rfl hi, rT_fr hsm rfl rfl (fun _ => rfl) (fun _ => rfl) ht, rL_fr hsm rfl rfl (fun _ => rfl) (fun _ => rfl) hl, rZ_fr hsm rfl hz, hC, rA_fr hsm rfl rfl (fun _ => rfl) (fun _ => rfl) rfl rfl (fun _ => rfl) (fun _ => rfl) ha, rS_fr hsm (fun _ => rfl) (fun _ => rfl) rfl (fun d_ a_ b_ => by rcases sf_six ⟨a_, b_⟩ with h_ | h_ | h_ | h_ | h_ | h_ <;> subst h_ <;> exact ⟨rfl, rfl, rfl⟩) hs⟩⟩

