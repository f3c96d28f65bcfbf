
/-! ===== ways: what they cost; the model's ways ===== -/
def cst_ (m : am_M) (j v : Int) : Int := 1000 - v + (if v < 10 * vi_ m 2 j then 10000 else 0) + (if v = 0 then 100000 else 0)
def le_ (m : am_M) (n j o w : Int) : Int := lf_ (vi_ m 5 j) (rt_ m o j w (vi_ m 2 32)) n
def cA_ (m : am_M) (n j o w : Int) : Int := cst_ m j (le_ m n j o w)
theorem wa_fr {P : Nat → Nat → Bool} {m m1 : am_M} {p k : Int} (h : sm_ P m m1) (e18 : P 18 5 = false) (e19 : ∀ j, P 19 j = false) (e20 : ∀ j, P 20 j = false) (g : wa_ p k m) : wa_ p k m1 := by
  unfold wa_ at g ⊢
  rw [sm_v h (k := 18) (j := 5) e18, sm_f h (k := 19) e19, sm_f h (k := 20) e20]
  exact g
theorem pr_b3 {P k : Int} (h : 0 ≤ P ∧ P ≤ 5) (hk : 0 ≤ k ∧ k ≤ P) : 0 ≤ pr_ P k.toNat ∧ pr_ P k.toNat ≤ 3125 := by
  rcases (show P = 0 ∨ P = 1 ∨ P = 2 ∨ P = 3 ∨ P = 4 ∨ P = 5 by omega) with g | g | g | g | g | g <;> subst g <;> rcases (show k = 0 ∨ k = 1 ∨ k = 2 ∨ k = 3 ∨ k = 4 ∨ k = 5 by omega) with g | g | g | g | g | g <;> subst g <;> first | decide | (exfalso; omega)
def lW_ (m : am_M) (n c j : Int) : Int := le_ m n j (wy_ (vi_ m 1 1) c j) (cn_ (wy_ (vi_ m 1 1) c) (wy_ (vi_ m 1 1) c j) (vi_ m 1 1).toNat)
theorem lW_b {m : am_M} (hp : rP_ m) (hd : rD_ m) {n c j : Int} (hj : 0 ≤ j ∧ j < vi_ m 1 1) (hn : 0 ≤ n) : 0 ≤ lW_ m n c j ∧ lW_ m n c j ≤ 999 := by
  have h1 := hd.2.1 j hj.1 (by have := hp.1; omega)
  have h2 := lf_b (l := vi_ m 5 j) (r := rt_ m (wy_ (vi_ m 1 1) c j) j (cn_ (wy_ (vi_ m 1 1) c) (wy_ (vi_ m 1 1) c j) (vi_ m 1 1).toNat) (vi_ m 2 32)) (n := n) h1.1 (rt_b _ _ _ _ _).1 hn
  unfold lW_ le_; omega
theorem lW_of {m M : am_M} (hp : rP_ m) (hd : rD_ m) (hs : sm_ pSw m M) {c n j : Int} (h52 : ∀ j, 0 ≤ j → j < vi_ m 1 1 → vi_ M 52 j = wy_ (vi_ m 1 1) c j) (hj : 0 ≤ j ∧ j < vi_ m 1 1) : lf_ (vi_ M 53 j) (bn_ M j (vi_ M 2 32)) n = lW_ m n c j := by
  unfold bn_ lW_ le_
  rw [rt_cg (m := m) (sm_v hs (k := 14) (j := 3) rfl) (sm_f hs (k := 15) (fun _ => rfl)) (sm_f hs (k := 2) (fun _ => rfl)), h52 j hj.1 hj.2, sm_f hs (k := 53) (fun _ => rfl), sm_f hs (k := 2) (fun _ => rfl), sm_v hs (k := 1) (j := 1) rfl, (hd.2.2.1 j hj.1 hj.2).2]
  rw [cn_cg (f := vi_ M 52) (g := wy_ (vi_ m 1 1) c) _ (fun i a b => by rw [h52 i a (by omega)])]
theorem sm_52 {m0 m1 : am_M} (hs : sm_ pSw m0 m1) (h : ∀ j, 0 ≤ j → vi_ m1 52 j = vi_ m0 52 j) : sm_ pSc m0 m1 := by
  refine ⟨fun k j e => ?_, hs.2⟩
  by_cases c : k = 52
  · subst c
    have t := h (j : Int) (by omega)
    simp only [vi_, Int.toNat_natCast] at t
    have t2 := congrArg Int32.ofInt t
    rwa [Int32.ofInt_toInt, Int32.ofInt_toInt] at t2
  · refine hs.1 k j ?_
    simp only [pSw, Bool.or_eq_false_iff]
    exact ⟨e, by simpa using c⟩

def pC21 (k _j : Nat) : Bool := k == 21
def pCw (k _j : Nat) : Bool := k == 16 || k == 17 || k == 21 || k == 23
def pCz (k _j : Nat) : Bool := k == 16 || k == 17 || k == 23
theorem pLw_Cw : ∀ k j, pCw k j = false → pLw k j = false := by
  intro k j h; simp only [pCw, pLw, Bool.or_eq_false_iff, beq_eq_false_iff_ne] at h ⊢; omega
theorem pLw_Cz : ∀ k j, pCz k j = false → pLw k j = false := by
  intro k j h; simp only [pCz, pLw, Bool.or_eq_false_iff, beq_eq_false_iff_ne] at h ⊢; omega
theorem pWb_Sc : ∀ k j, pSc k j = false → pWb k j = false := by
  intro k j h
  simp only [pWb, pSc, Bool.or_eq_false_iff, Bool.and_eq_false_iff, beq_eq_false_iff_ne, decide_eq_false_iff_not] at h ⊢
  omega

theorem pWn_Sc : ∀ k j, pSc k j = false → pWn k j = false := by
  intro k j h
  simp only [pWn, pSc, Bool.or_eq_false_iff, Bool.and_eq_false_iff, beq_eq_false_iff_ne, decide_eq_false_iff_not] at h ⊢
  omega

theorem pC22_Sc : ∀ k j, pSc k j = false → pC22 k j = false := by
  intro k j h
  simp only [pC22, pSc, Bool.or_eq_false_iff, Bool.and_eq_false_iff, beq_eq_false_iff_ne, decide_eq_false_iff_not] at h ⊢
  omega

set_option maxHeartbeats 4000000 in
set_option maxRecDepth 20000 in
theorem cw_costA {q : am_X} {d : Nat} {m : am_M} {Q : Option Value → am_M → Prop} {m0 : am_M} {name : Int} {rate : Int} {n : Int}  (p0 : rP_ m0) (p1 : rF_ m0) (p2 : sm_ pSc m0 m) (p3 : 0 ≤ name ∧ name < vi_ m0 1 1) (p4 : 0 ≤ rate ∧ rate ≤ 99) (p5 : 0 ≤ n ∧ n ≤ 99) (k0 : ∀ (x : Int), (x = cst_ m0 name (lf_ (vi_ m0 5 name) rate n)) → (0 ≤ x ∧ x ≤ 111000) → Q (some (.int (ei_ (x)))) m) : pw_C q (d + 6) 71 [.ref 0, .int (ei_ (name)), .int (ei_ (rate)), .int (ei_ (n))] m Q := by
  obtain ⟨hP1, hP2, hP3, hP4⟩ := id p0
  refine pw_intro (I := iX8_costAfter) (T := tX8_costAfter) rfl rfl rfl ?_
  refine pw_steps 5 (s' := (7, [some (.ref 0), some (.int (ei_ (name))), some (.int (ei_ (rate))), some (.int (ei_ (n))), none, none], [.int (ei_ (n)), .int (ei_ (rate)), .int (ei_ (name)), .ref 3], m)) rfl ?_
  refine pw_call (As := [.int (ei_ (name)), .int (ei_ (rate)), .int (ei_ (n))]) (st := []) (k := 3) rfl rfl rfl rfl rfl (Nat.le_of_ble_eq_true rfl) ?_
  refine cw_leftBy (p1) (p2) (by omega) (p4) (p5) (fun x1 g2 g3 => ?_)
  refine pw_steps 9 (s' := (26, [some (.ref 0), some (.int (ei_ (name))), some (.int (ei_ (rate))), some (.int (ei_ (n))), some (.int (ei_ (x1))), some (.int ((ei_ (1000)) - (ei_ (x1))))], [.int (ei_ (x1)), .int (ei_ (name)), .ref 0, .int ((ei_ (1000)) - (ei_ (x1)))], m)) rfl ?_
  refine pw_cv (congrArg (fun z_ : Int32 => ((26, [some (.ref 0), some (.int (ei_ (name))), some (.int (ei_ (rate))), some (.int (ei_ (n))), some (.int (ei_ (x1))), some (.int z_)], [.int (ei_ (x1)), .int (ei_ (name)), .ref 0, .int z_], m) : am_S)) (ei_sub rfl rfl)) ?_
  refine pw_call (As := [.int (ei_ (name)), .int (ei_ (x1))]) (st := [.int (ei_ ((1000 - x1)))]) (k := 0) rfl rfl rfl rfl rfl (Nat.le_of_ble_eq_true rfl) ?_
  refine pw_intro (I := iX8_cracks) (T := tX8_cracks) rfl rfl rfl ?_
  refine pw_steps 6 (s' := (9, [some (.ref 0), some (.int (ei_ (name))), some (.int (ei_ (x1)))], [.int (ei_ (0)), .int (ei_ (name)), .ref 1, .int (ei_ (10)), .int (ei_ (x1))], m)) rfl ?_
  refine pw_call (As := [.int (ei_ (name)), .int (ei_ (0))]) (st := [.int (ei_ (10)), .int (ei_ (x1))]) (k := 1) rfl rfl rfl rfl rfl (Nat.le_of_ble_eq_true rfl) ?_
  refine cw_told0 (p0) (p2) (p3) (fun x4 g5 g6 => ?_)
  refine pw_steps 1 (s' := (13, [some (.ref 0), some (.int (ei_ (name))), some (.int (ei_ (x1)))], [.int ((ei_ (10)) * (ei_ (x4))), .int (ei_ (x1))], m)) rfl ?_
  refine pw_cv (congrArg (fun z_ : Int32 => ((13, [some (.ref 0), some (.int (ei_ (name))), some (.int (ei_ (x1)))], [.int z_, .int (ei_ (x1))], m) : am_S)) (ei_mul rfl rfl)) ?_
  refine pw_cmp rfl (by omega) (by omega) (fun (h7 : (10 * x4) ≤ x1) => ?_) (fun (h7 : ¬ ((10 * x4) ≤ x1)) => ?_)
  · refine pw_steps 1 (s' := (21, [some (.ref 0), some (.int (ei_ (name))), some (.int (ei_ (x1)))], [.int (ei_ (0))], m)) rfl ?_
    refine pw_iret rfl rfl rfl ?_
    refine pw_ifT rfl (by decide) (show 0 = 0 by decide) ?_
    refine pw_steps 5 (s' := (46, [some (.ref 0), some (.int (ei_ (name))), some (.int (ei_ (rate))), some (.int (ei_ (n))), some (.int (ei_ (x1))), some (.int ((ei_ ((1000 - x1))) + (ei_ (0))))], [.int (ei_ (x1)), .int ((ei_ ((1000 - x1))) + (ei_ (0)))], m)) rfl ?_
    refine pw_cv (congrArg (fun z_ : Int32 => ((46, [some (.ref 0), some (.int (ei_ (name))), some (.int (ei_ (rate))), some (.int (ei_ (n))), some (.int (ei_ (x1))), some (.int z_)], [.int (ei_ (x1)), .int z_], m) : am_S)) (ei_add rfl rfl)) ?_
    refine pw_if rfl (by omega) (fun (h8 : ¬ x1 = 0) => ?_) (fun (h8 : ¬ ¬ x1 = 0) => ?_)
    · refine pw_steps 4 (s' := (60, [some (.ref 0), some (.int (ei_ (name))), some (.int (ei_ (rate))), some (.int (ei_ (n))), some (.int (ei_ (x1))), some (.int ((ei_ (((1000 - x1) + 0))) + (ei_ (0))))], [.int ((ei_ (((1000 - x1) + 0))) + (ei_ (0)))], m)) rfl ?_
      refine pw_cv (congrArg (fun z_ : Int32 => ((60, [some (.ref 0), some (.int (ei_ (name))), some (.int (ei_ (rate))), some (.int (ei_ (n))), some (.int (ei_ (x1))), some (.int z_)], [.int z_], m) : am_S)) (ei_add rfl rfl)) ?_
      refine pw_iret rfl rfl rfl ?_
      exact k0 (((1000 - x1) + 0) + 0) (by rw [← g2, cst_, ← g5]; first | omega | ((repeat (first | rw [if_pos (by omega)] | rw [if_neg (by omega)])); omega)) (by omega)
    · refine pw_steps 5 (s' := (60, [some (.ref 0), some (.int (ei_ (name))), some (.int (ei_ (rate))), some (.int (ei_ (n))), some (.int (ei_ (x1))), some (.int ((ei_ (((1000 - x1) + 0))) + (ei_ (100000))))], [.int ((ei_ (((1000 - x1) + 0))) + (ei_ (100000)))], m)) rfl ?_
      refine pw_cv (congrArg (fun z_ : Int32 => ((60, [some (.ref 0), some (.int (ei_ (name))), some (.int (ei_ (rate))), some (.int (ei_ (n))), some (.int (ei_ (x1))), some (.int z_)], [.int z_], m) : am_S)) (ei_add rfl rfl)) ?_
      refine pw_iret rfl rfl rfl ?_
      exact k0 (((1000 - x1) + 0) + 100000) (by rw [← g2, cst_, ← g5]; first | omega | ((repeat (first | rw [if_pos (by omega)] | rw [if_neg (by omega)])); omega)) (by omega)
  · refine pw_steps 2 (s' := (21, [some (.ref 0), some (.int (ei_ (name))), some (.int (ei_ (x1)))], [.int (ei_ (1))], m)) rfl ?_
    refine pw_iret rfl rfl rfl ?_
    refine pw_ifF rfl (by decide) (show ¬ (1 = 0) by decide) ?_
    refine pw_steps 6 (s' := (46, [some (.ref 0), some (.int (ei_ (name))), some (.int (ei_ (rate))), some (.int (ei_ (n))), some (.int (ei_ (x1))), some (.int ((ei_ ((1000 - x1))) + (ei_ (10000))))], [.int (ei_ (x1)), .int ((ei_ ((1000 - x1))) + (ei_ (10000)))], m)) rfl ?_
    refine pw_cv (congrArg (fun z_ : Int32 => ((46, [some (.ref 0), some (.int (ei_ (name))), some (.int (ei_ (rate))), some (.int (ei_ (n))), some (.int (ei_ (x1))), some (.int z_)], [.int (ei_ (x1)), .int z_], m) : am_S)) (ei_add rfl rfl)) ?_
    refine pw_if rfl (by omega) (fun (h9 : ¬ x1 = 0) => ?_) (fun (h9 : ¬ ¬ x1 = 0) => ?_)
    · refine pw_steps 4 (s' := (60, [some (.ref 0), some (.int (ei_ (name))), some (.int (ei_ (rate))), some (.int (ei_ (n))), some (.int (ei_ (x1))), some (.int ((ei_ (((1000 - x1) + 10000))) + (ei_ (0))))], [.int ((ei_ (((1000 - x1) + 10000))) + (ei_ (0)))], m)) rfl ?_
      refine pw_cv (congrArg (fun z_ : Int32 => ((60, [some (.ref 0), some (.int (ei_ (name))), some (.int (ei_ (rate))), some (.int (ei_ (n))), some (.int (ei_ (x1))), some (.int z_)], [.int z_], m) : am_S)) (ei_add rfl rfl)) ?_
      refine pw_iret rfl rfl rfl ?_
      exact k0 (((1000 - x1) + 10000) + 0) (by rw [← g2, cst_, ← g5]; first | omega | ((repeat (first | rw [if_pos (by omega)] | rw [if_neg (by omega)])); omega)) (by omega)
    · refine pw_steps 5 (s' := (60, [some (.ref 0), some (.int (ei_ (name))), some (.int (ei_ (rate))), some (.int (ei_ (n))), some (.int (ei_ (x1))), some (.int ((ei_ (((1000 - x1) + 10000))) + (ei_ (100000))))], [.int ((ei_ (((1000 - x1) + 10000))) + (ei_ (100000)))], m)) rfl ?_
      refine pw_cv (congrArg (fun z_ : Int32 => ((60, [some (.ref 0), some (.int (ei_ (name))), some (.int (ei_ (rate))), some (.int (ei_ (n))), some (.int (ei_ (x1))), some (.int z_)], [.int z_], m) : am_S)) (ei_add rfl rfl)) ?_
      refine pw_iret rfl rfl rfl ?_
      exact k0 (((1000 - x1) + 10000) + 100000) (by rw [← g2, cst_, ← g5]; first | omega | ((repeat (first | rw [if_pos (by omega)] | rw [if_neg (by omega)])); omega)) (by omega)

set_option maxHeartbeats 4000000 in
set_option maxRecDepth 20000 in
theorem cs_bwA {q : am_X} {d : Nat} {m : am_M} {Q : Option Value → am_M → Prop} {m0 : am_M} {n0 : Int}  (p0 : rP_ m0) (p1 : rD_ m0) (p2 : rZ_ m0) (p3 : sm_ pSc m0 m) (p4 : vi_ m0 1 1 ≤ 5) (p5 : 0 ≤ n0 ∧ n0 ≤ 99) (k0 : ∀ (m1 : am_M), (sm_ pSc m0 m1) → (wa_ (vi_ m0 1 1) 0 m1) → (∀ i, 0 ≤ i → i < vi_ m0 1 1 → vi_ m1 21 i = vi_ m0 2 (16 + i)) → (∀ j o n, 0 ≤ j → j < vi_ m0 1 1 → 0 ≤ o → o < vi_ m0 1 1 → 1 ≤ n → n ≤ vi_ m0 1 1 → vi_ m1 23 (((j * 5) + o) * 5 + n - 1) = cA_ m0 n0 j o n) → Q none m1) : pw_C q (d + 12) 67 [.ref 0, .int (ei_ (n0)), .null] m Q := by
  obtain ⟨hP1, hP2, hP3, hP4⟩ := id p0
  refine pw_intro (I := iX8_beginWays) (T := tX8_beginWays) rfl rfl rfl ?_
  refine pw_steps 4 (s' := (8, [some (.ref 0), some (.int (ei_ (n0))), some (.null), none, none, none, none, none], [.ref 1, .ref 18], m)) rfl ?_
  refine pw_call (As := []) (st := [.ref 18]) (k := 1) rfl rfl rfl rfl rfl (Nat.le_of_ble_eq_true rfl) ?_
  refine pw_intro (I := iX3_size) (T := tX3_size) rfl rfl rfl ?_
  refine pw_steps 1 (s' := (1, [some (.ref 1)], [.ref 1], m)) rfl ?_
  refine pw_get rfl rfl (fun x1 (hx1 : x1 = vi_ m 1 1) rx1 sx1 => ?_)
  have ox1 := hx1
  replace hx1 : x1 = vi_ m0 1 1 := hx1.trans (sm_v p3 rfl)
  refine pw_iret rfl rfl rfl ?_
  refine pw_call (As := [.int (ei_ (x1))]) (st := []) (k := 18) rfl rfl rfl rfl rfl (Nat.le_of_ble_eq_true rfl) ?_
  refine cw_begin (by omega) (fun m12 g3 g4 => ?_)
  rw [show x1 = vi_ m0 1 1 by omega] at g4
  have h18_ := g4.1
  refine pw_steps 2 (s' := (16, [some (.ref 0), some (.int (ei_ (n0))), some (.null), some (.int (ei_ (0))), none, none, none, none], [], m12)) rfl ?_
  have L11 : ∀ (n9 : Nat) (oa : Int) (u5 : Option Value) (u6 : Option Value) (u7 : Option Value) (u8 : Option Value) (m1 : am_M), (vi_ m0 1 1 - oa).toNat = n9 → (0 ≤ oa ∧ oa ≤ vi_ m0 1 1) → (sm_ pSc m0 m1) → (vi_ m1 18 5 = vi_ m0 1 1) → (wa_ (vi_ m0 1 1) 0 m1) → (∀ i, 0 ≤ i → i < oa → vi_ m1 21 i = vi_ m0 2 (16 + i)) → (∀ j o n, 0 ≤ j → j < vi_ m0 1 1 → 0 ≤ o → o < vi_ m0 1 1 → 1 ≤ n → n ≤ vi_ m0 1 1 → (o < oa) → vi_ m1 23 (((j * 5) + o) * 5 + n - 1) = cA_ m0 n0 j o n) → pw_V q (d + 11) iX8_beginWays.2.2.2.1 tX8_beginWays Q (16, [some (.ref 0), some (.int (ei_ (n0))), some (.null), some (.int (ei_ (oa))), u5, u6, u7, u8], [], m1) := by
    intro n9
    induction n9 using Nat.strongRecOn with
    | _ n9 ih10 =>
      intro oa u5 u6 u7 u8 m1 hm_n9 v12 hs1 v13 hwm1 hcm1 hTm1
      refine pw_steps 3 (s' := (21, [some (.ref 0), some (.int (ei_ (n0))), some (.null), some (.int (ei_ (oa))), u5, u6, u7, u8], [.ref 1, .int (ei_ (oa))], m1)) rfl ?_
      refine pw_call (As := []) (st := [.int (ei_ (oa))]) (k := 1) rfl rfl rfl rfl rfl (Nat.le_of_ble_eq_true rfl) ?_
      refine pw_intro (I := iX3_size) (T := tX3_size) rfl rfl rfl ?_
      refine pw_steps 1 (s' := (1, [some (.ref 1)], [.ref 1], m1)) rfl ?_
      refine pw_get rfl rfl (fun x14 (hx14 : x14 = vi_ m1 1 1) rx14 sx14 => ?_)
      have ox14 := hx14
      replace hx14 : x14 = vi_ m0 1 1 := hx14.trans (sm_v hs1 rfl)
      refine pw_iret rfl rfl rfl ?_
      refine pw_cmp rfl (by omega) ⟨rx14, sx14⟩ (fun (h15 : x14 ≤ oa) => ?_) (fun (h15 : ¬ (x14 ≤ oa)) => ?_)
      · refine pw_vret rfl rfl ?_
        exact k0 m1 (hs1) (by exact hwm1) (by intro i a_ b_; exact hcm1 i a_ (by omega)) (by intro j o n h1 h2 h3 h4 h5 h6; exact hTm1 j o n h1 h2 h3 h4 h5 h6 (by omega))
      · refine pw_steps 7 (s' := (38, [some (.ref 0), some (.int (ei_ (n0))), some (.null), some (.int (ei_ (oa))), u5, u6, u7, u8], [.int (ei_ (2)), .int (ei_ (oa)), .ref 1, .int (ei_ (oa)), .ref 18], m1)) rfl ?_
        refine pw_call (As := [.int (ei_ (oa)), .int (ei_ (2))]) (st := [.int (ei_ (oa)), .ref 18]) (k := 1) rfl rfl rfl rfl rfl (Nat.le_of_ble_eq_true rfl) ?_
        refine cw_told2 (p0) (hs1) (by omega) (fun x16 g17 g18 => ?_)
        refine pw_call (As := [.int (ei_ (oa)), .int (ei_ (x16))]) (st := []) (k := 18) rfl rfl rfl rfl rfl (Nat.le_of_ble_eq_true rfl) ?_
        refine pw_intro (I := iX7_setCoats) (T := tX7_setCoats) rfl rfl rfl ?_
        refine pw_steps 2 (s' := (2, [some (.ref 18), some (.int (ei_ (oa))), some (.int (ei_ (x16)))], [.int (ei_ (oa)), .ref 18], m1)) rfl ?_
        refine pw_call (As := [.int (ei_ (oa))]) (st := []) (k := 18) rfl rfl rfl rfl rfl (Nat.le_of_ble_eq_true rfl) ?_
        refine pw_intro (I := iX7_has) (T := tX7_has) rfl rfl rfl ?_
        refine pw_steps 1 (s' := (1, [some (.ref 18), some (.int (ei_ (oa)))], [.int (ei_ (oa))], m1)) rfl ?_
        refine pw_ifF rfl (by omega) (show ¬ (oa < 0) by omega) ?_
        refine pw_steps 2 (s' := (6, [some (.ref 18), some (.int (ei_ (oa)))], [.ref 18, .int (ei_ (oa))], m1)) rfl ?_
        refine pw_get rfl rfl (fun x19 (hx19 : x19 = vi_ m1 18 5) rx19 sx19 => ?_)
        have ox19 := hx19
        replace hx19 : x19 = vi_ m0 1 1 := hx19.trans v13
        refine pw_cmpF rfl (by omega) ⟨rx19, sx19⟩ (show ¬ (x19 ≤ oa) by omega) ?_
        refine pw_steps 2 (s' := (17, [some (.ref 18), some (.int (ei_ (oa)))], [.int (ei_ (1))], m1)) rfl ?_
        refine pw_iret rfl rfl rfl ?_
        refine pw_ifF rfl (by decide) (show ¬ (1 = 0) by decide) ?_
        refine pw_steps 4 (s' := (14, [some (.ref 18), some (.int (ei_ (oa))), some (.int (ei_ (x16)))], [.int (ei_ (x16)), .int (ei_ (oa)), .ref 21], m1)) rfl ?_
        refine pw_ist rfl rfl (by omega) ?_
        refine pw_vret rfl rfl ?_
        refine pw_steps 2 (s' := (47, [some (.ref 0), some (.int (ei_ (n0))), some (.null), some (.int (ei_ (oa))), some (.int (ei_ (0))), u6, u7, u8], [], wi_ m1 21 (oa) (x16))) rfl ?_
        have L25 : ∀ (n23 : Nat) (ja : Int) (u20 : Option Value) (u21 : Option Value) (u22 : Option Value) (m2 : am_M), (vi_ m0 1 1 - ja).toNat = n23 → (0 ≤ ja ∧ ja ≤ vi_ m0 1 1) → (sm_ pSc m0 m2) → (vi_ m2 18 5 = vi_ m0 1 1) → (wa_ (vi_ m0 1 1) 0 m2) → (∀ i, 0 ≤ i → i < oa + 1 → vi_ m2 21 i = vi_ m0 2 (16 + i)) → (∀ j o n, 0 ≤ j → j < vi_ m0 1 1 → 0 ≤ o → o < vi_ m0 1 1 → 1 ≤ n → n ≤ vi_ m0 1 1 → (o < oa ∨ (o = oa ∧ j < ja)) → vi_ m2 23 (((j * 5) + o) * 5 + n - 1) = cA_ m0 n0 j o n) → pw_V q (d + 11) iX8_beginWays.2.2.2.1 tX8_beginWays Q (47, [some (.ref 0), some (.int (ei_ (n0))), some (.null), some (.int (ei_ (oa))), some (.int (ei_ (ja))), u20, u21, u22], [], m2) := by
          intro n23
          induction n23 using Nat.strongRecOn with
          | _ n23 ih24 =>
            intro ja u20 u21 u22 m2 hm_n23 v26 hs2 v27 hwm2 hcm2 hTm2
            refine pw_steps 3 (s' := (53, [some (.ref 0), some (.int (ei_ (n0))), some (.null), some (.int (ei_ (oa))), some (.int (ei_ (ja))), u20, u21, u22], [.ref 1, .int (ei_ (ja))], m2)) rfl ?_
            refine pw_call (As := []) (st := [.int (ei_ (ja))]) (k := 1) rfl rfl rfl rfl rfl (Nat.le_of_ble_eq_true rfl) ?_
            refine pw_intro (I := iX3_size) (T := tX3_size) rfl rfl rfl ?_
            refine pw_steps 1 (s' := (1, [some (.ref 1)], [.ref 1], m2)) rfl ?_
            refine pw_get rfl rfl (fun x28 (hx28 : x28 = vi_ m2 1 1) rx28 sx28 => ?_)
            have ox28 := hx28
            replace hx28 : x28 = vi_ m0 1 1 := hx28.trans (sm_v hs2 rfl)
            refine pw_iret rfl rfl rfl ?_
            refine pw_cmp rfl (by omega) ⟨rx28, sx28⟩ (fun (h29 : x28 ≤ ja) => ?_) (fun (h29 : ¬ (x28 ≤ ja)) => ?_)
            · refine pw_steps 2 (s' := (16, [some (.ref 0), some (.int (ei_ (n0))), some (.null), some (.int ((ei_ (oa)) + (ei_ (1)))), some (.int (ei_ (ja))), u20, u21, u22], [], m2)) rfl ?_
              refine pw_cv (congrArg (fun z_ : Int32 => ((16, [some (.ref 0), some (.int (ei_ (n0))), some (.null), some (.int z_), some (.int (ei_ (ja))), u20, u21, u22], [], m2) : am_S)) (ei_add rfl rfl)) ?_
              exact ih10 _ (by omega) (oa + 1) (some (.int (ei_ (ja)))) u20 u21 u22 m2 rfl (by omega) (hs2) (by refine (v27).trans (by omega)) (wa_fr (P := pCw) (sm_rfl m2) rfl (fun _ => rfl) (fun _ => rfl) hwm2) (by intro i a_ b_; rw [sm_f (P := pCz) (sm_rfl m2) (k := 21) (fun _ => rfl)]; exact hcm2 i a_ (by omega)) (by intro j o n h1 h2 h3 h4 h5 h6 h7; exact hTm2 j o n h1 h2 h3 h4 h5 h6 (by omega))
            · refine pw_steps 2 (s' := (62, [some (.ref 0), some (.int (ei_ (n0))), some (.null), some (.int (ei_ (oa))), some (.int (ei_ (ja))), some (.int (ei_ (1))), u21, u22], [], m2)) rfl ?_
              have L34 : ∀ (n32 : Nat) (na : Int) (u30 : Option Value) (u31 : Option Value) (m3 : am_M), (vi_ m0 1 1 + 1 - na).toNat = n32 → (1 ≤ na ∧ na ≤ vi_ m0 1 1 + 1) → (sm_ pSc m0 m3) → (vi_ m3 18 5 = vi_ m0 1 1) → (wa_ (vi_ m0 1 1) 0 m3) → (∀ i, 0 ≤ i → i < oa + 1 → vi_ m3 21 i = vi_ m0 2 (16 + i)) → (∀ j o n, 0 ≤ j → j < vi_ m0 1 1 → 0 ≤ o → o < vi_ m0 1 1 → 1 ≤ n → n ≤ vi_ m0 1 1 → (o < oa ∨ (o = oa ∧ (j < ja ∨ (j = ja ∧ n < na)))) → vi_ m3 23 (((j * 5) + o) * 5 + n - 1) = cA_ m0 n0 j o n) → pw_V q (d + 11) iX8_beginWays.2.2.2.1 tX8_beginWays Q (62, [some (.ref 0), some (.int (ei_ (n0))), some (.null), some (.int (ei_ (oa))), some (.int (ei_ (ja))), some (.int (ei_ (na))), u30, u31], [], m3) := by
                intro n32
                induction n32 using Nat.strongRecOn with
                | _ n32 ih33 =>
                  intro na u30 u31 m3 hm_n32 v35 hs3 v36 hwm3 hcm3 hTm3
                  refine pw_steps 3 (s' := (68, [some (.ref 0), some (.int (ei_ (n0))), some (.null), some (.int (ei_ (oa))), some (.int (ei_ (ja))), some (.int (ei_ (na))), u30, u31], [.ref 1, .int (ei_ (na))], m3)) rfl ?_
                  refine pw_call (As := []) (st := [.int (ei_ (na))]) (k := 1) rfl rfl rfl rfl rfl (Nat.le_of_ble_eq_true rfl) ?_
                  refine pw_intro (I := iX3_size) (T := tX3_size) rfl rfl rfl ?_
                  refine pw_steps 1 (s' := (1, [some (.ref 1)], [.ref 1], m3)) rfl ?_
                  refine pw_get rfl rfl (fun x37 (hx37 : x37 = vi_ m3 1 1) rx37 sx37 => ?_)
                  have ox37 := hx37
                  replace hx37 : x37 = vi_ m0 1 1 := hx37.trans (sm_v hs3 rfl)
                  refine pw_iret rfl rfl rfl ?_
                  refine pw_cmp rfl (by omega) ⟨rx37, sx37⟩ (fun (h38 : x37 < na) => ?_) (fun (h38 : ¬ (x37 < na)) => ?_)
                  · refine pw_steps 2 (s' := (47, [some (.ref 0), some (.int (ei_ (n0))), some (.null), some (.int (ei_ (oa))), some (.int ((ei_ (ja)) + (ei_ (1)))), some (.int (ei_ (na))), u30, u31], [], m3)) rfl ?_
                    refine pw_cv (congrArg (fun z_ : Int32 => ((47, [some (.ref 0), some (.int (ei_ (n0))), some (.null), some (.int (ei_ (oa))), some (.int z_), some (.int (ei_ (na))), u30, u31], [], m3) : am_S)) (ei_add rfl rfl)) ?_
                    exact ih24 _ (by omega) (ja + 1) (some (.int (ei_ (na)))) u30 u31 m3 rfl (by omega) (hs3) (by refine (v36).trans (by omega)) (wa_fr (P := pCw) (sm_rfl m3) rfl (fun _ => rfl) (fun _ => rfl) hwm3) (by intro i a_ b_; rw [sm_f (P := pCz) (sm_rfl m3) (k := 21) (fun _ => rfl)]; exact hcm3 i a_ (by omega)) (by intro j o n h1 h2 h3 h4 h5 h6 h7; exact hTm3 j o n h1 h2 h3 h4 h5 h6 (by omega))
                  · refine pw_steps 6 (s' := (84, [some (.ref 0), some (.int (ei_ (n0))), some (.null), some (.int (ei_ (oa))), some (.int (ei_ (ja))), some (.int (ei_ (na))), u30, u31], [.ref 1, .int (ei_ (na)), .int (ei_ (oa)), .int (ei_ (ja)), .ref 0], m3)) rfl ?_
                    refine pw_call (As := []) (st := [.int (ei_ (na)), .int (ei_ (oa)), .int (ei_ (ja)), .ref 0]) (k := 1) rfl rfl rfl rfl rfl (Nat.le_of_ble_eq_true rfl) ?_
                    refine pw_intro (I := iX3_cold) (T := tX3_cold) rfl rfl rfl ?_
                    refine pw_steps 3 (s' := (3, [some (.ref 1)], [.int (ei_ (4)), .int (ei_ (0)), .ref 1], m3)) rfl ?_
                    refine pw_call (As := [.int (ei_ (0)), .int (ei_ (4))]) (st := []) (k := 1) rfl rfl rfl rfl rfl (Nat.le_of_ble_eq_true rfl) ?_
                    refine cw_told4 (p0) (hs3) (fun x39 g40 g41 => ?_)
                    refine pw_iret rfl rfl rfl ?_
                    refine pw_call (As := [.int (ei_ (ja)), .int (ei_ (oa)), .int (ei_ (na)), .int (ei_ (x39))]) (st := []) (k := 0) rfl rfl rfl rfl rfl (Nat.le_of_ble_eq_true rfl) ?_
                    refine cw_rate2 (p0) (p2) (hs3) (by omega) (by omega) (by omega) (by omega) (fun x42 m143 g44 g45 g46 => ?_)
                    refine pw_steps 7 (s' := (102, [some (.ref 0), some (.int (ei_ (n0))), some (.null), some (.int (ei_ (oa))), some (.int (ei_ (ja))), some (.int (ei_ (na))), some (.int (ei_ (x42))), u31], [.int (ei_ (n0)), .int (ei_ (x42)), .int (ei_ (ja)), .ref 0], m143)) rfl ?_
                    refine pw_call (As := [.int (ei_ (ja)), .int (ei_ (x42)), .int (ei_ (n0))]) (st := []) (k := 0) rfl rfl rfl rfl rfl (Nat.le_of_ble_eq_true rfl) ?_
                    refine cw_costA (p0) (p1.2.1) ((sm_tr hs3 (sm_le g45 pLw_Sc))) (by omega) (by omega) (p5) (fun x47 g48 g49 => ?_)
                    refine pw_steps 8 (s' := (131, [some (.ref 0), some (.int (ei_ (n0))), some (.null), some (.int (ei_ (oa))), some (.int (ei_ (ja))), some (.int (ei_ (na))), some (.int (ei_ (x42))), some (.int (ei_ (x47)))], [.int (ei_ (x47)), .int (ei_ (na)), .int (ei_ (oa)), .int (ei_ (ja)), .ref 18], m143)) rfl ?_
                    refine pw_call (As := [.int (ei_ (ja)), .int (ei_ (oa)), .int (ei_ (na)), .int (ei_ (x47))]) (st := []) (k := 18) rfl rfl rfl rfl rfl (Nat.le_of_ble_eq_true rfl) ?_
                    refine pw_intro (I := iX7_setCost) (T := tX7_setCost) rfl rfl rfl ?_
                    refine pw_steps 2 (s' := (2, [some (.ref 18), some (.int (ei_ (ja))), some (.int (ei_ (oa))), some (.int (ei_ (na))), some (.int (ei_ (x47)))], [.int (ei_ (ja)), .ref 18], m143)) rfl ?_
                    refine pw_call (As := [.int (ei_ (ja))]) (st := []) (k := 18) rfl rfl rfl rfl rfl (Nat.le_of_ble_eq_true rfl) ?_
                    refine pw_intro (I := iX7_has) (T := tX7_has) rfl rfl rfl ?_
                    refine pw_steps 1 (s' := (1, [some (.ref 18), some (.int (ei_ (ja)))], [.int (ei_ (ja))], m143)) rfl ?_
                    refine pw_ifF rfl (by omega) (show ¬ (ja < 0) by omega) ?_
                    refine pw_steps 2 (s' := (6, [some (.ref 18), some (.int (ei_ (ja)))], [.ref 18, .int (ei_ (ja))], m143)) rfl ?_
                    refine pw_get rfl rfl (fun x50 (hx50 : x50 = vi_ m143 18 5) rx50 sx50 => ?_)
                    have ox50 := hx50
                    replace hx50 : x50 = vi_ m3 18 5 := hx50.trans (sm_v g45 rfl)
                    replace hx50 : x50 = vi_ m0 1 1 := hx50.trans v36
                    refine pw_cmpF rfl (by omega) ⟨rx50, sx50⟩ (show ¬ (x50 ≤ ja) by omega) ?_
                    refine pw_steps 2 (s' := (17, [some (.ref 18), some (.int (ei_ (ja)))], [.int (ei_ (1))], m143)) rfl ?_
                    refine pw_iret rfl rfl rfl ?_
                    refine pw_ifF rfl (by decide) (show ¬ (1 = 0) by decide) ?_
                    refine pw_steps 2 (s' := (10, [some (.ref 18), some (.int (ei_ (ja))), some (.int (ei_ (oa))), some (.int (ei_ (na))), some (.int (ei_ (x47)))], [.int (ei_ (oa)), .ref 18], m143)) rfl ?_
                    refine pw_call (As := [.int (ei_ (oa))]) (st := []) (k := 18) rfl rfl rfl rfl rfl (Nat.le_of_ble_eq_true rfl) ?_
                    refine pw_intro (I := iX7_has) (T := tX7_has) rfl rfl rfl ?_
                    refine pw_steps 1 (s' := (1, [some (.ref 18), some (.int (ei_ (oa)))], [.int (ei_ (oa))], m143)) rfl ?_
                    refine pw_ifF rfl (by omega) (show ¬ (oa < 0) by omega) ?_
                    refine pw_steps 2 (s' := (6, [some (.ref 18), some (.int (ei_ (oa)))], [.ref 18, .int (ei_ (oa))], m143)) rfl ?_
                    refine pw_getE (x := x50) rfl rfl ox50 ?_
                    refine pw_cmpF rfl (by omega) ⟨rx50, sx50⟩ (show ¬ (x50 ≤ oa) by omega) ?_
                    refine pw_steps 2 (s' := (17, [some (.ref 18), some (.int (ei_ (oa)))], [.int (ei_ (1))], m143)) rfl ?_
                    refine pw_iret rfl rfl rfl ?_
                    refine pw_ifF rfl (by decide) (show ¬ (1 = 0) by decide) ?_
                    refine pw_steps 4 (s' := (20, [some (.ref 18), some (.int (ei_ (ja))), some (.int (ei_ (oa))), some (.int (ei_ (na))), some (.int (ei_ (x47)))], [.int ((ei_ (na)) - (ei_ (1))), .ref 18], m143)) rfl ?_
                    refine pw_cv (congrArg (fun z_ : Int32 => ((20, [some (.ref 18), some (.int (ei_ (ja))), some (.int (ei_ (oa))), some (.int (ei_ (na))), some (.int (ei_ (x47)))], [.int z_, .ref 18], m143) : am_S)) (ei_sub rfl rfl)) ?_
                    refine pw_call (As := [.int (ei_ ((na - 1)))]) (st := []) (k := 18) rfl rfl rfl rfl rfl (Nat.le_of_ble_eq_true rfl) ?_
                    refine pw_intro (I := iX7_has) (T := tX7_has) rfl rfl rfl ?_
                    refine pw_steps 1 (s' := (1, [some (.ref 18), some (.int (ei_ ((na - 1))))], [.int (ei_ ((na - 1)))], m143)) rfl ?_
                    refine pw_ifF rfl (by omega) (show ¬ ((na - 1) < 0) by omega) ?_
                    refine pw_steps 2 (s' := (6, [some (.ref 18), some (.int (ei_ ((na - 1))))], [.ref 18, .int (ei_ ((na - 1)))], m143)) rfl ?_
                    refine pw_getE (x := x50) rfl rfl ox50 ?_
                    refine pw_cmpF rfl (by omega) ⟨rx50, sx50⟩ (show ¬ (x50 ≤ (na - 1)) by omega) ?_
                    refine pw_steps 2 (s' := (17, [some (.ref 18), some (.int (ei_ ((na - 1))))], [.int (ei_ (1))], m143)) rfl ?_
                    refine pw_iret rfl rfl rfl ?_
                    refine pw_ifF rfl (by decide) (show ¬ (1 = 0) by decide) ?_
                    refine pw_steps 5 (s' := (33, [some (.ref 18), some (.int (ei_ (ja))), some (.int (ei_ (oa))), some (.int (ei_ (na))), some (.int (ei_ (x47)))], [.int (ei_ (na)), .int (ei_ (oa)), .int (ei_ (ja)), .ref 23], m143)) rfl ?_
                    refine pw_callS (As := [.int (ei_ (ja)), .int (ei_ (oa)), .int (ei_ (na))]) (st := [.ref 23]) rfl (by decide) rfl rfl (Nat.le_of_ble_eq_true rfl) ?_
                    refine pw_intro (I := iX7_placeOf) (T := tX7_placeOf) rfl rfl rfl ?_
                    refine pw_steps 11 (s' := (11, [some (.int (ei_ (ja))), some (.int (ei_ (oa))), some (.int (ei_ (na)))], [.int ((((((ei_ (ja)) * (ei_ (5))) + (ei_ (oa))) * (ei_ (5))) + (ei_ (na))) - (ei_ (1)))], m143)) rfl ?_
                    refine pw_cv (congrArg (fun z_ : Int32 => ((11, [some (.int (ei_ (ja))), some (.int (ei_ (oa))), some (.int (ei_ (na)))], [.int z_], m143) : am_S)) (ei_sub (ei_add (ei_mul (ei_add (ei_mul rfl rfl) rfl) rfl) rfl) rfl)) ?_
                    refine pw_iret rfl rfl rfl ?_
                    refine pw_steps 1 (s' := (38, [some (.ref 18), some (.int (ei_ (ja))), some (.int (ei_ (oa))), some (.int (ei_ (na))), some (.int (ei_ (x47)))], [.int (ei_ (x47)), .int (ei_ ((((((ja * 5) + oa) * 5) + na) - 1))), .ref 23], m143)) rfl ?_
                    refine pw_ist rfl rfl (by omega) ?_
                    refine pw_vret rfl rfl ?_
                    refine pw_steps 2 (s' := (62, [some (.ref 0), some (.int (ei_ (n0))), some (.null), some (.int (ei_ (oa))), some (.int (ei_ (ja))), some (.int ((ei_ (na)) + (ei_ (1)))), some (.int (ei_ (x42))), some (.int (ei_ (x47)))], [], wi_ m143 23 ((((((ja * 5) + oa) * 5) + na) - 1)) (x47))) rfl ?_
                    refine pw_cv (congrArg (fun z_ : Int32 => ((62, [some (.ref 0), some (.int (ei_ (n0))), some (.null), some (.int (ei_ (oa))), some (.int (ei_ (ja))), some (.int z_), some (.int (ei_ (x42))), some (.int (ei_ (x47)))], [], wi_ m143 23 ((((((ja * 5) + oa) * 5) + na) - 1)) (x47)) : am_S)) (ei_add rfl rfl)) ?_
                    exact ih33 _ (by omega) (na + 1) (some (.int (ei_ (x42)))) (some (.int (ei_ (x47)))) (wi_ m143 23 ((((((ja * 5) + oa) * 5) + na) - 1)) (x47)) rfl (by omega) ((sm_w (sm_tr hs3 (sm_le g45 pLw_Sc)) (fun _ h_ => by rw [h_]; rfl))) (by refine (((sm_v g45 rfl).trans v36)).trans (by omega)) (wa_fr (P := pCw) (sm_w (sm_le g45 pLw_Cw) (fun _ h_ => by rw [h_]; rfl)) rfl (fun _ => rfl) (fun _ => rfl) hwm3) (by intro i a_ b_; rw [sm_f (P := pCz) (sm_w (sm_le g45 pLw_Cz) (fun _ h_ => by rw [h_]; rfl)) (k := 21) (fun _ => rfl)]; exact hcm3 i a_ (by omega)) (by intro j o n h1 h2 h3 h4 h5 h6 h7; rw [vi_up (by omega) (by omega) (by omega)]; by_cases e_ : j = ja ∧ o = oa ∧ n = na; (rw [if_pos (by omega), e_.1, e_.2.1, e_.2.2]; rw [g48, g44, g40]; rfl); (rw [if_neg (by omega), sm_f (P := pLw) g45 (k := 23) (fun _ => rfl)]; exact hTm3 j o n h1 h2 h3 h4 h5 h6 (by omega)))
              exact L34 _ 1 u21 u22 m2 rfl (by omega) (hs2) (by refine (v27).trans (by omega)) (wa_fr (P := pCw) (sm_rfl m2) rfl (fun _ => rfl) (fun _ => rfl) hwm2) (by intro i a_ b_; rw [sm_f (P := pCz) (sm_rfl m2) (k := 21) (fun _ => rfl)]; exact hcm2 i a_ (by omega)) (by intro j o n h1 h2 h3 h4 h5 h6 h7; exact hTm2 j o n h1 h2 h3 h4 h5 h6 (by omega))
        exact L25 _ 0 u6 u7 u8 (wi_ m1 21 (oa) (x16)) rfl (by omega) ((sm_w hs1 (fun _ h_ => by rw [h_]; rfl))) (by refine (v13).trans (by omega)) (wa_fr (P := pCw) (sm_w (sm_rfl m1) (fun _ h_ => by rw [h_]; rfl)) rfl (fun _ => rfl) (fun _ => rfl) hwm1) (by intro i a_ b_; rw [vi_up (by omega) (by omega) (by omega)]; by_cases e_ : i = oa; (rw [if_pos e_, e_]; exact g17); (rw [if_neg e_]; exact hcm1 i a_ (by omega))) (by intro j o n h1 h2 h3 h4 h5 h6 h7; rw [sm_f (P := pC21) (sm_w (sm_rfl m1) (fun _ h_ => by rw [h_]; rfl)) (k := 23) (fun _ => rfl)]; exact hTm1 j o n h1 h2 h3 h4 h5 h6 (by omega))
  exact L11 _ 0 none none none none m12 rfl (by omega) ((sm_tr p3 (sm_le g3 pWb_Sc))) (by refine (h18_).trans (by omega)) (wa_fr (P := pCw) (sm_rfl m12) rfl (fun _ => rfl) (fun _ => rfl) g4) (by intro i a_ b_; omega) (by intro j o n h1 h2 h3 h4 h5 h6 h7; omega)

def pBw (k j : Nat) : Bool := (k == 47 && j == 22) || (k == 47 && j == 23) || k == 58
def pC52 (k _j : Nat) : Bool := k == 52
def pC59 (k _j : Nat) : Bool := k == 59
set_option maxHeartbeats 4000000 in
set_option maxRecDepth 20000 in
theorem mw_begw {q : am_X} {d : Nat} {m : am_M} {Q : Option Value → am_M → Prop}  {P : Int} (p0 : vi_ m 47 6 = P) (p1 : 0 ≤ P ∧ P ≤ 5) (k0 : ∀ (m1 : am_M), (sm_ pBw m m1) → (vi_ m1 47 22 = 0) → (vi_ m1 47 23 = pr_ P P.toNat) → (∀ j, 0 ≤ j → j < P → vi_ m1 58 j = vi_ m 52 j) → Q none m1) : pw_C q (d + 1) 218 [.ref 47] m Q := by
  refine pw_intro (I := iX9_beginsWays) (T := tX9_beginsWays) rfl rfl rfl ?_
  refine pw_steps 2 (s' := (2, [some (.ref 47), none], [.int (ei_ (0)), .ref 47], m)) rfl ?_
  refine pw_put (v := 0) rfl rfl (Or.inl rfl) ?_
  refine pw_cv (s' := (5, [some (.ref 47), none], [], wi_ m 47 (22) (0))) rfl ?_
  refine pw_steps 2 (s' := (7, [some (.ref 47), none], [.int (ei_ (1)), .ref 47], wi_ m 47 (22) (0))) rfl ?_
  refine pw_put (v := 1) rfl rfl (Or.inl rfl) ?_
  refine pw_cv (s' := (10, [some (.ref 47), none], [], wi_ (wi_ m 47 (22) (0)) 47 (23) (1))) rfl ?_
  refine pw_steps 2 (s' := (12, [some (.ref 47), some (.int (ei_ (0)))], [], wi_ (wi_ m 47 (22) (0)) 47 (23) (1))) rfl ?_
  have L3 : ∀ (n1 : Nat) (k : Int) (m1 : am_M), (P - k).toNat = n1 → (0 ≤ k ∧ k ≤ P) → (sm_ pBw m m1) → (vi_ m1 47 22 = 0) → (vi_ m1 47 23 = pr_ P k.toNat) → (∀ j, 0 ≤ j → j < k → vi_ m1 58 j = vi_ m 52 j) → pw_V q (d) iX9_beginsWays.2.2.2.1 tX9_beginsWays Q (12, [some (.ref 47), some (.int (ei_ (k)))], [], m1) := by
    intro n1
    induction n1 using Nat.strongRecOn with
    | _ n1 ih2 =>
      intro k m1 hm_n1 v4 hs h22 h23 h58
      refine pw_steps 2 (s' := (14, [some (.ref 47), some (.int (ei_ (k)))], [.ref 47, .int (ei_ (k))], m1)) rfl ?_
      refine pw_get rfl rfl (fun x5 (hx5 : x5 = vi_ m1 47 6) rx5 sx5 => ?_)
      replace hx5 : x5 = vi_ m 47 6 := hx5.trans (sm_v hs rfl)
      replace hx5 : x5 = P := hx5.trans p0
      subst x5
      refine pw_cmp rfl (by omega) ⟨rx5, sx5⟩ (fun (h6 : P ≤ k) => ?_) (fun (h6 : ¬ (P ≤ k)) => ?_)
      · refine pw_vret rfl rfl ?_
        exact k0 m1 (hs) (by exact h22) (by have e_ : k = P := (by omega); rw [h23, e_]) (by intro j a_ b_; exact h58 j a_ (by omega))
      · refine pw_steps 6 (s' := (30, [some (.ref 47), some (.int (ei_ (k)))], [.int (ei_ (k)), .ref 52, .int (ei_ (k)), .ref 58], m1)) rfl ?_
        refine pw_ild rfl rfl (by omega) (fun x7 (hx7 : x7 = vi_ m1 52 k) rx7 sx7 => ?_)
        have ox7 := hx7
        replace hx7 : x7 = vi_ m 52 k := hx7.trans (sm_v hs rfl)
        refine pw_ist rfl rfl (by omega) ?_
        refine pw_steps 2 (s' := (34, [some (.ref 47), some (.int (ei_ (k)))], [.ref 47, .ref 47], wi_ m1 58 (k) (x7))) rfl ?_
        refine pw_get rfl rfl (fun x8 (hx8 : x8 = vi_ m1 47 23) rx8 sx8 => ?_)
        replace hx8 : x8 = pr_ P k.toNat := hx8.trans h23
        subst x8
        refine pw_steps 1 (s' := (38, [some (.ref 47), some (.int (ei_ (k)))], [.ref 47, .int (ei_ (pr_ P k.toNat)), .ref 47], wi_ m1 58 (k) (x7))) rfl ?_
        refine pw_get rfl rfl (fun x9 (hx9 : x9 = vi_ m1 47 6) rx9 sx9 => ?_)
        replace hx9 : x9 = vi_ m 47 6 := hx9.trans (sm_v hs rfl)
        replace hx9 : x9 = P := hx9.trans p0
        subst x9
        refine pw_steps 1 (s' := (42, [some (.ref 47), some (.int (ei_ (k)))], [.int ((ei_ (pr_ P k.toNat)) * (ei_ (P))), .ref 47], wi_ m1 58 (k) (x7))) rfl ?_
        refine pw_cv (congrArg (fun z_ : Int32 => ((42, [some (.ref 47), some (.int (ei_ (k)))], [.int z_, .ref 47], wi_ m1 58 (k) (x7)) : am_S)) (ei_mul rfl rfl)) ?_
        refine pw_put (v := ((pr_ P k.toNat) * P)) rfl rfl (Or.inl rfl) ?_
        refine pw_cv (s' := (45, [some (.ref 47), some (.int (ei_ (k)))], [], wi_ (wi_ m1 58 (k) (x7)) 47 (23) (((pr_ P k.toNat) * P)))) rfl ?_
        refine pw_steps 2 (s' := (12, [some (.ref 47), some (.int ((ei_ (k)) + (ei_ (1))))], [], wi_ (wi_ m1 58 (k) (x7)) 47 (23) (((pr_ P k.toNat) * P)))) rfl ?_
        refine pw_cv (congrArg (fun z_ : Int32 => ((12, [some (.ref 47), some (.int z_)], [], wi_ (wi_ m1 58 (k) (x7)) 47 (23) (((pr_ P k.toNat) * P))) : am_S)) (ei_add rfl rfl)) ?_
        exact ih2 _ (by omega) (k + 1) (wi_ (wi_ m1 58 (k) (x7)) 47 (23) (((pr_ P k.toNat) * P))) rfl (by omega) ((sm_w (sm_w hs (fun _ h_ => by rw [h_]; rfl)) (fun _ h_ => by rw [h_]; rfl))) (h22) (by have b_ := pr_b3 (P := P) (k := k + 1) ⟨by omega, by omega⟩ ⟨by omega, by omega⟩; rw [pr_s (by omega)] at b_ ⊢; exact vi_eq (by omega)) (by intro j a_ b_; (simp (disch := omega) only [vi_up, vi_ne]); by_cases e_ : j = k; (rw [if_pos e_, e_, hx7]); (rw [if_neg e_]; exact h58 j a_ (by omega)))
  exact L3 _ 0 (wi_ (wi_ m 47 (22) (0)) 47 (23) (1)) rfl (by omega) ((sm_w (sm_w (sm_rfl m) (fun _ h_ => by rw [h_]; rfl)) (fun _ h_ => by rw [h_]; rfl))) ((ei_i (by omega))) (by exact (ei_i (by omega))) (by intro j a_ b_; omega)

set_option maxHeartbeats 4000000 in
set_option maxRecDepth 20000 in
theorem mw_many2 {q : am_X} {d : Nat} {m : am_M} {Q : Option Value → am_M → Prop} {p : Int} {P : Int} (p0 : vi_ m 47 6 = P) (p1 : 0 ≤ P ∧ P ≤ 8) (p2 : -2147483648 ≤ p ∧ p < 2147483648) (k0 : ∀ (x : Int), (x = cn_ (vi_ m 52) p P.toNat) → (0 ≤ x ∧ x ≤ P) → Q (some (.int (ei_ (x)))) m) : pw_C q (d + 1) 188 [.ref 47, .int (ei_ (p))] m Q := by
  refine pw_intro (I := iX9_wearsMany) (T := tX9_wearsMany) rfl rfl rfl ?_
  refine pw_steps 4 (s' := (4, [some (.ref 47), some (.int (ei_ (p))), some (.int (ei_ (0))), some (.int (ei_ (0)))], [], m)) rfl ?_
  have L3 : ∀ (n1 : Nat) (n : Int) (k : Int), (P - k).toNat = n1 → (0 ≤ k ∧ k ≤ P ∧ 0 ≤ n ∧ n ≤ k) → (n = cn_ (vi_ m 52) p k.toNat) → pw_V q (d) iX9_wearsMany.2.2.2.1 tX9_wearsMany Q (4, [some (.ref 47), some (.int (ei_ (p))), some (.int (ei_ (n))), some (.int (ei_ (k)))], [], m) := by
    intro n1
    induction n1 using Nat.strongRecOn with
    | _ n1 ih2 =>
      intro n k hm_n1 v4 hv
      refine pw_steps 2 (s' := (6, [some (.ref 47), some (.int (ei_ (p))), some (.int (ei_ (n))), some (.int (ei_ (k)))], [.ref 47, .int (ei_ (k))], m)) rfl ?_
      refine pw_get rfl rfl (fun x5 (hx5 : x5 = vi_ m 47 6) rx5 sx5 => ?_)
      replace hx5 : x5 = P := hx5.trans p0
      subst x5
      refine pw_cmp rfl (by omega) ⟨rx5, sx5⟩ (fun (h6 : P ≤ k) => ?_) (fun (h6 : ¬ (P ≤ k)) => ?_)
      · refine pw_steps 1 (s' := (37, [some (.ref 47), some (.int (ei_ (p))), some (.int (ei_ (n))), some (.int (ei_ (k)))], [.int (ei_ (n))], m)) rfl ?_
        refine pw_iret rfl rfl rfl ?_
        exact k0 n (by have e_ : k = P := (by omega); rw [hv, e_]) (by omega)
      · refine pw_steps 4 (s' := (18, [some (.ref 47), some (.int (ei_ (p))), some (.int (ei_ (n))), some (.int (ei_ (k)))], [.int (ei_ (k)), .ref 52, .int (ei_ (n))], m)) rfl ?_
        refine pw_ild rfl rfl (by omega) (fun x7 (hx7 : x7 = vi_ m 52 k) rx7 sx7 => ?_)
        refine pw_steps 1 (s' := (20, [some (.ref 47), some (.int (ei_ (p))), some (.int (ei_ (n))), some (.int (ei_ (k)))], [.int (ei_ (p)), .int (ei_ (x7)), .int (ei_ (n))], m)) rfl ?_
        refine pw_cmp rfl ⟨rx7, sx7⟩ p2 (fun (h8 : ¬ x7 = p) => ?_) (fun (h8 : ¬ ¬ x7 = p) => ?_)
        · refine pw_steps 5 (s' := (4, [some (.ref 47), some (.int (ei_ (p))), some (.int ((ei_ (n)) + (ei_ (0)))), some (.int ((ei_ (k)) + (ei_ (1))))], [], m)) rfl ?_
          refine pw_cv (congrArg (fun z_ : Int32 => ((4, [some (.ref 47), some (.int (ei_ (p))), some (.int z_), some (.int ((ei_ (k)) + (ei_ (1))))], [], m) : am_S)) (ei_add rfl rfl)) ?_
          refine pw_cv (congrArg (fun z_ : Int32 => ((4, [some (.ref 47), some (.int (ei_ (p))), some (.int (ei_ ((n + 0)))), some (.int z_)], [], m) : am_S)) (ei_add rfl rfl)) ?_
          exact ih2 _ (by omega) (n + 0) (k + 1) rfl (by omega) (by rw [cn_s (by omega), ← hv]; first | omega | (rw [if_pos (by omega)]; done) | (rw [if_neg (by omega)]; done))
        · refine pw_steps 6 (s' := (4, [some (.ref 47), some (.int (ei_ (p))), some (.int ((ei_ (n)) + (ei_ (1)))), some (.int ((ei_ (k)) + (ei_ (1))))], [], m)) rfl ?_
          refine pw_cv (congrArg (fun z_ : Int32 => ((4, [some (.ref 47), some (.int (ei_ (p))), some (.int z_), some (.int ((ei_ (k)) + (ei_ (1))))], [], m) : am_S)) (ei_add rfl rfl)) ?_
          refine pw_cv (congrArg (fun z_ : Int32 => ((4, [some (.ref 47), some (.int (ei_ (p))), some (.int (ei_ ((n + 1)))), some (.int z_)], [], m) : am_S)) (ei_add rfl rfl)) ?_
          exact ih2 _ (by omega) (n + 1) (k + 1) rfl (by omega) (by rw [cn_s (by omega), ← hv]; first | omega | (rw [if_pos (by omega)]; done) | (rw [if_neg (by omega)]; done))
  exact L3 _ 0 0 rfl (by omega) (by rfl)

set_option maxHeartbeats 4000000 in
set_option maxRecDepth 20000 in
theorem mw_isWay {q : am_X} {d : Nat} {m : am_M} {Q : Option Value → am_M → Prop} {c : Int} {P : Int} {g : Int → Int} (p0 : vi_ m 47 6 = P) (p1 : 0 ≤ P ∧ P ≤ 5) (p2 : 0 ≤ c ∧ c ≤ 3125) (p3 : ∀ i, 0 ≤ i → i < P → vi_ m 48 (16 + i) = g i) (k0 : ∀ (m1 : am_M), (sm_ pC52 m m1) → (∀ j, 0 ≤ j → j < P → vi_ m1 52 j = wy_ P c j) → (∀ j, P ≤ j → vi_ m1 52 j = vi_ m 52 j) → (fi_ (wy_ P c) g P) → Q (some (.int (ei_ (1)))) m1) (k1 : ∀ (m1 : am_M), (sm_ pC52 m m1) → (∀ j, 0 ≤ j → j < P → vi_ m1 52 j = wy_ P c j) → (∀ j, P ≤ j → vi_ m1 52 j = vi_ m 52 j) → (¬ fi_ (wy_ P c) g P) → Q (some (.int (ei_ (0)))) m1) : pw_C q (d + 3) 219 [.ref 47, .int (ei_ (c))] m Q := by
  refine pw_intro (I := iX9_isWay) (T := tX9_isWay) rfl rfl rfl ?_
  refine pw_steps 3 (s' := (3, [some (.ref 47), some (.int (ei_ (c))), some (.int (ei_ (c))), none], [.ref 47], m)) rfl ?_
  refine pw_get rfl rfl (fun x1 (hx1 : x1 = vi_ m 47 6) rx1 sx1 => ?_)
  replace hx1 : x1 = P := hx1.trans p0
  subst x1
  refine pw_steps 3 (s' := (9, [some (.ref 47), some (.int (ei_ (c))), some (.int (ei_ (c))), some (.int ((ei_ (P)) - (ei_ (1))))], [], m)) rfl ?_
  refine pw_cv (congrArg (fun z_ : Int32 => ((9, [some (.ref 47), some (.int (ei_ (c))), some (.int (ei_ (c))), some (.int z_)], [], m) : am_S)) (ei_sub rfl rfl)) ?_
  have L4 : ∀ (n2 : Nat) (r : Int) (n : Int) (m1 : am_M), (n + 1).toNat = n2 → (-1 ≤ n ∧ n ≤ P - 1) → (0 ≤ r ∧ r ≤ 3125) → (r = qd_ P c (P - 1 - n).toNat) → (sm_ pC52 m m1) → (∀ j, n < j → j < P → vi_ m1 52 j = wy_ P c j) → (∀ j, P ≤ j → vi_ m1 52 j = vi_ m 52 j) → pw_V q (d + 2) iX9_isWay.2.2.2.1 tX9_isWay Q (9, [some (.ref 47), some (.int (ei_ (c))), some (.int (ei_ (r))), some (.int (ei_ (n)))], [], m1) := by
    intro n2
    induction n2 using Nat.strongRecOn with
    | _ n2 ih3 =>
      intro r n m1 hm_n2 v5 hrb hr hs h52 hno
      refine pw_steps 1 (s' := (10, [some (.ref 47), some (.int (ei_ (c))), some (.int (ei_ (r))), some (.int (ei_ (n)))], [.int (ei_ (n))], m1)) rfl ?_
      refine pw_if rfl (by omega) (fun (h6 : n < 0) => ?_) (fun (h6 : ¬ (n < 0)) => ?_)
      · refine pw_steps 2 (s' := (40, [some (.ref 47), some (.int (ei_ (c))), some (.int (ei_ (r))), some (.int (ei_ (0)))], [], m1)) rfl ?_
        have L9 : ∀ (n7 : Nat) (p : Int), (P - p).toNat = n7 → (0 ≤ p ∧ p ≤ P) → (∀ j, 0 ≤ j → j < p → cn_ (wy_ P c) j P.toNat ≤ g j) → pw_V q (d + 2) iX9_isWay.2.2.2.1 tX9_isWay Q (40, [some (.ref 47), some (.int (ei_ (c))), some (.int (ei_ (r))), some (.int (ei_ (p)))], [], m1) := by
          intro n7
          induction n7 using Nat.strongRecOn with
          | _ n7 ih8 =>
            intro p hm_n7 v10 hv
            refine pw_steps 2 (s' := (42, [some (.ref 47), some (.int (ei_ (c))), some (.int (ei_ (r))), some (.int (ei_ (p)))], [.ref 47, .int (ei_ (p))], m1)) rfl ?_
            refine pw_get rfl rfl (fun x11 (hx11 : x11 = vi_ m1 47 6) rx11 sx11 => ?_)
            replace hx11 : x11 = vi_ m 47 6 := hx11.trans (sm_v hs rfl)
            replace hx11 : x11 = P := hx11.trans p0
            subst x11
            refine pw_cmp rfl (by omega) ⟨rx1, sx1⟩ (fun (h12 : P ≤ p) => ?_) (fun (h12 : ¬ (P ≤ p)) => ?_)
            · refine pw_steps 1 (s' := (71, [some (.ref 47), some (.int (ei_ (c))), some (.int (ei_ (r))), some (.int (ei_ (p)))], [.int (ei_ (1))], m1)) rfl ?_
              refine pw_iret rfl rfl rfl ?_
              exact k0 m1 (hs) (by intro j a_ b_; exact h52 j (by omega) b_) (by exact hno) (by intro i a_ b_; exact hv i a_ (by omega))
            · refine pw_steps 2 (s' := (50, [some (.ref 47), some (.int (ei_ (c))), some (.int (ei_ (r))), some (.int (ei_ (p)))], [.int (ei_ (p)), .ref 47], m1)) rfl ?_
              refine pw_call (As := [.int (ei_ (p))]) (st := []) (k := 47) rfl rfl rfl rfl rfl (Nat.le_of_ble_eq_true rfl) ?_
              refine mw_many2 (P := P) (((sm_v hs rfl).trans p0)) (by omega) (by omega) (fun x13 g14 g15 => ?_)
              have hmm_ : x13 = cn_ (wy_ P c) p P.toNat := g14.trans (cn_cg _ (fun j a_ b_ => by rw [h52 j (by omega) (by omega)]))
              refine pw_steps 3 (s' := (56, [some (.ref 47), some (.int (ei_ (c))), some (.int (ei_ (r))), some (.int (ei_ (p)))], [.int (ei_ (2)), .int (ei_ (p)), .ref 47, .int (ei_ (x13))], m1)) rfl ?_
              refine pw_call (As := [.int (ei_ (p)), .int (ei_ (2))]) (st := [.int (ei_ (x13))]) (k := 47) rfl rfl rfl rfl rfl (Nat.le_of_ble_eq_true rfl) ?_
              refine pw_intro (I := iX9_ofOne) (T := tX9_ofOne) rfl rfl rfl ?_
              refine pw_steps 7 (s' := (10, [some (.ref 47), some (.int (ei_ (p))), some (.int (ei_ (2)))], [.int (((ei_ (8)) * (ei_ (2))) + (ei_ (p))), .ref 48], m1)) rfl ?_
              refine pw_cv (congrArg (fun z_ : Int32 => ((10, [some (.ref 47), some (.int (ei_ (p))), some (.int (ei_ (2)))], [.int z_, .ref 48], m1) : am_S)) (ei_add (ei_mul rfl rfl) rfl)) ?_
              refine pw_ild rfl rfl (by omega) (fun x16 (hx16 : x16 = vi_ m1 48 (16 + p)) rx16 sx16 => ?_)
              have ox16 := hx16
              replace hx16 : x16 = vi_ m 48 (16 + p) := hx16.trans (sm_v hs rfl)
              have b17 := p3 p (by omega) (by omega)
              refine pw_iret rfl rfl rfl ?_
              refine pw_cmp rfl (by omega) ⟨rx16, sx16⟩ (fun (h18 : x13 ≤ x16) => ?_) (fun (h18 : ¬ (x13 ≤ x16)) => ?_)
              · refine pw_steps 2 (s' := (40, [some (.ref 47), some (.int (ei_ (c))), some (.int (ei_ (r))), some (.int ((ei_ (p)) + (ei_ (1))))], [], m1)) rfl ?_
                refine pw_cv (congrArg (fun z_ : Int32 => ((40, [some (.ref 47), some (.int (ei_ (c))), some (.int (ei_ (r))), some (.int z_)], [], m1) : am_S)) (ei_add rfl rfl)) ?_
                exact ih8 _ (by omega) (p + 1) rfl (by omega) (by intro j a_ b_; by_cases e_ : j = p; (rw [e_]; omega); exact hv j a_ (by omega))
              · refine pw_steps 1 (s' := (63, [some (.ref 47), some (.int (ei_ (c))), some (.int (ei_ (r))), some (.int (ei_ (p)))], [.int (ei_ (0))], m1)) rfl ?_
                refine pw_iret rfl rfl rfl ?_
                exact k1 m1 (hs) (by intro j a_ b_; exact h52 j (by omega) b_) (by exact hno) (by intro h_; have t_ := h_ p (by omega) (by omega); omega)
        exact L9 _ 0 rfl (by omega) (by intro j a_ b_; omega)
      · refine pw_steps 5 (s' := (20, [some (.ref 47), some (.int (ei_ (c))), some (.int (ei_ (r))), some (.int (ei_ (n)))], [.ref 47, .int (ei_ (r)), .int (ei_ (n)), .ref 52], m1)) rfl ?_
        refine pw_get rfl rfl (fun x19 (hx19 : x19 = vi_ m1 47 6) rx19 sx19 => ?_)
        replace hx19 : x19 = vi_ m 47 6 := hx19.trans (sm_v hs rfl)
        replace hx19 : x19 = P := hx19.trans p0
        subst x19
        refine pw_remN rfl (by omega) (by omega) ?_
        refine pw_ist rfl rfl (by omega) ?_
        refine pw_steps 2 (s' := (27, [some (.ref 47), some (.int (ei_ (c))), some (.int (ei_ (r))), some (.int (ei_ (n)))], [.ref 47, .int (ei_ (r))], wi_ m1 52 (n) ((r % P)))) rfl ?_
        refine pw_get rfl rfl (fun x20 (hx20 : x20 = vi_ m1 47 6) rx20 sx20 => ?_)
        replace hx20 : x20 = vi_ m 47 6 := hx20.trans (sm_v hs rfl)
        replace hx20 : x20 = P := hx20.trans p0
        subst x20
        refine pw_divN rfl (by omega) (by omega) ?_
        refine pw_steps 3 (s' := (9, [some (.ref 47), some (.int (ei_ (c))), some (.int (ei_ ((r / P)))), some (.int ((ei_ (n)) + (ei_ ((-1)))))], [], wi_ m1 52 (n) ((r % P)))) rfl ?_
        refine pw_cv (congrArg (fun z_ : Int32 => ((9, [some (.ref 47), some (.int (ei_ (c))), some (.int (ei_ ((r / P)))), some (.int z_)], [], wi_ m1 52 (n) ((r % P))) : am_S)) (ei_add rfl rfl)) ?_
        exact ih3 _ (by omega) (r / P) (n + (-1)) (wi_ m1 52 (n) ((r % P))) rfl (by omega) (by have b1_ := Int.ediv_nonneg (a := r) (b := P) (by omega) (by omega); have b2_ := Int.ediv_le_self (a := r) P (by omega); omega) (by rw [show (P - 1 - (n + (-1))).toNat = (P - 1 - n).toNat + 1 by omega]; simp only [qd_]; rw [← hr]) ((sm_w hs (fun _ h_ => by rw [h_]; rfl))) (by have b_ := md_b (P := P) r ⟨by omega, by omega⟩; intro j a_ b2_; (simp (disch := omega) only [vi_up, vi_ne]); by_cases e_ : j = n; (rw [if_pos e_, e_]; unfold wy_; rw [← hr]); (rw [if_neg e_]; exact h52 j (by omega) b2_)) (by have b_ := md_b (P := P) r ⟨by omega, by omega⟩; intro j a_; (simp (disch := omega) only [vi_up, vi_ne]); rw [if_neg (by omega)]; exact hno j a_)
  exact L4 _ c (P - 1) m rfl (by omega) (by omega) (by rw [show (P - 1 - (P - 1)).toNat = 0 by omega]; rfl) ((sm_rfl m)) (by intro j a_ b_; omega) (by intro j _; rfl)

set_option maxHeartbeats 4000000 in
set_option maxRecDepth 20000 in
theorem mw_keep {q : am_X} {d : Nat} {m : am_M} {Q : Option Value → am_M → Prop}  {P : Int} (p0 : vi_ m 47 6 = P) (p1 : 0 ≤ P ∧ P ≤ 5) (k0 : ∀ (m1 : am_M), (sm_ pC59 m m1) → (∀ j, 0 ≤ j → j < P → vi_ m1 59 j = vi_ m 52 j) → Q none m1) : pw_C q (d + 1) 220 [.ref 47] m Q := by
  refine pw_intro (I := iX9_keepsWay) (T := tX9_keepsWay) rfl rfl rfl ?_
  refine pw_steps 2 (s' := (2, [some (.ref 47), some (.int (ei_ (0)))], [], m)) rfl ?_
  have L3 : ∀ (n1 : Nat) (k : Int) (m1 : am_M), (P - k).toNat = n1 → (0 ≤ k ∧ k ≤ P) → (sm_ pC59 m m1) → (∀ j, 0 ≤ j → j < k → vi_ m1 59 j = vi_ m 52 j) → pw_V q (d) iX9_keepsWay.2.2.2.1 tX9_keepsWay Q (2, [some (.ref 47), some (.int (ei_ (k)))], [], m1) := by
    intro n1
    induction n1 using Nat.strongRecOn with
    | _ n1 ih2 =>
      intro k m1 hm_n1 v4 hs hk
      refine pw_steps 2 (s' := (4, [some (.ref 47), some (.int (ei_ (k)))], [.ref 47, .int (ei_ (k))], m1)) rfl ?_
      refine pw_get rfl rfl (fun x5 (hx5 : x5 = vi_ m1 47 6) rx5 sx5 => ?_)
      replace hx5 : x5 = vi_ m 47 6 := hx5.trans (sm_v hs rfl)
      replace hx5 : x5 = P := hx5.trans p0
      subst x5
      refine pw_cmp rfl (by omega) ⟨rx5, sx5⟩ (fun (h6 : P ≤ k) => ?_) (fun (h6 : ¬ (P ≤ k)) => ?_)
      · refine pw_vret rfl rfl ?_
        exact k0 m1 (hs) (by intro j a_ b_; exact hk j a_ (by omega))
      · refine pw_steps 6 (s' := (20, [some (.ref 47), some (.int (ei_ (k)))], [.int (ei_ (k)), .ref 52, .int (ei_ (k)), .ref 59], m1)) rfl ?_
        refine pw_ild rfl rfl (by omega) (fun x7 (hx7 : x7 = vi_ m1 52 k) rx7 sx7 => ?_)
        have ox7 := hx7
        replace hx7 : x7 = vi_ m 52 k := hx7.trans (sm_v hs rfl)
        refine pw_ist rfl rfl (by omega) ?_
        refine pw_steps 2 (s' := (2, [some (.ref 47), some (.int ((ei_ (k)) + (ei_ (1))))], [], wi_ m1 59 (k) (x7))) rfl ?_
        refine pw_cv (congrArg (fun z_ : Int32 => ((2, [some (.ref 47), some (.int z_)], [], wi_ m1 59 (k) (x7)) : am_S)) (ei_add rfl rfl)) ?_
        exact ih2 _ (by omega) (k + 1) (wi_ m1 59 (k) (x7)) rfl (by omega) ((sm_w hs (fun _ h_ => by rw [h_]; rfl))) (by intro j a_ b_; (simp (disch := omega) only [vi_up, vi_ne]); by_cases e_ : j = k; (rw [if_pos e_, e_, hx7]); (rw [if_neg e_]; exact hk j a_ (by omega)))
  exact L3 _ 0 m rfl (by omega) ((sm_rfl m)) (by intro j a_ b_; omega)

set_option maxHeartbeats 4000000 in
set_option maxRecDepth 20000 in
theorem mw_ends {q : am_X} {d : Nat} {m : am_M} {Q : Option Value → am_M → Prop}  {P : Int} (p0 : vi_ m 47 6 = P) (p1 : 0 ≤ P ∧ P ≤ 5) (k0 : ∀ (m1 : am_M), (sm_ pC52 m m1) → (∀ j, 0 ≤ j → j < P → vi_ m1 52 j = vi_ m 58 j) → (∀ j, P ≤ j → vi_ m1 52 j = vi_ m 52 j) → Q none m1) : pw_C q (d + 1) 221 [.ref 47] m Q := by
  refine pw_intro (I := iX9_endsWays) (T := tX9_endsWays) rfl rfl rfl ?_
  refine pw_steps 2 (s' := (2, [some (.ref 47), some (.int (ei_ (0)))], [], m)) rfl ?_
  have L3 : ∀ (n1 : Nat) (k : Int) (m1 : am_M), (P - k).toNat = n1 → (0 ≤ k ∧ k ≤ P) → (sm_ pC52 m m1) → (∀ j, 0 ≤ j → j < k → vi_ m1 52 j = vi_ m 58 j) → (∀ j, P ≤ j → vi_ m1 52 j = vi_ m 52 j) → pw_V q (d) iX9_endsWays.2.2.2.1 tX9_endsWays Q (2, [some (.ref 47), some (.int (ei_ (k)))], [], m1) := by
    intro n1
    induction n1 using Nat.strongRecOn with
    | _ n1 ih2 =>
      intro k m1 hm_n1 v4 hs hk hno
      refine pw_steps 2 (s' := (4, [some (.ref 47), some (.int (ei_ (k)))], [.ref 47, .int (ei_ (k))], m1)) rfl ?_
      refine pw_get rfl rfl (fun x5 (hx5 : x5 = vi_ m1 47 6) rx5 sx5 => ?_)
      replace hx5 : x5 = vi_ m 47 6 := hx5.trans (sm_v hs rfl)
      replace hx5 : x5 = P := hx5.trans p0
      subst x5
      refine pw_cmp rfl (by omega) ⟨rx5, sx5⟩ (fun (h6 : P ≤ k) => ?_) (fun (h6 : ¬ (P ≤ k)) => ?_)
      · refine pw_vret rfl rfl ?_
        exact k0 m1 (hs) (by intro j a_ b_; exact hk j a_ (by omega)) (by exact hno)
      · refine pw_steps 6 (s' := (20, [some (.ref 47), some (.int (ei_ (k)))], [.int (ei_ (k)), .ref 58, .int (ei_ (k)), .ref 52], m1)) rfl ?_
        refine pw_ild rfl rfl (by omega) (fun x7 (hx7 : x7 = vi_ m1 58 k) rx7 sx7 => ?_)
        have ox7 := hx7
        replace hx7 : x7 = vi_ m 58 k := hx7.trans (sm_v hs rfl)
        refine pw_ist rfl rfl (by omega) ?_
        refine pw_steps 2 (s' := (2, [some (.ref 47), some (.int ((ei_ (k)) + (ei_ (1))))], [], wi_ m1 52 (k) (x7))) rfl ?_
        refine pw_cv (congrArg (fun z_ : Int32 => ((2, [some (.ref 47), some (.int z_)], [], wi_ m1 52 (k) (x7)) : am_S)) (ei_add rfl rfl)) ?_
        exact ih2 _ (by omega) (k + 1) (wi_ m1 52 (k) (x7)) rfl (by omega) ((sm_w hs (fun _ h_ => by rw [h_]; rfl))) (by intro j a_ b_; (simp (disch := omega) only [vi_up, vi_ne]); by_cases e_ : j = k; (rw [if_pos e_, e_, hx7]); (rw [if_neg e_]; exact hk j a_ (by omega))) (by intro j a_; (simp (disch := omega) only [vi_up, vi_ne]); rw [if_neg (by omega)]; exact hno j a_)
  exact L3 _ 0 m rfl (by omega) ((sm_rfl m)) (by intro j a_ b_; omega) (by intro j _; rfl)

