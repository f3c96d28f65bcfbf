
/-! ===== CLASS: days; BOTH: home ===== -/
def rn_ (m : am_M) (a : Int) : Int := rt_ m (vi_ m 4 a) a (cn_ (vi_ m 4) (vi_ m 4 a) 8) (vi_ m 2 32)
theorem rn_b (m : am_M) (a : Int) : 0 ≤ rn_ m a ∧ rn_ m a ≤ 99 := rt_b _ _ _ _ _
/-- in which minute a name is home -/
def mh_ (f : Int → Int) (a : Int) : Int := if f a = a then 0 else 1 + su_ (fun k => if f k = f a ∧ ¬ k = f a then 1 else 0) a.toNat
def mx_ (f : Int → Int) : Nat → Int
  | 0 => 0
  | n + 1 => max (mx_ f n) (f n)
theorem mx_s {f : Int → Int} {k : Int} (h : 0 ≤ k) : mx_ f (k + 1).toNat = max (mx_ f k.toNat) (f k) := by
  rw [show (k + 1).toNat = k.toNat + 1 by omega]
  simp only [mx_]
  rw [Int.toNat_of_nonneg h]
theorem mx_cg {f g : Int → Int} : ∀ (n : Nat), (∀ j, 0 ≤ j → j < (n : Int) → f j = g j) → mx_ f n = mx_ g n := by
  intro n
  induction n with
  | zero => intro _; rfl
  | succ n ih =>
    intro h
    simp only [mx_]
    rw [h n (by omega) (by omega), ih (fun j h1 h2 => h j h1 (by omega))]
theorem mh_cg {f g : Int → Int} {a : Int} (ha : 0 ≤ a) (h : ∀ j, 0 ≤ j → j ≤ a → f j = g j) : mh_ f a = mh_ g a := by
  simp only [mh_]
  rw [h a ha (Int.le_refl _), su_cg a.toNat (fun j h1 h2 => by rw [h j h1 (by omega)])]
theorem mh_b {f : Int → Int} {a : Int} (ha : 0 ≤ a ∧ a < 8) : 0 ≤ mh_ f a ∧ mh_ f a ≤ 8 := by
  have := su_b (f := fun k => if f k = f a ∧ ¬ k = f a then (1 : Int) else 0) (M := 1) a.toNat (fun j _ _ => by split <;> omega)
  unfold mh_
  split
  · omega
  · omega

set_option maxHeartbeats 4000000 in
set_option maxRecDepth 20000 in
theorem cw_rateNow {q : am_X} {d : Nat} {m : am_M} {Q : Option Value → am_M → Prop} {m0 : am_M} {name : Int}  (p0 : rP_ m0) (p1 : rZ_ m0) (p2 : sm_ pSc m0 m) (p3 : rW_ m0) (p4 : 0 ≤ name ∧ name < vi_ m0 1 1) (k0 : ∀ (x : Int) (m1 : am_M), (x = rn_ m0 name) → (sm_ pSc m0 m1) → (0 ≤ x ∧ x ≤ 99) → Q (some (.int (ei_ (x)))) m1) : pw_C q (d + 6) 45 [.ref 0, .int (ei_ (name))] m Q := by
  obtain ⟨hP1, hP2, hP3, hP4⟩ := id p0
  refine pw_intro (I := iX8_rateNow) (T := tX8_rateNow) rfl rfl rfl ?_
  refine pw_steps 3 (s' := (5, [some (.ref 0), some (.int (ei_ (name))), none], [.int (ei_ (name)), .ref 3], m)) rfl ?_
  refine pw_call (As := [.int (ei_ (name))]) (st := []) (k := 3) rfl rfl rfl rfl rfl (Nat.le_of_ble_eq_true rfl) ?_
  refine cw_wearer (p2) (by omega) (fun x1 g2 => ?_)
  have hb_ := p3 name (by omega) (by omega)
  refine pw_steps 7 (s' := (17, [some (.ref 0), some (.int (ei_ (name))), some (.int (ei_ (x1)))], [.int (ei_ (x1)), .ref 3, .int (ei_ (x1)), .int (ei_ (name)), .ref 0], m)) rfl ?_
  refine pw_call (As := [.int (ei_ (x1))]) (st := [.int (ei_ (x1)), .int (ei_ (name)), .ref 0]) (k := 3) rfl rfl rfl rfl rfl (Nat.le_of_ble_eq_true rfl) ?_
  refine cw_worn (p2) (by omega) (fun x3 g4 g5 => ?_)
  refine pw_steps 2 (s' := (24, [some (.ref 0), some (.int (ei_ (name))), some (.int (ei_ (x1)))], [.ref 1, .int (ei_ (x3)), .int (ei_ (x1)), .int (ei_ (name)), .ref 0], m)) rfl ?_
  refine pw_call (As := []) (st := [.int (ei_ (x3)), .int (ei_ (x1)), .int (ei_ (name)), .ref 0]) (k := 1) rfl rfl rfl rfl rfl (Nat.le_of_ble_eq_true rfl) ?_
  refine pw_intro (I := iX3_cold) (T := tX3_cold) rfl rfl rfl ?_
  refine pw_steps 3 (s' := (3, [some (.ref 1)], [.int (ei_ (4)), .int (ei_ (0)), .ref 1], m)) rfl ?_
  refine pw_call (As := [.int (ei_ (0)), .int (ei_ (4))]) (st := []) (k := 1) rfl rfl rfl rfl rfl (Nat.le_of_ble_eq_true rfl) ?_
  refine cw_told4 (p0) (p2) (fun x6 g7 g8 => ?_)
  refine pw_iret rfl rfl rfl ?_
  refine pw_call (As := [.int (ei_ (name)), .int (ei_ (x1)), .int (ei_ (x3)), .int (ei_ (x6))]) (st := []) (k := 0) rfl rfl rfl rfl rfl (Nat.le_of_ble_eq_true rfl) ?_
  refine cw_rate (p0) (p1) (p2) (p4) (by omega) (by omega) (by omega) (fun x9 m110 g11 g12 g13 => ?_)
  refine pw_iret rfl rfl rfl ?_
  exact k0 x9 m110 (by rw [g11, rn_, ← g2, ← g4, ← g7]) (g12) (by rw [g11]; exact rt_b _ _ _ _ _)

set_option maxHeartbeats 4000000 in
set_option maxRecDepth 20000 in
theorem cw_leftAfter {q : am_X} {d : Nat} {m : am_M} {Q : Option Value → am_M → Prop} {m0 : am_M} {name : Int} {n : Int}  (p0 : rP_ m0) (p1 : rZ_ m0) (p2 : sm_ pSc m0 m) (p3 : rW_ m0) (p4 : rF_ m0) (p5 : 0 ≤ name ∧ name < vi_ m0 1 1) (p6 : 0 ≤ n ∧ n ≤ 99) (k0 : ∀ (x : Int) (m1 : am_M), (x = lf_ (vi_ m0 5 name) (rn_ m0 name) n) → (sm_ pSc m0 m1) → (0 ≤ x ∧ x ≤ 999) → Q (some (.int (ei_ (x)))) m1) : pw_C q (d + 7) 57 [.ref 0, .int (ei_ (name)), .int (ei_ (n))] m Q := by
  obtain ⟨hP1, hP2, hP3, hP4⟩ := id p0
  refine pw_intro (I := iX8_leftAfter) (T := tX8_leftAfter) rfl rfl rfl ?_
  refine pw_steps 5 (s' := (7, [some (.ref 0), some (.int (ei_ (name))), some (.int (ei_ (n)))], [.int (ei_ (name)), .ref 0, .int (ei_ (name)), .ref 3], m)) rfl ?_
  refine pw_call (As := [.int (ei_ (name))]) (st := [.int (ei_ (name)), .ref 3]) (k := 0) rfl rfl rfl rfl rfl (Nat.le_of_ble_eq_true rfl) ?_
  refine cw_rateNow (p0) (p1) (p2) (p3) (p5) (fun x1 m12 g3 g4 g5 => ?_)
  refine pw_steps 1 (s' := (11, [some (.ref 0), some (.int (ei_ (name))), some (.int (ei_ (n)))], [.int (ei_ (n)), .int (ei_ (x1)), .int (ei_ (name)), .ref 3], m12)) rfl ?_
  refine pw_call (As := [.int (ei_ (name)), .int (ei_ (x1)), .int (ei_ (n))]) (st := []) (k := 3) rfl rfl rfl rfl rfl (Nat.le_of_ble_eq_true rfl) ?_
  refine cw_leftBy (p4) (g4) (by omega) (by omega) (p6) (fun x6 g7 g8 => ?_)
  refine pw_iret rfl rfl rfl ?_
  exact k0 x6 m12 (by rw [g7, g3]) (g4) (by omega)

set_option maxHeartbeats 4000000 in
set_option maxRecDepth 20000 in
theorem cw_firstDay {q : am_X} {d : Nat} {m : am_M} {Q : Option Value → am_M → Prop} {m0 : am_M} {name : Int} {b : Int}  (p0 : rP_ m0) (p1 : rZ_ m0) (p2 : sm_ pSc m0 m) (p3 : rW_ m0) (p4 : rF_ m0) (p5 : 0 ≤ name ∧ name < vi_ m0 1 1) (p6 : b = 0 ∨ b = 1) (k0 : ∀ (x : Int) (m1 : am_M), (fs_ (fun j => ((b = 1 ∧ lf_ (vi_ m0 5 name) (rn_ m0 name) j = 0) ∨ (b = 0 ∧ lf_ (vi_ m0 5 name) (rn_ m0 name) j < 10 * vi_ m0 2 name))) x) → (sm_ pSc m0 m1) → (-2 ≤ x ∧ x ≤ 99) → Q (some (.int (ei_ (x)))) m1) : pw_C q (d + 8) 62 [.ref 0, .int (ei_ (name)), .int (ei_ (b))] m Q := by
  obtain ⟨hP1, hP2, hP3, hP4⟩ := id p0
  refine pw_intro (I := iX8_firstDay) (T := tX8_firstDay) rfl rfl rfl ?_
  refine pw_steps 2 (s' := (2, [some (.ref 0), some (.int (ei_ (name))), some (.int (ei_ (b))), none, none, none], [.int (ei_ (name)), .ref 0], m)) rfl ?_
  refine pw_call (As := [.int (ei_ (name))]) (st := []) (k := 0) rfl rfl rfl rfl rfl (Nat.le_of_ble_eq_true rfl) ?_
  refine cw_rateNow (p0) (p1) (p2) (p3) (p5) (fun x1 m12 g3 g4 g5 => ?_)
  refine pw_steps 3 (s' := (9, [some (.ref 0), some (.int (ei_ (name))), some (.int (ei_ (b))), some (.int (ei_ (x1))), some (.int (ei_ (0))), none], [], m12)) rfl ?_
  have L9 : ∀ (n7 : Nat) (k : Int) (u6 : Option Value), (100 - k).toNat = n7 → (0 ≤ k ∧ k ≤ 100) → (∀ j, 0 ≤ j → j < k → ¬ ((b = 1 ∧ lf_ (vi_ m0 5 name) (rn_ m0 name) j = 0) ∨ (b = 0 ∧ lf_ (vi_ m0 5 name) (rn_ m0 name) j < 10 * vi_ m0 2 name))) → pw_V q (d + 7) iX8_firstDay.2.2.2.1 tX8_firstDay Q (9, [some (.ref 0), some (.int (ei_ (name))), some (.int (ei_ (b))), some (.int (ei_ (x1))), some (.int (ei_ (k))), u6], [], m12) := by
    intro n7
    induction n7 using Nat.strongRecOn with
    | _ n7 ih8 =>
      intro k u6 hm_n7 v10 hw
      refine pw_steps 2 (s' := (13, [some (.ref 0), some (.int (ei_ (name))), some (.int (ei_ (b))), some (.int (ei_ (x1))), some (.int (ei_ (k))), u6], [.int (ei_ (99)), .int (ei_ (k))], m12)) rfl ?_
      refine pw_cmp rfl (by omega) (by decide) (fun (h11 : 99 < k) => ?_) (fun (h11 : ¬ (99 < k)) => ?_)
      · refine pw_steps 1 (s' := (62, [some (.ref 0), some (.int (ei_ (name))), some (.int (ei_ (b))), some (.int (ei_ (x1))), some (.int (ei_ (k))), u6], [.int (ei_ ((-2)))], m12)) rfl ?_
        refine pw_iret rfl rfl rfl ?_
        exact k0 (-2) m12 (by exact Or.inr ⟨rfl, fun j a_ b_ => hw j a_ (by omega)⟩) (g4) (by omega)
      · refine pw_steps 5 (s' := (24, [some (.ref 0), some (.int (ei_ (name))), some (.int (ei_ (b))), some (.int (ei_ (x1))), some (.int (ei_ (k))), u6], [.int (ei_ (k)), .int (ei_ (x1)), .int (ei_ (name)), .ref 3], m12)) rfl ?_
        refine pw_call (As := [.int (ei_ (name)), .int (ei_ (x1)), .int (ei_ (k))]) (st := []) (k := 3) rfl rfl rfl rfl rfl (Nat.le_of_ble_eq_true rfl) ?_
        refine cw_leftBy (p4) (g4) (by omega) (by omega) (by omega) (fun x12 g13 g14 => ?_)
        refine pw_steps 2 (s' := (30, [some (.ref 0), some (.int (ei_ (name))), some (.int (ei_ (b))), some (.int (ei_ (x1))), some (.int (ei_ (k))), some (.int (ei_ (x12)))], [.int (ei_ (b))], m12)) rfl ?_
        refine pw_if rfl (by omega) (fun (h15 : b = 0) => ?_) (fun (h15 : ¬ (b = 0)) => ?_)
        · refine pw_steps 3 (s' := (45, [some (.ref 0), some (.int (ei_ (name))), some (.int (ei_ (b))), some (.int (ei_ (x1))), some (.int (ei_ (k))), some (.int (ei_ (x12)))], [.int (ei_ (x12)), .int (ei_ (name)), .ref 0], m12)) rfl ?_
          refine pw_call (As := [.int (ei_ (name)), .int (ei_ (x12))]) (st := []) (k := 0) rfl rfl rfl rfl rfl (Nat.le_of_ble_eq_true rfl) ?_
          refine pw_intro (I := iX8_cracks) (T := tX8_cracks) rfl rfl rfl ?_
          refine pw_steps 6 (s' := (9, [some (.ref 0), some (.int (ei_ (name))), some (.int (ei_ (x12)))], [.int (ei_ (0)), .int (ei_ (name)), .ref 1, .int (ei_ (10)), .int (ei_ (x12))], m12)) rfl ?_
          refine pw_call (As := [.int (ei_ (name)), .int (ei_ (0))]) (st := [.int (ei_ (10)), .int (ei_ (x12))]) (k := 1) rfl rfl rfl rfl rfl (Nat.le_of_ble_eq_true rfl) ?_
          refine cw_told0 (p0) (g4) (p5) (fun x16 g17 g18 => ?_)
          refine pw_steps 1 (s' := (13, [some (.ref 0), some (.int (ei_ (name))), some (.int (ei_ (x12)))], [.int ((ei_ (10)) * (ei_ (x16))), .int (ei_ (x12))], m12)) rfl ?_
          refine pw_cv (congrArg (fun z_ : Int32 => ((13, [some (.ref 0), some (.int (ei_ (name))), some (.int (ei_ (x12)))], [.int z_, .int (ei_ (x12))], m12) : am_S)) (ei_mul rfl rfl)) ?_
          refine pw_cmp rfl (by omega) (by omega) (fun (h19 : (10 * x16) ≤ x12) => ?_) (fun (h19 : ¬ ((10 * x16) ≤ x12)) => ?_)
          · refine pw_steps 1 (s' := (21, [some (.ref 0), some (.int (ei_ (name))), some (.int (ei_ (x12)))], [.int (ei_ (0))], m12)) rfl ?_
            refine pw_iret rfl rfl rfl ?_
            refine pw_ifT rfl (by decide) (show 0 = 0 by decide) ?_
            refine pw_steps 2 (s' := (9, [some (.ref 0), some (.int (ei_ (name))), some (.int (ei_ (b))), some (.int (ei_ (x1))), some (.int ((ei_ (k)) + (ei_ (1)))), some (.int (ei_ (x12)))], [], m12)) rfl ?_
            refine pw_cv (congrArg (fun z_ : Int32 => ((9, [some (.ref 0), some (.int (ei_ (name))), some (.int (ei_ (b))), some (.int (ei_ (x1))), some (.int z_), some (.int (ei_ (x12)))], [], m12) : am_S)) (ei_add rfl rfl)) ?_
            exact ih8 _ (by omega) (k + 1) (some (.int (ei_ (x12)))) rfl (by omega) (by have e1_ := g13; rw [g3] at e1_; have e2_ := g17; intro j a_ b_; by_cases e_ : j = k; (rw [e_]; omega); (exact hw j a_ (by omega)))
          · refine pw_steps 2 (s' := (21, [some (.ref 0), some (.int (ei_ (name))), some (.int (ei_ (x12)))], [.int (ei_ (1))], m12)) rfl ?_
            refine pw_iret rfl rfl rfl ?_
            refine pw_ifF rfl (by decide) (show ¬ (1 = 0) by decide) ?_
            refine pw_steps 1 (s' := (53, [some (.ref 0), some (.int (ei_ (name))), some (.int (ei_ (b))), some (.int (ei_ (x1))), some (.int (ei_ (k))), some (.int (ei_ (x12)))], [.int (ei_ (k))], m12)) rfl ?_
            refine pw_iret rfl rfl rfl ?_
            exact k0 k m12 (by have e1_ := g13; rw [g3] at e1_; have e2_ := g17; exact Or.inl ⟨by omega, by omega, (by show ((b = 1 ∧ lf_ (vi_ m0 5 name) (rn_ m0 name) k = 0) ∨ (b = 0 ∧ lf_ (vi_ m0 5 name) (rn_ m0 name) k < 10 * vi_ m0 2 name)); omega), hw⟩) (g4) (by omega)
        · refine pw_steps 1 (s' := (35, [some (.ref 0), some (.int (ei_ (name))), some (.int (ei_ (b))), some (.int (ei_ (x1))), some (.int (ei_ (k))), some (.int (ei_ (x12)))], [.int (ei_ (x12))], m12)) rfl ?_
          refine pw_if rfl (by omega) (fun (h20 : ¬ x12 = 0) => ?_) (fun (h20 : ¬ ¬ x12 = 0) => ?_)
          · refine pw_steps 2 (s' := (9, [some (.ref 0), some (.int (ei_ (name))), some (.int (ei_ (b))), some (.int (ei_ (x1))), some (.int ((ei_ (k)) + (ei_ (1)))), some (.int (ei_ (x12)))], [], m12)) rfl ?_
            refine pw_cv (congrArg (fun z_ : Int32 => ((9, [some (.ref 0), some (.int (ei_ (name))), some (.int (ei_ (b))), some (.int (ei_ (x1))), some (.int z_), some (.int (ei_ (x12)))], [], m12) : am_S)) (ei_add rfl rfl)) ?_
            exact ih8 _ (by omega) (k + 1) (some (.int (ei_ (x12)))) rfl (by omega) (by have e1_ := g13; rw [g3] at e1_; intro j a_ b_; by_cases e_ : j = k; (rw [e_]; omega); (exact hw j a_ (by omega)))
          · refine pw_steps 2 (s' := (53, [some (.ref 0), some (.int (ei_ (name))), some (.int (ei_ (b))), some (.int (ei_ (x1))), some (.int (ei_ (k))), some (.int (ei_ (x12)))], [.int (ei_ (k))], m12)) rfl ?_
            refine pw_iret rfl rfl rfl ?_
            exact k0 k m12 (by have e1_ := g13; rw [g3] at e1_; exact Or.inl ⟨by omega, by omega, (by show ((b = 1 ∧ lf_ (vi_ m0 5 name) (rn_ m0 name) k = 0) ∨ (b = 0 ∧ lf_ (vi_ m0 5 name) (rn_ m0 name) k < 10 * vi_ m0 2 name)); omega), hw⟩) (g4) (by omega)
  exact L9 _ 0 none rfl (by omega) (by intro j a_ b_; omega)

set_option maxHeartbeats 4000000 in
set_option maxRecDepth 20000 in
theorem cw_home {q : am_X} {d : Nat} {m : am_M} {Q : Option Value → am_M → Prop} {m0 : am_M} {name : Int}  (p0 : sm_ pSc m0 m) (p1 : 0 ≤ name ∧ name < 8) (k0 : ∀ (x : Int), (x = mh_ (vi_ m0 4) name) → (0 ≤ x ∧ x ≤ 8) → Q (some (.int (ei_ (x)))) m) : pw_C q (d + 3) 87 [.ref 3, .int (ei_ (name))] m Q := by
  refine pw_intro (I := iX2_minuteHome) (T := tX2_minuteHome) rfl rfl rfl ?_
  refine pw_steps 2 (s' := (2, [some (.ref 3), some (.int (ei_ (name))), none, none, none], [.int (ei_ (name)), .ref 3], m)) rfl ?_
  refine pw_call (As := [.int (ei_ (name))]) (st := []) (k := 3) rfl rfl rfl rfl rfl (Nat.le_of_ble_eq_true rfl) ?_
  refine cw_wearer (p0) (p1) (fun x1 g2 => ?_)
  have hr_ := vi_r m0 4 name
  refine pw_steps 3 (s' := (8, [some (.ref 3), some (.int (ei_ (name))), some (.int (ei_ (x1))), none, none], [.int (ei_ (name)), .int (ei_ (x1))], m)) rfl ?_
  refine pw_cmp rfl (by omega) (by omega) (fun (h3 : ¬ x1 = name) => ?_) (fun (h3 : ¬ ¬ x1 = name) => ?_)
  · refine pw_steps 4 (s' := (18, [some (.ref 3), some (.int (ei_ (name))), some (.int (ei_ (x1))), some (.int (ei_ (1))), some (.int (ei_ (0)))], [], m)) rfl ?_
    have L6 : ∀ (n4 : Nat) (w : Int) (k : Int), (name - k).toNat = n4 → (0 ≤ k ∧ k ≤ name) → (1 ≤ w ∧ w ≤ 1 + k) → (w = 1 + su_ (fun k => if vi_ m0 4 k = vi_ m0 4 name ∧ ¬ k = vi_ m0 4 name then 1 else 0) k.toNat) → pw_V q (d + 2) iX2_minuteHome.2.2.2.1 tX2_minuteHome Q (18, [some (.ref 3), some (.int (ei_ (name))), some (.int (ei_ (x1))), some (.int (ei_ (w))), some (.int (ei_ (k)))], [], m) := by
      intro n4
      induction n4 using Nat.strongRecOn with
      | _ n4 ih5 =>
        intro w k hm_n4 v7 v8 hv
        refine pw_steps 2 (s' := (21, [some (.ref 3), some (.int (ei_ (name))), some (.int (ei_ (x1))), some (.int (ei_ (w))), some (.int (ei_ (k)))], [.int (ei_ (name)), .int (ei_ (k))], m)) rfl ?_
        refine pw_cmp rfl (by omega) (by omega) (fun (h9 : name ≤ k) => ?_) (fun (h9 : ¬ (name ≤ k)) => ?_)
        · refine pw_steps 1 (s' := (63, [some (.ref 3), some (.int (ei_ (name))), some (.int (ei_ (x1))), some (.int (ei_ (w))), some (.int (ei_ (k)))], [.int (ei_ (w))], m)) rfl ?_
          refine pw_iret rfl rfl rfl ?_
          exact k0 w (by unfold mh_; rw [if_neg (by omega), hv, show k = name by omega]) (by omega)
        · refine pw_steps 2 (s' := (28, [some (.ref 3), some (.int (ei_ (name))), some (.int (ei_ (x1))), some (.int (ei_ (w))), some (.int (ei_ (k)))], [.int (ei_ (8)), .int (ei_ (k))], m)) rfl ?_
          refine pw_cmpF rfl (by omega) (by decide) (show ¬ (8 ≤ k) by omega) ?_
          refine pw_steps 4 (s' := (38, [some (.ref 3), some (.int (ei_ (name))), some (.int (ei_ (x1))), some (.int (ei_ (w))), some (.int (ei_ (k)))], [.int (ei_ (k)), .ref 4, .int (ei_ (w))], m)) rfl ?_
          refine pw_ild rfl rfl (by omega) (fun x10 (hx10 : x10 = vi_ m 4 k) rx10 sx10 => ?_)
          have ox10 := hx10
          replace hx10 : x10 = vi_ m0 4 k := hx10.trans (sm_v p0 rfl)
          refine pw_steps 1 (s' := (40, [some (.ref 3), some (.int (ei_ (name))), some (.int (ei_ (x1))), some (.int (ei_ (w))), some (.int (ei_ (k)))], [.int (ei_ (x1)), .int (ei_ (x10)), .int (ei_ (w))], m)) rfl ?_
          refine pw_cmp rfl ⟨rx10, sx10⟩ (by omega) (fun (h11 : ¬ x10 = x1) => ?_) (fun (h11 : ¬ ¬ x10 = x1) => ?_)
          · refine pw_steps 5 (s' := (18, [some (.ref 3), some (.int (ei_ (name))), some (.int (ei_ (x1))), some (.int ((ei_ (w)) + (ei_ (0)))), some (.int ((ei_ (k)) + (ei_ (1))))], [], m)) rfl ?_
            refine pw_cv (congrArg (fun z_ : Int32 => ((18, [some (.ref 3), some (.int (ei_ (name))), some (.int (ei_ (x1))), some (.int z_), some (.int ((ei_ (k)) + (ei_ (1))))], [], m) : am_S)) (ei_add rfl rfl)) ?_
            refine pw_cv (congrArg (fun z_ : Int32 => ((18, [some (.ref 3), some (.int (ei_ (name))), some (.int (ei_ (x1))), some (.int (ei_ ((w + 0)))), some (.int z_)], [], m) : am_S)) (ei_add rfl rfl)) ?_
            exact ih5 _ (by omega) (w + 0) (k + 1) rfl (by omega) (by omega) (by rw [su_s (by omega)]; first | (rw [if_pos (by omega)]; omega) | (rw [if_neg (by omega)]; omega))
          · refine pw_steps 2 (s' := (46, [some (.ref 3), some (.int (ei_ (name))), some (.int (ei_ (x1))), some (.int (ei_ (w))), some (.int (ei_ (k)))], [.int (ei_ (x1)), .int (ei_ (k)), .int (ei_ (w))], m)) rfl ?_
            refine pw_cmp rfl (by omega) (by omega) (fun (h12 : k = x1) => ?_) (fun (h12 : ¬ (k = x1)) => ?_)
            · refine pw_steps 5 (s' := (18, [some (.ref 3), some (.int (ei_ (name))), some (.int (ei_ (x1))), some (.int ((ei_ (w)) + (ei_ (0)))), some (.int ((ei_ (k)) + (ei_ (1))))], [], m)) rfl ?_
              refine pw_cv (congrArg (fun z_ : Int32 => ((18, [some (.ref 3), some (.int (ei_ (name))), some (.int (ei_ (x1))), some (.int z_), some (.int ((ei_ (k)) + (ei_ (1))))], [], m) : am_S)) (ei_add rfl rfl)) ?_
              refine pw_cv (congrArg (fun z_ : Int32 => ((18, [some (.ref 3), some (.int (ei_ (name))), some (.int (ei_ (x1))), some (.int (ei_ ((w + 0)))), some (.int z_)], [], m) : am_S)) (ei_add rfl rfl)) ?_
              exact ih5 _ (by omega) (w + 0) (k + 1) rfl (by omega) (by omega) (by rw [su_s (by omega)]; first | (rw [if_pos (by omega)]; omega) | (rw [if_neg (by omega)]; omega))
            · refine pw_steps 6 (s' := (18, [some (.ref 3), some (.int (ei_ (name))), some (.int (ei_ (x1))), some (.int ((ei_ (w)) + (ei_ (1)))), some (.int ((ei_ (k)) + (ei_ (1))))], [], m)) rfl ?_
              refine pw_cv (congrArg (fun z_ : Int32 => ((18, [some (.ref 3), some (.int (ei_ (name))), some (.int (ei_ (x1))), some (.int z_), some (.int ((ei_ (k)) + (ei_ (1))))], [], m) : am_S)) (ei_add rfl rfl)) ?_
              refine pw_cv (congrArg (fun z_ : Int32 => ((18, [some (.ref 3), some (.int (ei_ (name))), some (.int (ei_ (x1))), some (.int (ei_ ((w + 1)))), some (.int z_)], [], m) : am_S)) (ei_add rfl rfl)) ?_
              exact ih5 _ (by omega) (w + 1) (k + 1) rfl (by omega) (by omega) (by rw [su_s (by omega)]; first | (rw [if_pos (by omega)]; omega) | (rw [if_neg (by omega)]; omega))
    exact L6 _ 1 0 rfl (by omega) (by omega) (by rfl)
  · refine pw_steps 1 (s' := (12, [some (.ref 3), some (.int (ei_ (name))), some (.int (ei_ (x1))), none, none], [.int (ei_ (0))], m)) rfl ?_
    refine pw_iret rfl rfl rfl ?_
    exact k0 0 (by unfold mh_; rw [if_pos (by omega)]; done) (by omega)

set_option maxHeartbeats 4000000 in
set_option maxRecDepth 20000 in
theorem mw_home {q : am_X} {d : Nat} {m : am_M} {Q : Option Value → am_M → Prop} {m0 : am_M} {name : Int}  (p0 : sm_ pSc m0 m) (p1 : 0 ≤ name ∧ name < 8) (k0 : ∀ (x : Int), (x = mh_ (vi_ m0 52) name) → (0 ≤ x ∧ x ≤ 8) → Q (some (.int (ei_ (x)))) m) : pw_C q (d + 2) 225 [.ref 47, .int (ei_ (name))] m Q := by
  refine pw_intro (I := iX9_homeIn) (T := tX9_homeIn) rfl rfl rfl ?_
  refine pw_steps 3 (s' := (5, [some (.ref 47), some (.int (ei_ (name))), none, none, none], [.int (ei_ (name)), .ref 52], m)) rfl ?_
  refine pw_ild rfl rfl (by omega) (fun x1 (hx1 : x1 = vi_ m 52 name) rx1 sx1 => ?_)
  have ox1 := hx1
  replace hx1 : x1 = vi_ m0 52 name := hx1.trans (sm_v p0 rfl)
  refine pw_steps 3 (s' := (9, [some (.ref 47), some (.int (ei_ (name))), some (.int (ei_ (x1))), none, none], [.int (ei_ (name)), .int (ei_ (x1))], m)) rfl ?_
  refine pw_cmp rfl ⟨rx1, sx1⟩ (by omega) (fun (h2 : ¬ x1 = name) => ?_) (fun (h2 : ¬ ¬ x1 = name) => ?_)
  · refine pw_steps 4 (s' := (19, [some (.ref 47), some (.int (ei_ (name))), some (.int (ei_ (x1))), some (.int (ei_ (1))), some (.int (ei_ (0)))], [], m)) rfl ?_
    have L5 : ∀ (n3 : Nat) (w : Int) (k : Int), (name - k).toNat = n3 → (0 ≤ k ∧ k ≤ name) → (1 ≤ w ∧ w ≤ 1 + k) → (w = 1 + su_ (fun k => if vi_ m0 52 k = vi_ m0 52 name ∧ ¬ k = vi_ m0 52 name then 1 else 0) k.toNat) → pw_V q (d + 1) iX9_homeIn.2.2.2.1 tX9_homeIn Q (19, [some (.ref 47), some (.int (ei_ (name))), some (.int (ei_ (x1))), some (.int (ei_ (w))), some (.int (ei_ (k)))], [], m) := by
      intro n3
      induction n3 using Nat.strongRecOn with
      | _ n3 ih4 =>
        intro w k hm_n3 v6 v7 hv
        refine pw_steps 2 (s' := (22, [some (.ref 47), some (.int (ei_ (name))), some (.int (ei_ (x1))), some (.int (ei_ (w))), some (.int (ei_ (k)))], [.int (ei_ (name)), .int (ei_ (k))], m)) rfl ?_
        refine pw_cmp rfl (by omega) (by omega) (fun (h8 : name ≤ k) => ?_) (fun (h8 : ¬ (name ≤ k)) => ?_)
        · refine pw_steps 1 (s' := (57, [some (.ref 47), some (.int (ei_ (name))), some (.int (ei_ (x1))), some (.int (ei_ (w))), some (.int (ei_ (k)))], [.int (ei_ (w))], m)) rfl ?_
          refine pw_iret rfl rfl rfl ?_
          exact k0 w (by unfold mh_; rw [if_neg (by omega), hv, show k = name by omega]) (by omega)
        · refine pw_steps 4 (s' := (32, [some (.ref 47), some (.int (ei_ (name))), some (.int (ei_ (x1))), some (.int (ei_ (w))), some (.int (ei_ (k)))], [.int (ei_ (k)), .ref 52, .int (ei_ (w))], m)) rfl ?_
          refine pw_ild rfl rfl (by omega) (fun x9 (hx9 : x9 = vi_ m 52 k) rx9 sx9 => ?_)
          have ox9 := hx9
          replace hx9 : x9 = vi_ m0 52 k := hx9.trans (sm_v p0 rfl)
          refine pw_steps 1 (s' := (34, [some (.ref 47), some (.int (ei_ (name))), some (.int (ei_ (x1))), some (.int (ei_ (w))), some (.int (ei_ (k)))], [.int (ei_ (x1)), .int (ei_ (x9)), .int (ei_ (w))], m)) rfl ?_
          refine pw_cmp rfl ⟨rx9, sx9⟩ ⟨rx1, sx1⟩ (fun (h10 : ¬ x9 = x1) => ?_) (fun (h10 : ¬ ¬ x9 = x1) => ?_)
          · refine pw_steps 5 (s' := (19, [some (.ref 47), some (.int (ei_ (name))), some (.int (ei_ (x1))), some (.int ((ei_ (w)) + (ei_ (0)))), some (.int ((ei_ (k)) + (ei_ (1))))], [], m)) rfl ?_
            refine pw_cv (congrArg (fun z_ : Int32 => ((19, [some (.ref 47), some (.int (ei_ (name))), some (.int (ei_ (x1))), some (.int z_), some (.int ((ei_ (k)) + (ei_ (1))))], [], m) : am_S)) (ei_add rfl rfl)) ?_
            refine pw_cv (congrArg (fun z_ : Int32 => ((19, [some (.ref 47), some (.int (ei_ (name))), some (.int (ei_ (x1))), some (.int (ei_ ((w + 0)))), some (.int z_)], [], m) : am_S)) (ei_add rfl rfl)) ?_
            exact ih4 _ (by omega) (w + 0) (k + 1) rfl (by omega) (by omega) (by rw [su_s (by omega)]; first | (rw [if_pos (by omega)]; omega) | (rw [if_neg (by omega)]; omega))
          · refine pw_steps 2 (s' := (40, [some (.ref 47), some (.int (ei_ (name))), some (.int (ei_ (x1))), some (.int (ei_ (w))), some (.int (ei_ (k)))], [.int (ei_ (x1)), .int (ei_ (k)), .int (ei_ (w))], m)) rfl ?_
            refine pw_cmp rfl (by omega) ⟨rx1, sx1⟩ (fun (h11 : k = x1) => ?_) (fun (h11 : ¬ (k = x1)) => ?_)
            · refine pw_steps 5 (s' := (19, [some (.ref 47), some (.int (ei_ (name))), some (.int (ei_ (x1))), some (.int ((ei_ (w)) + (ei_ (0)))), some (.int ((ei_ (k)) + (ei_ (1))))], [], m)) rfl ?_
              refine pw_cv (congrArg (fun z_ : Int32 => ((19, [some (.ref 47), some (.int (ei_ (name))), some (.int (ei_ (x1))), some (.int z_), some (.int ((ei_ (k)) + (ei_ (1))))], [], m) : am_S)) (ei_add rfl rfl)) ?_
              refine pw_cv (congrArg (fun z_ : Int32 => ((19, [some (.ref 47), some (.int (ei_ (name))), some (.int (ei_ (x1))), some (.int (ei_ ((w + 0)))), some (.int z_)], [], m) : am_S)) (ei_add rfl rfl)) ?_
              exact ih4 _ (by omega) (w + 0) (k + 1) rfl (by omega) (by omega) (by rw [su_s (by omega)]; first | (rw [if_pos (by omega)]; omega) | (rw [if_neg (by omega)]; omega))
            · refine pw_steps 6 (s' := (19, [some (.ref 47), some (.int (ei_ (name))), some (.int (ei_ (x1))), some (.int ((ei_ (w)) + (ei_ (1)))), some (.int ((ei_ (k)) + (ei_ (1))))], [], m)) rfl ?_
              refine pw_cv (congrArg (fun z_ : Int32 => ((19, [some (.ref 47), some (.int (ei_ (name))), some (.int (ei_ (x1))), some (.int z_), some (.int ((ei_ (k)) + (ei_ (1))))], [], m) : am_S)) (ei_add rfl rfl)) ?_
              refine pw_cv (congrArg (fun z_ : Int32 => ((19, [some (.ref 47), some (.int (ei_ (name))), some (.int (ei_ (x1))), some (.int (ei_ ((w + 1)))), some (.int z_)], [], m) : am_S)) (ei_add rfl rfl)) ?_
              exact ih4 _ (by omega) (w + 1) (k + 1) rfl (by omega) (by omega) (by rw [su_s (by omega)]; first | (rw [if_pos (by omega)]; omega) | (rw [if_neg (by omega)]; omega))
    exact L5 _ 1 0 rfl (by omega) (by omega) (by rfl)
  · refine pw_steps 1 (s' := (13, [some (.ref 47), some (.int (ei_ (name))), some (.int (ei_ (x1))), none, none], [.int (ei_ (0))], m)) rfl ?_
    refine pw_iret rfl rfl rfl ?_
    exact k0 0 (by unfold mh_; rw [if_pos (by omega)]; done) (by omega)

set_option maxHeartbeats 4000000 in
set_option maxRecDepth 20000 in
theorem cw_minutes {q : am_X} {d : Nat} {m : am_M} {Q : Option Value → am_M → Prop} {m0 : am_M}  (p0 : rP_ m0) (p1 : sm_ pSc m0 m) (k0 : ∀ (x : Int), (x = mx_ (mh_ (vi_ m0 4)) (vi_ m0 1 1).toNat) → (0 ≤ x ∧ x ≤ 8) → Q (some (.int (ei_ (x)))) m) : pw_C q (d + 5) 86 [.ref 0] m Q := by
  obtain ⟨hP1, hP2, hP3, hP4⟩ := id p0
  refine pw_intro (I := iX8_minutesOfThaw) (T := tX8_minutesOfThaw) rfl rfl rfl ?_
  refine pw_steps 4 (s' := (4, [some (.ref 0), some (.int (ei_ (0))), some (.int (ei_ (0)))], [], m)) rfl ?_
  have L3 : ∀ (n1 : Nat) (w : Int) (k : Int), (vi_ m0 1 1 - k).toNat = n1 → (0 ≤ k ∧ k ≤ vi_ m0 1 1) → (0 ≤ w ∧ w ≤ 8) → (w = mx_ (mh_ (vi_ m0 4)) k.toNat) → pw_V q (d + 4) iX8_minutesOfThaw.2.2.2.1 tX8_minutesOfThaw Q (4, [some (.ref 0), some (.int (ei_ (w))), some (.int (ei_ (k)))], [], m) := by
    intro n1
    induction n1 using Nat.strongRecOn with
    | _ n1 ih2 =>
      intro w k hm_n1 v4 v5 hv
      refine pw_steps 3 (s' := (9, [some (.ref 0), some (.int (ei_ (w))), some (.int (ei_ (k)))], [.ref 1, .int (ei_ (k))], m)) rfl ?_
      refine pw_call (As := []) (st := [.int (ei_ (k))]) (k := 1) rfl rfl rfl rfl rfl (Nat.le_of_ble_eq_true rfl) ?_
      refine pw_intro (I := iX3_size) (T := tX3_size) rfl rfl rfl ?_
      refine pw_steps 1 (s' := (1, [some (.ref 1)], [.ref 1], m)) rfl ?_
      refine pw_get rfl rfl (fun x6 (hx6 : x6 = vi_ m 1 1) rx6 sx6 => ?_)
      have ox6 := hx6
      replace hx6 : x6 = vi_ m0 1 1 := hx6.trans (sm_v p1 rfl)
      refine pw_iret rfl rfl rfl ?_
      refine pw_cmp rfl (by omega) ⟨rx6, sx6⟩ (fun (h7 : x6 ≤ k) => ?_) (fun (h7 : ¬ (x6 ≤ k)) => ?_)
      · refine pw_steps 1 (s' := (35, [some (.ref 0), some (.int (ei_ (w))), some (.int (ei_ (k)))], [.int (ei_ (w))], m)) rfl ?_
        refine pw_iret rfl rfl rfl ?_
        exact k0 w (by rw [← show k = vi_ m0 1 1 by omega]; exact hv) (by omega)
      · refine pw_steps 4 (s' := (21, [some (.ref 0), some (.int (ei_ (w))), some (.int (ei_ (k)))], [.int (ei_ (k)), .ref 3, .int (ei_ (w))], m)) rfl ?_
        refine pw_call (As := [.int (ei_ (k))]) (st := [.int (ei_ (w))]) (k := 3) rfl rfl rfl rfl rfl (Nat.le_of_ble_eq_true rfl) ?_
        refine cw_home (p1) (by omega) (fun x8 g9 g10 => ?_)
        refine pw_steps 4 (s' := (4, [some (.ref 0), some (.int ((if (ei_ (w)) < (ei_ (x8)) then ei_ (x8) else ei_ (w)))), some (.int ((ei_ (k)) + (ei_ (1))))], [], m)) rfl ?_
        refine pw_cv (congrArg (fun z_ : Int32 => ((4, [some (.ref 0), some (.int z_), some (.int ((ei_ (k)) + (ei_ (1))))], [], m) : am_S)) (ei_max (by omega) (by omega) rfl rfl)) ?_
        refine pw_cv (congrArg (fun z_ : Int32 => ((4, [some (.ref 0), some (.int (ei_ ((max w x8)))), some (.int z_)], [], m) : am_S)) (ei_add rfl rfl)) ?_
        exact ih2 _ (by omega) (max w x8) (k + 1) rfl (by omega) (by omega) (by rw [mx_s (by omega), ← hv]; omega)
  exact L3 _ 0 0 rfl (by omega) (by omega) (by rfl)

set_option maxHeartbeats 4000000 in
set_option maxRecDepth 20000 in
theorem mw_minutes {q : am_X} {d : Nat} {m : am_M} {Q : Option Value → am_M → Prop} {m0 : am_M}  (p0 : rP_ m0) (p1 : sm_ pSc m0 m) (k0 : ∀ (x : Int), (x = mx_ (mh_ (vi_ m0 52)) (vi_ m0 1 1).toNat) → (0 ≤ x ∧ x ≤ 8) → Q (some (.int (ei_ (x)))) m) : pw_C q (d + 4) 224 [.ref 47] m Q := by
  obtain ⟨hP1, hP2, hP3, hP4⟩ := id p0
  refine pw_intro (I := iX9_thawMinutes) (T := tX9_thawMinutes) rfl rfl rfl ?_
  refine pw_steps 4 (s' := (4, [some (.ref 47), some (.int (ei_ (0))), some (.int (ei_ (0)))], [], m)) rfl ?_
  have L3 : ∀ (n1 : Nat) (w : Int) (k : Int), (vi_ m0 1 1 - k).toNat = n1 → (0 ≤ k ∧ k ≤ vi_ m0 1 1) → (0 ≤ w ∧ w ≤ 8) → (w = mx_ (mh_ (vi_ m0 52)) k.toNat) → pw_V q (d + 3) iX9_thawMinutes.2.2.2.1 tX9_thawMinutes Q (4, [some (.ref 47), some (.int (ei_ (w))), some (.int (ei_ (k)))], [], m) := by
    intro n1
    induction n1 using Nat.strongRecOn with
    | _ n1 ih2 =>
      intro w k hm_n1 v4 v5 hv
      refine pw_steps 2 (s' := (6, [some (.ref 47), some (.int (ei_ (w))), some (.int (ei_ (k)))], [.ref 47, .int (ei_ (k))], m)) rfl ?_
      refine pw_get rfl rfl (fun x6 (hx6 : x6 = vi_ m 47 6) rx6 sx6 => ?_)
      have ox6 := hx6
      replace hx6 : x6 = vi_ m0 47 6 := hx6.trans (sm_v p1 rfl)
      refine pw_cmp rfl (by omega) ⟨rx6, sx6⟩ (fun (h7 : x6 ≤ k) => ?_) (fun (h7 : ¬ (x6 ≤ k)) => ?_)
      · refine pw_steps 1 (s' := (38, [some (.ref 47), some (.int (ei_ (w))), some (.int (ei_ (k)))], [.int (ei_ (w))], m)) rfl ?_
        refine pw_iret rfl rfl rfl ?_
        exact k0 w (by rw [← show k = vi_ m0 1 1 by omega]; exact hv) (by omega)
      · refine pw_steps 2 (s' := (14, [some (.ref 47), some (.int (ei_ (w))), some (.int (ei_ (k)))], [.int (ei_ (k)), .ref 47], m)) rfl ?_
        refine pw_call (As := [.int (ei_ (k))]) (st := []) (k := 47) rfl rfl rfl rfl rfl (Nat.le_of_ble_eq_true rfl) ?_
        refine mw_home (p1) (by omega) (fun x8 g9 g10 => ?_)
        refine pw_steps 1 (s' := (18, [some (.ref 47), some (.int (ei_ (w))), some (.int (ei_ (k)))], [.int (ei_ (w)), .int (ei_ (x8))], m)) rfl ?_
        refine pw_cmp rfl (by omega) (by omega) (fun (h11 : x8 ≤ w) => ?_) (fun (h11 : ¬ (x8 ≤ w)) => ?_)
        · refine pw_steps 4 (s' := (4, [some (.ref 47), some (.int (ei_ (w))), some (.int ((ei_ (k)) + (ei_ (1))))], [], m)) rfl ?_
          refine pw_cv (congrArg (fun z_ : Int32 => ((4, [some (.ref 47), some (.int (ei_ (w))), some (.int z_)], [], m) : am_S)) (ei_add rfl rfl)) ?_
          exact ih2 _ (by omega) w (k + 1) rfl (by omega) (by omega) (by rw [mx_s (by omega), ← hv]; omega)
        · refine pw_steps 2 (s' := (23, [some (.ref 47), some (.int (ei_ (w))), some (.int (ei_ (k)))], [.int (ei_ (k)), .ref 47], m)) rfl ?_
          refine pw_call (As := [.int (ei_ (k))]) (st := []) (k := 47) rfl rfl rfl rfl rfl (Nat.le_of_ble_eq_true rfl) ?_
          refine mw_home (p1) (by omega) (fun x12 g13 g14 => ?_)
          refine pw_steps 4 (s' := (4, [some (.ref 47), some (.int (ei_ (x12))), some (.int ((ei_ (k)) + (ei_ (1))))], [], m)) rfl ?_
          refine pw_cv (congrArg (fun z_ : Int32 => ((4, [some (.ref 47), some (.int (ei_ (x12))), some (.int z_)], [], m) : am_S)) (ei_add rfl rfl)) ?_
          exact ih2 _ (by omega) x12 (k + 1) rfl (by omega) (by omega) (by rw [mx_s (by omega), ← hv]; omega)
  exact L3 _ 0 0 rfl (by omega) (by omega) (by rfl)

