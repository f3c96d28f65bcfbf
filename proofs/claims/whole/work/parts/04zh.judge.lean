
/-! ===== judge ===== -/
theorem pSc_sf {a : Int} (h : 0 ≤ a ∧ a < 6) (j : Nat) : pSc (sf_ a) j = false := by
  rcases sf_six h with h | h | h | h | h | h <;> subst h <;> rfl
/-- the first of the threes that is not so -/
def ff_ (ok : Int → Prop) (n x : Int) : Prop := (0 ≤ x ∧ 3 * x < n ∧ ¬ ok (3 * x) ∧ ∀ j, 0 ≤ j → j < x → ok (3 * j)) ∨ (x = -2 ∧ ∀ j, 0 ≤ j → 3 * j < n → ok (3 * j))
theorem ff_u {o1 o2 : Int → Prop} {n x y : Int} (h : ∀ p, 0 ≤ p → p < n → (o1 p ↔ o2 p)) (hx : ff_ o1 n x) (hy : ff_ o2 n y) : y = x := by
  rcases hx with ⟨a1, a2, a3, a4⟩ | ⟨a1, a2⟩ <;> rcases hy with ⟨b1, b2, b3, b4⟩ | ⟨b1, b2⟩
  · by_cases c : x < y
    · exact absurd ((h (3 * x) (by omega) a2).2 (b4 x a1 c)) a3
    · by_cases c2 : y < x
      · exact absurd ((h (3 * y) (by omega) b2).1 (a4 y b1 c2)) b3
      · omega
  · exact absurd ((h (3 * x) (by omega) a2).2 (b2 x a1 a2)) a3
  · exact absurd ((h (3 * y) (by omega) b2).1 (a2 y b1 b2)) b3
  · omega
theorem al_s {ok : Int → Prop} {k : Int} (hk : 0 ≤ k) (h : ∀ j, 0 ≤ j → j < k → ok (3 * j)) {p : Int} (e : p = 3 * k) (g : ok p) : ∀ j, 0 ≤ j → j < k + 1 → ok (3 * j) := by
  intro j a b
  by_cases c : j = k
  · rw [c, ← e]; exact g
  · exact h j a (by omega)
/-- by the class's rows, by the model's -/
def ok3_ (m : am_M) (a p : Int) : Prop := p + 3 ≤ vi_ m (sf_ a) 2 ∧ (0 ≤ vl_ m (sf_ a + 1) p ∧ vl_ m (sf_ a + 1) p ≤ 99) ∧ (0 ≤ vl_ m (sf_ a + 1) (p + 1) ∧ vl_ m (sf_ a + 1) (p + 1) < vi_ m 1 1)
def so3_ (m : am_M) (a p w r : Int) : Prop := vl_ m (sf_ a + 1) (p + 2) = w ∧ lf_ (vi_ m 5 (vl_ m (sf_ a + 1) (p + 1))) r (vl_ m (sf_ a + 1) p) ≠ 0
def ok_ (m : am_M) (a p : Int) : Prop := ok3_ m a p ∧ so3_ m a p (vi_ m 4 (vl_ m (sf_ a + 1) (p + 1))) (rn_ m (vl_ m (sf_ a + 1) (p + 1)))
def mo_ (m : am_M) (a p : Int) : Prop := p + 2 < vi_ m 69 a ∧ (0 ≤ vl_ m 70 (60 * a + p) ∧ vl_ m 70 (60 * a + p) ≤ 99) ∧ (0 ≤ vl_ m 70 (60 * a + p + 1) ∧ vl_ m 70 (60 * a + p + 1) < vi_ m 1 1) ∧ vl_ m 70 (60 * a + p + 2) = vi_ m 52 (vl_ m 70 (60 * a + p + 1)) ∧ lf_ (vi_ m 53 (vl_ m 70 (60 * a + p + 1))) (bn_ m (vl_ m 70 (60 * a + p + 1)) (vi_ m 2 32)) (vl_ m 70 (60 * a + p)) ≠ 0
theorem ok_mo {m : am_M} (hp : rP_ m) (hd : rD_ m) (hs : rS_ m) {a p : Int} (h1 : 0 ≤ a) (h2 : a < 6) (k : vi_ m (sf_ a) 0 = 0) (g : 0 ≤ p) : ok_ m a p ↔ mo_ m a p := by
  obtain ⟨t1, t2, t3⟩ := hs a h1 h2
  have t4 : ∀ j, 0 ≤ j → j < vi_ m (sf_ a) 2 → vl_ m 70 (60 * a + j) = vl_ m (sf_ a + 1) j := by
    intro j j1 j2
    rcases t3 with t3 | t3 | t3
    · omega
    · omega
    · exact (t3.2.2.2 j j1 j2).1
  unfold ok_ ok3_ so3_ mo_
  by_cases c : p + 3 ≤ vi_ m (sf_ a) 2
  · rw [show 60 * a + p + 1 = 60 * a + (p + 1) by omega, show 60 * a + p + 2 = 60 * a + (p + 2) by omega, t4 p g (by omega), t4 (p + 1) (by omega) (by omega), t4 (p + 2) (by omega) (by omega)]
    by_cases c2 : 0 ≤ vl_ m (sf_ a + 1) (p + 1) ∧ vl_ m (sf_ a + 1) (p + 1) < vi_ m 1 1
    · rw [lf_mc hp hd c2, (hd.2.2.1 _ c2.1 c2.2).1]
      constructor
      · rintro ⟨⟨a1, a2, a3⟩, a4, a5⟩; exact ⟨by omega, a2, a3, a4, a5⟩
      · rintro ⟨a1, a2, a3, a4, a5⟩; exact ⟨⟨by omega, a2, a3⟩, a4, a5⟩
    · constructor
      · rintro ⟨⟨a1, a2, a3⟩, a4, a5⟩; exact absurd a3 c2
      · rintro ⟨a1, a2, a3, a4, a5⟩; exact absurd a3 c2
  · constructor
    · rintro ⟨⟨a1, a2, a3⟩, a4, a5⟩; exact absurd a1 c
    · rintro ⟨a1, a2, a3, a4, a5⟩; exact absurd (by omega) c
def js_ (m : am_M) (a x : Int) : Prop := (¬ (0 ≤ a ∧ a < 6) ∧ x = -1) ∨ ((0 ≤ a ∧ a < 6) ∧ vi_ m (sf_ a) 0 = -1 ∧ x = -11) ∨ ((0 ≤ a ∧ a < 6) ∧ vi_ m (sf_ a) 0 ≠ -1 ∧ vi_ m (sf_ a) 0 ≠ 0 ∧ x = -12) ∨ ((0 ≤ a ∧ a < 6) ∧ vi_ m (sf_ a) 0 = 0 ∧ ff_ (ok_ m a) (vi_ m (sf_ a) 2) x)
def jm_ (m : am_M) (a x : Int) : Prop := (¬ (0 ≤ a ∧ a < 6) ∧ x = -1) ∨ ((0 ≤ a ∧ a < 6) ∧ vi_ m 68 a < 0 ∧ x = -11) ∨ ((0 ≤ a ∧ a < 6) ∧ 0 ≤ vi_ m 68 a ∧ vi_ m 68 a ≠ 50 ∧ x = -12) ∨ ((0 ≤ a ∧ a < 6) ∧ vi_ m 68 a = 50 ∧ ff_ (mo_ m a) (vi_ m 69 a) x)
theorem js_jm {m : am_M} (hp : rP_ m) (hd : rD_ m) (hs : rS_ m) (ha : vi_ m 29 2 ≤ 50) {a x y : Int} (h : js_ m a x) (g : jm_ m a y) : y = x := by
  by_cases c : 0 ≤ a ∧ a < 6
  · obtain ⟨t1, t2, t3⟩ := hs a c.1 c.2
    have t4 : (vi_ m (sf_ a) 0 = -1 ∧ vi_ m 68 a = -1) ∨ (vi_ m (sf_ a) 0 = -2 ∧ 0 ≤ vi_ m 68 a ∧ vi_ m 68 a < 50) ∨ (0 ≤ vi_ m (sf_ a) 0 ∧ vi_ m 68 a = 50 + vi_ m (sf_ a) 0) := by
      rcases t3 with t3 | t3 | t3
      · exact Or.inl ⟨t3.1, t3.2.1⟩
      · exact Or.inr (Or.inl ⟨t3.1, by omega, by omega⟩)
      · exact Or.inr (Or.inr ⟨t3.1, t3.2.2.1⟩)
    rcases h with h | h | h | ⟨h0, h1, h2⟩
    · exact absurd c h.1
    · rcases g with g | g | g | g <;> omega
    · rcases g with g | g | g | g <;> omega
    · rcases g with g | g | g | ⟨g0, g1, g2⟩
      · omega
      · omega
      · omega
      · rw [t1] at g2
        exact ff_u (fun p p1 _ => ok_mo hp hd hs c.1 c.2 h1 p1) h2 g2
  · rcases h with h | h | h | h
    · rcases g with g | g | g | g
      · omega
      · exact absurd g.1 c
      · exact absurd g.1 c
      · exact absurd g.1 c
    · exact absurd h.1 c
    · exact absurd h.1 c
    · exact absurd h.1 c
def sb_ (m : am_M) (a : Int) : Prop := (0 ≤ a ∧ a < 6) ∧ (0 ≤ vi_ m 69 a ∧ vi_ m 69 a ≤ 60) ∧ ∀ j, 60 * a ≤ j → j < 60 * a + vi_ m 69 a → -128 ≤ vl_ m 70 j ∧ vl_ m 70 j ≤ 127
theorem sb_of {m : am_M} (hs : rS_ m) (ha : vi_ m 29 2 ≤ 50) {a : Int} (h : 0 ≤ a ∧ a < 6) (g : vi_ m 68 a = 50) : sb_ m a := by
  obtain ⟨t1, t2, t3⟩ := hs a h.1 h.2
  refine ⟨h, by omega, fun j j1 j2 => ?_⟩
  rcases t3 with t3 | t3 | t3
  · omega
  · omega
  · have t := t3.2.2.2 (j - 60 * a) (by omega) (by omega)
    rw [show 60 * a + (j - 60 * a) = j by omega] at t
    rw [t.1]; exact t.2 (by omega)

set_option maxHeartbeats 4000000 in
set_option maxRecDepth 20000 in
theorem cs_judge {q : am_X} {d : Nat} {m : am_M} {Q : Option Value → am_M → Prop} {m0 : am_M} {a : Int}  (p0 : rP_ m0) (p1 : rD_ m0) (p2 : rZ_ m0) (p3 : rS_ m0) (p4 : sm_ pSc m0 m) (p5 : -2147483648 ≤ a ∧ a < 2147483648) (k0 : ∀ (x : Int) (m1 : am_M), (js_ m0 a x) → (sm_ pSc m0 m1) → Q (some (.int (ei_ (x)))) m1) : pw_C q (d + 60) 101 [.ref 0, .int (ei_ (a))] m Q := by
  obtain ⟨hP1, hP2, hP3, hP4⟩ := id p0
  have hmw := mW_of p0 p1
  have hmf := mF_of p0 p1
  refine pw_intro (I := iX8_judge) (T := tX8_judge) rfl rfl rfl ?_
  refine pw_steps 2 (s' := (2, [some (.ref 0), some (.int (ei_ (a))), none, none, none, none], [.int (ei_ (a)), .ref 0], m)) rfl ?_
  refine pw_call (As := [.int (ei_ (a))]) (st := []) (k := 0) rfl rfl rfl rfl rfl (Nat.le_of_ble_eq_true rfl) ?_
  refine pw_intro (I := iX8_refusalOfBytes) (T := tX8_refusalOfBytes) rfl rfl rfl ?_
  refine pw_steps 1 (s' := (1, [some (.ref 0), some (.int (ei_ (a)))], [.int (ei_ (a))], m)) rfl ?_
  refine pw_callS (As := [.int (ei_ (a))]) (st := []) rfl (by decide) rfl rfl (Nat.le_of_ble_eq_true rfl) ?_
  refine pw_intro (I := iX8_isShelf) (T := tX8_isShelf) rfl rfl rfl ?_
  refine pw_steps 1 (s' := (1, [some (.int (ei_ (a)))], [.int (ei_ (a))], m)) rfl ?_
  refine pw_if rfl p5 (fun (h1 : a < 0) => ?_) (fun (h1 : ¬ (a < 0)) => ?_)
  · refine pw_steps 1 (s' := (15, [some (.int (ei_ (a)))], [.int (ei_ (0))], m)) rfl ?_
    refine pw_iret rfl rfl rfl ?_
    refine pw_ifF rfl (by decide) (show ¬ (¬ 0 = 0) by decide) ?_
    refine pw_steps 1 (s' := (8, [some (.ref 0), some (.int (ei_ (a)))], [.int (ei_ ((-1)))], m)) rfl ?_
    refine pw_iret rfl rfl rfl ?_
    refine pw_steps 2 (s' := (7, [some (.ref 0), some (.int (ei_ (a))), some (.int (ei_ ((-1)))), none, none, none], [.int (ei_ ((-1)))], m)) rfl ?_
    refine pw_ifF rfl (by decide) (show ¬ ((-1) = 0) by decide) ?_
    refine pw_steps 1 (s' := (11, [some (.ref 0), some (.int (ei_ (a))), some (.int (ei_ ((-1)))), none, none, none], [.int (ei_ ((-1)))], m)) rfl ?_
    refine pw_iret rfl rfl rfl ?_
    exact k0 (-1) m (by exact Or.inl ⟨by omega, rfl⟩) (p4)
  · refine pw_steps 2 (s' := (7, [some (.int (ei_ (a)))], [.int (ei_ (6)), .int (ei_ (a))], m)) rfl ?_
    refine pw_cmp rfl p5 (by decide) (fun (h2 : 6 ≤ a) => ?_) (fun (h2 : ¬ (6 ≤ a)) => ?_)
    · refine pw_steps 1 (s' := (15, [some (.int (ei_ (a)))], [.int (ei_ (0))], m)) rfl ?_
      refine pw_iret rfl rfl rfl ?_
      refine pw_ifF rfl (by decide) (show ¬ (¬ 0 = 0) by decide) ?_
      refine pw_steps 1 (s' := (8, [some (.ref 0), some (.int (ei_ (a)))], [.int (ei_ ((-1)))], m)) rfl ?_
      refine pw_iret rfl rfl rfl ?_
      refine pw_steps 2 (s' := (7, [some (.ref 0), some (.int (ei_ (a))), some (.int (ei_ ((-1)))), none, none, none], [.int (ei_ ((-1)))], m)) rfl ?_
      refine pw_ifF rfl (by decide) (show ¬ ((-1) = 0) by decide) ?_
      refine pw_steps 1 (s' := (11, [some (.ref 0), some (.int (ei_ (a))), some (.int (ei_ ((-1)))), none, none, none], [.int (ei_ ((-1)))], m)) rfl ?_
      refine pw_iret rfl rfl rfl ?_
      exact k0 (-1) m (by exact Or.inl ⟨by omega, rfl⟩) (p4)
    · refine pw_steps 2 (s' := (15, [some (.int (ei_ (a)))], [.int (ei_ (1))], m)) rfl ?_
      refine pw_iret rfl rfl rfl ?_
      refine pw_ifT rfl (by decide) (show ¬ 1 = 0 by decide) ?_
      refine pw_steps 3 (s' := (14, [some (.ref 0), some (.int (ei_ (a)))], [.int (ei_ (a)), .ref 32], m)) rfl ?_
      refine pw_ald (r0 := (sf_ a)) rfl rfl (sf_ln (by omega)) (sf_al (by omega)) ?_
      obtain ⟨hk3, hk4, hk5⟩ := p3 a (by omega) (by omega)
      rcases hk5 with ⟨hb61, hb62, hb63⟩ | ⟨hb61, hb62, hb63, hb64, hb65⟩ | ⟨hb61, hb62, hb63, hb64⟩
      · refine pw_call (As := []) (st := []) (k := (sf_ a)) rfl rfl rfl (sf_sk (by omega)) rfl (Nat.le_of_ble_eq_true rfl) ?_
        refine pw_intro (I := iX5_isEmpty) (T := tX5_isEmpty) rfl rfl rfl ?_
        refine pw_steps 1 (s' := (1, [some (.ref ((sf_ a)))], [.ref ((sf_ a))], m)) rfl ?_
        refine pw_get rfl (sf_ok (a := a) (by omega)).1 (fun x7 (hx7 : x7 = vi_ m (sf_ a) 0) rx7 sx7 => ?_)
        have ox7 := hx7
        replace hx7 : x7 = vi_ m0 (sf_ a) 0 := hx7.trans (sm_v p4 (pSc_sf (by omega) _))
        refine pw_steps 1 (s' := (5, [some (.ref ((sf_ a)))], [.int (ei_ ((-1))), .int (ei_ (x7))], m)) rfl ?_
        refine pw_cmpF rfl ⟨rx7, sx7⟩ (by decide) (show ¬ (¬ x7 = (-1)) by omega) ?_
        refine pw_steps 2 (s' := (13, [some (.ref ((sf_ a)))], [.int (ei_ (1))], m)) rfl ?_
        refine pw_iret rfl rfl rfl ?_
        refine pw_ifF rfl (by decide) (show ¬ (1 = 0) by decide) ?_
        refine pw_steps 1 (s' := (23, [some (.ref 0), some (.int (ei_ (a)))], [.int (ei_ ((-11)))], m)) rfl ?_
        refine pw_iret rfl rfl rfl ?_
        refine pw_steps 2 (s' := (7, [some (.ref 0), some (.int (ei_ (a))), some (.int (ei_ ((-11)))), none, none, none], [.int (ei_ ((-11)))], m)) rfl ?_
        refine pw_ifF rfl (by decide) (show ¬ ((-11) = 0) by decide) ?_
        refine pw_steps 1 (s' := (11, [some (.ref 0), some (.int (ei_ (a))), some (.int (ei_ ((-11)))), none, none, none], [.int (ei_ ((-11)))], m)) rfl ?_
        refine pw_iret rfl rfl rfl ?_
        exact k0 (-11) m (by exact Or.inr (Or.inl ⟨by omega, by omega, rfl⟩)) (p4)
      · refine pw_call (As := []) (st := []) (k := (sf_ a)) rfl rfl rfl (sf_sk (by omega)) rfl (Nat.le_of_ble_eq_true rfl) ?_
        refine pw_intro (I := iX5_isEmpty) (T := tX5_isEmpty) rfl rfl rfl ?_
        refine pw_steps 1 (s' := (1, [some (.ref ((sf_ a)))], [.ref ((sf_ a))], m)) rfl ?_
        refine pw_get rfl (sf_ok (a := a) (by omega)).1 (fun x8 (hx8 : x8 = vi_ m (sf_ a) 0) rx8 sx8 => ?_)
        have ox8 := hx8
        replace hx8 : x8 = vi_ m0 (sf_ a) 0 := hx8.trans (sm_v p4 (pSc_sf (by omega) _))
        refine pw_steps 1 (s' := (5, [some (.ref ((sf_ a)))], [.int (ei_ ((-1))), .int (ei_ (x8))], m)) rfl ?_
        refine pw_cmpT rfl ⟨rx8, sx8⟩ (by decide) (show ¬ x8 = (-1) by omega) ?_
        refine pw_steps 1 (s' := (13, [some (.ref ((sf_ a)))], [.int (ei_ (0))], m)) rfl ?_
        refine pw_iret rfl rfl rfl ?_
        refine pw_ifT rfl (by decide) (show 0 = 0 by decide) ?_
        refine pw_steps 3 (s' := (29, [some (.ref 0), some (.int (ei_ (a)))], [.int (ei_ (a)), .ref 32], m)) rfl ?_
        refine pw_ald (r0 := (sf_ a)) rfl rfl (sf_ln (by omega)) (sf_al (by omega)) ?_
        refine pw_call (As := []) (st := []) (k := (sf_ a)) rfl rfl rfl (sf_sk (by omega)) rfl (Nat.le_of_ble_eq_true rfl) ?_
        refine pw_intro (I := iX5_isOfBytes) (T := tX5_isOfBytes) rfl rfl rfl ?_
        refine pw_steps 1 (s' := (1, [some (.ref ((sf_ a)))], [.ref ((sf_ a))], m)) rfl ?_
        refine pw_getE (x := x8) rfl (sf_ok (a := a) (by omega)).1 ox8 ?_
        refine pw_ifT rfl ⟨rx8, sx8⟩ (show ¬ x8 = 0 by omega) ?_
        refine pw_steps 1 (s' := (12, [some (.ref ((sf_ a)))], [.int (ei_ (0))], m)) rfl ?_
        refine pw_iret rfl rfl rfl ?_
        refine pw_ifT rfl (by decide) (show 0 = 0 by decide) ?_
        refine pw_steps 1 (s' := (42, [some (.ref 0), some (.int (ei_ (a)))], [.int (ei_ ((-12)))], m)) rfl ?_
        refine pw_iret rfl rfl rfl ?_
        refine pw_steps 2 (s' := (7, [some (.ref 0), some (.int (ei_ (a))), some (.int (ei_ ((-12)))), none, none, none], [.int (ei_ ((-12)))], m)) rfl ?_
        refine pw_ifF rfl (by decide) (show ¬ ((-12) = 0) by decide) ?_
        refine pw_steps 1 (s' := (11, [some (.ref 0), some (.int (ei_ (a))), some (.int (ei_ ((-12)))), none, none, none], [.int (ei_ ((-12)))], m)) rfl ?_
        refine pw_iret rfl rfl rfl ?_
        exact k0 (-12) m (by exact Or.inr (Or.inr (Or.inl ⟨by omega, by omega, by omega, rfl⟩))) (p4)
      · refine pw_call (As := []) (st := []) (k := (sf_ a)) rfl rfl rfl (sf_sk (by omega)) rfl (Nat.le_of_ble_eq_true rfl) ?_
        refine pw_intro (I := iX5_isEmpty) (T := tX5_isEmpty) rfl rfl rfl ?_
        refine pw_steps 1 (s' := (1, [some (.ref ((sf_ a)))], [.ref ((sf_ a))], m)) rfl ?_
        refine pw_get rfl (sf_ok (a := a) (by omega)).1 (fun x9 (hx9 : x9 = vi_ m (sf_ a) 0) rx9 sx9 => ?_)
        have ox9 := hx9
        replace hx9 : x9 = vi_ m0 (sf_ a) 0 := hx9.trans (sm_v p4 (pSc_sf (by omega) _))
        refine pw_steps 1 (s' := (5, [some (.ref ((sf_ a)))], [.int (ei_ ((-1))), .int (ei_ (x9))], m)) rfl ?_
        refine pw_cmpT rfl ⟨rx9, sx9⟩ (by decide) (show ¬ x9 = (-1) by omega) ?_
        refine pw_steps 1 (s' := (13, [some (.ref ((sf_ a)))], [.int (ei_ (0))], m)) rfl ?_
        refine pw_iret rfl rfl rfl ?_
        refine pw_ifT rfl (by decide) (show 0 = 0 by decide) ?_
        refine pw_steps 3 (s' := (29, [some (.ref 0), some (.int (ei_ (a)))], [.int (ei_ (a)), .ref 32], m)) rfl ?_
        refine pw_ald (r0 := (sf_ a)) rfl rfl (sf_ln (by omega)) (sf_al (by omega)) ?_
        refine pw_call (As := []) (st := []) (k := (sf_ a)) rfl rfl rfl (sf_sk (by omega)) rfl (Nat.le_of_ble_eq_true rfl) ?_
        refine pw_intro (I := iX5_isOfBytes) (T := tX5_isOfBytes) rfl rfl rfl ?_
        refine pw_steps 1 (s' := (1, [some (.ref ((sf_ a)))], [.ref ((sf_ a))], m)) rfl ?_
        refine pw_getE (x := x9) rfl (sf_ok (a := a) (by omega)).1 ox9 ?_
        refine pw_if rfl ⟨rx9, sx9⟩ (fun (h10 : ¬ x9 = 0) => ?_) (fun (h10 : ¬ ¬ x9 = 0) => ?_)
        · refine pw_steps 1 (s' := (12, [some (.ref ((sf_ a)))], [.int (ei_ (0))], m)) rfl ?_
          refine pw_iret rfl rfl rfl ?_
          refine pw_ifT rfl (by decide) (show 0 = 0 by decide) ?_
          refine pw_steps 1 (s' := (42, [some (.ref 0), some (.int (ei_ (a)))], [.int (ei_ ((-12)))], m)) rfl ?_
          refine pw_iret rfl rfl rfl ?_
          refine pw_steps 2 (s' := (7, [some (.ref 0), some (.int (ei_ (a))), some (.int (ei_ ((-12)))), none, none, none], [.int (ei_ ((-12)))], m)) rfl ?_
          refine pw_ifF rfl (by decide) (show ¬ ((-12) = 0) by decide) ?_
          refine pw_steps 1 (s' := (11, [some (.ref 0), some (.int (ei_ (a))), some (.int (ei_ ((-12)))), none, none, none], [.int (ei_ ((-12)))], m)) rfl ?_
          refine pw_iret rfl rfl rfl ?_
          exact k0 (-12) m (by exact Or.inr (Or.inr (Or.inl ⟨by omega, by omega, by omega, rfl⟩))) (p4)
        · refine pw_steps 2 (s' := (12, [some (.ref ((sf_ a)))], [.int (ei_ (1))], m)) rfl ?_
          refine pw_iret rfl rfl rfl ?_
          refine pw_ifF rfl (by decide) (show ¬ (1 = 0) by decide) ?_
          refine pw_steps 2 (s' := (42, [some (.ref 0), some (.int (ei_ (a)))], [.int (ei_ (0))], m)) rfl ?_
          refine pw_iret rfl rfl rfl ?_
          refine pw_steps 2 (s' := (7, [some (.ref 0), some (.int (ei_ (a))), some (.int (ei_ (0))), none, none, none], [.int (ei_ (0))], m)) rfl ?_
          refine pw_ifT rfl (by decide) (show 0 = 0 by decide) ?_
          refine pw_steps 3 (s' := (17, [some (.ref 0), some (.int (ei_ (a))), some (.int (ei_ (0))), none, none, none], [.int (ei_ (a)), .ref 32], m)) rfl ?_
          refine pw_ald (r0 := (sf_ a)) rfl rfl (sf_ln (by omega)) (sf_al (by omega)) ?_
          refine pw_steps 3 (s' := (22, [some (.ref 0), some (.int (ei_ (a))), some (.int (ei_ (0))), some (.ref ((sf_ a))), some (.int (ei_ (0))), none], [], m)) rfl ?_
          have L14 : ∀ (n12 : Nat) (p : Int) (u11 : Option Value) (m1 : am_M) (k : Int), (vi_ m0 (sf_ a) 2 - p).toNat = n12 → (0 ≤ k ∧ p = 3 * k ∧ p ≤ vi_ m0 (sf_ a) 2 + 2) → (p = 3 * k) → (sm_ pSc m0 m1) → (∀ j, 0 ≤ j → j < k → ok_ m0 a (3 * j)) → pw_V q (d + 59) iX8_judge.2.2.2.1 tX8_judge Q (22, [some (.ref 0), some (.int (ei_ (a))), some (.int (ei_ (0))), some (.ref ((sf_ a))), some (.int (ei_ (p))), u11], [], m1) := by
            intro n12
            induction n12 using Nat.strongRecOn with
            | _ n12 ih13 =>
              intro p u11 m1 k hm_n12 hpp hpk hs hv
              refine pw_steps 2 (s' := (25, [some (.ref 0), some (.int (ei_ (a))), some (.int (ei_ (0))), some (.ref ((sf_ a))), some (.int (ei_ (p))), u11], [.ref ((sf_ a)), .int (ei_ (p))], m1)) rfl ?_
              refine pw_call (As := []) (st := [.int (ei_ (p))]) (k := (sf_ a)) rfl rfl rfl (sf_sk (by omega)) rfl (Nat.le_of_ble_eq_true rfl) ?_
              refine pw_intro (I := iX5_size) (T := tX5_size) rfl rfl rfl ?_
              refine pw_steps 1 (s' := (1, [some (.ref ((sf_ a)))], [.ref ((sf_ a))], m1)) rfl ?_
              refine pw_get rfl (sf_ok (a := a) (by omega)).2.2.1 (fun x15 (hx15 : x15 = vi_ m1 (sf_ a) 2) rx15 sx15 => ?_)
              have ox15 := hx15
              replace hx15 : x15 = vi_ m0 (sf_ a) 2 := hx15.trans (sm_v hs (pSc_sf (by omega) _))
              refine pw_iret rfl rfl rfl ?_
              refine pw_cmp rfl (by omega) ⟨rx15, sx15⟩ (fun (h16 : x15 ≤ p) => ?_) (fun (h16 : ¬ (x15 ≤ p)) => ?_)
              · refine pw_steps 1 (s' := (89, [some (.ref 0), some (.int (ei_ (a))), some (.int (ei_ (0))), some (.ref ((sf_ a))), some (.int (ei_ (p))), u11], [.int (ei_ ((-2)))], m1)) rfl ?_
                refine pw_iret rfl rfl rfl ?_
                exact k0 (-2) m1 (by exact Or.inr (Or.inr (Or.inr ⟨by omega, by omega, Or.inr ⟨rfl, fun j a_ b_ => hv j a_ (by omega)⟩⟩))) (hs)
              · refine pw_steps 4 (s' := (36, [some (.ref 0), some (.int (ei_ (a))), some (.int (ei_ (0))), some (.ref ((sf_ a))), some (.int (ei_ (p))), u11], [.int ((ei_ (p)) + (ei_ (1))), .ref ((sf_ a))], m1)) rfl ?_
                refine pw_cv (congrArg (fun z_ : Int32 => ((36, [some (.ref 0), some (.int (ei_ (a))), some (.int (ei_ (0))), some (.ref ((sf_ a))), some (.int (ei_ (p))), u11], [.int z_, .ref ((sf_ a))], m1) : am_S)) (ei_add rfl rfl)) ?_
                refine pw_call (As := [.int (ei_ ((p + 1)))]) (st := []) (k := (sf_ a)) rfl rfl rfl (sf_sk (by omega)) rfl (Nat.le_of_ble_eq_true rfl) ?_
                refine pw_intro (I := iX5_number) (T := tX5_number) rfl rfl rfl ?_
                refine pw_steps 3 (s' := (3, [some (.ref ((sf_ a))), some (.int (ei_ ((p + 1))))], [.int (ei_ (1)), .int (ei_ ((p + 1))), .ref ((sf_ a))], m1)) rfl ?_
                refine pw_call (As := [.int (ei_ ((p + 1))), .int (ei_ (1))]) (st := []) (k := (sf_ a)) rfl rfl rfl (sf_sk (by omega)) rfl (Nat.le_of_ble_eq_true rfl) ?_
                refine pw_intro (I := iX5_hasPlaces) (T := tX5_hasPlaces) rfl rfl rfl ?_
                refine pw_steps 1 (s' := (1, [some (.ref ((sf_ a))), some (.int (ei_ ((p + 1)))), some (.int (ei_ (1)))], [.int (ei_ ((p + 1)))], m1)) rfl ?_
                refine pw_ifF rfl (by omega) (show ¬ ((p + 1) < 0) by omega) ?_
                refine pw_steps 1 (s' := (5, [some (.ref ((sf_ a))), some (.int (ei_ ((p + 1)))), some (.int (ei_ (1)))], [.int (ei_ (1))], m1)) rfl ?_
                refine pw_ifF rfl (by decide) (show ¬ (1 < 0) by decide) ?_
                refine pw_steps 2 (s' := (10, [some (.ref ((sf_ a))), some (.int (ei_ ((p + 1)))), some (.int (ei_ (1)))], [.ref ((sf_ a)), .int (ei_ (1))], m1)) rfl ?_
                refine pw_getE (x := x15) rfl (sf_ok (a := a) (by omega)).2.2.1 ox15 ?_
                refine pw_cmpF rfl (by decide) ⟨rx15, sx15⟩ (show ¬ (x15 < 1) by omega) ?_
                refine pw_steps 2 (s' := (18, [some (.ref ((sf_ a))), some (.int (ei_ ((p + 1)))), some (.int (ei_ (1)))], [.ref ((sf_ a)), .int (ei_ ((p + 1)))], m1)) rfl ?_
                refine pw_getE (x := x15) rfl (sf_ok (a := a) (by omega)).2.2.1 ox15 ?_
                refine pw_steps 2 (s' := (23, [some (.ref ((sf_ a))), some (.int (ei_ ((p + 1)))), some (.int (ei_ (1)))], [.int ((ei_ (x15)) - (ei_ (1))), .int (ei_ ((p + 1)))], m1)) rfl ?_
                refine pw_cv (congrArg (fun z_ : Int32 => ((23, [some (.ref ((sf_ a))), some (.int (ei_ ((p + 1)))), some (.int (ei_ (1)))], [.int z_, .int (ei_ ((p + 1)))], m1) : am_S)) (ei_sub rfl rfl)) ?_
                refine pw_cmp rfl (by omega) (by omega) (fun (h17 : (x15 - 1) < (p + 1)) => ?_) (fun (h17 : ¬ ((x15 - 1) < (p + 1))) => ?_)
                · refine pw_steps 1 (s' := (31, [some (.ref ((sf_ a))), some (.int (ei_ ((p + 1)))), some (.int (ei_ (1)))], [.int (ei_ (0))], m1)) rfl ?_
                  refine pw_iret rfl rfl rfl ?_
                  refine pw_ifT rfl (by decide) (show 0 = 0 by decide) ?_
                  refine pw_steps 1 (s' := (20, [some (.ref ((sf_ a))), some (.int (ei_ ((p + 1))))], [.int (ei_ (0))], m1)) rfl ?_
                  refine pw_iret rfl rfl rfl ?_
                  refine pw_steps 4 (s' := (45, [some (.ref 0), some (.int (ei_ (a))), some (.int (ei_ (0))), some (.ref ((sf_ a))), some (.int (ei_ (p))), some (.int (ei_ (0)))], [.int (ei_ (p)), .ref ((sf_ a)), .ref 0], m1)) rfl ?_
                  refine pw_call (As := [.ref ((sf_ a)), .int (ei_ (p))]) (st := []) (k := 0) rfl rfl rfl rfl rfl (Nat.le_of_ble_eq_true rfl) ?_
                  refine pw_intro (I := iX8_isThree) (T := tX8_isThree) rfl rfl rfl ?_
                  refine pw_steps 3 (s' := (3, [some (.ref 0), some (.ref ((sf_ a))), some (.int (ei_ (p)))], [.int (ei_ (3)), .int (ei_ (p)), .ref ((sf_ a))], m1)) rfl ?_
                  refine pw_call (As := [.int (ei_ (p)), .int (ei_ (3))]) (st := []) (k := (sf_ a)) rfl rfl rfl (sf_sk (by omega)) rfl (Nat.le_of_ble_eq_true rfl) ?_
                  refine pw_intro (I := iX5_hasPlaces) (T := tX5_hasPlaces) rfl rfl rfl ?_
                  refine pw_steps 1 (s' := (1, [some (.ref ((sf_ a))), some (.int (ei_ (p))), some (.int (ei_ (3)))], [.int (ei_ (p))], m1)) rfl ?_
                  refine pw_ifF rfl (by omega) (show ¬ (p < 0) by omega) ?_
                  refine pw_steps 1 (s' := (5, [some (.ref ((sf_ a))), some (.int (ei_ (p))), some (.int (ei_ (3)))], [.int (ei_ (3))], m1)) rfl ?_
                  refine pw_ifF rfl (by decide) (show ¬ (3 < 0) by decide) ?_
                  refine pw_steps 2 (s' := (10, [some (.ref ((sf_ a))), some (.int (ei_ (p))), some (.int (ei_ (3)))], [.ref ((sf_ a)), .int (ei_ (3))], m1)) rfl ?_
                  refine pw_getE (x := x15) rfl (sf_ok (a := a) (by omega)).2.2.1 ox15 ?_
                  refine pw_cmp rfl (by decide) ⟨rx15, sx15⟩ (fun (h18 : x15 < 3) => ?_) (fun (h18 : ¬ (x15 < 3)) => ?_)
                  · refine pw_steps 1 (s' := (31, [some (.ref ((sf_ a))), some (.int (ei_ (p))), some (.int (ei_ (3)))], [.int (ei_ (0))], m1)) rfl ?_
                    refine pw_iret rfl rfl rfl ?_
                    refine pw_ifT rfl (by decide) (show 0 = 0 by decide) ?_
                    refine pw_steps 1 (s' := (42, [some (.ref 0), some (.ref ((sf_ a))), some (.int (ei_ (p)))], [.int (ei_ (0))], m1)) rfl ?_
                    refine pw_iret rfl rfl rfl ?_
                    refine pw_ifT rfl (by decide) (show 0 = 0 by decide) ?_
                    refine pw_steps 2 (s' := (79, [some (.ref 0), some (.int (ei_ (a))), some (.int (ei_ (0))), some (.ref ((sf_ a))), some (.int (ei_ (p))), some (.int (ei_ (0)))], [.int (ei_ (3)), .int (ei_ (p))], m1)) rfl ?_
                    refine pw_divN rfl (by omega) (by omega) ?_
                    refine pw_iret rfl rfl rfl ?_
                    exact k0 (p / 3) m1 (by refine Or.inr (Or.inr (Or.inr ⟨by omega, by omega, Or.inl ⟨by omega, by omega, ?_, fun j a_ b_ => hv j a_ (by omega)⟩⟩)); rw [show 3 * (p / 3) = p by omega]; intro ⟨⟨e1_, e2_, e3_⟩, e4_, e5_⟩; omega) (hs)
                  · refine pw_steps 2 (s' := (18, [some (.ref ((sf_ a))), some (.int (ei_ (p))), some (.int (ei_ (3)))], [.ref ((sf_ a)), .int (ei_ (p))], m1)) rfl ?_
                    refine pw_getE (x := x15) rfl (sf_ok (a := a) (by omega)).2.2.1 ox15 ?_
                    refine pw_steps 2 (s' := (23, [some (.ref ((sf_ a))), some (.int (ei_ (p))), some (.int (ei_ (3)))], [.int ((ei_ (x15)) - (ei_ (3))), .int (ei_ (p))], m1)) rfl ?_
                    refine pw_cv (congrArg (fun z_ : Int32 => ((23, [some (.ref ((sf_ a))), some (.int (ei_ (p))), some (.int (ei_ (3)))], [.int z_, .int (ei_ (p))], m1) : am_S)) (ei_sub rfl rfl)) ?_
                    refine pw_cmpT rfl (by omega) (by omega) (show (x15 - 3) < p by omega) ?_
                    refine pw_steps 1 (s' := (31, [some (.ref ((sf_ a))), some (.int (ei_ (p))), some (.int (ei_ (3)))], [.int (ei_ (0))], m1)) rfl ?_
                    refine pw_iret rfl rfl rfl ?_
                    refine pw_ifT rfl (by decide) (show 0 = 0 by decide) ?_
                    refine pw_steps 1 (s' := (42, [some (.ref 0), some (.ref ((sf_ a))), some (.int (ei_ (p)))], [.int (ei_ (0))], m1)) rfl ?_
                    refine pw_iret rfl rfl rfl ?_
                    refine pw_ifT rfl (by decide) (show 0 = 0 by decide) ?_
                    refine pw_steps 2 (s' := (79, [some (.ref 0), some (.int (ei_ (a))), some (.int (ei_ (0))), some (.ref ((sf_ a))), some (.int (ei_ (p))), some (.int (ei_ (0)))], [.int (ei_ (3)), .int (ei_ (p))], m1)) rfl ?_
                    refine pw_divN rfl (by omega) (by omega) ?_
                    refine pw_iret rfl rfl rfl ?_
                    exact k0 (p / 3) m1 (by refine Or.inr (Or.inr (Or.inr ⟨by omega, by omega, Or.inl ⟨by omega, by omega, ?_, fun j a_ b_ => hv j a_ (by omega)⟩⟩)); rw [show 3 * (p / 3) = p by omega]; intro ⟨⟨e1_, e2_, e3_⟩, e4_, e5_⟩; omega) (hs)
                · refine pw_steps 2 (s' := (31, [some (.ref ((sf_ a))), some (.int (ei_ ((p + 1)))), some (.int (ei_ (1)))], [.int (ei_ (1))], m1)) rfl ?_
                  refine pw_iret rfl rfl rfl ?_
                  refine pw_ifF rfl (by decide) (show ¬ (1 = 0) by decide) ?_
                  refine pw_steps 1 (s' := (10, [some (.ref ((sf_ a))), some (.int (ei_ ((p + 1))))], [.ref ((sf_ a))], m1)) rfl ?_
                  refine pw_getR (r := (sf_ a) + 1) rfl (sf_ok (a := a) (by omega)).2.2.2.1 ?_
                  refine pw_steps 1 (s' := (14, [some (.ref ((sf_ a))), some (.int (ei_ ((p + 1))))], [.int (ei_ ((p + 1))), .ref ((sf_ a) + 1)], m1)) rfl ?_
                  refine pw_lld rfl (sf_ok (a := a) (by omega)).2.2.2.2 (by omega) (fun y19 (hy19 : y19 = vl_ m1 ((sf_ a) + 1) (p + 1)) ry19 sy19 => ?_)
                  replace hy19 : y19 = vl_ m0 ((sf_ a) + 1) (p + 1) := hy19.trans (congrFun (sm_l hs) _)
                  have b20 := (hb64 (p + 1) (by omega) (by omega)).2 (by omega)
                  refine pw_steps 2 (s' := (20, [some (.ref ((sf_ a))), some (.int (ei_ ((p + 1))))], [.int ((el_ (y19)).toInt32)], m1)) rfl ?_
                  refine pw_cv (congrArg (fun z_ : Int32 => ((20, [some (.ref ((sf_ a))), some (.int (ei_ ((p + 1))))], [.int z_], m1) : am_S)) (ei_l2i rfl)) ?_
                  refine pw_iret rfl rfl rfl ?_
                  refine pw_steps 4 (s' := (45, [some (.ref 0), some (.int (ei_ (a))), some (.int (ei_ (0))), some (.ref ((sf_ a))), some (.int (ei_ (p))), some (.int (ei_ (y19)))], [.int (ei_ (p)), .ref ((sf_ a)), .ref 0], m1)) rfl ?_
                  refine pw_call (As := [.ref ((sf_ a)), .int (ei_ (p))]) (st := []) (k := 0) rfl rfl rfl rfl rfl (Nat.le_of_ble_eq_true rfl) ?_
                  refine pw_intro (I := iX8_isThree) (T := tX8_isThree) rfl rfl rfl ?_
                  refine pw_steps 3 (s' := (3, [some (.ref 0), some (.ref ((sf_ a))), some (.int (ei_ (p)))], [.int (ei_ (3)), .int (ei_ (p)), .ref ((sf_ a))], m1)) rfl ?_
                  refine pw_call (As := [.int (ei_ (p)), .int (ei_ (3))]) (st := []) (k := (sf_ a)) rfl rfl rfl (sf_sk (by omega)) rfl (Nat.le_of_ble_eq_true rfl) ?_
                  refine pw_intro (I := iX5_hasPlaces) (T := tX5_hasPlaces) rfl rfl rfl ?_
                  refine pw_steps 1 (s' := (1, [some (.ref ((sf_ a))), some (.int (ei_ (p))), some (.int (ei_ (3)))], [.int (ei_ (p))], m1)) rfl ?_
                  refine pw_ifF rfl (by omega) (show ¬ (p < 0) by omega) ?_
                  refine pw_steps 1 (s' := (5, [some (.ref ((sf_ a))), some (.int (ei_ (p))), some (.int (ei_ (3)))], [.int (ei_ (3))], m1)) rfl ?_
                  refine pw_ifF rfl (by decide) (show ¬ (3 < 0) by decide) ?_
                  refine pw_steps 2 (s' := (10, [some (.ref ((sf_ a))), some (.int (ei_ (p))), some (.int (ei_ (3)))], [.ref ((sf_ a)), .int (ei_ (3))], m1)) rfl ?_
                  refine pw_getE (x := x15) rfl (sf_ok (a := a) (by omega)).2.2.1 ox15 ?_
                  refine pw_cmp rfl (by decide) ⟨rx15, sx15⟩ (fun (h21 : x15 < 3) => ?_) (fun (h21 : ¬ (x15 < 3)) => ?_)
                  · refine pw_steps 1 (s' := (31, [some (.ref ((sf_ a))), some (.int (ei_ (p))), some (.int (ei_ (3)))], [.int (ei_ (0))], m1)) rfl ?_
                    refine pw_iret rfl rfl rfl ?_
                    refine pw_ifT rfl (by decide) (show 0 = 0 by decide) ?_
                    refine pw_steps 1 (s' := (42, [some (.ref 0), some (.ref ((sf_ a))), some (.int (ei_ (p)))], [.int (ei_ (0))], m1)) rfl ?_
                    refine pw_iret rfl rfl rfl ?_
                    refine pw_ifT rfl (by decide) (show 0 = 0 by decide) ?_
                    refine pw_steps 2 (s' := (79, [some (.ref 0), some (.int (ei_ (a))), some (.int (ei_ (0))), some (.ref ((sf_ a))), some (.int (ei_ (p))), some (.int (ei_ (y19)))], [.int (ei_ (3)), .int (ei_ (p))], m1)) rfl ?_
                    refine pw_divN rfl (by omega) (by omega) ?_
                    refine pw_iret rfl rfl rfl ?_
                    exact k0 (p / 3) m1 (by refine Or.inr (Or.inr (Or.inr ⟨by omega, by omega, Or.inl ⟨by omega, by omega, ?_, fun j a_ b_ => hv j a_ (by omega)⟩⟩)); rw [show 3 * (p / 3) = p by omega]; subst hy19; intro ⟨⟨e1_, e2_, e3_⟩, e4_, e5_⟩; omega) (hs)
                  · refine pw_steps 2 (s' := (18, [some (.ref ((sf_ a))), some (.int (ei_ (p))), some (.int (ei_ (3)))], [.ref ((sf_ a)), .int (ei_ (p))], m1)) rfl ?_
                    refine pw_getE (x := x15) rfl (sf_ok (a := a) (by omega)).2.2.1 ox15 ?_
                    refine pw_steps 2 (s' := (23, [some (.ref ((sf_ a))), some (.int (ei_ (p))), some (.int (ei_ (3)))], [.int ((ei_ (x15)) - (ei_ (3))), .int (ei_ (p))], m1)) rfl ?_
                    refine pw_cv (congrArg (fun z_ : Int32 => ((23, [some (.ref ((sf_ a))), some (.int (ei_ (p))), some (.int (ei_ (3)))], [.int z_, .int (ei_ (p))], m1) : am_S)) (ei_sub rfl rfl)) ?_
                    refine pw_cmp rfl (by omega) (by omega) (fun (h22 : (x15 - 3) < p) => ?_) (fun (h22 : ¬ ((x15 - 3) < p)) => ?_)
                    · refine pw_steps 1 (s' := (31, [some (.ref ((sf_ a))), some (.int (ei_ (p))), some (.int (ei_ (3)))], [.int (ei_ (0))], m1)) rfl ?_
                      refine pw_iret rfl rfl rfl ?_
                      refine pw_ifT rfl (by decide) (show 0 = 0 by decide) ?_
                      refine pw_steps 1 (s' := (42, [some (.ref 0), some (.ref ((sf_ a))), some (.int (ei_ (p)))], [.int (ei_ (0))], m1)) rfl ?_
                      refine pw_iret rfl rfl rfl ?_
                      refine pw_ifT rfl (by decide) (show 0 = 0 by decide) ?_
                      refine pw_steps 2 (s' := (79, [some (.ref 0), some (.int (ei_ (a))), some (.int (ei_ (0))), some (.ref ((sf_ a))), some (.int (ei_ (p))), some (.int (ei_ (y19)))], [.int (ei_ (3)), .int (ei_ (p))], m1)) rfl ?_
                      refine pw_divN rfl (by omega) (by omega) ?_
                      refine pw_iret rfl rfl rfl ?_
                      exact k0 (p / 3) m1 (by refine Or.inr (Or.inr (Or.inr ⟨by omega, by omega, Or.inl ⟨by omega, by omega, ?_, fun j a_ b_ => hv j a_ (by omega)⟩⟩)); rw [show 3 * (p / 3) = p by omega]; subst hy19; intro ⟨⟨e1_, e2_, e3_⟩, e4_, e5_⟩; omega) (hs)
                    · refine pw_steps 2 (s' := (31, [some (.ref ((sf_ a))), some (.int (ei_ (p))), some (.int (ei_ (3)))], [.int (ei_ (1))], m1)) rfl ?_
                      refine pw_iret rfl rfl rfl ?_
                      refine pw_ifF rfl (by decide) (show ¬ (1 = 0) by decide) ?_
                      refine pw_steps 2 (s' := (11, [some (.ref 0), some (.ref ((sf_ a))), some (.int (ei_ (p)))], [.int (ei_ (p)), .ref ((sf_ a))], m1)) rfl ?_
                      refine pw_call (As := [.int (ei_ (p))]) (st := []) (k := (sf_ a)) rfl rfl rfl (sf_sk (by omega)) rfl (Nat.le_of_ble_eq_true rfl) ?_
                      refine pw_intro (I := iX5_number) (T := tX5_number) rfl rfl rfl ?_
                      refine pw_steps 3 (s' := (3, [some (.ref ((sf_ a))), some (.int (ei_ (p)))], [.int (ei_ (1)), .int (ei_ (p)), .ref ((sf_ a))], m1)) rfl ?_
                      refine pw_call (As := [.int (ei_ (p)), .int (ei_ (1))]) (st := []) (k := (sf_ a)) rfl rfl rfl (sf_sk (by omega)) rfl (Nat.le_of_ble_eq_true rfl) ?_
                      refine pw_intro (I := iX5_hasPlaces) (T := tX5_hasPlaces) rfl rfl rfl ?_
                      refine pw_steps 1 (s' := (1, [some (.ref ((sf_ a))), some (.int (ei_ (p))), some (.int (ei_ (1)))], [.int (ei_ (p))], m1)) rfl ?_
                      refine pw_ifF rfl (by omega) (show ¬ (p < 0) by omega) ?_
                      refine pw_steps 1 (s' := (5, [some (.ref ((sf_ a))), some (.int (ei_ (p))), some (.int (ei_ (1)))], [.int (ei_ (1))], m1)) rfl ?_
                      refine pw_ifF rfl (by decide) (show ¬ (1 < 0) by decide) ?_
                      refine pw_steps 2 (s' := (10, [some (.ref ((sf_ a))), some (.int (ei_ (p))), some (.int (ei_ (1)))], [.ref ((sf_ a)), .int (ei_ (1))], m1)) rfl ?_
                      refine pw_getE (x := x15) rfl (sf_ok (a := a) (by omega)).2.2.1 ox15 ?_
                      refine pw_cmpF rfl (by decide) ⟨rx15, sx15⟩ (show ¬ (x15 < 1) by omega) ?_
                      refine pw_steps 2 (s' := (18, [some (.ref ((sf_ a))), some (.int (ei_ (p))), some (.int (ei_ (1)))], [.ref ((sf_ a)), .int (ei_ (p))], m1)) rfl ?_
                      refine pw_getE (x := x15) rfl (sf_ok (a := a) (by omega)).2.2.1 ox15 ?_
                      refine pw_steps 2 (s' := (23, [some (.ref ((sf_ a))), some (.int (ei_ (p))), some (.int (ei_ (1)))], [.int ((ei_ (x15)) - (ei_ (1))), .int (ei_ (p))], m1)) rfl ?_
                      refine pw_cv (congrArg (fun z_ : Int32 => ((23, [some (.ref ((sf_ a))), some (.int (ei_ (p))), some (.int (ei_ (1)))], [.int z_, .int (ei_ (p))], m1) : am_S)) (ei_sub rfl rfl)) ?_
                      refine pw_cmpF rfl (by omega) (by omega) (show ¬ ((x15 - 1) < p) by omega) ?_
                      refine pw_steps 2 (s' := (31, [some (.ref ((sf_ a))), some (.int (ei_ (p))), some (.int (ei_ (1)))], [.int (ei_ (1))], m1)) rfl ?_
                      refine pw_iret rfl rfl rfl ?_
                      refine pw_ifF rfl (by decide) (show ¬ (1 = 0) by decide) ?_
                      refine pw_steps 1 (s' := (10, [some (.ref ((sf_ a))), some (.int (ei_ (p)))], [.ref ((sf_ a))], m1)) rfl ?_
                      refine pw_getR (r := (sf_ a) + 1) rfl (sf_ok (a := a) (by omega)).2.2.2.1 ?_
                      refine pw_steps 1 (s' := (14, [some (.ref ((sf_ a))), some (.int (ei_ (p)))], [.int (ei_ (p)), .ref ((sf_ a) + 1)], m1)) rfl ?_
                      refine pw_lld rfl (sf_ok (a := a) (by omega)).2.2.2.2 (by omega) (fun y23 (hy23 : y23 = vl_ m1 ((sf_ a) + 1) p) ry23 sy23 => ?_)
                      replace hy23 : y23 = vl_ m0 ((sf_ a) + 1) p := hy23.trans (congrFun (sm_l hs) _)
                      have b24 := (hb64 p (by omega) (by omega)).2 (by omega)
                      refine pw_steps 2 (s' := (20, [some (.ref ((sf_ a))), some (.int (ei_ (p)))], [.int ((el_ (y23)).toInt32)], m1)) rfl ?_
                      refine pw_cv (congrArg (fun z_ : Int32 => ((20, [some (.ref ((sf_ a))), some (.int (ei_ (p)))], [.int z_], m1) : am_S)) (ei_l2i rfl)) ?_
                      refine pw_iret rfl rfl rfl ?_
                      refine pw_callS (As := [.int (ei_ (y23))]) (st := []) rfl (by decide) rfl rfl (Nat.le_of_ble_eq_true rfl) ?_
                      refine pw_intro (I := iX8_isTo99) (T := tX8_isTo99) rfl rfl rfl ?_
                      refine pw_steps 1 (s' := (1, [some (.int (ei_ (y23)))], [.int (ei_ (y23))], m1)) rfl ?_
                      refine pw_if rfl (by omega) (fun (h25 : y23 < 0) => ?_) (fun (h25 : ¬ (y23 < 0)) => ?_)
                      · refine pw_steps 1 (s' := (15, [some (.int (ei_ (y23)))], [.int (ei_ (0))], m1)) rfl ?_
                        refine pw_iret rfl rfl rfl ?_
                        refine pw_ifT rfl (by decide) (show 0 = 0 by decide) ?_
                        refine pw_steps 1 (s' := (42, [some (.ref 0), some (.ref ((sf_ a))), some (.int (ei_ (p)))], [.int (ei_ (0))], m1)) rfl ?_
                        refine pw_iret rfl rfl rfl ?_
                        refine pw_ifT rfl (by decide) (show 0 = 0 by decide) ?_
                        refine pw_steps 2 (s' := (79, [some (.ref 0), some (.int (ei_ (a))), some (.int (ei_ (0))), some (.ref ((sf_ a))), some (.int (ei_ (p))), some (.int (ei_ (y19)))], [.int (ei_ (3)), .int (ei_ (p))], m1)) rfl ?_
                        refine pw_divN rfl (by omega) (by omega) ?_
                        refine pw_iret rfl rfl rfl ?_
                        exact k0 (p / 3) m1 (by refine Or.inr (Or.inr (Or.inr ⟨by omega, by omega, Or.inl ⟨by omega, by omega, ?_, fun j a_ b_ => hv j a_ (by omega)⟩⟩)); rw [show 3 * (p / 3) = p by omega]; subst hy19; subst hy23; intro ⟨⟨e1_, e2_, e3_⟩, e4_, e5_⟩; omega) (hs)
                      · refine pw_steps 2 (s' := (7, [some (.int (ei_ (y23)))], [.int (ei_ (99)), .int (ei_ (y23))], m1)) rfl ?_
                        refine pw_cmp rfl (by omega) (by decide) (fun (h26 : 99 < y23) => ?_) (fun (h26 : ¬ (99 < y23)) => ?_)
                        · refine pw_steps 1 (s' := (15, [some (.int (ei_ (y23)))], [.int (ei_ (0))], m1)) rfl ?_
                          refine pw_iret rfl rfl rfl ?_
                          refine pw_ifT rfl (by decide) (show 0 = 0 by decide) ?_
                          refine pw_steps 1 (s' := (42, [some (.ref 0), some (.ref ((sf_ a))), some (.int (ei_ (p)))], [.int (ei_ (0))], m1)) rfl ?_
                          refine pw_iret rfl rfl rfl ?_
                          refine pw_ifT rfl (by decide) (show 0 = 0 by decide) ?_
                          refine pw_steps 2 (s' := (79, [some (.ref 0), some (.int (ei_ (a))), some (.int (ei_ (0))), some (.ref ((sf_ a))), some (.int (ei_ (p))), some (.int (ei_ (y19)))], [.int (ei_ (3)), .int (ei_ (p))], m1)) rfl ?_
                          refine pw_divN rfl (by omega) (by omega) ?_
                          refine pw_iret rfl rfl rfl ?_
                          exact k0 (p / 3) m1 (by refine Or.inr (Or.inr (Or.inr ⟨by omega, by omega, Or.inl ⟨by omega, by omega, ?_, fun j a_ b_ => hv j a_ (by omega)⟩⟩)); rw [show 3 * (p / 3) = p by omega]; subst hy19; subst hy23; intro ⟨⟨e1_, e2_, e3_⟩, e4_, e5_⟩; omega) (hs)
                        · refine pw_steps 2 (s' := (15, [some (.int (ei_ (y23)))], [.int (ei_ (1))], m1)) rfl ?_
                          refine pw_iret rfl rfl rfl ?_
                          refine pw_ifF rfl (by decide) (show ¬ (1 = 0) by decide) ?_
                          refine pw_steps 6 (s' := (28, [some (.ref 0), some (.ref ((sf_ a))), some (.int (ei_ (p)))], [.int ((ei_ (p)) + (ei_ (1))), .ref ((sf_ a)), .ref 1], m1)) rfl ?_
                          refine pw_cv (congrArg (fun z_ : Int32 => ((28, [some (.ref 0), some (.ref ((sf_ a))), some (.int (ei_ (p)))], [.int z_, .ref ((sf_ a)), .ref 1], m1) : am_S)) (ei_add rfl rfl)) ?_
                          refine pw_call (As := [.int (ei_ ((p + 1)))]) (st := [.ref 1]) (k := (sf_ a)) rfl rfl rfl (sf_sk (by omega)) rfl (Nat.le_of_ble_eq_true rfl) ?_
                          refine pw_intro (I := iX5_number) (T := tX5_number) rfl rfl rfl ?_
                          refine pw_steps 3 (s' := (3, [some (.ref ((sf_ a))), some (.int (ei_ ((p + 1))))], [.int (ei_ (1)), .int (ei_ ((p + 1))), .ref ((sf_ a))], m1)) rfl ?_
                          refine pw_call (As := [.int (ei_ ((p + 1))), .int (ei_ (1))]) (st := []) (k := (sf_ a)) rfl rfl rfl (sf_sk (by omega)) rfl (Nat.le_of_ble_eq_true rfl) ?_
                          refine pw_intro (I := iX5_hasPlaces) (T := tX5_hasPlaces) rfl rfl rfl ?_
                          refine pw_steps 1 (s' := (1, [some (.ref ((sf_ a))), some (.int (ei_ ((p + 1)))), some (.int (ei_ (1)))], [.int (ei_ ((p + 1)))], m1)) rfl ?_
                          refine pw_ifF rfl (by omega) (show ¬ ((p + 1) < 0) by omega) ?_
                          refine pw_steps 1 (s' := (5, [some (.ref ((sf_ a))), some (.int (ei_ ((p + 1)))), some (.int (ei_ (1)))], [.int (ei_ (1))], m1)) rfl ?_
                          refine pw_ifF rfl (by decide) (show ¬ (1 < 0) by decide) ?_
                          refine pw_steps 2 (s' := (10, [some (.ref ((sf_ a))), some (.int (ei_ ((p + 1)))), some (.int (ei_ (1)))], [.ref ((sf_ a)), .int (ei_ (1))], m1)) rfl ?_
                          refine pw_getE (x := x15) rfl (sf_ok (a := a) (by omega)).2.2.1 ox15 ?_
                          refine pw_cmpF rfl (by decide) ⟨rx15, sx15⟩ (show ¬ (x15 < 1) by omega) ?_
                          refine pw_steps 2 (s' := (18, [some (.ref ((sf_ a))), some (.int (ei_ ((p + 1)))), some (.int (ei_ (1)))], [.ref ((sf_ a)), .int (ei_ ((p + 1)))], m1)) rfl ?_
                          refine pw_getE (x := x15) rfl (sf_ok (a := a) (by omega)).2.2.1 ox15 ?_
                          refine pw_steps 2 (s' := (23, [some (.ref ((sf_ a))), some (.int (ei_ ((p + 1)))), some (.int (ei_ (1)))], [.int ((ei_ (x15)) - (ei_ (1))), .int (ei_ ((p + 1)))], m1)) rfl ?_
                          refine pw_cv (congrArg (fun z_ : Int32 => ((23, [some (.ref ((sf_ a))), some (.int (ei_ ((p + 1)))), some (.int (ei_ (1)))], [.int z_, .int (ei_ ((p + 1)))], m1) : am_S)) (ei_sub rfl rfl)) ?_
                          refine pw_cmpF rfl (by omega) (by omega) (show ¬ ((x15 - 1) < (p + 1)) by omega) ?_
                          refine pw_steps 2 (s' := (31, [some (.ref ((sf_ a))), some (.int (ei_ ((p + 1)))), some (.int (ei_ (1)))], [.int (ei_ (1))], m1)) rfl ?_
                          refine pw_iret rfl rfl rfl ?_
                          refine pw_ifF rfl (by decide) (show ¬ (1 = 0) by decide) ?_
                          refine pw_steps 1 (s' := (10, [some (.ref ((sf_ a))), some (.int (ei_ ((p + 1))))], [.ref ((sf_ a))], m1)) rfl ?_
                          refine pw_getR (r := (sf_ a) + 1) rfl (sf_ok (a := a) (by omega)).2.2.2.1 ?_
                          refine pw_steps 1 (s' := (14, [some (.ref ((sf_ a))), some (.int (ei_ ((p + 1))))], [.int (ei_ ((p + 1))), .ref ((sf_ a) + 1)], m1)) rfl ?_
                          refine pw_lld rfl (sf_ok (a := a) (by omega)).2.2.2.2 (by omega) (fun y27 (hy27 : y27 = vl_ m1 ((sf_ a) + 1) (p + 1)) ry27 sy27 => ?_)
                          replace hy27 : y27 = vl_ m0 ((sf_ a) + 1) (p + 1) := hy27.trans (congrFun (sm_l hs) _)
                          have b28 := (hb64 (p + 1) (by omega) (by omega)).2 (by omega)
                          refine pw_steps 2 (s' := (20, [some (.ref ((sf_ a))), some (.int (ei_ ((p + 1))))], [.int ((el_ (y27)).toInt32)], m1)) rfl ?_
                          refine pw_cv (congrArg (fun z_ : Int32 => ((20, [some (.ref ((sf_ a))), some (.int (ei_ ((p + 1))))], [.int z_], m1) : am_S)) (ei_l2i rfl)) ?_
                          refine pw_iret rfl rfl rfl ?_
                          refine pw_call (As := [.int (ei_ (y27))]) (st := []) (k := 1) rfl rfl rfl rfl rfl (Nat.le_of_ble_eq_true rfl) ?_
                          refine pw_intro (I := iX3_has) (T := tX3_has) rfl rfl rfl ?_
                          refine pw_steps 1 (s' := (1, [some (.ref 1), some (.int (ei_ (y27)))], [.int (ei_ (y27))], m1)) rfl ?_
                          refine pw_if rfl (by omega) (fun (h29 : y27 < 0) => ?_) (fun (h29 : ¬ (y27 < 0)) => ?_)
                          · refine pw_steps 1 (s' := (17, [some (.ref 1), some (.int (ei_ (y27)))], [.int (ei_ (0))], m1)) rfl ?_
                            refine pw_iret rfl rfl rfl ?_
                            refine pw_ifT rfl (by decide) (show 0 = 0 by decide) ?_
                            refine pw_steps 1 (s' := (42, [some (.ref 0), some (.ref ((sf_ a))), some (.int (ei_ (p)))], [.int (ei_ (0))], m1)) rfl ?_
                            refine pw_iret rfl rfl rfl ?_
                            refine pw_ifT rfl (by decide) (show 0 = 0 by decide) ?_
                            refine pw_steps 2 (s' := (79, [some (.ref 0), some (.int (ei_ (a))), some (.int (ei_ (0))), some (.ref ((sf_ a))), some (.int (ei_ (p))), some (.int (ei_ (y19)))], [.int (ei_ (3)), .int (ei_ (p))], m1)) rfl ?_
                            refine pw_divN rfl (by omega) (by omega) ?_
                            refine pw_iret rfl rfl rfl ?_
                            exact k0 (p / 3) m1 (by refine Or.inr (Or.inr (Or.inr ⟨by omega, by omega, Or.inl ⟨by omega, by omega, ?_, fun j a_ b_ => hv j a_ (by omega)⟩⟩)); rw [show 3 * (p / 3) = p by omega]; subst hy19; subst hy23; subst hy27; intro ⟨⟨e1_, e2_, e3_⟩, e4_, e5_⟩; omega) (hs)
                          · refine pw_steps 2 (s' := (6, [some (.ref 1), some (.int (ei_ (y27)))], [.ref 1, .int (ei_ (y27))], m1)) rfl ?_
                            refine pw_get rfl rfl (fun x30 (hx30 : x30 = vi_ m1 1 1) rx30 sx30 => ?_)
                            have ox30 := hx30
                            replace hx30 : x30 = vi_ m0 1 1 := hx30.trans (sm_v hs rfl)
                            refine pw_cmp rfl (by omega) ⟨rx30, sx30⟩ (fun (h31 : x30 ≤ y27) => ?_) (fun (h31 : ¬ (x30 ≤ y27)) => ?_)
                            · refine pw_steps 1 (s' := (17, [some (.ref 1), some (.int (ei_ (y27)))], [.int (ei_ (0))], m1)) rfl ?_
                              refine pw_iret rfl rfl rfl ?_
                              refine pw_ifT rfl (by decide) (show 0 = 0 by decide) ?_
                              refine pw_steps 1 (s' := (42, [some (.ref 0), some (.ref ((sf_ a))), some (.int (ei_ (p)))], [.int (ei_ (0))], m1)) rfl ?_
                              refine pw_iret rfl rfl rfl ?_
                              refine pw_ifT rfl (by decide) (show 0 = 0 by decide) ?_
                              refine pw_steps 2 (s' := (79, [some (.ref 0), some (.int (ei_ (a))), some (.int (ei_ (0))), some (.ref ((sf_ a))), some (.int (ei_ (p))), some (.int (ei_ (y19)))], [.int (ei_ (3)), .int (ei_ (p))], m1)) rfl ?_
                              refine pw_divN rfl (by omega) (by omega) ?_
                              refine pw_iret rfl rfl rfl ?_
                              exact k0 (p / 3) m1 (by refine Or.inr (Or.inr (Or.inr ⟨by omega, by omega, Or.inl ⟨by omega, by omega, ?_, fun j a_ b_ => hv j a_ (by omega)⟩⟩)); rw [show 3 * (p / 3) = p by omega]; subst hy19; subst hy23; subst hy27; intro ⟨⟨e1_, e2_, e3_⟩, e4_, e5_⟩; omega) (hs)
                            · refine pw_steps 2 (s' := (17, [some (.ref 1), some (.int (ei_ (y27)))], [.int (ei_ (1))], m1)) rfl ?_
                              refine pw_iret rfl rfl rfl ?_
                              refine pw_ifF rfl (by decide) (show ¬ (1 = 0) by decide) ?_
                              refine pw_steps 2 (s' := (42, [some (.ref 0), some (.ref ((sf_ a))), some (.int (ei_ (p)))], [.int (ei_ (1))], m1)) rfl ?_
                              refine pw_iret rfl rfl rfl ?_
                              refine pw_ifF rfl (by decide) (show ¬ (1 = 0) by decide) ?_
                              refine pw_steps 6 (s' := (61, [some (.ref 0), some (.int (ei_ (a))), some (.int (ei_ (0))), some (.ref ((sf_ a))), some (.int (ei_ (p))), some (.int (ei_ (y19)))], [.int (ei_ (y19)), .ref 3, .int (ei_ (p)), .ref ((sf_ a)), .ref 0], m1)) rfl ?_
                              refine pw_call (As := [.int (ei_ (y19))]) (st := [.int (ei_ (p)), .ref ((sf_ a)), .ref 0]) (k := 3) rfl rfl rfl rfl rfl (Nat.le_of_ble_eq_true rfl) ?_
                              refine cw_wearer2 (hs) (by omega) (fun x32 g33 g34 => ?_)
                              refine pw_steps 2 (s' := (67, [some (.ref 0), some (.int (ei_ (a))), some (.int (ei_ (0))), some (.ref ((sf_ a))), some (.int (ei_ (p))), some (.int (ei_ (y19)))], [.int (ei_ (y19)), .ref 0, .int (ei_ (x32)), .int (ei_ (p)), .ref ((sf_ a)), .ref 0], m1)) rfl ?_
                              refine pw_call (As := [.int (ei_ (y19))]) (st := [.int (ei_ (x32)), .int (ei_ (p)), .ref ((sf_ a)), .ref 0]) (k := 0) rfl rfl rfl rfl rfl (Nat.le_of_ble_eq_true rfl) ?_
                              refine cw_rateNow (p0) (p2) (hs) (p1.1) (by omega) (fun x35 m136 g37 g38 g39 => ?_)
                              refine pw_call (As := [.ref ((sf_ a)), .int (ei_ (p)), .int (ei_ (x32)), .int (ei_ (x35))]) (st := []) (k := 0) rfl rfl rfl rfl rfl (Nat.le_of_ble_eq_true rfl) ?_
                              refine pw_intro (I := iX8_isSo) (T := tX8_isSo) rfl rfl rfl ?_
                              refine pw_steps 2 (s' := (2, [some (.ref 0), some (.ref ((sf_ a))), some (.int (ei_ (p))), some (.int (ei_ (x32))), some (.int (ei_ (x35))), none, none], [.int (ei_ (p)), .ref ((sf_ a))], m136)) rfl ?_
                              refine pw_call (As := [.int (ei_ (p))]) (st := []) (k := (sf_ a)) rfl rfl rfl (sf_sk (by omega)) rfl (Nat.le_of_ble_eq_true rfl) ?_
                              refine pw_intro (I := iX5_number) (T := tX5_number) rfl rfl rfl ?_
                              refine pw_steps 3 (s' := (3, [some (.ref ((sf_ a))), some (.int (ei_ (p)))], [.int (ei_ (1)), .int (ei_ (p)), .ref ((sf_ a))], m136)) rfl ?_
                              refine pw_call (As := [.int (ei_ (p)), .int (ei_ (1))]) (st := []) (k := (sf_ a)) rfl rfl rfl (sf_sk (by omega)) rfl (Nat.le_of_ble_eq_true rfl) ?_
                              refine pw_intro (I := iX5_hasPlaces) (T := tX5_hasPlaces) rfl rfl rfl ?_
                              refine pw_steps 1 (s' := (1, [some (.ref ((sf_ a))), some (.int (ei_ (p))), some (.int (ei_ (1)))], [.int (ei_ (p))], m136)) rfl ?_
                              refine pw_ifF rfl (by omega) (show ¬ (p < 0) by omega) ?_
                              refine pw_steps 1 (s' := (5, [some (.ref ((sf_ a))), some (.int (ei_ (p))), some (.int (ei_ (1)))], [.int (ei_ (1))], m136)) rfl ?_
                              refine pw_ifF rfl (by decide) (show ¬ (1 < 0) by decide) ?_
                              refine pw_steps 2 (s' := (10, [some (.ref ((sf_ a))), some (.int (ei_ (p))), some (.int (ei_ (1)))], [.ref ((sf_ a)), .int (ei_ (1))], m136)) rfl ?_
                              refine pw_get rfl (sf_ok (a := a) (by omega)).2.2.1 (fun x40 (hx40 : x40 = vi_ m136 (sf_ a) 2) rx40 sx40 => ?_)
                              have ox40 := hx40
                              replace hx40 : x40 = vi_ m0 (sf_ a) 2 := hx40.trans (sm_v g38 (pSc_sf (by omega) _))
                              refine pw_cmpF rfl (by decide) ⟨rx40, sx40⟩ (show ¬ (x40 < 1) by omega) ?_
                              refine pw_steps 2 (s' := (18, [some (.ref ((sf_ a))), some (.int (ei_ (p))), some (.int (ei_ (1)))], [.ref ((sf_ a)), .int (ei_ (p))], m136)) rfl ?_
                              refine pw_getE (x := x40) rfl (sf_ok (a := a) (by omega)).2.2.1 ox40 ?_
                              refine pw_steps 2 (s' := (23, [some (.ref ((sf_ a))), some (.int (ei_ (p))), some (.int (ei_ (1)))], [.int ((ei_ (x40)) - (ei_ (1))), .int (ei_ (p))], m136)) rfl ?_
                              refine pw_cv (congrArg (fun z_ : Int32 => ((23, [some (.ref ((sf_ a))), some (.int (ei_ (p))), some (.int (ei_ (1)))], [.int z_, .int (ei_ (p))], m136) : am_S)) (ei_sub rfl rfl)) ?_
                              refine pw_cmpF rfl (by omega) (by omega) (show ¬ ((x40 - 1) < p) by omega) ?_
                              refine pw_steps 2 (s' := (31, [some (.ref ((sf_ a))), some (.int (ei_ (p))), some (.int (ei_ (1)))], [.int (ei_ (1))], m136)) rfl ?_
                              refine pw_iret rfl rfl rfl ?_
                              refine pw_ifF rfl (by decide) (show ¬ (1 = 0) by decide) ?_
                              refine pw_steps 1 (s' := (10, [some (.ref ((sf_ a))), some (.int (ei_ (p)))], [.ref ((sf_ a))], m136)) rfl ?_
                              refine pw_getR (r := (sf_ a) + 1) rfl (sf_ok (a := a) (by omega)).2.2.2.1 ?_
                              refine pw_steps 1 (s' := (14, [some (.ref ((sf_ a))), some (.int (ei_ (p)))], [.int (ei_ (p)), .ref ((sf_ a) + 1)], m136)) rfl ?_
                              refine pw_lld rfl (sf_ok (a := a) (by omega)).2.2.2.2 (by omega) (fun y41 (hy41 : y41 = vl_ m136 ((sf_ a) + 1) p) ry41 sy41 => ?_)
                              replace hy41 : y41 = vl_ m0 ((sf_ a) + 1) p := hy41.trans (congrFun (sm_l g38) _)
                              have b42 := (hb64 p (by omega) (by omega)).2 (by omega)
                              refine pw_steps 2 (s' := (20, [some (.ref ((sf_ a))), some (.int (ei_ (p)))], [.int ((el_ (y41)).toInt32)], m136)) rfl ?_
                              refine pw_cv (congrArg (fun z_ : Int32 => ((20, [some (.ref ((sf_ a))), some (.int (ei_ (p)))], [.int z_], m136) : am_S)) (ei_l2i rfl)) ?_
                              refine pw_iret rfl rfl rfl ?_
                              refine pw_steps 5 (s' := (11, [some (.ref 0), some (.ref ((sf_ a))), some (.int (ei_ (p))), some (.int (ei_ (x32))), some (.int (ei_ (x35))), some (.int (ei_ (y41))), none], [.int ((ei_ (p)) + (ei_ (1))), .ref ((sf_ a))], m136)) rfl ?_
                              refine pw_cv (congrArg (fun z_ : Int32 => ((11, [some (.ref 0), some (.ref ((sf_ a))), some (.int (ei_ (p))), some (.int (ei_ (x32))), some (.int (ei_ (x35))), some (.int (ei_ (y41))), none], [.int z_, .ref ((sf_ a))], m136) : am_S)) (ei_add rfl rfl)) ?_
                              refine pw_call (As := [.int (ei_ ((p + 1)))]) (st := []) (k := (sf_ a)) rfl rfl rfl (sf_sk (by omega)) rfl (Nat.le_of_ble_eq_true rfl) ?_
                              refine pw_intro (I := iX5_number) (T := tX5_number) rfl rfl rfl ?_
                              refine pw_steps 3 (s' := (3, [some (.ref ((sf_ a))), some (.int (ei_ ((p + 1))))], [.int (ei_ (1)), .int (ei_ ((p + 1))), .ref ((sf_ a))], m136)) rfl ?_
                              refine pw_call (As := [.int (ei_ ((p + 1))), .int (ei_ (1))]) (st := []) (k := (sf_ a)) rfl rfl rfl (sf_sk (by omega)) rfl (Nat.le_of_ble_eq_true rfl) ?_
                              refine pw_intro (I := iX5_hasPlaces) (T := tX5_hasPlaces) rfl rfl rfl ?_
                              refine pw_steps 1 (s' := (1, [some (.ref ((sf_ a))), some (.int (ei_ ((p + 1)))), some (.int (ei_ (1)))], [.int (ei_ ((p + 1)))], m136)) rfl ?_
                              refine pw_ifF rfl (by omega) (show ¬ ((p + 1) < 0) by omega) ?_
                              refine pw_steps 1 (s' := (5, [some (.ref ((sf_ a))), some (.int (ei_ ((p + 1)))), some (.int (ei_ (1)))], [.int (ei_ (1))], m136)) rfl ?_
                              refine pw_ifF rfl (by decide) (show ¬ (1 < 0) by decide) ?_
                              refine pw_steps 2 (s' := (10, [some (.ref ((sf_ a))), some (.int (ei_ ((p + 1)))), some (.int (ei_ (1)))], [.ref ((sf_ a)), .int (ei_ (1))], m136)) rfl ?_
                              refine pw_getE (x := x40) rfl (sf_ok (a := a) (by omega)).2.2.1 ox40 ?_
                              refine pw_cmpF rfl (by decide) ⟨rx40, sx40⟩ (show ¬ (x40 < 1) by omega) ?_
                              refine pw_steps 2 (s' := (18, [some (.ref ((sf_ a))), some (.int (ei_ ((p + 1)))), some (.int (ei_ (1)))], [.ref ((sf_ a)), .int (ei_ ((p + 1)))], m136)) rfl ?_
                              refine pw_getE (x := x40) rfl (sf_ok (a := a) (by omega)).2.2.1 ox40 ?_
                              refine pw_steps 2 (s' := (23, [some (.ref ((sf_ a))), some (.int (ei_ ((p + 1)))), some (.int (ei_ (1)))], [.int ((ei_ (x40)) - (ei_ (1))), .int (ei_ ((p + 1)))], m136)) rfl ?_
                              refine pw_cv (congrArg (fun z_ : Int32 => ((23, [some (.ref ((sf_ a))), some (.int (ei_ ((p + 1)))), some (.int (ei_ (1)))], [.int z_, .int (ei_ ((p + 1)))], m136) : am_S)) (ei_sub rfl rfl)) ?_
                              refine pw_cmpF rfl (by omega) (by omega) (show ¬ ((x40 - 1) < (p + 1)) by omega) ?_
                              refine pw_steps 2 (s' := (31, [some (.ref ((sf_ a))), some (.int (ei_ ((p + 1)))), some (.int (ei_ (1)))], [.int (ei_ (1))], m136)) rfl ?_
                              refine pw_iret rfl rfl rfl ?_
                              refine pw_ifF rfl (by decide) (show ¬ (1 = 0) by decide) ?_
                              refine pw_steps 1 (s' := (10, [some (.ref ((sf_ a))), some (.int (ei_ ((p + 1))))], [.ref ((sf_ a))], m136)) rfl ?_
                              refine pw_getR (r := (sf_ a) + 1) rfl (sf_ok (a := a) (by omega)).2.2.2.1 ?_
                              refine pw_steps 1 (s' := (14, [some (.ref ((sf_ a))), some (.int (ei_ ((p + 1))))], [.int (ei_ ((p + 1))), .ref ((sf_ a) + 1)], m136)) rfl ?_
                              refine pw_lld rfl (sf_ok (a := a) (by omega)).2.2.2.2 (by omega) (fun y43 (hy43 : y43 = vl_ m136 ((sf_ a) + 1) (p + 1)) ry43 sy43 => ?_)
                              replace hy43 : y43 = vl_ m0 ((sf_ a) + 1) (p + 1) := hy43.trans (congrFun (sm_l g38) _)
                              have b44 := (hb64 (p + 1) (by omega) (by omega)).2 (by omega)
                              refine pw_steps 2 (s' := (20, [some (.ref ((sf_ a))), some (.int (ei_ ((p + 1))))], [.int ((el_ (y43)).toInt32)], m136)) rfl ?_
                              refine pw_cv (congrArg (fun z_ : Int32 => ((20, [some (.ref ((sf_ a))), some (.int (ei_ ((p + 1))))], [.int z_], m136) : am_S)) (ei_l2i rfl)) ?_
                              refine pw_iret rfl rfl rfl ?_
                              refine pw_steps 5 (s' := (20, [some (.ref 0), some (.ref ((sf_ a))), some (.int (ei_ (p))), some (.int (ei_ (x32))), some (.int (ei_ (x35))), some (.int (ei_ (y41))), some (.int (ei_ (y43)))], [.int ((ei_ (p)) + (ei_ (2))), .ref ((sf_ a))], m136)) rfl ?_
                              refine pw_cv (congrArg (fun z_ : Int32 => ((20, [some (.ref 0), some (.ref ((sf_ a))), some (.int (ei_ (p))), some (.int (ei_ (x32))), some (.int (ei_ (x35))), some (.int (ei_ (y41))), some (.int (ei_ (y43)))], [.int z_, .ref ((sf_ a))], m136) : am_S)) (ei_add rfl rfl)) ?_
                              refine pw_call (As := [.int (ei_ ((p + 2)))]) (st := []) (k := (sf_ a)) rfl rfl rfl (sf_sk (by omega)) rfl (Nat.le_of_ble_eq_true rfl) ?_
                              refine pw_intro (I := iX5_number) (T := tX5_number) rfl rfl rfl ?_
                              refine pw_steps 3 (s' := (3, [some (.ref ((sf_ a))), some (.int (ei_ ((p + 2))))], [.int (ei_ (1)), .int (ei_ ((p + 2))), .ref ((sf_ a))], m136)) rfl ?_
                              refine pw_call (As := [.int (ei_ ((p + 2))), .int (ei_ (1))]) (st := []) (k := (sf_ a)) rfl rfl rfl (sf_sk (by omega)) rfl (Nat.le_of_ble_eq_true rfl) ?_
                              refine pw_intro (I := iX5_hasPlaces) (T := tX5_hasPlaces) rfl rfl rfl ?_
                              refine pw_steps 1 (s' := (1, [some (.ref ((sf_ a))), some (.int (ei_ ((p + 2)))), some (.int (ei_ (1)))], [.int (ei_ ((p + 2)))], m136)) rfl ?_
                              refine pw_ifF rfl (by omega) (show ¬ ((p + 2) < 0) by omega) ?_
                              refine pw_steps 1 (s' := (5, [some (.ref ((sf_ a))), some (.int (ei_ ((p + 2)))), some (.int (ei_ (1)))], [.int (ei_ (1))], m136)) rfl ?_
                              refine pw_ifF rfl (by decide) (show ¬ (1 < 0) by decide) ?_
                              refine pw_steps 2 (s' := (10, [some (.ref ((sf_ a))), some (.int (ei_ ((p + 2)))), some (.int (ei_ (1)))], [.ref ((sf_ a)), .int (ei_ (1))], m136)) rfl ?_
                              refine pw_getE (x := x40) rfl (sf_ok (a := a) (by omega)).2.2.1 ox40 ?_
                              refine pw_cmpF rfl (by decide) ⟨rx40, sx40⟩ (show ¬ (x40 < 1) by omega) ?_
                              refine pw_steps 2 (s' := (18, [some (.ref ((sf_ a))), some (.int (ei_ ((p + 2)))), some (.int (ei_ (1)))], [.ref ((sf_ a)), .int (ei_ ((p + 2)))], m136)) rfl ?_
                              refine pw_getE (x := x40) rfl (sf_ok (a := a) (by omega)).2.2.1 ox40 ?_
                              refine pw_steps 2 (s' := (23, [some (.ref ((sf_ a))), some (.int (ei_ ((p + 2)))), some (.int (ei_ (1)))], [.int ((ei_ (x40)) - (ei_ (1))), .int (ei_ ((p + 2)))], m136)) rfl ?_
                              refine pw_cv (congrArg (fun z_ : Int32 => ((23, [some (.ref ((sf_ a))), some (.int (ei_ ((p + 2)))), some (.int (ei_ (1)))], [.int z_, .int (ei_ ((p + 2)))], m136) : am_S)) (ei_sub rfl rfl)) ?_
                              refine pw_cmpF rfl (by omega) (by omega) (show ¬ ((x40 - 1) < (p + 2)) by omega) ?_
                              refine pw_steps 2 (s' := (31, [some (.ref ((sf_ a))), some (.int (ei_ ((p + 2)))), some (.int (ei_ (1)))], [.int (ei_ (1))], m136)) rfl ?_
                              refine pw_iret rfl rfl rfl ?_
                              refine pw_ifF rfl (by decide) (show ¬ (1 = 0) by decide) ?_
                              refine pw_steps 1 (s' := (10, [some (.ref ((sf_ a))), some (.int (ei_ ((p + 2))))], [.ref ((sf_ a))], m136)) rfl ?_
                              refine pw_getR (r := (sf_ a) + 1) rfl (sf_ok (a := a) (by omega)).2.2.2.1 ?_
                              refine pw_steps 1 (s' := (14, [some (.ref ((sf_ a))), some (.int (ei_ ((p + 2))))], [.int (ei_ ((p + 2))), .ref ((sf_ a) + 1)], m136)) rfl ?_
                              refine pw_lld rfl (sf_ok (a := a) (by omega)).2.2.2.2 (by omega) (fun y45 (hy45 : y45 = vl_ m136 ((sf_ a) + 1) (p + 2)) ry45 sy45 => ?_)
                              replace hy45 : y45 = vl_ m0 ((sf_ a) + 1) (p + 2) := hy45.trans (congrFun (sm_l g38) _)
                              have b46 := (hb64 (p + 2) (by omega) (by omega)).2 (by omega)
                              refine pw_steps 2 (s' := (20, [some (.ref ((sf_ a))), some (.int (ei_ ((p + 2))))], [.int ((el_ (y45)).toInt32)], m136)) rfl ?_
                              refine pw_cv (congrArg (fun z_ : Int32 => ((20, [some (.ref ((sf_ a))), some (.int (ei_ ((p + 2))))], [.int z_], m136) : am_S)) (ei_l2i rfl)) ?_
                              refine pw_iret rfl rfl rfl ?_
                              refine pw_steps 1 (s' := (24, [some (.ref 0), some (.ref ((sf_ a))), some (.int (ei_ (p))), some (.int (ei_ (x32))), some (.int (ei_ (x35))), some (.int (ei_ (y41))), some (.int (ei_ (y43)))], [.int (ei_ (x32)), .int (ei_ (y45))], m136)) rfl ?_
                              refine pw_cmp rfl (by omega) (by omega) (fun (h47 : ¬ y45 = x32) => ?_) (fun (h47 : ¬ ¬ y45 = x32) => ?_)
                              · refine pw_steps 1 (s' := (48, [some (.ref 0), some (.ref ((sf_ a))), some (.int (ei_ (p))), some (.int (ei_ (x32))), some (.int (ei_ (x35))), some (.int (ei_ (y41))), some (.int (ei_ (y43)))], [.int (ei_ (0))], m136)) rfl ?_
                                refine pw_iret rfl rfl rfl ?_
                                refine pw_ifF rfl (by decide) (show ¬ (¬ 0 = 0) by decide) ?_
                                refine pw_steps 2 (s' := (79, [some (.ref 0), some (.int (ei_ (a))), some (.int (ei_ (0))), some (.ref ((sf_ a))), some (.int (ei_ (p))), some (.int (ei_ (y19)))], [.int (ei_ (3)), .int (ei_ (p))], m136)) rfl ?_
                                refine pw_divN rfl (by omega) (by omega) ?_
                                refine pw_iret rfl rfl rfl ?_
                                exact k0 (p / 3) m136 (by refine Or.inr (Or.inr (Or.inr ⟨by omega, by omega, Or.inl ⟨by omega, by omega, ?_, fun j a_ b_ => hv j a_ (by omega)⟩⟩)); rw [show 3 * (p / 3) = p by omega]; subst hy19; subst hy23; subst hy27; subst hy41; subst hy43; subst hy45; subst g33; subst g37; intro ⟨⟨e1_, e2_, e3_⟩, e4_, e5_⟩; omega) (g38)
                              · refine pw_steps 5 (s' := (37, [some (.ref 0), some (.ref ((sf_ a))), some (.int (ei_ (p))), some (.int (ei_ (x32))), some (.int (ei_ (x35))), some (.int (ei_ (y41))), some (.int (ei_ (y43)))], [.int (ei_ (y41)), .int (ei_ (x35)), .int (ei_ (y43)), .ref 3], m136)) rfl ?_
                                refine pw_call (As := [.int (ei_ (y43)), .int (ei_ (x35)), .int (ei_ (y41))]) (st := []) (k := 3) rfl rfl rfl rfl rfl (Nat.le_of_ble_eq_true rfl) ?_
                                refine cw_leftBy (p1.2.1) (g38) (by omega) (by omega) (by omega) (fun x48 g49 g50 => ?_)
                                refine pw_if rfl (by omega) (fun (h51 : x48 ≤ 0) => ?_) (fun (h51 : ¬ (x48 ≤ 0)) => ?_)
                                · refine pw_steps 1 (s' := (48, [some (.ref 0), some (.ref ((sf_ a))), some (.int (ei_ (p))), some (.int (ei_ (x32))), some (.int (ei_ (x35))), some (.int (ei_ (y41))), some (.int (ei_ (y43)))], [.int (ei_ (0))], m136)) rfl ?_
                                  refine pw_iret rfl rfl rfl ?_
                                  refine pw_ifF rfl (by decide) (show ¬ (¬ 0 = 0) by decide) ?_
                                  refine pw_steps 2 (s' := (79, [some (.ref 0), some (.int (ei_ (a))), some (.int (ei_ (0))), some (.ref ((sf_ a))), some (.int (ei_ (p))), some (.int (ei_ (y19)))], [.int (ei_ (3)), .int (ei_ (p))], m136)) rfl ?_
                                  refine pw_divN rfl (by omega) (by omega) ?_
                                  refine pw_iret rfl rfl rfl ?_
                                  exact k0 (p / 3) m136 (by refine Or.inr (Or.inr (Or.inr ⟨by omega, by omega, Or.inl ⟨by omega, by omega, ?_, fun j a_ b_ => hv j a_ (by omega)⟩⟩)); rw [show 3 * (p / 3) = p by omega]; subst hy19; subst hy23; subst hy27; subst hy41; subst hy43; subst hy45; subst g33; subst g37; intro ⟨⟨e1_, e2_, e3_⟩, e4_, e5_⟩; omega) (g38)
                                · refine pw_steps 2 (s' := (48, [some (.ref 0), some (.ref ((sf_ a))), some (.int (ei_ (p))), some (.int (ei_ (x32))), some (.int (ei_ (x35))), some (.int (ei_ (y41))), some (.int (ei_ (y43)))], [.int (ei_ (1))], m136)) rfl ?_
                                  refine pw_iret rfl rfl rfl ?_
                                  refine pw_ifT rfl (by decide) (show ¬ 1 = 0 by decide) ?_
                                  refine pw_steps 2 (s' := (22, [some (.ref 0), some (.int (ei_ (a))), some (.int (ei_ (0))), some (.ref ((sf_ a))), some (.int ((ei_ (p)) + (ei_ (3)))), some (.int (ei_ (y19)))], [], m136)) rfl ?_
                                  refine pw_cv (congrArg (fun z_ : Int32 => ((22, [some (.ref 0), some (.int (ei_ (a))), some (.int (ei_ (0))), some (.ref ((sf_ a))), some (.int z_), some (.int (ei_ (y19)))], [], m136) : am_S)) (ei_add rfl rfl)) ?_
                                  exact ih13 _ (by omega) (p + 3) (some (.int (ei_ (y19)))) m136 (k + 1) rfl (by omega) (by omega) (g38) (by subst hy19; subst hy23; subst hy27; subst hy41; subst hy43; subst hy45; subst g33; subst g37; exact al_s (by omega) hv hpk ⟨⟨by omega, by omega, by omega⟩, by omega, by omega⟩)
          exact L14 _ 0 none m 0 rfl (by omega) (by omega) (p4) (by intro j a_ b_; omega)

set_option maxHeartbeats 4000000 in
set_option maxRecDepth 20000 in
theorem ms_first {q : am_X} {d : Nat} {m : am_M} {Q : Option Value → am_M → Prop} {m0 : am_M} {a : Int}  (p0 : rP_ m0) (p1 : mW_ m0) (p2 : sm_ pSc m0 m) (p3 : rL_ m0) (p4 : mF_ m0) (p5 : sb_ m0 a) (p6 : -2147483648 ≤ a ∧ a < 2147483648) (k0 : ∀ (x : Int) (m1 : am_M), (ff_ (mo_ m0 a) (vi_ m0 69 a) x) → (sm_ pSc m0 m1) → (-2 ≤ x) → Q (some (.int (ei_ (x)))) m1) : pw_C q (d + 58) 235 [.ref 47, .int (ei_ (a))] m Q := by
  obtain ⟨hP1, hP2, hP3, hP4⟩ := id p0
  obtain ⟨hb1, hb2, hb3⟩ := id p5
  refine pw_intro (I := iX9_firstFalse) (T := tX9_firstFalse) rfl rfl rfl ?_
  refine pw_steps 2 (s' := (2, [some (.ref 47), some (.int (ei_ (a))), some (.int (ei_ (0))), none, none], [], m)) rfl ?_
  have L5 : ∀ (n3 : Nat) (k : Int) (u1 : Option Value) (u2 : Option Value) (m1 : am_M), (vi_ m0 69 a - 3 * k).toNat = n3 → (0 ≤ k ∧ 3 * k ≤ vi_ m0 69 a + 2) → (sm_ pSc m0 m1) → (∀ j, 0 ≤ j → j < k → mo_ m0 a (3 * j)) → pw_V q (d + 57) iX9_firstFalse.2.2.2.1 tX9_firstFalse Q (2, [some (.ref 47), some (.int (ei_ (a))), some (.int (ei_ (k))), u1, u2], [], m1) := by
    intro n3
    induction n3 using Nat.strongRecOn with
    | _ n3 ih4 =>
      intro k u1 u2 m1 hm_n3 hpp hs hv
      refine pw_steps 6 (s' := (10, [some (.ref 47), some (.int (ei_ (a))), some (.int (ei_ (k))), u1, u2], [.int (ei_ (a)), .ref 69, .int ((ei_ (3)) * (ei_ (k)))], m1)) rfl ?_
      refine pw_cv (congrArg (fun z_ : Int32 => ((10, [some (.ref 47), some (.int (ei_ (a))), some (.int (ei_ (k))), u1, u2], [.int (ei_ (a)), .ref 69, .int z_], m1) : am_S)) (ei_mul rfl rfl)) ?_
      refine pw_ild rfl rfl (by omega) (fun x6 (hx6 : x6 = vi_ m1 69 a) rx6 sx6 => ?_)
      have ox6 := hx6
      replace hx6 : x6 = vi_ m0 69 a := hx6.trans (sm_v hs rfl)
      refine pw_cmp rfl (by omega) ⟨rx6, sx6⟩ (fun (h7 : x6 ≤ (3 * k)) => ?_) (fun (h7 : ¬ (x6 ≤ (3 * k))) => ?_)
      · refine pw_steps 1 (s' := (144, [some (.ref 47), some (.int (ei_ (a))), some (.int (ei_ (k))), u1, u2], [.int (ei_ ((-2)))], m1)) rfl ?_
        refine pw_iret rfl rfl rfl ?_
        exact k0 (-2) m1 (by exact Or.inr ⟨rfl, fun j a_ b_ => hv j a_ (by omega)⟩) (hs) (by omega)
      · refine pw_steps 16 (s' := (33, [some (.ref 47), some (.int (ei_ (a))), some (.int (ei_ (k))), some (.int (((ei_ (60)) * (ei_ (a))) + ((ei_ (3)) * (ei_ (k))))), u2], [.int (ei_ (a)), .ref 69, .int (((ei_ (3)) * (ei_ (k))) + (ei_ (2)))], m1)) rfl ?_
        refine pw_cv (congrArg (fun z_ : Int32 => ((33, [some (.ref 47), some (.int (ei_ (a))), some (.int (ei_ (k))), some (.int (((ei_ (60)) * (ei_ (a))) + ((ei_ (3)) * (ei_ (k))))), u2], [.int (ei_ (a)), .ref 69, .int z_], m1) : am_S)) (ei_add (ei_mul rfl rfl) rfl)) ?_
        refine pw_cv (congrArg (fun z_ : Int32 => ((33, [some (.ref 47), some (.int (ei_ (a))), some (.int (ei_ (k))), some (.int z_), u2], [.int (ei_ (a)), .ref 69, .int (ei_ (((3 * k) + 2)))], m1) : am_S)) (ei_add (ei_mul rfl rfl) (ei_mul rfl rfl))) ?_
        refine pw_ildE (x := x6) rfl rfl (by omega) ox6 ?_
        refine pw_cmp rfl (by omega) ⟨rx6, sx6⟩ (fun (h8 : x6 ≤ ((3 * k) + 2)) => ?_) (fun (h8 : ¬ (x6 ≤ ((3 * k) + 2))) => ?_)
        · refine pw_steps 1 (s' := (81, [some (.ref 47), some (.int (ei_ (a))), some (.int (ei_ (k))), some (.int (ei_ (((60 * a) + (3 * k))))), u2], [.int (ei_ (k))], m1)) rfl ?_
          refine pw_iret rfl rfl rfl ?_
          exact k0 k m1 (by refine Or.inl ⟨by omega, by omega, ?_, hv⟩; intro ⟨e1_, e2_, e3_, e4_, e5_⟩; omega) (hs) (by omega)
        · refine pw_steps 3 (s' := (42, [some (.ref 47), some (.int (ei_ (a))), some (.int (ei_ (k))), some (.int (ei_ (((60 * a) + (3 * k))))), u2], [.int (ei_ (((60 * a) + (3 * k)))), .ref 70], m1)) rfl ?_
          refine pw_lld rfl rfl (by omega) (fun y9 (hy9 : y9 = vl_ m1 70 ((60 * a) + (3 * k))) ry9 sy9 => ?_)
          replace hy9 : y9 = vl_ m0 70 ((60 * a) + (3 * k)) := hy9.trans (congrFun (sm_l hs) _)
          have b10 := hb3 ((60 * a) + (3 * k)) (by omega) (by omega)
          refine pw_steps 1 (s' := (44, [some (.ref 47), some (.int (ei_ (a))), some (.int (ei_ (k))), some (.int (ei_ (((60 * a) + (3 * k))))), u2], [.int ((el_ (y9)).toInt32)], m1)) rfl ?_
          refine pw_cv (congrArg (fun z_ : Int32 => ((44, [some (.ref 47), some (.int (ei_ (a))), some (.int (ei_ (k))), some (.int (ei_ (((60 * a) + (3 * k))))), u2], [.int z_], m1) : am_S)) (ei_l2i rfl)) ?_
          refine pw_callS (As := [.int (ei_ (y9))]) (st := []) rfl (by decide) rfl rfl (Nat.le_of_ble_eq_true rfl) ?_
          refine pw_intro (I := iX9_isN) (T := tX9_isN) rfl rfl rfl ?_
          refine pw_steps 4 (s' := (6, [some (.int (ei_ (y9)))], [.long (el_ (99)), .long (el_ (0)), .long ((ei_ (y9)).toInt64)], m1)) rfl ?_
          refine pw_cv (congrArg (fun z_ : Int64 => ((6, [some (.int (ei_ (y9)))], [.long (el_ (99)), .long (el_ (0)), .long z_], m1) : am_S)) (el_i2l (by omega) rfl)) ?_
          refine pw_callS (As := [.long (el_ (y9)), .long (el_ (0)), .long (el_ (99))]) (st := []) rfl (by decide) rfl rfl (Nat.le_of_ble_eq_true rfl) ?_
          refine mt_within (by omega) (by omega) (by omega) (fun g11 g12 => ?_) (fun g13 => ?_) (fun g14 => ?_)
          · refine pw_iret rfl rfl rfl ?_
            refine pw_ifF rfl (by decide) (show ¬ (1 = 0) by decide) ?_
            refine pw_steps 6 (s' := (58, [some (.ref 47), some (.int (ei_ (a))), some (.int (ei_ (k))), some (.int (ei_ (((60 * a) + (3 * k))))), u2], [.int ((ei_ (((60 * a) + (3 * k)))) + (ei_ (1))), .ref 70, .ref 47], m1)) rfl ?_
            refine pw_cv (congrArg (fun z_ : Int32 => ((58, [some (.ref 47), some (.int (ei_ (a))), some (.int (ei_ (k))), some (.int (ei_ (((60 * a) + (3 * k))))), u2], [.int z_, .ref 70, .ref 47], m1) : am_S)) (ei_add rfl rfl)) ?_
            refine pw_lld rfl rfl (by omega) (fun y15 (hy15 : y15 = vl_ m1 70 (((60 * a) + (3 * k)) + 1)) ry15 sy15 => ?_)
            replace hy15 : y15 = vl_ m0 70 (((60 * a) + (3 * k)) + 1) := hy15.trans (congrFun (sm_l hs) _)
            have b16 := hb3 (((60 * a) + (3 * k)) + 1) (by omega) (by omega)
            refine pw_call (As := [.long (el_ (y15))]) (st := []) (k := 47) rfl rfl rfl rfl rfl (Nat.le_of_ble_eq_true rfl) ?_
            refine pw_intro (I := iX9_isOne) (T := tX9_isOne) rfl rfl rfl ?_
            refine pw_steps 3 (s' := (3, [some (.ref 47), some (.long (el_ (y15))), none], [.ref 47, .long (el_ (0)), .long (el_ (y15))], m1)) rfl ?_
            refine pw_get rfl rfl (fun x17 (hx17 : x17 = vi_ m1 47 6) rx17 sx17 => ?_)
            have ox17 := hx17
            replace hx17 : x17 = vi_ m0 47 6 := hx17.trans (sm_v hs rfl)
            refine pw_steps 3 (s' := (9, [some (.ref 47), some (.long (el_ (y15))), none], [.long (((ei_ (x17)) - (ei_ (1))).toInt64), .long (el_ (0)), .long (el_ (y15))], m1)) rfl ?_
            refine pw_cv (congrArg (fun z_ : Int64 => ((9, [some (.ref 47), some (.long (el_ (y15))), none], [.long z_, .long (el_ (0)), .long (el_ (y15))], m1) : am_S)) (el_i2l (by omega) (ei_sub rfl rfl))) ?_
            refine pw_callS (As := [.long (el_ (y15)), .long (el_ (0)), .long (el_ ((x17 - 1)))]) (st := []) rfl (by decide) rfl rfl (Nat.le_of_ble_eq_true rfl) ?_
            refine mt_within (by omega) (by omega) (by omega) (fun g18 g19 => ?_) (fun g20 => ?_) (fun g21 => ?_)
            · refine pw_iret rfl rfl rfl ?_
              refine pw_ifF rfl (by decide) (show ¬ (1 = 0) by decide) ?_
              refine pw_steps 6 (s' := (73, [some (.ref 47), some (.int (ei_ (a))), some (.int (ei_ (k))), some (.int (ei_ (((60 * a) + (3 * k))))), u2], [.int ((ei_ (((60 * a) + (3 * k)))) + (ei_ (2))), .ref 70, .ref 47], m1)) rfl ?_
              refine pw_cv (congrArg (fun z_ : Int32 => ((73, [some (.ref 47), some (.int (ei_ (a))), some (.int (ei_ (k))), some (.int (ei_ (((60 * a) + (3 * k))))), u2], [.int z_, .ref 70, .ref 47], m1) : am_S)) (ei_add rfl rfl)) ?_
              refine pw_lld rfl rfl (by omega) (fun y22 (hy22 : y22 = vl_ m1 70 (((60 * a) + (3 * k)) + 2)) ry22 sy22 => ?_)
              replace hy22 : y22 = vl_ m0 70 (((60 * a) + (3 * k)) + 2) := hy22.trans (congrFun (sm_l hs) _)
              have b23 := hb3 (((60 * a) + (3 * k)) + 2) (by omega) (by omega)
              refine pw_call (As := [.long (el_ (y22))]) (st := []) (k := 47) rfl rfl rfl rfl rfl (Nat.le_of_ble_eq_true rfl) ?_
              refine pw_intro (I := iX9_isOne) (T := tX9_isOne) rfl rfl rfl ?_
              refine pw_steps 3 (s' := (3, [some (.ref 47), some (.long (el_ (y22))), none], [.ref 47, .long (el_ (0)), .long (el_ (y22))], m1)) rfl ?_
              refine pw_getE (x := x17) rfl rfl ox17 ?_
              refine pw_steps 3 (s' := (9, [some (.ref 47), some (.long (el_ (y22))), none], [.long (((ei_ (x17)) - (ei_ (1))).toInt64), .long (el_ (0)), .long (el_ (y22))], m1)) rfl ?_
              refine pw_cv (congrArg (fun z_ : Int64 => ((9, [some (.ref 47), some (.long (el_ (y22))), none], [.long z_, .long (el_ (0)), .long (el_ (y22))], m1) : am_S)) (el_i2l (by omega) (ei_sub rfl rfl))) ?_
              refine pw_callS (As := [.long (el_ (y22)), .long (el_ (0)), .long (el_ ((x17 - 1)))]) (st := []) rfl (by decide) rfl rfl (Nat.le_of_ble_eq_true rfl) ?_
              refine mt_within (by omega) (by omega) (by omega) (fun g24 g25 => ?_) (fun g26 => ?_) (fun g27 => ?_)
              · refine pw_iret rfl rfl rfl ?_
                refine pw_ifT rfl (by decide) (show ¬ 1 = 0 by decide) ?_
                refine pw_steps 5 (s' := (89, [some (.ref 47), some (.int (ei_ (a))), some (.int (ei_ (k))), some (.int (ei_ (((60 * a) + (3 * k))))), u2], [.int ((ei_ (((60 * a) + (3 * k)))) + (ei_ (1))), .ref 70], m1)) rfl ?_
                refine pw_cv (congrArg (fun z_ : Int32 => ((89, [some (.ref 47), some (.int (ei_ (a))), some (.int (ei_ (k))), some (.int (ei_ (((60 * a) + (3 * k))))), u2], [.int z_, .ref 70], m1) : am_S)) (ei_add rfl rfl)) ?_
                refine pw_lld rfl rfl (by omega) (fun y28 (hy28 : y28 = vl_ m1 70 (((60 * a) + (3 * k)) + 1)) ry28 sy28 => ?_)
                replace hy28 : y28 = vl_ m0 70 (((60 * a) + (3 * k)) + 1) := hy28.trans (congrFun (sm_l hs) _)
                have b29 := hb3 (((60 * a) + (3 * k)) + 1) (by omega) (by omega)
                refine pw_steps 6 (s' := (99, [some (.ref 47), some (.int (ei_ (a))), some (.int (ei_ (k))), some (.int (ei_ (((60 * a) + (3 * k))))), some (.int ((el_ (y28)).toInt32))], [.int (ei_ (((60 * a) + (3 * k)))), .ref 70, .ref 47], m1)) rfl ?_
                refine pw_cv (congrArg (fun z_ : Int32 => ((99, [some (.ref 47), some (.int (ei_ (a))), some (.int (ei_ (k))), some (.int (ei_ (((60 * a) + (3 * k))))), some (.int z_)], [.int (ei_ (((60 * a) + (3 * k)))), .ref 70, .ref 47], m1) : am_S)) (ei_l2i rfl)) ?_
                refine pw_lld rfl rfl (by omega) (fun y30 (hy30 : y30 = vl_ m1 70 ((60 * a) + (3 * k))) ry30 sy30 => ?_)
                replace hy30 : y30 = vl_ m0 70 ((60 * a) + (3 * k)) := hy30.trans (congrFun (sm_l hs) _)
                have b31 := hb3 ((60 * a) + (3 * k)) (by omega) (by omega)
                refine pw_steps 1 (s' := (101, [some (.ref 47), some (.int (ei_ (a))), some (.int (ei_ (k))), some (.int (ei_ (((60 * a) + (3 * k))))), some (.int (ei_ (y28)))], [.int ((el_ (y30)).toInt32), .ref 47], m1)) rfl ?_
                refine pw_cv (congrArg (fun z_ : Int32 => ((101, [some (.ref 47), some (.int (ei_ (a))), some (.int (ei_ (k))), some (.int (ei_ (((60 * a) + (3 * k))))), some (.int (ei_ (y28)))], [.int z_, .ref 47], m1) : am_S)) (ei_l2i rfl)) ?_
                refine pw_call (As := [.int (ei_ (y30))]) (st := []) (k := 47) rfl rfl rfl rfl rfl (Nat.le_of_ble_eq_true rfl) ?_
                refine md_goes (p0) (p1) (hs) (p3) (p4) (by omega) (fun m132 g33 g34 => ?_)
                refine pw_steps 3 (s' := (110, [some (.ref 47), some (.int (ei_ (a))), some (.int (ei_ (k))), some (.int (ei_ (((60 * a) + (3 * k))))), some (.int (ei_ (y28)))], [.int (ei_ (y28)), .ref 52], m132)) rfl ?_
                refine pw_ild rfl rfl (by omega) (fun x35 (hx35 : x35 = vi_ m132 52 y28) rx35 sx35 => ?_)
                have ox35 := hx35
                replace hx35 : x35 = vi_ m1 52 y28 := hx35.trans (sm_v g33 rfl)
                replace hx35 : x35 = vi_ m0 52 y28 := hx35.trans (sm_v hs rfl)
                have b36 := p1 y28 (by omega) (by omega)
                refine pw_steps 6 (s' := (119, [some (.ref 47), some (.int (ei_ (a))), some (.int (ei_ (k))), some (.int (ei_ (((60 * a) + (3 * k))))), some (.int (ei_ (y28)))], [.int ((ei_ (((60 * a) + (3 * k)))) + (ei_ (2))), .ref 70, .long ((ei_ (x35)).toInt64)], m132)) rfl ?_
                refine pw_cv (congrArg (fun z_ : Int32 => ((119, [some (.ref 47), some (.int (ei_ (a))), some (.int (ei_ (k))), some (.int (ei_ (((60 * a) + (3 * k))))), some (.int (ei_ (y28)))], [.int z_, .ref 70, .long ((ei_ (x35)).toInt64)], m132) : am_S)) (ei_add rfl rfl)) ?_
                refine pw_cv (congrArg (fun z_ : Int64 => ((119, [some (.ref 47), some (.int (ei_ (a))), some (.int (ei_ (k))), some (.int (ei_ (((60 * a) + (3 * k))))), some (.int (ei_ (y28)))], [.int (ei_ ((((60 * a) + (3 * k)) + 2))), .ref 70, .long z_], m132) : am_S)) (el_i2l ⟨rx35, sx35⟩ rfl)) ?_
                refine pw_lld rfl rfl (by omega) (fun y37 (hy37 : y37 = vl_ m132 70 (((60 * a) + (3 * k)) + 2)) ry37 sy37 => ?_)
                replace hy37 : y37 = vl_ m1 70 (((60 * a) + (3 * k)) + 2) := hy37.trans (congrFun (sm_l g33) _)
                replace hy37 : y37 = vl_ m0 70 (((60 * a) + (3 * k)) + 2) := hy37.trans (congrFun (sm_l hs) _)
                have b38 := hb3 (((60 * a) + (3 * k)) + 2) (by omega) (by omega)
                refine pw_lcmp rfl rfl (by omega) ⟨ry37, sy37⟩ (fun (h39 : ¬ x35 = y37) => ?_) (fun (h39 : ¬ ¬ x35 = y37) => ?_)
                · refine pw_steps 1 (s' := (135, [some (.ref 47), some (.int (ei_ (a))), some (.int (ei_ (k))), some (.int (ei_ (((60 * a) + (3 * k))))), some (.int (ei_ (y28)))], [.int (ei_ (k))], m132)) rfl ?_
                  refine pw_iret rfl rfl rfl ?_
                  exact k0 k m132 (by refine Or.inl ⟨by omega, by omega, ?_, hv⟩; subst hy9; subst hy15; subst hy22; subst hy28; subst hy30; subst hy37; intro ⟨e1_, e2_, e3_, e4_, e5_⟩; have w_ := p1 _ e3_.1 e3_.2; omega) ((sm_tr hs (sm_le g33 pGo_Sc))) (by omega)
                · refine pw_steps 3 (s' := (130, [some (.ref 47), some (.int (ei_ (a))), some (.int (ei_ (k))), some (.int (ei_ (((60 * a) + (3 * k))))), some (.int (ei_ (y28)))], [.int (ei_ (y28)), .ref 57], m132)) rfl ?_
                  refine pw_ild rfl rfl (by omega) (fun x40 (hx40 : x40 = vi_ m132 57 y28) rx40 sx40 => ?_)
                  have b41 := g34 y28 (by omega) (by omega)
                  refine pw_if rfl ⟨rx40, sx40⟩ (fun (h42 : ¬ x40 = 0) => ?_) (fun (h42 : ¬ ¬ x40 = 0) => ?_)
                  · refine pw_steps 2 (s' := (2, [some (.ref 47), some (.int (ei_ (a))), some (.int ((ei_ (k)) + (ei_ (1)))), some (.int (ei_ (((60 * a) + (3 * k))))), some (.int (ei_ (y28)))], [], m132)) rfl ?_
                    refine pw_cv (congrArg (fun z_ : Int32 => ((2, [some (.ref 47), some (.int (ei_ (a))), some (.int z_), some (.int (ei_ (((60 * a) + (3 * k))))), some (.int (ei_ (y28)))], [], m132) : am_S)) (ei_add rfl rfl)) ?_
                    exact ih4 _ (by omega) (k + 1) (some (.int (ei_ (((60 * a) + (3 * k)))))) (some (.int (ei_ (y28)))) m132 rfl (by omega) ((sm_tr hs (sm_le g33 pGo_Sc))) (by subst hy9; subst hy15; subst hy22; subst hy28; subst hy30; subst hy37; exact al_s (by omega) hv rfl ⟨by omega, by omega, by omega, by omega, by omega⟩)
                  · refine pw_steps 1 (s' := (135, [some (.ref 47), some (.int (ei_ (a))), some (.int (ei_ (k))), some (.int (ei_ (((60 * a) + (3 * k))))), some (.int (ei_ (y28)))], [.int (ei_ (k))], m132)) rfl ?_
                    refine pw_iret rfl rfl rfl ?_
                    exact k0 k m132 (by refine Or.inl ⟨by omega, by omega, ?_, hv⟩; subst hy9; subst hy15; subst hy22; subst hy28; subst hy30; subst hy37; intro ⟨e1_, e2_, e3_, e4_, e5_⟩; have w_ := p1 _ e3_.1 e3_.2; omega) ((sm_tr hs (sm_le g33 pGo_Sc))) (by omega)
              · refine pw_iret rfl rfl rfl ?_
                refine pw_ifF rfl (by decide) (show ¬ (¬ 0 = 0) by decide) ?_
                refine pw_steps 1 (s' := (81, [some (.ref 47), some (.int (ei_ (a))), some (.int (ei_ (k))), some (.int (ei_ (((60 * a) + (3 * k))))), u2], [.int (ei_ (k))], m1)) rfl ?_
                refine pw_iret rfl rfl rfl ?_
                exact k0 k m1 (by refine Or.inl ⟨by omega, by omega, ?_, hv⟩; subst hy9; subst hy15; subst hy22; intro ⟨e1_, e2_, e3_, e4_, e5_⟩; have w_ := p1 _ e3_.1 e3_.2; omega) (hs) (by omega)
              · refine pw_iret rfl rfl rfl ?_
                refine pw_ifF rfl (by decide) (show ¬ (¬ 0 = 0) by decide) ?_
                refine pw_steps 1 (s' := (81, [some (.ref 47), some (.int (ei_ (a))), some (.int (ei_ (k))), some (.int (ei_ (((60 * a) + (3 * k))))), u2], [.int (ei_ (k))], m1)) rfl ?_
                refine pw_iret rfl rfl rfl ?_
                exact k0 k m1 (by refine Or.inl ⟨by omega, by omega, ?_, hv⟩; subst hy9; subst hy15; subst hy22; intro ⟨e1_, e2_, e3_, e4_, e5_⟩; have w_ := p1 _ e3_.1 e3_.2; omega) (hs) (by omega)
            · refine pw_iret rfl rfl rfl ?_
              refine pw_ifT rfl (by decide) (show 0 = 0 by decide) ?_
              refine pw_steps 1 (s' := (81, [some (.ref 47), some (.int (ei_ (a))), some (.int (ei_ (k))), some (.int (ei_ (((60 * a) + (3 * k))))), u2], [.int (ei_ (k))], m1)) rfl ?_
              refine pw_iret rfl rfl rfl ?_
              exact k0 k m1 (by refine Or.inl ⟨by omega, by omega, ?_, hv⟩; subst hy9; subst hy15; intro ⟨e1_, e2_, e3_, e4_, e5_⟩; omega) (hs) (by omega)
            · refine pw_iret rfl rfl rfl ?_
              refine pw_ifT rfl (by decide) (show 0 = 0 by decide) ?_
              refine pw_steps 1 (s' := (81, [some (.ref 47), some (.int (ei_ (a))), some (.int (ei_ (k))), some (.int (ei_ (((60 * a) + (3 * k))))), u2], [.int (ei_ (k))], m1)) rfl ?_
              refine pw_iret rfl rfl rfl ?_
              exact k0 k m1 (by refine Or.inl ⟨by omega, by omega, ?_, hv⟩; subst hy9; subst hy15; intro ⟨e1_, e2_, e3_, e4_, e5_⟩; omega) (hs) (by omega)
          · refine pw_iret rfl rfl rfl ?_
            refine pw_ifT rfl (by decide) (show 0 = 0 by decide) ?_
            refine pw_steps 1 (s' := (81, [some (.ref 47), some (.int (ei_ (a))), some (.int (ei_ (k))), some (.int (ei_ (((60 * a) + (3 * k))))), u2], [.int (ei_ (k))], m1)) rfl ?_
            refine pw_iret rfl rfl rfl ?_
            exact k0 k m1 (by refine Or.inl ⟨by omega, by omega, ?_, hv⟩; subst hy9; intro ⟨e1_, e2_, e3_, e4_, e5_⟩; omega) (hs) (by omega)
          · refine pw_iret rfl rfl rfl ?_
            refine pw_ifT rfl (by decide) (show 0 = 0 by decide) ?_
            refine pw_steps 1 (s' := (81, [some (.ref 47), some (.int (ei_ (a))), some (.int (ei_ (k))), some (.int (ei_ (((60 * a) + (3 * k))))), u2], [.int (ei_ (k))], m1)) rfl ?_
            refine pw_iret rfl rfl rfl ?_
            exact k0 k m1 (by refine Or.inl ⟨by omega, by omega, ?_, hv⟩; subst hy9; intro ⟨e1_, e2_, e3_, e4_, e5_⟩; omega) (hs) (by omega)
  exact L5 _ 0 none none m rfl (by omega) (p2) (by intro j a_ b_; omega)

set_option maxHeartbeats 4000000 in
set_option maxRecDepth 20000 in
theorem ms_judge {q : am_X} {d : Nat} {m : am_M} {Q : Option Value → am_M → Prop} {m0 : am_M} {a : Int}  (p0 : rP_ m0) (p1 : mW_ m0) (p2 : sm_ pSc m0 m) (p3 : rL_ m0) (p4 : mF_ m0) (p5 : rS_ m0) (p6 : vi_ m0 29 2 ≤ 50) (p7 : -2147483648 ≤ a ∧ a < 2147483648) (k0 : ∀ (x : Int) (m1 : am_M), (jm_ m0 a x) → (sm_ pSc m0 m1) → Q (some (.int (ei_ (x)))) m1) : pw_C q (d + 60) 233 [.ref 47, .int (ei_ (a))] m Q := by
  obtain ⟨hP1, hP2, hP3, hP4⟩ := id p0
  refine pw_intro (I := iX9_judge) (T := tX9_judge) rfl rfl rfl ?_
  refine pw_steps 2 (s' := (2, [some (.ref 47), some (.int (ei_ (a)))], [.int (ei_ (a)), .ref 47], m)) rfl ?_
  refine pw_call (As := [.int (ei_ (a))]) (st := []) (k := 47) rfl rfl rfl rfl rfl (Nat.le_of_ble_eq_true rfl) ?_
  refine pw_intro (I := iX9_bytesIs) (T := tX9_bytesIs) rfl rfl rfl ?_
  refine pw_steps 1 (s' := (1, [some (.ref 47), some (.int (ei_ (a)))], [.int (ei_ (a))], m)) rfl ?_
  refine pw_callS (As := [.int (ei_ (a))]) (st := []) rfl (by decide) rfl rfl (Nat.le_of_ble_eq_true rfl) ?_
  refine pw_intro (I := iX9_isShelf) (T := tX9_isShelf) rfl rfl rfl ?_
  refine pw_steps 4 (s' := (6, [some (.int (ei_ (a)))], [.long (el_ (5)), .long (el_ (0)), .long ((ei_ (a)).toInt64)], m)) rfl ?_
  refine pw_cv (congrArg (fun z_ : Int64 => ((6, [some (.int (ei_ (a)))], [.long (el_ (5)), .long (el_ (0)), .long z_], m) : am_S)) (el_i2l p7 rfl)) ?_
  refine pw_callS (As := [.long (el_ (a)), .long (el_ (0)), .long (el_ (5))]) (st := []) rfl (by decide) rfl rfl (Nat.le_of_ble_eq_true rfl) ?_
  refine mt_within (by omega) (by omega) (by omega) (fun g1 g2 => ?_) (fun g3 => ?_) (fun g4 => ?_)
  · refine pw_iret rfl rfl rfl ?_
    refine pw_ifT rfl (by decide) (show ¬ 1 = 0 by decide) ?_
    refine pw_steps 3 (s' := (16, [some (.ref 47), some (.int (ei_ (a)))], [.int (ei_ (a)), .ref 68], m)) rfl ?_
    refine pw_ild rfl rfl (by omega) (fun x5 (hx5 : x5 = vi_ m 68 a) rx5 sx5 => ?_)
    have ox5 := hx5
    replace hx5 : x5 = vi_ m0 68 a := hx5.trans (sm_v p2 rfl)
    refine pw_if rfl ⟨rx5, sx5⟩ (fun (h6 : 0 ≤ x5) => ?_) (fun (h6 : ¬ (0 ≤ x5)) => ?_)
    · refine pw_steps 3 (s' := (30, [some (.ref 47), some (.int (ei_ (a)))], [.int (ei_ (a)), .ref 68], m)) rfl ?_
      refine pw_ildE (x := x5) rfl rfl (by omega) ox5 ?_
      refine pw_steps 1 (s' := (33, [some (.ref 47), some (.int (ei_ (a)))], [.int (ei_ (50)), .int (ei_ (x5))], m)) rfl ?_
      refine pw_cmp rfl ⟨rx5, sx5⟩ (by decide) (fun (h7 : ¬ x5 = 50) => ?_) (fun (h7 : ¬ ¬ x5 = 50) => ?_)
      · refine pw_steps 1 (s' := (42, [some (.ref 47), some (.int (ei_ (a)))], [.int (ei_ ((-12)))], m)) rfl ?_
        refine pw_iret rfl rfl rfl ?_
        refine pw_ifF rfl (by decide) (show ¬ (0 ≤ (-12)) by decide) ?_
        refine pw_steps 2 (s' := (10, [some (.ref 47), some (.int (ei_ (a)))], [.int (ei_ (a)), .ref 47], m)) rfl ?_
        refine pw_call (As := [.int (ei_ (a))]) (st := []) (k := 47) rfl rfl rfl rfl rfl (Nat.le_of_ble_eq_true rfl) ?_
        refine pw_intro (I := iX9_bytesIs) (T := tX9_bytesIs) rfl rfl rfl ?_
        refine pw_steps 1 (s' := (1, [some (.ref 47), some (.int (ei_ (a)))], [.int (ei_ (a))], m)) rfl ?_
        refine pw_callS (As := [.int (ei_ (a))]) (st := []) rfl (by decide) rfl rfl (Nat.le_of_ble_eq_true rfl) ?_
        refine pw_intro (I := iX9_isShelf) (T := tX9_isShelf) rfl rfl rfl ?_
        refine pw_steps 4 (s' := (6, [some (.int (ei_ (a)))], [.long (el_ (5)), .long (el_ (0)), .long ((ei_ (a)).toInt64)], m)) rfl ?_
        refine pw_cv (congrArg (fun z_ : Int64 => ((6, [some (.int (ei_ (a)))], [.long (el_ (5)), .long (el_ (0)), .long z_], m) : am_S)) (el_i2l p7 rfl)) ?_
        refine pw_callS (As := [.long (el_ (a)), .long (el_ (0)), .long (el_ (5))]) (st := []) rfl (by decide) rfl rfl (Nat.le_of_ble_eq_true rfl) ?_
        refine mt_within (by omega) (by omega) (by omega) (fun g8 g9 => ?_) (fun g10 => ?_) (fun g11 => ?_)
        · refine pw_iret rfl rfl rfl ?_
          refine pw_ifT rfl (by decide) (show ¬ 1 = 0 by decide) ?_
          refine pw_steps 3 (s' := (16, [some (.ref 47), some (.int (ei_ (a)))], [.int (ei_ (a)), .ref 68], m)) rfl ?_
          refine pw_ildE (x := x5) rfl rfl (by omega) ox5 ?_
          refine pw_ifT rfl ⟨rx5, sx5⟩ (show 0 ≤ x5 by omega) ?_
          refine pw_steps 3 (s' := (30, [some (.ref 47), some (.int (ei_ (a)))], [.int (ei_ (a)), .ref 68], m)) rfl ?_
          refine pw_ildE (x := x5) rfl rfl (by omega) ox5 ?_
          refine pw_steps 1 (s' := (33, [some (.ref 47), some (.int (ei_ (a)))], [.int (ei_ (50)), .int (ei_ (x5))], m)) rfl ?_
          refine pw_cmpT rfl ⟨rx5, sx5⟩ (by decide) (show ¬ x5 = 50 by omega) ?_
          refine pw_steps 1 (s' := (42, [some (.ref 47), some (.int (ei_ (a)))], [.int (ei_ ((-12)))], m)) rfl ?_
          refine pw_iret rfl rfl rfl ?_
          refine pw_steps 1 (s' := (21, [some (.ref 47), some (.int (ei_ (a)))], [.int (ei_ ((-12)))], m)) rfl ?_
          refine pw_iret rfl rfl rfl ?_
          exact k0 (-12) m (by exact Or.inr (Or.inr (Or.inl ⟨by omega, by omega, by omega, rfl⟩))) (p2)
        · exact False.elim (by omega)
        · exact False.elim (by omega)
      · refine pw_steps 2 (s' := (42, [some (.ref 47), some (.int (ei_ (a)))], [.int (ei_ (1))], m)) rfl ?_
        refine pw_iret rfl rfl rfl ?_
        refine pw_ifT rfl (by decide) (show 0 ≤ 1 by decide) ?_
        refine pw_steps 2 (s' := (18, [some (.ref 47), some (.int (ei_ (a)))], [.int (ei_ (a)), .ref 47], m)) rfl ?_
        refine pw_call (As := [.int (ei_ (a))]) (st := []) (k := 47) rfl rfl rfl rfl rfl (Nat.le_of_ble_eq_true rfl) ?_
        refine ms_first (p0) (p1) (p2) (p3) (p4) (sb_of p5 p6 (by omega) (by omega)) (p7) (fun x12 m113 g14 g15 g16 => ?_)
        refine pw_iret rfl rfl rfl ?_
        exact k0 x12 m113 (by exact Or.inr (Or.inr (Or.inr ⟨by omega, by omega, g14⟩))) (g15)
    · refine pw_steps 2 (s' := (42, [some (.ref 47), some (.int (ei_ (a)))], [.int (ei_ ((-11)))], m)) rfl ?_
      refine pw_iret rfl rfl rfl ?_
      refine pw_ifF rfl (by decide) (show ¬ (0 ≤ (-11)) by decide) ?_
      refine pw_steps 2 (s' := (10, [some (.ref 47), some (.int (ei_ (a)))], [.int (ei_ (a)), .ref 47], m)) rfl ?_
      refine pw_call (As := [.int (ei_ (a))]) (st := []) (k := 47) rfl rfl rfl rfl rfl (Nat.le_of_ble_eq_true rfl) ?_
      refine pw_intro (I := iX9_bytesIs) (T := tX9_bytesIs) rfl rfl rfl ?_
      refine pw_steps 1 (s' := (1, [some (.ref 47), some (.int (ei_ (a)))], [.int (ei_ (a))], m)) rfl ?_
      refine pw_callS (As := [.int (ei_ (a))]) (st := []) rfl (by decide) rfl rfl (Nat.le_of_ble_eq_true rfl) ?_
      refine pw_intro (I := iX9_isShelf) (T := tX9_isShelf) rfl rfl rfl ?_
      refine pw_steps 4 (s' := (6, [some (.int (ei_ (a)))], [.long (el_ (5)), .long (el_ (0)), .long ((ei_ (a)).toInt64)], m)) rfl ?_
      refine pw_cv (congrArg (fun z_ : Int64 => ((6, [some (.int (ei_ (a)))], [.long (el_ (5)), .long (el_ (0)), .long z_], m) : am_S)) (el_i2l p7 rfl)) ?_
      refine pw_callS (As := [.long (el_ (a)), .long (el_ (0)), .long (el_ (5))]) (st := []) rfl (by decide) rfl rfl (Nat.le_of_ble_eq_true rfl) ?_
      refine mt_within (by omega) (by omega) (by omega) (fun g17 g18 => ?_) (fun g19 => ?_) (fun g20 => ?_)
      · refine pw_iret rfl rfl rfl ?_
        refine pw_ifT rfl (by decide) (show ¬ 1 = 0 by decide) ?_
        refine pw_steps 3 (s' := (16, [some (.ref 47), some (.int (ei_ (a)))], [.int (ei_ (a)), .ref 68], m)) rfl ?_
        refine pw_ildE (x := x5) rfl rfl (by omega) ox5 ?_
        refine pw_ifF rfl ⟨rx5, sx5⟩ (show ¬ (0 ≤ x5) by omega) ?_
        refine pw_steps 2 (s' := (42, [some (.ref 47), some (.int (ei_ (a)))], [.int (ei_ ((-11)))], m)) rfl ?_
        refine pw_iret rfl rfl rfl ?_
        refine pw_steps 1 (s' := (21, [some (.ref 47), some (.int (ei_ (a)))], [.int (ei_ ((-11)))], m)) rfl ?_
        refine pw_iret rfl rfl rfl ?_
        exact k0 (-11) m (by exact Or.inr (Or.inl ⟨by omega, by omega, rfl⟩)) (p2)
      · exact False.elim (by omega)
      · exact False.elim (by omega)
  · refine pw_iret rfl rfl rfl ?_
    refine pw_ifF rfl (by decide) (show ¬ (¬ 0 = 0) by decide) ?_
    refine pw_steps 2 (s' := (42, [some (.ref 47), some (.int (ei_ (a)))], [.int (ei_ ((-1)))], m)) rfl ?_
    refine pw_iret rfl rfl rfl ?_
    refine pw_ifF rfl (by decide) (show ¬ (0 ≤ (-1)) by decide) ?_
    refine pw_steps 2 (s' := (10, [some (.ref 47), some (.int (ei_ (a)))], [.int (ei_ (a)), .ref 47], m)) rfl ?_
    refine pw_call (As := [.int (ei_ (a))]) (st := []) (k := 47) rfl rfl rfl rfl rfl (Nat.le_of_ble_eq_true rfl) ?_
    refine pw_intro (I := iX9_bytesIs) (T := tX9_bytesIs) rfl rfl rfl ?_
    refine pw_steps 1 (s' := (1, [some (.ref 47), some (.int (ei_ (a)))], [.int (ei_ (a))], m)) rfl ?_
    refine pw_callS (As := [.int (ei_ (a))]) (st := []) rfl (by decide) rfl rfl (Nat.le_of_ble_eq_true rfl) ?_
    refine pw_intro (I := iX9_isShelf) (T := tX9_isShelf) rfl rfl rfl ?_
    refine pw_steps 4 (s' := (6, [some (.int (ei_ (a)))], [.long (el_ (5)), .long (el_ (0)), .long ((ei_ (a)).toInt64)], m)) rfl ?_
    refine pw_cv (congrArg (fun z_ : Int64 => ((6, [some (.int (ei_ (a)))], [.long (el_ (5)), .long (el_ (0)), .long z_], m) : am_S)) (el_i2l p7 rfl)) ?_
    refine pw_callS (As := [.long (el_ (a)), .long (el_ (0)), .long (el_ (5))]) (st := []) rfl (by decide) rfl rfl (Nat.le_of_ble_eq_true rfl) ?_
    refine mt_within (by omega) (by omega) (by omega) (fun g21 g22 => ?_) (fun g23 => ?_) (fun g24 => ?_)
    · exact False.elim (by omega)
    · refine pw_iret rfl rfl rfl ?_
      refine pw_ifF rfl (by decide) (show ¬ (¬ 0 = 0) by decide) ?_
      refine pw_steps 2 (s' := (42, [some (.ref 47), some (.int (ei_ (a)))], [.int (ei_ ((-1)))], m)) rfl ?_
      refine pw_iret rfl rfl rfl ?_
      refine pw_steps 1 (s' := (21, [some (.ref 47), some (.int (ei_ (a)))], [.int (ei_ ((-1)))], m)) rfl ?_
      refine pw_iret rfl rfl rfl ?_
      exact k0 (-1) m (by exact Or.inl ⟨by omega, rfl⟩) (p2)
    · exact False.elim (by omega)
  · refine pw_iret rfl rfl rfl ?_
    refine pw_ifF rfl (by decide) (show ¬ (¬ 0 = 0) by decide) ?_
    refine pw_steps 2 (s' := (42, [some (.ref 47), some (.int (ei_ (a)))], [.int (ei_ ((-1)))], m)) rfl ?_
    refine pw_iret rfl rfl rfl ?_
    refine pw_ifF rfl (by decide) (show ¬ (0 ≤ (-1)) by decide) ?_
    refine pw_steps 2 (s' := (10, [some (.ref 47), some (.int (ei_ (a)))], [.int (ei_ (a)), .ref 47], m)) rfl ?_
    refine pw_call (As := [.int (ei_ (a))]) (st := []) (k := 47) rfl rfl rfl rfl rfl (Nat.le_of_ble_eq_true rfl) ?_
    refine pw_intro (I := iX9_bytesIs) (T := tX9_bytesIs) rfl rfl rfl ?_
    refine pw_steps 1 (s' := (1, [some (.ref 47), some (.int (ei_ (a)))], [.int (ei_ (a))], m)) rfl ?_
    refine pw_callS (As := [.int (ei_ (a))]) (st := []) rfl (by decide) rfl rfl (Nat.le_of_ble_eq_true rfl) ?_
    refine pw_intro (I := iX9_isShelf) (T := tX9_isShelf) rfl rfl rfl ?_
    refine pw_steps 4 (s' := (6, [some (.int (ei_ (a)))], [.long (el_ (5)), .long (el_ (0)), .long ((ei_ (a)).toInt64)], m)) rfl ?_
    refine pw_cv (congrArg (fun z_ : Int64 => ((6, [some (.int (ei_ (a)))], [.long (el_ (5)), .long (el_ (0)), .long z_], m) : am_S)) (el_i2l p7 rfl)) ?_
    refine pw_callS (As := [.long (el_ (a)), .long (el_ (0)), .long (el_ (5))]) (st := []) rfl (by decide) rfl rfl (Nat.le_of_ble_eq_true rfl) ?_
    refine mt_within (by omega) (by omega) (by omega) (fun g25 g26 => ?_) (fun g27 => ?_) (fun g28 => ?_)
    · exact False.elim (by omega)
    · exact False.elim (by omega)
    · refine pw_iret rfl rfl rfl ?_
      refine pw_ifF rfl (by decide) (show ¬ (¬ 0 = 0) by decide) ?_
      refine pw_steps 2 (s' := (42, [some (.ref 47), some (.int (ei_ (a)))], [.int (ei_ ((-1)))], m)) rfl ?_
      refine pw_iret rfl rfl rfl ?_
      refine pw_steps 1 (s' := (21, [some (.ref 47), some (.int (ei_ (a)))], [.int (ei_ ((-1)))], m)) rfl ?_
      refine pw_iret rfl rfl rfl ?_
      exact k0 (-1) m (by exact Or.inl ⟨by omega, rfl⟩) (p2)

theorem op_judge {q : am_X} {d : Nat} {m : am_M} {a : Int} (q0 : -2147483648 ≤ a ∧ a < 2147483648) (hR : rR_ m) : pw_C q (d + 60) 101 [.ref 0, .int (ei_ a)] m (fun r1 m1 => pw_C q (d + 60) 233 [.ref 47, .int (ei_ a)] m1 (fun r2 m2 => ∃ x : Int, r1 = some (.int (ei_ x)) ∧ r2 = some (.int (ei_ x)) ∧ rR_ m2)) := by
  obtain ⟨hp, hd, hi, ht, hl, hz, hc, ha, hs⟩ := id hR
  have h50 : vi_ m 29 2 ≤ 50 := by obtain ⟨ha1, ha2, ha3, ha4, ha5, ha6⟩ := id ha; omega
  refine cs_judge hp hd hz hs (sm_rfl m) q0 (fun x m1 e1 g1 => ?_)
  refine ms_judge hp (mW_of hp hd) g1 hl (mF_of hp hd) hs h50 q0 (fun y m2 e2 g2 => ?_)
  exact ⟨x, rfl, by rw [js_jm hp hd hs h50 e1 e2], rR_sm g2 hR⟩

