
theorem rS_sft {m m2 : am_M} {a b i j n : Int} (h : rS_ m) (ha : 0 ≤ a ∧ a < 6) (hb : 0 ≤ b ∧ b < 6) (h0 : 0 ≤ vi_ m (sf_ a) 0) (h00 : vi_ m (sf_ a) 0 = vi_ m (sf_ b) 0) (hn : 0 ≤ n) (hi : 0 ≤ i ∧ i + n ≤ vi_ m (sf_ a) 2) (hj : 0 ≤ j ∧ j + n ≤ vi_ m (sf_ b) 2) (s : sl2_ 70 (cl_ m (sf_ a + 1) (sf_ b + 1) i j n) m2) (hv : ∀ x, 0 ≤ x → x < n → vl_ m2 70 (60 * b + j + x) = vl_ (cl_ m (sf_ a + 1) (sf_ b + 1) i j n) 70 (60 * a + i + x)) (hw : ∀ x, 0 ≤ x → (x < 60 * b + j ∨ 60 * b + j + n ≤ x) → vl_ m2 70 x = vl_ (cl_ m (sf_ a + 1) (sf_ b + 1) i j n) 70 x) : rS_ m2 := by
  intro d h1 h2
  have hra := sf_rg ha
  have hrb := sf_rg hb
  have hrd := sf_rg ⟨h1, h2⟩
  have f : ∀ c, vi_ m2 c = vi_ m c := fun c => (sl2_f s).trans rfl
  have l70 : vl_ (cl_ m (sf_ a + 1) (sf_ b + 1) i j n) 70 = vl_ m 70 := vl_cn (by omega)
  rw [l70] at hv hw
  obtain ⟨ta1, ta2, ta3⟩ := h a ha.1 ha.2
  obtain ⟨tb1, tb2, tb3⟩ := h b hb.1 hb.2
  obtain ⟨t1, t2, t3⟩ := h d h1 h2
  have ta4 : ∀ y, 0 ≤ y → y < vi_ m (sf_ a) 2 → vl_ m 70 (60 * a + y) = vl_ m (sf_ a + 1) y ∧ (vi_ m (sf_ a) 0 = 0 → -128 ≤ vl_ m (sf_ a + 1) y ∧ vl_ m (sf_ a + 1) y ≤ 127) := by
    rcases ta3 with t | t | t
    · omega
    · omega
    · exact t.2.2.2
  unfold rs_
  rw [f, f, f, f]
  refine ⟨t1, t2, ?_⟩
  rcases t3 with t3 | t3 | ⟨t3, t4, t5, t6⟩
  · exact Or.inl t3
  · exact Or.inr (Or.inl t3)
  · refine Or.inr (Or.inr ⟨t3, t4, t5, fun y y1 y2 => ?_⟩)
    have t7 := t6 y y1 y2
    rw [sl2_l s (show sf_ d + 1 ≠ 70 by omega) (show sf_ d + 1 ≠ 71 by omega)]
    by_cases e : d = b
    · subst e
      rw [vl_cl hi.1 hj.1 hn y1]
      by_cases c : j ≤ y ∧ y < j + n
      · rw [if_pos c]
        have e1 := hv (y - j) (by omega) (by omega)
        rw [show 60 * d + j + (y - j) = 60 * d + y by omega, show 60 * a + i + (y - j) = 60 * a + (i + (y - j)) by omega] at e1
        have e2 := ta4 (i + (y - j)) (by omega) (by omega)
        rw [e1, e2.1]
        exact ⟨rfl, fun z => e2.2 (by omega)⟩
      · rw [if_neg c, hw (60 * d + y) (by omega) (by omega)]
        exact t7
    · rw [vl_cn (show sf_ d + 1 ≠ sf_ b + 1 by have := sf_ne hb.1 h1 e; omega), hw (60 * d + y) (by omega) (by omega)]
      exact t7

set_option maxHeartbeats 4000000 in
set_option maxRecDepth 20000 in
theorem op_shift {q : am_X} {d : Nat} {m : am_M} {a : Int} {i : Int} {b : Int} {j : Int} {n : Int} (q0 : -2147483648 ≤ a ∧ a < 2147483648) (q1 : -2147483648 ≤ i ∧ i < 2147483648) (q2 : -2147483648 ≤ b ∧ b < 2147483648) (q3 : -2147483648 ≤ j ∧ j < 2147483648) (q4 : -2147483648 ≤ n ∧ n < 2147483648) (hR : rR_ m) : pw_C q (d + 60) 161 [.ref 0, .int (ei_ (a)), .int (ei_ (i)), .int (ei_ (b)), .int (ei_ (j)), .int (ei_ (n))] m (fun r1 m1 => pw_C q (d + 60) 259 [.ref 47, .int (ei_ (a)), .int (ei_ (i)), .int (ei_ (b)), .int (ei_ (j)), .int (ei_ (n))] m1 (fun r2 m2 => ∃ x : Int, r1 = some (.int (ei_ x)) ∧ r2 = some (.int (ei_ x)) ∧ rR_ m2)) := by
  obtain ⟨hp, hd, hi, ht, hl, hz, hc, ha, hs⟩ := id hR
  obtain ⟨hP1, hP2, hP3, hP4⟩ := id hp
  have hmw := mW_of hp hd
  have hmf := mF_of hp hd
  obtain ⟨ha1, ha2, ha3, ha4, ha5, ha6⟩ := id ha
  refine pw_intro (I := iX8_shift) (T := tX8_shift) rfl rfl rfl ?_
  refine pw_steps 1 (s' := (1, [some (.ref 0), some (.int (ei_ (a))), some (.int (ei_ (i))), some (.int (ei_ (b))), some (.int (ei_ (j))), some (.int (ei_ (n))), none, none], [.int (ei_ (a))], m)) rfl ?_
  refine pw_callS (As := [.int (ei_ (a))]) (st := []) rfl (by decide) rfl rfl (Nat.le_of_ble_eq_true rfl) ?_
  refine pw_intro (I := iX8_isShelf) (T := tX8_isShelf) rfl rfl rfl ?_
  refine pw_steps 1 (s' := (1, [some (.int (ei_ (a)))], [.int (ei_ (a))], m)) rfl ?_
  refine pw_if rfl q0 (fun (h1 : a < 0) => ?_) (fun (h1 : ¬ (a < 0)) => ?_)
  · refine pw_steps 1 (s' := (15, [some (.int (ei_ (a)))], [.int (ei_ (0))], m)) rfl ?_
    refine pw_iret rfl rfl rfl ?_
    refine pw_ifT rfl (by decide) (show 0 = 0 by decide) ?_
    refine pw_steps 1 (s' := (15, [some (.ref 0), some (.int (ei_ (a))), some (.int (ei_ (i))), some (.int (ei_ (b))), some (.int (ei_ (j))), some (.int (ei_ (n))), none, none], [.int (ei_ ((-1)))], m)) rfl ?_
    refine pw_iret rfl rfl rfl ?_
    refine ms_shift (by omega) (by omega) (by omega) (by omega) (by omega) (fun h1_ h2_ => by have t_ := hs a h1_ h2_; have t1_ := t_.1; have t2_ := t_.2.1; show 0 ≤ vi_ m 69 a ∧ vi_ m 69 a ≤ 60; omega) (fun h1_ h2_ => by have t_ := hs b h1_ h2_; have t1_ := t_.1; have t2_ := t_.2.1; show 0 ≤ vi_ m 69 b ∧ vi_ m 69 b ≤ 60; omega) (fun m12 g3 g4 g5 g6 g7 g8 => ?_) (fun g9 => ?_) (fun g10 g11 => ?_) (fun g12 g13 => ?_) (fun g14 g15 => ?_)
    · exact False.elim (by omega)
    · have hx_ : ((-1) : Int) = (-1) := by rfl
      exact ⟨(-1), rfl, congrArg (fun z_ : Int => some (Value.int (ei_ z_))) hx_, hR⟩
    · exact False.elim (by omega)
    · exact False.elim (by omega)
    · exact False.elim (by omega)
  · refine pw_steps 2 (s' := (7, [some (.int (ei_ (a)))], [.int (ei_ (6)), .int (ei_ (a))], m)) rfl ?_
    refine pw_cmp rfl q0 (by decide) (fun (h16 : 6 ≤ a) => ?_) (fun (h16 : ¬ (6 ≤ a)) => ?_)
    · refine pw_steps 1 (s' := (15, [some (.int (ei_ (a)))], [.int (ei_ (0))], m)) rfl ?_
      refine pw_iret rfl rfl rfl ?_
      refine pw_ifT rfl (by decide) (show 0 = 0 by decide) ?_
      refine pw_steps 1 (s' := (15, [some (.ref 0), some (.int (ei_ (a))), some (.int (ei_ (i))), some (.int (ei_ (b))), some (.int (ei_ (j))), some (.int (ei_ (n))), none, none], [.int (ei_ ((-1)))], m)) rfl ?_
      refine pw_iret rfl rfl rfl ?_
      refine ms_shift (by omega) (by omega) (by omega) (by omega) (by omega) (fun h1_ h2_ => by have t_ := hs a h1_ h2_; have t1_ := t_.1; have t2_ := t_.2.1; show 0 ≤ vi_ m 69 a ∧ vi_ m 69 a ≤ 60; omega) (fun h1_ h2_ => by have t_ := hs b h1_ h2_; have t1_ := t_.1; have t2_ := t_.2.1; show 0 ≤ vi_ m 69 b ∧ vi_ m 69 b ≤ 60; omega) (fun m117 g18 g19 g20 g21 g22 g23 => ?_) (fun g24 => ?_) (fun g25 g26 => ?_) (fun g27 g28 => ?_) (fun g29 g30 => ?_)
      · exact False.elim (by omega)
      · have hx_ : ((-1) : Int) = (-1) := by rfl
        exact ⟨(-1), rfl, congrArg (fun z_ : Int => some (Value.int (ei_ z_))) hx_, hR⟩
      · exact False.elim (by omega)
      · exact False.elim (by omega)
      · exact False.elim (by omega)
    · refine pw_steps 2 (s' := (15, [some (.int (ei_ (a)))], [.int (ei_ (1))], m)) rfl ?_
      refine pw_iret rfl rfl rfl ?_
      refine pw_ifF rfl (by decide) (show ¬ (1 = 0) by decide) ?_
      refine pw_steps 1 (s' := (8, [some (.ref 0), some (.int (ei_ (a))), some (.int (ei_ (i))), some (.int (ei_ (b))), some (.int (ei_ (j))), some (.int (ei_ (n))), none, none], [.int (ei_ (b))], m)) rfl ?_
      refine pw_callS (As := [.int (ei_ (b))]) (st := []) rfl (by decide) rfl rfl (Nat.le_of_ble_eq_true rfl) ?_
      refine pw_intro (I := iX8_isShelf) (T := tX8_isShelf) rfl rfl rfl ?_
      refine pw_steps 1 (s' := (1, [some (.int (ei_ (b)))], [.int (ei_ (b))], m)) rfl ?_
      refine pw_if rfl q2 (fun (h31 : b < 0) => ?_) (fun (h31 : ¬ (b < 0)) => ?_)
      · refine pw_steps 1 (s' := (15, [some (.int (ei_ (b)))], [.int (ei_ (0))], m)) rfl ?_
        refine pw_iret rfl rfl rfl ?_
        refine pw_ifF rfl (by decide) (show ¬ (¬ 0 = 0) by decide) ?_
        refine pw_steps 1 (s' := (15, [some (.ref 0), some (.int (ei_ (a))), some (.int (ei_ (i))), some (.int (ei_ (b))), some (.int (ei_ (j))), some (.int (ei_ (n))), none, none], [.int (ei_ ((-1)))], m)) rfl ?_
        refine pw_iret rfl rfl rfl ?_
        refine ms_shift (by omega) (by omega) (by omega) (by omega) (by omega) (fun h1_ h2_ => by have t_ := hs a h1_ h2_; have t1_ := t_.1; have t2_ := t_.2.1; show 0 ≤ vi_ m 69 a ∧ vi_ m 69 a ≤ 60; omega) (fun h1_ h2_ => by have t_ := hs b h1_ h2_; have t1_ := t_.1; have t2_ := t_.2.1; show 0 ≤ vi_ m 69 b ∧ vi_ m 69 b ≤ 60; omega) (fun m132 g33 g34 g35 g36 g37 g38 => ?_) (fun g39 => ?_) (fun g40 g41 => ?_) (fun g42 g43 => ?_) (fun g44 g45 => ?_)
        · exact False.elim (by omega)
        · have hx_ : ((-1) : Int) = (-1) := by rfl
          exact ⟨(-1), rfl, congrArg (fun z_ : Int => some (Value.int (ei_ z_))) hx_, hR⟩
        · exact False.elim (by omega)
        · exact False.elim (by omega)
        · exact False.elim (by omega)
      · refine pw_steps 2 (s' := (7, [some (.int (ei_ (b)))], [.int (ei_ (6)), .int (ei_ (b))], m)) rfl ?_
        refine pw_cmp rfl q2 (by decide) (fun (h46 : 6 ≤ b) => ?_) (fun (h46 : ¬ (6 ≤ b)) => ?_)
        · refine pw_steps 1 (s' := (15, [some (.int (ei_ (b)))], [.int (ei_ (0))], m)) rfl ?_
          refine pw_iret rfl rfl rfl ?_
          refine pw_ifF rfl (by decide) (show ¬ (¬ 0 = 0) by decide) ?_
          refine pw_steps 1 (s' := (15, [some (.ref 0), some (.int (ei_ (a))), some (.int (ei_ (i))), some (.int (ei_ (b))), some (.int (ei_ (j))), some (.int (ei_ (n))), none, none], [.int (ei_ ((-1)))], m)) rfl ?_
          refine pw_iret rfl rfl rfl ?_
          refine ms_shift (by omega) (by omega) (by omega) (by omega) (by omega) (fun h1_ h2_ => by have t_ := hs a h1_ h2_; have t1_ := t_.1; have t2_ := t_.2.1; show 0 ≤ vi_ m 69 a ∧ vi_ m 69 a ≤ 60; omega) (fun h1_ h2_ => by have t_ := hs b h1_ h2_; have t1_ := t_.1; have t2_ := t_.2.1; show 0 ≤ vi_ m 69 b ∧ vi_ m 69 b ≤ 60; omega) (fun m147 g48 g49 g50 g51 g52 g53 => ?_) (fun g54 => ?_) (fun g55 g56 => ?_) (fun g57 g58 => ?_) (fun g59 g60 => ?_)
          · exact False.elim (by omega)
          · have hx_ : ((-1) : Int) = (-1) := by rfl
            exact ⟨(-1), rfl, congrArg (fun z_ : Int => some (Value.int (ei_ z_))) hx_, hR⟩
          · exact False.elim (by omega)
          · exact False.elim (by omega)
          · exact False.elim (by omega)
        · refine pw_steps 2 (s' := (15, [some (.int (ei_ (b)))], [.int (ei_ (1))], m)) rfl ?_
          refine pw_iret rfl rfl rfl ?_
          refine pw_ifT rfl (by decide) (show ¬ 1 = 0 by decide) ?_
          refine pw_steps 3 (s' := (21, [some (.ref 0), some (.int (ei_ (a))), some (.int (ei_ (i))), some (.int (ei_ (b))), some (.int (ei_ (j))), some (.int (ei_ (n))), none, none], [.int (ei_ (a)), .ref 32], m)) rfl ?_
          refine pw_ald (r0 := (sf_ a)) rfl rfl (sf_ln (by omega)) (sf_al (by omega)) ?_
          obtain ⟨hk61, hk62, hk63⟩ := hs a (by omega) (by omega)
          rcases hk63 with ⟨hb641, hb642, hb643⟩ | ⟨hb641, hb642, hb643, hb644, hb645⟩ | ⟨hb641, hb642, hb643, hb644⟩
          · refine pw_steps 4 (s' := (29, [some (.ref 0), some (.int (ei_ (a))), some (.int (ei_ (i))), some (.int (ei_ (b))), some (.int (ei_ (j))), some (.int (ei_ (n))), some (.ref ((sf_ a))), none], [.int (ei_ (b)), .ref 32], m)) rfl ?_
            refine pw_ald (r0 := (sf_ b)) rfl rfl (sf_ln (by omega)) (sf_al (by omega)) ?_
            obtain ⟨hk65, hk66, hk67⟩ := hs b (by omega) (by omega)
            rcases hk67 with ⟨hb681, hb682, hb683⟩ | ⟨hb681, hb682, hb683, hb684, hb685⟩ | ⟨hb681, hb682, hb683, hb684⟩
            · refine pw_steps 2 (s' := (34, [some (.ref 0), some (.int (ei_ (a))), some (.int (ei_ (i))), some (.int (ei_ (b))), some (.int (ei_ (j))), some (.int (ei_ (n))), some (.ref ((sf_ a))), some (.ref ((sf_ b)))], [.ref ((sf_ a))], m)) rfl ?_
              refine pw_call (As := []) (st := []) (k := (sf_ a)) rfl rfl rfl (sf_sk (by omega)) rfl (Nat.le_of_ble_eq_true rfl) ?_
              refine pw_intro (I := iX5_isEmpty) (T := tX5_isEmpty) rfl rfl rfl ?_
              refine pw_steps 1 (s' := (1, [some (.ref ((sf_ a)))], [.ref ((sf_ a))], m)) rfl ?_
              refine pw_get rfl (sf_ok (a := a) (by omega)).1 (fun x69 (hx69 : x69 = vi_ m (sf_ a) 0) rx69 sx69 => ?_)
              refine pw_steps 1 (s' := (5, [some (.ref ((sf_ a)))], [.int (ei_ ((-1))), .int (ei_ (x69))], m)) rfl ?_
              refine pw_cmpF rfl ⟨rx69, sx69⟩ (by decide) (show ¬ (¬ x69 = (-1)) by omega) ?_
              refine pw_steps 2 (s' := (13, [some (.ref ((sf_ a)))], [.int (ei_ (1))], m)) rfl ?_
              refine pw_iret rfl rfl rfl ?_
              refine pw_ifT rfl (by decide) (show ¬ 1 = 0 by decide) ?_
              refine pw_steps 1 (s' := (50, [some (.ref 0), some (.int (ei_ (a))), some (.int (ei_ (i))), some (.int (ei_ (b))), some (.int (ei_ (j))), some (.int (ei_ (n))), some (.ref ((sf_ a))), some (.ref ((sf_ b)))], [.int (ei_ ((-11)))], m)) rfl ?_
              refine pw_iret rfl rfl rfl ?_
              refine ms_shift (by omega) (by omega) (by omega) (by omega) (by omega) (fun h1_ h2_ => by have t_ := hs a h1_ h2_; have t1_ := t_.1; have t2_ := t_.2.1; show 0 ≤ vi_ m 69 a ∧ vi_ m 69 a ≤ 60; omega) (fun h1_ h2_ => by have t_ := hs b h1_ h2_; have t1_ := t_.1; have t2_ := t_.2.1; show 0 ≤ vi_ m 69 b ∧ vi_ m 69 b ≤ 60; omega) (fun m170 g71 g72 g73 g74 g75 g76 => ?_) (fun g77 => ?_) (fun g78 g79 => ?_) (fun g80 g81 => ?_) (fun g82 g83 => ?_)
              · exact False.elim (by omega)
              · exact False.elim (by omega)
              · have hx_ : ((-11) : Int) = (-11) := by rfl
                exact ⟨(-11), rfl, congrArg (fun z_ : Int => some (Value.int (ei_ z_))) hx_, hR⟩
              · exact False.elim (by omega)
              · exact False.elim (by omega)
            · refine pw_steps 2 (s' := (34, [some (.ref 0), some (.int (ei_ (a))), some (.int (ei_ (i))), some (.int (ei_ (b))), some (.int (ei_ (j))), some (.int (ei_ (n))), some (.ref ((sf_ a))), some (.ref ((sf_ b)))], [.ref ((sf_ a))], m)) rfl ?_
              refine pw_call (As := []) (st := []) (k := (sf_ a)) rfl rfl rfl (sf_sk (by omega)) rfl (Nat.le_of_ble_eq_true rfl) ?_
              refine pw_intro (I := iX5_isEmpty) (T := tX5_isEmpty) rfl rfl rfl ?_
              refine pw_steps 1 (s' := (1, [some (.ref ((sf_ a)))], [.ref ((sf_ a))], m)) rfl ?_
              refine pw_get rfl (sf_ok (a := a) (by omega)).1 (fun x84 (hx84 : x84 = vi_ m (sf_ a) 0) rx84 sx84 => ?_)
              refine pw_steps 1 (s' := (5, [some (.ref ((sf_ a)))], [.int (ei_ ((-1))), .int (ei_ (x84))], m)) rfl ?_
              refine pw_cmpF rfl ⟨rx84, sx84⟩ (by decide) (show ¬ (¬ x84 = (-1)) by omega) ?_
              refine pw_steps 2 (s' := (13, [some (.ref ((sf_ a)))], [.int (ei_ (1))], m)) rfl ?_
              refine pw_iret rfl rfl rfl ?_
              refine pw_ifT rfl (by decide) (show ¬ 1 = 0 by decide) ?_
              refine pw_steps 1 (s' := (50, [some (.ref 0), some (.int (ei_ (a))), some (.int (ei_ (i))), some (.int (ei_ (b))), some (.int (ei_ (j))), some (.int (ei_ (n))), some (.ref ((sf_ a))), some (.ref ((sf_ b)))], [.int (ei_ ((-11)))], m)) rfl ?_
              refine pw_iret rfl rfl rfl ?_
              refine ms_shift (by omega) (by omega) (by omega) (by omega) (by omega) (fun h1_ h2_ => by have t_ := hs a h1_ h2_; have t1_ := t_.1; have t2_ := t_.2.1; show 0 ≤ vi_ m 69 a ∧ vi_ m 69 a ≤ 60; omega) (fun h1_ h2_ => by have t_ := hs b h1_ h2_; have t1_ := t_.1; have t2_ := t_.2.1; show 0 ≤ vi_ m 69 b ∧ vi_ m 69 b ≤ 60; omega) (fun m185 g86 g87 g88 g89 g90 g91 => ?_) (fun g92 => ?_) (fun g93 g94 => ?_) (fun g95 g96 => ?_) (fun g97 g98 => ?_)
              · exact False.elim (by omega)
              · exact False.elim (by omega)
              · have hx_ : ((-11) : Int) = (-11) := by rfl
                exact ⟨(-11), rfl, congrArg (fun z_ : Int => some (Value.int (ei_ z_))) hx_, hR⟩
              · exact False.elim (by omega)
              · exact False.elim (by omega)
            · refine pw_steps 2 (s' := (34, [some (.ref 0), some (.int (ei_ (a))), some (.int (ei_ (i))), some (.int (ei_ (b))), some (.int (ei_ (j))), some (.int (ei_ (n))), some (.ref ((sf_ a))), some (.ref ((sf_ b)))], [.ref ((sf_ a))], m)) rfl ?_
              refine pw_call (As := []) (st := []) (k := (sf_ a)) rfl rfl rfl (sf_sk (by omega)) rfl (Nat.le_of_ble_eq_true rfl) ?_
              refine pw_intro (I := iX5_isEmpty) (T := tX5_isEmpty) rfl rfl rfl ?_
              refine pw_steps 1 (s' := (1, [some (.ref ((sf_ a)))], [.ref ((sf_ a))], m)) rfl ?_
              refine pw_get rfl (sf_ok (a := a) (by omega)).1 (fun x99 (hx99 : x99 = vi_ m (sf_ a) 0) rx99 sx99 => ?_)
              refine pw_steps 1 (s' := (5, [some (.ref ((sf_ a)))], [.int (ei_ ((-1))), .int (ei_ (x99))], m)) rfl ?_
              refine pw_cmpF rfl ⟨rx99, sx99⟩ (by decide) (show ¬ (¬ x99 = (-1)) by omega) ?_
              refine pw_steps 2 (s' := (13, [some (.ref ((sf_ a)))], [.int (ei_ (1))], m)) rfl ?_
              refine pw_iret rfl rfl rfl ?_
              refine pw_ifT rfl (by decide) (show ¬ 1 = 0 by decide) ?_
              refine pw_steps 1 (s' := (50, [some (.ref 0), some (.int (ei_ (a))), some (.int (ei_ (i))), some (.int (ei_ (b))), some (.int (ei_ (j))), some (.int (ei_ (n))), some (.ref ((sf_ a))), some (.ref ((sf_ b)))], [.int (ei_ ((-11)))], m)) rfl ?_
              refine pw_iret rfl rfl rfl ?_
              refine ms_shift (by omega) (by omega) (by omega) (by omega) (by omega) (fun h1_ h2_ => by have t_ := hs a h1_ h2_; have t1_ := t_.1; have t2_ := t_.2.1; show 0 ≤ vi_ m 69 a ∧ vi_ m 69 a ≤ 60; omega) (fun h1_ h2_ => by have t_ := hs b h1_ h2_; have t1_ := t_.1; have t2_ := t_.2.1; show 0 ≤ vi_ m 69 b ∧ vi_ m 69 b ≤ 60; omega) (fun m1100 g101 g102 g103 g104 g105 g106 => ?_) (fun g107 => ?_) (fun g108 g109 => ?_) (fun g110 g111 => ?_) (fun g112 g113 => ?_)
              · exact False.elim (by omega)
              · exact False.elim (by omega)
              · have hx_ : ((-11) : Int) = (-11) := by rfl
                exact ⟨(-11), rfl, congrArg (fun z_ : Int => some (Value.int (ei_ z_))) hx_, hR⟩
              · exact False.elim (by omega)
              · exact False.elim (by omega)
          · refine pw_steps 4 (s' := (29, [some (.ref 0), some (.int (ei_ (a))), some (.int (ei_ (i))), some (.int (ei_ (b))), some (.int (ei_ (j))), some (.int (ei_ (n))), some (.ref ((sf_ a))), none], [.int (ei_ (b)), .ref 32], m)) rfl ?_
            refine pw_ald (r0 := (sf_ b)) rfl rfl (sf_ln (by omega)) (sf_al (by omega)) ?_
            obtain ⟨hk114, hk115, hk116⟩ := hs b (by omega) (by omega)
            rcases hk116 with ⟨hb1171, hb1172, hb1173⟩ | ⟨hb1171, hb1172, hb1173, hb1174, hb1175⟩ | ⟨hb1171, hb1172, hb1173, hb1174⟩
            · refine pw_steps 2 (s' := (34, [some (.ref 0), some (.int (ei_ (a))), some (.int (ei_ (i))), some (.int (ei_ (b))), some (.int (ei_ (j))), some (.int (ei_ (n))), some (.ref ((sf_ a))), some (.ref ((sf_ b)))], [.ref ((sf_ a))], m)) rfl ?_
              refine pw_call (As := []) (st := []) (k := (sf_ a)) rfl rfl rfl (sf_sk (by omega)) rfl (Nat.le_of_ble_eq_true rfl) ?_
              refine pw_intro (I := iX5_isEmpty) (T := tX5_isEmpty) rfl rfl rfl ?_
              refine pw_steps 1 (s' := (1, [some (.ref ((sf_ a)))], [.ref ((sf_ a))], m)) rfl ?_
              refine pw_get rfl (sf_ok (a := a) (by omega)).1 (fun x118 (hx118 : x118 = vi_ m (sf_ a) 0) rx118 sx118 => ?_)
              refine pw_steps 1 (s' := (5, [some (.ref ((sf_ a)))], [.int (ei_ ((-1))), .int (ei_ (x118))], m)) rfl ?_
              refine pw_cmpT rfl ⟨rx118, sx118⟩ (by decide) (show ¬ x118 = (-1) by omega) ?_
              refine pw_steps 1 (s' := (13, [some (.ref ((sf_ a)))], [.int (ei_ (0))], m)) rfl ?_
              refine pw_iret rfl rfl rfl ?_
              refine pw_ifF rfl (by decide) (show ¬ (¬ 0 = 0) by decide) ?_
              refine pw_steps 1 (s' := (42, [some (.ref 0), some (.int (ei_ (a))), some (.int (ei_ (i))), some (.int (ei_ (b))), some (.int (ei_ (j))), some (.int (ei_ (n))), some (.ref ((sf_ a))), some (.ref ((sf_ b)))], [.ref ((sf_ b))], m)) rfl ?_
              refine pw_call (As := []) (st := []) (k := (sf_ b)) rfl rfl rfl (sf_sk (by omega)) rfl (Nat.le_of_ble_eq_true rfl) ?_
              refine pw_intro (I := iX5_isEmpty) (T := tX5_isEmpty) rfl rfl rfl ?_
              refine pw_steps 1 (s' := (1, [some (.ref ((sf_ b)))], [.ref ((sf_ b))], m)) rfl ?_
              refine pw_get rfl (sf_ok (a := b) (by omega)).1 (fun x119 (hx119 : x119 = vi_ m (sf_ b) 0) rx119 sx119 => ?_)
              refine pw_steps 1 (s' := (5, [some (.ref ((sf_ b)))], [.int (ei_ ((-1))), .int (ei_ (x119))], m)) rfl ?_
              refine pw_cmpF rfl ⟨rx119, sx119⟩ (by decide) (show ¬ (¬ x119 = (-1)) by omega) ?_
              refine pw_steps 2 (s' := (13, [some (.ref ((sf_ b)))], [.int (ei_ (1))], m)) rfl ?_
              refine pw_iret rfl rfl rfl ?_
              refine pw_ifF rfl (by decide) (show ¬ (1 = 0) by decide) ?_
              refine pw_steps 1 (s' := (50, [some (.ref 0), some (.int (ei_ (a))), some (.int (ei_ (i))), some (.int (ei_ (b))), some (.int (ei_ (j))), some (.int (ei_ (n))), some (.ref ((sf_ a))), some (.ref ((sf_ b)))], [.int (ei_ ((-11)))], m)) rfl ?_
              refine pw_iret rfl rfl rfl ?_
              refine ms_shift (by omega) (by omega) (by omega) (by omega) (by omega) (fun h1_ h2_ => by have t_ := hs a h1_ h2_; have t1_ := t_.1; have t2_ := t_.2.1; show 0 ≤ vi_ m 69 a ∧ vi_ m 69 a ≤ 60; omega) (fun h1_ h2_ => by have t_ := hs b h1_ h2_; have t1_ := t_.1; have t2_ := t_.2.1; show 0 ≤ vi_ m 69 b ∧ vi_ m 69 b ≤ 60; omega) (fun m1120 g121 g122 g123 g124 g125 g126 => ?_) (fun g127 => ?_) (fun g128 g129 => ?_) (fun g130 g131 => ?_) (fun g132 g133 => ?_)
              · exact False.elim (by omega)
              · exact False.elim (by omega)
              · have hx_ : ((-11) : Int) = (-11) := by rfl
                exact ⟨(-11), rfl, congrArg (fun z_ : Int => some (Value.int (ei_ z_))) hx_, hR⟩
              · exact False.elim (by omega)
              · exact False.elim (by omega)
            · refine pw_steps 2 (s' := (34, [some (.ref 0), some (.int (ei_ (a))), some (.int (ei_ (i))), some (.int (ei_ (b))), some (.int (ei_ (j))), some (.int (ei_ (n))), some (.ref ((sf_ a))), some (.ref ((sf_ b)))], [.ref ((sf_ a))], m)) rfl ?_
              refine pw_call (As := []) (st := []) (k := (sf_ a)) rfl rfl rfl (sf_sk (by omega)) rfl (Nat.le_of_ble_eq_true rfl) ?_
              refine pw_intro (I := iX5_isEmpty) (T := tX5_isEmpty) rfl rfl rfl ?_
              refine pw_steps 1 (s' := (1, [some (.ref ((sf_ a)))], [.ref ((sf_ a))], m)) rfl ?_
              refine pw_get rfl (sf_ok (a := a) (by omega)).1 (fun x134 (hx134 : x134 = vi_ m (sf_ a) 0) rx134 sx134 => ?_)
              refine pw_steps 1 (s' := (5, [some (.ref ((sf_ a)))], [.int (ei_ ((-1))), .int (ei_ (x134))], m)) rfl ?_
              refine pw_cmpT rfl ⟨rx134, sx134⟩ (by decide) (show ¬ x134 = (-1) by omega) ?_
              refine pw_steps 1 (s' := (13, [some (.ref ((sf_ a)))], [.int (ei_ (0))], m)) rfl ?_
              refine pw_iret rfl rfl rfl ?_
              refine pw_ifF rfl (by decide) (show ¬ (¬ 0 = 0) by decide) ?_
              refine pw_steps 1 (s' := (42, [some (.ref 0), some (.int (ei_ (a))), some (.int (ei_ (i))), some (.int (ei_ (b))), some (.int (ei_ (j))), some (.int (ei_ (n))), some (.ref ((sf_ a))), some (.ref ((sf_ b)))], [.ref ((sf_ b))], m)) rfl ?_
              refine pw_call (As := []) (st := []) (k := (sf_ b)) rfl rfl rfl (sf_sk (by omega)) rfl (Nat.le_of_ble_eq_true rfl) ?_
              refine pw_intro (I := iX5_isEmpty) (T := tX5_isEmpty) rfl rfl rfl ?_
              refine pw_steps 1 (s' := (1, [some (.ref ((sf_ b)))], [.ref ((sf_ b))], m)) rfl ?_
              refine pw_get rfl (sf_ok (a := b) (by omega)).1 (fun x135 (hx135 : x135 = vi_ m (sf_ b) 0) rx135 sx135 => ?_)
              refine pw_steps 1 (s' := (5, [some (.ref ((sf_ b)))], [.int (ei_ ((-1))), .int (ei_ (x135))], m)) rfl ?_
              refine pw_cmpT rfl ⟨rx135, sx135⟩ (by decide) (show ¬ x135 = (-1) by omega) ?_
              refine pw_steps 1 (s' := (13, [some (.ref ((sf_ b)))], [.int (ei_ (0))], m)) rfl ?_
              refine pw_iret rfl rfl rfl ?_
              refine pw_ifT rfl (by decide) (show 0 = 0 by decide) ?_
              refine pw_steps 1 (s' := (53, [some (.ref 0), some (.int (ei_ (a))), some (.int (ei_ (i))), some (.int (ei_ (b))), some (.int (ei_ (j))), some (.int (ei_ (n))), some (.ref ((sf_ a))), some (.ref ((sf_ b)))], [.ref ((sf_ a))], m)) rfl ?_
              refine pw_call (As := []) (st := []) (k := (sf_ a)) rfl rfl rfl (sf_sk (by omega)) rfl (Nat.le_of_ble_eq_true rfl) ?_
              refine pw_intro (I := iX5_isRow) (T := tX5_isRow) rfl rfl rfl ?_
              refine pw_steps 1 (s' := (1, [some (.ref ((sf_ a)))], [.ref ((sf_ a))], m)) rfl ?_
              refine pw_getE (x := x134) rfl (sf_ok (a := a) (by omega)).1 hx134 ?_
              refine pw_ifT rfl ⟨rx134, sx134⟩ (show x134 < 0 by omega) ?_
              refine pw_steps 1 (s' := (12, [some (.ref ((sf_ a)))], [.int (ei_ (0))], m)) rfl ?_
              refine pw_iret rfl rfl rfl ?_
              refine pw_ifT rfl (by decide) (show 0 = 0 by decide) ?_
              refine pw_steps 1 (s' := (71, [some (.ref 0), some (.int (ei_ (a))), some (.int (ei_ (i))), some (.int (ei_ (b))), some (.int (ei_ (j))), some (.int (ei_ (n))), some (.ref ((sf_ a))), some (.ref ((sf_ b)))], [.int (ei_ ((-12)))], m)) rfl ?_
              refine pw_iret rfl rfl rfl ?_
              refine ms_shift (by omega) (by omega) (by omega) (by omega) (by omega) (fun h1_ h2_ => by have t_ := hs a h1_ h2_; have t1_ := t_.1; have t2_ := t_.2.1; show 0 ≤ vi_ m 69 a ∧ vi_ m 69 a ≤ 60; omega) (fun h1_ h2_ => by have t_ := hs b h1_ h2_; have t1_ := t_.1; have t2_ := t_.2.1; show 0 ≤ vi_ m 69 b ∧ vi_ m 69 b ≤ 60; omega) (fun m1136 g137 g138 g139 g140 g141 g142 => ?_) (fun g143 => ?_) (fun g144 g145 => ?_) (fun g146 g147 => ?_) (fun g148 g149 => ?_)
              · exact False.elim (by omega)
              · exact False.elim (by omega)
              · exact False.elim (by omega)
              · have hx_ : ((-12) : Int) = (-12) := by rfl
                exact ⟨(-12), rfl, congrArg (fun z_ : Int => some (Value.int (ei_ z_))) hx_, hR⟩
              · exact False.elim (by omega)
            · refine pw_steps 2 (s' := (34, [some (.ref 0), some (.int (ei_ (a))), some (.int (ei_ (i))), some (.int (ei_ (b))), some (.int (ei_ (j))), some (.int (ei_ (n))), some (.ref ((sf_ a))), some (.ref ((sf_ b)))], [.ref ((sf_ a))], m)) rfl ?_
              refine pw_call (As := []) (st := []) (k := (sf_ a)) rfl rfl rfl (sf_sk (by omega)) rfl (Nat.le_of_ble_eq_true rfl) ?_
              refine pw_intro (I := iX5_isEmpty) (T := tX5_isEmpty) rfl rfl rfl ?_
              refine pw_steps 1 (s' := (1, [some (.ref ((sf_ a)))], [.ref ((sf_ a))], m)) rfl ?_
              refine pw_get rfl (sf_ok (a := a) (by omega)).1 (fun x150 (hx150 : x150 = vi_ m (sf_ a) 0) rx150 sx150 => ?_)
              refine pw_steps 1 (s' := (5, [some (.ref ((sf_ a)))], [.int (ei_ ((-1))), .int (ei_ (x150))], m)) rfl ?_
              refine pw_cmpT rfl ⟨rx150, sx150⟩ (by decide) (show ¬ x150 = (-1) by omega) ?_
              refine pw_steps 1 (s' := (13, [some (.ref ((sf_ a)))], [.int (ei_ (0))], m)) rfl ?_
              refine pw_iret rfl rfl rfl ?_
              refine pw_ifF rfl (by decide) (show ¬ (¬ 0 = 0) by decide) ?_
              refine pw_steps 1 (s' := (42, [some (.ref 0), some (.int (ei_ (a))), some (.int (ei_ (i))), some (.int (ei_ (b))), some (.int (ei_ (j))), some (.int (ei_ (n))), some (.ref ((sf_ a))), some (.ref ((sf_ b)))], [.ref ((sf_ b))], m)) rfl ?_
              refine pw_call (As := []) (st := []) (k := (sf_ b)) rfl rfl rfl (sf_sk (by omega)) rfl (Nat.le_of_ble_eq_true rfl) ?_
              refine pw_intro (I := iX5_isEmpty) (T := tX5_isEmpty) rfl rfl rfl ?_
              refine pw_steps 1 (s' := (1, [some (.ref ((sf_ b)))], [.ref ((sf_ b))], m)) rfl ?_
              refine pw_get rfl (sf_ok (a := b) (by omega)).1 (fun x151 (hx151 : x151 = vi_ m (sf_ b) 0) rx151 sx151 => ?_)
              refine pw_steps 1 (s' := (5, [some (.ref ((sf_ b)))], [.int (ei_ ((-1))), .int (ei_ (x151))], m)) rfl ?_
              refine pw_cmpT rfl ⟨rx151, sx151⟩ (by decide) (show ¬ x151 = (-1) by omega) ?_
              refine pw_steps 1 (s' := (13, [some (.ref ((sf_ b)))], [.int (ei_ (0))], m)) rfl ?_
              refine pw_iret rfl rfl rfl ?_
              refine pw_ifT rfl (by decide) (show 0 = 0 by decide) ?_
              refine pw_steps 1 (s' := (53, [some (.ref 0), some (.int (ei_ (a))), some (.int (ei_ (i))), some (.int (ei_ (b))), some (.int (ei_ (j))), some (.int (ei_ (n))), some (.ref ((sf_ a))), some (.ref ((sf_ b)))], [.ref ((sf_ a))], m)) rfl ?_
              refine pw_call (As := []) (st := []) (k := (sf_ a)) rfl rfl rfl (sf_sk (by omega)) rfl (Nat.le_of_ble_eq_true rfl) ?_
              refine pw_intro (I := iX5_isRow) (T := tX5_isRow) rfl rfl rfl ?_
              refine pw_steps 1 (s' := (1, [some (.ref ((sf_ a)))], [.ref ((sf_ a))], m)) rfl ?_
              refine pw_getE (x := x150) rfl (sf_ok (a := a) (by omega)).1 hx150 ?_
              refine pw_ifT rfl ⟨rx150, sx150⟩ (show x150 < 0 by omega) ?_
              refine pw_steps 1 (s' := (12, [some (.ref ((sf_ a)))], [.int (ei_ (0))], m)) rfl ?_
              refine pw_iret rfl rfl rfl ?_
              refine pw_ifT rfl (by decide) (show 0 = 0 by decide) ?_
              refine pw_steps 1 (s' := (71, [some (.ref 0), some (.int (ei_ (a))), some (.int (ei_ (i))), some (.int (ei_ (b))), some (.int (ei_ (j))), some (.int (ei_ (n))), some (.ref ((sf_ a))), some (.ref ((sf_ b)))], [.int (ei_ ((-12)))], m)) rfl ?_
              refine pw_iret rfl rfl rfl ?_
              refine ms_shift (by omega) (by omega) (by omega) (by omega) (by omega) (fun h1_ h2_ => by have t_ := hs a h1_ h2_; have t1_ := t_.1; have t2_ := t_.2.1; show 0 ≤ vi_ m 69 a ∧ vi_ m 69 a ≤ 60; omega) (fun h1_ h2_ => by have t_ := hs b h1_ h2_; have t1_ := t_.1; have t2_ := t_.2.1; show 0 ≤ vi_ m 69 b ∧ vi_ m 69 b ≤ 60; omega) (fun m1152 g153 g154 g155 g156 g157 g158 => ?_) (fun g159 => ?_) (fun g160 g161 => ?_) (fun g162 g163 => ?_) (fun g164 g165 => ?_)
              · exact False.elim (by omega)
              · exact False.elim (by omega)
              · exact False.elim (by omega)
              · have hx_ : ((-12) : Int) = (-12) := by rfl
                exact ⟨(-12), rfl, congrArg (fun z_ : Int => some (Value.int (ei_ z_))) hx_, hR⟩
              · exact False.elim (by omega)
          · refine pw_steps 4 (s' := (29, [some (.ref 0), some (.int (ei_ (a))), some (.int (ei_ (i))), some (.int (ei_ (b))), some (.int (ei_ (j))), some (.int (ei_ (n))), some (.ref ((sf_ a))), none], [.int (ei_ (b)), .ref 32], m)) rfl ?_
            refine pw_ald (r0 := (sf_ b)) rfl rfl (sf_ln (by omega)) (sf_al (by omega)) ?_
            obtain ⟨hk166, hk167, hk168⟩ := hs b (by omega) (by omega)
            rcases hk168 with ⟨hb1691, hb1692, hb1693⟩ | ⟨hb1691, hb1692, hb1693, hb1694, hb1695⟩ | ⟨hb1691, hb1692, hb1693, hb1694⟩
            · refine pw_steps 2 (s' := (34, [some (.ref 0), some (.int (ei_ (a))), some (.int (ei_ (i))), some (.int (ei_ (b))), some (.int (ei_ (j))), some (.int (ei_ (n))), some (.ref ((sf_ a))), some (.ref ((sf_ b)))], [.ref ((sf_ a))], m)) rfl ?_
              refine pw_call (As := []) (st := []) (k := (sf_ a)) rfl rfl rfl (sf_sk (by omega)) rfl (Nat.le_of_ble_eq_true rfl) ?_
              refine pw_intro (I := iX5_isEmpty) (T := tX5_isEmpty) rfl rfl rfl ?_
              refine pw_steps 1 (s' := (1, [some (.ref ((sf_ a)))], [.ref ((sf_ a))], m)) rfl ?_
              refine pw_get rfl (sf_ok (a := a) (by omega)).1 (fun x170 (hx170 : x170 = vi_ m (sf_ a) 0) rx170 sx170 => ?_)
              refine pw_steps 1 (s' := (5, [some (.ref ((sf_ a)))], [.int (ei_ ((-1))), .int (ei_ (x170))], m)) rfl ?_
              refine pw_cmpT rfl ⟨rx170, sx170⟩ (by decide) (show ¬ x170 = (-1) by omega) ?_
              refine pw_steps 1 (s' := (13, [some (.ref ((sf_ a)))], [.int (ei_ (0))], m)) rfl ?_
              refine pw_iret rfl rfl rfl ?_
              refine pw_ifF rfl (by decide) (show ¬ (¬ 0 = 0) by decide) ?_
              refine pw_steps 1 (s' := (42, [some (.ref 0), some (.int (ei_ (a))), some (.int (ei_ (i))), some (.int (ei_ (b))), some (.int (ei_ (j))), some (.int (ei_ (n))), some (.ref ((sf_ a))), some (.ref ((sf_ b)))], [.ref ((sf_ b))], m)) rfl ?_
              refine pw_call (As := []) (st := []) (k := (sf_ b)) rfl rfl rfl (sf_sk (by omega)) rfl (Nat.le_of_ble_eq_true rfl) ?_
              refine pw_intro (I := iX5_isEmpty) (T := tX5_isEmpty) rfl rfl rfl ?_
              refine pw_steps 1 (s' := (1, [some (.ref ((sf_ b)))], [.ref ((sf_ b))], m)) rfl ?_
              refine pw_get rfl (sf_ok (a := b) (by omega)).1 (fun x171 (hx171 : x171 = vi_ m (sf_ b) 0) rx171 sx171 => ?_)
              refine pw_steps 1 (s' := (5, [some (.ref ((sf_ b)))], [.int (ei_ ((-1))), .int (ei_ (x171))], m)) rfl ?_
              refine pw_cmpF rfl ⟨rx171, sx171⟩ (by decide) (show ¬ (¬ x171 = (-1)) by omega) ?_
              refine pw_steps 2 (s' := (13, [some (.ref ((sf_ b)))], [.int (ei_ (1))], m)) rfl ?_
              refine pw_iret rfl rfl rfl ?_
              refine pw_ifF rfl (by decide) (show ¬ (1 = 0) by decide) ?_
              refine pw_steps 1 (s' := (50, [some (.ref 0), some (.int (ei_ (a))), some (.int (ei_ (i))), some (.int (ei_ (b))), some (.int (ei_ (j))), some (.int (ei_ (n))), some (.ref ((sf_ a))), some (.ref ((sf_ b)))], [.int (ei_ ((-11)))], m)) rfl ?_
              refine pw_iret rfl rfl rfl ?_
              refine ms_shift (by omega) (by omega) (by omega) (by omega) (by omega) (fun h1_ h2_ => by have t_ := hs a h1_ h2_; have t1_ := t_.1; have t2_ := t_.2.1; show 0 ≤ vi_ m 69 a ∧ vi_ m 69 a ≤ 60; omega) (fun h1_ h2_ => by have t_ := hs b h1_ h2_; have t1_ := t_.1; have t2_ := t_.2.1; show 0 ≤ vi_ m 69 b ∧ vi_ m 69 b ≤ 60; omega) (fun m1172 g173 g174 g175 g176 g177 g178 => ?_) (fun g179 => ?_) (fun g180 g181 => ?_) (fun g182 g183 => ?_) (fun g184 g185 => ?_)
              · exact False.elim (by omega)
              · exact False.elim (by omega)
              · have hx_ : ((-11) : Int) = (-11) := by rfl
                exact ⟨(-11), rfl, congrArg (fun z_ : Int => some (Value.int (ei_ z_))) hx_, hR⟩
              · exact False.elim (by omega)
              · exact False.elim (by omega)
            · refine pw_steps 2 (s' := (34, [some (.ref 0), some (.int (ei_ (a))), some (.int (ei_ (i))), some (.int (ei_ (b))), some (.int (ei_ (j))), some (.int (ei_ (n))), some (.ref ((sf_ a))), some (.ref ((sf_ b)))], [.ref ((sf_ a))], m)) rfl ?_
              refine pw_call (As := []) (st := []) (k := (sf_ a)) rfl rfl rfl (sf_sk (by omega)) rfl (Nat.le_of_ble_eq_true rfl) ?_
              refine pw_intro (I := iX5_isEmpty) (T := tX5_isEmpty) rfl rfl rfl ?_
              refine pw_steps 1 (s' := (1, [some (.ref ((sf_ a)))], [.ref ((sf_ a))], m)) rfl ?_
              refine pw_get rfl (sf_ok (a := a) (by omega)).1 (fun x186 (hx186 : x186 = vi_ m (sf_ a) 0) rx186 sx186 => ?_)
              refine pw_steps 1 (s' := (5, [some (.ref ((sf_ a)))], [.int (ei_ ((-1))), .int (ei_ (x186))], m)) rfl ?_
              refine pw_cmpT rfl ⟨rx186, sx186⟩ (by decide) (show ¬ x186 = (-1) by omega) ?_
              refine pw_steps 1 (s' := (13, [some (.ref ((sf_ a)))], [.int (ei_ (0))], m)) rfl ?_
              refine pw_iret rfl rfl rfl ?_
              refine pw_ifF rfl (by decide) (show ¬ (¬ 0 = 0) by decide) ?_
              refine pw_steps 1 (s' := (42, [some (.ref 0), some (.int (ei_ (a))), some (.int (ei_ (i))), some (.int (ei_ (b))), some (.int (ei_ (j))), some (.int (ei_ (n))), some (.ref ((sf_ a))), some (.ref ((sf_ b)))], [.ref ((sf_ b))], m)) rfl ?_
              refine pw_call (As := []) (st := []) (k := (sf_ b)) rfl rfl rfl (sf_sk (by omega)) rfl (Nat.le_of_ble_eq_true rfl) ?_
              refine pw_intro (I := iX5_isEmpty) (T := tX5_isEmpty) rfl rfl rfl ?_
              refine pw_steps 1 (s' := (1, [some (.ref ((sf_ b)))], [.ref ((sf_ b))], m)) rfl ?_
              refine pw_get rfl (sf_ok (a := b) (by omega)).1 (fun x187 (hx187 : x187 = vi_ m (sf_ b) 0) rx187 sx187 => ?_)
              refine pw_steps 1 (s' := (5, [some (.ref ((sf_ b)))], [.int (ei_ ((-1))), .int (ei_ (x187))], m)) rfl ?_
              refine pw_cmpT rfl ⟨rx187, sx187⟩ (by decide) (show ¬ x187 = (-1) by omega) ?_
              refine pw_steps 1 (s' := (13, [some (.ref ((sf_ b)))], [.int (ei_ (0))], m)) rfl ?_
              refine pw_iret rfl rfl rfl ?_
              refine pw_ifT rfl (by decide) (show 0 = 0 by decide) ?_
              refine pw_steps 1 (s' := (53, [some (.ref 0), some (.int (ei_ (a))), some (.int (ei_ (i))), some (.int (ei_ (b))), some (.int (ei_ (j))), some (.int (ei_ (n))), some (.ref ((sf_ a))), some (.ref ((sf_ b)))], [.ref ((sf_ a))], m)) rfl ?_
              refine pw_call (As := []) (st := []) (k := (sf_ a)) rfl rfl rfl (sf_sk (by omega)) rfl (Nat.le_of_ble_eq_true rfl) ?_
              refine pw_intro (I := iX5_isRow) (T := tX5_isRow) rfl rfl rfl ?_
              refine pw_steps 1 (s' := (1, [some (.ref ((sf_ a)))], [.ref ((sf_ a))], m)) rfl ?_
              refine pw_getE (x := x186) rfl (sf_ok (a := a) (by omega)).1 hx186 ?_
              refine pw_ifF rfl ⟨rx186, sx186⟩ (show ¬ (x186 < 0) by omega) ?_
              refine pw_steps 2 (s' := (12, [some (.ref ((sf_ a)))], [.int (ei_ (1))], m)) rfl ?_
              refine pw_iret rfl rfl rfl ?_
              refine pw_ifF rfl (by decide) (show ¬ (1 = 0) by decide) ?_
              refine pw_steps 2 (s' := (63, [some (.ref 0), some (.int (ei_ (a))), some (.int (ei_ (i))), some (.int (ei_ (b))), some (.int (ei_ (j))), some (.int (ei_ (n))), some (.ref ((sf_ a))), some (.ref ((sf_ b)))], [.ref ((sf_ b)), .ref ((sf_ a))], m)) rfl ?_
              refine pw_call (As := [.ref ((sf_ b))]) (st := []) (k := (sf_ a)) rfl rfl rfl (sf_sk (by omega)) rfl (Nat.le_of_ble_eq_true rfl) ?_
              refine pw_intro (I := iX5_isLike) (T := tX5_isLike) rfl rfl rfl ?_
              refine pw_steps 1 (s' := (1, [some (.ref ((sf_ a))), some (.ref ((sf_ b)))], [.ref ((sf_ a))], m)) rfl ?_
              refine pw_getE (x := x186) rfl (sf_ok (a := a) (by omega)).1 hx186 ?_
              refine pw_steps 1 (s' := (5, [some (.ref ((sf_ a))), some (.ref ((sf_ b)))], [.ref ((sf_ b)), .int (ei_ (x186))], m)) rfl ?_
              refine pw_getE (x := x187) rfl (sf_ok (a := b) (by omega)).1 hx187 ?_
              refine pw_cmpT rfl ⟨rx186, sx186⟩ ⟨rx187, sx187⟩ (show ¬ x186 = x187 by omega) ?_
              refine pw_steps 1 (s' := (16, [some (.ref ((sf_ a))), some (.ref ((sf_ b)))], [.int (ei_ (0))], m)) rfl ?_
              refine pw_iret rfl rfl rfl ?_
              refine pw_ifF rfl (by decide) (show ¬ (¬ 0 = 0) by decide) ?_
              refine pw_steps 1 (s' := (71, [some (.ref 0), some (.int (ei_ (a))), some (.int (ei_ (i))), some (.int (ei_ (b))), some (.int (ei_ (j))), some (.int (ei_ (n))), some (.ref ((sf_ a))), some (.ref ((sf_ b)))], [.int (ei_ ((-12)))], m)) rfl ?_
              refine pw_iret rfl rfl rfl ?_
              refine ms_shift (by omega) (by omega) (by omega) (by omega) (by omega) (fun h1_ h2_ => by have t_ := hs a h1_ h2_; have t1_ := t_.1; have t2_ := t_.2.1; show 0 ≤ vi_ m 69 a ∧ vi_ m 69 a ≤ 60; omega) (fun h1_ h2_ => by have t_ := hs b h1_ h2_; have t1_ := t_.1; have t2_ := t_.2.1; show 0 ≤ vi_ m 69 b ∧ vi_ m 69 b ≤ 60; omega) (fun m1188 g189 g190 g191 g192 g193 g194 => ?_) (fun g195 => ?_) (fun g196 g197 => ?_) (fun g198 g199 => ?_) (fun g200 g201 => ?_)
              · exact False.elim (by omega)
              · exact False.elim (by omega)
              · exact False.elim (by omega)
              · have hx_ : ((-12) : Int) = (-12) := by rfl
                exact ⟨(-12), rfl, congrArg (fun z_ : Int => some (Value.int (ei_ z_))) hx_, hR⟩
              · exact False.elim (by omega)
            · refine pw_steps 2 (s' := (34, [some (.ref 0), some (.int (ei_ (a))), some (.int (ei_ (i))), some (.int (ei_ (b))), some (.int (ei_ (j))), some (.int (ei_ (n))), some (.ref ((sf_ a))), some (.ref ((sf_ b)))], [.ref ((sf_ a))], m)) rfl ?_
              refine pw_call (As := []) (st := []) (k := (sf_ a)) rfl rfl rfl (sf_sk (by omega)) rfl (Nat.le_of_ble_eq_true rfl) ?_
              refine pw_intro (I := iX5_isEmpty) (T := tX5_isEmpty) rfl rfl rfl ?_
              refine pw_steps 1 (s' := (1, [some (.ref ((sf_ a)))], [.ref ((sf_ a))], m)) rfl ?_
              refine pw_get rfl (sf_ok (a := a) (by omega)).1 (fun x202 (hx202 : x202 = vi_ m (sf_ a) 0) rx202 sx202 => ?_)
              refine pw_steps 1 (s' := (5, [some (.ref ((sf_ a)))], [.int (ei_ ((-1))), .int (ei_ (x202))], m)) rfl ?_
              refine pw_cmpT rfl ⟨rx202, sx202⟩ (by decide) (show ¬ x202 = (-1) by omega) ?_
              refine pw_steps 1 (s' := (13, [some (.ref ((sf_ a)))], [.int (ei_ (0))], m)) rfl ?_
              refine pw_iret rfl rfl rfl ?_
              refine pw_ifF rfl (by decide) (show ¬ (¬ 0 = 0) by decide) ?_
              refine pw_steps 1 (s' := (42, [some (.ref 0), some (.int (ei_ (a))), some (.int (ei_ (i))), some (.int (ei_ (b))), some (.int (ei_ (j))), some (.int (ei_ (n))), some (.ref ((sf_ a))), some (.ref ((sf_ b)))], [.ref ((sf_ b))], m)) rfl ?_
              refine pw_call (As := []) (st := []) (k := (sf_ b)) rfl rfl rfl (sf_sk (by omega)) rfl (Nat.le_of_ble_eq_true rfl) ?_
              refine pw_intro (I := iX5_isEmpty) (T := tX5_isEmpty) rfl rfl rfl ?_
              refine pw_steps 1 (s' := (1, [some (.ref ((sf_ b)))], [.ref ((sf_ b))], m)) rfl ?_
              refine pw_get rfl (sf_ok (a := b) (by omega)).1 (fun x203 (hx203 : x203 = vi_ m (sf_ b) 0) rx203 sx203 => ?_)
              refine pw_steps 1 (s' := (5, [some (.ref ((sf_ b)))], [.int (ei_ ((-1))), .int (ei_ (x203))], m)) rfl ?_
              refine pw_cmpT rfl ⟨rx203, sx203⟩ (by decide) (show ¬ x203 = (-1) by omega) ?_
              refine pw_steps 1 (s' := (13, [some (.ref ((sf_ b)))], [.int (ei_ (0))], m)) rfl ?_
              refine pw_iret rfl rfl rfl ?_
              refine pw_ifT rfl (by decide) (show 0 = 0 by decide) ?_
              refine pw_steps 1 (s' := (53, [some (.ref 0), some (.int (ei_ (a))), some (.int (ei_ (i))), some (.int (ei_ (b))), some (.int (ei_ (j))), some (.int (ei_ (n))), some (.ref ((sf_ a))), some (.ref ((sf_ b)))], [.ref ((sf_ a))], m)) rfl ?_
              refine pw_call (As := []) (st := []) (k := (sf_ a)) rfl rfl rfl (sf_sk (by omega)) rfl (Nat.le_of_ble_eq_true rfl) ?_
              refine pw_intro (I := iX5_isRow) (T := tX5_isRow) rfl rfl rfl ?_
              refine pw_steps 1 (s' := (1, [some (.ref ((sf_ a)))], [.ref ((sf_ a))], m)) rfl ?_
              refine pw_getE (x := x202) rfl (sf_ok (a := a) (by omega)).1 hx202 ?_
              refine pw_ifF rfl ⟨rx202, sx202⟩ (show ¬ (x202 < 0) by omega) ?_
              refine pw_steps 2 (s' := (12, [some (.ref ((sf_ a)))], [.int (ei_ (1))], m)) rfl ?_
              refine pw_iret rfl rfl rfl ?_
              refine pw_ifF rfl (by decide) (show ¬ (1 = 0) by decide) ?_
              refine pw_steps 2 (s' := (63, [some (.ref 0), some (.int (ei_ (a))), some (.int (ei_ (i))), some (.int (ei_ (b))), some (.int (ei_ (j))), some (.int (ei_ (n))), some (.ref ((sf_ a))), some (.ref ((sf_ b)))], [.ref ((sf_ b)), .ref ((sf_ a))], m)) rfl ?_
              refine pw_call (As := [.ref ((sf_ b))]) (st := []) (k := (sf_ a)) rfl rfl rfl (sf_sk (by omega)) rfl (Nat.le_of_ble_eq_true rfl) ?_
              refine pw_intro (I := iX5_isLike) (T := tX5_isLike) rfl rfl rfl ?_
              refine pw_steps 1 (s' := (1, [some (.ref ((sf_ a))), some (.ref ((sf_ b)))], [.ref ((sf_ a))], m)) rfl ?_
              refine pw_getE (x := x202) rfl (sf_ok (a := a) (by omega)).1 hx202 ?_
              refine pw_steps 1 (s' := (5, [some (.ref ((sf_ a))), some (.ref ((sf_ b)))], [.ref ((sf_ b)), .int (ei_ (x202))], m)) rfl ?_
              refine pw_getE (x := x203) rfl (sf_ok (a := b) (by omega)).1 hx203 ?_
              refine pw_cmp rfl ⟨rx202, sx202⟩ ⟨rx203, sx203⟩ (fun (h204 : ¬ x202 = x203) => ?_) (fun (h204 : ¬ ¬ x202 = x203) => ?_)
              · refine pw_steps 1 (s' := (16, [some (.ref ((sf_ a))), some (.ref ((sf_ b)))], [.int (ei_ (0))], m)) rfl ?_
                refine pw_iret rfl rfl rfl ?_
                refine pw_ifF rfl (by decide) (show ¬ (¬ 0 = 0) by decide) ?_
                refine pw_steps 1 (s' := (71, [some (.ref 0), some (.int (ei_ (a))), some (.int (ei_ (i))), some (.int (ei_ (b))), some (.int (ei_ (j))), some (.int (ei_ (n))), some (.ref ((sf_ a))), some (.ref ((sf_ b)))], [.int (ei_ ((-12)))], m)) rfl ?_
                refine pw_iret rfl rfl rfl ?_
                refine ms_shift (by omega) (by omega) (by omega) (by omega) (by omega) (fun h1_ h2_ => by have t_ := hs a h1_ h2_; have t1_ := t_.1; have t2_ := t_.2.1; show 0 ≤ vi_ m 69 a ∧ vi_ m 69 a ≤ 60; omega) (fun h1_ h2_ => by have t_ := hs b h1_ h2_; have t1_ := t_.1; have t2_ := t_.2.1; show 0 ≤ vi_ m 69 b ∧ vi_ m 69 b ≤ 60; omega) (fun m1205 g206 g207 g208 g209 g210 g211 => ?_) (fun g212 => ?_) (fun g213 g214 => ?_) (fun g215 g216 => ?_) (fun g217 g218 => ?_)
                · exact False.elim (by omega)
                · exact False.elim (by omega)
                · exact False.elim (by omega)
                · have hx_ : ((-12) : Int) = (-12) := by rfl
                  exact ⟨(-12), rfl, congrArg (fun z_ : Int => some (Value.int (ei_ z_))) hx_, hR⟩
                · exact False.elim (by omega)
              · refine pw_steps 2 (s' := (16, [some (.ref ((sf_ a))), some (.ref ((sf_ b)))], [.int (ei_ (1))], m)) rfl ?_
                refine pw_iret rfl rfl rfl ?_
                refine pw_ifT rfl (by decide) (show ¬ 1 = 0 by decide) ?_
                refine pw_steps 3 (s' := (77, [some (.ref 0), some (.int (ei_ (a))), some (.int (ei_ (i))), some (.int (ei_ (b))), some (.int (ei_ (j))), some (.int (ei_ (n))), some (.ref ((sf_ a))), some (.ref ((sf_ b)))], [.int (ei_ (n)), .int (ei_ (i)), .ref ((sf_ a))], m)) rfl ?_
                refine pw_call (As := [.int (ei_ (i)), .int (ei_ (n))]) (st := []) (k := (sf_ a)) rfl rfl rfl (sf_sk (by omega)) rfl (Nat.le_of_ble_eq_true rfl) ?_
                refine pw_intro (I := iX5_hasPlaces) (T := tX5_hasPlaces) rfl rfl rfl ?_
                refine pw_steps 1 (s' := (1, [some (.ref ((sf_ a))), some (.int (ei_ (i))), some (.int (ei_ (n)))], [.int (ei_ (i))], m)) rfl ?_
                refine pw_if rfl q1 (fun (h219 : i < 0) => ?_) (fun (h219 : ¬ (i < 0)) => ?_)
                · refine pw_steps 1 (s' := (31, [some (.ref ((sf_ a))), some (.int (ei_ (i))), some (.int (ei_ (n)))], [.int (ei_ (0))], m)) rfl ?_
                  refine pw_iret rfl rfl rfl ?_
                  refine pw_ifT rfl (by decide) (show 0 = 0 by decide) ?_
                  refine pw_steps 1 (s' := (97, [some (.ref 0), some (.int (ei_ (a))), some (.int (ei_ (i))), some (.int (ei_ (b))), some (.int (ei_ (j))), some (.int (ei_ (n))), some (.ref ((sf_ a))), some (.ref ((sf_ b)))], [.int (ei_ ((-13)))], m)) rfl ?_
                  refine pw_iret rfl rfl rfl ?_
                  refine ms_shift (by omega) (by omega) (by omega) (by omega) (by omega) (fun h1_ h2_ => by have t_ := hs a h1_ h2_; have t1_ := t_.1; have t2_ := t_.2.1; show 0 ≤ vi_ m 69 a ∧ vi_ m 69 a ≤ 60; omega) (fun h1_ h2_ => by have t_ := hs b h1_ h2_; have t1_ := t_.1; have t2_ := t_.2.1; show 0 ≤ vi_ m 69 b ∧ vi_ m 69 b ≤ 60; omega) (fun m1220 g221 g222 g223 g224 g225 g226 => ?_) (fun g227 => ?_) (fun g228 g229 => ?_) (fun g230 g231 => ?_) (fun g232 g233 => ?_)
                  · exact False.elim (by omega)
                  · exact False.elim (by omega)
                  · exact False.elim (by omega)
                  · exact False.elim (by omega)
                  · have hx_ : ((-13) : Int) = (-13) := by rfl
                    exact ⟨(-13), rfl, congrArg (fun z_ : Int => some (Value.int (ei_ z_))) hx_, hR⟩
                · refine pw_steps 1 (s' := (5, [some (.ref ((sf_ a))), some (.int (ei_ (i))), some (.int (ei_ (n)))], [.int (ei_ (n))], m)) rfl ?_
                  refine pw_if rfl q4 (fun (h234 : n < 0) => ?_) (fun (h234 : ¬ (n < 0)) => ?_)
                  · refine pw_steps 1 (s' := (31, [some (.ref ((sf_ a))), some (.int (ei_ (i))), some (.int (ei_ (n)))], [.int (ei_ (0))], m)) rfl ?_
                    refine pw_iret rfl rfl rfl ?_
                    refine pw_ifT rfl (by decide) (show 0 = 0 by decide) ?_
                    refine pw_steps 1 (s' := (97, [some (.ref 0), some (.int (ei_ (a))), some (.int (ei_ (i))), some (.int (ei_ (b))), some (.int (ei_ (j))), some (.int (ei_ (n))), some (.ref ((sf_ a))), some (.ref ((sf_ b)))], [.int (ei_ ((-13)))], m)) rfl ?_
                    refine pw_iret rfl rfl rfl ?_
                    refine ms_shift (by omega) (by omega) (by omega) (by omega) (by omega) (fun h1_ h2_ => by have t_ := hs a h1_ h2_; have t1_ := t_.1; have t2_ := t_.2.1; show 0 ≤ vi_ m 69 a ∧ vi_ m 69 a ≤ 60; omega) (fun h1_ h2_ => by have t_ := hs b h1_ h2_; have t1_ := t_.1; have t2_ := t_.2.1; show 0 ≤ vi_ m 69 b ∧ vi_ m 69 b ≤ 60; omega) (fun m1235 g236 g237 g238 g239 g240 g241 => ?_) (fun g242 => ?_) (fun g243 g244 => ?_) (fun g245 g246 => ?_) (fun g247 g248 => ?_)
                    · exact False.elim (by omega)
                    · exact False.elim (by omega)
                    · exact False.elim (by omega)
                    · exact False.elim (by omega)
                    · have hx_ : ((-13) : Int) = (-13) := by rfl
                      exact ⟨(-13), rfl, congrArg (fun z_ : Int => some (Value.int (ei_ z_))) hx_, hR⟩
                  · refine pw_steps 2 (s' := (10, [some (.ref ((sf_ a))), some (.int (ei_ (i))), some (.int (ei_ (n)))], [.ref ((sf_ a)), .int (ei_ (n))], m)) rfl ?_
                    refine pw_get rfl (sf_ok (a := a) (by omega)).2.2.1 (fun x249 (hx249 : x249 = vi_ m (sf_ a) 2) rx249 sx249 => ?_)
                    refine pw_cmp rfl q4 ⟨rx249, sx249⟩ (fun (h250 : x249 < n) => ?_) (fun (h250 : ¬ (x249 < n)) => ?_)
                    · refine pw_steps 1 (s' := (31, [some (.ref ((sf_ a))), some (.int (ei_ (i))), some (.int (ei_ (n)))], [.int (ei_ (0))], m)) rfl ?_
                      refine pw_iret rfl rfl rfl ?_
                      refine pw_ifT rfl (by decide) (show 0 = 0 by decide) ?_
                      refine pw_steps 1 (s' := (97, [some (.ref 0), some (.int (ei_ (a))), some (.int (ei_ (i))), some (.int (ei_ (b))), some (.int (ei_ (j))), some (.int (ei_ (n))), some (.ref ((sf_ a))), some (.ref ((sf_ b)))], [.int (ei_ ((-13)))], m)) rfl ?_
                      refine pw_iret rfl rfl rfl ?_
                      refine ms_shift (by omega) (by omega) (by omega) (by omega) (by omega) (fun h1_ h2_ => by have t_ := hs a h1_ h2_; have t1_ := t_.1; have t2_ := t_.2.1; show 0 ≤ vi_ m 69 a ∧ vi_ m 69 a ≤ 60; omega) (fun h1_ h2_ => by have t_ := hs b h1_ h2_; have t1_ := t_.1; have t2_ := t_.2.1; show 0 ≤ vi_ m 69 b ∧ vi_ m 69 b ≤ 60; omega) (fun m1251 g252 g253 g254 g255 g256 g257 => ?_) (fun g258 => ?_) (fun g259 g260 => ?_) (fun g261 g262 => ?_) (fun g263 g264 => ?_)
                      · exact False.elim (by omega)
                      · exact False.elim (by omega)
                      · exact False.elim (by omega)
                      · exact False.elim (by omega)
                      · have hx_ : ((-13) : Int) = (-13) := by rfl
                        exact ⟨(-13), rfl, congrArg (fun z_ : Int => some (Value.int (ei_ z_))) hx_, hR⟩
                    · refine pw_steps 2 (s' := (18, [some (.ref ((sf_ a))), some (.int (ei_ (i))), some (.int (ei_ (n)))], [.ref ((sf_ a)), .int (ei_ (i))], m)) rfl ?_
                      refine pw_getE (x := x249) rfl (sf_ok (a := a) (by omega)).2.2.1 hx249 ?_
                      refine pw_steps 2 (s' := (23, [some (.ref ((sf_ a))), some (.int (ei_ (i))), some (.int (ei_ (n)))], [.int ((ei_ (x249)) - (ei_ (n))), .int (ei_ (i))], m)) rfl ?_
                      refine pw_cv (congrArg (fun z_ : Int32 => ((23, [some (.ref ((sf_ a))), some (.int (ei_ (i))), some (.int (ei_ (n)))], [.int z_, .int (ei_ (i))], m) : am_S)) (ei_sub rfl rfl)) ?_
                      refine pw_cmp rfl q1 (by omega) (fun (h265 : (x249 - n) < i) => ?_) (fun (h265 : ¬ ((x249 - n) < i)) => ?_)
                      · refine pw_steps 1 (s' := (31, [some (.ref ((sf_ a))), some (.int (ei_ (i))), some (.int (ei_ (n)))], [.int (ei_ (0))], m)) rfl ?_
                        refine pw_iret rfl rfl rfl ?_
                        refine pw_ifT rfl (by decide) (show 0 = 0 by decide) ?_
                        refine pw_steps 1 (s' := (97, [some (.ref 0), some (.int (ei_ (a))), some (.int (ei_ (i))), some (.int (ei_ (b))), some (.int (ei_ (j))), some (.int (ei_ (n))), some (.ref ((sf_ a))), some (.ref ((sf_ b)))], [.int (ei_ ((-13)))], m)) rfl ?_
                        refine pw_iret rfl rfl rfl ?_
                        refine ms_shift (by omega) (by omega) (by omega) (by omega) (by omega) (fun h1_ h2_ => by have t_ := hs a h1_ h2_; have t1_ := t_.1; have t2_ := t_.2.1; show 0 ≤ vi_ m 69 a ∧ vi_ m 69 a ≤ 60; omega) (fun h1_ h2_ => by have t_ := hs b h1_ h2_; have t1_ := t_.1; have t2_ := t_.2.1; show 0 ≤ vi_ m 69 b ∧ vi_ m 69 b ≤ 60; omega) (fun m1266 g267 g268 g269 g270 g271 g272 => ?_) (fun g273 => ?_) (fun g274 g275 => ?_) (fun g276 g277 => ?_) (fun g278 g279 => ?_)
                        · exact False.elim (by omega)
                        · exact False.elim (by omega)
                        · exact False.elim (by omega)
                        · exact False.elim (by omega)
                        · have hx_ : ((-13) : Int) = (-13) := by rfl
                          exact ⟨(-13), rfl, congrArg (fun z_ : Int => some (Value.int (ei_ z_))) hx_, hR⟩
                      · refine pw_steps 2 (s' := (31, [some (.ref ((sf_ a))), some (.int (ei_ (i))), some (.int (ei_ (n)))], [.int (ei_ (1))], m)) rfl ?_
                        refine pw_iret rfl rfl rfl ?_
                        refine pw_ifF rfl (by decide) (show ¬ (1 = 0) by decide) ?_
                        refine pw_steps 3 (s' := (89, [some (.ref 0), some (.int (ei_ (a))), some (.int (ei_ (i))), some (.int (ei_ (b))), some (.int (ei_ (j))), some (.int (ei_ (n))), some (.ref ((sf_ a))), some (.ref ((sf_ b)))], [.int (ei_ (n)), .int (ei_ (j)), .ref ((sf_ b))], m)) rfl ?_
                        refine pw_call (As := [.int (ei_ (j)), .int (ei_ (n))]) (st := []) (k := (sf_ b)) rfl rfl rfl (sf_sk (by omega)) rfl (Nat.le_of_ble_eq_true rfl) ?_
                        refine pw_intro (I := iX5_hasPlaces) (T := tX5_hasPlaces) rfl rfl rfl ?_
                        refine pw_steps 1 (s' := (1, [some (.ref ((sf_ b))), some (.int (ei_ (j))), some (.int (ei_ (n)))], [.int (ei_ (j))], m)) rfl ?_
                        refine pw_if rfl q3 (fun (h280 : j < 0) => ?_) (fun (h280 : ¬ (j < 0)) => ?_)
                        · refine pw_steps 1 (s' := (31, [some (.ref ((sf_ b))), some (.int (ei_ (j))), some (.int (ei_ (n)))], [.int (ei_ (0))], m)) rfl ?_
                          refine pw_iret rfl rfl rfl ?_
                          refine pw_ifF rfl (by decide) (show ¬ (¬ 0 = 0) by decide) ?_
                          refine pw_steps 1 (s' := (97, [some (.ref 0), some (.int (ei_ (a))), some (.int (ei_ (i))), some (.int (ei_ (b))), some (.int (ei_ (j))), some (.int (ei_ (n))), some (.ref ((sf_ a))), some (.ref ((sf_ b)))], [.int (ei_ ((-13)))], m)) rfl ?_
                          refine pw_iret rfl rfl rfl ?_
                          refine ms_shift (by omega) (by omega) (by omega) (by omega) (by omega) (fun h1_ h2_ => by have t_ := hs a h1_ h2_; have t1_ := t_.1; have t2_ := t_.2.1; show 0 ≤ vi_ m 69 a ∧ vi_ m 69 a ≤ 60; omega) (fun h1_ h2_ => by have t_ := hs b h1_ h2_; have t1_ := t_.1; have t2_ := t_.2.1; show 0 ≤ vi_ m 69 b ∧ vi_ m 69 b ≤ 60; omega) (fun m1281 g282 g283 g284 g285 g286 g287 => ?_) (fun g288 => ?_) (fun g289 g290 => ?_) (fun g291 g292 => ?_) (fun g293 g294 => ?_)
                          · exact False.elim (by omega)
                          · exact False.elim (by omega)
                          · exact False.elim (by omega)
                          · exact False.elim (by omega)
                          · have hx_ : ((-13) : Int) = (-13) := by rfl
                            exact ⟨(-13), rfl, congrArg (fun z_ : Int => some (Value.int (ei_ z_))) hx_, hR⟩
                        · refine pw_steps 1 (s' := (5, [some (.ref ((sf_ b))), some (.int (ei_ (j))), some (.int (ei_ (n)))], [.int (ei_ (n))], m)) rfl ?_
                          refine pw_ifF rfl q4 (show ¬ (n < 0) by omega) ?_
                          refine pw_steps 2 (s' := (10, [some (.ref ((sf_ b))), some (.int (ei_ (j))), some (.int (ei_ (n)))], [.ref ((sf_ b)), .int (ei_ (n))], m)) rfl ?_
                          refine pw_get rfl (sf_ok (a := b) (by omega)).2.2.1 (fun x295 (hx295 : x295 = vi_ m (sf_ b) 2) rx295 sx295 => ?_)
                          refine pw_cmp rfl q4 ⟨rx295, sx295⟩ (fun (h296 : x295 < n) => ?_) (fun (h296 : ¬ (x295 < n)) => ?_)
                          · refine pw_steps 1 (s' := (31, [some (.ref ((sf_ b))), some (.int (ei_ (j))), some (.int (ei_ (n)))], [.int (ei_ (0))], m)) rfl ?_
                            refine pw_iret rfl rfl rfl ?_
                            refine pw_ifF rfl (by decide) (show ¬ (¬ 0 = 0) by decide) ?_
                            refine pw_steps 1 (s' := (97, [some (.ref 0), some (.int (ei_ (a))), some (.int (ei_ (i))), some (.int (ei_ (b))), some (.int (ei_ (j))), some (.int (ei_ (n))), some (.ref ((sf_ a))), some (.ref ((sf_ b)))], [.int (ei_ ((-13)))], m)) rfl ?_
                            refine pw_iret rfl rfl rfl ?_
                            refine ms_shift (by omega) (by omega) (by omega) (by omega) (by omega) (fun h1_ h2_ => by have t_ := hs a h1_ h2_; have t1_ := t_.1; have t2_ := t_.2.1; show 0 ≤ vi_ m 69 a ∧ vi_ m 69 a ≤ 60; omega) (fun h1_ h2_ => by have t_ := hs b h1_ h2_; have t1_ := t_.1; have t2_ := t_.2.1; show 0 ≤ vi_ m 69 b ∧ vi_ m 69 b ≤ 60; omega) (fun m1297 g298 g299 g300 g301 g302 g303 => ?_) (fun g304 => ?_) (fun g305 g306 => ?_) (fun g307 g308 => ?_) (fun g309 g310 => ?_)
                            · exact False.elim (by omega)
                            · exact False.elim (by omega)
                            · exact False.elim (by omega)
                            · exact False.elim (by omega)
                            · have hx_ : ((-13) : Int) = (-13) := by rfl
                              exact ⟨(-13), rfl, congrArg (fun z_ : Int => some (Value.int (ei_ z_))) hx_, hR⟩
                          · refine pw_steps 2 (s' := (18, [some (.ref ((sf_ b))), some (.int (ei_ (j))), some (.int (ei_ (n)))], [.ref ((sf_ b)), .int (ei_ (j))], m)) rfl ?_
                            refine pw_getE (x := x295) rfl (sf_ok (a := b) (by omega)).2.2.1 hx295 ?_
                            refine pw_steps 2 (s' := (23, [some (.ref ((sf_ b))), some (.int (ei_ (j))), some (.int (ei_ (n)))], [.int ((ei_ (x295)) - (ei_ (n))), .int (ei_ (j))], m)) rfl ?_
                            refine pw_cv (congrArg (fun z_ : Int32 => ((23, [some (.ref ((sf_ b))), some (.int (ei_ (j))), some (.int (ei_ (n)))], [.int z_, .int (ei_ (j))], m) : am_S)) (ei_sub rfl rfl)) ?_
                            refine pw_cmp rfl q3 (by omega) (fun (h311 : (x295 - n) < j) => ?_) (fun (h311 : ¬ ((x295 - n) < j)) => ?_)
                            · refine pw_steps 1 (s' := (31, [some (.ref ((sf_ b))), some (.int (ei_ (j))), some (.int (ei_ (n)))], [.int (ei_ (0))], m)) rfl ?_
                              refine pw_iret rfl rfl rfl ?_
                              refine pw_ifF rfl (by decide) (show ¬ (¬ 0 = 0) by decide) ?_
                              refine pw_steps 1 (s' := (97, [some (.ref 0), some (.int (ei_ (a))), some (.int (ei_ (i))), some (.int (ei_ (b))), some (.int (ei_ (j))), some (.int (ei_ (n))), some (.ref ((sf_ a))), some (.ref ((sf_ b)))], [.int (ei_ ((-13)))], m)) rfl ?_
                              refine pw_iret rfl rfl rfl ?_
                              refine ms_shift (by omega) (by omega) (by omega) (by omega) (by omega) (fun h1_ h2_ => by have t_ := hs a h1_ h2_; have t1_ := t_.1; have t2_ := t_.2.1; show 0 ≤ vi_ m 69 a ∧ vi_ m 69 a ≤ 60; omega) (fun h1_ h2_ => by have t_ := hs b h1_ h2_; have t1_ := t_.1; have t2_ := t_.2.1; show 0 ≤ vi_ m 69 b ∧ vi_ m 69 b ≤ 60; omega) (fun m1312 g313 g314 g315 g316 g317 g318 => ?_) (fun g319 => ?_) (fun g320 g321 => ?_) (fun g322 g323 => ?_) (fun g324 g325 => ?_)
                              · exact False.elim (by omega)
                              · exact False.elim (by omega)
                              · exact False.elim (by omega)
                              · exact False.elim (by omega)
                              · have hx_ : ((-13) : Int) = (-13) := by rfl
                                exact ⟨(-13), rfl, congrArg (fun z_ : Int => some (Value.int (ei_ z_))) hx_, hR⟩
                            · refine pw_steps 2 (s' := (31, [some (.ref ((sf_ b))), some (.int (ei_ (j))), some (.int (ei_ (n)))], [.int (ei_ (1))], m)) rfl ?_
                              refine pw_iret rfl rfl rfl ?_
                              refine pw_ifT rfl (by decide) (show ¬ 1 = 0 by decide) ?_
                              refine pw_steps 5 (s' := (107, [some (.ref 0), some (.int (ei_ (a))), some (.int (ei_ (i))), some (.int (ei_ (b))), some (.int (ei_ (j))), some (.int (ei_ (n))), some (.ref ((sf_ a))), some (.ref ((sf_ b)))], [.int (ei_ (n)), .int (ei_ (i)), .ref ((sf_ a)), .int (ei_ (j)), .ref ((sf_ b))], m)) rfl ?_
                              refine pw_call (As := [.int (ei_ (j)), .ref ((sf_ a)), .int (ei_ (i)), .int (ei_ (n))]) (st := []) (k := (sf_ b)) rfl rfl rfl (sf_sk (by omega)) rfl (Nat.le_of_ble_eq_true rfl) ?_
                              refine pw_intro (I := iX5_setAll) (T := tX5_setAll) rfl rfl rfl ?_
                              refine pw_steps 3 (s' := (4, [some (.ref ((sf_ b))), some (.int (ei_ (j))), some (.ref ((sf_ a))), some (.int (ei_ (i))), some (.int (ei_ (n)))], [.int (ei_ (n)), .int (ei_ (i)), .ref ((sf_ a))], m)) rfl ?_
                              refine pw_call (As := [.int (ei_ (i)), .int (ei_ (n))]) (st := []) (k := (sf_ a)) rfl rfl rfl (sf_sk (by omega)) rfl (Nat.le_of_ble_eq_true rfl) ?_
                              refine pw_intro (I := iX5_hasPlaces) (T := tX5_hasPlaces) rfl rfl rfl ?_
                              refine pw_steps 1 (s' := (1, [some (.ref ((sf_ a))), some (.int (ei_ (i))), some (.int (ei_ (n)))], [.int (ei_ (i))], m)) rfl ?_
                              refine pw_ifF rfl q1 (show ¬ (i < 0) by omega) ?_
                              refine pw_steps 1 (s' := (5, [some (.ref ((sf_ a))), some (.int (ei_ (i))), some (.int (ei_ (n)))], [.int (ei_ (n))], m)) rfl ?_
                              refine pw_ifF rfl q4 (show ¬ (n < 0) by omega) ?_
                              refine pw_steps 2 (s' := (10, [some (.ref ((sf_ a))), some (.int (ei_ (i))), some (.int (ei_ (n)))], [.ref ((sf_ a)), .int (ei_ (n))], m)) rfl ?_
                              refine pw_getE (x := x249) rfl (sf_ok (a := a) (by omega)).2.2.1 hx249 ?_
                              refine pw_cmpF rfl q4 ⟨rx249, sx249⟩ (show ¬ (x249 < n) by omega) ?_
                              refine pw_steps 2 (s' := (18, [some (.ref ((sf_ a))), some (.int (ei_ (i))), some (.int (ei_ (n)))], [.ref ((sf_ a)), .int (ei_ (i))], m)) rfl ?_
                              refine pw_getE (x := x249) rfl (sf_ok (a := a) (by omega)).2.2.1 hx249 ?_
                              refine pw_steps 2 (s' := (23, [some (.ref ((sf_ a))), some (.int (ei_ (i))), some (.int (ei_ (n)))], [.int ((ei_ (x249)) - (ei_ (n))), .int (ei_ (i))], m)) rfl ?_
                              refine pw_cv (congrArg (fun z_ : Int32 => ((23, [some (.ref ((sf_ a))), some (.int (ei_ (i))), some (.int (ei_ (n)))], [.int z_, .int (ei_ (i))], m) : am_S)) (ei_sub rfl rfl)) ?_
                              refine pw_cmpF rfl q1 (by omega) (show ¬ ((x249 - n) < i) by omega) ?_
                              refine pw_steps 2 (s' := (31, [some (.ref ((sf_ a))), some (.int (ei_ (i))), some (.int (ei_ (n)))], [.int (ei_ (1))], m)) rfl ?_
                              refine pw_iret rfl rfl rfl ?_
                              refine pw_ifF rfl (by decide) (show ¬ (1 = 0) by decide) ?_
                              refine pw_steps 3 (s' := (14, [some (.ref ((sf_ b))), some (.int (ei_ (j))), some (.ref ((sf_ a))), some (.int (ei_ (i))), some (.int (ei_ (n)))], [.int (ei_ (n)), .int (ei_ (j)), .ref ((sf_ b))], m)) rfl ?_
                              refine pw_call (As := [.int (ei_ (j)), .int (ei_ (n))]) (st := []) (k := (sf_ b)) rfl rfl rfl (sf_sk (by omega)) rfl (Nat.le_of_ble_eq_true rfl) ?_
                              refine pw_intro (I := iX5_hasPlaces) (T := tX5_hasPlaces) rfl rfl rfl ?_
                              refine pw_steps 1 (s' := (1, [some (.ref ((sf_ b))), some (.int (ei_ (j))), some (.int (ei_ (n)))], [.int (ei_ (j))], m)) rfl ?_
                              refine pw_ifF rfl q3 (show ¬ (j < 0) by omega) ?_
                              refine pw_steps 1 (s' := (5, [some (.ref ((sf_ b))), some (.int (ei_ (j))), some (.int (ei_ (n)))], [.int (ei_ (n))], m)) rfl ?_
                              refine pw_ifF rfl q4 (show ¬ (n < 0) by omega) ?_
                              refine pw_steps 2 (s' := (10, [some (.ref ((sf_ b))), some (.int (ei_ (j))), some (.int (ei_ (n)))], [.ref ((sf_ b)), .int (ei_ (n))], m)) rfl ?_
                              refine pw_getE (x := x295) rfl (sf_ok (a := b) (by omega)).2.2.1 hx295 ?_
                              refine pw_cmpF rfl q4 ⟨rx295, sx295⟩ (show ¬ (x295 < n) by omega) ?_
                              refine pw_steps 2 (s' := (18, [some (.ref ((sf_ b))), some (.int (ei_ (j))), some (.int (ei_ (n)))], [.ref ((sf_ b)), .int (ei_ (j))], m)) rfl ?_
                              refine pw_getE (x := x295) rfl (sf_ok (a := b) (by omega)).2.2.1 hx295 ?_
                              refine pw_steps 2 (s' := (23, [some (.ref ((sf_ b))), some (.int (ei_ (j))), some (.int (ei_ (n)))], [.int ((ei_ (x295)) - (ei_ (n))), .int (ei_ (j))], m)) rfl ?_
                              refine pw_cv (congrArg (fun z_ : Int32 => ((23, [some (.ref ((sf_ b))), some (.int (ei_ (j))), some (.int (ei_ (n)))], [.int z_, .int (ei_ (j))], m) : am_S)) (ei_sub rfl rfl)) ?_
                              refine pw_cmpF rfl q3 (by omega) (show ¬ ((x295 - n) < j) by omega) ?_
                              refine pw_steps 2 (s' := (31, [some (.ref ((sf_ b))), some (.int (ei_ (j))), some (.int (ei_ (n)))], [.int (ei_ (1))], m)) rfl ?_
                              refine pw_iret rfl rfl rfl ?_
                              refine pw_ifF rfl (by decide) (show ¬ (1 = 0) by decide) ?_
                              refine pw_steps 1 (s' := (21, [some (.ref ((sf_ b))), some (.int (ei_ (j))), some (.ref ((sf_ a))), some (.int (ei_ (i))), some (.int (ei_ (n)))], [.ref ((sf_ a))], m)) rfl ?_
                              refine pw_getR (r := (sf_ a) + 1) rfl (sf_ok (a := a) (by omega)).2.2.2.1 ?_
                              refine pw_steps 2 (s' := (26, [some (.ref ((sf_ b))), some (.int (ei_ (j))), some (.ref ((sf_ a))), some (.int (ei_ (i))), some (.int (ei_ (n)))], [.ref ((sf_ b)), .int (ei_ (i)), .ref ((sf_ a) + 1)], m)) rfl ?_
                              refine pw_getR (r := (sf_ b) + 1) rfl (sf_ok (a := b) (by omega)).2.2.2.1 ?_
                              refine pw_steps 2 (s' := (32, [some (.ref ((sf_ b))), some (.int (ei_ (j))), some (.ref ((sf_ a))), some (.int (ei_ (i))), some (.int (ei_ (n)))], [.int (ei_ (n)), .int (ei_ (j)), .ref ((sf_ b) + 1), .int (ei_ (i)), .ref ((sf_ a) + 1)], m)) rfl ?_
                              refine pw_cpyL rfl (Nat.le_of_ble_eq_true rfl) (sf_ok (a := a) (by omega)).2.2.2.2 (sf_ok (a := b) (by omega)).2.2.2.2 (by omega) ?_
                              refine pw_vret rfl rfl ?_
                              refine pw_steps 1 (s' := (112, [some (.ref 0), some (.int (ei_ (a))), some (.int (ei_ (i))), some (.int (ei_ (b))), some (.int (ei_ (j))), some (.int (ei_ (n))), some (.ref ((sf_ a))), some (.ref ((sf_ b)))], [.int (ei_ (n))], cl_ m ((sf_ a) + 1) ((sf_ b) + 1) i j n)) rfl ?_
                              refine pw_iret rfl rfl rfl ?_
                              refine ms_shift (by omega) (by omega) (by omega) (by omega) (by omega) (fun h1_ h2_ => by have t_ := hs a h1_ h2_; have t1_ := t_.1; have t2_ := t_.2.1; show 0 ≤ vi_ m 69 a ∧ vi_ m 69 a ≤ 60; omega) (fun h1_ h2_ => by have t_ := hs b h1_ h2_; have t1_ := t_.1; have t2_ := t_.2.1; show 0 ≤ vi_ m 69 b ∧ vi_ m 69 b ≤ 60; omega) (fun m1326 g327 g328 g329 g330 g331 g332 => ?_) (fun g333 => ?_) (fun g334 g335 => ?_) (fun g336 g337 => ?_) (fun g338 g339 => ?_)
                              · replace g328 : 50 ≤ vi_ m 68 a ∧ vi_ m 68 a = vi_ m 68 b := g328
                                replace g329 : 0 ≤ n ∧ 0 ≤ i ∧ 0 ≤ j ∧ i ≤ vi_ m 69 a - n ∧ j ≤ vi_ m 69 b - n := g329
                                have hS_ := rS_sft hs ⟨by omega, by omega⟩ ⟨by omega, by omega⟩ (by omega) (by omega) (by omega) ⟨by omega, by omega⟩ ⟨by omega, by omega⟩ g330 g331 g332
                                have hsm_ : sm_ pKe m (m1326.1, m.2) := ⟨fun k_ j_ _ => by rw [g330.1]; rfl, rfl⟩
                                have k_rP_ : rP_ (m1326.1, m.2) := rP_fr hsm_ rfl rfl (fun _ => rfl) (fun _ => rfl) hp
                                have k_rD_ : rD_ (m1326.1, m.2) := rD_fr hsm_ rfl (fun _ => rfl) (fun _ => rfl) (fun _ => rfl) (fun _ => rfl) (fun _ => rfl) (fun _ => rfl) rfl rfl rfl rfl rfl rfl hd
                                have k_rI_ : rI_ (m1326.1, m.2) := rI_fr hsm_ rfl rfl rfl rfl (fun _ => rfl) (fun _ => rfl) (fun _ => rfl) (fun _ => rfl) (fun _ => rfl) (fun _ => rfl) (fun _ => rfl) rfl rfl rfl hi
                                have k_rT_ : rT_ (m1326.1, m.2) := rT_fr hsm_ rfl rfl (fun _ => rfl) (fun _ => rfl) ht
                                have k_rL_ : rL_ (m1326.1, m.2) := rL_fr hsm_ rfl rfl (fun _ => rfl) (fun _ => rfl) hl
                                have k_rZ_ : rZ_ (m1326.1, m.2) := rZ_fr hsm_ rfl hz
                                have k_rC_ : rC_ (m1326.1, m.2) := rC_fr hsm_ rfl rfl rfl rfl (fun _ => rfl) (fun _ => rfl) (fun _ => rfl) (fun _ => rfl) (fun _ => rfl) (fun _ => rfl) (fun _ => rfl) rfl hc
                                have k_rA_ : rA_ (m1326.1, m.2) := rA_fr hsm_ rfl rfl (fun _ => rfl) (fun _ => rfl) rfl rfl (fun _ => rfl) (fun _ => rfl) ha
                                have hx_ : (n : Int) = n := by rfl
                                exact ⟨n, rfl, congrArg (fun z_ : Int => some (Value.int (ei_ z_))) hx_, ⟨k_rP_, k_rD_, k_rI_, k_rT_, k_rL_, k_rZ_, k_rC_, k_rA_, hS_⟩⟩
                              · exact False.elim (by omega)
                              · replace g335 : vi_ m 68 a < 0 ∨ vi_ m 68 b < 0 := g335
                                exact False.elim (by omega)
                              · replace g337 : ¬ (vi_ m 68 a < 0 ∨ vi_ m 68 b < 0) ∧ ¬ (50 ≤ vi_ m 68 a ∧ vi_ m 68 a = vi_ m 68 b) := g337
                                exact False.elim (by omega)
                              · replace g339 : (50 ≤ vi_ m 68 a ∧ vi_ m 68 a = vi_ m 68 b) ∧ ¬ (0 ≤ n ∧ 0 ≤ i ∧ 0 ≤ j ∧ i ≤ vi_ m 69 a - n ∧ j ≤ vi_ m 69 b - n) := g339
                                exact False.elim (by omega)

