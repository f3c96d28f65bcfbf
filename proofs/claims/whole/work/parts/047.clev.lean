set_option maxHeartbeats 4000000 in
set_option maxRecDepth 20000 in
theorem cz_lev {q : am_X} {B : Int → Int} {n : Int} {f : Nat} (hA1 : ∀ {L o p w : Int} {d : Nat} {m : am_M} {Q : Option Value → am_M → Prop}, (0 ≤ L ∧ L ≤ 5) → (0 ≤ o ∧ o ≤ 6) → (8 * (6 - o) + 10 - L ≤ (d : Int)) → (0 ≤ p ∧ p ≤ n) → (7 * (n - p) + 6 - L ≤ ((f : Nat) : Int)) → tp_ B n m → vi_ m 11 2 = p → vi_ m 11 4 = w → (0 ≤ w ∧ w ≤ p) → (∀ (g p1 : Int) (z1 : List Int) (m1 : am_M), ps_ B n (f) L o p = (g, p1, z1) → sm_ pTp m m1 → vi_ m1 11 2 = p1 → 0 ≤ vi_ m1 11 4 → (g = 1 → wz_ m m1 w z1) → Q (some (.int (ei_ g))) m1) → pw_C q d 31 [.ref 11, .int (ei_ L), .int (ei_ o)] m Q) (hA2 : ∀ {o p w : Int} {d : Nat} {m : am_M} {Q : Option Value → am_M → Prop}, (0 ≤ o ∧ o ≤ 6) → (8 * (6 - o) + 4 ≤ (d : Int)) → (0 ≤ p ∧ p ≤ n) → (7 * (n - p) + 1 ≤ ((f + 1 : Nat) : Int)) → tp_ B n m → vi_ m 11 2 = p → vi_ m 11 4 = w → (0 ≤ w ∧ w ≤ p) → (∀ (g p1 : Int) (z1 : List Int) (m1 : am_M), ps_ B n (f + 1) 5 o p = (g, p1, z1) → sm_ pTp m m1 → vi_ m1 11 2 = p1 → 0 ≤ vi_ m1 11 4 → (g = 1 → wz_ m m1 w z1) → Q (some (.int (ei_ g))) m1) → pw_C q d 32 [.ref 11, .int (ei_ o)] m Q) (hB : ∀ {L o p w M k : Int} {u6 : Option Value} {d : Nat} {m : am_M} {Q : Option Value → am_M → Prop}, (0 ≤ L ∧ L ≤ 4) → (0 ≤ o ∧ o ≤ 6) → (8 * (6 - o) + 9 - L ≤ (d : Int)) → (0 ≤ p ∧ p ≤ n) → (7 * (n - p) + 1 ≤ ((f : Nat) : Int)) → tp_ B n m → vi_ m 11 2 = p → vi_ m 11 4 = w → (0 ≤ w ∧ w ≤ p) → (0 ≤ k ∧ k ≤ p ∧ ((L = 2 ∧ M = 1 ∧ k = 0) ∨ (¬ L = 2 ∧ M = 120))) → (∀ (g p1 : Int) (z1 : List Int) (m1 : am_M), ps_ B n (f) (10 + L) o p = (g, p1, z1) → sm_ pTp m m1 → vi_ m1 11 2 = p1 → 0 ≤ vi_ m1 11 4 → (g = 1 → wz_ m m1 w z1) → Q (some (.int (ei_ g))) m1) → pw_V q d iX6_readLevel.2.2.2.1 tX6_readLevel Q (36, [some (.ref 11), some (.int (ei_ L)), some (.int (ei_ o)), some (.int (ei_ 1)), some (.int (ei_ M)), some (.int (ei_ k)), u6], [], m)) : ∀ {L o p w : Int} {d : Nat} {m : am_M} {Q : Option Value → am_M → Prop}, (0 ≤ L ∧ L ≤ 5) → (0 ≤ o ∧ o ≤ 6) → (8 * (6 - o) + 10 - L ≤ (d : Int)) → (0 ≤ p ∧ p ≤ n) → (7 * (n - p) + 6 - L ≤ ((f + 1 : Nat) : Int)) → tp_ B n m → vi_ m 11 2 = p → vi_ m 11 4 = w → (0 ≤ w ∧ w ≤ p) → (∀ (g p1 : Int) (z1 : List Int) (m1 : am_M), ps_ B n (f + 1) L o p = (g, p1, z1) → sm_ pTp m m1 → vi_ m1 11 2 = p1 → 0 ≤ vi_ m1 11 4 → (g = 1 → wz_ m m1 w z1) → Q (some (.int (ei_ g))) m1) → pw_C q d 31 [.ref 11, .int (ei_ L), .int (ei_ o)] m Q := by
  intro L o p w d m Q pL p0 pd p1 pf p2 p3 p4 p5 k0
  obtain ⟨hn1, hn2, hn3, hn4, hn5⟩ := id p2
  obtain ⟨d1, rfl⟩ : ∃ d1, d = d1 + 4 := ⟨d - 4, by omega⟩
  refine pw_intro (I := iX6_readLevel) (T := tX6_readLevel) rfl rfl rfl ?_
  refine pw_steps 2 (s' := (2, [some (.ref 11), some (.int (ei_ (L))), some (.int (ei_ (o))), none, none, none, none], [.int (ei_ (5)), .int (ei_ (L))], m)) rfl ?_
  refine pw_cmp rfl (by omega) (by decide) (fun (h1 : L < 5) => ?_) (fun (h1 : ¬ (L < 5)) => ?_)
  · refine pw_steps 5 (s' := (16, [some (.ref 11), some (.int (ei_ (L))), some (.int (ei_ (o))), none, none, none, none], [.int (ei_ (o)), .int ((ei_ (L)) + (ei_ (1))), .ref 11], m)) rfl ?_
    refine pw_cv (congrArg (fun z_ : Int32 => ((16, [some (.ref 11), some (.int (ei_ (L))), some (.int (ei_ (o))), none, none, none, none], [.int (ei_ (o)), .int z_, .ref 11], m) : am_S)) (ei_add rfl rfl)) ?_
    refine pw_call (As := [.int (ei_ ((L + 1))), .int (ei_ (o))]) (st := []) (k := 11) rfl rfl rfl rfl rfl (Nat.le_of_ble_eq_true rfl) ?_
    refine hA1 (p := p) (w := w) (by omega) (by omega) (by omega) (by omega) (by omega) (p2) (p3) (p4) (by omega) (fun g2 p13 z14 m15 g6 g7 g8 g9 g10 => ?_)
    have t11 : tp_ B n m15 := tp_sm g7 p2
    obtain ⟨b12a, b12b, b12c, b12d⟩ := ps_e g6 (by omega)
    refine pw_steps 3 (s' := (22, [some (.ref 11), some (.int (ei_ (L))), some (.int (ei_ (o))), some (.int (ei_ (g2))), none, none, none], [.int (ei_ (2)), .int (ei_ (L))], m15)) rfl ?_
    refine pw_cmp rfl (by omega) (by decide) (fun (h14 : ¬ L = 2) => ?_) (fun (h14 : ¬ ¬ L = 2) => ?_)
    · refine pw_steps 4 (s' := (36, [some (.ref 11), some (.int (ei_ (L))), some (.int (ei_ (o))), some (.int (ei_ (g2))), some (.int (ei_ (120))), some (.int (ei_ (0))), none], [], m15)) rfl ?_
      rcases (show g2 = 0 ∨ g2 = 1 by omega) with hg_ | hg_
      · subst hg_
        refine pw_steps 2 (s' := (40, [some (.ref 11), some (.int (ei_ (L))), some (.int (ei_ (o))), some (.int (ei_ (0))), some (.int (ei_ (120))), some (.int (ei_ (0))), none], [.int (ei_ (120)), .int (ei_ (0))], m15)) rfl ?_
        refine pw_cmpF rfl (by decide) (by decide) (show ¬ (120 ≤ 0) by decide) ?_
        refine pw_steps 1 (s' := (44, [some (.ref 11), some (.int (ei_ (L))), some (.int (ei_ (o))), some (.int (ei_ (0))), some (.int (ei_ (120))), some (.int (ei_ (0))), none], [.int (ei_ (0))], m15)) rfl ?_
        refine pw_ifT rfl (by decide) (show 0 = 0 by decide) ?_
        refine pw_steps 1 (s' := (96, [some (.ref 11), some (.int (ei_ (L))), some (.int (ei_ (o))), some (.int (ei_ (0))), some (.int (ei_ (120))), some (.int (ei_ (0))), none], [.int (ei_ (0))], m15)) rfl ?_
        refine pw_iret rfl rfl rfl ?_
        exact k0 _ _ _ _ ((ps_lev (by omega) g6).trans (if_neg (by omega))) g7 g8 g9 (fun h_ => absurd h_ (by decide))
      · subst hg_
        have hw_ := g10 rfl
        have hw1_ := hw_.1
        exact hB (p := p13) (w := vi_ m15 11 4) (by omega) (by omega) (by omega) (by omega) (by omega) t11 g8 rfl (by omega) (by omega) (fun g2 p2 z2 m2 e2 s2 q2 n2 w2 => k0 g2 p2 (z14 ++ z2) m2 (by rw [(ps_lev (by omega) g6).trans (if_pos rfl), e2]) (sm_tr g7 s2) q2 n2 (fun h_ => wz_app (by omega) hw_ hw1_ (w2 h_)))
    · refine pw_steps 5 (s' := (36, [some (.ref 11), some (.int (ei_ (L))), some (.int (ei_ (o))), some (.int (ei_ (g2))), some (.int (ei_ (1))), some (.int (ei_ (0))), none], [], m15)) rfl ?_
      rcases (show g2 = 0 ∨ g2 = 1 by omega) with hg_ | hg_
      · subst hg_
        refine pw_steps 2 (s' := (40, [some (.ref 11), some (.int (ei_ (L))), some (.int (ei_ (o))), some (.int (ei_ (0))), some (.int (ei_ (1))), some (.int (ei_ (0))), none], [.int (ei_ (1)), .int (ei_ (0))], m15)) rfl ?_
        refine pw_cmpF rfl (by decide) (by decide) (show ¬ (1 ≤ 0) by decide) ?_
        refine pw_steps 1 (s' := (44, [some (.ref 11), some (.int (ei_ (L))), some (.int (ei_ (o))), some (.int (ei_ (0))), some (.int (ei_ (1))), some (.int (ei_ (0))), none], [.int (ei_ (0))], m15)) rfl ?_
        refine pw_ifT rfl (by decide) (show 0 = 0 by decide) ?_
        refine pw_steps 1 (s' := (96, [some (.ref 11), some (.int (ei_ (L))), some (.int (ei_ (o))), some (.int (ei_ (0))), some (.int (ei_ (1))), some (.int (ei_ (0))), none], [.int (ei_ (0))], m15)) rfl ?_
        refine pw_iret rfl rfl rfl ?_
        exact k0 _ _ _ _ ((ps_lev (by omega) g6).trans (if_neg (by omega))) g7 g8 g9 (fun h_ => absurd h_ (by decide))
      · subst hg_
        have hw_ := g10 rfl
        have hw1_ := hw_.1
        exact hB (p := p13) (w := vi_ m15 11 4) (by omega) (by omega) (by omega) (by omega) (by omega) t11 g8 rfl (by omega) (by omega) (fun g2 p2 z2 m2 e2 s2 q2 n2 w2 => k0 g2 p2 (z14 ++ z2) m2 (by rw [(ps_lev (by omega) g6).trans (if_pos rfl), e2]) (sm_tr g7 s2) q2 n2 (fun h_ => wz_app (by omega) hw_ hw1_ (w2 h_)))
  · refine pw_steps 2 (s' := (7, [some (.ref 11), some (.int (ei_ (L))), some (.int (ei_ (o))), none, none, none, none], [.int (ei_ (o)), .ref 11], m)) rfl ?_
    refine pw_call (As := [.int (ei_ (o))]) (st := []) (k := 11) rfl rfl rfl rfl rfl (Nat.le_of_ble_eq_true rfl) ?_
    refine hA2 (p := p) (w := w) (by omega) (by omega) (by omega) (by omega) (p2) (p3) (p4) (by omega) (fun g15 p116 z117 m118 g19 g20 g21 g22 g23 => ?_)
    have t24 : tp_ B n m118 := tp_sm g20 p2
    obtain ⟨b25a, b25b, b25c, b25d⟩ := ps_e g19 (by omega)
    refine pw_iret rfl rfl (ei_bool (by omega)) ?_
    exact k0 _ _ _ _ (by rw [show L = 5 by omega]; exact g19) g20 g21 g22 g23

set_option maxHeartbeats 4000000 in
set_option maxRecDepth 20000 in
theorem cz_lp2 {q : am_X} {B : Int → Int} {n : Int} {f : Nat} (hA1 : ∀ {L o p w : Int} {d : Nat} {m : am_M} {Q : Option Value → am_M → Prop}, (0 ≤ L ∧ L ≤ 5) → (0 ≤ o ∧ o ≤ 6) → (8 * (6 - o) + 10 - L ≤ (d : Int)) → (0 ≤ p ∧ p ≤ n) → (7 * (n - p) + 6 - L ≤ ((f : Nat) : Int)) → tp_ B n m → vi_ m 11 2 = p → vi_ m 11 4 = w → (0 ≤ w ∧ w ≤ p) → (∀ (g p1 : Int) (z1 : List Int) (m1 : am_M), ps_ B n (f) L o p = (g, p1, z1) → sm_ pTp m m1 → vi_ m1 11 2 = p1 → 0 ≤ vi_ m1 11 4 → (g = 1 → wz_ m m1 w z1) → Q (some (.int (ei_ g))) m1) → pw_C q d 31 [.ref 11, .int (ei_ L), .int (ei_ o)] m Q) (hB : ∀ {L o p w M k : Int} {u6 : Option Value} {d : Nat} {m : am_M} {Q : Option Value → am_M → Prop}, (0 ≤ L ∧ L ≤ 4) → (0 ≤ o ∧ o ≤ 6) → (8 * (6 - o) + 9 - L ≤ (d : Int)) → (0 ≤ p ∧ p ≤ n) → (7 * (n - p) + 1 ≤ ((f : Nat) : Int)) → tp_ B n m → vi_ m 11 2 = p → vi_ m 11 4 = w → (0 ≤ w ∧ w ≤ p) → (0 ≤ k ∧ k ≤ p ∧ ((L = 2 ∧ M = 1 ∧ k = 0) ∨ (¬ L = 2 ∧ M = 120))) → (∀ (g p1 : Int) (z1 : List Int) (m1 : am_M), ps_ B n (f) (10 + L) o p = (g, p1, z1) → sm_ pTp m m1 → vi_ m1 11 2 = p1 → 0 ≤ vi_ m1 11 4 → (g = 1 → wz_ m m1 w z1) → Q (some (.int (ei_ g))) m1) → pw_V q d iX6_readLevel.2.2.2.1 tX6_readLevel Q (36, [some (.ref 11), some (.int (ei_ L)), some (.int (ei_ o)), some (.int (ei_ 1)), some (.int (ei_ M)), some (.int (ei_ k)), u6], [], m)) {o p w  : Int} {u6 : Option Value} {d : Nat} {m : am_M} {Q : Option Value → am_M → Prop} (pL : True) (p0 : 0 ≤ o ∧ o ≤ 6) (pd : 8 * (6 - o) + 9 - 2 ≤ (d : Int)) (p1 : 0 ≤ p ∧ p ≤ n) (pf : 7 * (n - p) + 1 ≤ ((f + 1 : Nat) : Int)) (p2 : tp_ B n m) (p3 : vi_ m 11 2 = p) (p4 : vi_ m 11 4 = w) (p5 : 0 ≤ w ∧ w ≤ p)  (k0 : (∀ (g p1 : Int) (z1 : List Int) (m1 : am_M), ps_ B n (f + 1) (10 + 2) o p = (g, p1, z1) → sm_ pTp m m1 → vi_ m1 11 2 = p1 → 0 ≤ vi_ m1 11 4 → (g = 1 → wz_ m m1 w z1) → Q (some (.int (ei_ g))) m1)) : pw_V q d iX6_readLevel.2.2.2.1 tX6_readLevel Q (36, [some (.ref 11), some (.int (ei_ (2))), some (.int (ei_ o)), some (.int (ei_ 1)), some (.int (ei_ (1))), some (.int (ei_ (0))), u6], [], m) := by
  obtain ⟨hn1, hn2, hn3, hn4, hn5⟩ := id p2
  obtain ⟨d1, rfl⟩ : ∃ d1, d = d1 + 4 := ⟨d - 4, by omega⟩
  refine pw_steps 2 (s' := (40, [some (.ref 11), some (.int (ei_ (2))), some (.int (ei_ (o))), some (.int (ei_ (1))), some (.int (ei_ (1))), some (.int (ei_ (0))), u6], [.int (ei_ (1)), .int (ei_ (0))], m)) rfl ?_
  refine pw_cmpF rfl (by decide) (by decide) (show ¬ (1 ≤ 0) by decide) ?_
  refine pw_steps 1 (s' := (44, [some (.ref 11), some (.int (ei_ (2))), some (.int (ei_ (o))), some (.int (ei_ (1))), some (.int (ei_ (1))), some (.int (ei_ (0))), u6], [.int (ei_ (1))], m)) rfl ?_
  refine pw_ifF rfl (by decide) (show ¬ (1 = 0) by decide) ?_
  refine pw_steps 1 (s' := (48, [some (.ref 11), some (.int (ei_ (2))), some (.int (ei_ (o))), some (.int (ei_ (1))), some (.int (ei_ (1))), some (.int (ei_ (0))), u6], [.ref 11], m)) rfl ?_
  refine pw_call (As := []) (st := []) (k := 11) rfl rfl rfl rfl rfl (Nat.le_of_ble_eq_true rfl) ?_
  refine ct_next (p := p) (p2) (by omega) (p3) (fun g1 g2 => ?_) (fun g3 => ?_)
  · refine pw_callS (As := [.int (ei_ ((B p)))]) (st := []) rfl (by decide) rfl rfl (Nat.le_of_ble_eq_true rfl) ?_
    refine ct_levelOf (by omega) (fun x4 g5 g6 => ?_)
    refine pw_steps 1 (s' := (55, [some (.ref 11), some (.int (ei_ (2))), some (.int (ei_ (o))), some (.int (ei_ (1))), some (.int (ei_ (1))), some (.int (ei_ (0))), u6], [.int (ei_ (2)), .int (ei_ (x4))], m)) rfl ?_
    refine pw_cmp rfl (by omega) (by decide) (fun (h7 : ¬ x4 = 2) => ?_) (fun (h7 : ¬ ¬ x4 = 2) => ?_)
    · refine pw_steps 1 (s' := (96, [some (.ref 11), some (.int (ei_ (2))), some (.int (ei_ (o))), some (.int (ei_ (1))), some (.int (ei_ (1))), some (.int (ei_ (0))), u6], [.int (ei_ (1))], m)) rfl ?_
      refine pw_iret rfl rfl rfl ?_
      exact k0 _ _ _ _ (ps_lp0 (by omega) (by omega)) (sm_rfl m) p3 (by omega) (fun _ => wz_nil p4 rfl)
    · refine pw_steps 1 (s' := (59, [some (.ref 11), some (.int (ei_ (2))), some (.int (ei_ (o))), some (.int (ei_ (1))), some (.int (ei_ (1))), some (.int (ei_ (0))), u6], [.ref 11], m)) rfl ?_
      refine pw_call (As := []) (st := []) (k := 11) rfl rfl rfl rfl rfl (Nat.le_of_ble_eq_true rfl) ?_
      refine ct_next (p := p) (p2) (by omega) (p3) (fun g8 g9 => ?_) (fun g10 => ?_)
      · refine pw_steps 3 (s' := (66, [some (.ref 11), some (.int (ei_ (2))), some (.int (ei_ (o))), some (.int (ei_ (1))), some (.int (ei_ (1))), some (.int (ei_ (0))), some (.int (ei_ ((B p))))], [.ref 11, .ref 11], m)) rfl ?_
        refine pw_get rfl rfl (fun x11 (hx11 : x11 = vi_ m 11 2) rx11 sx11 => ?_)
        replace hx11 : x11 = p := hx11.trans p3
        subst x11
        refine pw_steps 2 (s' := (71, [some (.ref 11), some (.int (ei_ (2))), some (.int (ei_ (o))), some (.int (ei_ (1))), some (.int (ei_ (1))), some (.int (ei_ (0))), some (.int (ei_ ((B p))))], [.int ((ei_ (p)) + (ei_ (1))), .ref 11], m)) rfl ?_
        refine pw_cv (congrArg (fun z_ : Int32 => ((71, [some (.ref 11), some (.int (ei_ (2))), some (.int (ei_ (o))), some (.int (ei_ (1))), some (.int (ei_ (1))), some (.int (ei_ (0))), some (.int (ei_ ((B p))))], [.int z_, .ref 11], m) : am_S)) (ei_add rfl rfl)) ?_
        refine pw_put (v := (p + 1)) rfl rfl (Or.inl rfl) ?_
        refine pw_cv (s' := (74, [some (.ref 11), some (.int (ei_ (2))), some (.int (ei_ (o))), some (.int (ei_ (1))), some (.int (ei_ (1))), some (.int (ei_ (0))), some (.int (ei_ ((B p))))], [], wi_ m 11 (2) ((p + 1)))) rfl ?_
        refine pw_steps 5 (s' := (79, [some (.ref 11), some (.int (ei_ (2))), some (.int (ei_ (o))), some (.int (ei_ (1))), some (.int (ei_ (1))), some (.int (ei_ (0))), some (.int (ei_ ((B p))))], [.int (ei_ (o)), .int ((ei_ (2)) + (ei_ (1))), .ref 11], wi_ m 11 (2) ((p + 1)))) rfl ?_
        refine pw_cv (congrArg (fun z_ : Int32 => ((79, [some (.ref 11), some (.int (ei_ (2))), some (.int (ei_ (o))), some (.int (ei_ (1))), some (.int (ei_ (1))), some (.int (ei_ (0))), some (.int (ei_ ((B p))))], [.int (ei_ (o)), .int z_, .ref 11], wi_ m 11 (2) ((p + 1))) : am_S)) (ei_add rfl rfl)) ?_
        refine pw_call (As := [.int (ei_ (3)), .int (ei_ (o))]) (st := []) (k := 11) rfl rfl rfl rfl rfl (Nat.le_of_ble_eq_true rfl) ?_
        refine hA1 (p := (p + 1)) (w := w) (by omega) (by omega) (by omega) (by omega) (by omega) (p2) ((ei_i (by omega))) (p4) (by omega) (fun g12 p113 z114 m115 g16 g17 g18 g19 g20 => ?_)
        have t21 : tp_ B n m115 := tp_sm g17 p2
        obtain ⟨b22a, b22b, b22c, b22d⟩ := ps_e g16 (by omega)
        refine pw_steps 3 (s' := (86, [some (.ref 11), some (.int (ei_ (2))), some (.int (ei_ (o))), some (.int (ei_ (g12))), some (.int (ei_ (1))), some (.int (ei_ (0))), some (.int (ei_ ((B p))))], [.int (ei_ ((B p))), .ref 11], m115)) rfl ?_
        refine pw_call (As := [.int (ei_ ((B p)))]) (st := []) (k := 11) rfl rfl rfl rfl rfl (Nat.le_of_ble_eq_true rfl) ?_
        refine ct_write (w := vi_ m115 11 4) (by omega) (rfl) (by omega) (fun m124 g25 g26 g27 => ?_)
        have t28 : tp_ B n m124 := tp_wr g25 t21
        refine pw_steps 2 (s' := (36, [some (.ref 11), some (.int (ei_ (2))), some (.int (ei_ (o))), some (.int (ei_ (g12))), some (.int (ei_ (1))), some (.int ((ei_ (0)) + (ei_ (1)))), some (.int (ei_ ((B p))))], [], m124)) rfl ?_
        refine pw_cv (congrArg (fun z_ : Int32 => ((36, [some (.ref 11), some (.int (ei_ (2))), some (.int (ei_ (o))), some (.int (ei_ (g12))), some (.int (ei_ (1))), some (.int z_), some (.int (ei_ ((B p))))], [], m124) : am_S)) (ei_add rfl rfl)) ?_
        rcases (show g12 = 0 ∨ g12 = 1 by omega) with hg_ | hg_
        · subst hg_
          refine pw_steps 2 (s' := (40, [some (.ref 11), some (.int (ei_ (2))), some (.int (ei_ (o))), some (.int (ei_ (0))), some (.int (ei_ (1))), some (.int (ei_ (1))), some (.int (ei_ ((B p))))], [.int (ei_ (1)), .int (ei_ (1))], m124)) rfl ?_
          refine pw_cmpT rfl (by decide) (by decide) (show 1 ≤ 1 by decide) ?_
          refine pw_steps 1 (s' := (96, [some (.ref 11), some (.int (ei_ (2))), some (.int (ei_ (o))), some (.int (ei_ (0))), some (.int (ei_ (1))), some (.int (ei_ (1))), some (.int (ei_ ((B p))))], [.int (ei_ (0))], m124)) rfl ?_
          refine pw_iret rfl rfl rfl ?_
          exact k0 _ _ _ _ ((ps_lp1 (by omega) (by omega) g16).trans (if_neg (by decide))) (sm_tr (sm_tr (sm_w (sm_rfl m) (fun _ h_ => by rw [h_]; rfl)) g17) (sm_le g25 pWr_Tp)) ((sm_v g25 rfl).trans g18) g26 (fun h_ => absurd h_ (by decide))
        · subst hg_
          have hw_ := g20 rfl
          have hw1_ := hw_.1
          have hv_ := g27 (by omega)
          have hv1_ := hv_.1
          rw [List.length_singleton] at hv1_
          refine pw_steps 2 (s' := (40, [some (.ref 11), some (.int (ei_ (2))), some (.int (ei_ (o))), some (.int (ei_ (1))), some (.int (ei_ (1))), some (.int (ei_ (1))), some (.int (ei_ ((B p))))], [.int (ei_ (1)), .int (ei_ (1))], m124)) rfl ?_
          refine pw_cmpT rfl (by decide) (by decide) (show 1 ≤ 1 by decide) ?_
          refine pw_steps 1 (s' := (96, [some (.ref 11), some (.int (ei_ (2))), some (.int (ei_ (o))), some (.int (ei_ (1))), some (.int (ei_ (1))), some (.int (ei_ (1))), some (.int (ei_ ((B p))))], [.int (ei_ (1))], m124)) rfl ?_
          refine pw_iret rfl rfl rfl ?_
          exact k0 _ _ _ _ ((ps_lp1 (by omega) (by omega) g16).trans ((if_pos rfl).trans (if_pos rfl))) (sm_tr (sm_tr (sm_w (sm_rfl m) (fun _ h_ => by rw [h_]; rfl)) g17) (sm_le g25 pWr_Tp)) ((sm_v g25 rfl).trans g18) g26 (fun _ => by rw [List.append_nil]; exact wz_app (by omega) (wz_cl hw_) hw1_ hv_)
      · exact False.elim (by omega)
  · refine pw_callS (As := [.int (ei_ ((-1)))]) (st := []) rfl (by decide) rfl rfl (Nat.le_of_ble_eq_true rfl) ?_
    refine ct_levelOf (by omega) (fun x29 g30 g31 => ?_)
    have hk_ : lv_ (-1) = 5 := rfl
    refine pw_steps 1 (s' := (55, [some (.ref 11), some (.int (ei_ (2))), some (.int (ei_ (o))), some (.int (ei_ (1))), some (.int (ei_ (1))), some (.int (ei_ (0))), u6], [.int (ei_ (2)), .int (ei_ (x29))], m)) rfl ?_
    refine pw_cmpT rfl (by omega) (by decide) (show ¬ x29 = 2 by omega) ?_
    refine pw_steps 1 (s' := (96, [some (.ref 11), some (.int (ei_ (2))), some (.int (ei_ (o))), some (.int (ei_ (1))), some (.int (ei_ (1))), some (.int (ei_ (0))), u6], [.int (ei_ (1))], m)) rfl ?_
    refine pw_iret rfl rfl rfl ?_
    exact k0 _ _ _ _ (ps_lp0 (by omega) (by omega)) (sm_rfl m) p3 (by omega) (fun _ => wz_nil p4 rfl)

set_option maxHeartbeats 4000000 in
set_option maxRecDepth 20000 in
theorem cz_lpx {q : am_X} {B : Int → Int} {n : Int} {f : Nat} (hA1 : ∀ {L o p w : Int} {d : Nat} {m : am_M} {Q : Option Value → am_M → Prop}, (0 ≤ L ∧ L ≤ 5) → (0 ≤ o ∧ o ≤ 6) → (8 * (6 - o) + 10 - L ≤ (d : Int)) → (0 ≤ p ∧ p ≤ n) → (7 * (n - p) + 6 - L ≤ ((f : Nat) : Int)) → tp_ B n m → vi_ m 11 2 = p → vi_ m 11 4 = w → (0 ≤ w ∧ w ≤ p) → (∀ (g p1 : Int) (z1 : List Int) (m1 : am_M), ps_ B n (f) L o p = (g, p1, z1) → sm_ pTp m m1 → vi_ m1 11 2 = p1 → 0 ≤ vi_ m1 11 4 → (g = 1 → wz_ m m1 w z1) → Q (some (.int (ei_ g))) m1) → pw_C q d 31 [.ref 11, .int (ei_ L), .int (ei_ o)] m Q) (hB : ∀ {L o p w M k : Int} {u6 : Option Value} {d : Nat} {m : am_M} {Q : Option Value → am_M → Prop}, (0 ≤ L ∧ L ≤ 4) → (0 ≤ o ∧ o ≤ 6) → (8 * (6 - o) + 9 - L ≤ (d : Int)) → (0 ≤ p ∧ p ≤ n) → (7 * (n - p) + 1 ≤ ((f : Nat) : Int)) → tp_ B n m → vi_ m 11 2 = p → vi_ m 11 4 = w → (0 ≤ w ∧ w ≤ p) → (0 ≤ k ∧ k ≤ p ∧ ((L = 2 ∧ M = 1 ∧ k = 0) ∨ (¬ L = 2 ∧ M = 120))) → (∀ (g p1 : Int) (z1 : List Int) (m1 : am_M), ps_ B n (f) (10 + L) o p = (g, p1, z1) → sm_ pTp m m1 → vi_ m1 11 2 = p1 → 0 ≤ vi_ m1 11 4 → (g = 1 → wz_ m m1 w z1) → Q (some (.int (ei_ g))) m1) → pw_V q d iX6_readLevel.2.2.2.1 tX6_readLevel Q (36, [some (.ref 11), some (.int (ei_ L)), some (.int (ei_ o)), some (.int (ei_ 1)), some (.int (ei_ M)), some (.int (ei_ k)), u6], [], m)) {o p w L k : Int} {u6 : Option Value} {d : Nat} {m : am_M} {Q : Option Value → am_M → Prop} (pL : 0 ≤ L ∧ L ≤ 4 ∧ ¬ L = 2) (p0 : 0 ≤ o ∧ o ≤ 6) (pd : 8 * (6 - o) + 9 - L ≤ (d : Int)) (p1 : 0 ≤ p ∧ p ≤ n) (pf : 7 * (n - p) + 1 ≤ ((f + 1 : Nat) : Int)) (p2 : tp_ B n m) (p3 : vi_ m 11 2 = p) (p4 : vi_ m 11 4 = w) (p5 : 0 ≤ w ∧ w ≤ p) (pk : 0 ≤ k ∧ k ≤ p) (k0 : (∀ (g p1 : Int) (z1 : List Int) (m1 : am_M), ps_ B n (f + 1) (10 + L) o p = (g, p1, z1) → sm_ pTp m m1 → vi_ m1 11 2 = p1 → 0 ≤ vi_ m1 11 4 → (g = 1 → wz_ m m1 w z1) → Q (some (.int (ei_ g))) m1)) : pw_V q d iX6_readLevel.2.2.2.1 tX6_readLevel Q (36, [some (.ref 11), some (.int (ei_ (L))), some (.int (ei_ o)), some (.int (ei_ 1)), some (.int (ei_ (120))), some (.int (ei_ (k))), u6], [], m) := by
  obtain ⟨hn1, hn2, hn3, hn4, hn5⟩ := id p2
  obtain ⟨d1, rfl⟩ : ∃ d1, d = d1 + 4 := ⟨d - 4, by omega⟩
  refine pw_steps 2 (s' := (40, [some (.ref 11), some (.int (ei_ (L))), some (.int (ei_ (o))), some (.int (ei_ (1))), some (.int (ei_ (120))), some (.int (ei_ (k))), u6], [.int (ei_ (120)), .int (ei_ (k))], m)) rfl ?_
  refine pw_cmp rfl (by omega) (by decide) (fun (h1 : 120 ≤ k) => ?_) (fun (h1 : ¬ (120 ≤ k)) => ?_)
  · refine pw_steps 1 (s' := (96, [some (.ref 11), some (.int (ei_ (L))), some (.int (ei_ (o))), some (.int (ei_ (1))), some (.int (ei_ (120))), some (.int (ei_ (k))), u6], [.int (ei_ (1))], m)) rfl ?_
    refine pw_iret rfl rfl rfl ?_
    exact k0 _ _ _ _ (ps_lp0 (by omega) (by omega)) (sm_rfl m) p3 (by omega) (fun _ => wz_nil p4 rfl)
  · refine pw_steps 1 (s' := (44, [some (.ref 11), some (.int (ei_ (L))), some (.int (ei_ (o))), some (.int (ei_ (1))), some (.int (ei_ (120))), some (.int (ei_ (k))), u6], [.int (ei_ (1))], m)) rfl ?_
    refine pw_ifF rfl (by decide) (show ¬ (1 = 0) by decide) ?_
    refine pw_steps 1 (s' := (48, [some (.ref 11), some (.int (ei_ (L))), some (.int (ei_ (o))), some (.int (ei_ (1))), some (.int (ei_ (120))), some (.int (ei_ (k))), u6], [.ref 11], m)) rfl ?_
    refine pw_call (As := []) (st := []) (k := 11) rfl rfl rfl rfl rfl (Nat.le_of_ble_eq_true rfl) ?_
    refine ct_next (p := p) (p2) (by omega) (p3) (fun g2 g3 => ?_) (fun g4 => ?_)
    · refine pw_callS (As := [.int (ei_ ((B p)))]) (st := []) rfl (by decide) rfl rfl (Nat.le_of_ble_eq_true rfl) ?_
      refine ct_levelOf (by omega) (fun x5 g6 g7 => ?_)
      refine pw_steps 1 (s' := (55, [some (.ref 11), some (.int (ei_ (L))), some (.int (ei_ (o))), some (.int (ei_ (1))), some (.int (ei_ (120))), some (.int (ei_ (k))), u6], [.int (ei_ (L)), .int (ei_ (x5))], m)) rfl ?_
      refine pw_cmp rfl (by omega) (by omega) (fun (h8 : ¬ x5 = L) => ?_) (fun (h8 : ¬ ¬ x5 = L) => ?_)
      · refine pw_steps 1 (s' := (96, [some (.ref 11), some (.int (ei_ (L))), some (.int (ei_ (o))), some (.int (ei_ (1))), some (.int (ei_ (120))), some (.int (ei_ (k))), u6], [.int (ei_ (1))], m)) rfl ?_
        refine pw_iret rfl rfl rfl ?_
        exact k0 _ _ _ _ (ps_lp0 (by omega) (by omega)) (sm_rfl m) p3 (by omega) (fun _ => wz_nil p4 rfl)
      · refine pw_steps 1 (s' := (59, [some (.ref 11), some (.int (ei_ (L))), some (.int (ei_ (o))), some (.int (ei_ (1))), some (.int (ei_ (120))), some (.int (ei_ (k))), u6], [.ref 11], m)) rfl ?_
        refine pw_call (As := []) (st := []) (k := 11) rfl rfl rfl rfl rfl (Nat.le_of_ble_eq_true rfl) ?_
        refine ct_next (p := p) (p2) (by omega) (p3) (fun g9 g10 => ?_) (fun g11 => ?_)
        · refine pw_steps 3 (s' := (66, [some (.ref 11), some (.int (ei_ (L))), some (.int (ei_ (o))), some (.int (ei_ (1))), some (.int (ei_ (120))), some (.int (ei_ (k))), some (.int (ei_ ((B p))))], [.ref 11, .ref 11], m)) rfl ?_
          refine pw_get rfl rfl (fun x12 (hx12 : x12 = vi_ m 11 2) rx12 sx12 => ?_)
          replace hx12 : x12 = p := hx12.trans p3
          subst x12
          refine pw_steps 2 (s' := (71, [some (.ref 11), some (.int (ei_ (L))), some (.int (ei_ (o))), some (.int (ei_ (1))), some (.int (ei_ (120))), some (.int (ei_ (k))), some (.int (ei_ ((B p))))], [.int ((ei_ (p)) + (ei_ (1))), .ref 11], m)) rfl ?_
          refine pw_cv (congrArg (fun z_ : Int32 => ((71, [some (.ref 11), some (.int (ei_ (L))), some (.int (ei_ (o))), some (.int (ei_ (1))), some (.int (ei_ (120))), some (.int (ei_ (k))), some (.int (ei_ ((B p))))], [.int z_, .ref 11], m) : am_S)) (ei_add rfl rfl)) ?_
          refine pw_put (v := (p + 1)) rfl rfl (Or.inl rfl) ?_
          refine pw_cv (s' := (74, [some (.ref 11), some (.int (ei_ (L))), some (.int (ei_ (o))), some (.int (ei_ (1))), some (.int (ei_ (120))), some (.int (ei_ (k))), some (.int (ei_ ((B p))))], [], wi_ m 11 (2) ((p + 1)))) rfl ?_
          refine pw_steps 5 (s' := (79, [some (.ref 11), some (.int (ei_ (L))), some (.int (ei_ (o))), some (.int (ei_ (1))), some (.int (ei_ (120))), some (.int (ei_ (k))), some (.int (ei_ ((B p))))], [.int (ei_ (o)), .int ((ei_ (L)) + (ei_ (1))), .ref 11], wi_ m 11 (2) ((p + 1)))) rfl ?_
          refine pw_cv (congrArg (fun z_ : Int32 => ((79, [some (.ref 11), some (.int (ei_ (L))), some (.int (ei_ (o))), some (.int (ei_ (1))), some (.int (ei_ (120))), some (.int (ei_ (k))), some (.int (ei_ ((B p))))], [.int (ei_ (o)), .int z_, .ref 11], wi_ m 11 (2) ((p + 1))) : am_S)) (ei_add rfl rfl)) ?_
          refine pw_call (As := [.int (ei_ ((L + 1))), .int (ei_ (o))]) (st := []) (k := 11) rfl rfl rfl rfl rfl (Nat.le_of_ble_eq_true rfl) ?_
          refine hA1 (p := (p + 1)) (w := w) (by omega) (by omega) (by omega) (by omega) (by omega) (p2) ((ei_i (by omega))) (p4) (by omega) (fun g13 p114 z115 m116 g17 g18 g19 g20 g21 => ?_)
          have t22 : tp_ B n m116 := tp_sm g18 p2
          obtain ⟨b23a, b23b, b23c, b23d⟩ := ps_e g17 (by omega)
          refine pw_steps 3 (s' := (86, [some (.ref 11), some (.int (ei_ (L))), some (.int (ei_ (o))), some (.int (ei_ (g13))), some (.int (ei_ (120))), some (.int (ei_ (k))), some (.int (ei_ ((B p))))], [.int (ei_ ((B p))), .ref 11], m116)) rfl ?_
          refine pw_call (As := [.int (ei_ ((B p)))]) (st := []) (k := 11) rfl rfl rfl rfl rfl (Nat.le_of_ble_eq_true rfl) ?_
          refine ct_write (w := vi_ m116 11 4) (by omega) (rfl) (by omega) (fun m125 g26 g27 g28 => ?_)
          have t29 : tp_ B n m125 := tp_wr g26 t22
          refine pw_steps 2 (s' := (36, [some (.ref 11), some (.int (ei_ (L))), some (.int (ei_ (o))), some (.int (ei_ (g13))), some (.int (ei_ (120))), some (.int ((ei_ (k)) + (ei_ (1)))), some (.int (ei_ ((B p))))], [], m125)) rfl ?_
          refine pw_cv (congrArg (fun z_ : Int32 => ((36, [some (.ref 11), some (.int (ei_ (L))), some (.int (ei_ (o))), some (.int (ei_ (g13))), some (.int (ei_ (120))), some (.int z_), some (.int (ei_ ((B p))))], [], m125) : am_S)) (ei_add rfl rfl)) ?_
          rcases (show g13 = 0 ∨ g13 = 1 by omega) with hg_ | hg_
          · subst hg_
            refine pw_steps 2 (s' := (40, [some (.ref 11), some (.int (ei_ (L))), some (.int (ei_ (o))), some (.int (ei_ (0))), some (.int (ei_ (120))), some (.int (ei_ ((k + 1)))), some (.int (ei_ ((B p))))], [.int (ei_ (120)), .int (ei_ ((k + 1)))], m125)) rfl ?_
            refine pw_cmp rfl (by omega) (by decide) (fun (h30 : 120 ≤ (k + 1)) => ?_) (fun (h30 : ¬ (120 ≤ (k + 1))) => ?_)
            · refine pw_steps 1 (s' := (96, [some (.ref 11), some (.int (ei_ (L))), some (.int (ei_ (o))), some (.int (ei_ (0))), some (.int (ei_ (120))), some (.int (ei_ ((k + 1)))), some (.int (ei_ ((B p))))], [.int (ei_ (0))], m125)) rfl ?_
              refine pw_iret rfl rfl rfl ?_
              exact k0 _ _ _ _ ((ps_lp1 (by omega) (by omega) g17).trans (if_neg (by decide))) (sm_tr (sm_tr (sm_w (sm_rfl m) (fun _ h_ => by rw [h_]; rfl)) g18) (sm_le g26 pWr_Tp)) ((sm_v g26 rfl).trans g19) g27 (fun h_ => absurd h_ (by decide))
            · refine pw_steps 1 (s' := (44, [some (.ref 11), some (.int (ei_ (L))), some (.int (ei_ (o))), some (.int (ei_ (0))), some (.int (ei_ (120))), some (.int (ei_ ((k + 1)))), some (.int (ei_ ((B p))))], [.int (ei_ (0))], m125)) rfl ?_
              refine pw_ifT rfl (by decide) (show 0 = 0 by decide) ?_
              refine pw_steps 1 (s' := (96, [some (.ref 11), some (.int (ei_ (L))), some (.int (ei_ (o))), some (.int (ei_ (0))), some (.int (ei_ (120))), some (.int (ei_ ((k + 1)))), some (.int (ei_ ((B p))))], [.int (ei_ (0))], m125)) rfl ?_
              refine pw_iret rfl rfl rfl ?_
              exact k0 _ _ _ _ ((ps_lp1 (by omega) (by omega) g17).trans (if_neg (by decide))) (sm_tr (sm_tr (sm_w (sm_rfl m) (fun _ h_ => by rw [h_]; rfl)) g18) (sm_le g26 pWr_Tp)) ((sm_v g26 rfl).trans g19) g27 (fun h_ => absurd h_ (by decide))
          · subst hg_
            have hw_ := g21 rfl
            have hw1_ := hw_.1
            have hv_ := g28 (by omega)
            have hv1_ := hv_.1
            rw [List.length_singleton] at hv1_
            exact hB (p := p114) (w := vi_ m125 11 4) (by omega) (by omega) (by omega) (by omega) (by omega) t29 ((sm_v g26 rfl).trans g19) rfl (by omega) (by omega) (fun g2 p2 z2 m2 e2 s2 q2 n2 w2 => k0 g2 p2 ((z115 ++ [B p]) ++ z2) m2 (by rw [(ps_lp1 (by omega) (by omega) g17).trans (if_pos rfl), if_neg (by omega), e2]) (sm_tr (sm_tr (sm_tr (sm_w (sm_rfl m) (fun _ h_ => by rw [h_]; rfl)) g18) (sm_le g26 pWr_Tp)) s2) q2 n2 (fun h_ => wz_app (by omega) (wz_app (by omega) (wz_cl hw_) hw1_ hv_) (by rw [List.length_append, List.length_singleton]; omega) (w2 h_)))
        · exact False.elim (by omega)
    · refine pw_callS (As := [.int (ei_ ((-1)))]) (st := []) rfl (by decide) rfl rfl (Nat.le_of_ble_eq_true rfl) ?_
      refine ct_levelOf (by omega) (fun x31 g32 g33 => ?_)
      have hk_ : lv_ (-1) = 5 := rfl
      refine pw_steps 1 (s' := (55, [some (.ref 11), some (.int (ei_ (L))), some (.int (ei_ (o))), some (.int (ei_ (1))), some (.int (ei_ (120))), some (.int (ei_ (k))), u6], [.int (ei_ (L)), .int (ei_ (x31))], m)) rfl ?_
      refine pw_cmpT rfl (by omega) (by omega) (show ¬ x31 = L by omega) ?_
      refine pw_steps 1 (s' := (96, [some (.ref 11), some (.int (ei_ (L))), some (.int (ei_ (o))), some (.int (ei_ (1))), some (.int (ei_ (120))), some (.int (ei_ (k))), u6], [.int (ei_ (1))], m)) rfl ?_
      refine pw_iret rfl rfl rfl ?_
      exact k0 _ _ _ _ (ps_lp0 (by omega) (by omega)) (sm_rfl m) p3 (by omega) (fun _ => wz_nil p4 rfl)

theorem cz_lp {q : am_X} {B : Int → Int} {n : Int} {f : Nat} (hA1 : ∀ {L o p w : Int} {d : Nat} {m : am_M} {Q : Option Value → am_M → Prop}, (0 ≤ L ∧ L ≤ 5) → (0 ≤ o ∧ o ≤ 6) → (8 * (6 - o) + 10 - L ≤ (d : Int)) → (0 ≤ p ∧ p ≤ n) → (7 * (n - p) + 6 - L ≤ ((f : Nat) : Int)) → tp_ B n m → vi_ m 11 2 = p → vi_ m 11 4 = w → (0 ≤ w ∧ w ≤ p) → (∀ (g p1 : Int) (z1 : List Int) (m1 : am_M), ps_ B n (f) L o p = (g, p1, z1) → sm_ pTp m m1 → vi_ m1 11 2 = p1 → 0 ≤ vi_ m1 11 4 → (g = 1 → wz_ m m1 w z1) → Q (some (.int (ei_ g))) m1) → pw_C q d 31 [.ref 11, .int (ei_ L), .int (ei_ o)] m Q) (hB : ∀ {L o p w M k : Int} {u6 : Option Value} {d : Nat} {m : am_M} {Q : Option Value → am_M → Prop}, (0 ≤ L ∧ L ≤ 4) → (0 ≤ o ∧ o ≤ 6) → (8 * (6 - o) + 9 - L ≤ (d : Int)) → (0 ≤ p ∧ p ≤ n) → (7 * (n - p) + 1 ≤ ((f : Nat) : Int)) → tp_ B n m → vi_ m 11 2 = p → vi_ m 11 4 = w → (0 ≤ w ∧ w ≤ p) → (0 ≤ k ∧ k ≤ p ∧ ((L = 2 ∧ M = 1 ∧ k = 0) ∨ (¬ L = 2 ∧ M = 120))) → (∀ (g p1 : Int) (z1 : List Int) (m1 : am_M), ps_ B n (f) (10 + L) o p = (g, p1, z1) → sm_ pTp m m1 → vi_ m1 11 2 = p1 → 0 ≤ vi_ m1 11 4 → (g = 1 → wz_ m m1 w z1) → Q (some (.int (ei_ g))) m1) → pw_V q d iX6_readLevel.2.2.2.1 tX6_readLevel Q (36, [some (.ref 11), some (.int (ei_ L)), some (.int (ei_ o)), some (.int (ei_ 1)), some (.int (ei_ M)), some (.int (ei_ k)), u6], [], m)) : ∀ {L o p w M k : Int} {u6 : Option Value} {d : Nat} {m : am_M} {Q : Option Value → am_M → Prop}, (0 ≤ L ∧ L ≤ 4) → (0 ≤ o ∧ o ≤ 6) → (8 * (6 - o) + 9 - L ≤ (d : Int)) → (0 ≤ p ∧ p ≤ n) → (7 * (n - p) + 1 ≤ ((f + 1 : Nat) : Int)) → tp_ B n m → vi_ m 11 2 = p → vi_ m 11 4 = w → (0 ≤ w ∧ w ≤ p) → (0 ≤ k ∧ k ≤ p ∧ ((L = 2 ∧ M = 1 ∧ k = 0) ∨ (¬ L = 2 ∧ M = 120))) → (∀ (g p1 : Int) (z1 : List Int) (m1 : am_M), ps_ B n (f + 1) (10 + L) o p = (g, p1, z1) → sm_ pTp m m1 → vi_ m1 11 2 = p1 → 0 ≤ vi_ m1 11 4 → (g = 1 → wz_ m m1 w z1) → Q (some (.int (ei_ g))) m1) → pw_V q d iX6_readLevel.2.2.2.1 tX6_readLevel Q (36, [some (.ref 11), some (.int (ei_ L)), some (.int (ei_ o)), some (.int (ei_ 1)), some (.int (ei_ M)), some (.int (ei_ k)), u6], [], m) := by
  intro L o p w M k u6 d m Q pL p0 pd p1 pf p2 p3 p4 p5 pk k0
  rcases pk.2.2 with ⟨h1, h2, h3⟩ | ⟨h1, h2⟩
  · subst h1 h2 h3
    exact cz_lp2 hA1 hB trivial p0 pd p1 pf p2 p3 p4 p5 k0
  · subst h2
    exact cz_lpx hA1 hB ⟨pL.1, pL.2, h1⟩ p0 pd p1 pf p2 p3 p4 p5 ⟨pk.1, pk.2.1⟩ k0
theorem cz_all {q : am_X} {B : Int → Int} {n : Int} (hn : 0 ≤ n) : ∀ f : Nat, (∀ {o p w : Int} {d : Nat} {m : am_M} {Q : Option Value → am_M → Prop}, (0 ≤ o ∧ o ≤ 6) → (8 * (6 - o) + 4 ≤ (d : Int)) → (0 ≤ p ∧ p ≤ n) → (7 * (n - p) + 1 ≤ ((f : Nat) : Int)) → tp_ B n m → vi_ m 11 2 = p → vi_ m 11 4 = w → (0 ≤ w ∧ w ≤ p) → (∀ (g p1 : Int) (z1 : List Int) (m1 : am_M), ps_ B n (f) 5 o p = (g, p1, z1) → sm_ pTp m m1 → vi_ m1 11 2 = p1 → 0 ≤ vi_ m1 11 4 → (g = 1 → wz_ m m1 w z1) → Q (some (.int (ei_ g))) m1) → pw_C q d 32 [.ref 11, .int (ei_ o)] m Q) ∧ (∀ {L o p w : Int} {d : Nat} {m : am_M} {Q : Option Value → am_M → Prop}, (0 ≤ L ∧ L ≤ 5) → (0 ≤ o ∧ o ≤ 6) → (8 * (6 - o) + 10 - L ≤ (d : Int)) → (0 ≤ p ∧ p ≤ n) → (7 * (n - p) + 6 - L ≤ ((f : Nat) : Int)) → tp_ B n m → vi_ m 11 2 = p → vi_ m 11 4 = w → (0 ≤ w ∧ w ≤ p) → (∀ (g p1 : Int) (z1 : List Int) (m1 : am_M), ps_ B n (f) L o p = (g, p1, z1) → sm_ pTp m m1 → vi_ m1 11 2 = p1 → 0 ≤ vi_ m1 11 4 → (g = 1 → wz_ m m1 w z1) → Q (some (.int (ei_ g))) m1) → pw_C q d 31 [.ref 11, .int (ei_ L), .int (ei_ o)] m Q) ∧ (∀ {L o p w M k : Int} {u6 : Option Value} {d : Nat} {m : am_M} {Q : Option Value → am_M → Prop}, (0 ≤ L ∧ L ≤ 4) → (0 ≤ o ∧ o ≤ 6) → (8 * (6 - o) + 9 - L ≤ (d : Int)) → (0 ≤ p ∧ p ≤ n) → (7 * (n - p) + 1 ≤ ((f : Nat) : Int)) → tp_ B n m → vi_ m 11 2 = p → vi_ m 11 4 = w → (0 ≤ w ∧ w ≤ p) → (0 ≤ k ∧ k ≤ p ∧ ((L = 2 ∧ M = 1 ∧ k = 0) ∨ (¬ L = 2 ∧ M = 120))) → (∀ (g p1 : Int) (z1 : List Int) (m1 : am_M), ps_ B n (f) (10 + L) o p = (g, p1, z1) → sm_ pTp m m1 → vi_ m1 11 2 = p1 → 0 ≤ vi_ m1 11 4 → (g = 1 → wz_ m m1 w z1) → Q (some (.int (ei_ g))) m1) → pw_V q d iX6_readLevel.2.2.2.1 tX6_readLevel Q (36, [some (.ref 11), some (.int (ei_ L)), some (.int (ei_ o)), some (.int (ei_ 1)), some (.int (ei_ M)), some (.int (ei_ k)), u6], [], m)) := by
  intro f
  induction f with
  | zero =>
    refine ⟨?_, ?_, ?_⟩
    · intro o p w d m Q _ _ p1 pf
      exact absurd pf (by omega)
    · intro L o p w d m Q pL _ _ p1 pf
      exact absurd pf (by omega)
    · intro L o p w M k u6 d m Q pL _ _ p1 pf
      exact absurd pf (by omega)
  | succ f ih =>
    have a2 : ∀ {o p w : Int} {d : Nat} {m : am_M} {Q : Option Value → am_M → Prop}, (0 ≤ o ∧ o ≤ 6) → (8 * (6 - o) + 4 ≤ (d : Int)) → (0 ≤ p ∧ p ≤ n) → (7 * (n - p) + 1 ≤ ((f + 1 : Nat) : Int)) → tp_ B n m → vi_ m 11 2 = p → vi_ m 11 4 = w → (0 ≤ w ∧ w ≤ p) → (∀ (g p1 : Int) (z1 : List Int) (m1 : am_M), ps_ B n (f + 1) 5 o p = (g, p1, z1) → sm_ pTp m m1 → vi_ m1 11 2 = p1 → 0 ≤ vi_ m1 11 4 → (g = 1 → wz_ m m1 w z1) → Q (some (.int (ei_ g))) m1) → pw_C q d 32 [.ref 11, .int (ei_ o)] m Q := cz_one ih.2.1 ih.1
    exact ⟨a2, cz_lev ih.2.1 a2 ih.2.2, cz_lp ih.2.1 ih.2.2⟩

