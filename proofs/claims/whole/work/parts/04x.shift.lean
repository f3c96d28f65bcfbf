
/-! ===== shift ===== -/
/-- only longs of c and 71 change -/
def sl2_ (c : Nat) (m m1 : am_M) : Prop := m1.1 = m.1 ∧ (∀ k j, k ≠ c → k ≠ 71 → m1.2 k j = m.2 k j)
theorem sl2_rfl {c : Nat} (m : am_M) : sl2_ c m m := ⟨rfl, fun _ _ _ _ => rfl⟩
theorem sl2_w {c k : Nat} {m m1 : am_M} {j v : Int} (h : sl2_ c m m1) (hk : k = c ∨ k = 71) : sl2_ c m (wl_ m1 k j v) := by
  refine ⟨h.1, fun a i e e2 => ?_⟩
  rw [← h.2 a i e e2]
  simp only [wl_, am_ul]
  rw [if_neg (by rcases hk with hk | hk <;> rw [hk] <;> assumption)]
theorem sl2_f {c a : Nat} {m m1 : am_M} (h : sl2_ c m m1) : vi_ m1 a = vi_ m a := by
  funext j; simp only [vi_, h.1]
theorem sl2_l {c a : Nat} {m m1 : am_M} (h : sl2_ c m m1) (e : a ≠ c) (e2 : a ≠ 71) : vl_ m1 a = vl_ m a := by
  funext j; simp only [vl_, h.2 a _ e e2]
theorem vl_cl {m : am_M} {a b : Nat} {s d n x : Int} (hs : 0 ≤ s) (hd : 0 ≤ d) (hn : 0 ≤ n) (hx : 0 ≤ x) : vl_ (cl_ m a b s d n) b x = if d ≤ x ∧ x < d + n then vl_ m a (s + (x - d)) else vl_ m b x := by
  simp only [vl_, cl_, am_rl, if_true]
  by_cases h : d ≤ x ∧ x < d + n
  · rw [if_pos h, pk_cpy_in (by omega) (by omega), show s.toNat + (x.toNat - d.toNat) = (s + (x - d)).toNat by omega]
  · rw [if_neg h, pk_cpy_out (by omega)]
theorem vl_cn {m : am_M} {a b c : Nat} {s d n : Int} (h : c ≠ b) : vl_ (cl_ m a b s d n) c = vl_ m c := by
  funext x; simp only [vl_, cl_, am_rl, if_neg h]

set_option maxHeartbeats 4000000 in
set_option maxRecDepth 20000 in
theorem ms_shift {q : am_X} {d : Nat} {m : am_M} {Q : Option Value → am_M → Prop} {a : Int} {i : Int} {b : Int} {j : Int} {n : Int}  (p0 : -2147483648 ≤ a ∧ a < 2147483648) (p1 : -2147483648 ≤ i ∧ i < 2147483648) (p2 : -2147483648 ≤ b ∧ b < 2147483648) (p3 : -2147483648 ≤ j ∧ j < 2147483648) (p4 : -2147483648 ≤ n ∧ n < 2147483648) (p5 : 0 ≤ a → a < 6 → 0 ≤ vi_ m 69 a ∧ vi_ m 69 a ≤ 60) (p6 : 0 ≤ b → b < 6 → 0 ≤ vi_ m 69 b ∧ vi_ m 69 b ≤ 60) (k0 : ∀ (m1 : am_M), (0 ≤ a ∧ a < 6 ∧ 0 ≤ b ∧ b < 6) → (50 ≤ vi_ m 68 a ∧ vi_ m 68 a = vi_ m 68 b) → (0 ≤ n ∧ 0 ≤ i ∧ 0 ≤ j ∧ i ≤ vi_ m 69 a - n ∧ j ≤ vi_ m 69 b - n) → (sl2_ 70 m m1) → (∀ x, 0 ≤ x → x < n → vl_ m1 70 (60 * b + j + x) = vl_ m 70 (60 * a + i + x)) → (∀ x, 0 ≤ x → (x < 60 * b + j ∨ 60 * b + j + n ≤ x) → vl_ m1 70 x = vl_ m 70 x) → Q (some (.int (ei_ (n)))) m1) (k1 : (¬ (0 ≤ a ∧ a < 6 ∧ 0 ≤ b ∧ b < 6)) → Q (some (.int (ei_ ((-1))))) m) (k2 : (0 ≤ a ∧ a < 6 ∧ 0 ≤ b ∧ b < 6) → (vi_ m 68 a < 0 ∨ vi_ m 68 b < 0) → Q (some (.int (ei_ ((-11))))) m) (k3 : (0 ≤ a ∧ a < 6 ∧ 0 ≤ b ∧ b < 6) → (¬ (vi_ m 68 a < 0 ∨ vi_ m 68 b < 0) ∧ ¬ (50 ≤ vi_ m 68 a ∧ vi_ m 68 a = vi_ m 68 b)) → Q (some (.int (ei_ ((-12))))) m) (k4 : (0 ≤ a ∧ a < 6 ∧ 0 ≤ b ∧ b < 6) → ((50 ≤ vi_ m 68 a ∧ vi_ m 68 a = vi_ m 68 b) ∧ ¬ (0 ≤ n ∧ 0 ≤ i ∧ 0 ≤ j ∧ i ≤ vi_ m 69 a - n ∧ j ≤ vi_ m 69 b - n)) → Q (some (.int (ei_ ((-13))))) m) : pw_C q (d + 4) 259 [.ref 47, .int (ei_ (a)), .int (ei_ (i)), .int (ei_ (b)), .int (ei_ (j)), .int (ei_ (n))] m Q := by
  refine pw_intro (I := iX9_shift) (T := tX9_shift) rfl rfl rfl ?_
  refine pw_steps 1 (s' := (1, [some (.ref 47), some (.int (ei_ (a))), some (.int (ei_ (i))), some (.int (ei_ (b))), some (.int (ei_ (j))), some (.int (ei_ (n))), none], [.int (ei_ (a))], m)) rfl ?_
  refine pw_callS (As := [.int (ei_ (a))]) (st := []) rfl (by decide) rfl rfl (Nat.le_of_ble_eq_true rfl) ?_
  refine pw_intro (I := iX9_isShelf) (T := tX9_isShelf) rfl rfl rfl ?_
  refine pw_steps 4 (s' := (6, [some (.int (ei_ (a)))], [.long (el_ (5)), .long (el_ (0)), .long ((ei_ (a)).toInt64)], m)) rfl ?_
  refine pw_cv (congrArg (fun z_ : Int64 => ((6, [some (.int (ei_ (a)))], [.long (el_ (5)), .long (el_ (0)), .long z_], m) : am_S)) (el_i2l p0 rfl)) ?_
  refine pw_callS (As := [.long (el_ (a)), .long (el_ (0)), .long (el_ (5))]) (st := []) rfl (by decide) rfl rfl (Nat.le_of_ble_eq_true rfl) ?_
  refine mt_within (by omega) (by omega) (by omega) (fun g1 g2 => ?_) (fun g3 => ?_) (fun g4 => ?_)
  · refine pw_iret rfl rfl rfl ?_
    refine pw_ifF rfl (by decide) (show ¬ (1 = 0) by decide) ?_
    refine pw_steps 1 (s' := (8, [some (.ref 47), some (.int (ei_ (a))), some (.int (ei_ (i))), some (.int (ei_ (b))), some (.int (ei_ (j))), some (.int (ei_ (n))), none], [.int (ei_ (b))], m)) rfl ?_
    refine pw_callS (As := [.int (ei_ (b))]) (st := []) rfl (by decide) rfl rfl (Nat.le_of_ble_eq_true rfl) ?_
    refine pw_intro (I := iX9_isShelf) (T := tX9_isShelf) rfl rfl rfl ?_
    refine pw_steps 4 (s' := (6, [some (.int (ei_ (b)))], [.long (el_ (5)), .long (el_ (0)), .long ((ei_ (b)).toInt64)], m)) rfl ?_
    refine pw_cv (congrArg (fun z_ : Int64 => ((6, [some (.int (ei_ (b)))], [.long (el_ (5)), .long (el_ (0)), .long z_], m) : am_S)) (el_i2l p2 rfl)) ?_
    refine pw_callS (As := [.long (el_ (b)), .long (el_ (0)), .long (el_ (5))]) (st := []) rfl (by decide) rfl rfl (Nat.le_of_ble_eq_true rfl) ?_
    refine mt_within (by omega) (by omega) (by omega) (fun g5 g6 => ?_) (fun g7 => ?_) (fun g8 => ?_)
    · refine pw_iret rfl rfl rfl ?_
      refine pw_ifT rfl (by decide) (show ¬ 1 = 0 by decide) ?_
      have h69a_ := p5 (by omega) (by omega)
      have h69b_ := p6 (by omega) (by omega)
      refine pw_steps 3 (s' := (21, [some (.ref 47), some (.int (ei_ (a))), some (.int (ei_ (i))), some (.int (ei_ (b))), some (.int (ei_ (j))), some (.int (ei_ (n))), none], [.int (ei_ (a)), .ref 68], m)) rfl ?_
      refine pw_ild rfl rfl (by omega) (fun x9 (hx9 : x9 = vi_ m 68 a) rx9 sx9 => ?_)
      refine pw_if rfl ⟨rx9, sx9⟩ (fun (h10 : x9 < 0) => ?_) (fun (h10 : ¬ (x9 < 0)) => ?_)
      · refine pw_steps 1 (s' := (36, [some (.ref 47), some (.int (ei_ (a))), some (.int (ei_ (i))), some (.int (ei_ (b))), some (.int (ei_ (j))), some (.int (ei_ (n))), none], [.int (ei_ ((-11)))], m)) rfl ?_
        refine pw_iret rfl rfl rfl ?_
        exact k2 (by omega) (by omega)
      · refine pw_steps 3 (s' := (30, [some (.ref 47), some (.int (ei_ (a))), some (.int (ei_ (i))), some (.int (ei_ (b))), some (.int (ei_ (j))), some (.int (ei_ (n))), none], [.int (ei_ (b)), .ref 68], m)) rfl ?_
        refine pw_ild rfl rfl (by omega) (fun x11 (hx11 : x11 = vi_ m 68 b) rx11 sx11 => ?_)
        refine pw_if rfl ⟨rx11, sx11⟩ (fun (h12 : 0 ≤ x11) => ?_) (fun (h12 : ¬ (0 ≤ x11)) => ?_)
        · refine pw_steps 3 (s' := (42, [some (.ref 47), some (.int (ei_ (a))), some (.int (ei_ (i))), some (.int (ei_ (b))), some (.int (ei_ (j))), some (.int (ei_ (n))), none], [.int (ei_ (a)), .ref 68], m)) rfl ?_
          refine pw_ildE (x := x9) rfl rfl (by omega) hx9 ?_
          refine pw_steps 1 (s' := (45, [some (.ref 47), some (.int (ei_ (a))), some (.int (ei_ (i))), some (.int (ei_ (b))), some (.int (ei_ (j))), some (.int (ei_ (n))), none], [.int (ei_ (50)), .int (ei_ (x9))], m)) rfl ?_
          refine pw_cmp rfl ⟨rx9, sx9⟩ (by decide) (fun (h13 : x9 < 50) => ?_) (fun (h13 : ¬ (x9 < 50)) => ?_)
          · refine pw_steps 1 (s' := (65, [some (.ref 47), some (.int (ei_ (a))), some (.int (ei_ (i))), some (.int (ei_ (b))), some (.int (ei_ (j))), some (.int (ei_ (n))), none], [.int (ei_ ((-12)))], m)) rfl ?_
            refine pw_iret rfl rfl rfl ?_
            exact k3 (by omega) (by omega)
          · refine pw_steps 3 (s' := (53, [some (.ref 47), some (.int (ei_ (a))), some (.int (ei_ (i))), some (.int (ei_ (b))), some (.int (ei_ (j))), some (.int (ei_ (n))), none], [.int (ei_ (a)), .ref 68], m)) rfl ?_
            refine pw_ildE (x := x9) rfl rfl (by omega) hx9 ?_
            refine pw_steps 3 (s' := (59, [some (.ref 47), some (.int (ei_ (a))), some (.int (ei_ (i))), some (.int (ei_ (b))), some (.int (ei_ (j))), some (.int (ei_ (n))), none], [.int (ei_ (b)), .ref 68, .int (ei_ (x9))], m)) rfl ?_
            refine pw_ildE (x := x11) rfl rfl (by omega) hx11 ?_
            refine pw_cmp rfl ⟨rx9, sx9⟩ ⟨rx11, sx11⟩ (fun (h14 : x9 = x11) => ?_) (fun (h14 : ¬ (x9 = x11)) => ?_)
            · refine pw_steps 1 (s' := (68, [some (.ref 47), some (.int (ei_ (a))), some (.int (ei_ (i))), some (.int (ei_ (b))), some (.int (ei_ (j))), some (.int (ei_ (n))), none], [.int (ei_ (n))], m)) rfl ?_
              refine pw_if rfl p4 (fun (h15 : n < 0) => ?_) (fun (h15 : ¬ (n < 0)) => ?_)
              · refine pw_steps 1 (s' := (109, [some (.ref 47), some (.int (ei_ (a))), some (.int (ei_ (i))), some (.int (ei_ (b))), some (.int (ei_ (j))), some (.int (ei_ (n))), none], [.int (ei_ ((-13)))], m)) rfl ?_
                refine pw_iret rfl rfl rfl ?_
                exact k4 (by omega) (by omega)
              · refine pw_steps 1 (s' := (72, [some (.ref 47), some (.int (ei_ (a))), some (.int (ei_ (i))), some (.int (ei_ (b))), some (.int (ei_ (j))), some (.int (ei_ (n))), none], [.int (ei_ (i))], m)) rfl ?_
                refine pw_if rfl p1 (fun (h16 : i < 0) => ?_) (fun (h16 : ¬ (i < 0)) => ?_)
                · refine pw_steps 1 (s' := (109, [some (.ref 47), some (.int (ei_ (a))), some (.int (ei_ (i))), some (.int (ei_ (b))), some (.int (ei_ (j))), some (.int (ei_ (n))), none], [.int (ei_ ((-13)))], m)) rfl ?_
                  refine pw_iret rfl rfl rfl ?_
                  exact k4 (by omega) (by omega)
                · refine pw_steps 1 (s' := (77, [some (.ref 47), some (.int (ei_ (a))), some (.int (ei_ (i))), some (.int (ei_ (b))), some (.int (ei_ (j))), some (.int (ei_ (n))), none], [.int (ei_ (j))], m)) rfl ?_
                  refine pw_if rfl p3 (fun (h17 : j < 0) => ?_) (fun (h17 : ¬ (j < 0)) => ?_)
                  · refine pw_steps 1 (s' := (109, [some (.ref 47), some (.int (ei_ (a))), some (.int (ei_ (i))), some (.int (ei_ (b))), some (.int (ei_ (j))), some (.int (ei_ (n))), none], [.int (ei_ ((-13)))], m)) rfl ?_
                    refine pw_iret rfl rfl rfl ?_
                    exact k4 (by omega) (by omega)
                  · refine pw_steps 4 (s' := (86, [some (.ref 47), some (.int (ei_ (a))), some (.int (ei_ (i))), some (.int (ei_ (b))), some (.int (ei_ (j))), some (.int (ei_ (n))), none], [.int (ei_ (a)), .ref 69, .int (ei_ (i))], m)) rfl ?_
                    refine pw_ild rfl rfl (by omega) (fun x18 (hx18 : x18 = vi_ m 69 a) rx18 sx18 => ?_)
                    refine pw_steps 2 (s' := (90, [some (.ref 47), some (.int (ei_ (a))), some (.int (ei_ (i))), some (.int (ei_ (b))), some (.int (ei_ (j))), some (.int (ei_ (n))), none], [.int ((ei_ (x18)) - (ei_ (n))), .int (ei_ (i))], m)) rfl ?_
                    refine pw_cv (congrArg (fun z_ : Int32 => ((90, [some (.ref 47), some (.int (ei_ (a))), some (.int (ei_ (i))), some (.int (ei_ (b))), some (.int (ei_ (j))), some (.int (ei_ (n))), none], [.int z_, .int (ei_ (i))], m) : am_S)) (ei_sub rfl rfl)) ?_
                    refine pw_cmp rfl p1 (by omega) (fun (h19 : (x18 - n) < i) => ?_) (fun (h19 : ¬ ((x18 - n) < i)) => ?_)
                    · refine pw_steps 1 (s' := (109, [some (.ref 47), some (.int (ei_ (a))), some (.int (ei_ (i))), some (.int (ei_ (b))), some (.int (ei_ (j))), some (.int (ei_ (n))), none], [.int (ei_ ((-13)))], m)) rfl ?_
                      refine pw_iret rfl rfl rfl ?_
                      exact k4 (by omega) (by omega)
                    · refine pw_steps 4 (s' := (100, [some (.ref 47), some (.int (ei_ (a))), some (.int (ei_ (i))), some (.int (ei_ (b))), some (.int (ei_ (j))), some (.int (ei_ (n))), none], [.int (ei_ (b)), .ref 69, .int (ei_ (j))], m)) rfl ?_
                      refine pw_ild rfl rfl (by omega) (fun x20 (hx20 : x20 = vi_ m 69 b) rx20 sx20 => ?_)
                      refine pw_steps 2 (s' := (104, [some (.ref 47), some (.int (ei_ (a))), some (.int (ei_ (i))), some (.int (ei_ (b))), some (.int (ei_ (j))), some (.int (ei_ (n))), none], [.int ((ei_ (x20)) - (ei_ (n))), .int (ei_ (j))], m)) rfl ?_
                      refine pw_cv (congrArg (fun z_ : Int32 => ((104, [some (.ref 47), some (.int (ei_ (a))), some (.int (ei_ (i))), some (.int (ei_ (b))), some (.int (ei_ (j))), some (.int (ei_ (n))), none], [.int z_, .int (ei_ (j))], m) : am_S)) (ei_sub rfl rfl)) ?_
                      refine pw_cmp rfl p3 (by omega) (fun (h21 : j ≤ (x20 - n)) => ?_) (fun (h21 : ¬ (j ≤ (x20 - n))) => ?_)
                      · refine pw_steps 2 (s' := (113, [some (.ref 47), some (.int (ei_ (a))), some (.int (ei_ (i))), some (.int (ei_ (b))), some (.int (ei_ (j))), some (.int (ei_ (n))), some (.int (ei_ (0)))], [], m)) rfl ?_
                        have L24 : ∀ (n22 : Nat) (k : Int) (m1 : am_M), (n - k).toNat = n22 → (0 ≤ k ∧ k ≤ n) → (sl2_ 70 m m1) → (vl_ m1 70 = vl_ m 70) → (∀ x, 0 ≤ x → x < k → vl_ m1 71 x = vl_ m 70 (60 * a + i + x)) → pw_V q (d + 3) iX9_shift.2.2.2.1 tX9_shift Q (113, [some (.ref 47), some (.int (ei_ (a))), some (.int (ei_ (i))), some (.int (ei_ (b))), some (.int (ei_ (j))), some (.int (ei_ (n))), some (.int (ei_ (k)))], [], m1) := by
                          intro n22
                          induction n22 using Nat.strongRecOn with
                          | _ n22 ih23 =>
                            intro k m1 hm_n22 v25 hs hr hv0
                            refine pw_steps 2 (s' := (117, [some (.ref 47), some (.int (ei_ (a))), some (.int (ei_ (i))), some (.int (ei_ (b))), some (.int (ei_ (j))), some (.int (ei_ (n))), some (.int (ei_ (k)))], [.int (ei_ (n)), .int (ei_ (k))], m1)) rfl ?_
                            refine pw_cmp rfl (by omega) p4 (fun (h26 : n ≤ k) => ?_) (fun (h26 : ¬ (n ≤ k)) => ?_)
                            · refine pw_steps 2 (s' := (150, [some (.ref 47), some (.int (ei_ (a))), some (.int (ei_ (i))), some (.int (ei_ (b))), some (.int (ei_ (j))), some (.int (ei_ (n))), some (.int (ei_ (0)))], [], m1)) rfl ?_
                              have L29 : ∀ (n27 : Nat) (k2 : Int) (m1 : am_M), (n - k2).toNat = n27 → (0 ≤ k2 ∧ k2 ≤ n) → (sl2_ 70 m m1) → (∀ x, 0 ≤ x → x < n → vl_ m1 71 x = vl_ m 70 (60 * a + i + x)) → (∀ x, 0 ≤ x → x < k2 → vl_ m1 70 (60 * b + j + x) = vl_ m 70 (60 * a + i + x)) → (∀ x, 0 ≤ x → (x < 60 * b + j ∨ 60 * b + j + k2 ≤ x) → vl_ m1 70 x = vl_ m 70 x) → pw_V q (d + 3) iX9_shift.2.2.2.1 tX9_shift Q (150, [some (.ref 47), some (.int (ei_ (a))), some (.int (ei_ (i))), some (.int (ei_ (b))), some (.int (ei_ (j))), some (.int (ei_ (n))), some (.int (ei_ (k2)))], [], m1) := by
                                intro n27
                                induction n27 using Nat.strongRecOn with
                                | _ n27 ih28 =>
                                  intro k2 m1 hm_n27 v30 hs hc hv hw
                                  refine pw_steps 2 (s' := (154, [some (.ref 47), some (.int (ei_ (a))), some (.int (ei_ (i))), some (.int (ei_ (b))), some (.int (ei_ (j))), some (.int (ei_ (n))), some (.int (ei_ (k2)))], [.int (ei_ (n)), .int (ei_ (k2))], m1)) rfl ?_
                                  refine pw_cmp rfl (by omega) p4 (fun (h31 : n ≤ k2) => ?_) (fun (h31 : ¬ (n ≤ k2)) => ?_)
                                  · refine pw_steps 1 (s' := (187, [some (.ref 47), some (.int (ei_ (a))), some (.int (ei_ (i))), some (.int (ei_ (b))), some (.int (ei_ (j))), some (.int (ei_ (n))), some (.int (ei_ (k2)))], [.int (ei_ (n))], m1)) rfl ?_
                                    refine pw_iret rfl rfl rfl ?_
                                    exact k0 m1 (by omega) (by omega) (by omega) hs (fun x a_ b_ => hv x a_ (by omega)) (fun x a_ b_ => hw x a_ (by omega))
                                  · refine pw_steps 12 (s' := (177, [some (.ref 47), some (.int (ei_ (a))), some (.int (ei_ (i))), some (.int (ei_ (b))), some (.int (ei_ (j))), some (.int (ei_ (n))), some (.int (ei_ (k2)))], [.int (ei_ (k2)), .ref 71, .int ((((ei_ (60)) * (ei_ (b))) + (ei_ (j))) + (ei_ (k2))), .ref 70], m1)) rfl ?_
                                    refine pw_cv (congrArg (fun z_ : Int32 => ((177, [some (.ref 47), some (.int (ei_ (a))), some (.int (ei_ (i))), some (.int (ei_ (b))), some (.int (ei_ (j))), some (.int (ei_ (n))), some (.int (ei_ (k2)))], [.int (ei_ (k2)), .ref 71, .int z_, .ref 70], m1) : am_S)) (ei_add (ei_add (ei_mul rfl rfl) rfl) rfl)) ?_
                                    refine pw_lld rfl rfl (by omega) (fun y32 (hy32 : y32 = vl_ m1 71 k2) ry32 sy32 => ?_)
                                    refine pw_lst rfl rfl (by omega) ?_
                                    refine pw_steps 2 (s' := (150, [some (.ref 47), some (.int (ei_ (a))), some (.int (ei_ (i))), some (.int (ei_ (b))), some (.int (ei_ (j))), some (.int (ei_ (n))), some (.int ((ei_ (k2)) + (ei_ (1))))], [], wl_ m1 70 ((((60 * b) + j) + k2)) (y32))) rfl ?_
                                    refine pw_cv (congrArg (fun z_ : Int32 => ((150, [some (.ref 47), some (.int (ei_ (a))), some (.int (ei_ (i))), some (.int (ei_ (b))), some (.int (ei_ (j))), some (.int (ei_ (n))), some (.int z_)], [], wl_ m1 70 ((((60 * b) + j) + k2)) (y32)) : am_S)) (ei_add rfl rfl)) ?_
                                    exact ih28 _ (by omega) (k2 + 1) (wl_ m1 70 ((((60 * b) + j) + k2)) (y32)) rfl (by omega) (by exact sl2_w hs (Or.inl rfl)) (by intro x a_ b_; rw [vl_ne (by decide)]; exact hc x a_ b_) (by intro x a_ b_; rw [vl_up (by omega) (by omega) (by omega)]; by_cases e_ : x = k2; (rw [if_pos (by omega), e_, hy32]; exact hc k2 (by omega) (by omega)); (rw [if_neg (by omega)]; exact hv x a_ (by omega))) (by intro x a_ b_; rw [vl_up (by omega) (by omega) a_, if_neg (by omega)]; exact hw x a_ (by omega))
                              exact L29 _ 0 m1 rfl (by omega) (by exact hs) (by intro x a_ b_; exact hv0 x a_ (by omega)) (by intro x a_ b_; omega) (by intro x a_ b_; rw [hr])
                            · refine pw_steps 12 (s' := (139, [some (.ref 47), some (.int (ei_ (a))), some (.int (ei_ (i))), some (.int (ei_ (b))), some (.int (ei_ (j))), some (.int (ei_ (n))), some (.int (ei_ (k)))], [.int ((((ei_ (60)) * (ei_ (a))) + (ei_ (i))) + (ei_ (k))), .ref 70, .int (ei_ (k)), .ref 71], m1)) rfl ?_
                              refine pw_cv (congrArg (fun z_ : Int32 => ((139, [some (.ref 47), some (.int (ei_ (a))), some (.int (ei_ (i))), some (.int (ei_ (b))), some (.int (ei_ (j))), some (.int (ei_ (n))), some (.int (ei_ (k)))], [.int z_, .ref 70, .int (ei_ (k)), .ref 71], m1) : am_S)) (ei_add (ei_add (ei_mul rfl rfl) rfl) rfl)) ?_
                              refine pw_lld rfl rfl (by omega) (fun y33 (hy33 : y33 = vl_ m1 70 (((60 * a) + i) + k)) ry33 sy33 => ?_)
                              refine pw_lst rfl rfl (by omega) ?_
                              refine pw_steps 2 (s' := (113, [some (.ref 47), some (.int (ei_ (a))), some (.int (ei_ (i))), some (.int (ei_ (b))), some (.int (ei_ (j))), some (.int (ei_ (n))), some (.int ((ei_ (k)) + (ei_ (1))))], [], wl_ m1 71 (k) (y33))) rfl ?_
                              refine pw_cv (congrArg (fun z_ : Int32 => ((113, [some (.ref 47), some (.int (ei_ (a))), some (.int (ei_ (i))), some (.int (ei_ (b))), some (.int (ei_ (j))), some (.int (ei_ (n))), some (.int z_)], [], wl_ m1 71 (k) (y33)) : am_S)) (ei_add rfl rfl)) ?_
                              exact ih23 _ (by omega) (k + 1) (wl_ m1 71 (k) (y33)) rfl (by omega) (by exact sl2_w hs (Or.inr rfl)) (by funext x; rw [vl_ne (by decide), hr]) (by intro x a_ b_; rw [vl_up (by omega) (by omega) a_]; by_cases e_ : x = k; (rw [if_pos e_, e_, hy33, hr]); (rw [if_neg e_]; exact hv0 x a_ (by omega)))
                        exact L24 _ 0 m rfl (by omega) (by exact sl2_rfl m) (by rfl) (by intro x a_ b_; omega)
                      · refine pw_steps 1 (s' := (109, [some (.ref 47), some (.int (ei_ (a))), some (.int (ei_ (i))), some (.int (ei_ (b))), some (.int (ei_ (j))), some (.int (ei_ (n))), none], [.int (ei_ ((-13)))], m)) rfl ?_
                        refine pw_iret rfl rfl rfl ?_
                        exact k4 (by omega) (by omega)
            · refine pw_steps 1 (s' := (65, [some (.ref 47), some (.int (ei_ (a))), some (.int (ei_ (i))), some (.int (ei_ (b))), some (.int (ei_ (j))), some (.int (ei_ (n))), none], [.int (ei_ ((-12)))], m)) rfl ?_
              refine pw_iret rfl rfl rfl ?_
              exact k3 (by omega) (by omega)
        · refine pw_steps 1 (s' := (36, [some (.ref 47), some (.int (ei_ (a))), some (.int (ei_ (i))), some (.int (ei_ (b))), some (.int (ei_ (j))), some (.int (ei_ (n))), none], [.int (ei_ ((-11)))], m)) rfl ?_
          refine pw_iret rfl rfl rfl ?_
          exact k2 (by omega) (by omega)
    · refine pw_iret rfl rfl rfl ?_
      refine pw_ifF rfl (by decide) (show ¬ (¬ 0 = 0) by decide) ?_
      refine pw_steps 1 (s' := (15, [some (.ref 47), some (.int (ei_ (a))), some (.int (ei_ (i))), some (.int (ei_ (b))), some (.int (ei_ (j))), some (.int (ei_ (n))), none], [.int (ei_ ((-1)))], m)) rfl ?_
      refine pw_iret rfl rfl rfl ?_
      exact k1 (by omega)
    · refine pw_iret rfl rfl rfl ?_
      refine pw_ifF rfl (by decide) (show ¬ (¬ 0 = 0) by decide) ?_
      refine pw_steps 1 (s' := (15, [some (.ref 47), some (.int (ei_ (a))), some (.int (ei_ (i))), some (.int (ei_ (b))), some (.int (ei_ (j))), some (.int (ei_ (n))), none], [.int (ei_ ((-1)))], m)) rfl ?_
      refine pw_iret rfl rfl rfl ?_
      exact k1 (by omega)
  · refine pw_iret rfl rfl rfl ?_
    refine pw_ifT rfl (by decide) (show 0 = 0 by decide) ?_
    refine pw_steps 1 (s' := (15, [some (.ref 47), some (.int (ei_ (a))), some (.int (ei_ (i))), some (.int (ei_ (b))), some (.int (ei_ (j))), some (.int (ei_ (n))), none], [.int (ei_ ((-1)))], m)) rfl ?_
    refine pw_iret rfl rfl rfl ?_
    exact k1 (by omega)
  · refine pw_iret rfl rfl rfl ?_
    refine pw_ifT rfl (by decide) (show 0 = 0 by decide) ?_
    refine pw_steps 1 (s' := (15, [some (.ref 47), some (.int (ei_ (a))), some (.int (ei_ (i))), some (.int (ei_ (b))), some (.int (ei_ (j))), some (.int (ei_ (n))), none], [.int (ei_ ((-1)))], m)) rfl ?_
    refine pw_iret rfl rfl rfl ?_
    exact k1 (by omega)

