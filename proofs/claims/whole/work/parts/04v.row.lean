
/-! ===== row ===== -/
/-- longs of cell c may change, and ints of cell k (and 68, 69) -/
def sr_ (k c : Nat) (m m1 : am_M) : Prop := (∀ a j, a ≠ k → m1.1 a j = m.1 a j) ∧ (∀ a j, a ≠ c → m1.2 a j = m.2 a j)
theorem sr_rfl {k c : Nat} (m : am_M) : sr_ k c m m := ⟨fun _ _ _ => rfl, fun _ _ _ => rfl⟩
theorem sr_wi {k c : Nat} {m m1 : am_M} {j v : Int} (h : sr_ k c m m1) : sr_ k c m (wi_ m1 k j v) := by
  refine ⟨fun a i e => ?_, h.2⟩
  rw [← h.1 a i e]
  simp only [wi_, am_ui, if_neg e]
theorem sr_wl {k c : Nat} {m m1 : am_M} {j v : Int} (h : sr_ k c m m1) : sr_ k c m (wl_ m1 c j v) := by
  refine ⟨h.1, fun a i e => ?_⟩
  rw [← h.2 a i e]
  simp only [wl_, am_ul, if_neg e]
theorem sr_f {k c a : Nat} {m m1 : am_M} (h : sr_ k c m m1) (e : a ≠ k) : vi_ m1 a = vi_ m a := by
  funext j; simp only [vi_, h.1 a _ e]
theorem sr_l {k c a : Nat} {m m1 : am_M} (h : sr_ k c m m1) (e : a ≠ c) : vl_ m1 a = vl_ m a := by
  funext j; simp only [vl_, h.2 a _ e]

set_option maxHeartbeats 4000000 in
set_option maxRecDepth 20000 in
theorem cs_row {q : am_X} {d : Nat} {m : am_M} {Q : Option Value → am_M → Prop} {s : Int} {n : Int} {k : Nat} (p0 : so_ k) (p1 : -2147483648 ≤ s ∧ s < 2147483648) (p2 : 0 ≤ n ∧ n ≤ 60) (k0 : ∀ (m1 : am_M), (sr_ k (k + 1) m m1) → (vi_ m1 k 0 = s) → (vi_ m1 k 2 = n) → (vi_ m1 k 1 = vi_ m k 1) → (∀ j, 0 ≤ j → j < n → vl_ m1 (k + 1) j = 0) → Q none m1) : pw_C q (d + 1) 153 [.ref k, .int (ei_ (s)), .int (ei_ (n))] m Q := by
  refine pw_intro (I := iX5_holdRow) (T := tX5_holdRow) rfl rfl rfl ?_
  refine pw_steps 2 (s' := (2, [some (.ref k), some (.int (ei_ (s))), some (.int (ei_ (n))), none], [.int (ei_ (s)), .ref k], m)) rfl ?_
  refine pw_put (v := s) rfl (p0).1 (Or.inl rfl) ?_
  refine pw_cv (s' := (5, [some (.ref k), some (.int (ei_ (s))), some (.int (ei_ (n))), none], [], wi_ m k (0) (s))) rfl ?_
  refine pw_steps 6 (s' := (16, [some (.ref k), some (.int (ei_ (s))), some (.int (ei_ (n))), none], [.int ((if (ei_ (0)) < ((if (ei_ (60)) < (ei_ (n)) then ei_ (60) else ei_ (n))) then (if (ei_ (60)) < (ei_ (n)) then ei_ (60) else ei_ (n)) else ei_ (0))), .ref k], wi_ m k (0) (s))) rfl ?_
  refine pw_cv (congrArg (fun z_ : Int32 => ((16, [some (.ref k), some (.int (ei_ (s))), some (.int (ei_ (n))), none], [.int z_, .ref k], wi_ m k (0) (s)) : am_S)) (ei_max (by decide) (by omega) rfl (ei_min (by omega) (by decide) rfl rfl))) ?_
  refine pw_put (v := (max 0 (min n 60))) rfl (p0).2.2.1 (Or.inl rfl) ?_
  refine pw_cv (s' := (19, [some (.ref k), some (.int (ei_ (s))), some (.int (ei_ (n))), none], [], wi_ (wi_ m k (0) (s)) k (2) ((max 0 (min n 60))))) rfl ?_
  refine pw_steps 2 (s' := (21, [some (.ref k), some (.int (ei_ (s))), some (.int (ei_ (n))), some (.int (ei_ (0)))], [], wi_ (wi_ m k (0) (s)) k (2) ((max 0 (min n 60))))) rfl ?_
  have L3 : ∀ (n1 : Nat) (i : Int) (m1 : am_M), (n - i).toNat = n1 → (0 ≤ i ∧ i ≤ n) → (sr_ k (k + 1) m m1) → (vi_ m1 k 0 = s) → (vi_ m1 k 2 = n) → (vi_ m1 k 1 = vi_ m k 1) → (∀ j, 0 ≤ j → j < i → vl_ m1 (k + 1) j = 0) → pw_V q (d) iX5_holdRow.2.2.2.1 tX5_holdRow Q (21, [some (.ref k), some (.int (ei_ (s))), some (.int (ei_ (n))), some (.int (ei_ (i)))], [], m1) := by
    intro n1
    induction n1 using Nat.strongRecOn with
    | _ n1 ih2 =>
      intro i m1 hm_n1 v4 hs h0 h2 h1 hv
      refine pw_steps 2 (s' := (23, [some (.ref k), some (.int (ei_ (s))), some (.int (ei_ (n))), some (.int (ei_ (i)))], [.ref k, .int (ei_ (i))], m1)) rfl ?_
      refine pw_get rfl (p0).2.2.1 (fun x5 (hx5 : x5 = vi_ m1 k 2) rx5 sx5 => ?_)
      refine pw_cmp rfl (by omega) ⟨rx5, sx5⟩ (fun (h6 : x5 ≤ i) => ?_) (fun (h6 : ¬ (x5 ≤ i)) => ?_)
      · refine pw_vret rfl rfl ?_
        exact k0 m1 hs (by omega) (by omega) h1 (fun j a_ b_ => hv j a_ (by omega))
      · refine pw_steps 1 (s' := (30, [some (.ref k), some (.int (ei_ (s))), some (.int (ei_ (n))), some (.int (ei_ (i)))], [.ref k], m1)) rfl ?_
        refine pw_getR (r := k + 1) rfl (p0).2.2.2.1 ?_
        refine pw_steps 2 (s' := (35, [some (.ref k), some (.int (ei_ (s))), some (.int (ei_ (n))), some (.int (ei_ (i)))], [.long (el_ (0)), .int (ei_ (i)), .ref (k + 1)], m1)) rfl ?_
        refine pw_lst rfl (p0).2.2.2.2 (by omega) ?_
        refine pw_steps 2 (s' := (21, [some (.ref k), some (.int (ei_ (s))), some (.int (ei_ (n))), some (.int ((ei_ (i)) + (ei_ (1))))], [], wl_ m1 (k + 1) (i) (0))) rfl ?_
        refine pw_cv (congrArg (fun z_ : Int32 => ((21, [some (.ref k), some (.int (ei_ (s))), some (.int (ei_ (n))), some (.int z_)], [], wl_ m1 (k + 1) (i) (0)) : am_S)) (ei_add rfl rfl)) ?_
        exact ih2 _ (by omega) (i + 1) (wl_ m1 (k + 1) (i) (0)) rfl (by omega) (by exact sr_wl hs) (by assumption) (by assumption) (by assumption) (by intro j a_ b_; rw [vl_up (by decide) (by omega) a_]; by_cases e_ : j = i; (rw [if_pos e_]); (rw [if_neg e_]; exact hv j a_ (by omega)))
  exact L3 _ 0 (wi_ (wi_ m k (0) (s)) k (2) ((max 0 (min n 60)))) rfl (by omega) (by exact sr_wi (sr_wi (sr_rfl m))) (by rw [vi_up (by omega) (by omega) (by omega), if_neg (by omega)]; exact vi_eq p1) (by rw [vi_eq (by omega)]; omega) (by rw [vi_up (by omega) (by omega) (by omega), if_neg (by omega), vi_up p1 (by omega) (by omega), if_neg (by omega)]) (by intro j a_ b_; omega)


/-- all but ints of 68, 69 and longs of 70 stay -/
def sm2_ (m m1 : am_M) : Prop := (∀ k j, k ≠ 68 → k ≠ 69 → m1.1 k j = m.1 k j) ∧ (∀ k j, k ≠ 70 → m1.2 k j = m.2 k j)
theorem sm2_f {a : Nat} {m m1 : am_M} (h : sm2_ m m1) (e : a ≠ 68) (e2 : a ≠ 69) : vi_ m1 a = vi_ m a := by
  funext j; simp only [vi_, h.1 a _ e e2]
theorem sm2_l {a : Nat} {m m1 : am_M} (h : sm2_ m m1) (e : a ≠ 70) : vl_ m1 a = vl_ m a := by
  funext j; simp only [vl_, h.2 a _ e]
theorem sm2_wl {m m1 : am_M} {j v : Int} (h : sm2_ m m1) : sm2_ m (wl_ m1 70 j v) := by
  refine ⟨h.1, fun a i e => ?_⟩
  rw [← h.2 a i e]
  simp only [wl_, am_ul, if_neg e]
theorem sm2_wi {m m1 : am_M} {k : Nat} {j v : Int} (h : sm2_ m m1) (hk : k = 68 ∨ k = 69) : sm2_ m (wi_ m1 k j v) := by
  refine ⟨fun a i e e2 => ?_, h.2⟩
  rw [← h.1 a i e e2]
  simp only [wi_, am_ui]
  rw [if_neg (by rcases hk with hk | hk <;> rw [hk] <;> assumption)]

set_option maxHeartbeats 4000000 in
set_option maxRecDepth 20000 in
theorem ms_row {q : am_X} {d : Nat} {m : am_M} {Q : Option Value → am_M → Prop} {a s n : Int} (p0 : -2147483648 ≤ a ∧ a < 2147483648) (p1 : -2147483648 ≤ s ∧ s < 2147483648) (p2 : -2147483648 ≤ n ∧ n < 2147483648) (k0 : (0 ≤ a ∧ a < 6) → (0 ≤ s ∧ s ≤ 4) → (0 ≤ n ∧ n ≤ 60) → ∀ m1 : am_M, sm2_ m m1 → (∀ j, 0 ≤ j → vi_ m1 68 j = if j = a then 50 + s else vi_ m 68 j) → (∀ j, 0 ≤ j → vi_ m1 69 j = if j = a then n else vi_ m 69 j) → (∀ j, 0 ≤ j → j < 60 → vl_ m1 70 (60 * a + j) = 0) → (∀ j, 0 ≤ j → (j < 60 * a ∨ 60 * a + 60 ≤ j) → vl_ m1 70 j = vl_ m 70 j) → Q (some (.int (ei_ (1)))) m1) (k1 : ¬ ((0 ≤ a ∧ a < 6) ∧ (0 ≤ s ∧ s ≤ 4) ∧ n ≤ 60) → Q (some (.int (ei_ ((-1))))) m) (k2 : ((0 ≤ a ∧ a < 6) ∧ (0 ≤ s ∧ s ≤ 4) ∧ n ≤ 60) ∧ n < 0 → Q (some (.int (ei_ ((-14))))) m) : pw_C q (d + 4) 254 [.ref 47, .int (ei_ (a)), .int (ei_ (s)), .int (ei_ (n))] m Q := by
  refine pw_intro (I := iX9_row) (T := tX9_row) rfl rfl rfl ?_
  refine pw_steps 1 (s' := (1, [some (.ref 47), some (.int (ei_ (a))), some (.int (ei_ (s))), some (.int (ei_ (n))), none], [.int (ei_ (a))], m)) rfl ?_
  refine pw_callS (As := [.int (ei_ (a))]) (st := []) rfl (by decide) rfl rfl (Nat.le_of_ble_eq_true rfl) ?_
  refine pw_intro (I := iX9_isShelf) (T := tX9_isShelf) rfl rfl rfl ?_
  refine pw_steps 4 (s' := (6, [some (.int (ei_ (a)))], [.long (el_ (5)), .long (el_ (0)), .long ((ei_ (a)).toInt64)], m)) rfl ?_
  refine pw_cv (congrArg (fun z_ : Int64 => ((6, [some (.int (ei_ (a)))], [.long (el_ (5)), .long (el_ (0)), .long z_], m) : am_S)) (el_i2l p0 rfl)) ?_
  refine pw_callS (As := [.long (el_ (a)), .long (el_ (0)), .long (el_ (5))]) (st := []) rfl (by decide) rfl rfl (Nat.le_of_ble_eq_true rfl) ?_
  refine mt_within (by omega) (by omega) (by omega) (fun g1 g2 => ?_) (fun g3 => ?_) (fun g4 => ?_)
  · refine pw_iret rfl rfl rfl ?_
    refine pw_ifF rfl (by decide) (show ¬ (1 = 0) by decide) ?_
    refine pw_steps 4 (s' := (13, [some (.ref 47), some (.int (ei_ (a))), some (.int (ei_ (s))), some (.int (ei_ (n))), none], [.long (el_ (4)), .long (el_ (0)), .long ((ei_ (s)).toInt64)], m)) rfl ?_
    refine pw_cv (congrArg (fun z_ : Int64 => ((13, [some (.ref 47), some (.int (ei_ (a))), some (.int (ei_ (s))), some (.int (ei_ (n))), none], [.long (el_ (4)), .long (el_ (0)), .long z_], m) : am_S)) (el_i2l p1 rfl)) ?_
    refine pw_callS (As := [.long (el_ (s)), .long (el_ (0)), .long (el_ (4))]) (st := []) rfl (by decide) rfl rfl (Nat.le_of_ble_eq_true rfl) ?_
    refine mt_within (by omega) (by omega) (by omega) (fun g5 g6 => ?_) (fun g7 => ?_) (fun g8 => ?_)
    · refine pw_ifF rfl (by decide) (show ¬ (1 = 0) by decide) ?_
      refine pw_steps 2 (s' := (22, [some (.ref 47), some (.int (ei_ (a))), some (.int (ei_ (s))), some (.int (ei_ (n))), none], [.int (ei_ (60)), .int (ei_ (n))], m)) rfl ?_
      refine pw_cmp rfl p2 (by decide) (fun (h9 : n ≤ 60) => ?_) (fun (h9 : ¬ (n ≤ 60)) => ?_)
      · refine pw_steps 1 (s' := (28, [some (.ref 47), some (.int (ei_ (a))), some (.int (ei_ (s))), some (.int (ei_ (n))), none], [.int (ei_ (n))], m)) rfl ?_
        refine pw_if rfl p2 (fun (h10 : 0 ≤ n) => ?_) (fun (h10 : ¬ (0 ≤ n)) => ?_)
        · refine pw_steps 6 (s' := (43, [some (.ref 47), some (.int (ei_ (a))), some (.int (ei_ (s))), some (.int (ei_ (n))), none], [.int ((ei_ (50)) + (ei_ (s))), .int (ei_ (a)), .ref 68], m)) rfl ?_
          refine pw_cv (congrArg (fun z_ : Int32 => ((43, [some (.ref 47), some (.int (ei_ (a))), some (.int (ei_ (s))), some (.int (ei_ (n))), none], [.int z_, .int (ei_ (a)), .ref 68], m) : am_S)) (ei_add rfl rfl)) ?_
          refine pw_ist rfl rfl (by omega) ?_
          refine pw_steps 4 (s' := (50, [some (.ref 47), some (.int (ei_ (a))), some (.int (ei_ (s))), some (.int (ei_ (n))), none], [.int (ei_ (n)), .int (ei_ (a)), .ref 69], wi_ m 68 (a) ((50 + s)))) rfl ?_
          refine pw_ist rfl rfl (by omega) ?_
          refine pw_steps 4 (s' := (57, [some (.ref 47), some (.int (ei_ (a))), some (.int (ei_ (s))), some (.int (ei_ (n))), some (.int ((ei_ (60)) * (ei_ (a))))], [], wi_ (wi_ m 68 (a) ((50 + s))) 69 (a) (n))) rfl ?_
          refine pw_cv (congrArg (fun z_ : Int32 => ((57, [some (.ref 47), some (.int (ei_ (a))), some (.int (ei_ (s))), some (.int (ei_ (n))), some (.int z_)], [], wi_ (wi_ m 68 (a) ((50 + s))) 69 (a) (n)) : am_S)) (ei_mul rfl rfl)) ?_
          have L13 : ∀ (n11 : Nat) (i : Int) (m1 : am_M), (60 * a + 60 - i).toNat = n11 → (60 * a ≤ i ∧ i ≤ 60 * a + 60) → (sm2_ m m1) → (∀ j, 0 ≤ j → vi_ m1 68 j = if j = a then 50 + s else vi_ m 68 j) → (∀ j, 0 ≤ j → vi_ m1 69 j = if j = a then n else vi_ m 69 j) → (∀ j, 60 * a ≤ j → j < i → vl_ m1 70 j = 0) → (∀ j, 0 ≤ j → (j < 60 * a ∨ 60 * a + 60 ≤ j) → vl_ m1 70 j = vl_ m 70 j) → pw_V q (d + 3) iX9_row.2.2.2.1 tX9_row Q (57, [some (.ref 47), some (.int (ei_ (a))), some (.int (ei_ (s))), some (.int (ei_ (n))), some (.int (ei_ (i)))], [], m1) := by
            intro n11
            induction n11 using Nat.strongRecOn with
            | _ n11 ih12 =>
              intro i m1 hm_n11 v14 hs h68 h69 hv hw
              refine pw_steps 6 (s' := (66, [some (.ref 47), some (.int (ei_ (a))), some (.int (ei_ (s))), some (.int (ei_ (n))), some (.int (ei_ (i)))], [.int (((ei_ (60)) * (ei_ (a))) + (ei_ (60))), .int (ei_ (i))], m1)) rfl ?_
              refine pw_cv (congrArg (fun z_ : Int32 => ((66, [some (.ref 47), some (.int (ei_ (a))), some (.int (ei_ (s))), some (.int (ei_ (n))), some (.int (ei_ (i)))], [.int z_, .int (ei_ (i))], m1) : am_S)) (ei_add (ei_mul rfl rfl) rfl)) ?_
              refine pw_cmp rfl (by omega) (by omega) (fun (h15 : ((60 * a) + 60) ≤ i) => ?_) (fun (h15 : ¬ (((60 * a) + 60) ≤ i)) => ?_)
              · refine pw_steps 1 (s' := (84, [some (.ref 47), some (.int (ei_ (a))), some (.int (ei_ (s))), some (.int (ei_ (n))), some (.int (ei_ (i)))], [.int (ei_ (1))], m1)) rfl ?_
                refine pw_iret rfl rfl rfl ?_
                exact k0 ⟨by omega, by omega⟩ ⟨by omega, by omega⟩ ⟨by omega, by omega⟩ m1 hs h68 h69 (fun j a_ b_ => hv _ (by omega) (by omega)) (fun j a_ b_ => hw j a_ b_)
              · refine pw_steps 4 (s' := (76, [some (.ref 47), some (.int (ei_ (a))), some (.int (ei_ (s))), some (.int (ei_ (n))), some (.int (ei_ (i)))], [.long (el_ (0)), .int (ei_ (i)), .ref 70], m1)) rfl ?_
                refine pw_lst rfl rfl (by omega) ?_
                refine pw_steps 2 (s' := (57, [some (.ref 47), some (.int (ei_ (a))), some (.int (ei_ (s))), some (.int (ei_ (n))), some (.int ((ei_ (i)) + (ei_ (1))))], [], wl_ m1 70 (i) (0))) rfl ?_
                refine pw_cv (congrArg (fun z_ : Int32 => ((57, [some (.ref 47), some (.int (ei_ (a))), some (.int (ei_ (s))), some (.int (ei_ (n))), some (.int z_)], [], wl_ m1 70 (i) (0)) : am_S)) (ei_add rfl rfl)) ?_
                exact ih12 _ (by omega) (i + 1) (wl_ m1 70 (i) (0)) rfl (by omega) (by exact sm2_wl hs) (by exact h68) (by exact h69) (by intro j a_ b_; rw [vl_up (by decide) (by omega) (by omega)]; by_cases e_ : j = i; (rw [if_pos e_]); (rw [if_neg e_]; exact hv j a_ (by omega))) (by intro j a_ b_; rw [vl_up (by decide) (by omega) a_, if_neg (by omega)]; exact hw j a_ b_)
          exact L13 _ (60 * a) (wi_ (wi_ m 68 (a) ((50 + s))) 69 (a) (n)) rfl (by omega) (by exact sm2_wi (sm2_wi ⟨fun _ _ _ _ => rfl, fun _ _ _ => rfl⟩ (Or.inl rfl)) (Or.inr rfl)) (by intro j a_; rw [vi_ne (by decide), vi_up (by omega) (by omega) a_]) (by intro j a_; rw [vi_up (by omega) (by omega) a_, vi_ne (by decide)]) (by intro j a_ b_; omega) (by intro j a_ b_; rfl)
        · refine pw_steps 1 (s' := (33, [some (.ref 47), some (.int (ei_ (a))), some (.int (ei_ (s))), some (.int (ei_ (n))), none], [.int (ei_ ((-14)))], m)) rfl ?_
          refine pw_iret rfl rfl rfl ?_
          exact k2 (by omega)
      · refine pw_steps 1 (s' := (26, [some (.ref 47), some (.int (ei_ (a))), some (.int (ei_ (s))), some (.int (ei_ (n))), none], [.int (ei_ ((-1)))], m)) rfl ?_
        refine pw_iret rfl rfl rfl ?_
        exact k1 (by omega)
    · refine pw_ifT rfl (by decide) (show 0 = 0 by decide) ?_
      refine pw_steps 1 (s' := (26, [some (.ref 47), some (.int (ei_ (a))), some (.int (ei_ (s))), some (.int (ei_ (n))), none], [.int (ei_ ((-1)))], m)) rfl ?_
      refine pw_iret rfl rfl rfl ?_
      exact k1 (by omega)
    · refine pw_ifT rfl (by decide) (show 0 = 0 by decide) ?_
      refine pw_steps 1 (s' := (26, [some (.ref 47), some (.int (ei_ (a))), some (.int (ei_ (s))), some (.int (ei_ (n))), none], [.int (ei_ ((-1)))], m)) rfl ?_
      refine pw_iret rfl rfl rfl ?_
      exact k1 (by omega)
  · refine pw_iret rfl rfl rfl ?_
    refine pw_ifT rfl (by decide) (show 0 = 0 by decide) ?_
    refine pw_steps 1 (s' := (26, [some (.ref 47), some (.int (ei_ (a))), some (.int (ei_ (s))), some (.int (ei_ (n))), none], [.int (ei_ ((-1)))], m)) rfl ?_
    refine pw_iret rfl rfl rfl ?_
    exact k1 (by omega)
  · refine pw_iret rfl rfl rfl ?_
    refine pw_ifT rfl (by decide) (show 0 = 0 by decide) ?_
    refine pw_steps 1 (s' := (26, [some (.ref 47), some (.int (ei_ (a))), some (.int (ei_ (s))), some (.int (ei_ (n))), none], [.int (ei_ ((-1)))], m)) rfl ?_
    refine pw_iret rfl rfl rfl ?_
    exact k1 (by omega)

