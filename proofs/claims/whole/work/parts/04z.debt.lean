
/-! ===== debt ===== -/
def tm_ (m : am_M) (x a b : Int) : Int := if (x < 0 ∧ ¬ (vi_ m 4 a = a ∧ vi_ m 4 b = b)) ∨ (x = a ∧ vi_ m 4 a = a ∧ vi_ m 4 b = b) then vi_ m 6 (8 * a + b) else 0
def td_ (m : am_M) (x a : Int) : Int := su_ (tm_ m x a) (vi_ m 1 1).toNat
def sd_ (m : am_M) (x : Int) : Int := if x = -1 ∨ (0 ≤ x ∧ x < vi_ m 1 1) then su_ (td_ m x) (vi_ m 1 1).toNat else -1
theorem su_0 {f : Int → Int} : ∀ n : Nat, (∀ j, 0 ≤ j → j < (n : Int) → f j = 0) → su_ f n = 0 := by
  intro n
  induction n with
  | zero => intro _; rfl
  | succ n ih =>
    intro h
    simp only [su_]
    rw [ih (fun j a b => h j a (by omega)), h n (by omega) (by omega)]
    rfl
theorem su_one {f : Int → Int} {c : Int} : ∀ n : Nat, (0 ≤ c ∧ c < (n : Int)) → (∀ j, 0 ≤ j → j < (n : Int) → j ≠ c → f j = 0) → su_ f n = f c := by
  intro n
  induction n with
  | zero => intro h; omega
  | succ n ih =>
    intro h g
    simp only [su_]
    by_cases e : c = n
    · rw [su_0 n (fun j a b => g j a (by omega) (by omega)), ← e]; omega
    · rw [ih (by omega) (fun j a b => g j a (by omega)), g n (by omega) (by omega) (fun x => e x.symm)]; omega
theorem td_o {m : am_M} {x : Int} (hx : 0 ≤ x ∧ x < vi_ m 1 1) : su_ (td_ m x) (vi_ m 1 1).toNat = td_ m x x := by
  refine su_one _ (by omega) (fun j a b c => ?_)
  unfold td_
  refine su_0 _ (fun k d e => ?_)
  unfold tm_
  rw [if_neg (by omega)]

set_option maxHeartbeats 4000000 in
set_option maxRecDepth 20000 in
theorem cs_sleep {q : am_X} {d : Nat} {m : am_M} {Q : Option Value → am_M → Prop} {m0 : am_M}  (p0 : rP_ m0) (p1 : rD_ m0) (p2 : sm_ pSc m0 m) (k0 : ∀ (x : Int), (x = su_ (td_ m0 (-1)) (vi_ m0 1 1).toNat) → Q (some (.int (ei_ (x)))) m) : pw_C q (d + 5) 96 [.ref 0] m Q := by
  obtain ⟨hP1, hP2, hP3, hP4⟩ := id p0
  have hmw := mW_of p0 p1
  refine pw_intro (I := iX8_allThatSleeps) (T := tX8_allThatSleeps) rfl rfl rfl ?_
  refine pw_steps 4 (s' := (4, [some (.ref 0), some (.int (ei_ (0))), some (.int (ei_ (0))), none], [], m)) rfl ?_
  have L4 : ∀ (n2 : Nat) (s : Int) (k : Int) (u1 : Option Value), (vi_ m0 1 1 - k).toNat = n2 → (0 ≤ k ∧ k ≤ vi_ m0 1 1 ∧ 0 ≤ s ∧ s ≤ 80000 * k) → (s = su_ (td_ m0 (-1)) k.toNat) → pw_V q (d + 4) iX8_allThatSleeps.2.2.2.1 tX8_allThatSleeps Q (4, [some (.ref 0), some (.int (ei_ (s))), some (.int (ei_ (k))), u1], [], m) := by
    intro n2
    induction n2 using Nat.strongRecOn with
    | _ n2 ih3 =>
      intro s k u1 hm_n2 v5 hv
      refine pw_steps 3 (s' := (9, [some (.ref 0), some (.int (ei_ (s))), some (.int (ei_ (k))), u1], [.ref 1, .int (ei_ (k))], m)) rfl ?_
      refine pw_call (As := []) (st := [.int (ei_ (k))]) (k := 1) rfl rfl rfl rfl rfl (Nat.le_of_ble_eq_true rfl) ?_
      refine pw_intro (I := iX3_size) (T := tX3_size) rfl rfl rfl ?_
      refine pw_steps 1 (s' := (1, [some (.ref 1)], [.ref 1], m)) rfl ?_
      refine pw_get rfl rfl (fun x6 (hx6 : x6 = vi_ m 1 1) rx6 sx6 => ?_)
      have ox6 := hx6
      replace hx6 : x6 = vi_ m0 1 1 := hx6.trans (sm_v p2 rfl)
      refine pw_iret rfl rfl rfl ?_
      refine pw_cmp rfl (by omega) ⟨rx6, sx6⟩ (fun (h7 : x6 ≤ k) => ?_) (fun (h7 : ¬ (x6 ≤ k)) => ?_)
      · refine pw_steps 1 (s' := (69, [some (.ref 0), some (.int (ei_ (s))), some (.int (ei_ (k))), u1], [.int (ei_ (s))], m)) rfl ?_
        refine pw_iret rfl rfl rfl ?_
        exact k0 s (by rw [← show k = vi_ m0 1 1 by omega]; exact hv)
      · refine pw_steps 2 (s' := (17, [some (.ref 0), some (.int (ei_ (s))), some (.int (ei_ (k))), some (.int (ei_ (0)))], [], m)) rfl ?_
        have L10 : ∀ (n8 : Nat) (s2 : Int) (k2 : Int), (vi_ m0 1 1 - k2).toNat = n8 → (0 ≤ k2 ∧ k2 ≤ vi_ m0 1 1 ∧ s ≤ s2 ∧ s2 ≤ s + 9999 * k2) → (s2 = s + su_ (tm_ m0 (-1) k) k2.toNat) → pw_V q (d + 4) iX8_allThatSleeps.2.2.2.1 tX8_allThatSleeps Q (17, [some (.ref 0), some (.int (ei_ (s2))), some (.int (ei_ (k))), some (.int (ei_ (k2)))], [], m) := by
          intro n8
          induction n8 using Nat.strongRecOn with
          | _ n8 ih9 =>
            intro s2 k2 hm_n8 v11 hw
            refine pw_steps 3 (s' := (22, [some (.ref 0), some (.int (ei_ (s2))), some (.int (ei_ (k))), some (.int (ei_ (k2)))], [.ref 1, .int (ei_ (k2))], m)) rfl ?_
            refine pw_call (As := []) (st := [.int (ei_ (k2))]) (k := 1) rfl rfl rfl rfl rfl (Nat.le_of_ble_eq_true rfl) ?_
            refine pw_intro (I := iX3_size) (T := tX3_size) rfl rfl rfl ?_
            refine pw_steps 1 (s' := (1, [some (.ref 1)], [.ref 1], m)) rfl ?_
            refine pw_getE (x := x6) rfl rfl ox6 ?_
            refine pw_iret rfl rfl rfl ?_
            refine pw_cmp rfl (by omega) ⟨rx6, sx6⟩ (fun (h12 : x6 ≤ k2) => ?_) (fun (h12 : ¬ (x6 ≤ k2)) => ?_)
            · refine pw_steps 2 (s' := (4, [some (.ref 0), some (.int (ei_ (s2))), some (.int ((ei_ (k)) + (ei_ (1)))), some (.int (ei_ (k2)))], [], m)) rfl ?_
              refine pw_cv (congrArg (fun z_ : Int32 => ((4, [some (.ref 0), some (.int (ei_ (s2))), some (.int z_), some (.int (ei_ (k2)))], [], m) : am_S)) (ei_add rfl rfl)) ?_
              exact ih3 _ (by omega) s2 (k + 1) (some (.int (ei_ (k2)))) rfl (by omega) (by rw [su_s (by omega), ← hv]; unfold td_; rw [← show k2 = vi_ m0 1 1 by omega]; omega)
            · refine pw_steps 5 (s' := (35, [some (.ref 0), some (.int (ei_ (s2))), some (.int (ei_ (k))), some (.int (ei_ (k2)))], [.int (ei_ (k2)), .int (ei_ (k)), .ref 3, .int (ei_ (s2))], m)) rfl ?_
              refine pw_call (As := [.int (ei_ (k)), .int (ei_ (k2))]) (st := [.int (ei_ (s2))]) (k := 3) rfl rfl rfl rfl rfl (Nat.le_of_ble_eq_true rfl) ?_
              refine pw_intro (I := iX2_sleeps) (T := tX2_sleeps) rfl rfl rfl ?_
              refine pw_steps 2 (s' := (2, [some (.ref 3), some (.int (ei_ (k))), some (.int (ei_ (k2)))], [.int (ei_ (k)), .ref 3], m)) rfl ?_
              refine pw_call (As := [.int (ei_ (k))]) (st := []) (k := 3) rfl rfl rfl rfl rfl (Nat.le_of_ble_eq_true rfl) ?_
              refine cw_wearer2 (p2) (by omega) (fun x13 g14 g15 => ?_)
              refine pw_steps 1 (s' := (6, [some (.ref 3), some (.int (ei_ (k))), some (.int (ei_ (k2)))], [.int (ei_ (k)), .int (ei_ (x13))], m)) rfl ?_
              refine pw_cmp rfl (by omega) (by omega) (fun (h16 : ¬ x13 = k) => ?_) (fun (h16 : ¬ ¬ x13 = k) => ?_)
              · refine pw_steps 2 (s' := (23, [some (.ref 3), some (.int (ei_ (k))), some (.int (ei_ (k2)))], [.int (ei_ (1))], m)) rfl ?_
                refine pw_iret rfl rfl rfl ?_
                refine pw_ifF rfl (by decide) (show ¬ (1 = 0) by decide) ?_
                refine pw_steps 4 (s' := (47, [some (.ref 0), some (.int (ei_ (s2))), some (.int (ei_ (k))), some (.int (ei_ (k2)))], [.int (ei_ (k2)), .int (ei_ (k)), .ref 3, .int (ei_ (s2))], m)) rfl ?_
                refine pw_call (As := [.int (ei_ (k)), .int (ei_ (k2))]) (st := [.int (ei_ (s2))]) (k := 3) rfl rfl rfl rfl rfl (Nat.le_of_ble_eq_true rfl) ?_
                refine pw_intro (I := iX2_debtOf) (T := tX2_debtOf) rfl rfl rfl ?_
                refine pw_steps 1 (s' := (1, [some (.ref 3), some (.int (ei_ (k))), some (.int (ei_ (k2)))], [.int (ei_ (k))], m)) rfl ?_
                refine pw_callS (As := [.int (ei_ (k))]) (st := []) rfl (by decide) rfl rfl (Nat.le_of_ble_eq_true rfl) ?_
                refine pw_intro (I := iX2_isIn) (T := tX2_isIn) rfl rfl rfl ?_
                refine pw_steps 1 (s' := (1, [some (.int (ei_ (k)))], [.int (ei_ (k))], m)) rfl ?_
                refine pw_ifF rfl (by omega) (show ¬ (k < 0) by omega) ?_
                refine pw_steps 2 (s' := (7, [some (.int (ei_ (k)))], [.int (ei_ (8)), .int (ei_ (k))], m)) rfl ?_
                refine pw_cmpF rfl (by omega) (by decide) (show ¬ (8 ≤ k) by omega) ?_
                refine pw_steps 2 (s' := (15, [some (.int (ei_ (k)))], [.int (ei_ (1))], m)) rfl ?_
                refine pw_iret rfl rfl rfl ?_
                refine pw_ifF rfl (by decide) (show ¬ (1 = 0) by decide) ?_
                refine pw_steps 1 (s' := (8, [some (.ref 3), some (.int (ei_ (k))), some (.int (ei_ (k2)))], [.int (ei_ (k2))], m)) rfl ?_
                refine pw_callS (As := [.int (ei_ (k2))]) (st := []) rfl (by decide) rfl rfl (Nat.le_of_ble_eq_true rfl) ?_
                refine pw_intro (I := iX2_isIn) (T := tX2_isIn) rfl rfl rfl ?_
                refine pw_steps 1 (s' := (1, [some (.int (ei_ (k2)))], [.int (ei_ (k2))], m)) rfl ?_
                refine pw_ifF rfl (by omega) (show ¬ (k2 < 0) by omega) ?_
                refine pw_steps 2 (s' := (7, [some (.int (ei_ (k2)))], [.int (ei_ (8)), .int (ei_ (k2))], m)) rfl ?_
                refine pw_cmpF rfl (by omega) (by decide) (show ¬ (8 ≤ k2) by omega) ?_
                refine pw_steps 2 (s' := (15, [some (.int (ei_ (k2)))], [.int (ei_ (1))], m)) rfl ?_
                refine pw_iret rfl rfl rfl ?_
                refine pw_ifF rfl (by decide) (show ¬ (1 = 0) by decide) ?_
                refine pw_steps 7 (s' := (24, [some (.ref 3), some (.int (ei_ (k))), some (.int (ei_ (k2)))], [.int (((ei_ (k)) * (ei_ (8))) + (ei_ (k2))), .ref 6], m)) rfl ?_
                refine pw_cv (congrArg (fun z_ : Int32 => ((24, [some (.ref 3), some (.int (ei_ (k))), some (.int (ei_ (k2)))], [.int z_, .ref 6], m) : am_S)) (ei_add (ei_mul rfl rfl) rfl)) ?_
                refine pw_ild rfl rfl (by omega) (fun x17 (hx17 : x17 = vi_ m 6 ((k * 8) + k2)) rx17 sx17 => ?_)
                have ox17 := hx17
                replace hx17 : x17 = vi_ m0 6 ((k * 8) + k2) := hx17.trans (sm_v p2 rfl)
                have b18 := p1.2.2.2.1 ((k * 8) + k2) (by omega) (by omega)
                refine pw_steps 1 (s' := (29, [some (.ref 3), some (.int (ei_ (k))), some (.int (ei_ (k2)))], [.int (ei_ (x17))], m)) rfl ?_
                refine pw_iret rfl rfl rfl ?_
                refine pw_steps 5 (s' := (17, [some (.ref 0), some (.int ((ei_ (s2)) + (ei_ (x17)))), some (.int (ei_ (k))), some (.int ((ei_ (k2)) + (ei_ (1))))], [], m)) rfl ?_
                refine pw_cv (congrArg (fun z_ : Int32 => ((17, [some (.ref 0), some (.int z_), some (.int (ei_ (k))), some (.int ((ei_ (k2)) + (ei_ (1))))], [], m) : am_S)) (ei_add rfl rfl)) ?_
                refine pw_cv (congrArg (fun z_ : Int32 => ((17, [some (.ref 0), some (.int (ei_ ((s2 + x17)))), some (.int (ei_ (k))), some (.int z_)], [], m) : am_S)) (ei_add rfl rfl)) ?_
                exact ih9 _ (by omega) (s2 + x17) (k2 + 1) rfl (by omega) (by rw [su_s (by omega)]; have e_ : tm_ m0 (-1) k k2 = (s2 + x17) - s2 := (by unfold tm_; first | (rw [if_neg (by omega)]; omega) | (rw [if_pos (by omega)]; first | omega | (have i_ : 8 * k + k2 = k * 8 + k2 := (by omega); rw [i_]; omega))); omega)
              · refine pw_steps 2 (s' := (11, [some (.ref 3), some (.int (ei_ (k))), some (.int (ei_ (k2)))], [.int (ei_ (k2)), .ref 3], m)) rfl ?_
                refine pw_call (As := [.int (ei_ (k2))]) (st := []) (k := 3) rfl rfl rfl rfl rfl (Nat.le_of_ble_eq_true rfl) ?_
                refine cw_wearer2 (p2) (by omega) (fun x19 g20 g21 => ?_)
                refine pw_steps 1 (s' := (15, [some (.ref 3), some (.int (ei_ (k))), some (.int (ei_ (k2)))], [.int (ei_ (k2)), .int (ei_ (x19))], m)) rfl ?_
                refine pw_cmp rfl (by omega) (by omega) (fun (h22 : x19 = k2) => ?_) (fun (h22 : ¬ (x19 = k2)) => ?_)
                · refine pw_steps 1 (s' := (23, [some (.ref 3), some (.int (ei_ (k))), some (.int (ei_ (k2)))], [.int (ei_ (0))], m)) rfl ?_
                  refine pw_iret rfl rfl rfl ?_
                  refine pw_ifT rfl (by decide) (show 0 = 0 by decide) ?_
                  refine pw_steps 5 (s' := (17, [some (.ref 0), some (.int ((ei_ (s2)) + (ei_ (0)))), some (.int (ei_ (k))), some (.int ((ei_ (k2)) + (ei_ (1))))], [], m)) rfl ?_
                  refine pw_cv (congrArg (fun z_ : Int32 => ((17, [some (.ref 0), some (.int z_), some (.int (ei_ (k))), some (.int ((ei_ (k2)) + (ei_ (1))))], [], m) : am_S)) (ei_add rfl rfl)) ?_
                  refine pw_cv (congrArg (fun z_ : Int32 => ((17, [some (.ref 0), some (.int (ei_ ((s2 + 0)))), some (.int (ei_ (k))), some (.int z_)], [], m) : am_S)) (ei_add rfl rfl)) ?_
                  exact ih9 _ (by omega) (s2 + 0) (k2 + 1) rfl (by omega) (by rw [su_s (by omega)]; have e_ : tm_ m0 (-1) k k2 = (s2 + 0) - s2 := (by unfold tm_; first | (rw [if_neg (by omega)]; omega) | (rw [if_pos (by omega)]; first | omega | (have i_ : 8 * k + k2 = k * 8 + k2 := (by omega); rw [i_]; omega))); omega)
                · refine pw_steps 2 (s' := (23, [some (.ref 3), some (.int (ei_ (k))), some (.int (ei_ (k2)))], [.int (ei_ (1))], m)) rfl ?_
                  refine pw_iret rfl rfl rfl ?_
                  refine pw_ifF rfl (by decide) (show ¬ (1 = 0) by decide) ?_
                  refine pw_steps 4 (s' := (47, [some (.ref 0), some (.int (ei_ (s2))), some (.int (ei_ (k))), some (.int (ei_ (k2)))], [.int (ei_ (k2)), .int (ei_ (k)), .ref 3, .int (ei_ (s2))], m)) rfl ?_
                  refine pw_call (As := [.int (ei_ (k)), .int (ei_ (k2))]) (st := [.int (ei_ (s2))]) (k := 3) rfl rfl rfl rfl rfl (Nat.le_of_ble_eq_true rfl) ?_
                  refine pw_intro (I := iX2_debtOf) (T := tX2_debtOf) rfl rfl rfl ?_
                  refine pw_steps 1 (s' := (1, [some (.ref 3), some (.int (ei_ (k))), some (.int (ei_ (k2)))], [.int (ei_ (k))], m)) rfl ?_
                  refine pw_callS (As := [.int (ei_ (k))]) (st := []) rfl (by decide) rfl rfl (Nat.le_of_ble_eq_true rfl) ?_
                  refine pw_intro (I := iX2_isIn) (T := tX2_isIn) rfl rfl rfl ?_
                  refine pw_steps 1 (s' := (1, [some (.int (ei_ (k)))], [.int (ei_ (k))], m)) rfl ?_
                  refine pw_ifF rfl (by omega) (show ¬ (k < 0) by omega) ?_
                  refine pw_steps 2 (s' := (7, [some (.int (ei_ (k)))], [.int (ei_ (8)), .int (ei_ (k))], m)) rfl ?_
                  refine pw_cmpF rfl (by omega) (by decide) (show ¬ (8 ≤ k) by omega) ?_
                  refine pw_steps 2 (s' := (15, [some (.int (ei_ (k)))], [.int (ei_ (1))], m)) rfl ?_
                  refine pw_iret rfl rfl rfl ?_
                  refine pw_ifF rfl (by decide) (show ¬ (1 = 0) by decide) ?_
                  refine pw_steps 1 (s' := (8, [some (.ref 3), some (.int (ei_ (k))), some (.int (ei_ (k2)))], [.int (ei_ (k2))], m)) rfl ?_
                  refine pw_callS (As := [.int (ei_ (k2))]) (st := []) rfl (by decide) rfl rfl (Nat.le_of_ble_eq_true rfl) ?_
                  refine pw_intro (I := iX2_isIn) (T := tX2_isIn) rfl rfl rfl ?_
                  refine pw_steps 1 (s' := (1, [some (.int (ei_ (k2)))], [.int (ei_ (k2))], m)) rfl ?_
                  refine pw_ifF rfl (by omega) (show ¬ (k2 < 0) by omega) ?_
                  refine pw_steps 2 (s' := (7, [some (.int (ei_ (k2)))], [.int (ei_ (8)), .int (ei_ (k2))], m)) rfl ?_
                  refine pw_cmpF rfl (by omega) (by decide) (show ¬ (8 ≤ k2) by omega) ?_
                  refine pw_steps 2 (s' := (15, [some (.int (ei_ (k2)))], [.int (ei_ (1))], m)) rfl ?_
                  refine pw_iret rfl rfl rfl ?_
                  refine pw_ifF rfl (by decide) (show ¬ (1 = 0) by decide) ?_
                  refine pw_steps 7 (s' := (24, [some (.ref 3), some (.int (ei_ (k))), some (.int (ei_ (k2)))], [.int (((ei_ (k)) * (ei_ (8))) + (ei_ (k2))), .ref 6], m)) rfl ?_
                  refine pw_cv (congrArg (fun z_ : Int32 => ((24, [some (.ref 3), some (.int (ei_ (k))), some (.int (ei_ (k2)))], [.int z_, .ref 6], m) : am_S)) (ei_add (ei_mul rfl rfl) rfl)) ?_
                  refine pw_ild rfl rfl (by omega) (fun x23 (hx23 : x23 = vi_ m 6 ((k * 8) + k2)) rx23 sx23 => ?_)
                  have ox23 := hx23
                  replace hx23 : x23 = vi_ m0 6 ((k * 8) + k2) := hx23.trans (sm_v p2 rfl)
                  have b24 := p1.2.2.2.1 ((k * 8) + k2) (by omega) (by omega)
                  refine pw_steps 1 (s' := (29, [some (.ref 3), some (.int (ei_ (k))), some (.int (ei_ (k2)))], [.int (ei_ (x23))], m)) rfl ?_
                  refine pw_iret rfl rfl rfl ?_
                  refine pw_steps 5 (s' := (17, [some (.ref 0), some (.int ((ei_ (s2)) + (ei_ (x23)))), some (.int (ei_ (k))), some (.int ((ei_ (k2)) + (ei_ (1))))], [], m)) rfl ?_
                  refine pw_cv (congrArg (fun z_ : Int32 => ((17, [some (.ref 0), some (.int z_), some (.int (ei_ (k))), some (.int ((ei_ (k2)) + (ei_ (1))))], [], m) : am_S)) (ei_add rfl rfl)) ?_
                  refine pw_cv (congrArg (fun z_ : Int32 => ((17, [some (.ref 0), some (.int (ei_ ((s2 + x23)))), some (.int (ei_ (k))), some (.int z_)], [], m) : am_S)) (ei_add rfl rfl)) ?_
                  exact ih9 _ (by omega) (s2 + x23) (k2 + 1) rfl (by omega) (by rw [su_s (by omega)]; have e_ : tm_ m0 (-1) k k2 = (s2 + x23) - s2 := (by unfold tm_; first | (rw [if_neg (by omega)]; omega) | (rw [if_pos (by omega)]; first | omega | (have i_ : 8 * k + k2 = k * 8 + k2 := (by omega); rw [i_]; omega))); omega)
        exact L10 _ s 0 rfl (by omega) (by simp [su_])
  exact L4 _ 0 0 none rfl (by omega) (by rfl)

set_option maxHeartbeats 4000000 in
set_option maxRecDepth 20000 in
theorem cs_debt {q : am_X} {d : Nat} {m : am_M} {Q : Option Value → am_M → Prop} {m0 : am_M} {a : Int}  (p0 : rP_ m0) (p1 : rD_ m0) (p2 : rZ_ m0) (p3 : rL_ m0) (p4 : sm_ pSc m0 m) (p5 : -2147483648 ≤ a ∧ a < 2147483648) (k0 : ∀ (x : Int) (m1 : am_M), (x = sd_ m0 a) → (sm_ pSc m0 m1) → Q (some (.int (ei_ (x)))) m1) : pw_C q (d + 60) 95 [.ref 0, .int (ei_ (a))] m Q := by
  obtain ⟨hP1, hP2, hP3, hP4⟩ := id p0
  have hmw := mW_of p0 p1
  have hmf := mF_of p0 p1
  refine pw_intro (I := iX8_debt) (T := tX8_debt) rfl rfl rfl ?_
  refine pw_steps 2 (s' := (2, [some (.ref 0), some (.int (ei_ (a))), none, none], [.int (ei_ ((-1))), .int (ei_ (a))], m)) rfl ?_
  refine pw_cmp rfl p5 (by decide) (fun (h1 : ¬ a = (-1)) => ?_) (fun (h1 : ¬ ¬ a = (-1)) => ?_)
  · refine pw_steps 3 (s' := (15, [some (.ref 0), some (.int (ei_ (a))), none, none], [.int (ei_ (a)), .ref 1], m)) rfl ?_
    refine pw_call (As := [.int (ei_ (a))]) (st := []) (k := 1) rfl rfl rfl rfl rfl (Nat.le_of_ble_eq_true rfl) ?_
    refine pw_intro (I := iX3_has) (T := tX3_has) rfl rfl rfl ?_
    refine pw_steps 1 (s' := (1, [some (.ref 1), some (.int (ei_ (a)))], [.int (ei_ (a))], m)) rfl ?_
    refine pw_if rfl p5 (fun (h2 : a < 0) => ?_) (fun (h2 : ¬ (a < 0)) => ?_)
    · refine pw_steps 1 (s' := (17, [some (.ref 1), some (.int (ei_ (a)))], [.int (ei_ (0))], m)) rfl ?_
      refine pw_iret rfl rfl rfl ?_
      refine pw_ifF rfl (by decide) (show ¬ (¬ 0 = 0) by decide) ?_
      refine pw_steps 1 (s' := (22, [some (.ref 0), some (.int (ei_ (a))), none, none], [.int (ei_ ((-1)))], m)) rfl ?_
      refine pw_iret rfl rfl rfl ?_
      exact k0 (-1) m (by unfold sd_; rw [if_neg (by omega)]) (p4)
    · refine pw_steps 2 (s' := (6, [some (.ref 1), some (.int (ei_ (a)))], [.ref 1, .int (ei_ (a))], m)) rfl ?_
      refine pw_get rfl rfl (fun x3 (hx3 : x3 = vi_ m 1 1) rx3 sx3 => ?_)
      have ox3 := hx3
      replace hx3 : x3 = vi_ m0 1 1 := hx3.trans (sm_v p4 rfl)
      refine pw_cmp rfl p5 ⟨rx3, sx3⟩ (fun (h4 : x3 ≤ a) => ?_) (fun (h4 : ¬ (x3 ≤ a)) => ?_)
      · refine pw_steps 1 (s' := (17, [some (.ref 1), some (.int (ei_ (a)))], [.int (ei_ (0))], m)) rfl ?_
        refine pw_iret rfl rfl rfl ?_
        refine pw_ifF rfl (by decide) (show ¬ (¬ 0 = 0) by decide) ?_
        refine pw_steps 1 (s' := (22, [some (.ref 0), some (.int (ei_ (a))), none, none], [.int (ei_ ((-1)))], m)) rfl ?_
        refine pw_iret rfl rfl rfl ?_
        exact k0 (-1) m (by unfold sd_; rw [if_neg (by omega)]) (p4)
      · refine pw_steps 2 (s' := (17, [some (.ref 1), some (.int (ei_ (a)))], [.int (ei_ (1))], m)) rfl ?_
        refine pw_iret rfl rfl rfl ?_
        refine pw_ifT rfl (by decide) (show ¬ 1 = 0 by decide) ?_
        refine pw_steps 4 (s' := (27, [some (.ref 0), some (.int (ei_ (a))), some (.int (ei_ (0))), some (.int (ei_ (0)))], [], m)) rfl ?_
        have L7 : ∀ (n5 : Nat) (s : Int) (k : Int), (vi_ m0 1 1 - k).toNat = n5 → (0 ≤ k ∧ k ≤ vi_ m0 1 1 ∧ 0 ≤ s ∧ s ≤ 9999 * k) → (s = su_ (tm_ m0 a a) k.toNat) → pw_V q (d + 59) iX8_debt.2.2.2.1 tX8_debt Q (27, [some (.ref 0), some (.int (ei_ (a))), some (.int (ei_ (s))), some (.int (ei_ (k)))], [], m) := by
          intro n5
          induction n5 using Nat.strongRecOn with
          | _ n5 ih6 =>
            intro s k hm_n5 v8 hv
            refine pw_steps 3 (s' := (32, [some (.ref 0), some (.int (ei_ (a))), some (.int (ei_ (s))), some (.int (ei_ (k)))], [.ref 1, .int (ei_ (k))], m)) rfl ?_
            refine pw_call (As := []) (st := [.int (ei_ (k))]) (k := 1) rfl rfl rfl rfl rfl (Nat.le_of_ble_eq_true rfl) ?_
            refine pw_intro (I := iX3_size) (T := tX3_size) rfl rfl rfl ?_
            refine pw_steps 1 (s' := (1, [some (.ref 1)], [.ref 1], m)) rfl ?_
            refine pw_getE (x := x3) rfl rfl ox3 ?_
            refine pw_iret rfl rfl rfl ?_
            refine pw_cmp rfl (by omega) ⟨rx3, sx3⟩ (fun (h9 : x3 ≤ k) => ?_) (fun (h9 : ¬ (x3 ≤ k)) => ?_)
            · refine pw_steps 1 (s' := (73, [some (.ref 0), some (.int (ei_ (a))), some (.int (ei_ (s))), some (.int (ei_ (k)))], [.int (ei_ (s))], m)) rfl ?_
              refine pw_iret rfl rfl rfl ?_
              exact k0 s m (by unfold sd_; rw [if_pos (by omega), td_o ⟨by omega, by omega⟩]; unfold td_; rw [← show k = vi_ m0 1 1 by omega]; exact hv) (p4)
            · refine pw_steps 5 (s' := (45, [some (.ref 0), some (.int (ei_ (a))), some (.int (ei_ (s))), some (.int (ei_ (k)))], [.int (ei_ (k)), .int (ei_ (a)), .ref 3, .int (ei_ (s))], m)) rfl ?_
              refine pw_call (As := [.int (ei_ (a)), .int (ei_ (k))]) (st := [.int (ei_ (s))]) (k := 3) rfl rfl rfl rfl rfl (Nat.le_of_ble_eq_true rfl) ?_
              refine pw_intro (I := iX2_sleeps) (T := tX2_sleeps) rfl rfl rfl ?_
              refine pw_steps 2 (s' := (2, [some (.ref 3), some (.int (ei_ (a))), some (.int (ei_ (k)))], [.int (ei_ (a)), .ref 3], m)) rfl ?_
              refine pw_call (As := [.int (ei_ (a))]) (st := []) (k := 3) rfl rfl rfl rfl rfl (Nat.le_of_ble_eq_true rfl) ?_
              refine cw_wearer2 (p4) (by omega) (fun x10 g11 g12 => ?_)
              refine pw_steps 1 (s' := (6, [some (.ref 3), some (.int (ei_ (a))), some (.int (ei_ (k)))], [.int (ei_ (a)), .int (ei_ (x10))], m)) rfl ?_
              refine pw_cmp rfl (by omega) p5 (fun (h13 : ¬ x10 = a) => ?_) (fun (h13 : ¬ ¬ x10 = a) => ?_)
              · refine pw_steps 2 (s' := (23, [some (.ref 3), some (.int (ei_ (a))), some (.int (ei_ (k)))], [.int (ei_ (1))], m)) rfl ?_
                refine pw_iret rfl rfl rfl ?_
                refine pw_ifF rfl (by decide) (show ¬ (1 = 0) by decide) ?_
                refine pw_steps 6 (s' := (27, [some (.ref 0), some (.int (ei_ (a))), some (.int ((ei_ (s)) + (ei_ (0)))), some (.int ((ei_ (k)) + (ei_ (1))))], [], m)) rfl ?_
                refine pw_cv (congrArg (fun z_ : Int32 => ((27, [some (.ref 0), some (.int (ei_ (a))), some (.int z_), some (.int ((ei_ (k)) + (ei_ (1))))], [], m) : am_S)) (ei_add rfl rfl)) ?_
                refine pw_cv (congrArg (fun z_ : Int32 => ((27, [some (.ref 0), some (.int (ei_ (a))), some (.int (ei_ ((s + 0)))), some (.int z_)], [], m) : am_S)) (ei_add rfl rfl)) ?_
                exact ih6 _ (by omega) (s + 0) (k + 1) rfl (by omega) (by rw [su_s (by omega)]; have e_ : tm_ m0 a a k = (s + 0) - s := (by unfold tm_; first | (rw [if_neg (by omega)]; omega) | (rw [if_pos (by omega)]; first | omega | (have i_ : 8 * a + k = a * 8 + k := (by omega); rw [i_]; omega))); omega)
              · refine pw_steps 2 (s' := (11, [some (.ref 3), some (.int (ei_ (a))), some (.int (ei_ (k)))], [.int (ei_ (k)), .ref 3], m)) rfl ?_
                refine pw_call (As := [.int (ei_ (k))]) (st := []) (k := 3) rfl rfl rfl rfl rfl (Nat.le_of_ble_eq_true rfl) ?_
                refine cw_wearer2 (p4) (by omega) (fun x14 g15 g16 => ?_)
                refine pw_steps 1 (s' := (15, [some (.ref 3), some (.int (ei_ (a))), some (.int (ei_ (k)))], [.int (ei_ (k)), .int (ei_ (x14))], m)) rfl ?_
                refine pw_cmp rfl (by omega) (by omega) (fun (h17 : x14 = k) => ?_) (fun (h17 : ¬ (x14 = k)) => ?_)
                · refine pw_steps 1 (s' := (23, [some (.ref 3), some (.int (ei_ (a))), some (.int (ei_ (k)))], [.int (ei_ (0))], m)) rfl ?_
                  refine pw_iret rfl rfl rfl ?_
                  refine pw_ifT rfl (by decide) (show 0 = 0 by decide) ?_
                  refine pw_steps 4 (s' := (61, [some (.ref 0), some (.int (ei_ (a))), some (.int (ei_ (s))), some (.int (ei_ (k)))], [.int (ei_ (k)), .int (ei_ (a)), .ref 3, .int (ei_ (s))], m)) rfl ?_
                  refine pw_call (As := [.int (ei_ (a)), .int (ei_ (k))]) (st := [.int (ei_ (s))]) (k := 3) rfl rfl rfl rfl rfl (Nat.le_of_ble_eq_true rfl) ?_
                  refine pw_intro (I := iX2_debtOf) (T := tX2_debtOf) rfl rfl rfl ?_
                  refine pw_steps 1 (s' := (1, [some (.ref 3), some (.int (ei_ (a))), some (.int (ei_ (k)))], [.int (ei_ (a))], m)) rfl ?_
                  refine pw_callS (As := [.int (ei_ (a))]) (st := []) rfl (by decide) rfl rfl (Nat.le_of_ble_eq_true rfl) ?_
                  refine pw_intro (I := iX2_isIn) (T := tX2_isIn) rfl rfl rfl ?_
                  refine pw_steps 1 (s' := (1, [some (.int (ei_ (a)))], [.int (ei_ (a))], m)) rfl ?_
                  refine pw_ifF rfl p5 (show ¬ (a < 0) by omega) ?_
                  refine pw_steps 2 (s' := (7, [some (.int (ei_ (a)))], [.int (ei_ (8)), .int (ei_ (a))], m)) rfl ?_
                  refine pw_cmpF rfl p5 (by decide) (show ¬ (8 ≤ a) by omega) ?_
                  refine pw_steps 2 (s' := (15, [some (.int (ei_ (a)))], [.int (ei_ (1))], m)) rfl ?_
                  refine pw_iret rfl rfl rfl ?_
                  refine pw_ifF rfl (by decide) (show ¬ (1 = 0) by decide) ?_
                  refine pw_steps 1 (s' := (8, [some (.ref 3), some (.int (ei_ (a))), some (.int (ei_ (k)))], [.int (ei_ (k))], m)) rfl ?_
                  refine pw_callS (As := [.int (ei_ (k))]) (st := []) rfl (by decide) rfl rfl (Nat.le_of_ble_eq_true rfl) ?_
                  refine pw_intro (I := iX2_isIn) (T := tX2_isIn) rfl rfl rfl ?_
                  refine pw_steps 1 (s' := (1, [some (.int (ei_ (k)))], [.int (ei_ (k))], m)) rfl ?_
                  refine pw_ifF rfl (by omega) (show ¬ (k < 0) by omega) ?_
                  refine pw_steps 2 (s' := (7, [some (.int (ei_ (k)))], [.int (ei_ (8)), .int (ei_ (k))], m)) rfl ?_
                  refine pw_cmpF rfl (by omega) (by decide) (show ¬ (8 ≤ k) by omega) ?_
                  refine pw_steps 2 (s' := (15, [some (.int (ei_ (k)))], [.int (ei_ (1))], m)) rfl ?_
                  refine pw_iret rfl rfl rfl ?_
                  refine pw_ifF rfl (by decide) (show ¬ (1 = 0) by decide) ?_
                  refine pw_steps 7 (s' := (24, [some (.ref 3), some (.int (ei_ (a))), some (.int (ei_ (k)))], [.int (((ei_ (a)) * (ei_ (8))) + (ei_ (k))), .ref 6], m)) rfl ?_
                  refine pw_cv (congrArg (fun z_ : Int32 => ((24, [some (.ref 3), some (.int (ei_ (a))), some (.int (ei_ (k)))], [.int z_, .ref 6], m) : am_S)) (ei_add (ei_mul rfl rfl) rfl)) ?_
                  refine pw_ild rfl rfl (by omega) (fun x18 (hx18 : x18 = vi_ m 6 ((a * 8) + k)) rx18 sx18 => ?_)
                  have ox18 := hx18
                  replace hx18 : x18 = vi_ m0 6 ((a * 8) + k) := hx18.trans (sm_v p4 rfl)
                  have b19 := p1.2.2.2.1 ((a * 8) + k) (by omega) (by omega)
                  refine pw_steps 1 (s' := (29, [some (.ref 3), some (.int (ei_ (a))), some (.int (ei_ (k)))], [.int (ei_ (x18))], m)) rfl ?_
                  refine pw_iret rfl rfl rfl ?_
                  refine pw_steps 4 (s' := (27, [some (.ref 0), some (.int (ei_ (a))), some (.int ((ei_ (s)) + (ei_ (x18)))), some (.int ((ei_ (k)) + (ei_ (1))))], [], m)) rfl ?_
                  refine pw_cv (congrArg (fun z_ : Int32 => ((27, [some (.ref 0), some (.int (ei_ (a))), some (.int z_), some (.int ((ei_ (k)) + (ei_ (1))))], [], m) : am_S)) (ei_add rfl rfl)) ?_
                  refine pw_cv (congrArg (fun z_ : Int32 => ((27, [some (.ref 0), some (.int (ei_ (a))), some (.int (ei_ ((s + x18)))), some (.int z_)], [], m) : am_S)) (ei_add rfl rfl)) ?_
                  exact ih6 _ (by omega) (s + x18) (k + 1) rfl (by omega) (by rw [su_s (by omega)]; have e_ : tm_ m0 a a k = (s + x18) - s := (by unfold tm_; first | (rw [if_neg (by omega)]; omega) | (rw [if_pos (by omega)]; first | omega | (have i_ : 8 * a + k = a * 8 + k := (by omega); rw [i_]; omega))); omega)
                · refine pw_steps 2 (s' := (23, [some (.ref 3), some (.int (ei_ (a))), some (.int (ei_ (k)))], [.int (ei_ (1))], m)) rfl ?_
                  refine pw_iret rfl rfl rfl ?_
                  refine pw_ifF rfl (by decide) (show ¬ (1 = 0) by decide) ?_
                  refine pw_steps 6 (s' := (27, [some (.ref 0), some (.int (ei_ (a))), some (.int ((ei_ (s)) + (ei_ (0)))), some (.int ((ei_ (k)) + (ei_ (1))))], [], m)) rfl ?_
                  refine pw_cv (congrArg (fun z_ : Int32 => ((27, [some (.ref 0), some (.int (ei_ (a))), some (.int z_), some (.int ((ei_ (k)) + (ei_ (1))))], [], m) : am_S)) (ei_add rfl rfl)) ?_
                  refine pw_cv (congrArg (fun z_ : Int32 => ((27, [some (.ref 0), some (.int (ei_ (a))), some (.int (ei_ ((s + 0)))), some (.int z_)], [], m) : am_S)) (ei_add rfl rfl)) ?_
                  exact ih6 _ (by omega) (s + 0) (k + 1) rfl (by omega) (by rw [su_s (by omega)]; have e_ : tm_ m0 a a k = (s + 0) - s := (by unfold tm_; first | (rw [if_neg (by omega)]; omega) | (rw [if_pos (by omega)]; first | omega | (have i_ : 8 * a + k = a * 8 + k := (by omega); rw [i_]; omega))); omega)
        exact L7 _ 0 0 rfl (by omega) (by rfl)
  · refine pw_steps 1 (s' := (6, [some (.ref 0), some (.int (ei_ (a))), none, none], [.ref 0], m)) rfl ?_
    refine pw_call (As := []) (st := []) (k := 0) rfl rfl rfl rfl rfl (Nat.le_of_ble_eq_true rfl) ?_
    refine cs_sleep (p0) (p1) (p4) (fun x20 g21 => ?_)
    refine pw_iret rfl rfl rfl ?_
    exact k0 x20 m (by unfold sd_; rw [if_pos (by omega), show a = -1 by omega]; exact g21) (p4)

set_option maxHeartbeats 4000000 in
set_option maxRecDepth 20000 in
theorem ms_debt {q : am_X} {d : Nat} {m : am_M} {Q : Option Value → am_M → Prop} {m0 : am_M} {a : Int}  (p0 : rP_ m0) (p1 : rD_ m0) (p2 : rZ_ m0) (p3 : rL_ m0) (p4 : sm_ pSc m0 m) (p5 : -2147483648 ≤ a ∧ a < 2147483648) (k0 : ∀ (x : Int) (m1 : am_M), (x = sd_ m0 a) → (sm_ pSc m0 m1) → Q (some (.int (ei_ (x)))) m1) : pw_C q (d + 60) 230 [.ref 47, .int (ei_ (a))] m Q := by
  obtain ⟨hP1, hP2, hP3, hP4⟩ := id p0
  have hmw := mW_of p0 p1
  have hmf := mF_of p0 p1
  refine pw_intro (I := iX9_debt) (T := tX9_debt) rfl rfl rfl ?_
  refine pw_steps 2 (s' := (2, [some (.ref 47), some (.int (ei_ (a))), none, none, none, none], [.int (ei_ ((-1))), .int (ei_ (a))], m)) rfl ?_
  refine pw_cmp rfl p5 (by decide) (fun (h1 : a = (-1)) => ?_) (fun (h1 : ¬ (a = (-1))) => ?_)
  · refine pw_steps 4 (s' := (20, [some (.ref 47), some (.int (ei_ (a))), some (.int (ei_ (0))), some (.int (ei_ (0))), none, none], [], m)) rfl ?_
    have L6 : ∀ (n4 : Nat) (s : Int) (k : Int) (u2 : Option Value) (u3 : Option Value), (vi_ m0 1 1 - k).toNat = n4 → (0 ≤ k ∧ k ≤ vi_ m0 1 1 ∧ 0 ≤ s ∧ s ≤ 80000 * k) → (s = su_ (td_ m0 a) k.toNat) → pw_V q (d + 59) iX9_debt.2.2.2.1 tX9_debt Q (20, [some (.ref 47), some (.int (ei_ (a))), some (.int (ei_ (s))), some (.int (ei_ (k))), u2, u3], [], m) := by
      intro n4
      induction n4 using Nat.strongRecOn with
      | _ n4 ih5 =>
        intro s k u2 u3 hm_n4 v7 hv
        refine pw_steps 2 (s' := (22, [some (.ref 47), some (.int (ei_ (a))), some (.int (ei_ (s))), some (.int (ei_ (k))), u2, u3], [.ref 47, .int (ei_ (k))], m)) rfl ?_
        refine pw_get rfl rfl (fun x8 (hx8 : x8 = vi_ m 47 6) rx8 sx8 => ?_)
        have ox8 := hx8
        replace hx8 : x8 = vi_ m0 47 6 := hx8.trans (sm_v p4 rfl)
        refine pw_cmp rfl (by omega) ⟨rx8, sx8⟩ (fun (h9 : x8 ≤ k) => ?_) (fun (h9 : ¬ (x8 ≤ k)) => ?_)
        · refine pw_steps 1 (s' := (115, [some (.ref 47), some (.int (ei_ (a))), some (.int (ei_ (s))), some (.int (ei_ (k))), u2, u3], [.int (ei_ (s))], m)) rfl ?_
          refine pw_iret rfl rfl rfl ?_
          exact k0 s m (by unfold sd_; rw [if_pos (by omega), ← show k = vi_ m0 1 1 by omega]; exact hv) (p4)
        · refine pw_steps 2 (s' := (31, [some (.ref 47), some (.int (ei_ (a))), some (.int (ei_ (s))), some (.int (ei_ (k))), some (.int (ei_ (0))), u3], [], m)) rfl ?_
          have L13 : ∀ (n11 : Nat) (s2 : Int) (k2 : Int) (u10 : Option Value), (vi_ m0 1 1 - k2).toNat = n11 → (0 ≤ k2 ∧ k2 ≤ vi_ m0 1 1 ∧ s ≤ s2 ∧ s2 ≤ s + 9999 * k2) → (s2 = s + su_ (tm_ m0 a k) k2.toNat) → pw_V q (d + 59) iX9_debt.2.2.2.1 tX9_debt Q (31, [some (.ref 47), some (.int (ei_ (a))), some (.int (ei_ (s2))), some (.int (ei_ (k))), some (.int (ei_ (k2))), u10], [], m) := by
            intro n11
            induction n11 using Nat.strongRecOn with
            | _ n11 ih12 =>
              intro s2 k2 u10 hm_n11 v14 hw
              refine pw_steps 2 (s' := (34, [some (.ref 47), some (.int (ei_ (a))), some (.int (ei_ (s2))), some (.int (ei_ (k))), some (.int (ei_ (k2))), u10], [.ref 47, .int (ei_ (k2))], m)) rfl ?_
              refine pw_getE (x := x8) rfl rfl ox8 ?_
              refine pw_cmp rfl (by omega) ⟨rx8, sx8⟩ (fun (h15 : x8 ≤ k2) => ?_) (fun (h15 : ¬ (x8 ≤ k2)) => ?_)
              · refine pw_steps 2 (s' := (20, [some (.ref 47), some (.int (ei_ (a))), some (.int (ei_ (s2))), some (.int ((ei_ (k)) + (ei_ (1)))), some (.int (ei_ (k2))), u10], [], m)) rfl ?_
                refine pw_cv (congrArg (fun z_ : Int32 => ((20, [some (.ref 47), some (.int (ei_ (a))), some (.int (ei_ (s2))), some (.int z_), some (.int (ei_ (k2))), u10], [], m) : am_S)) (ei_add rfl rfl)) ?_
                exact ih5 _ (by omega) s2 (k + 1) (some (.int (ei_ (k2)))) u10 rfl (by omega) (by rw [su_s (by omega), ← hv]; unfold td_; rw [← show k2 = vi_ m0 1 1 by omega]; omega)
              · refine pw_steps 2 (s' := (42, [some (.ref 47), some (.int (ei_ (a))), some (.int (ei_ (s2))), some (.int (ei_ (k))), some (.int (ei_ (k2))), u10], [.int (ei_ (k)), .ref 47], m)) rfl ?_
                refine pw_call (As := [.int (ei_ (k))]) (st := []) (k := 47) rfl rfl rfl rfl rfl (Nat.le_of_ble_eq_true rfl) ?_
                refine pw_intro (I := iX9_isHome) (T := tX9_isHome) rfl rfl rfl ?_
                refine pw_steps 3 (s' := (5, [some (.ref 47), some (.int (ei_ (k)))], [.int (ei_ (k)), .ref 52], m)) rfl ?_
                refine pw_ild rfl rfl (by omega) (fun x16 (hx16 : x16 = vi_ m 52 k) rx16 sx16 => ?_)
                have ox16 := hx16
                replace hx16 : x16 = vi_ m0 52 k := hx16.trans (sm_v p4 rfl)
                have b17 := hmw k (by omega) (by omega)
                have b17b := (p1.2.2.1 k (by omega) (by omega)).1
                refine pw_steps 1 (s' := (7, [some (.ref 47), some (.int (ei_ (k)))], [.int (ei_ (k)), .int (ei_ (x16))], m)) rfl ?_
                refine pw_cmp rfl ⟨rx16, sx16⟩ (by omega) (fun (h18 : ¬ x16 = k) => ?_) (fun (h18 : ¬ ¬ x16 = k) => ?_)
                · refine pw_steps 1 (s' := (15, [some (.ref 47), some (.int (ei_ (k)))], [.int (ei_ (0))], m)) rfl ?_
                  refine pw_iret rfl rfl rfl ?_
                  refine pw_ifT rfl (by decide) (show 0 = 0 by decide) ?_
                  refine pw_steps 4 (s' := (66, [some (.ref 47), some (.int (ei_ (a))), some (.int (ei_ (s2))), some (.int (ei_ (k))), some (.int (ei_ (k2))), some (.int (ei_ (0)))], [.int (ei_ (a)), .int (ei_ (s2))], m)) rfl ?_
                  refine pw_ifF rfl p5 (show ¬ (0 ≤ a) by omega) ?_
                  refine pw_steps 1 (s' := (71, [some (.ref 47), some (.int (ei_ (a))), some (.int (ei_ (s2))), some (.int (ei_ (k))), some (.int (ei_ (k2))), some (.int (ei_ (0)))], [.int (ei_ (0)), .int (ei_ (s2))], m)) rfl ?_
                  refine pw_ifT rfl (by decide) (show 0 = 0 by decide) ?_
                  refine pw_steps 7 (s' := (95, [some (.ref 47), some (.int (ei_ (a))), some (.int (ei_ (s2))), some (.int (ei_ (k))), some (.int (ei_ (k2))), some (.int (ei_ (0)))], [.int (((ei_ (8)) * (ei_ (k))) + (ei_ (k2))), .ref 61, .int (ei_ (s2))], m)) rfl ?_
                  refine pw_cv (congrArg (fun z_ : Int32 => ((95, [some (.ref 47), some (.int (ei_ (a))), some (.int (ei_ (s2))), some (.int (ei_ (k))), some (.int (ei_ (k2))), some (.int (ei_ (0)))], [.int z_, .ref 61, .int (ei_ (s2))], m) : am_S)) (ei_add (ei_mul rfl rfl) rfl)) ?_
                  refine pw_ild rfl rfl (by omega) (fun x19 (hx19 : x19 = vi_ m 61 ((8 * k) + k2)) rx19 sx19 => ?_)
                  have ox19 := hx19
                  replace hx19 : x19 = vi_ m0 61 ((8 * k) + k2) := hx19.trans (sm_v p4 rfl)
                  have b20 := p1.2.2.2.1 ((8 * k) + k2) (by omega) (by omega)
                  rw [b20.1] at hx19
                  refine pw_steps 5 (s' := (31, [some (.ref 47), some (.int (ei_ (a))), some (.int ((ei_ (s2)) + (ei_ (x19)))), some (.int (ei_ (k))), some (.int ((ei_ (k2)) + (ei_ (1)))), some (.int (ei_ (0)))], [], m)) rfl ?_
                  refine pw_cv (congrArg (fun z_ : Int32 => ((31, [some (.ref 47), some (.int (ei_ (a))), some (.int z_), some (.int (ei_ (k))), some (.int ((ei_ (k2)) + (ei_ (1)))), some (.int (ei_ (0)))], [], m) : am_S)) (ei_add rfl rfl)) ?_
                  refine pw_cv (congrArg (fun z_ : Int32 => ((31, [some (.ref 47), some (.int (ei_ (a))), some (.int (ei_ ((s2 + x19)))), some (.int (ei_ (k))), some (.int z_), some (.int (ei_ (0)))], [], m) : am_S)) (ei_add rfl rfl)) ?_
                  exact ih12 _ (by omega) (s2 + x19) (k2 + 1) (some (.int (ei_ (0)))) rfl (by omega) (by rw [su_s (by omega)]; have e_ : tm_ m0 a k k2 = (s2 + x19) - s2 := (by unfold tm_; first | (rw [if_neg (by omega)]; omega) | (rw [if_pos (by omega)]; first | omega | (have i_ : 8 * k + k2 = k * 8 + k2 := (by omega); rw [i_]; omega))); omega)
                · refine pw_steps 2 (s' := (15, [some (.ref 47), some (.int (ei_ (k)))], [.int (ei_ (1))], m)) rfl ?_
                  refine pw_iret rfl rfl rfl ?_
                  refine pw_ifF rfl (by decide) (show ¬ (1 = 0) by decide) ?_
                  refine pw_steps 2 (s' := (51, [some (.ref 47), some (.int (ei_ (a))), some (.int (ei_ (s2))), some (.int (ei_ (k))), some (.int (ei_ (k2))), u10], [.int (ei_ (k2)), .ref 47], m)) rfl ?_
                  refine pw_call (As := [.int (ei_ (k2))]) (st := []) (k := 47) rfl rfl rfl rfl rfl (Nat.le_of_ble_eq_true rfl) ?_
                  refine pw_intro (I := iX9_isHome) (T := tX9_isHome) rfl rfl rfl ?_
                  refine pw_steps 3 (s' := (5, [some (.ref 47), some (.int (ei_ (k2)))], [.int (ei_ (k2)), .ref 52], m)) rfl ?_
                  refine pw_ild rfl rfl (by omega) (fun x21 (hx21 : x21 = vi_ m 52 k2) rx21 sx21 => ?_)
                  have ox21 := hx21
                  replace hx21 : x21 = vi_ m0 52 k2 := hx21.trans (sm_v p4 rfl)
                  have b22 := hmw k2 (by omega) (by omega)
                  have b22b := (p1.2.2.1 k2 (by omega) (by omega)).1
                  refine pw_steps 1 (s' := (7, [some (.ref 47), some (.int (ei_ (k2)))], [.int (ei_ (k2)), .int (ei_ (x21))], m)) rfl ?_
                  refine pw_cmp rfl ⟨rx21, sx21⟩ (by omega) (fun (h23 : ¬ x21 = k2) => ?_) (fun (h23 : ¬ ¬ x21 = k2) => ?_)
                  · refine pw_steps 1 (s' := (15, [some (.ref 47), some (.int (ei_ (k2)))], [.int (ei_ (0))], m)) rfl ?_
                    refine pw_iret rfl rfl rfl ?_
                    refine pw_ifT rfl (by decide) (show 0 = 0 by decide) ?_
                    refine pw_steps 4 (s' := (66, [some (.ref 47), some (.int (ei_ (a))), some (.int (ei_ (s2))), some (.int (ei_ (k))), some (.int (ei_ (k2))), some (.int (ei_ (0)))], [.int (ei_ (a)), .int (ei_ (s2))], m)) rfl ?_
                    refine pw_ifF rfl p5 (show ¬ (0 ≤ a) by omega) ?_
                    refine pw_steps 1 (s' := (71, [some (.ref 47), some (.int (ei_ (a))), some (.int (ei_ (s2))), some (.int (ei_ (k))), some (.int (ei_ (k2))), some (.int (ei_ (0)))], [.int (ei_ (0)), .int (ei_ (s2))], m)) rfl ?_
                    refine pw_ifT rfl (by decide) (show 0 = 0 by decide) ?_
                    refine pw_steps 7 (s' := (95, [some (.ref 47), some (.int (ei_ (a))), some (.int (ei_ (s2))), some (.int (ei_ (k))), some (.int (ei_ (k2))), some (.int (ei_ (0)))], [.int (((ei_ (8)) * (ei_ (k))) + (ei_ (k2))), .ref 61, .int (ei_ (s2))], m)) rfl ?_
                    refine pw_cv (congrArg (fun z_ : Int32 => ((95, [some (.ref 47), some (.int (ei_ (a))), some (.int (ei_ (s2))), some (.int (ei_ (k))), some (.int (ei_ (k2))), some (.int (ei_ (0)))], [.int z_, .ref 61, .int (ei_ (s2))], m) : am_S)) (ei_add (ei_mul rfl rfl) rfl)) ?_
                    refine pw_ild rfl rfl (by omega) (fun x24 (hx24 : x24 = vi_ m 61 ((8 * k) + k2)) rx24 sx24 => ?_)
                    have ox24 := hx24
                    replace hx24 : x24 = vi_ m0 61 ((8 * k) + k2) := hx24.trans (sm_v p4 rfl)
                    have b25 := p1.2.2.2.1 ((8 * k) + k2) (by omega) (by omega)
                    rw [b25.1] at hx24
                    refine pw_steps 5 (s' := (31, [some (.ref 47), some (.int (ei_ (a))), some (.int ((ei_ (s2)) + (ei_ (x24)))), some (.int (ei_ (k))), some (.int ((ei_ (k2)) + (ei_ (1)))), some (.int (ei_ (0)))], [], m)) rfl ?_
                    refine pw_cv (congrArg (fun z_ : Int32 => ((31, [some (.ref 47), some (.int (ei_ (a))), some (.int z_), some (.int (ei_ (k))), some (.int ((ei_ (k2)) + (ei_ (1)))), some (.int (ei_ (0)))], [], m) : am_S)) (ei_add rfl rfl)) ?_
                    refine pw_cv (congrArg (fun z_ : Int32 => ((31, [some (.ref 47), some (.int (ei_ (a))), some (.int (ei_ ((s2 + x24)))), some (.int (ei_ (k))), some (.int z_), some (.int (ei_ (0)))], [], m) : am_S)) (ei_add rfl rfl)) ?_
                    exact ih12 _ (by omega) (s2 + x24) (k2 + 1) (some (.int (ei_ (0)))) rfl (by omega) (by rw [su_s (by omega)]; have e_ : tm_ m0 a k k2 = (s2 + x24) - s2 := (by unfold tm_; first | (rw [if_neg (by omega)]; omega) | (rw [if_pos (by omega)]; first | omega | (have i_ : 8 * k + k2 = k * 8 + k2 := (by omega); rw [i_]; omega))); omega)
                  · refine pw_steps 2 (s' := (15, [some (.ref 47), some (.int (ei_ (k2)))], [.int (ei_ (1))], m)) rfl ?_
                    refine pw_iret rfl rfl rfl ?_
                    refine pw_ifF rfl (by decide) (show ¬ (1 = 0) by decide) ?_
                    refine pw_steps 5 (s' := (66, [some (.ref 47), some (.int (ei_ (a))), some (.int (ei_ (s2))), some (.int (ei_ (k))), some (.int (ei_ (k2))), some (.int (ei_ (1)))], [.int (ei_ (a)), .int (ei_ (s2))], m)) rfl ?_
                    refine pw_ifF rfl p5 (show ¬ (0 ≤ a) by omega) ?_
                    refine pw_steps 1 (s' := (71, [some (.ref 47), some (.int (ei_ (a))), some (.int (ei_ (s2))), some (.int (ei_ (k))), some (.int (ei_ (k2))), some (.int (ei_ (1)))], [.int (ei_ (1)), .int (ei_ (s2))], m)) rfl ?_
                    refine pw_ifF rfl (by decide) (show ¬ (1 = 0) by decide) ?_
                    refine pw_steps 2 (s' := (76, [some (.ref 47), some (.int (ei_ (a))), some (.int (ei_ (s2))), some (.int (ei_ (k))), some (.int (ei_ (k2))), some (.int (ei_ (1)))], [.int (ei_ (k)), .int (ei_ (a)), .int (ei_ (s2))], m)) rfl ?_
                    refine pw_cmpT rfl p5 (by omega) (show ¬ a = k by omega) ?_
                    refine pw_steps 5 (s' := (31, [some (.ref 47), some (.int (ei_ (a))), some (.int ((ei_ (s2)) + (ei_ (0)))), some (.int (ei_ (k))), some (.int ((ei_ (k2)) + (ei_ (1)))), some (.int (ei_ (1)))], [], m)) rfl ?_
                    refine pw_cv (congrArg (fun z_ : Int32 => ((31, [some (.ref 47), some (.int (ei_ (a))), some (.int z_), some (.int (ei_ (k))), some (.int ((ei_ (k2)) + (ei_ (1)))), some (.int (ei_ (1)))], [], m) : am_S)) (ei_add rfl rfl)) ?_
                    refine pw_cv (congrArg (fun z_ : Int32 => ((31, [some (.ref 47), some (.int (ei_ (a))), some (.int (ei_ ((s2 + 0)))), some (.int (ei_ (k))), some (.int z_), some (.int (ei_ (1)))], [], m) : am_S)) (ei_add rfl rfl)) ?_
                    exact ih12 _ (by omega) (s2 + 0) (k2 + 1) (some (.int (ei_ (1)))) rfl (by omega) (by rw [su_s (by omega)]; have e_ : tm_ m0 a k k2 = (s2 + 0) - s2 := (by unfold tm_; first | (rw [if_neg (by omega)]; omega) | (rw [if_pos (by omega)]; first | omega | (have i_ : 8 * k + k2 = k * 8 + k2 := (by omega); rw [i_]; omega))); omega)
          exact L13 _ s 0 u3 rfl (by omega) (by simp [su_])
    exact L6 _ 0 0 none none rfl (by omega) (by rfl)
  · refine pw_steps 3 (s' := (8, [some (.ref 47), some (.int (ei_ (a))), none, none, none, none], [.long ((ei_ (a)).toInt64), .ref 47], m)) rfl ?_
    refine pw_cv (congrArg (fun z_ : Int64 => ((8, [some (.ref 47), some (.int (ei_ (a))), none, none, none, none], [.long z_, .ref 47], m) : am_S)) (el_i2l p5 rfl)) ?_
    refine pw_call (As := [.long (el_ (a))]) (st := []) (k := 47) rfl rfl rfl rfl rfl (Nat.le_of_ble_eq_true rfl) ?_
    refine pw_intro (I := iX9_isOne) (T := tX9_isOne) rfl rfl rfl ?_
    refine pw_steps 3 (s' := (3, [some (.ref 47), some (.long (el_ (a))), none], [.ref 47, .long (el_ (0)), .long (el_ (a))], m)) rfl ?_
    refine pw_get rfl rfl (fun x26 (hx26 : x26 = vi_ m 47 6) rx26 sx26 => ?_)
    have ox26 := hx26
    replace hx26 : x26 = vi_ m0 47 6 := hx26.trans (sm_v p4 rfl)
    refine pw_steps 3 (s' := (9, [some (.ref 47), some (.long (el_ (a))), none], [.long (((ei_ (x26)) - (ei_ (1))).toInt64), .long (el_ (0)), .long (el_ (a))], m)) rfl ?_
    refine pw_cv (congrArg (fun z_ : Int64 => ((9, [some (.ref 47), some (.long (el_ (a))), none], [.long z_, .long (el_ (0)), .long (el_ (a))], m) : am_S)) (el_i2l (by omega) (ei_sub rfl rfl))) ?_
    refine pw_callS (As := [.long (el_ (a)), .long (el_ (0)), .long (el_ ((x26 - 1)))]) (st := []) rfl (by decide) rfl rfl (Nat.le_of_ble_eq_true rfl) ?_
    refine mt_within (by omega) (by omega) (by omega) (fun g27 g28 => ?_) (fun g29 => ?_) (fun g30 => ?_)
    · refine pw_iret rfl rfl rfl ?_
      refine pw_ifT rfl (by decide) (show ¬ 1 = 0 by decide) ?_
      refine pw_steps 4 (s' := (20, [some (.ref 47), some (.int (ei_ (a))), some (.int (ei_ (0))), some (.int (ei_ (0))), none, none], [], m)) rfl ?_
      have L35 : ∀ (n33 : Nat) (s : Int) (k : Int) (u31 : Option Value) (u32 : Option Value), (vi_ m0 1 1 - k).toNat = n33 → (0 ≤ k ∧ k ≤ vi_ m0 1 1 ∧ 0 ≤ s ∧ s ≤ 80000 * k) → (s = su_ (td_ m0 a) k.toNat) → pw_V q (d + 59) iX9_debt.2.2.2.1 tX9_debt Q (20, [some (.ref 47), some (.int (ei_ (a))), some (.int (ei_ (s))), some (.int (ei_ (k))), u31, u32], [], m) := by
        intro n33
        induction n33 using Nat.strongRecOn with
        | _ n33 ih34 =>
          intro s k u31 u32 hm_n33 v36 hv
          refine pw_steps 2 (s' := (22, [some (.ref 47), some (.int (ei_ (a))), some (.int (ei_ (s))), some (.int (ei_ (k))), u31, u32], [.ref 47, .int (ei_ (k))], m)) rfl ?_
          refine pw_getE (x := x26) rfl rfl ox26 ?_
          refine pw_cmp rfl (by omega) ⟨rx26, sx26⟩ (fun (h37 : x26 ≤ k) => ?_) (fun (h37 : ¬ (x26 ≤ k)) => ?_)
          · refine pw_steps 1 (s' := (115, [some (.ref 47), some (.int (ei_ (a))), some (.int (ei_ (s))), some (.int (ei_ (k))), u31, u32], [.int (ei_ (s))], m)) rfl ?_
            refine pw_iret rfl rfl rfl ?_
            exact k0 s m (by unfold sd_; rw [if_pos (by omega), ← show k = vi_ m0 1 1 by omega]; exact hv) (p4)
          · refine pw_steps 2 (s' := (31, [some (.ref 47), some (.int (ei_ (a))), some (.int (ei_ (s))), some (.int (ei_ (k))), some (.int (ei_ (0))), u32], [], m)) rfl ?_
            have L41 : ∀ (n39 : Nat) (s2 : Int) (k2 : Int) (u38 : Option Value), (vi_ m0 1 1 - k2).toNat = n39 → (0 ≤ k2 ∧ k2 ≤ vi_ m0 1 1 ∧ s ≤ s2 ∧ s2 ≤ s + 9999 * k2) → (s2 = s + su_ (tm_ m0 a k) k2.toNat) → pw_V q (d + 59) iX9_debt.2.2.2.1 tX9_debt Q (31, [some (.ref 47), some (.int (ei_ (a))), some (.int (ei_ (s2))), some (.int (ei_ (k))), some (.int (ei_ (k2))), u38], [], m) := by
              intro n39
              induction n39 using Nat.strongRecOn with
              | _ n39 ih40 =>
                intro s2 k2 u38 hm_n39 v42 hw
                refine pw_steps 2 (s' := (34, [some (.ref 47), some (.int (ei_ (a))), some (.int (ei_ (s2))), some (.int (ei_ (k))), some (.int (ei_ (k2))), u38], [.ref 47, .int (ei_ (k2))], m)) rfl ?_
                refine pw_getE (x := x26) rfl rfl ox26 ?_
                refine pw_cmp rfl (by omega) ⟨rx26, sx26⟩ (fun (h43 : x26 ≤ k2) => ?_) (fun (h43 : ¬ (x26 ≤ k2)) => ?_)
                · refine pw_steps 2 (s' := (20, [some (.ref 47), some (.int (ei_ (a))), some (.int (ei_ (s2))), some (.int ((ei_ (k)) + (ei_ (1)))), some (.int (ei_ (k2))), u38], [], m)) rfl ?_
                  refine pw_cv (congrArg (fun z_ : Int32 => ((20, [some (.ref 47), some (.int (ei_ (a))), some (.int (ei_ (s2))), some (.int z_), some (.int (ei_ (k2))), u38], [], m) : am_S)) (ei_add rfl rfl)) ?_
                  exact ih34 _ (by omega) s2 (k + 1) (some (.int (ei_ (k2)))) u38 rfl (by omega) (by rw [su_s (by omega), ← hv]; unfold td_; rw [← show k2 = vi_ m0 1 1 by omega]; omega)
                · refine pw_steps 2 (s' := (42, [some (.ref 47), some (.int (ei_ (a))), some (.int (ei_ (s2))), some (.int (ei_ (k))), some (.int (ei_ (k2))), u38], [.int (ei_ (k)), .ref 47], m)) rfl ?_
                  refine pw_call (As := [.int (ei_ (k))]) (st := []) (k := 47) rfl rfl rfl rfl rfl (Nat.le_of_ble_eq_true rfl) ?_
                  refine pw_intro (I := iX9_isHome) (T := tX9_isHome) rfl rfl rfl ?_
                  refine pw_steps 3 (s' := (5, [some (.ref 47), some (.int (ei_ (k)))], [.int (ei_ (k)), .ref 52], m)) rfl ?_
                  refine pw_ild rfl rfl (by omega) (fun x44 (hx44 : x44 = vi_ m 52 k) rx44 sx44 => ?_)
                  have ox44 := hx44
                  replace hx44 : x44 = vi_ m0 52 k := hx44.trans (sm_v p4 rfl)
                  have b45 := hmw k (by omega) (by omega)
                  have b45b := (p1.2.2.1 k (by omega) (by omega)).1
                  refine pw_steps 1 (s' := (7, [some (.ref 47), some (.int (ei_ (k)))], [.int (ei_ (k)), .int (ei_ (x44))], m)) rfl ?_
                  refine pw_cmp rfl ⟨rx44, sx44⟩ (by omega) (fun (h46 : ¬ x44 = k) => ?_) (fun (h46 : ¬ ¬ x44 = k) => ?_)
                  · refine pw_steps 1 (s' := (15, [some (.ref 47), some (.int (ei_ (k)))], [.int (ei_ (0))], m)) rfl ?_
                    refine pw_iret rfl rfl rfl ?_
                    refine pw_ifT rfl (by decide) (show 0 = 0 by decide) ?_
                    refine pw_steps 4 (s' := (66, [some (.ref 47), some (.int (ei_ (a))), some (.int (ei_ (s2))), some (.int (ei_ (k))), some (.int (ei_ (k2))), some (.int (ei_ (0)))], [.int (ei_ (a)), .int (ei_ (s2))], m)) rfl ?_
                    refine pw_ifT rfl p5 (show 0 ≤ a by omega) ?_
                    refine pw_steps 2 (s' := (76, [some (.ref 47), some (.int (ei_ (a))), some (.int (ei_ (s2))), some (.int (ei_ (k))), some (.int (ei_ (k2))), some (.int (ei_ (0)))], [.int (ei_ (k)), .int (ei_ (a)), .int (ei_ (s2))], m)) rfl ?_
                    refine pw_cmp rfl p5 (by omega) (fun (h47 : ¬ a = k) => ?_) (fun (h47 : ¬ ¬ a = k) => ?_)
                    · refine pw_steps 5 (s' := (31, [some (.ref 47), some (.int (ei_ (a))), some (.int ((ei_ (s2)) + (ei_ (0)))), some (.int (ei_ (k))), some (.int ((ei_ (k2)) + (ei_ (1)))), some (.int (ei_ (0)))], [], m)) rfl ?_
                      refine pw_cv (congrArg (fun z_ : Int32 => ((31, [some (.ref 47), some (.int (ei_ (a))), some (.int z_), some (.int (ei_ (k))), some (.int ((ei_ (k2)) + (ei_ (1)))), some (.int (ei_ (0)))], [], m) : am_S)) (ei_add rfl rfl)) ?_
                      refine pw_cv (congrArg (fun z_ : Int32 => ((31, [some (.ref 47), some (.int (ei_ (a))), some (.int (ei_ ((s2 + 0)))), some (.int (ei_ (k))), some (.int z_), some (.int (ei_ (0)))], [], m) : am_S)) (ei_add rfl rfl)) ?_
                      exact ih40 _ (by omega) (s2 + 0) (k2 + 1) (some (.int (ei_ (0)))) rfl (by omega) (by rw [su_s (by omega)]; have e_ : tm_ m0 a k k2 = (s2 + 0) - s2 := (by unfold tm_; first | (rw [if_neg (by omega)]; omega) | (rw [if_pos (by omega)]; first | omega | (have i_ : 8 * k + k2 = k * 8 + k2 := (by omega); rw [i_]; omega))); omega)
                    · refine pw_steps 1 (s' := (81, [some (.ref 47), some (.int (ei_ (a))), some (.int (ei_ (s2))), some (.int (ei_ (k))), some (.int (ei_ (k2))), some (.int (ei_ (0)))], [.int (ei_ (0)), .int (ei_ (s2))], m)) rfl ?_
                      refine pw_ifT rfl (by decide) (show 0 = 0 by decide) ?_
                      refine pw_steps 5 (s' := (31, [some (.ref 47), some (.int (ei_ (a))), some (.int ((ei_ (s2)) + (ei_ (0)))), some (.int (ei_ (k))), some (.int ((ei_ (k2)) + (ei_ (1)))), some (.int (ei_ (0)))], [], m)) rfl ?_
                      refine pw_cv (congrArg (fun z_ : Int32 => ((31, [some (.ref 47), some (.int (ei_ (a))), some (.int z_), some (.int (ei_ (k))), some (.int ((ei_ (k2)) + (ei_ (1)))), some (.int (ei_ (0)))], [], m) : am_S)) (ei_add rfl rfl)) ?_
                      refine pw_cv (congrArg (fun z_ : Int32 => ((31, [some (.ref 47), some (.int (ei_ (a))), some (.int (ei_ ((s2 + 0)))), some (.int (ei_ (k))), some (.int z_), some (.int (ei_ (0)))], [], m) : am_S)) (ei_add rfl rfl)) ?_
                      exact ih40 _ (by omega) (s2 + 0) (k2 + 1) (some (.int (ei_ (0)))) rfl (by omega) (by rw [su_s (by omega)]; have e_ : tm_ m0 a k k2 = (s2 + 0) - s2 := (by unfold tm_; first | (rw [if_neg (by omega)]; omega) | (rw [if_pos (by omega)]; first | omega | (have i_ : 8 * k + k2 = k * 8 + k2 := (by omega); rw [i_]; omega))); omega)
                  · refine pw_steps 2 (s' := (15, [some (.ref 47), some (.int (ei_ (k)))], [.int (ei_ (1))], m)) rfl ?_
                    refine pw_iret rfl rfl rfl ?_
                    refine pw_ifF rfl (by decide) (show ¬ (1 = 0) by decide) ?_
                    refine pw_steps 2 (s' := (51, [some (.ref 47), some (.int (ei_ (a))), some (.int (ei_ (s2))), some (.int (ei_ (k))), some (.int (ei_ (k2))), u38], [.int (ei_ (k2)), .ref 47], m)) rfl ?_
                    refine pw_call (As := [.int (ei_ (k2))]) (st := []) (k := 47) rfl rfl rfl rfl rfl (Nat.le_of_ble_eq_true rfl) ?_
                    refine pw_intro (I := iX9_isHome) (T := tX9_isHome) rfl rfl rfl ?_
                    refine pw_steps 3 (s' := (5, [some (.ref 47), some (.int (ei_ (k2)))], [.int (ei_ (k2)), .ref 52], m)) rfl ?_
                    refine pw_ild rfl rfl (by omega) (fun x48 (hx48 : x48 = vi_ m 52 k2) rx48 sx48 => ?_)
                    have ox48 := hx48
                    replace hx48 : x48 = vi_ m0 52 k2 := hx48.trans (sm_v p4 rfl)
                    have b49 := hmw k2 (by omega) (by omega)
                    have b49b := (p1.2.2.1 k2 (by omega) (by omega)).1
                    refine pw_steps 1 (s' := (7, [some (.ref 47), some (.int (ei_ (k2)))], [.int (ei_ (k2)), .int (ei_ (x48))], m)) rfl ?_
                    refine pw_cmp rfl ⟨rx48, sx48⟩ (by omega) (fun (h50 : ¬ x48 = k2) => ?_) (fun (h50 : ¬ ¬ x48 = k2) => ?_)
                    · refine pw_steps 1 (s' := (15, [some (.ref 47), some (.int (ei_ (k2)))], [.int (ei_ (0))], m)) rfl ?_
                      refine pw_iret rfl rfl rfl ?_
                      refine pw_ifT rfl (by decide) (show 0 = 0 by decide) ?_
                      refine pw_steps 4 (s' := (66, [some (.ref 47), some (.int (ei_ (a))), some (.int (ei_ (s2))), some (.int (ei_ (k))), some (.int (ei_ (k2))), some (.int (ei_ (0)))], [.int (ei_ (a)), .int (ei_ (s2))], m)) rfl ?_
                      refine pw_ifT rfl p5 (show 0 ≤ a by omega) ?_
                      refine pw_steps 2 (s' := (76, [some (.ref 47), some (.int (ei_ (a))), some (.int (ei_ (s2))), some (.int (ei_ (k))), some (.int (ei_ (k2))), some (.int (ei_ (0)))], [.int (ei_ (k)), .int (ei_ (a)), .int (ei_ (s2))], m)) rfl ?_
                      refine pw_cmp rfl p5 (by omega) (fun (h51 : ¬ a = k) => ?_) (fun (h51 : ¬ ¬ a = k) => ?_)
                      · refine pw_steps 5 (s' := (31, [some (.ref 47), some (.int (ei_ (a))), some (.int ((ei_ (s2)) + (ei_ (0)))), some (.int (ei_ (k))), some (.int ((ei_ (k2)) + (ei_ (1)))), some (.int (ei_ (0)))], [], m)) rfl ?_
                        refine pw_cv (congrArg (fun z_ : Int32 => ((31, [some (.ref 47), some (.int (ei_ (a))), some (.int z_), some (.int (ei_ (k))), some (.int ((ei_ (k2)) + (ei_ (1)))), some (.int (ei_ (0)))], [], m) : am_S)) (ei_add rfl rfl)) ?_
                        refine pw_cv (congrArg (fun z_ : Int32 => ((31, [some (.ref 47), some (.int (ei_ (a))), some (.int (ei_ ((s2 + 0)))), some (.int (ei_ (k))), some (.int z_), some (.int (ei_ (0)))], [], m) : am_S)) (ei_add rfl rfl)) ?_
                        exact ih40 _ (by omega) (s2 + 0) (k2 + 1) (some (.int (ei_ (0)))) rfl (by omega) (by rw [su_s (by omega)]; have e_ : tm_ m0 a k k2 = (s2 + 0) - s2 := (by unfold tm_; first | (rw [if_neg (by omega)]; omega) | (rw [if_pos (by omega)]; first | omega | (have i_ : 8 * k + k2 = k * 8 + k2 := (by omega); rw [i_]; omega))); omega)
                      · refine pw_steps 1 (s' := (81, [some (.ref 47), some (.int (ei_ (a))), some (.int (ei_ (s2))), some (.int (ei_ (k))), some (.int (ei_ (k2))), some (.int (ei_ (0)))], [.int (ei_ (0)), .int (ei_ (s2))], m)) rfl ?_
                        refine pw_ifT rfl (by decide) (show 0 = 0 by decide) ?_
                        refine pw_steps 5 (s' := (31, [some (.ref 47), some (.int (ei_ (a))), some (.int ((ei_ (s2)) + (ei_ (0)))), some (.int (ei_ (k))), some (.int ((ei_ (k2)) + (ei_ (1)))), some (.int (ei_ (0)))], [], m)) rfl ?_
                        refine pw_cv (congrArg (fun z_ : Int32 => ((31, [some (.ref 47), some (.int (ei_ (a))), some (.int z_), some (.int (ei_ (k))), some (.int ((ei_ (k2)) + (ei_ (1)))), some (.int (ei_ (0)))], [], m) : am_S)) (ei_add rfl rfl)) ?_
                        refine pw_cv (congrArg (fun z_ : Int32 => ((31, [some (.ref 47), some (.int (ei_ (a))), some (.int (ei_ ((s2 + 0)))), some (.int (ei_ (k))), some (.int z_), some (.int (ei_ (0)))], [], m) : am_S)) (ei_add rfl rfl)) ?_
                        exact ih40 _ (by omega) (s2 + 0) (k2 + 1) (some (.int (ei_ (0)))) rfl (by omega) (by rw [su_s (by omega)]; have e_ : tm_ m0 a k k2 = (s2 + 0) - s2 := (by unfold tm_; first | (rw [if_neg (by omega)]; omega) | (rw [if_pos (by omega)]; first | omega | (have i_ : 8 * k + k2 = k * 8 + k2 := (by omega); rw [i_]; omega))); omega)
                    · refine pw_steps 2 (s' := (15, [some (.ref 47), some (.int (ei_ (k2)))], [.int (ei_ (1))], m)) rfl ?_
                      refine pw_iret rfl rfl rfl ?_
                      refine pw_ifF rfl (by decide) (show ¬ (1 = 0) by decide) ?_
                      refine pw_steps 5 (s' := (66, [some (.ref 47), some (.int (ei_ (a))), some (.int (ei_ (s2))), some (.int (ei_ (k))), some (.int (ei_ (k2))), some (.int (ei_ (1)))], [.int (ei_ (a)), .int (ei_ (s2))], m)) rfl ?_
                      refine pw_ifT rfl p5 (show 0 ≤ a by omega) ?_
                      refine pw_steps 2 (s' := (76, [some (.ref 47), some (.int (ei_ (a))), some (.int (ei_ (s2))), some (.int (ei_ (k))), some (.int (ei_ (k2))), some (.int (ei_ (1)))], [.int (ei_ (k)), .int (ei_ (a)), .int (ei_ (s2))], m)) rfl ?_
                      refine pw_cmp rfl p5 (by omega) (fun (h52 : ¬ a = k) => ?_) (fun (h52 : ¬ ¬ a = k) => ?_)
                      · refine pw_steps 5 (s' := (31, [some (.ref 47), some (.int (ei_ (a))), some (.int ((ei_ (s2)) + (ei_ (0)))), some (.int (ei_ (k))), some (.int ((ei_ (k2)) + (ei_ (1)))), some (.int (ei_ (1)))], [], m)) rfl ?_
                        refine pw_cv (congrArg (fun z_ : Int32 => ((31, [some (.ref 47), some (.int (ei_ (a))), some (.int z_), some (.int (ei_ (k))), some (.int ((ei_ (k2)) + (ei_ (1)))), some (.int (ei_ (1)))], [], m) : am_S)) (ei_add rfl rfl)) ?_
                        refine pw_cv (congrArg (fun z_ : Int32 => ((31, [some (.ref 47), some (.int (ei_ (a))), some (.int (ei_ ((s2 + 0)))), some (.int (ei_ (k))), some (.int z_), some (.int (ei_ (1)))], [], m) : am_S)) (ei_add rfl rfl)) ?_
                        exact ih40 _ (by omega) (s2 + 0) (k2 + 1) (some (.int (ei_ (1)))) rfl (by omega) (by rw [su_s (by omega)]; have e_ : tm_ m0 a k k2 = (s2 + 0) - s2 := (by unfold tm_; first | (rw [if_neg (by omega)]; omega) | (rw [if_pos (by omega)]; first | omega | (have i_ : 8 * k + k2 = k * 8 + k2 := (by omega); rw [i_]; omega))); omega)
                      · refine pw_steps 1 (s' := (81, [some (.ref 47), some (.int (ei_ (a))), some (.int (ei_ (s2))), some (.int (ei_ (k))), some (.int (ei_ (k2))), some (.int (ei_ (1)))], [.int (ei_ (1)), .int (ei_ (s2))], m)) rfl ?_
                        refine pw_ifF rfl (by decide) (show ¬ (1 = 0) by decide) ?_
                        refine pw_steps 7 (s' := (95, [some (.ref 47), some (.int (ei_ (a))), some (.int (ei_ (s2))), some (.int (ei_ (k))), some (.int (ei_ (k2))), some (.int (ei_ (1)))], [.int (((ei_ (8)) * (ei_ (k))) + (ei_ (k2))), .ref 61, .int (ei_ (s2))], m)) rfl ?_
                        refine pw_cv (congrArg (fun z_ : Int32 => ((95, [some (.ref 47), some (.int (ei_ (a))), some (.int (ei_ (s2))), some (.int (ei_ (k))), some (.int (ei_ (k2))), some (.int (ei_ (1)))], [.int z_, .ref 61, .int (ei_ (s2))], m) : am_S)) (ei_add (ei_mul rfl rfl) rfl)) ?_
                        refine pw_ild rfl rfl (by omega) (fun x53 (hx53 : x53 = vi_ m 61 ((8 * k) + k2)) rx53 sx53 => ?_)
                        have ox53 := hx53
                        replace hx53 : x53 = vi_ m0 61 ((8 * k) + k2) := hx53.trans (sm_v p4 rfl)
                        have b54 := p1.2.2.2.1 ((8 * k) + k2) (by omega) (by omega)
                        rw [b54.1] at hx53
                        refine pw_steps 5 (s' := (31, [some (.ref 47), some (.int (ei_ (a))), some (.int ((ei_ (s2)) + (ei_ (x53)))), some (.int (ei_ (k))), some (.int ((ei_ (k2)) + (ei_ (1)))), some (.int (ei_ (1)))], [], m)) rfl ?_
                        refine pw_cv (congrArg (fun z_ : Int32 => ((31, [some (.ref 47), some (.int (ei_ (a))), some (.int z_), some (.int (ei_ (k))), some (.int ((ei_ (k2)) + (ei_ (1)))), some (.int (ei_ (1)))], [], m) : am_S)) (ei_add rfl rfl)) ?_
                        refine pw_cv (congrArg (fun z_ : Int32 => ((31, [some (.ref 47), some (.int (ei_ (a))), some (.int (ei_ ((s2 + x53)))), some (.int (ei_ (k))), some (.int z_), some (.int (ei_ (1)))], [], m) : am_S)) (ei_add rfl rfl)) ?_
                        exact ih40 _ (by omega) (s2 + x53) (k2 + 1) (some (.int (ei_ (1)))) rfl (by omega) (by rw [su_s (by omega)]; have e_ : tm_ m0 a k k2 = (s2 + x53) - s2 := (by unfold tm_; first | (rw [if_neg (by omega)]; omega) | (rw [if_pos (by omega)]; first | omega | (have i_ : 8 * k + k2 = k * 8 + k2 := (by omega); rw [i_]; omega))); omega)
            exact L41 _ s 0 u32 rfl (by omega) (by simp [su_])
      exact L35 _ 0 0 none none rfl (by omega) (by rfl)
    · refine pw_iret rfl rfl rfl ?_
      refine pw_ifF rfl (by decide) (show ¬ (¬ 0 = 0) by decide) ?_
      refine pw_steps 1 (s' := (15, [some (.ref 47), some (.int (ei_ (a))), none, none, none, none], [.int (ei_ ((-1)))], m)) rfl ?_
      refine pw_iret rfl rfl rfl ?_
      exact k0 (-1) m (by unfold sd_; rw [if_neg (by omega)]) (p4)
    · refine pw_iret rfl rfl rfl ?_
      refine pw_ifF rfl (by decide) (show ¬ (¬ 0 = 0) by decide) ?_
      refine pw_steps 1 (s' := (15, [some (.ref 47), some (.int (ei_ (a))), none, none, none, none], [.int (ei_ ((-1)))], m)) rfl ?_
      refine pw_iret rfl rfl rfl ?_
      exact k0 (-1) m (by unfold sd_; rw [if_neg (by omega)]) (p4)

theorem op_debt {q : am_X} {d : Nat} {m : am_M} {a : Int} (q0 : -2147483648 ≤ a ∧ a < 2147483648) (hR : rR_ m) : pw_C q (d + 60) 95 [.ref 0, .int (ei_ a)] m (fun r1 m1 => pw_C q (d + 60) 230 [.ref 47, .int (ei_ a)] m1 (fun r2 m2 => ∃ x : Int, r1 = some (.int (ei_ x)) ∧ r2 = some (.int (ei_ x)) ∧ rR_ m2)) := by
  obtain ⟨hp, hd, hi, ht, hl, hz, hc, ha, hs⟩ := id hR
  refine cs_debt hp hd hz hl (sm_rfl m) q0 (fun x m1 e1 g1 => ?_)
  refine ms_debt hp hd hz hl g1 q0 (fun y m2 e2 g2 => ?_)
  exact ⟨x, rfl, by rw [e2, ← e1], rR_sm g2 hR⟩

