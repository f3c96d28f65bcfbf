
theorem su_ext {f : Int → Int} {P : Int} (h0 : 0 ≤ P) (hP : P ≤ 8) (h : ∀ j, P ≤ j → j < 8 → f j = 0) : su_ f 8 = su_ f P.toNat := by
  have : ∀ (i : Nat), P.toNat + i ≤ 8 → su_ f (P.toNat + i) = su_ f P.toNat := by
    intro i
    induction i with
    | zero => intro _; rfl
    | succ i ih =>
      intro hi
      rw [show P.toNat + (i + 1) = (P.toNat + i) + 1 by omega]
      simp only [su_]
      rw [ih (by omega), h ((P.toNat + i : Nat) : Int) (by omega) (by omega)]
      omega
  have e := this (8 - P.toNat) (by omega)
  rwa [show P.toNat + (8 - P.toNat) = 8 by omega] at e
theorem su_mc {m : am_M} (hp : rP_ m) (hd : rD_ m) : su_ (fun j => if vi_ m 52 j = j then 0 else 1) (vi_ m 1 1).toNat = su_ (fun j => if vi_ m 4 j = j then 0 else 1) 8 := by
  rw [su_ext (f := fun j => if vi_ m 4 j = j then 0 else 1) hp.1.1 hp.1.2 (fun j a b => if_pos ((hd.1 j (by have := hp.1; omega) b).2.2.2 a))]
  exact su_cg _ (fun j a b => by rw [(hd.2.2.1 j a (by have := hp.1; omega)).1])

theorem cw_wearer2 {q : am_X} {d : Nat} {m0 m : am_M} {Q : Option Value → am_M → Prop} {name : Int} (p0 : sm_ pSc m0 m) (p1 : 0 ≤ name ∧ name < 8) (k0 : ∀ x : Int, x = vi_ m0 4 name → (-2147483648 ≤ x ∧ x < 2147483648) → Q (some (.int (ei_ x))) m) : pw_C q (d + 2) 20 [.ref 3, .int (ei_ name)] m Q := cw_wearer p0 p1 (fun x hx => k0 x hx (by rw [hx]; exact vi_r _ _ _))

theorem cw_leftOf2 {q : am_X} {d : Nat} {m0 m : am_M} {Q : Option Value → am_M → Prop} {name : Int} (p0 : sm_ pSc m0 m) (p1 : 0 ≤ name ∧ name < 8) (k0 : ∀ x : Int, x = vi_ m0 5 name → (-2147483648 ≤ x ∧ x < 2147483648) → Q (some (.int (ei_ x))) m) : pw_C q (d + 2) 22 [.ref 3, .int (ei_ name)] m Q := cw_leftOf p0 p1 (fun x hx => k0 x hx (by rw [hx]; exact vi_r _ _ _))

set_option maxHeartbeats 4000000 in
set_option maxRecDepth 20000 in
theorem cw_given {q : am_X} {d : Nat} {m : am_M} {Q : Option Value → am_M → Prop} {m0 : am_M}  (p0 : sm_ pSc m0 m) (k0 : ∀ (x : Int), (x = su_ (fun j => if vi_ m0 4 j = j then 0 else 1) 8) → (0 ≤ x ∧ x ≤ 8) → Q (some (.int (ei_ (x)))) m) : pw_C q (d + 1) 169 [.ref 3] m Q := by
  refine pw_intro (I := iX2_given) (T := tX2_given) rfl rfl rfl ?_
  refine pw_steps 4 (s' := (4, [some (.ref 3), some (.int (ei_ (0))), some (.int (ei_ (0)))], [], m)) rfl ?_
  have L3 : ∀ (n1 : Nat) (w : Int) (k : Int), (8 - k).toNat = n1 → (0 ≤ k ∧ k ≤ 8 ∧ 0 ≤ w ∧ w ≤ k) → (w = su_ (fun j => if vi_ m0 4 j = j then 0 else 1) k.toNat) → pw_V q (d) iX2_given.2.2.2.1 tX2_given Q (4, [some (.ref 3), some (.int (ei_ (w))), some (.int (ei_ (k)))], [], m) := by
    intro n1
    induction n1 using Nat.strongRecOn with
    | _ n1 ih2 =>
      intro w k hm_n1 v4 hv
      refine pw_steps 2 (s' := (7, [some (.ref 3), some (.int (ei_ (w))), some (.int (ei_ (k)))], [.int (ei_ (8)), .int (ei_ (k))], m)) rfl ?_
      refine pw_cmp rfl (by omega) (by decide) (fun (h5 : 8 ≤ k) => ?_) (fun (h5 : ¬ (8 ≤ k)) => ?_)
      · refine pw_steps 1 (s' := (35, [some (.ref 3), some (.int (ei_ (w))), some (.int (ei_ (k)))], [.int (ei_ (w))], m)) rfl ?_
        refine pw_iret rfl rfl rfl ?_
        exact k0 w (by have e_ : k = 8 := (by omega); subst e_; exact hv) (by omega)
      · refine pw_steps 4 (s' := (16, [some (.ref 3), some (.int (ei_ (w))), some (.int (ei_ (k)))], [.int (ei_ (k)), .ref 4, .int (ei_ (w))], m)) rfl ?_
        refine pw_ild rfl rfl (by omega) (fun x6 (hx6 : x6 = vi_ m 4 k) rx6 sx6 => ?_)
        have ox6 := hx6
        replace hx6 : x6 = vi_ m0 4 k := hx6.trans (sm_v p0 rfl)
        refine pw_steps 1 (s' := (18, [some (.ref 3), some (.int (ei_ (w))), some (.int (ei_ (k)))], [.int (ei_ (k)), .int (ei_ (x6)), .int (ei_ (w))], m)) rfl ?_
        refine pw_cmp rfl ⟨rx6, sx6⟩ (by omega) (fun (h7 : x6 = k) => ?_) (fun (h7 : ¬ (x6 = k)) => ?_)
        · refine pw_steps 5 (s' := (4, [some (.ref 3), some (.int ((ei_ (w)) + (ei_ (0)))), some (.int ((ei_ (k)) + (ei_ (1))))], [], m)) rfl ?_
          refine pw_cv (congrArg (fun z_ : Int32 => ((4, [some (.ref 3), some (.int z_), some (.int ((ei_ (k)) + (ei_ (1))))], [], m) : am_S)) (ei_add rfl rfl)) ?_
          refine pw_cv (congrArg (fun z_ : Int32 => ((4, [some (.ref 3), some (.int (ei_ ((w + 0)))), some (.int z_)], [], m) : am_S)) (ei_add rfl rfl)) ?_
          exact ih2 _ (by omega) (w + 0) (k + 1) rfl (by omega) (by rw [su_s (by omega), ← hv]; first | (rw [if_pos (by omega)]; done) | (rw [if_neg (by omega)]; done) | (rw [if_pos (by omega)]; omega))
        · refine pw_steps 6 (s' := (4, [some (.ref 3), some (.int ((ei_ (w)) + (ei_ (1)))), some (.int ((ei_ (k)) + (ei_ (1))))], [], m)) rfl ?_
          refine pw_cv (congrArg (fun z_ : Int32 => ((4, [some (.ref 3), some (.int z_), some (.int ((ei_ (k)) + (ei_ (1))))], [], m) : am_S)) (ei_add rfl rfl)) ?_
          refine pw_cv (congrArg (fun z_ : Int32 => ((4, [some (.ref 3), some (.int (ei_ ((w + 1)))), some (.int z_)], [], m) : am_S)) (ei_add rfl rfl)) ?_
          exact ih2 _ (by omega) (w + 1) (k + 1) rfl (by omega) (by rw [su_s (by omega), ← hv]; first | (rw [if_pos (by omega)]; done) | (rw [if_neg (by omega)]; done) | (rw [if_pos (by omega)]; omega))
  exact L3 _ 0 0 rfl (by omega) (by rfl)

set_option maxHeartbeats 4000000 in
set_option maxRecDepth 20000 in
theorem mw_given {q : am_X} {d : Nat} {m : am_M} {Q : Option Value → am_M → Prop} {m0 : am_M}  (p0 : rP_ m0) (p1 : sm_ pSc m0 m) (k0 : ∀ (x : Int), (x = su_ (fun j => if vi_ m0 52 j = j then 0 else 1) (vi_ m0 1 1).toNat) → (0 ≤ x ∧ x ≤ 8) → Q (some (.int (ei_ (x)))) m) : pw_C q (d + 3) 264 [.ref 47] m Q := by
  obtain ⟨hP1, hP2, hP3, hP4⟩ := id p0
  refine pw_intro (I := iX9_givenMany) (T := tX9_givenMany) rfl rfl rfl ?_
  refine pw_steps 4 (s' := (4, [some (.ref 47), some (.int (ei_ (0))), some (.int (ei_ (0)))], [], m)) rfl ?_
  have L3 : ∀ (n1 : Nat) (w : Int) (k : Int), (vi_ m0 1 1 - k).toNat = n1 → (0 ≤ k ∧ k ≤ vi_ m0 1 1 ∧ 0 ≤ w ∧ w ≤ k) → (w = su_ (fun j => if vi_ m0 52 j = j then 0 else 1) k.toNat) → pw_V q (d + 2) iX9_givenMany.2.2.2.1 tX9_givenMany Q (4, [some (.ref 47), some (.int (ei_ (w))), some (.int (ei_ (k)))], [], m) := by
    intro n1
    induction n1 using Nat.strongRecOn with
    | _ n1 ih2 =>
      intro w k hm_n1 v4 hv
      refine pw_steps 2 (s' := (6, [some (.ref 47), some (.int (ei_ (w))), some (.int (ei_ (k)))], [.ref 47, .int (ei_ (k))], m)) rfl ?_
      refine pw_get rfl rfl (fun x5 (hx5 : x5 = vi_ m 47 6) rx5 sx5 => ?_)
      have ox5 := hx5
      replace hx5 : x5 = vi_ m0 47 6 := hx5.trans (sm_v p1 rfl)
      refine pw_cmp rfl (by omega) ⟨rx5, sx5⟩ (fun (h6 : x5 ≤ k) => ?_) (fun (h6 : ¬ (x5 ≤ k)) => ?_)
      · refine pw_steps 1 (s' := (35, [some (.ref 47), some (.int (ei_ (w))), some (.int (ei_ (k)))], [.int (ei_ (w))], m)) rfl ?_
        refine pw_iret rfl rfl rfl ?_
        exact k0 w (by rw [← show k = vi_ m0 1 1 by omega]; exact hv) (by omega)
      · refine pw_steps 3 (s' := (15, [some (.ref 47), some (.int (ei_ (w))), some (.int (ei_ (k)))], [.int (ei_ (k)), .ref 47, .int (ei_ (w))], m)) rfl ?_
        refine pw_call (As := [.int (ei_ (k))]) (st := [.int (ei_ (w))]) (k := 47) rfl rfl rfl rfl rfl (Nat.le_of_ble_eq_true rfl) ?_
        refine pw_intro (I := iX9_isHome) (T := tX9_isHome) rfl rfl rfl ?_
        refine pw_steps 3 (s' := (5, [some (.ref 47), some (.int (ei_ (k)))], [.int (ei_ (k)), .ref 52], m)) rfl ?_
        refine pw_ild rfl rfl (by omega) (fun x7 (hx7 : x7 = vi_ m 52 k) rx7 sx7 => ?_)
        have ox7 := hx7
        replace hx7 : x7 = vi_ m0 52 k := hx7.trans (sm_v p1 rfl)
        refine pw_steps 1 (s' := (7, [some (.ref 47), some (.int (ei_ (k)))], [.int (ei_ (k)), .int (ei_ (x7))], m)) rfl ?_
        refine pw_cmp rfl ⟨rx7, sx7⟩ (by omega) (fun (h8 : ¬ x7 = k) => ?_) (fun (h8 : ¬ ¬ x7 = k) => ?_)
        · refine pw_steps 1 (s' := (15, [some (.ref 47), some (.int (ei_ (k)))], [.int (ei_ (0))], m)) rfl ?_
          refine pw_iret rfl rfl rfl ?_
          refine pw_ifT rfl (by decide) (show 0 = 0 by decide) ?_
          refine pw_steps 5 (s' := (4, [some (.ref 47), some (.int ((ei_ (w)) + (ei_ (1)))), some (.int ((ei_ (k)) + (ei_ (1))))], [], m)) rfl ?_
          refine pw_cv (congrArg (fun z_ : Int32 => ((4, [some (.ref 47), some (.int z_), some (.int ((ei_ (k)) + (ei_ (1))))], [], m) : am_S)) (ei_add rfl rfl)) ?_
          refine pw_cv (congrArg (fun z_ : Int32 => ((4, [some (.ref 47), some (.int (ei_ ((w + 1)))), some (.int z_)], [], m) : am_S)) (ei_add rfl rfl)) ?_
          exact ih2 _ (by omega) (w + 1) (k + 1) rfl (by omega) (by rw [su_s (by omega), ← hv]; first | (rw [if_pos (by omega)]; done) | (rw [if_neg (by omega)]; done) | (rw [if_pos (by omega)]; omega))
        · refine pw_steps 2 (s' := (15, [some (.ref 47), some (.int (ei_ (k)))], [.int (ei_ (1))], m)) rfl ?_
          refine pw_iret rfl rfl rfl ?_
          refine pw_ifF rfl (by decide) (show ¬ (1 = 0) by decide) ?_
          refine pw_steps 6 (s' := (4, [some (.ref 47), some (.int ((ei_ (w)) + (ei_ (0)))), some (.int ((ei_ (k)) + (ei_ (1))))], [], m)) rfl ?_
          refine pw_cv (congrArg (fun z_ : Int32 => ((4, [some (.ref 47), some (.int z_), some (.int ((ei_ (k)) + (ei_ (1))))], [], m) : am_S)) (ei_add rfl rfl)) ?_
          refine pw_cv (congrArg (fun z_ : Int32 => ((4, [some (.ref 47), some (.int (ei_ ((w + 0)))), some (.int z_)], [], m) : am_S)) (ei_add rfl rfl)) ?_
          exact ih2 _ (by omega) (w + 0) (k + 1) rfl (by omega) (by rw [su_s (by omega), ← hv]; first | (rw [if_pos (by omega)]; done) | (rw [if_neg (by omega)]; done) | (rw [if_pos (by omega)]; omega))
  exact L3 _ 0 0 rfl (by omega) (by rfl)

set_option maxHeartbeats 4000000 in
set_option maxRecDepth 20000 in
theorem cw_burntNow {q : am_X} {d : Nat} {m : am_M} {Q : Option Value → am_M → Prop} {m0 : am_M}  (p0 : rP_ m0) (p1 : sm_ pSc m0 m) (k0 : ∀ (x : Int), (x = cn_ (vi_ m0 5) 0 (vi_ m0 1 1).toNat) → (0 ≤ x ∧ x ≤ 8) → Q (some (.int (ei_ (x)))) m) : pw_C q (d + 4) 122 [.ref 0] m Q := by
  obtain ⟨hP1, hP2, hP3, hP4⟩ := id p0
  refine pw_intro (I := iX8_burntNow) (T := tX8_burntNow) rfl rfl rfl ?_
  refine pw_steps 4 (s' := (4, [some (.ref 0), some (.int (ei_ (0))), some (.int (ei_ (0)))], [], m)) rfl ?_
  have L3 : ∀ (n1 : Nat) (w : Int) (k : Int), (vi_ m0 1 1 - k).toNat = n1 → (0 ≤ k ∧ k ≤ vi_ m0 1 1 ∧ 0 ≤ w ∧ w ≤ k) → (w = cn_ (vi_ m0 5) 0 k.toNat) → pw_V q (d + 3) iX8_burntNow.2.2.2.1 tX8_burntNow Q (4, [some (.ref 0), some (.int (ei_ (w))), some (.int (ei_ (k)))], [], m) := by
    intro n1
    induction n1 using Nat.strongRecOn with
    | _ n1 ih2 =>
      intro w k hm_n1 v4 hv
      refine pw_steps 3 (s' := (9, [some (.ref 0), some (.int (ei_ (w))), some (.int (ei_ (k)))], [.ref 1, .int (ei_ (k))], m)) rfl ?_
      refine pw_call (As := []) (st := [.int (ei_ (k))]) (k := 1) rfl rfl rfl rfl rfl (Nat.le_of_ble_eq_true rfl) ?_
      refine pw_intro (I := iX3_size) (T := tX3_size) rfl rfl rfl ?_
      refine pw_steps 1 (s' := (1, [some (.ref 1)], [.ref 1], m)) rfl ?_
      refine pw_get rfl rfl (fun x5 (hx5 : x5 = vi_ m 1 1) rx5 sx5 => ?_)
      have ox5 := hx5
      replace hx5 : x5 = vi_ m0 1 1 := hx5.trans (sm_v p1 rfl)
      refine pw_iret rfl rfl rfl ?_
      refine pw_cmp rfl (by omega) ⟨rx5, sx5⟩ (fun (h6 : x5 ≤ k) => ?_) (fun (h6 : ¬ (x5 ≤ k)) => ?_)
      · refine pw_steps 1 (s' := (41, [some (.ref 0), some (.int (ei_ (w))), some (.int (ei_ (k)))], [.int (ei_ (w))], m)) rfl ?_
        refine pw_iret rfl rfl rfl ?_
        exact k0 w (by rw [← show k = vi_ m0 1 1 by omega]; exact hv) (by omega)
      · refine pw_steps 4 (s' := (21, [some (.ref 0), some (.int (ei_ (w))), some (.int (ei_ (k)))], [.int (ei_ (k)), .ref 3, .int (ei_ (w))], m)) rfl ?_
        refine pw_call (As := [.int (ei_ (k))]) (st := [.int (ei_ (w))]) (k := 3) rfl rfl rfl rfl rfl (Nat.le_of_ble_eq_true rfl) ?_
        refine cw_leftOf2 (p1) (by omega) (fun x7 g8 g9 => ?_)
        refine pw_if rfl (by omega) (fun (h10 : ¬ x7 = 0) => ?_) (fun (h10 : ¬ ¬ x7 = 0) => ?_)
        · refine pw_steps 5 (s' := (4, [some (.ref 0), some (.int ((ei_ (w)) + (ei_ (0)))), some (.int ((ei_ (k)) + (ei_ (1))))], [], m)) rfl ?_
          refine pw_cv (congrArg (fun z_ : Int32 => ((4, [some (.ref 0), some (.int z_), some (.int ((ei_ (k)) + (ei_ (1))))], [], m) : am_S)) (ei_add rfl rfl)) ?_
          refine pw_cv (congrArg (fun z_ : Int32 => ((4, [some (.ref 0), some (.int (ei_ ((w + 0)))), some (.int z_)], [], m) : am_S)) (ei_add rfl rfl)) ?_
          exact ih2 _ (by omega) (w + 0) (k + 1) rfl (by omega) (by rw [cn_s (by omega), ← hv]; first | (rw [if_pos (by omega)]; done) | (rw [if_neg (by omega)]; done))
        · refine pw_steps 6 (s' := (4, [some (.ref 0), some (.int ((ei_ (w)) + (ei_ (1)))), some (.int ((ei_ (k)) + (ei_ (1))))], [], m)) rfl ?_
          refine pw_cv (congrArg (fun z_ : Int32 => ((4, [some (.ref 0), some (.int z_), some (.int ((ei_ (k)) + (ei_ (1))))], [], m) : am_S)) (ei_add rfl rfl)) ?_
          refine pw_cv (congrArg (fun z_ : Int32 => ((4, [some (.ref 0), some (.int (ei_ ((w + 1)))), some (.int z_)], [], m) : am_S)) (ei_add rfl rfl)) ?_
          exact ih2 _ (by omega) (w + 1) (k + 1) rfl (by omega) (by rw [cn_s (by omega), ← hv]; first | (rw [if_pos (by omega)]; done) | (rw [if_neg (by omega)]; done))
  exact L3 _ 0 0 rfl (by omega) (by rfl)

set_option maxHeartbeats 4000000 in
set_option maxRecDepth 20000 in
theorem op_of {q : am_X} {d : Nat} {m : am_M} {a : Int} {b : Int} (q0 : -2147483648 ≤ a ∧ a < 2147483648) (q1 : -2147483648 ≤ b ∧ b < 2147483648) (hR : rR_ m) : pw_C q (d + 60) 19 [.ref 0, .int (ei_ (a)), .int (ei_ (b))] m (fun r1 m1 => pw_C q (d + 60) 186 [.ref 47, .int (ei_ (a)), .int (ei_ (b))] m1 (fun r2 m2 => ∃ x : Int, r1 = some (.int (ei_ x)) ∧ r2 = some (.int (ei_ x)) ∧ rR_ m2)) := by
  obtain ⟨hp, hd, hi, ht, hl, hz, hc, ha, hs⟩ := id hR
  obtain ⟨hP1, hP2, hP3, hP4⟩ := id hp
  have hmw := mW_of hp hd
  have hmf := mF_of hp hd
  refine pw_intro (I := iX8_of) (T := tX8_of) rfl rfl rfl ?_
  refine pw_steps 1 (s' := (1, [some (.ref 0), some (.int (ei_ (a))), some (.int (ei_ (b)))], [.int (ei_ (b))], m)) rfl ?_
  refine pw_if rfl q1 (fun (h1 : b < 0) => ?_) (fun (h1 : ¬ (b < 0)) => ?_)
  · refine pw_steps 3 (s' := (40, [some (.ref 0), some (.int (ei_ (a))), some (.int (ei_ (b)))], [.int (ei_ (a)), .ref 1], m)) rfl ?_
    refine pw_call (As := [.int (ei_ (a))]) (st := []) (k := 1) rfl rfl rfl rfl rfl (Nat.le_of_ble_eq_true rfl) ?_
    refine pw_intro (I := iX3_has) (T := tX3_has) rfl rfl rfl ?_
    refine pw_steps 1 (s' := (1, [some (.ref 1), some (.int (ei_ (a)))], [.int (ei_ (a))], m)) rfl ?_
    refine pw_if rfl q0 (fun (h2 : a < 0) => ?_) (fun (h2 : ¬ (a < 0)) => ?_)
    · refine pw_steps 1 (s' := (17, [some (.ref 1), some (.int (ei_ (a)))], [.int (ei_ (0))], m)) rfl ?_
      refine pw_iret rfl rfl rfl ?_
      refine pw_ifF rfl (by decide) (show ¬ (¬ 0 = 0) by decide) ?_
      refine pw_steps 1 (s' := (47, [some (.ref 0), some (.int (ei_ (a))), some (.int (ei_ (b)))], [.int (ei_ ((-1)))], m)) rfl ?_
      refine pw_iret rfl rfl rfl ?_
      refine pw_intro (I := iX9_of) (T := tX9_of) rfl rfl rfl ?_
      refine pw_steps 3 (s' := (3, [some (.ref 47), some (.int (ei_ (a))), some (.int (ei_ (b))), none], [.int (ei_ (b)), .int (ei_ (a)), .ref 47], m)) rfl ?_
      refine pw_call (As := [.int (ei_ (a)), .int (ei_ (b))]) (st := []) (k := 47) rfl rfl rfl rfl rfl (Nat.le_of_ble_eq_true rfl) ?_
      refine pw_intro (I := iX9_placeOf) (T := tX9_placeOf) rfl rfl rfl ?_
      refine pw_steps 4 (s' := (6, [some (.ref 47), some (.int (ei_ (a))), some (.int (ei_ (b)))], [.long (el_ (3)), .long (el_ (0)), .long ((ei_ (b)).toInt64)], m)) rfl ?_
      refine pw_cv (congrArg (fun z_ : Int64 => ((6, [some (.ref 47), some (.int (ei_ (a))), some (.int (ei_ (b)))], [.long (el_ (3)), .long (el_ (0)), .long z_], m) : am_S)) (el_i2l q1 rfl)) ?_
      refine pw_callS (As := [.long (el_ (b)), .long (el_ (0)), .long (el_ (3))]) (st := []) rfl (by decide) rfl rfl (Nat.le_of_ble_eq_true rfl) ?_
      refine mt_within (by omega) (by omega) (by omega) (fun g3 g4 => ?_) (fun g5 => ?_) (fun g6 => ?_)
      · exact False.elim (by omega)
      · refine pw_ifT rfl (by decide) (show 0 = 0 by decide) ?_
        refine pw_steps 1 (s' := (33, [some (.ref 47), some (.int (ei_ (a))), some (.int (ei_ (b)))], [.int (ei_ (a))], m)) rfl ?_
        refine pw_ifT rfl q0 (show ¬ a = 0 by omega) ?_
        refine pw_steps 1 (s' := (60, [some (.ref 47), some (.int (ei_ (a))), some (.int (ei_ (b)))], [.int (ei_ ((-1)))], m)) rfl ?_
        refine pw_iret rfl rfl rfl ?_
        refine pw_steps 2 (s' := (8, [some (.ref 47), some (.int (ei_ (a))), some (.int (ei_ (b))), some (.int (ei_ ((-1))))], [.int (ei_ ((-1)))], m)) rfl ?_
        refine pw_ifT rfl (by decide) (show (-1) < 0 by decide) ?_
        refine pw_steps 3 (s' := (21, [some (.ref 47), some (.int (ei_ (a))), some (.int (ei_ (b))), some (.int (ei_ ((-1))))], [.long ((ei_ (a)).toInt64), .ref 47], m)) rfl ?_
        refine pw_cv (congrArg (fun z_ : Int64 => ((21, [some (.ref 47), some (.int (ei_ (a))), some (.int (ei_ (b))), some (.int (ei_ ((-1))))], [.long z_, .ref 47], m) : am_S)) (el_i2l q0 rfl)) ?_
        refine pw_call (As := [.long (el_ (a))]) (st := []) (k := 47) rfl rfl rfl rfl rfl (Nat.le_of_ble_eq_true rfl) ?_
        refine pw_intro (I := iX9_isOne) (T := tX9_isOne) rfl rfl rfl ?_
        refine pw_steps 3 (s' := (3, [some (.ref 47), some (.long (el_ (a))), none], [.ref 47, .long (el_ (0)), .long (el_ (a))], m)) rfl ?_
        refine pw_get rfl rfl (fun x7 (hx7 : x7 = vi_ m 47 6) rx7 sx7 => ?_)
        refine pw_steps 3 (s' := (9, [some (.ref 47), some (.long (el_ (a))), none], [.long (((ei_ (x7)) - (ei_ (1))).toInt64), .long (el_ (0)), .long (el_ (a))], m)) rfl ?_
        refine pw_cv (congrArg (fun z_ : Int64 => ((9, [some (.ref 47), some (.long (el_ (a))), none], [.long z_, .long (el_ (0)), .long (el_ (a))], m) : am_S)) (el_i2l (by omega) (ei_sub rfl rfl))) ?_
        refine pw_callS (As := [.long (el_ (a)), .long (el_ (0)), .long (el_ ((x7 - 1)))]) (st := []) rfl (by decide) rfl rfl (Nat.le_of_ble_eq_true rfl) ?_
        refine mt_within (by omega) (by omega) (by omega) (fun g8 g9 => ?_) (fun g10 => ?_) (fun g11 => ?_)
        · exact False.elim (by omega)
        · refine pw_iret rfl rfl rfl ?_
          refine pw_ifF rfl (by decide) (show ¬ (¬ 0 = 0) by decide) ?_
          refine pw_steps 1 (s' := (28, [some (.ref 47), some (.int (ei_ (a))), some (.int (ei_ (b))), some (.int (ei_ ((-1))))], [.int (ei_ ((-1)))], m)) rfl ?_
          refine pw_iret rfl rfl rfl ?_
          have hx_ : ((-1) : Int) = (-1) := by rfl
          exact ⟨(-1), rfl, congrArg (fun z_ : Int => some (Value.int (ei_ z_))) hx_, rR_sm (sm_rfl m) hR⟩
        · exact False.elim (by omega)
      · exact False.elim (by omega)
    · refine pw_steps 2 (s' := (6, [some (.ref 1), some (.int (ei_ (a)))], [.ref 1, .int (ei_ (a))], m)) rfl ?_
      refine pw_get rfl rfl (fun x12 (hx12 : x12 = vi_ m 1 1) rx12 sx12 => ?_)
      refine pw_cmp rfl q0 ⟨rx12, sx12⟩ (fun (h13 : x12 ≤ a) => ?_) (fun (h13 : ¬ (x12 ≤ a)) => ?_)
      · refine pw_steps 1 (s' := (17, [some (.ref 1), some (.int (ei_ (a)))], [.int (ei_ (0))], m)) rfl ?_
        refine pw_iret rfl rfl rfl ?_
        refine pw_ifF rfl (by decide) (show ¬ (¬ 0 = 0) by decide) ?_
        refine pw_steps 1 (s' := (47, [some (.ref 0), some (.int (ei_ (a))), some (.int (ei_ (b)))], [.int (ei_ ((-1)))], m)) rfl ?_
        refine pw_iret rfl rfl rfl ?_
        refine pw_intro (I := iX9_of) (T := tX9_of) rfl rfl rfl ?_
        refine pw_steps 3 (s' := (3, [some (.ref 47), some (.int (ei_ (a))), some (.int (ei_ (b))), none], [.int (ei_ (b)), .int (ei_ (a)), .ref 47], m)) rfl ?_
        refine pw_call (As := [.int (ei_ (a)), .int (ei_ (b))]) (st := []) (k := 47) rfl rfl rfl rfl rfl (Nat.le_of_ble_eq_true rfl) ?_
        refine pw_intro (I := iX9_placeOf) (T := tX9_placeOf) rfl rfl rfl ?_
        refine pw_steps 4 (s' := (6, [some (.ref 47), some (.int (ei_ (a))), some (.int (ei_ (b)))], [.long (el_ (3)), .long (el_ (0)), .long ((ei_ (b)).toInt64)], m)) rfl ?_
        refine pw_cv (congrArg (fun z_ : Int64 => ((6, [some (.ref 47), some (.int (ei_ (a))), some (.int (ei_ (b)))], [.long (el_ (3)), .long (el_ (0)), .long z_], m) : am_S)) (el_i2l q1 rfl)) ?_
        refine pw_callS (As := [.long (el_ (b)), .long (el_ (0)), .long (el_ (3))]) (st := []) rfl (by decide) rfl rfl (Nat.le_of_ble_eq_true rfl) ?_
        refine mt_within (by omega) (by omega) (by omega) (fun g14 g15 => ?_) (fun g16 => ?_) (fun g17 => ?_)
        · exact False.elim (by omega)
        · refine pw_ifT rfl (by decide) (show 0 = 0 by decide) ?_
          refine pw_steps 1 (s' := (33, [some (.ref 47), some (.int (ei_ (a))), some (.int (ei_ (b)))], [.int (ei_ (a))], m)) rfl ?_
          refine pw_if rfl q0 (fun (h18 : ¬ a = 0) => ?_) (fun (h18 : ¬ ¬ a = 0) => ?_)
          · refine pw_steps 1 (s' := (60, [some (.ref 47), some (.int (ei_ (a))), some (.int (ei_ (b)))], [.int (ei_ ((-1)))], m)) rfl ?_
            refine pw_iret rfl rfl rfl ?_
            refine pw_steps 2 (s' := (8, [some (.ref 47), some (.int (ei_ (a))), some (.int (ei_ (b))), some (.int (ei_ ((-1))))], [.int (ei_ ((-1)))], m)) rfl ?_
            refine pw_ifT rfl (by decide) (show (-1) < 0 by decide) ?_
            refine pw_steps 3 (s' := (21, [some (.ref 47), some (.int (ei_ (a))), some (.int (ei_ (b))), some (.int (ei_ ((-1))))], [.long ((ei_ (a)).toInt64), .ref 47], m)) rfl ?_
            refine pw_cv (congrArg (fun z_ : Int64 => ((21, [some (.ref 47), some (.int (ei_ (a))), some (.int (ei_ (b))), some (.int (ei_ ((-1))))], [.long z_, .ref 47], m) : am_S)) (el_i2l q0 rfl)) ?_
            refine pw_call (As := [.long (el_ (a))]) (st := []) (k := 47) rfl rfl rfl rfl rfl (Nat.le_of_ble_eq_true rfl) ?_
            refine pw_intro (I := iX9_isOne) (T := tX9_isOne) rfl rfl rfl ?_
            refine pw_steps 3 (s' := (3, [some (.ref 47), some (.long (el_ (a))), none], [.ref 47, .long (el_ (0)), .long (el_ (a))], m)) rfl ?_
            refine pw_get rfl rfl (fun x19 (hx19 : x19 = vi_ m 47 6) rx19 sx19 => ?_)
            refine pw_steps 3 (s' := (9, [some (.ref 47), some (.long (el_ (a))), none], [.long (((ei_ (x19)) - (ei_ (1))).toInt64), .long (el_ (0)), .long (el_ (a))], m)) rfl ?_
            refine pw_cv (congrArg (fun z_ : Int64 => ((9, [some (.ref 47), some (.long (el_ (a))), none], [.long z_, .long (el_ (0)), .long (el_ (a))], m) : am_S)) (el_i2l (by omega) (ei_sub rfl rfl))) ?_
            refine pw_callS (As := [.long (el_ (a)), .long (el_ (0)), .long (el_ ((x19 - 1)))]) (st := []) rfl (by decide) rfl rfl (Nat.le_of_ble_eq_true rfl) ?_
            refine mt_within (by omega) (by omega) (by omega) (fun g20 g21 => ?_) (fun g22 => ?_) (fun g23 => ?_)
            · exact False.elim (by omega)
            · exact False.elim (by omega)
            · refine pw_iret rfl rfl rfl ?_
              refine pw_ifF rfl (by decide) (show ¬ (¬ 0 = 0) by decide) ?_
              refine pw_steps 1 (s' := (28, [some (.ref 47), some (.int (ei_ (a))), some (.int (ei_ (b))), some (.int (ei_ ((-1))))], [.int (ei_ ((-1)))], m)) rfl ?_
              refine pw_iret rfl rfl rfl ?_
              have hx_ : ((-1) : Int) = (-1) := by rfl
              exact ⟨(-1), rfl, congrArg (fun z_ : Int => some (Value.int (ei_ z_))) hx_, rR_sm (sm_rfl m) hR⟩
          · refine pw_steps 4 (s' := (44, [some (.ref 47), some (.int (ei_ (a))), some (.int (ei_ (b)))], [.long (el_ (5)), .long (el_ (4)), .long ((ei_ (b)).toInt64)], m)) rfl ?_
            refine pw_cv (congrArg (fun z_ : Int64 => ((44, [some (.ref 47), some (.int (ei_ (a))), some (.int (ei_ (b)))], [.long (el_ (5)), .long (el_ (4)), .long z_], m) : am_S)) (el_i2l q1 rfl)) ?_
            refine pw_callS (As := [.long (el_ (b)), .long (el_ (4)), .long (el_ (5))]) (st := []) rfl (by decide) rfl rfl (Nat.le_of_ble_eq_true rfl) ?_
            refine mt_within (by omega) (by omega) (by omega) (fun g24 g25 => ?_) (fun g26 => ?_) (fun g27 => ?_)
            · exact False.elim (by omega)
            · refine pw_ifT rfl (by decide) (show 0 = 0 by decide) ?_
              refine pw_steps 1 (s' := (60, [some (.ref 47), some (.int (ei_ (a))), some (.int (ei_ (b)))], [.int (ei_ ((-1)))], m)) rfl ?_
              refine pw_iret rfl rfl rfl ?_
              refine pw_steps 2 (s' := (8, [some (.ref 47), some (.int (ei_ (a))), some (.int (ei_ (b))), some (.int (ei_ ((-1))))], [.int (ei_ ((-1)))], m)) rfl ?_
              refine pw_ifT rfl (by decide) (show (-1) < 0 by decide) ?_
              refine pw_steps 3 (s' := (21, [some (.ref 47), some (.int (ei_ (a))), some (.int (ei_ (b))), some (.int (ei_ ((-1))))], [.long ((ei_ (a)).toInt64), .ref 47], m)) rfl ?_
              refine pw_cv (congrArg (fun z_ : Int64 => ((21, [some (.ref 47), some (.int (ei_ (a))), some (.int (ei_ (b))), some (.int (ei_ ((-1))))], [.long z_, .ref 47], m) : am_S)) (el_i2l q0 rfl)) ?_
              refine pw_call (As := [.long (el_ (a))]) (st := []) (k := 47) rfl rfl rfl rfl rfl (Nat.le_of_ble_eq_true rfl) ?_
              refine pw_intro (I := iX9_isOne) (T := tX9_isOne) rfl rfl rfl ?_
              refine pw_steps 3 (s' := (3, [some (.ref 47), some (.long (el_ (a))), none], [.ref 47, .long (el_ (0)), .long (el_ (a))], m)) rfl ?_
              refine pw_get rfl rfl (fun x28 (hx28 : x28 = vi_ m 47 6) rx28 sx28 => ?_)
              refine pw_steps 3 (s' := (9, [some (.ref 47), some (.long (el_ (a))), none], [.long (((ei_ (x28)) - (ei_ (1))).toInt64), .long (el_ (0)), .long (el_ (a))], m)) rfl ?_
              refine pw_cv (congrArg (fun z_ : Int64 => ((9, [some (.ref 47), some (.long (el_ (a))), none], [.long z_, .long (el_ (0)), .long (el_ (a))], m) : am_S)) (el_i2l (by omega) (ei_sub rfl rfl))) ?_
              refine pw_callS (As := [.long (el_ (a)), .long (el_ (0)), .long (el_ ((x28 - 1)))]) (st := []) rfl (by decide) rfl rfl (Nat.le_of_ble_eq_true rfl) ?_
              refine mt_within (by omega) (by omega) (by omega) (fun g29 g30 => ?_) (fun g31 => ?_) (fun g32 => ?_)
              · exact False.elim (by omega)
              · exact False.elim (by omega)
              · refine pw_iret rfl rfl rfl ?_
                refine pw_ifF rfl (by decide) (show ¬ (¬ 0 = 0) by decide) ?_
                refine pw_steps 1 (s' := (28, [some (.ref 47), some (.int (ei_ (a))), some (.int (ei_ (b))), some (.int (ei_ ((-1))))], [.int (ei_ ((-1)))], m)) rfl ?_
                refine pw_iret rfl rfl rfl ?_
                have hx_ : ((-1) : Int) = (-1) := by rfl
                exact ⟨(-1), rfl, congrArg (fun z_ : Int => some (Value.int (ei_ z_))) hx_, rR_sm (sm_rfl m) hR⟩
            · exact False.elim (by omega)
        · exact False.elim (by omega)
      · refine pw_steps 2 (s' := (17, [some (.ref 1), some (.int (ei_ (a)))], [.int (ei_ (1))], m)) rfl ?_
        refine pw_iret rfl rfl rfl ?_
        refine pw_ifT rfl (by decide) (show ¬ 1 = 0 by decide) ?_
        refine pw_steps 1 (s' := (49, [some (.ref 0), some (.int (ei_ (a))), some (.int (ei_ (b)))], [.int (ei_ (b))], m)) rfl ?_
        rcases (show b < 10 by omega) with h33
        · refine pw_tabD rfl q1 (by omega) ?_
          refine pw_steps 1 (s' := (130, [some (.ref 0), some (.int (ei_ (a))), some (.int (ei_ (b)))], [.int (ei_ ((-1)))], m)) rfl ?_
          refine pw_iret rfl rfl rfl ?_
          refine pw_intro (I := iX9_of) (T := tX9_of) rfl rfl rfl ?_
          refine pw_steps 3 (s' := (3, [some (.ref 47), some (.int (ei_ (a))), some (.int (ei_ (b))), none], [.int (ei_ (b)), .int (ei_ (a)), .ref 47], m)) rfl ?_
          refine pw_call (As := [.int (ei_ (a)), .int (ei_ (b))]) (st := []) (k := 47) rfl rfl rfl rfl rfl (Nat.le_of_ble_eq_true rfl) ?_
          refine pw_intro (I := iX9_placeOf) (T := tX9_placeOf) rfl rfl rfl ?_
          refine pw_steps 4 (s' := (6, [some (.ref 47), some (.int (ei_ (a))), some (.int (ei_ (b)))], [.long (el_ (3)), .long (el_ (0)), .long ((ei_ (b)).toInt64)], m)) rfl ?_
          refine pw_cv (congrArg (fun z_ : Int64 => ((6, [some (.ref 47), some (.int (ei_ (a))), some (.int (ei_ (b)))], [.long (el_ (3)), .long (el_ (0)), .long z_], m) : am_S)) (el_i2l q1 rfl)) ?_
          refine pw_callS (As := [.long (el_ (b)), .long (el_ (0)), .long (el_ (3))]) (st := []) rfl (by decide) rfl rfl (Nat.le_of_ble_eq_true rfl) ?_
          refine mt_within (by omega) (by omega) (by omega) (fun g34 g35 => ?_) (fun g36 => ?_) (fun g37 => ?_)
          · exact False.elim (by omega)
          · refine pw_ifT rfl (by decide) (show 0 = 0 by decide) ?_
            refine pw_steps 1 (s' := (33, [some (.ref 47), some (.int (ei_ (a))), some (.int (ei_ (b)))], [.int (ei_ (a))], m)) rfl ?_
            refine pw_if rfl q0 (fun (h38 : ¬ a = 0) => ?_) (fun (h38 : ¬ ¬ a = 0) => ?_)
            · refine pw_steps 1 (s' := (60, [some (.ref 47), some (.int (ei_ (a))), some (.int (ei_ (b)))], [.int (ei_ ((-1)))], m)) rfl ?_
              refine pw_iret rfl rfl rfl ?_
              refine pw_steps 2 (s' := (8, [some (.ref 47), some (.int (ei_ (a))), some (.int (ei_ (b))), some (.int (ei_ ((-1))))], [.int (ei_ ((-1)))], m)) rfl ?_
              refine pw_ifT rfl (by decide) (show (-1) < 0 by decide) ?_
              refine pw_steps 3 (s' := (21, [some (.ref 47), some (.int (ei_ (a))), some (.int (ei_ (b))), some (.int (ei_ ((-1))))], [.long ((ei_ (a)).toInt64), .ref 47], m)) rfl ?_
              refine pw_cv (congrArg (fun z_ : Int64 => ((21, [some (.ref 47), some (.int (ei_ (a))), some (.int (ei_ (b))), some (.int (ei_ ((-1))))], [.long z_, .ref 47], m) : am_S)) (el_i2l q0 rfl)) ?_
              refine pw_call (As := [.long (el_ (a))]) (st := []) (k := 47) rfl rfl rfl rfl rfl (Nat.le_of_ble_eq_true rfl) ?_
              refine pw_intro (I := iX9_isOne) (T := tX9_isOne) rfl rfl rfl ?_
              refine pw_steps 3 (s' := (3, [some (.ref 47), some (.long (el_ (a))), none], [.ref 47, .long (el_ (0)), .long (el_ (a))], m)) rfl ?_
              refine pw_get rfl rfl (fun x39 (hx39 : x39 = vi_ m 47 6) rx39 sx39 => ?_)
              refine pw_steps 3 (s' := (9, [some (.ref 47), some (.long (el_ (a))), none], [.long (((ei_ (x39)) - (ei_ (1))).toInt64), .long (el_ (0)), .long (el_ (a))], m)) rfl ?_
              refine pw_cv (congrArg (fun z_ : Int64 => ((9, [some (.ref 47), some (.long (el_ (a))), none], [.long z_, .long (el_ (0)), .long (el_ (a))], m) : am_S)) (el_i2l (by omega) (ei_sub rfl rfl))) ?_
              refine pw_callS (As := [.long (el_ (a)), .long (el_ (0)), .long (el_ ((x39 - 1)))]) (st := []) rfl (by decide) rfl rfl (Nat.le_of_ble_eq_true rfl) ?_
              refine mt_within (by omega) (by omega) (by omega) (fun g40 g41 => ?_) (fun g42 => ?_) (fun g43 => ?_)
              · refine pw_iret rfl rfl rfl ?_
                refine pw_ifT rfl (by decide) (show ¬ 1 = 0 by decide) ?_
                refine pw_steps 1 (s' := (30, [some (.ref 47), some (.int (ei_ (a))), some (.int (ei_ (b))), some (.int (ei_ ((-1))))], [.int (ei_ (b))], m)) rfl ?_
                rcases (show b < 10 by omega) with h44
                · refine pw_tabD rfl q1 (by omega) ?_
                  refine pw_steps 1 (s' := (105, [some (.ref 47), some (.int (ei_ (a))), some (.int (ei_ (b))), some (.int (ei_ ((-1))))], [.int (ei_ ((-1)))], m)) rfl ?_
                  refine pw_iret rfl rfl rfl ?_
                  have hx_ : ((-1) : Int) = (-1) := by rfl
                  exact ⟨(-1), rfl, congrArg (fun z_ : Int => some (Value.int (ei_ z_))) hx_, rR_sm (sm_rfl m) hR⟩
              · exact False.elim (by omega)
              · exact False.elim (by omega)
            · refine pw_steps 4 (s' := (44, [some (.ref 47), some (.int (ei_ (a))), some (.int (ei_ (b)))], [.long (el_ (5)), .long (el_ (4)), .long ((ei_ (b)).toInt64)], m)) rfl ?_
              refine pw_cv (congrArg (fun z_ : Int64 => ((44, [some (.ref 47), some (.int (ei_ (a))), some (.int (ei_ (b)))], [.long (el_ (5)), .long (el_ (4)), .long z_], m) : am_S)) (el_i2l q1 rfl)) ?_
              refine pw_callS (As := [.long (el_ (b)), .long (el_ (4)), .long (el_ (5))]) (st := []) rfl (by decide) rfl rfl (Nat.le_of_ble_eq_true rfl) ?_
              refine mt_within (by omega) (by omega) (by omega) (fun g45 g46 => ?_) (fun g47 => ?_) (fun g48 => ?_)
              · exact False.elim (by omega)
              · refine pw_ifT rfl (by decide) (show 0 = 0 by decide) ?_
                refine pw_steps 1 (s' := (60, [some (.ref 47), some (.int (ei_ (a))), some (.int (ei_ (b)))], [.int (ei_ ((-1)))], m)) rfl ?_
                refine pw_iret rfl rfl rfl ?_
                refine pw_steps 2 (s' := (8, [some (.ref 47), some (.int (ei_ (a))), some (.int (ei_ (b))), some (.int (ei_ ((-1))))], [.int (ei_ ((-1)))], m)) rfl ?_
                refine pw_ifT rfl (by decide) (show (-1) < 0 by decide) ?_
                refine pw_steps 3 (s' := (21, [some (.ref 47), some (.int (ei_ (a))), some (.int (ei_ (b))), some (.int (ei_ ((-1))))], [.long ((ei_ (a)).toInt64), .ref 47], m)) rfl ?_
                refine pw_cv (congrArg (fun z_ : Int64 => ((21, [some (.ref 47), some (.int (ei_ (a))), some (.int (ei_ (b))), some (.int (ei_ ((-1))))], [.long z_, .ref 47], m) : am_S)) (el_i2l q0 rfl)) ?_
                refine pw_call (As := [.long (el_ (a))]) (st := []) (k := 47) rfl rfl rfl rfl rfl (Nat.le_of_ble_eq_true rfl) ?_
                refine pw_intro (I := iX9_isOne) (T := tX9_isOne) rfl rfl rfl ?_
                refine pw_steps 3 (s' := (3, [some (.ref 47), some (.long (el_ (a))), none], [.ref 47, .long (el_ (0)), .long (el_ (a))], m)) rfl ?_
                refine pw_get rfl rfl (fun x49 (hx49 : x49 = vi_ m 47 6) rx49 sx49 => ?_)
                refine pw_steps 3 (s' := (9, [some (.ref 47), some (.long (el_ (a))), none], [.long (((ei_ (x49)) - (ei_ (1))).toInt64), .long (el_ (0)), .long (el_ (a))], m)) rfl ?_
                refine pw_cv (congrArg (fun z_ : Int64 => ((9, [some (.ref 47), some (.long (el_ (a))), none], [.long z_, .long (el_ (0)), .long (el_ (a))], m) : am_S)) (el_i2l (by omega) (ei_sub rfl rfl))) ?_
                refine pw_callS (As := [.long (el_ (a)), .long (el_ (0)), .long (el_ ((x49 - 1)))]) (st := []) rfl (by decide) rfl rfl (Nat.le_of_ble_eq_true rfl) ?_
                refine mt_within (by omega) (by omega) (by omega) (fun g50 g51 => ?_) (fun g52 => ?_) (fun g53 => ?_)
                · refine pw_iret rfl rfl rfl ?_
                  refine pw_ifT rfl (by decide) (show ¬ 1 = 0 by decide) ?_
                  refine pw_steps 1 (s' := (30, [some (.ref 47), some (.int (ei_ (a))), some (.int (ei_ (b))), some (.int (ei_ ((-1))))], [.int (ei_ (b))], m)) rfl ?_
                  rcases (show b < 10 by omega) with h54
                  · refine pw_tabD rfl q1 (by omega) ?_
                    refine pw_steps 1 (s' := (105, [some (.ref 47), some (.int (ei_ (a))), some (.int (ei_ (b))), some (.int (ei_ ((-1))))], [.int (ei_ ((-1)))], m)) rfl ?_
                    refine pw_iret rfl rfl rfl ?_
                    have hx_ : ((-1) : Int) = (-1) := by rfl
                    exact ⟨(-1), rfl, congrArg (fun z_ : Int => some (Value.int (ei_ z_))) hx_, rR_sm (sm_rfl m) hR⟩
                · exact False.elim (by omega)
                · exact False.elim (by omega)
              · exact False.elim (by omega)
          · exact False.elim (by omega)
  · refine pw_steps 2 (s' := (6, [some (.ref 0), some (.int (ei_ (a))), some (.int (ei_ (b)))], [.int (ei_ (5)), .int (ei_ (b))], m)) rfl ?_
    refine pw_cmp rfl q1 (by decide) (fun (h55 : 5 < b) => ?_) (fun (h55 : ¬ (5 < b)) => ?_)
    · refine pw_steps 3 (s' := (40, [some (.ref 0), some (.int (ei_ (a))), some (.int (ei_ (b)))], [.int (ei_ (a)), .ref 1], m)) rfl ?_
      refine pw_call (As := [.int (ei_ (a))]) (st := []) (k := 1) rfl rfl rfl rfl rfl (Nat.le_of_ble_eq_true rfl) ?_
      refine pw_intro (I := iX3_has) (T := tX3_has) rfl rfl rfl ?_
      refine pw_steps 1 (s' := (1, [some (.ref 1), some (.int (ei_ (a)))], [.int (ei_ (a))], m)) rfl ?_
      refine pw_if rfl q0 (fun (h56 : a < 0) => ?_) (fun (h56 : ¬ (a < 0)) => ?_)
      · refine pw_steps 1 (s' := (17, [some (.ref 1), some (.int (ei_ (a)))], [.int (ei_ (0))], m)) rfl ?_
        refine pw_iret rfl rfl rfl ?_
        refine pw_ifF rfl (by decide) (show ¬ (¬ 0 = 0) by decide) ?_
        refine pw_steps 1 (s' := (47, [some (.ref 0), some (.int (ei_ (a))), some (.int (ei_ (b)))], [.int (ei_ ((-1)))], m)) rfl ?_
        refine pw_iret rfl rfl rfl ?_
        refine pw_intro (I := iX9_of) (T := tX9_of) rfl rfl rfl ?_
        refine pw_steps 3 (s' := (3, [some (.ref 47), some (.int (ei_ (a))), some (.int (ei_ (b))), none], [.int (ei_ (b)), .int (ei_ (a)), .ref 47], m)) rfl ?_
        refine pw_call (As := [.int (ei_ (a)), .int (ei_ (b))]) (st := []) (k := 47) rfl rfl rfl rfl rfl (Nat.le_of_ble_eq_true rfl) ?_
        refine pw_intro (I := iX9_placeOf) (T := tX9_placeOf) rfl rfl rfl ?_
        refine pw_steps 4 (s' := (6, [some (.ref 47), some (.int (ei_ (a))), some (.int (ei_ (b)))], [.long (el_ (3)), .long (el_ (0)), .long ((ei_ (b)).toInt64)], m)) rfl ?_
        refine pw_cv (congrArg (fun z_ : Int64 => ((6, [some (.ref 47), some (.int (ei_ (a))), some (.int (ei_ (b)))], [.long (el_ (3)), .long (el_ (0)), .long z_], m) : am_S)) (el_i2l q1 rfl)) ?_
        refine pw_callS (As := [.long (el_ (b)), .long (el_ (0)), .long (el_ (3))]) (st := []) rfl (by decide) rfl rfl (Nat.le_of_ble_eq_true rfl) ?_
        refine mt_within (by omega) (by omega) (by omega) (fun g57 g58 => ?_) (fun g59 => ?_) (fun g60 => ?_)
        · exact False.elim (by omega)
        · exact False.elim (by omega)
        · refine pw_ifT rfl (by decide) (show 0 = 0 by decide) ?_
          refine pw_steps 1 (s' := (33, [some (.ref 47), some (.int (ei_ (a))), some (.int (ei_ (b)))], [.int (ei_ (a))], m)) rfl ?_
          refine pw_ifT rfl q0 (show ¬ a = 0 by omega) ?_
          refine pw_steps 1 (s' := (60, [some (.ref 47), some (.int (ei_ (a))), some (.int (ei_ (b)))], [.int (ei_ ((-1)))], m)) rfl ?_
          refine pw_iret rfl rfl rfl ?_
          refine pw_steps 2 (s' := (8, [some (.ref 47), some (.int (ei_ (a))), some (.int (ei_ (b))), some (.int (ei_ ((-1))))], [.int (ei_ ((-1)))], m)) rfl ?_
          refine pw_ifT rfl (by decide) (show (-1) < 0 by decide) ?_
          refine pw_steps 3 (s' := (21, [some (.ref 47), some (.int (ei_ (a))), some (.int (ei_ (b))), some (.int (ei_ ((-1))))], [.long ((ei_ (a)).toInt64), .ref 47], m)) rfl ?_
          refine pw_cv (congrArg (fun z_ : Int64 => ((21, [some (.ref 47), some (.int (ei_ (a))), some (.int (ei_ (b))), some (.int (ei_ ((-1))))], [.long z_, .ref 47], m) : am_S)) (el_i2l q0 rfl)) ?_
          refine pw_call (As := [.long (el_ (a))]) (st := []) (k := 47) rfl rfl rfl rfl rfl (Nat.le_of_ble_eq_true rfl) ?_
          refine pw_intro (I := iX9_isOne) (T := tX9_isOne) rfl rfl rfl ?_
          refine pw_steps 3 (s' := (3, [some (.ref 47), some (.long (el_ (a))), none], [.ref 47, .long (el_ (0)), .long (el_ (a))], m)) rfl ?_
          refine pw_get rfl rfl (fun x61 (hx61 : x61 = vi_ m 47 6) rx61 sx61 => ?_)
          refine pw_steps 3 (s' := (9, [some (.ref 47), some (.long (el_ (a))), none], [.long (((ei_ (x61)) - (ei_ (1))).toInt64), .long (el_ (0)), .long (el_ (a))], m)) rfl ?_
          refine pw_cv (congrArg (fun z_ : Int64 => ((9, [some (.ref 47), some (.long (el_ (a))), none], [.long z_, .long (el_ (0)), .long (el_ (a))], m) : am_S)) (el_i2l (by omega) (ei_sub rfl rfl))) ?_
          refine pw_callS (As := [.long (el_ (a)), .long (el_ (0)), .long (el_ ((x61 - 1)))]) (st := []) rfl (by decide) rfl rfl (Nat.le_of_ble_eq_true rfl) ?_
          refine mt_within (by omega) (by omega) (by omega) (fun g62 g63 => ?_) (fun g64 => ?_) (fun g65 => ?_)
          · exact False.elim (by omega)
          · refine pw_iret rfl rfl rfl ?_
            refine pw_ifF rfl (by decide) (show ¬ (¬ 0 = 0) by decide) ?_
            refine pw_steps 1 (s' := (28, [some (.ref 47), some (.int (ei_ (a))), some (.int (ei_ (b))), some (.int (ei_ ((-1))))], [.int (ei_ ((-1)))], m)) rfl ?_
            refine pw_iret rfl rfl rfl ?_
            have hx_ : ((-1) : Int) = (-1) := by rfl
            exact ⟨(-1), rfl, congrArg (fun z_ : Int => some (Value.int (ei_ z_))) hx_, rR_sm (sm_rfl m) hR⟩
          · exact False.elim (by omega)
      · refine pw_steps 2 (s' := (6, [some (.ref 1), some (.int (ei_ (a)))], [.ref 1, .int (ei_ (a))], m)) rfl ?_
        refine pw_get rfl rfl (fun x66 (hx66 : x66 = vi_ m 1 1) rx66 sx66 => ?_)
        refine pw_cmp rfl q0 ⟨rx66, sx66⟩ (fun (h67 : x66 ≤ a) => ?_) (fun (h67 : ¬ (x66 ≤ a)) => ?_)
        · refine pw_steps 1 (s' := (17, [some (.ref 1), some (.int (ei_ (a)))], [.int (ei_ (0))], m)) rfl ?_
          refine pw_iret rfl rfl rfl ?_
          refine pw_ifF rfl (by decide) (show ¬ (¬ 0 = 0) by decide) ?_
          refine pw_steps 1 (s' := (47, [some (.ref 0), some (.int (ei_ (a))), some (.int (ei_ (b)))], [.int (ei_ ((-1)))], m)) rfl ?_
          refine pw_iret rfl rfl rfl ?_
          refine pw_intro (I := iX9_of) (T := tX9_of) rfl rfl rfl ?_
          refine pw_steps 3 (s' := (3, [some (.ref 47), some (.int (ei_ (a))), some (.int (ei_ (b))), none], [.int (ei_ (b)), .int (ei_ (a)), .ref 47], m)) rfl ?_
          refine pw_call (As := [.int (ei_ (a)), .int (ei_ (b))]) (st := []) (k := 47) rfl rfl rfl rfl rfl (Nat.le_of_ble_eq_true rfl) ?_
          refine pw_intro (I := iX9_placeOf) (T := tX9_placeOf) rfl rfl rfl ?_
          refine pw_steps 4 (s' := (6, [some (.ref 47), some (.int (ei_ (a))), some (.int (ei_ (b)))], [.long (el_ (3)), .long (el_ (0)), .long ((ei_ (b)).toInt64)], m)) rfl ?_
          refine pw_cv (congrArg (fun z_ : Int64 => ((6, [some (.ref 47), some (.int (ei_ (a))), some (.int (ei_ (b)))], [.long (el_ (3)), .long (el_ (0)), .long z_], m) : am_S)) (el_i2l q1 rfl)) ?_
          refine pw_callS (As := [.long (el_ (b)), .long (el_ (0)), .long (el_ (3))]) (st := []) rfl (by decide) rfl rfl (Nat.le_of_ble_eq_true rfl) ?_
          refine mt_within (by omega) (by omega) (by omega) (fun g68 g69 => ?_) (fun g70 => ?_) (fun g71 => ?_)
          · exact False.elim (by omega)
          · exact False.elim (by omega)
          · refine pw_ifT rfl (by decide) (show 0 = 0 by decide) ?_
            refine pw_steps 1 (s' := (33, [some (.ref 47), some (.int (ei_ (a))), some (.int (ei_ (b)))], [.int (ei_ (a))], m)) rfl ?_
            refine pw_if rfl q0 (fun (h72 : ¬ a = 0) => ?_) (fun (h72 : ¬ ¬ a = 0) => ?_)
            · refine pw_steps 1 (s' := (60, [some (.ref 47), some (.int (ei_ (a))), some (.int (ei_ (b)))], [.int (ei_ ((-1)))], m)) rfl ?_
              refine pw_iret rfl rfl rfl ?_
              refine pw_steps 2 (s' := (8, [some (.ref 47), some (.int (ei_ (a))), some (.int (ei_ (b))), some (.int (ei_ ((-1))))], [.int (ei_ ((-1)))], m)) rfl ?_
              refine pw_ifT rfl (by decide) (show (-1) < 0 by decide) ?_
              refine pw_steps 3 (s' := (21, [some (.ref 47), some (.int (ei_ (a))), some (.int (ei_ (b))), some (.int (ei_ ((-1))))], [.long ((ei_ (a)).toInt64), .ref 47], m)) rfl ?_
              refine pw_cv (congrArg (fun z_ : Int64 => ((21, [some (.ref 47), some (.int (ei_ (a))), some (.int (ei_ (b))), some (.int (ei_ ((-1))))], [.long z_, .ref 47], m) : am_S)) (el_i2l q0 rfl)) ?_
              refine pw_call (As := [.long (el_ (a))]) (st := []) (k := 47) rfl rfl rfl rfl rfl (Nat.le_of_ble_eq_true rfl) ?_
              refine pw_intro (I := iX9_isOne) (T := tX9_isOne) rfl rfl rfl ?_
              refine pw_steps 3 (s' := (3, [some (.ref 47), some (.long (el_ (a))), none], [.ref 47, .long (el_ (0)), .long (el_ (a))], m)) rfl ?_
              refine pw_get rfl rfl (fun x73 (hx73 : x73 = vi_ m 47 6) rx73 sx73 => ?_)
              refine pw_steps 3 (s' := (9, [some (.ref 47), some (.long (el_ (a))), none], [.long (((ei_ (x73)) - (ei_ (1))).toInt64), .long (el_ (0)), .long (el_ (a))], m)) rfl ?_
              refine pw_cv (congrArg (fun z_ : Int64 => ((9, [some (.ref 47), some (.long (el_ (a))), none], [.long z_, .long (el_ (0)), .long (el_ (a))], m) : am_S)) (el_i2l (by omega) (ei_sub rfl rfl))) ?_
              refine pw_callS (As := [.long (el_ (a)), .long (el_ (0)), .long (el_ ((x73 - 1)))]) (st := []) rfl (by decide) rfl rfl (Nat.le_of_ble_eq_true rfl) ?_
              refine mt_within (by omega) (by omega) (by omega) (fun g74 g75 => ?_) (fun g76 => ?_) (fun g77 => ?_)
              · exact False.elim (by omega)
              · exact False.elim (by omega)
              · refine pw_iret rfl rfl rfl ?_
                refine pw_ifF rfl (by decide) (show ¬ (¬ 0 = 0) by decide) ?_
                refine pw_steps 1 (s' := (28, [some (.ref 47), some (.int (ei_ (a))), some (.int (ei_ (b))), some (.int (ei_ ((-1))))], [.int (ei_ ((-1)))], m)) rfl ?_
                refine pw_iret rfl rfl rfl ?_
                have hx_ : ((-1) : Int) = (-1) := by rfl
                exact ⟨(-1), rfl, congrArg (fun z_ : Int => some (Value.int (ei_ z_))) hx_, rR_sm (sm_rfl m) hR⟩
            · refine pw_steps 4 (s' := (44, [some (.ref 47), some (.int (ei_ (a))), some (.int (ei_ (b)))], [.long (el_ (5)), .long (el_ (4)), .long ((ei_ (b)).toInt64)], m)) rfl ?_
              refine pw_cv (congrArg (fun z_ : Int64 => ((44, [some (.ref 47), some (.int (ei_ (a))), some (.int (ei_ (b)))], [.long (el_ (5)), .long (el_ (4)), .long z_], m) : am_S)) (el_i2l q1 rfl)) ?_
              refine pw_callS (As := [.long (el_ (b)), .long (el_ (4)), .long (el_ (5))]) (st := []) rfl (by decide) rfl rfl (Nat.le_of_ble_eq_true rfl) ?_
              refine mt_within (by omega) (by omega) (by omega) (fun g78 g79 => ?_) (fun g80 => ?_) (fun g81 => ?_)
              · exact False.elim (by omega)
              · exact False.elim (by omega)
              · refine pw_ifT rfl (by decide) (show 0 = 0 by decide) ?_
                refine pw_steps 1 (s' := (60, [some (.ref 47), some (.int (ei_ (a))), some (.int (ei_ (b)))], [.int (ei_ ((-1)))], m)) rfl ?_
                refine pw_iret rfl rfl rfl ?_
                refine pw_steps 2 (s' := (8, [some (.ref 47), some (.int (ei_ (a))), some (.int (ei_ (b))), some (.int (ei_ ((-1))))], [.int (ei_ ((-1)))], m)) rfl ?_
                refine pw_ifT rfl (by decide) (show (-1) < 0 by decide) ?_
                refine pw_steps 3 (s' := (21, [some (.ref 47), some (.int (ei_ (a))), some (.int (ei_ (b))), some (.int (ei_ ((-1))))], [.long ((ei_ (a)).toInt64), .ref 47], m)) rfl ?_
                refine pw_cv (congrArg (fun z_ : Int64 => ((21, [some (.ref 47), some (.int (ei_ (a))), some (.int (ei_ (b))), some (.int (ei_ ((-1))))], [.long z_, .ref 47], m) : am_S)) (el_i2l q0 rfl)) ?_
                refine pw_call (As := [.long (el_ (a))]) (st := []) (k := 47) rfl rfl rfl rfl rfl (Nat.le_of_ble_eq_true rfl) ?_
                refine pw_intro (I := iX9_isOne) (T := tX9_isOne) rfl rfl rfl ?_
                refine pw_steps 3 (s' := (3, [some (.ref 47), some (.long (el_ (a))), none], [.ref 47, .long (el_ (0)), .long (el_ (a))], m)) rfl ?_
                refine pw_get rfl rfl (fun x82 (hx82 : x82 = vi_ m 47 6) rx82 sx82 => ?_)
                refine pw_steps 3 (s' := (9, [some (.ref 47), some (.long (el_ (a))), none], [.long (((ei_ (x82)) - (ei_ (1))).toInt64), .long (el_ (0)), .long (el_ (a))], m)) rfl ?_
                refine pw_cv (congrArg (fun z_ : Int64 => ((9, [some (.ref 47), some (.long (el_ (a))), none], [.long z_, .long (el_ (0)), .long (el_ (a))], m) : am_S)) (el_i2l (by omega) (ei_sub rfl rfl))) ?_
                refine pw_callS (As := [.long (el_ (a)), .long (el_ (0)), .long (el_ ((x82 - 1)))]) (st := []) rfl (by decide) rfl rfl (Nat.le_of_ble_eq_true rfl) ?_
                refine mt_within (by omega) (by omega) (by omega) (fun g83 g84 => ?_) (fun g85 => ?_) (fun g86 => ?_)
                · exact False.elim (by omega)
                · exact False.elim (by omega)
                · refine pw_iret rfl rfl rfl ?_
                  refine pw_ifF rfl (by decide) (show ¬ (¬ 0 = 0) by decide) ?_
                  refine pw_steps 1 (s' := (28, [some (.ref 47), some (.int (ei_ (a))), some (.int (ei_ (b))), some (.int (ei_ ((-1))))], [.int (ei_ ((-1)))], m)) rfl ?_
                  refine pw_iret rfl rfl rfl ?_
                  have hx_ : ((-1) : Int) = (-1) := by rfl
                  exact ⟨(-1), rfl, congrArg (fun z_ : Int => some (Value.int (ei_ z_))) hx_, rR_sm (sm_rfl m) hR⟩
        · refine pw_steps 2 (s' := (17, [some (.ref 1), some (.int (ei_ (a)))], [.int (ei_ (1))], m)) rfl ?_
          refine pw_iret rfl rfl rfl ?_
          refine pw_ifT rfl (by decide) (show ¬ 1 = 0 by decide) ?_
          refine pw_steps 1 (s' := (49, [some (.ref 0), some (.int (ei_ (a))), some (.int (ei_ (b)))], [.int (ei_ (b))], m)) rfl ?_
          rcases (show b = 10 ∨ b = 11 ∨ b = 12 ∨ b = 13 ∨ b < 10 ∨ 13 < b by omega) with h87 | h87 | h87 | h87 | h87 | h87
          · refine pw_tab 0 80 rfl q1 (by omega) (by omega) rfl ?_
            refine pw_steps 3 (s' := (85, [some (.ref 0), some (.int (ei_ (a))), some (.int (ei_ (b)))], [.int (ei_ (a)), .ref 3], m)) rfl ?_
            refine pw_call (As := [.int (ei_ (a))]) (st := []) (k := 3) rfl rfl rfl rfl rfl (Nat.le_of_ble_eq_true rfl) ?_
            refine cw_wearer2 ((sm_rfl m)) (by omega) (fun x88 g89 g90 => ?_)
            refine pw_iret rfl rfl rfl ?_
            refine pw_intro (I := iX9_of) (T := tX9_of) rfl rfl rfl ?_
            refine pw_steps 3 (s' := (3, [some (.ref 47), some (.int (ei_ (a))), some (.int (ei_ (b))), none], [.int (ei_ (b)), .int (ei_ (a)), .ref 47], m)) rfl ?_
            refine pw_call (As := [.int (ei_ (a)), .int (ei_ (b))]) (st := []) (k := 47) rfl rfl rfl rfl rfl (Nat.le_of_ble_eq_true rfl) ?_
            refine pw_intro (I := iX9_placeOf) (T := tX9_placeOf) rfl rfl rfl ?_
            refine pw_steps 4 (s' := (6, [some (.ref 47), some (.int (ei_ (a))), some (.int (ei_ (b)))], [.long (el_ (3)), .long (el_ (0)), .long ((ei_ (b)).toInt64)], m)) rfl ?_
            refine pw_cv (congrArg (fun z_ : Int64 => ((6, [some (.ref 47), some (.int (ei_ (a))), some (.int (ei_ (b)))], [.long (el_ (3)), .long (el_ (0)), .long z_], m) : am_S)) (el_i2l q1 rfl)) ?_
            refine pw_callS (As := [.long (el_ (b)), .long (el_ (0)), .long (el_ (3))]) (st := []) rfl (by decide) rfl rfl (Nat.le_of_ble_eq_true rfl) ?_
            refine mt_within (by omega) (by omega) (by omega) (fun g91 g92 => ?_) (fun g93 => ?_) (fun g94 => ?_)
            · exact False.elim (by omega)
            · exact False.elim (by omega)
            · refine pw_ifT rfl (by decide) (show 0 = 0 by decide) ?_
              refine pw_steps 1 (s' := (33, [some (.ref 47), some (.int (ei_ (a))), some (.int (ei_ (b)))], [.int (ei_ (a))], m)) rfl ?_
              refine pw_if rfl q0 (fun (h95 : ¬ a = 0) => ?_) (fun (h95 : ¬ ¬ a = 0) => ?_)
              · refine pw_steps 1 (s' := (60, [some (.ref 47), some (.int (ei_ (a))), some (.int (ei_ (b)))], [.int (ei_ ((-1)))], m)) rfl ?_
                refine pw_iret rfl rfl rfl ?_
                refine pw_steps 2 (s' := (8, [some (.ref 47), some (.int (ei_ (a))), some (.int (ei_ (b))), some (.int (ei_ ((-1))))], [.int (ei_ ((-1)))], m)) rfl ?_
                refine pw_ifT rfl (by decide) (show (-1) < 0 by decide) ?_
                refine pw_steps 3 (s' := (21, [some (.ref 47), some (.int (ei_ (a))), some (.int (ei_ (b))), some (.int (ei_ ((-1))))], [.long ((ei_ (a)).toInt64), .ref 47], m)) rfl ?_
                refine pw_cv (congrArg (fun z_ : Int64 => ((21, [some (.ref 47), some (.int (ei_ (a))), some (.int (ei_ (b))), some (.int (ei_ ((-1))))], [.long z_, .ref 47], m) : am_S)) (el_i2l q0 rfl)) ?_
                refine pw_call (As := [.long (el_ (a))]) (st := []) (k := 47) rfl rfl rfl rfl rfl (Nat.le_of_ble_eq_true rfl) ?_
                refine pw_intro (I := iX9_isOne) (T := tX9_isOne) rfl rfl rfl ?_
                refine pw_steps 3 (s' := (3, [some (.ref 47), some (.long (el_ (a))), none], [.ref 47, .long (el_ (0)), .long (el_ (a))], m)) rfl ?_
                refine pw_get rfl rfl (fun x96 (hx96 : x96 = vi_ m 47 6) rx96 sx96 => ?_)
                refine pw_steps 3 (s' := (9, [some (.ref 47), some (.long (el_ (a))), none], [.long (((ei_ (x96)) - (ei_ (1))).toInt64), .long (el_ (0)), .long (el_ (a))], m)) rfl ?_
                refine pw_cv (congrArg (fun z_ : Int64 => ((9, [some (.ref 47), some (.long (el_ (a))), none], [.long z_, .long (el_ (0)), .long (el_ (a))], m) : am_S)) (el_i2l (by omega) (ei_sub rfl rfl))) ?_
                refine pw_callS (As := [.long (el_ (a)), .long (el_ (0)), .long (el_ ((x96 - 1)))]) (st := []) rfl (by decide) rfl rfl (Nat.le_of_ble_eq_true rfl) ?_
                refine mt_within (by omega) (by omega) (by omega) (fun g97 g98 => ?_) (fun g99 => ?_) (fun g100 => ?_)
                · refine pw_iret rfl rfl rfl ?_
                  refine pw_ifT rfl (by decide) (show ¬ 1 = 0 by decide) ?_
                  refine pw_steps 1 (s' := (30, [some (.ref 47), some (.int (ei_ (a))), some (.int (ei_ (b))), some (.int (ei_ ((-1))))], [.int (ei_ (b))], m)) rfl ?_
                  rcases (show b = 10 by omega) with h101
                  · refine pw_tab 0 60 rfl q1 (by omega) (by omega) rfl ?_
                    refine pw_steps 3 (s' := (65, [some (.ref 47), some (.int (ei_ (a))), some (.int (ei_ (b))), some (.int (ei_ ((-1))))], [.int (ei_ (a)), .ref 52], m)) rfl ?_
                    refine pw_ild rfl rfl (by omega) (fun x102 (hx102 : x102 = vi_ m 52 a) rx102 sx102 => ?_)
                    have b103 := hmw a (by omega) (by omega)
                    have b103b := (hd.2.2.1 a (by omega) (by omega)).1
                    refine pw_iret rfl rfl rfl ?_
                    have hx_ : (x102 : Int) = x88 := by omega
                    exact ⟨x88, rfl, congrArg (fun z_ : Int => some (Value.int (ei_ z_))) hx_, rR_sm (sm_rfl m) hR⟩
                · exact False.elim (by omega)
                · exact False.elim (by omega)
              · refine pw_steps 4 (s' := (44, [some (.ref 47), some (.int (ei_ (a))), some (.int (ei_ (b)))], [.long (el_ (5)), .long (el_ (4)), .long ((ei_ (b)).toInt64)], m)) rfl ?_
                refine pw_cv (congrArg (fun z_ : Int64 => ((44, [some (.ref 47), some (.int (ei_ (a))), some (.int (ei_ (b)))], [.long (el_ (5)), .long (el_ (4)), .long z_], m) : am_S)) (el_i2l q1 rfl)) ?_
                refine pw_callS (As := [.long (el_ (b)), .long (el_ (4)), .long (el_ (5))]) (st := []) rfl (by decide) rfl rfl (Nat.le_of_ble_eq_true rfl) ?_
                refine mt_within (by omega) (by omega) (by omega) (fun g104 g105 => ?_) (fun g106 => ?_) (fun g107 => ?_)
                · exact False.elim (by omega)
                · exact False.elim (by omega)
                · refine pw_ifT rfl (by decide) (show 0 = 0 by decide) ?_
                  refine pw_steps 1 (s' := (60, [some (.ref 47), some (.int (ei_ (a))), some (.int (ei_ (b)))], [.int (ei_ ((-1)))], m)) rfl ?_
                  refine pw_iret rfl rfl rfl ?_
                  refine pw_steps 2 (s' := (8, [some (.ref 47), some (.int (ei_ (a))), some (.int (ei_ (b))), some (.int (ei_ ((-1))))], [.int (ei_ ((-1)))], m)) rfl ?_
                  refine pw_ifT rfl (by decide) (show (-1) < 0 by decide) ?_
                  refine pw_steps 3 (s' := (21, [some (.ref 47), some (.int (ei_ (a))), some (.int (ei_ (b))), some (.int (ei_ ((-1))))], [.long ((ei_ (a)).toInt64), .ref 47], m)) rfl ?_
                  refine pw_cv (congrArg (fun z_ : Int64 => ((21, [some (.ref 47), some (.int (ei_ (a))), some (.int (ei_ (b))), some (.int (ei_ ((-1))))], [.long z_, .ref 47], m) : am_S)) (el_i2l q0 rfl)) ?_
                  refine pw_call (As := [.long (el_ (a))]) (st := []) (k := 47) rfl rfl rfl rfl rfl (Nat.le_of_ble_eq_true rfl) ?_
                  refine pw_intro (I := iX9_isOne) (T := tX9_isOne) rfl rfl rfl ?_
                  refine pw_steps 3 (s' := (3, [some (.ref 47), some (.long (el_ (a))), none], [.ref 47, .long (el_ (0)), .long (el_ (a))], m)) rfl ?_
                  refine pw_get rfl rfl (fun x108 (hx108 : x108 = vi_ m 47 6) rx108 sx108 => ?_)
                  refine pw_steps 3 (s' := (9, [some (.ref 47), some (.long (el_ (a))), none], [.long (((ei_ (x108)) - (ei_ (1))).toInt64), .long (el_ (0)), .long (el_ (a))], m)) rfl ?_
                  refine pw_cv (congrArg (fun z_ : Int64 => ((9, [some (.ref 47), some (.long (el_ (a))), none], [.long z_, .long (el_ (0)), .long (el_ (a))], m) : am_S)) (el_i2l (by omega) (ei_sub rfl rfl))) ?_
                  refine pw_callS (As := [.long (el_ (a)), .long (el_ (0)), .long (el_ ((x108 - 1)))]) (st := []) rfl (by decide) rfl rfl (Nat.le_of_ble_eq_true rfl) ?_
                  refine mt_within (by omega) (by omega) (by omega) (fun g109 g110 => ?_) (fun g111 => ?_) (fun g112 => ?_)
                  · refine pw_iret rfl rfl rfl ?_
                    refine pw_ifT rfl (by decide) (show ¬ 1 = 0 by decide) ?_
                    refine pw_steps 1 (s' := (30, [some (.ref 47), some (.int (ei_ (a))), some (.int (ei_ (b))), some (.int (ei_ ((-1))))], [.int (ei_ (b))], m)) rfl ?_
                    rcases (show b = 10 by omega) with h113
                    · refine pw_tab 0 60 rfl q1 (by omega) (by omega) rfl ?_
                      refine pw_steps 3 (s' := (65, [some (.ref 47), some (.int (ei_ (a))), some (.int (ei_ (b))), some (.int (ei_ ((-1))))], [.int (ei_ (a)), .ref 52], m)) rfl ?_
                      refine pw_ild rfl rfl (by omega) (fun x114 (hx114 : x114 = vi_ m 52 a) rx114 sx114 => ?_)
                      have b115 := hmw a (by omega) (by omega)
                      have b115b := (hd.2.2.1 a (by omega) (by omega)).1
                      refine pw_iret rfl rfl rfl ?_
                      have hx_ : (x114 : Int) = x88 := by omega
                      exact ⟨x88, rfl, congrArg (fun z_ : Int => some (Value.int (ei_ z_))) hx_, rR_sm (sm_rfl m) hR⟩
                  · exact False.elim (by omega)
                  · exact False.elim (by omega)
          · refine pw_tab 1 89 rfl q1 (by omega) (by omega) rfl ?_
            refine pw_steps 3 (s' := (94, [some (.ref 0), some (.int (ei_ (a))), some (.int (ei_ (b)))], [.int (ei_ (a)), .ref 3], m)) rfl ?_
            refine pw_call (As := [.int (ei_ (a))]) (st := []) (k := 3) rfl rfl rfl rfl rfl (Nat.le_of_ble_eq_true rfl) ?_
            refine cw_leftOf2 ((sm_rfl m)) (by omega) (fun x116 g117 g118 => ?_)
            refine pw_iret rfl rfl rfl ?_
            refine pw_intro (I := iX9_of) (T := tX9_of) rfl rfl rfl ?_
            refine pw_steps 3 (s' := (3, [some (.ref 47), some (.int (ei_ (a))), some (.int (ei_ (b))), none], [.int (ei_ (b)), .int (ei_ (a)), .ref 47], m)) rfl ?_
            refine pw_call (As := [.int (ei_ (a)), .int (ei_ (b))]) (st := []) (k := 47) rfl rfl rfl rfl rfl (Nat.le_of_ble_eq_true rfl) ?_
            refine pw_intro (I := iX9_placeOf) (T := tX9_placeOf) rfl rfl rfl ?_
            refine pw_steps 4 (s' := (6, [some (.ref 47), some (.int (ei_ (a))), some (.int (ei_ (b)))], [.long (el_ (3)), .long (el_ (0)), .long ((ei_ (b)).toInt64)], m)) rfl ?_
            refine pw_cv (congrArg (fun z_ : Int64 => ((6, [some (.ref 47), some (.int (ei_ (a))), some (.int (ei_ (b)))], [.long (el_ (3)), .long (el_ (0)), .long z_], m) : am_S)) (el_i2l q1 rfl)) ?_
            refine pw_callS (As := [.long (el_ (b)), .long (el_ (0)), .long (el_ (3))]) (st := []) rfl (by decide) rfl rfl (Nat.le_of_ble_eq_true rfl) ?_
            refine mt_within (by omega) (by omega) (by omega) (fun g119 g120 => ?_) (fun g121 => ?_) (fun g122 => ?_)
            · exact False.elim (by omega)
            · exact False.elim (by omega)
            · refine pw_ifT rfl (by decide) (show 0 = 0 by decide) ?_
              refine pw_steps 1 (s' := (33, [some (.ref 47), some (.int (ei_ (a))), some (.int (ei_ (b)))], [.int (ei_ (a))], m)) rfl ?_
              refine pw_if rfl q0 (fun (h123 : ¬ a = 0) => ?_) (fun (h123 : ¬ ¬ a = 0) => ?_)
              · refine pw_steps 1 (s' := (60, [some (.ref 47), some (.int (ei_ (a))), some (.int (ei_ (b)))], [.int (ei_ ((-1)))], m)) rfl ?_
                refine pw_iret rfl rfl rfl ?_
                refine pw_steps 2 (s' := (8, [some (.ref 47), some (.int (ei_ (a))), some (.int (ei_ (b))), some (.int (ei_ ((-1))))], [.int (ei_ ((-1)))], m)) rfl ?_
                refine pw_ifT rfl (by decide) (show (-1) < 0 by decide) ?_
                refine pw_steps 3 (s' := (21, [some (.ref 47), some (.int (ei_ (a))), some (.int (ei_ (b))), some (.int (ei_ ((-1))))], [.long ((ei_ (a)).toInt64), .ref 47], m)) rfl ?_
                refine pw_cv (congrArg (fun z_ : Int64 => ((21, [some (.ref 47), some (.int (ei_ (a))), some (.int (ei_ (b))), some (.int (ei_ ((-1))))], [.long z_, .ref 47], m) : am_S)) (el_i2l q0 rfl)) ?_
                refine pw_call (As := [.long (el_ (a))]) (st := []) (k := 47) rfl rfl rfl rfl rfl (Nat.le_of_ble_eq_true rfl) ?_
                refine pw_intro (I := iX9_isOne) (T := tX9_isOne) rfl rfl rfl ?_
                refine pw_steps 3 (s' := (3, [some (.ref 47), some (.long (el_ (a))), none], [.ref 47, .long (el_ (0)), .long (el_ (a))], m)) rfl ?_
                refine pw_get rfl rfl (fun x124 (hx124 : x124 = vi_ m 47 6) rx124 sx124 => ?_)
                refine pw_steps 3 (s' := (9, [some (.ref 47), some (.long (el_ (a))), none], [.long (((ei_ (x124)) - (ei_ (1))).toInt64), .long (el_ (0)), .long (el_ (a))], m)) rfl ?_
                refine pw_cv (congrArg (fun z_ : Int64 => ((9, [some (.ref 47), some (.long (el_ (a))), none], [.long z_, .long (el_ (0)), .long (el_ (a))], m) : am_S)) (el_i2l (by omega) (ei_sub rfl rfl))) ?_
                refine pw_callS (As := [.long (el_ (a)), .long (el_ (0)), .long (el_ ((x124 - 1)))]) (st := []) rfl (by decide) rfl rfl (Nat.le_of_ble_eq_true rfl) ?_
                refine mt_within (by omega) (by omega) (by omega) (fun g125 g126 => ?_) (fun g127 => ?_) (fun g128 => ?_)
                · refine pw_iret rfl rfl rfl ?_
                  refine pw_ifT rfl (by decide) (show ¬ 1 = 0 by decide) ?_
                  refine pw_steps 1 (s' := (30, [some (.ref 47), some (.int (ei_ (a))), some (.int (ei_ (b))), some (.int (ei_ ((-1))))], [.int (ei_ (b))], m)) rfl ?_
                  rcases (show b = 11 by omega) with h129
                  · refine pw_tab 1 67 rfl q1 (by omega) (by omega) rfl ?_
                    refine pw_steps 3 (s' := (72, [some (.ref 47), some (.int (ei_ (a))), some (.int (ei_ (b))), some (.int (ei_ ((-1))))], [.int (ei_ (a)), .ref 53], m)) rfl ?_
                    refine pw_ild rfl rfl (by omega) (fun x130 (hx130 : x130 = vi_ m 53 a) rx130 sx130 => ?_)
                    have b131 := hmf a (by omega) (by omega)
                    have b131b := (hd.2.2.1 a (by omega) (by omega)).2
                    refine pw_iret rfl rfl rfl ?_
                    have hx_ : (x130 : Int) = x116 := by omega
                    exact ⟨x116, rfl, congrArg (fun z_ : Int => some (Value.int (ei_ z_))) hx_, rR_sm (sm_rfl m) hR⟩
                · exact False.elim (by omega)
                · exact False.elim (by omega)
              · refine pw_steps 4 (s' := (44, [some (.ref 47), some (.int (ei_ (a))), some (.int (ei_ (b)))], [.long (el_ (5)), .long (el_ (4)), .long ((ei_ (b)).toInt64)], m)) rfl ?_
                refine pw_cv (congrArg (fun z_ : Int64 => ((44, [some (.ref 47), some (.int (ei_ (a))), some (.int (ei_ (b)))], [.long (el_ (5)), .long (el_ (4)), .long z_], m) : am_S)) (el_i2l q1 rfl)) ?_
                refine pw_callS (As := [.long (el_ (b)), .long (el_ (4)), .long (el_ (5))]) (st := []) rfl (by decide) rfl rfl (Nat.le_of_ble_eq_true rfl) ?_
                refine mt_within (by omega) (by omega) (by omega) (fun g132 g133 => ?_) (fun g134 => ?_) (fun g135 => ?_)
                · exact False.elim (by omega)
                · exact False.elim (by omega)
                · refine pw_ifT rfl (by decide) (show 0 = 0 by decide) ?_
                  refine pw_steps 1 (s' := (60, [some (.ref 47), some (.int (ei_ (a))), some (.int (ei_ (b)))], [.int (ei_ ((-1)))], m)) rfl ?_
                  refine pw_iret rfl rfl rfl ?_
                  refine pw_steps 2 (s' := (8, [some (.ref 47), some (.int (ei_ (a))), some (.int (ei_ (b))), some (.int (ei_ ((-1))))], [.int (ei_ ((-1)))], m)) rfl ?_
                  refine pw_ifT rfl (by decide) (show (-1) < 0 by decide) ?_
                  refine pw_steps 3 (s' := (21, [some (.ref 47), some (.int (ei_ (a))), some (.int (ei_ (b))), some (.int (ei_ ((-1))))], [.long ((ei_ (a)).toInt64), .ref 47], m)) rfl ?_
                  refine pw_cv (congrArg (fun z_ : Int64 => ((21, [some (.ref 47), some (.int (ei_ (a))), some (.int (ei_ (b))), some (.int (ei_ ((-1))))], [.long z_, .ref 47], m) : am_S)) (el_i2l q0 rfl)) ?_
                  refine pw_call (As := [.long (el_ (a))]) (st := []) (k := 47) rfl rfl rfl rfl rfl (Nat.le_of_ble_eq_true rfl) ?_
                  refine pw_intro (I := iX9_isOne) (T := tX9_isOne) rfl rfl rfl ?_
                  refine pw_steps 3 (s' := (3, [some (.ref 47), some (.long (el_ (a))), none], [.ref 47, .long (el_ (0)), .long (el_ (a))], m)) rfl ?_
                  refine pw_get rfl rfl (fun x136 (hx136 : x136 = vi_ m 47 6) rx136 sx136 => ?_)
                  refine pw_steps 3 (s' := (9, [some (.ref 47), some (.long (el_ (a))), none], [.long (((ei_ (x136)) - (ei_ (1))).toInt64), .long (el_ (0)), .long (el_ (a))], m)) rfl ?_
                  refine pw_cv (congrArg (fun z_ : Int64 => ((9, [some (.ref 47), some (.long (el_ (a))), none], [.long z_, .long (el_ (0)), .long (el_ (a))], m) : am_S)) (el_i2l (by omega) (ei_sub rfl rfl))) ?_
                  refine pw_callS (As := [.long (el_ (a)), .long (el_ (0)), .long (el_ ((x136 - 1)))]) (st := []) rfl (by decide) rfl rfl (Nat.le_of_ble_eq_true rfl) ?_
                  refine mt_within (by omega) (by omega) (by omega) (fun g137 g138 => ?_) (fun g139 => ?_) (fun g140 => ?_)
                  · refine pw_iret rfl rfl rfl ?_
                    refine pw_ifT rfl (by decide) (show ¬ 1 = 0 by decide) ?_
                    refine pw_steps 1 (s' := (30, [some (.ref 47), some (.int (ei_ (a))), some (.int (ei_ (b))), some (.int (ei_ ((-1))))], [.int (ei_ (b))], m)) rfl ?_
                    rcases (show b = 11 by omega) with h141
                    · refine pw_tab 1 67 rfl q1 (by omega) (by omega) rfl ?_
                      refine pw_steps 3 (s' := (72, [some (.ref 47), some (.int (ei_ (a))), some (.int (ei_ (b))), some (.int (ei_ ((-1))))], [.int (ei_ (a)), .ref 53], m)) rfl ?_
                      refine pw_ild rfl rfl (by omega) (fun x142 (hx142 : x142 = vi_ m 53 a) rx142 sx142 => ?_)
                      have b143 := hmf a (by omega) (by omega)
                      have b143b := (hd.2.2.1 a (by omega) (by omega)).2
                      refine pw_iret rfl rfl rfl ?_
                      have hx_ : (x142 : Int) = x116 := by omega
                      exact ⟨x116, rfl, congrArg (fun z_ : Int => some (Value.int (ei_ z_))) hx_, rR_sm (sm_rfl m) hR⟩
                  · exact False.elim (by omega)
                  · exact False.elim (by omega)
          · refine pw_tab 2 98 rfl q1 (by omega) (by omega) rfl ?_
            refine pw_steps 5 (s' := (105, [some (.ref 0), some (.int (ei_ (a))), some (.int (ei_ (b)))], [.int (ei_ (a)), .ref 3, .int (ei_ (a)), .ref 0], m)) rfl ?_
            refine pw_call (As := [.int (ei_ (a))]) (st := [.int (ei_ (a)), .ref 0]) (k := 3) rfl rfl rfl rfl rfl (Nat.le_of_ble_eq_true rfl) ?_
            refine cw_leftOf2 ((sm_rfl m)) (by omega) (fun x144 g145 g146 => ?_)
            refine pw_call (As := [.int (ei_ (a)), .int (ei_ (x144))]) (st := []) (k := 0) rfl rfl rfl rfl rfl (Nat.le_of_ble_eq_true rfl) ?_
            refine pw_intro (I := iX8_cracks) (T := tX8_cracks) rfl rfl rfl ?_
            refine pw_steps 6 (s' := (9, [some (.ref 0), some (.int (ei_ (a))), some (.int (ei_ (x144)))], [.int (ei_ (0)), .int (ei_ (a)), .ref 1, .int (ei_ (10)), .int (ei_ (x144))], m)) rfl ?_
            refine pw_call (As := [.int (ei_ (a)), .int (ei_ (0))]) (st := [.int (ei_ (10)), .int (ei_ (x144))]) (k := 1) rfl rfl rfl rfl rfl (Nat.le_of_ble_eq_true rfl) ?_
            refine cw_told0 (hp) ((sm_rfl m)) (by omega) (fun x147 g148 g149 => ?_)
            refine pw_steps 1 (s' := (13, [some (.ref 0), some (.int (ei_ (a))), some (.int (ei_ (x144)))], [.int ((ei_ (10)) * (ei_ (x147))), .int (ei_ (x144))], m)) rfl ?_
            refine pw_cv (congrArg (fun z_ : Int32 => ((13, [some (.ref 0), some (.int (ei_ (a))), some (.int (ei_ (x144)))], [.int z_, .int (ei_ (x144))], m) : am_S)) (ei_mul rfl rfl)) ?_
            refine pw_cmp rfl (by omega) (by omega) (fun (h150 : (10 * x147) ≤ x144) => ?_) (fun (h150 : ¬ ((10 * x147) ≤ x144)) => ?_)
            · refine pw_steps 1 (s' := (21, [some (.ref 0), some (.int (ei_ (a))), some (.int (ei_ (x144)))], [.int (ei_ (0))], m)) rfl ?_
              refine pw_iret rfl rfl rfl ?_
              refine pw_ifT rfl (by decide) (show 0 = 0 by decide) ?_
              refine pw_steps 1 (s' := (119, [some (.ref 0), some (.int (ei_ (a))), some (.int (ei_ (b)))], [.int (ei_ (0))], m)) rfl ?_
              refine pw_iret rfl rfl rfl ?_
              refine pw_intro (I := iX9_of) (T := tX9_of) rfl rfl rfl ?_
              refine pw_steps 3 (s' := (3, [some (.ref 47), some (.int (ei_ (a))), some (.int (ei_ (b))), none], [.int (ei_ (b)), .int (ei_ (a)), .ref 47], m)) rfl ?_
              refine pw_call (As := [.int (ei_ (a)), .int (ei_ (b))]) (st := []) (k := 47) rfl rfl rfl rfl rfl (Nat.le_of_ble_eq_true rfl) ?_
              refine pw_intro (I := iX9_placeOf) (T := tX9_placeOf) rfl rfl rfl ?_
              refine pw_steps 4 (s' := (6, [some (.ref 47), some (.int (ei_ (a))), some (.int (ei_ (b)))], [.long (el_ (3)), .long (el_ (0)), .long ((ei_ (b)).toInt64)], m)) rfl ?_
              refine pw_cv (congrArg (fun z_ : Int64 => ((6, [some (.ref 47), some (.int (ei_ (a))), some (.int (ei_ (b)))], [.long (el_ (3)), .long (el_ (0)), .long z_], m) : am_S)) (el_i2l q1 rfl)) ?_
              refine pw_callS (As := [.long (el_ (b)), .long (el_ (0)), .long (el_ (3))]) (st := []) rfl (by decide) rfl rfl (Nat.le_of_ble_eq_true rfl) ?_
              refine mt_within (by omega) (by omega) (by omega) (fun g151 g152 => ?_) (fun g153 => ?_) (fun g154 => ?_)
              · exact False.elim (by omega)
              · exact False.elim (by omega)
              · refine pw_ifT rfl (by decide) (show 0 = 0 by decide) ?_
                refine pw_steps 1 (s' := (33, [some (.ref 47), some (.int (ei_ (a))), some (.int (ei_ (b)))], [.int (ei_ (a))], m)) rfl ?_
                refine pw_if rfl q0 (fun (h155 : ¬ a = 0) => ?_) (fun (h155 : ¬ ¬ a = 0) => ?_)
                · refine pw_steps 1 (s' := (60, [some (.ref 47), some (.int (ei_ (a))), some (.int (ei_ (b)))], [.int (ei_ ((-1)))], m)) rfl ?_
                  refine pw_iret rfl rfl rfl ?_
                  refine pw_steps 2 (s' := (8, [some (.ref 47), some (.int (ei_ (a))), some (.int (ei_ (b))), some (.int (ei_ ((-1))))], [.int (ei_ ((-1)))], m)) rfl ?_
                  refine pw_ifT rfl (by decide) (show (-1) < 0 by decide) ?_
                  refine pw_steps 3 (s' := (21, [some (.ref 47), some (.int (ei_ (a))), some (.int (ei_ (b))), some (.int (ei_ ((-1))))], [.long ((ei_ (a)).toInt64), .ref 47], m)) rfl ?_
                  refine pw_cv (congrArg (fun z_ : Int64 => ((21, [some (.ref 47), some (.int (ei_ (a))), some (.int (ei_ (b))), some (.int (ei_ ((-1))))], [.long z_, .ref 47], m) : am_S)) (el_i2l q0 rfl)) ?_
                  refine pw_call (As := [.long (el_ (a))]) (st := []) (k := 47) rfl rfl rfl rfl rfl (Nat.le_of_ble_eq_true rfl) ?_
                  refine pw_intro (I := iX9_isOne) (T := tX9_isOne) rfl rfl rfl ?_
                  refine pw_steps 3 (s' := (3, [some (.ref 47), some (.long (el_ (a))), none], [.ref 47, .long (el_ (0)), .long (el_ (a))], m)) rfl ?_
                  refine pw_get rfl rfl (fun x156 (hx156 : x156 = vi_ m 47 6) rx156 sx156 => ?_)
                  refine pw_steps 3 (s' := (9, [some (.ref 47), some (.long (el_ (a))), none], [.long (((ei_ (x156)) - (ei_ (1))).toInt64), .long (el_ (0)), .long (el_ (a))], m)) rfl ?_
                  refine pw_cv (congrArg (fun z_ : Int64 => ((9, [some (.ref 47), some (.long (el_ (a))), none], [.long z_, .long (el_ (0)), .long (el_ (a))], m) : am_S)) (el_i2l (by omega) (ei_sub rfl rfl))) ?_
                  refine pw_callS (As := [.long (el_ (a)), .long (el_ (0)), .long (el_ ((x156 - 1)))]) (st := []) rfl (by decide) rfl rfl (Nat.le_of_ble_eq_true rfl) ?_
                  refine mt_within (by omega) (by omega) (by omega) (fun g157 g158 => ?_) (fun g159 => ?_) (fun g160 => ?_)
                  · refine pw_iret rfl rfl rfl ?_
                    refine pw_ifT rfl (by decide) (show ¬ 1 = 0 by decide) ?_
                    refine pw_steps 1 (s' := (30, [some (.ref 47), some (.int (ei_ (a))), some (.int (ei_ (b))), some (.int (ei_ ((-1))))], [.int (ei_ (b))], m)) rfl ?_
                    rcases (show b = 12 by omega) with h161
                    · refine pw_tab 2 74 rfl q1 (by omega) (by omega) rfl ?_
                      refine pw_steps 3 (s' := (79, [some (.ref 47), some (.int (ei_ (a))), some (.int (ei_ (b))), some (.int (ei_ ((-1))))], [.int (ei_ (a)), .ref 53], m)) rfl ?_
                      refine pw_ild rfl rfl (by omega) (fun x162 (hx162 : x162 = vi_ m 53 a) rx162 sx162 => ?_)
                      have b163 := hmf a (by omega) (by omega)
                      have b163b := (hd.2.2.1 a (by omega) (by omega)).2
                      refine pw_steps 4 (s' := (85, [some (.ref 47), some (.int (ei_ (a))), some (.int (ei_ (b))), some (.int (ei_ ((-1))))], [.int (ei_ (0)), .int (ei_ (a)), .ref 47, .int (ei_ (10)), .int (ei_ (x162))], m)) rfl ?_
                      refine pw_call (As := [.int (ei_ (a)), .int (ei_ (0))]) (st := [.int (ei_ (10)), .int (ei_ (x162))]) (k := 47) rfl rfl rfl rfl rfl (Nat.le_of_ble_eq_true rfl) ?_
                      refine pw_intro (I := iX9_ofOne) (T := tX9_ofOne) rfl rfl rfl ?_
                      refine pw_steps 7 (s' := (10, [some (.ref 47), some (.int (ei_ (a))), some (.int (ei_ (0)))], [.int (((ei_ (8)) * (ei_ (0))) + (ei_ (a))), .ref 48], m)) rfl ?_
                      refine pw_cv (congrArg (fun z_ : Int32 => ((10, [some (.ref 47), some (.int (ei_ (a))), some (.int (ei_ (0)))], [.int z_, .ref 48], m) : am_S)) (ei_add (ei_mul rfl rfl) rfl)) ?_
                      refine pw_ild rfl rfl (by omega) (fun x164 (hx164 : x164 = vi_ m 48 (0 + a)) rx164 sx164 => ?_)
                      have ox164 := hx164
                      have b165 := hP3 (0 + a) (by omega) (by omega)
                      rw [b165.2.2] at hx164
                      try rw [Int.zero_add] at hx164 b165
                      refine pw_iret rfl rfl rfl ?_
                      refine pw_steps 1 (s' := (89, [some (.ref 47), some (.int (ei_ (a))), some (.int (ei_ (b))), some (.int (ei_ ((-1))))], [.int ((ei_ (10)) * (ei_ (x164))), .int (ei_ (x162))], m)) rfl ?_
                      refine pw_cv (congrArg (fun z_ : Int32 => ((89, [some (.ref 47), some (.int (ei_ (a))), some (.int (ei_ (b))), some (.int (ei_ ((-1))))], [.int z_, .int (ei_ (x162))], m) : am_S)) (ei_mul rfl rfl)) ?_
                      refine pw_cmp rfl ⟨rx162, sx162⟩ (by omega) (fun (h166 : (10 * x164) ≤ x162) => ?_) (fun (h166 : ¬ ((10 * x164) ≤ x162)) => ?_)
                      · refine pw_steps 1 (s' := (97, [some (.ref 47), some (.int (ei_ (a))), some (.int (ei_ (b))), some (.int (ei_ ((-1))))], [.int (ei_ (0))], m)) rfl ?_
                        refine pw_iret rfl rfl rfl ?_
                        have hx_ : (0 : Int) = 0 := by rfl
                        exact ⟨0, rfl, congrArg (fun z_ : Int => some (Value.int (ei_ z_))) hx_, rR_sm (sm_rfl m) hR⟩
                      · refine pw_steps 2 (s' := (97, [some (.ref 47), some (.int (ei_ (a))), some (.int (ei_ (b))), some (.int (ei_ ((-1))))], [.int (ei_ (1))], m)) rfl ?_
                        refine pw_iret rfl rfl rfl ?_
                        have hx_ : (1 : Int) = 0 := by omega
                        exact ⟨0, rfl, congrArg (fun z_ : Int => some (Value.int (ei_ z_))) hx_, rR_sm (sm_rfl m) hR⟩
                  · exact False.elim (by omega)
                  · exact False.elim (by omega)
                · refine pw_steps 4 (s' := (44, [some (.ref 47), some (.int (ei_ (a))), some (.int (ei_ (b)))], [.long (el_ (5)), .long (el_ (4)), .long ((ei_ (b)).toInt64)], m)) rfl ?_
                  refine pw_cv (congrArg (fun z_ : Int64 => ((44, [some (.ref 47), some (.int (ei_ (a))), some (.int (ei_ (b)))], [.long (el_ (5)), .long (el_ (4)), .long z_], m) : am_S)) (el_i2l q1 rfl)) ?_
                  refine pw_callS (As := [.long (el_ (b)), .long (el_ (4)), .long (el_ (5))]) (st := []) rfl (by decide) rfl rfl (Nat.le_of_ble_eq_true rfl) ?_
                  refine mt_within (by omega) (by omega) (by omega) (fun g167 g168 => ?_) (fun g169 => ?_) (fun g170 => ?_)
                  · exact False.elim (by omega)
                  · exact False.elim (by omega)
                  · refine pw_ifT rfl (by decide) (show 0 = 0 by decide) ?_
                    refine pw_steps 1 (s' := (60, [some (.ref 47), some (.int (ei_ (a))), some (.int (ei_ (b)))], [.int (ei_ ((-1)))], m)) rfl ?_
                    refine pw_iret rfl rfl rfl ?_
                    refine pw_steps 2 (s' := (8, [some (.ref 47), some (.int (ei_ (a))), some (.int (ei_ (b))), some (.int (ei_ ((-1))))], [.int (ei_ ((-1)))], m)) rfl ?_
                    refine pw_ifT rfl (by decide) (show (-1) < 0 by decide) ?_
                    refine pw_steps 3 (s' := (21, [some (.ref 47), some (.int (ei_ (a))), some (.int (ei_ (b))), some (.int (ei_ ((-1))))], [.long ((ei_ (a)).toInt64), .ref 47], m)) rfl ?_
                    refine pw_cv (congrArg (fun z_ : Int64 => ((21, [some (.ref 47), some (.int (ei_ (a))), some (.int (ei_ (b))), some (.int (ei_ ((-1))))], [.long z_, .ref 47], m) : am_S)) (el_i2l q0 rfl)) ?_
                    refine pw_call (As := [.long (el_ (a))]) (st := []) (k := 47) rfl rfl rfl rfl rfl (Nat.le_of_ble_eq_true rfl) ?_
                    refine pw_intro (I := iX9_isOne) (T := tX9_isOne) rfl rfl rfl ?_
                    refine pw_steps 3 (s' := (3, [some (.ref 47), some (.long (el_ (a))), none], [.ref 47, .long (el_ (0)), .long (el_ (a))], m)) rfl ?_
                    refine pw_get rfl rfl (fun x171 (hx171 : x171 = vi_ m 47 6) rx171 sx171 => ?_)
                    refine pw_steps 3 (s' := (9, [some (.ref 47), some (.long (el_ (a))), none], [.long (((ei_ (x171)) - (ei_ (1))).toInt64), .long (el_ (0)), .long (el_ (a))], m)) rfl ?_
                    refine pw_cv (congrArg (fun z_ : Int64 => ((9, [some (.ref 47), some (.long (el_ (a))), none], [.long z_, .long (el_ (0)), .long (el_ (a))], m) : am_S)) (el_i2l (by omega) (ei_sub rfl rfl))) ?_
                    refine pw_callS (As := [.long (el_ (a)), .long (el_ (0)), .long (el_ ((x171 - 1)))]) (st := []) rfl (by decide) rfl rfl (Nat.le_of_ble_eq_true rfl) ?_
                    refine mt_within (by omega) (by omega) (by omega) (fun g172 g173 => ?_) (fun g174 => ?_) (fun g175 => ?_)
                    · refine pw_iret rfl rfl rfl ?_
                      refine pw_ifT rfl (by decide) (show ¬ 1 = 0 by decide) ?_
                      refine pw_steps 1 (s' := (30, [some (.ref 47), some (.int (ei_ (a))), some (.int (ei_ (b))), some (.int (ei_ ((-1))))], [.int (ei_ (b))], m)) rfl ?_
                      rcases (show b = 12 by omega) with h176
                      · refine pw_tab 2 74 rfl q1 (by omega) (by omega) rfl ?_
                        refine pw_steps 3 (s' := (79, [some (.ref 47), some (.int (ei_ (a))), some (.int (ei_ (b))), some (.int (ei_ ((-1))))], [.int (ei_ (a)), .ref 53], m)) rfl ?_
                        refine pw_ild rfl rfl (by omega) (fun x177 (hx177 : x177 = vi_ m 53 a) rx177 sx177 => ?_)
                        have b178 := hmf a (by omega) (by omega)
                        have b178b := (hd.2.2.1 a (by omega) (by omega)).2
                        refine pw_steps 4 (s' := (85, [some (.ref 47), some (.int (ei_ (a))), some (.int (ei_ (b))), some (.int (ei_ ((-1))))], [.int (ei_ (0)), .int (ei_ (a)), .ref 47, .int (ei_ (10)), .int (ei_ (x177))], m)) rfl ?_
                        refine pw_call (As := [.int (ei_ (a)), .int (ei_ (0))]) (st := [.int (ei_ (10)), .int (ei_ (x177))]) (k := 47) rfl rfl rfl rfl rfl (Nat.le_of_ble_eq_true rfl) ?_
                        refine pw_intro (I := iX9_ofOne) (T := tX9_ofOne) rfl rfl rfl ?_
                        refine pw_steps 7 (s' := (10, [some (.ref 47), some (.int (ei_ (a))), some (.int (ei_ (0)))], [.int (((ei_ (8)) * (ei_ (0))) + (ei_ (a))), .ref 48], m)) rfl ?_
                        refine pw_cv (congrArg (fun z_ : Int32 => ((10, [some (.ref 47), some (.int (ei_ (a))), some (.int (ei_ (0)))], [.int z_, .ref 48], m) : am_S)) (ei_add (ei_mul rfl rfl) rfl)) ?_
                        refine pw_ild rfl rfl (by omega) (fun x179 (hx179 : x179 = vi_ m 48 (0 + a)) rx179 sx179 => ?_)
                        have ox179 := hx179
                        have b180 := hP3 (0 + a) (by omega) (by omega)
                        rw [b180.2.2] at hx179
                        try rw [Int.zero_add] at hx179 b180
                        refine pw_iret rfl rfl rfl ?_
                        refine pw_steps 1 (s' := (89, [some (.ref 47), some (.int (ei_ (a))), some (.int (ei_ (b))), some (.int (ei_ ((-1))))], [.int ((ei_ (10)) * (ei_ (x179))), .int (ei_ (x177))], m)) rfl ?_
                        refine pw_cv (congrArg (fun z_ : Int32 => ((89, [some (.ref 47), some (.int (ei_ (a))), some (.int (ei_ (b))), some (.int (ei_ ((-1))))], [.int z_, .int (ei_ (x177))], m) : am_S)) (ei_mul rfl rfl)) ?_
                        refine pw_cmp rfl ⟨rx177, sx177⟩ (by omega) (fun (h181 : (10 * x179) ≤ x177) => ?_) (fun (h181 : ¬ ((10 * x179) ≤ x177)) => ?_)
                        · refine pw_steps 1 (s' := (97, [some (.ref 47), some (.int (ei_ (a))), some (.int (ei_ (b))), some (.int (ei_ ((-1))))], [.int (ei_ (0))], m)) rfl ?_
                          refine pw_iret rfl rfl rfl ?_
                          have hx_ : (0 : Int) = 0 := by rfl
                          exact ⟨0, rfl, congrArg (fun z_ : Int => some (Value.int (ei_ z_))) hx_, rR_sm (sm_rfl m) hR⟩
                        · refine pw_steps 2 (s' := (97, [some (.ref 47), some (.int (ei_ (a))), some (.int (ei_ (b))), some (.int (ei_ ((-1))))], [.int (ei_ (1))], m)) rfl ?_
                          refine pw_iret rfl rfl rfl ?_
                          have hx_ : (1 : Int) = 0 := by omega
                          exact ⟨0, rfl, congrArg (fun z_ : Int => some (Value.int (ei_ z_))) hx_, rR_sm (sm_rfl m) hR⟩
                    · exact False.elim (by omega)
                    · exact False.elim (by omega)
            · refine pw_steps 2 (s' := (21, [some (.ref 0), some (.int (ei_ (a))), some (.int (ei_ (x144)))], [.int (ei_ (1))], m)) rfl ?_
              refine pw_iret rfl rfl rfl ?_
              refine pw_ifF rfl (by decide) (show ¬ (1 = 0) by decide) ?_
              refine pw_steps 2 (s' := (119, [some (.ref 0), some (.int (ei_ (a))), some (.int (ei_ (b)))], [.int (ei_ (1))], m)) rfl ?_
              refine pw_iret rfl rfl rfl ?_
              refine pw_intro (I := iX9_of) (T := tX9_of) rfl rfl rfl ?_
              refine pw_steps 3 (s' := (3, [some (.ref 47), some (.int (ei_ (a))), some (.int (ei_ (b))), none], [.int (ei_ (b)), .int (ei_ (a)), .ref 47], m)) rfl ?_
              refine pw_call (As := [.int (ei_ (a)), .int (ei_ (b))]) (st := []) (k := 47) rfl rfl rfl rfl rfl (Nat.le_of_ble_eq_true rfl) ?_
              refine pw_intro (I := iX9_placeOf) (T := tX9_placeOf) rfl rfl rfl ?_
              refine pw_steps 4 (s' := (6, [some (.ref 47), some (.int (ei_ (a))), some (.int (ei_ (b)))], [.long (el_ (3)), .long (el_ (0)), .long ((ei_ (b)).toInt64)], m)) rfl ?_
              refine pw_cv (congrArg (fun z_ : Int64 => ((6, [some (.ref 47), some (.int (ei_ (a))), some (.int (ei_ (b)))], [.long (el_ (3)), .long (el_ (0)), .long z_], m) : am_S)) (el_i2l q1 rfl)) ?_
              refine pw_callS (As := [.long (el_ (b)), .long (el_ (0)), .long (el_ (3))]) (st := []) rfl (by decide) rfl rfl (Nat.le_of_ble_eq_true rfl) ?_
              refine mt_within (by omega) (by omega) (by omega) (fun g182 g183 => ?_) (fun g184 => ?_) (fun g185 => ?_)
              · exact False.elim (by omega)
              · exact False.elim (by omega)
              · refine pw_ifT rfl (by decide) (show 0 = 0 by decide) ?_
                refine pw_steps 1 (s' := (33, [some (.ref 47), some (.int (ei_ (a))), some (.int (ei_ (b)))], [.int (ei_ (a))], m)) rfl ?_
                refine pw_if rfl q0 (fun (h186 : ¬ a = 0) => ?_) (fun (h186 : ¬ ¬ a = 0) => ?_)
                · refine pw_steps 1 (s' := (60, [some (.ref 47), some (.int (ei_ (a))), some (.int (ei_ (b)))], [.int (ei_ ((-1)))], m)) rfl ?_
                  refine pw_iret rfl rfl rfl ?_
                  refine pw_steps 2 (s' := (8, [some (.ref 47), some (.int (ei_ (a))), some (.int (ei_ (b))), some (.int (ei_ ((-1))))], [.int (ei_ ((-1)))], m)) rfl ?_
                  refine pw_ifT rfl (by decide) (show (-1) < 0 by decide) ?_
                  refine pw_steps 3 (s' := (21, [some (.ref 47), some (.int (ei_ (a))), some (.int (ei_ (b))), some (.int (ei_ ((-1))))], [.long ((ei_ (a)).toInt64), .ref 47], m)) rfl ?_
                  refine pw_cv (congrArg (fun z_ : Int64 => ((21, [some (.ref 47), some (.int (ei_ (a))), some (.int (ei_ (b))), some (.int (ei_ ((-1))))], [.long z_, .ref 47], m) : am_S)) (el_i2l q0 rfl)) ?_
                  refine pw_call (As := [.long (el_ (a))]) (st := []) (k := 47) rfl rfl rfl rfl rfl (Nat.le_of_ble_eq_true rfl) ?_
                  refine pw_intro (I := iX9_isOne) (T := tX9_isOne) rfl rfl rfl ?_
                  refine pw_steps 3 (s' := (3, [some (.ref 47), some (.long (el_ (a))), none], [.ref 47, .long (el_ (0)), .long (el_ (a))], m)) rfl ?_
                  refine pw_get rfl rfl (fun x187 (hx187 : x187 = vi_ m 47 6) rx187 sx187 => ?_)
                  refine pw_steps 3 (s' := (9, [some (.ref 47), some (.long (el_ (a))), none], [.long (((ei_ (x187)) - (ei_ (1))).toInt64), .long (el_ (0)), .long (el_ (a))], m)) rfl ?_
                  refine pw_cv (congrArg (fun z_ : Int64 => ((9, [some (.ref 47), some (.long (el_ (a))), none], [.long z_, .long (el_ (0)), .long (el_ (a))], m) : am_S)) (el_i2l (by omega) (ei_sub rfl rfl))) ?_
                  refine pw_callS (As := [.long (el_ (a)), .long (el_ (0)), .long (el_ ((x187 - 1)))]) (st := []) rfl (by decide) rfl rfl (Nat.le_of_ble_eq_true rfl) ?_
                  refine mt_within (by omega) (by omega) (by omega) (fun g188 g189 => ?_) (fun g190 => ?_) (fun g191 => ?_)
                  · refine pw_iret rfl rfl rfl ?_
                    refine pw_ifT rfl (by decide) (show ¬ 1 = 0 by decide) ?_
                    refine pw_steps 1 (s' := (30, [some (.ref 47), some (.int (ei_ (a))), some (.int (ei_ (b))), some (.int (ei_ ((-1))))], [.int (ei_ (b))], m)) rfl ?_
                    rcases (show b = 12 by omega) with h192
                    · refine pw_tab 2 74 rfl q1 (by omega) (by omega) rfl ?_
                      refine pw_steps 3 (s' := (79, [some (.ref 47), some (.int (ei_ (a))), some (.int (ei_ (b))), some (.int (ei_ ((-1))))], [.int (ei_ (a)), .ref 53], m)) rfl ?_
                      refine pw_ild rfl rfl (by omega) (fun x193 (hx193 : x193 = vi_ m 53 a) rx193 sx193 => ?_)
                      have b194 := hmf a (by omega) (by omega)
                      have b194b := (hd.2.2.1 a (by omega) (by omega)).2
                      refine pw_steps 4 (s' := (85, [some (.ref 47), some (.int (ei_ (a))), some (.int (ei_ (b))), some (.int (ei_ ((-1))))], [.int (ei_ (0)), .int (ei_ (a)), .ref 47, .int (ei_ (10)), .int (ei_ (x193))], m)) rfl ?_
                      refine pw_call (As := [.int (ei_ (a)), .int (ei_ (0))]) (st := [.int (ei_ (10)), .int (ei_ (x193))]) (k := 47) rfl rfl rfl rfl rfl (Nat.le_of_ble_eq_true rfl) ?_
                      refine pw_intro (I := iX9_ofOne) (T := tX9_ofOne) rfl rfl rfl ?_
                      refine pw_steps 7 (s' := (10, [some (.ref 47), some (.int (ei_ (a))), some (.int (ei_ (0)))], [.int (((ei_ (8)) * (ei_ (0))) + (ei_ (a))), .ref 48], m)) rfl ?_
                      refine pw_cv (congrArg (fun z_ : Int32 => ((10, [some (.ref 47), some (.int (ei_ (a))), some (.int (ei_ (0)))], [.int z_, .ref 48], m) : am_S)) (ei_add (ei_mul rfl rfl) rfl)) ?_
                      refine pw_ild rfl rfl (by omega) (fun x195 (hx195 : x195 = vi_ m 48 (0 + a)) rx195 sx195 => ?_)
                      have ox195 := hx195
                      have b196 := hP3 (0 + a) (by omega) (by omega)
                      rw [b196.2.2] at hx195
                      try rw [Int.zero_add] at hx195 b196
                      refine pw_iret rfl rfl rfl ?_
                      refine pw_steps 1 (s' := (89, [some (.ref 47), some (.int (ei_ (a))), some (.int (ei_ (b))), some (.int (ei_ ((-1))))], [.int ((ei_ (10)) * (ei_ (x195))), .int (ei_ (x193))], m)) rfl ?_
                      refine pw_cv (congrArg (fun z_ : Int32 => ((89, [some (.ref 47), some (.int (ei_ (a))), some (.int (ei_ (b))), some (.int (ei_ ((-1))))], [.int z_, .int (ei_ (x193))], m) : am_S)) (ei_mul rfl rfl)) ?_
                      refine pw_cmp rfl ⟨rx193, sx193⟩ (by omega) (fun (h197 : (10 * x195) ≤ x193) => ?_) (fun (h197 : ¬ ((10 * x195) ≤ x193)) => ?_)
                      · refine pw_steps 1 (s' := (97, [some (.ref 47), some (.int (ei_ (a))), some (.int (ei_ (b))), some (.int (ei_ ((-1))))], [.int (ei_ (0))], m)) rfl ?_
                        refine pw_iret rfl rfl rfl ?_
                        have hx_ : (0 : Int) = 1 := by omega
                        exact ⟨1, rfl, congrArg (fun z_ : Int => some (Value.int (ei_ z_))) hx_, rR_sm (sm_rfl m) hR⟩
                      · refine pw_steps 2 (s' := (97, [some (.ref 47), some (.int (ei_ (a))), some (.int (ei_ (b))), some (.int (ei_ ((-1))))], [.int (ei_ (1))], m)) rfl ?_
                        refine pw_iret rfl rfl rfl ?_
                        have hx_ : (1 : Int) = 1 := by rfl
                        exact ⟨1, rfl, congrArg (fun z_ : Int => some (Value.int (ei_ z_))) hx_, rR_sm (sm_rfl m) hR⟩
                  · exact False.elim (by omega)
                  · exact False.elim (by omega)
                · refine pw_steps 4 (s' := (44, [some (.ref 47), some (.int (ei_ (a))), some (.int (ei_ (b)))], [.long (el_ (5)), .long (el_ (4)), .long ((ei_ (b)).toInt64)], m)) rfl ?_
                  refine pw_cv (congrArg (fun z_ : Int64 => ((44, [some (.ref 47), some (.int (ei_ (a))), some (.int (ei_ (b)))], [.long (el_ (5)), .long (el_ (4)), .long z_], m) : am_S)) (el_i2l q1 rfl)) ?_
                  refine pw_callS (As := [.long (el_ (b)), .long (el_ (4)), .long (el_ (5))]) (st := []) rfl (by decide) rfl rfl (Nat.le_of_ble_eq_true rfl) ?_
                  refine mt_within (by omega) (by omega) (by omega) (fun g198 g199 => ?_) (fun g200 => ?_) (fun g201 => ?_)
                  · exact False.elim (by omega)
                  · exact False.elim (by omega)
                  · refine pw_ifT rfl (by decide) (show 0 = 0 by decide) ?_
                    refine pw_steps 1 (s' := (60, [some (.ref 47), some (.int (ei_ (a))), some (.int (ei_ (b)))], [.int (ei_ ((-1)))], m)) rfl ?_
                    refine pw_iret rfl rfl rfl ?_
                    refine pw_steps 2 (s' := (8, [some (.ref 47), some (.int (ei_ (a))), some (.int (ei_ (b))), some (.int (ei_ ((-1))))], [.int (ei_ ((-1)))], m)) rfl ?_
                    refine pw_ifT rfl (by decide) (show (-1) < 0 by decide) ?_
                    refine pw_steps 3 (s' := (21, [some (.ref 47), some (.int (ei_ (a))), some (.int (ei_ (b))), some (.int (ei_ ((-1))))], [.long ((ei_ (a)).toInt64), .ref 47], m)) rfl ?_
                    refine pw_cv (congrArg (fun z_ : Int64 => ((21, [some (.ref 47), some (.int (ei_ (a))), some (.int (ei_ (b))), some (.int (ei_ ((-1))))], [.long z_, .ref 47], m) : am_S)) (el_i2l q0 rfl)) ?_
                    refine pw_call (As := [.long (el_ (a))]) (st := []) (k := 47) rfl rfl rfl rfl rfl (Nat.le_of_ble_eq_true rfl) ?_
                    refine pw_intro (I := iX9_isOne) (T := tX9_isOne) rfl rfl rfl ?_
                    refine pw_steps 3 (s' := (3, [some (.ref 47), some (.long (el_ (a))), none], [.ref 47, .long (el_ (0)), .long (el_ (a))], m)) rfl ?_
                    refine pw_get rfl rfl (fun x202 (hx202 : x202 = vi_ m 47 6) rx202 sx202 => ?_)
                    refine pw_steps 3 (s' := (9, [some (.ref 47), some (.long (el_ (a))), none], [.long (((ei_ (x202)) - (ei_ (1))).toInt64), .long (el_ (0)), .long (el_ (a))], m)) rfl ?_
                    refine pw_cv (congrArg (fun z_ : Int64 => ((9, [some (.ref 47), some (.long (el_ (a))), none], [.long z_, .long (el_ (0)), .long (el_ (a))], m) : am_S)) (el_i2l (by omega) (ei_sub rfl rfl))) ?_
                    refine pw_callS (As := [.long (el_ (a)), .long (el_ (0)), .long (el_ ((x202 - 1)))]) (st := []) rfl (by decide) rfl rfl (Nat.le_of_ble_eq_true rfl) ?_
                    refine mt_within (by omega) (by omega) (by omega) (fun g203 g204 => ?_) (fun g205 => ?_) (fun g206 => ?_)
                    · refine pw_iret rfl rfl rfl ?_
                      refine pw_ifT rfl (by decide) (show ¬ 1 = 0 by decide) ?_
                      refine pw_steps 1 (s' := (30, [some (.ref 47), some (.int (ei_ (a))), some (.int (ei_ (b))), some (.int (ei_ ((-1))))], [.int (ei_ (b))], m)) rfl ?_
                      rcases (show b = 12 by omega) with h207
                      · refine pw_tab 2 74 rfl q1 (by omega) (by omega) rfl ?_
                        refine pw_steps 3 (s' := (79, [some (.ref 47), some (.int (ei_ (a))), some (.int (ei_ (b))), some (.int (ei_ ((-1))))], [.int (ei_ (a)), .ref 53], m)) rfl ?_
                        refine pw_ild rfl rfl (by omega) (fun x208 (hx208 : x208 = vi_ m 53 a) rx208 sx208 => ?_)
                        have b209 := hmf a (by omega) (by omega)
                        have b209b := (hd.2.2.1 a (by omega) (by omega)).2
                        refine pw_steps 4 (s' := (85, [some (.ref 47), some (.int (ei_ (a))), some (.int (ei_ (b))), some (.int (ei_ ((-1))))], [.int (ei_ (0)), .int (ei_ (a)), .ref 47, .int (ei_ (10)), .int (ei_ (x208))], m)) rfl ?_
                        refine pw_call (As := [.int (ei_ (a)), .int (ei_ (0))]) (st := [.int (ei_ (10)), .int (ei_ (x208))]) (k := 47) rfl rfl rfl rfl rfl (Nat.le_of_ble_eq_true rfl) ?_
                        refine pw_intro (I := iX9_ofOne) (T := tX9_ofOne) rfl rfl rfl ?_
                        refine pw_steps 7 (s' := (10, [some (.ref 47), some (.int (ei_ (a))), some (.int (ei_ (0)))], [.int (((ei_ (8)) * (ei_ (0))) + (ei_ (a))), .ref 48], m)) rfl ?_
                        refine pw_cv (congrArg (fun z_ : Int32 => ((10, [some (.ref 47), some (.int (ei_ (a))), some (.int (ei_ (0)))], [.int z_, .ref 48], m) : am_S)) (ei_add (ei_mul rfl rfl) rfl)) ?_
                        refine pw_ild rfl rfl (by omega) (fun x210 (hx210 : x210 = vi_ m 48 (0 + a)) rx210 sx210 => ?_)
                        have ox210 := hx210
                        have b211 := hP3 (0 + a) (by omega) (by omega)
                        rw [b211.2.2] at hx210
                        try rw [Int.zero_add] at hx210 b211
                        refine pw_iret rfl rfl rfl ?_
                        refine pw_steps 1 (s' := (89, [some (.ref 47), some (.int (ei_ (a))), some (.int (ei_ (b))), some (.int (ei_ ((-1))))], [.int ((ei_ (10)) * (ei_ (x210))), .int (ei_ (x208))], m)) rfl ?_
                        refine pw_cv (congrArg (fun z_ : Int32 => ((89, [some (.ref 47), some (.int (ei_ (a))), some (.int (ei_ (b))), some (.int (ei_ ((-1))))], [.int z_, .int (ei_ (x208))], m) : am_S)) (ei_mul rfl rfl)) ?_
                        refine pw_cmp rfl ⟨rx208, sx208⟩ (by omega) (fun (h212 : (10 * x210) ≤ x208) => ?_) (fun (h212 : ¬ ((10 * x210) ≤ x208)) => ?_)
                        · refine pw_steps 1 (s' := (97, [some (.ref 47), some (.int (ei_ (a))), some (.int (ei_ (b))), some (.int (ei_ ((-1))))], [.int (ei_ (0))], m)) rfl ?_
                          refine pw_iret rfl rfl rfl ?_
                          have hx_ : (0 : Int) = 1 := by omega
                          exact ⟨1, rfl, congrArg (fun z_ : Int => some (Value.int (ei_ z_))) hx_, rR_sm (sm_rfl m) hR⟩
                        · refine pw_steps 2 (s' := (97, [some (.ref 47), some (.int (ei_ (a))), some (.int (ei_ (b))), some (.int (ei_ ((-1))))], [.int (ei_ (1))], m)) rfl ?_
                          refine pw_iret rfl rfl rfl ?_
                          have hx_ : (1 : Int) = 1 := by rfl
                          exact ⟨1, rfl, congrArg (fun z_ : Int => some (Value.int (ei_ z_))) hx_, rR_sm (sm_rfl m) hR⟩
                    · exact False.elim (by omega)
                    · exact False.elim (by omega)
          · refine pw_tab 3 120 rfl q1 (by omega) (by omega) rfl ?_
            refine pw_steps 3 (s' := (125, [some (.ref 0), some (.int (ei_ (a))), some (.int (ei_ (b)))], [.int (ei_ (a)), .ref 3], m)) rfl ?_
            refine pw_call (As := [.int (ei_ (a))]) (st := []) (k := 3) rfl rfl rfl rfl rfl (Nat.le_of_ble_eq_true rfl) ?_
            refine cw_worn ((sm_rfl m)) (by omega) (fun x213 g214 g215 => ?_)
            refine pw_iret rfl rfl rfl ?_
            refine pw_intro (I := iX9_of) (T := tX9_of) rfl rfl rfl ?_
            refine pw_steps 3 (s' := (3, [some (.ref 47), some (.int (ei_ (a))), some (.int (ei_ (b))), none], [.int (ei_ (b)), .int (ei_ (a)), .ref 47], m)) rfl ?_
            refine pw_call (As := [.int (ei_ (a)), .int (ei_ (b))]) (st := []) (k := 47) rfl rfl rfl rfl rfl (Nat.le_of_ble_eq_true rfl) ?_
            refine pw_intro (I := iX9_placeOf) (T := tX9_placeOf) rfl rfl rfl ?_
            refine pw_steps 4 (s' := (6, [some (.ref 47), some (.int (ei_ (a))), some (.int (ei_ (b)))], [.long (el_ (3)), .long (el_ (0)), .long ((ei_ (b)).toInt64)], m)) rfl ?_
            refine pw_cv (congrArg (fun z_ : Int64 => ((6, [some (.ref 47), some (.int (ei_ (a))), some (.int (ei_ (b)))], [.long (el_ (3)), .long (el_ (0)), .long z_], m) : am_S)) (el_i2l q1 rfl)) ?_
            refine pw_callS (As := [.long (el_ (b)), .long (el_ (0)), .long (el_ (3))]) (st := []) rfl (by decide) rfl rfl (Nat.le_of_ble_eq_true rfl) ?_
            refine mt_within (by omega) (by omega) (by omega) (fun g216 g217 => ?_) (fun g218 => ?_) (fun g219 => ?_)
            · exact False.elim (by omega)
            · exact False.elim (by omega)
            · refine pw_ifT rfl (by decide) (show 0 = 0 by decide) ?_
              refine pw_steps 1 (s' := (33, [some (.ref 47), some (.int (ei_ (a))), some (.int (ei_ (b)))], [.int (ei_ (a))], m)) rfl ?_
              refine pw_if rfl q0 (fun (h220 : ¬ a = 0) => ?_) (fun (h220 : ¬ ¬ a = 0) => ?_)
              · refine pw_steps 1 (s' := (60, [some (.ref 47), some (.int (ei_ (a))), some (.int (ei_ (b)))], [.int (ei_ ((-1)))], m)) rfl ?_
                refine pw_iret rfl rfl rfl ?_
                refine pw_steps 2 (s' := (8, [some (.ref 47), some (.int (ei_ (a))), some (.int (ei_ (b))), some (.int (ei_ ((-1))))], [.int (ei_ ((-1)))], m)) rfl ?_
                refine pw_ifT rfl (by decide) (show (-1) < 0 by decide) ?_
                refine pw_steps 3 (s' := (21, [some (.ref 47), some (.int (ei_ (a))), some (.int (ei_ (b))), some (.int (ei_ ((-1))))], [.long ((ei_ (a)).toInt64), .ref 47], m)) rfl ?_
                refine pw_cv (congrArg (fun z_ : Int64 => ((21, [some (.ref 47), some (.int (ei_ (a))), some (.int (ei_ (b))), some (.int (ei_ ((-1))))], [.long z_, .ref 47], m) : am_S)) (el_i2l q0 rfl)) ?_
                refine pw_call (As := [.long (el_ (a))]) (st := []) (k := 47) rfl rfl rfl rfl rfl (Nat.le_of_ble_eq_true rfl) ?_
                refine pw_intro (I := iX9_isOne) (T := tX9_isOne) rfl rfl rfl ?_
                refine pw_steps 3 (s' := (3, [some (.ref 47), some (.long (el_ (a))), none], [.ref 47, .long (el_ (0)), .long (el_ (a))], m)) rfl ?_
                refine pw_get rfl rfl (fun x221 (hx221 : x221 = vi_ m 47 6) rx221 sx221 => ?_)
                refine pw_steps 3 (s' := (9, [some (.ref 47), some (.long (el_ (a))), none], [.long (((ei_ (x221)) - (ei_ (1))).toInt64), .long (el_ (0)), .long (el_ (a))], m)) rfl ?_
                refine pw_cv (congrArg (fun z_ : Int64 => ((9, [some (.ref 47), some (.long (el_ (a))), none], [.long z_, .long (el_ (0)), .long (el_ (a))], m) : am_S)) (el_i2l (by omega) (ei_sub rfl rfl))) ?_
                refine pw_callS (As := [.long (el_ (a)), .long (el_ (0)), .long (el_ ((x221 - 1)))]) (st := []) rfl (by decide) rfl rfl (Nat.le_of_ble_eq_true rfl) ?_
                refine mt_within (by omega) (by omega) (by omega) (fun g222 g223 => ?_) (fun g224 => ?_) (fun g225 => ?_)
                · refine pw_iret rfl rfl rfl ?_
                  refine pw_ifT rfl (by decide) (show ¬ 1 = 0 by decide) ?_
                  refine pw_steps 1 (s' := (30, [some (.ref 47), some (.int (ei_ (a))), some (.int (ei_ (b))), some (.int (ei_ ((-1))))], [.int (ei_ (b))], m)) rfl ?_
                  rcases (show b = 13 by omega) with h226
                  · refine pw_tab 3 98 rfl q1 (by omega) (by omega) rfl ?_
                    refine pw_steps 2 (s' := (100, [some (.ref 47), some (.int (ei_ (a))), some (.int (ei_ (b))), some (.int (ei_ ((-1))))], [.int (ei_ (a)), .ref 47], m)) rfl ?_
                    refine pw_call (As := [.int (ei_ (a))]) (st := []) (k := 47) rfl rfl rfl rfl rfl (Nat.le_of_ble_eq_true rfl) ?_
                    refine mw_many (hp) ((sm_rfl m)) (by omega) (fun x227 g228 g229 => ?_)
                    refine pw_iret rfl rfl rfl ?_
                    have hx_ : (x227 : Int) = x213 := by first | omega | (rw [g228, g214]; first | exact cn_mc hp hd ⟨by omega, by omega⟩ | exact su_mc hp hd | rfl)
                    exact ⟨x213, rfl, congrArg (fun z_ : Int => some (Value.int (ei_ z_))) hx_, rR_sm (sm_rfl m) hR⟩
                · exact False.elim (by omega)
                · exact False.elim (by omega)
              · refine pw_steps 4 (s' := (44, [some (.ref 47), some (.int (ei_ (a))), some (.int (ei_ (b)))], [.long (el_ (5)), .long (el_ (4)), .long ((ei_ (b)).toInt64)], m)) rfl ?_
                refine pw_cv (congrArg (fun z_ : Int64 => ((44, [some (.ref 47), some (.int (ei_ (a))), some (.int (ei_ (b)))], [.long (el_ (5)), .long (el_ (4)), .long z_], m) : am_S)) (el_i2l q1 rfl)) ?_
                refine pw_callS (As := [.long (el_ (b)), .long (el_ (4)), .long (el_ (5))]) (st := []) rfl (by decide) rfl rfl (Nat.le_of_ble_eq_true rfl) ?_
                refine mt_within (by omega) (by omega) (by omega) (fun g230 g231 => ?_) (fun g232 => ?_) (fun g233 => ?_)
                · exact False.elim (by omega)
                · exact False.elim (by omega)
                · refine pw_ifT rfl (by decide) (show 0 = 0 by decide) ?_
                  refine pw_steps 1 (s' := (60, [some (.ref 47), some (.int (ei_ (a))), some (.int (ei_ (b)))], [.int (ei_ ((-1)))], m)) rfl ?_
                  refine pw_iret rfl rfl rfl ?_
                  refine pw_steps 2 (s' := (8, [some (.ref 47), some (.int (ei_ (a))), some (.int (ei_ (b))), some (.int (ei_ ((-1))))], [.int (ei_ ((-1)))], m)) rfl ?_
                  refine pw_ifT rfl (by decide) (show (-1) < 0 by decide) ?_
                  refine pw_steps 3 (s' := (21, [some (.ref 47), some (.int (ei_ (a))), some (.int (ei_ (b))), some (.int (ei_ ((-1))))], [.long ((ei_ (a)).toInt64), .ref 47], m)) rfl ?_
                  refine pw_cv (congrArg (fun z_ : Int64 => ((21, [some (.ref 47), some (.int (ei_ (a))), some (.int (ei_ (b))), some (.int (ei_ ((-1))))], [.long z_, .ref 47], m) : am_S)) (el_i2l q0 rfl)) ?_
                  refine pw_call (As := [.long (el_ (a))]) (st := []) (k := 47) rfl rfl rfl rfl rfl (Nat.le_of_ble_eq_true rfl) ?_
                  refine pw_intro (I := iX9_isOne) (T := tX9_isOne) rfl rfl rfl ?_
                  refine pw_steps 3 (s' := (3, [some (.ref 47), some (.long (el_ (a))), none], [.ref 47, .long (el_ (0)), .long (el_ (a))], m)) rfl ?_
                  refine pw_get rfl rfl (fun x234 (hx234 : x234 = vi_ m 47 6) rx234 sx234 => ?_)
                  refine pw_steps 3 (s' := (9, [some (.ref 47), some (.long (el_ (a))), none], [.long (((ei_ (x234)) - (ei_ (1))).toInt64), .long (el_ (0)), .long (el_ (a))], m)) rfl ?_
                  refine pw_cv (congrArg (fun z_ : Int64 => ((9, [some (.ref 47), some (.long (el_ (a))), none], [.long z_, .long (el_ (0)), .long (el_ (a))], m) : am_S)) (el_i2l (by omega) (ei_sub rfl rfl))) ?_
                  refine pw_callS (As := [.long (el_ (a)), .long (el_ (0)), .long (el_ ((x234 - 1)))]) (st := []) rfl (by decide) rfl rfl (Nat.le_of_ble_eq_true rfl) ?_
                  refine mt_within (by omega) (by omega) (by omega) (fun g235 g236 => ?_) (fun g237 => ?_) (fun g238 => ?_)
                  · refine pw_iret rfl rfl rfl ?_
                    refine pw_ifT rfl (by decide) (show ¬ 1 = 0 by decide) ?_
                    refine pw_steps 1 (s' := (30, [some (.ref 47), some (.int (ei_ (a))), some (.int (ei_ (b))), some (.int (ei_ ((-1))))], [.int (ei_ (b))], m)) rfl ?_
                    rcases (show b = 13 by omega) with h239
                    · refine pw_tab 3 98 rfl q1 (by omega) (by omega) rfl ?_
                      refine pw_steps 2 (s' := (100, [some (.ref 47), some (.int (ei_ (a))), some (.int (ei_ (b))), some (.int (ei_ ((-1))))], [.int (ei_ (a)), .ref 47], m)) rfl ?_
                      refine pw_call (As := [.int (ei_ (a))]) (st := []) (k := 47) rfl rfl rfl rfl rfl (Nat.le_of_ble_eq_true rfl) ?_
                      refine mw_many (hp) ((sm_rfl m)) (by omega) (fun x240 g241 g242 => ?_)
                      refine pw_iret rfl rfl rfl ?_
                      have hx_ : (x240 : Int) = x213 := by first | omega | (rw [g241, g214]; first | exact cn_mc hp hd ⟨by omega, by omega⟩ | exact su_mc hp hd | rfl)
                      exact ⟨x213, rfl, congrArg (fun z_ : Int => some (Value.int (ei_ z_))) hx_, rR_sm (sm_rfl m) hR⟩
                  · exact False.elim (by omega)
                  · exact False.elim (by omega)
          · refine pw_tabD rfl q1 (by omega) ?_
            refine pw_steps 1 (s' := (130, [some (.ref 0), some (.int (ei_ (a))), some (.int (ei_ (b)))], [.int (ei_ ((-1)))], m)) rfl ?_
            refine pw_iret rfl rfl rfl ?_
            refine pw_intro (I := iX9_of) (T := tX9_of) rfl rfl rfl ?_
            refine pw_steps 3 (s' := (3, [some (.ref 47), some (.int (ei_ (a))), some (.int (ei_ (b))), none], [.int (ei_ (b)), .int (ei_ (a)), .ref 47], m)) rfl ?_
            refine pw_call (As := [.int (ei_ (a)), .int (ei_ (b))]) (st := []) (k := 47) rfl rfl rfl rfl rfl (Nat.le_of_ble_eq_true rfl) ?_
            refine pw_intro (I := iX9_placeOf) (T := tX9_placeOf) rfl rfl rfl ?_
            refine pw_steps 4 (s' := (6, [some (.ref 47), some (.int (ei_ (a))), some (.int (ei_ (b)))], [.long (el_ (3)), .long (el_ (0)), .long ((ei_ (b)).toInt64)], m)) rfl ?_
            refine pw_cv (congrArg (fun z_ : Int64 => ((6, [some (.ref 47), some (.int (ei_ (a))), some (.int (ei_ (b)))], [.long (el_ (3)), .long (el_ (0)), .long z_], m) : am_S)) (el_i2l q1 rfl)) ?_
            refine pw_callS (As := [.long (el_ (b)), .long (el_ (0)), .long (el_ (3))]) (st := []) rfl (by decide) rfl rfl (Nat.le_of_ble_eq_true rfl) ?_
            refine mt_within (by omega) (by omega) (by omega) (fun g243 g244 => ?_) (fun g245 => ?_) (fun g246 => ?_)
            · exact False.elim (by omega)
            · exact False.elim (by omega)
            · refine pw_ifT rfl (by decide) (show 0 = 0 by decide) ?_
              refine pw_steps 1 (s' := (33, [some (.ref 47), some (.int (ei_ (a))), some (.int (ei_ (b)))], [.int (ei_ (a))], m)) rfl ?_
              refine pw_if rfl q0 (fun (h247 : ¬ a = 0) => ?_) (fun (h247 : ¬ ¬ a = 0) => ?_)
              · refine pw_steps 1 (s' := (60, [some (.ref 47), some (.int (ei_ (a))), some (.int (ei_ (b)))], [.int (ei_ ((-1)))], m)) rfl ?_
                refine pw_iret rfl rfl rfl ?_
                refine pw_steps 2 (s' := (8, [some (.ref 47), some (.int (ei_ (a))), some (.int (ei_ (b))), some (.int (ei_ ((-1))))], [.int (ei_ ((-1)))], m)) rfl ?_
                refine pw_ifT rfl (by decide) (show (-1) < 0 by decide) ?_
                refine pw_steps 3 (s' := (21, [some (.ref 47), some (.int (ei_ (a))), some (.int (ei_ (b))), some (.int (ei_ ((-1))))], [.long ((ei_ (a)).toInt64), .ref 47], m)) rfl ?_
                refine pw_cv (congrArg (fun z_ : Int64 => ((21, [some (.ref 47), some (.int (ei_ (a))), some (.int (ei_ (b))), some (.int (ei_ ((-1))))], [.long z_, .ref 47], m) : am_S)) (el_i2l q0 rfl)) ?_
                refine pw_call (As := [.long (el_ (a))]) (st := []) (k := 47) rfl rfl rfl rfl rfl (Nat.le_of_ble_eq_true rfl) ?_
                refine pw_intro (I := iX9_isOne) (T := tX9_isOne) rfl rfl rfl ?_
                refine pw_steps 3 (s' := (3, [some (.ref 47), some (.long (el_ (a))), none], [.ref 47, .long (el_ (0)), .long (el_ (a))], m)) rfl ?_
                refine pw_get rfl rfl (fun x248 (hx248 : x248 = vi_ m 47 6) rx248 sx248 => ?_)
                refine pw_steps 3 (s' := (9, [some (.ref 47), some (.long (el_ (a))), none], [.long (((ei_ (x248)) - (ei_ (1))).toInt64), .long (el_ (0)), .long (el_ (a))], m)) rfl ?_
                refine pw_cv (congrArg (fun z_ : Int64 => ((9, [some (.ref 47), some (.long (el_ (a))), none], [.long z_, .long (el_ (0)), .long (el_ (a))], m) : am_S)) (el_i2l (by omega) (ei_sub rfl rfl))) ?_
                refine pw_callS (As := [.long (el_ (a)), .long (el_ (0)), .long (el_ ((x248 - 1)))]) (st := []) rfl (by decide) rfl rfl (Nat.le_of_ble_eq_true rfl) ?_
                refine mt_within (by omega) (by omega) (by omega) (fun g249 g250 => ?_) (fun g251 => ?_) (fun g252 => ?_)
                · refine pw_iret rfl rfl rfl ?_
                  refine pw_ifT rfl (by decide) (show ¬ 1 = 0 by decide) ?_
                  refine pw_steps 1 (s' := (30, [some (.ref 47), some (.int (ei_ (a))), some (.int (ei_ (b))), some (.int (ei_ ((-1))))], [.int (ei_ (b))], m)) rfl ?_
                  rcases (show b < 10 by omega) with h253
                  · refine pw_tabD rfl q1 (by omega) ?_
                    refine pw_steps 1 (s' := (105, [some (.ref 47), some (.int (ei_ (a))), some (.int (ei_ (b))), some (.int (ei_ ((-1))))], [.int (ei_ ((-1)))], m)) rfl ?_
                    refine pw_iret rfl rfl rfl ?_
                    have hx_ : ((-1) : Int) = (-1) := by rfl
                    exact ⟨(-1), rfl, congrArg (fun z_ : Int => some (Value.int (ei_ z_))) hx_, rR_sm (sm_rfl m) hR⟩
                · exact False.elim (by omega)
                · exact False.elim (by omega)
              · refine pw_steps 4 (s' := (44, [some (.ref 47), some (.int (ei_ (a))), some (.int (ei_ (b)))], [.long (el_ (5)), .long (el_ (4)), .long ((ei_ (b)).toInt64)], m)) rfl ?_
                refine pw_cv (congrArg (fun z_ : Int64 => ((44, [some (.ref 47), some (.int (ei_ (a))), some (.int (ei_ (b)))], [.long (el_ (5)), .long (el_ (4)), .long z_], m) : am_S)) (el_i2l q1 rfl)) ?_
                refine pw_callS (As := [.long (el_ (b)), .long (el_ (4)), .long (el_ (5))]) (st := []) rfl (by decide) rfl rfl (Nat.le_of_ble_eq_true rfl) ?_
                refine mt_within (by omega) (by omega) (by omega) (fun g254 g255 => ?_) (fun g256 => ?_) (fun g257 => ?_)
                · exact False.elim (by omega)
                · exact False.elim (by omega)
                · refine pw_ifT rfl (by decide) (show 0 = 0 by decide) ?_
                  refine pw_steps 1 (s' := (60, [some (.ref 47), some (.int (ei_ (a))), some (.int (ei_ (b)))], [.int (ei_ ((-1)))], m)) rfl ?_
                  refine pw_iret rfl rfl rfl ?_
                  refine pw_steps 2 (s' := (8, [some (.ref 47), some (.int (ei_ (a))), some (.int (ei_ (b))), some (.int (ei_ ((-1))))], [.int (ei_ ((-1)))], m)) rfl ?_
                  refine pw_ifT rfl (by decide) (show (-1) < 0 by decide) ?_
                  refine pw_steps 3 (s' := (21, [some (.ref 47), some (.int (ei_ (a))), some (.int (ei_ (b))), some (.int (ei_ ((-1))))], [.long ((ei_ (a)).toInt64), .ref 47], m)) rfl ?_
                  refine pw_cv (congrArg (fun z_ : Int64 => ((21, [some (.ref 47), some (.int (ei_ (a))), some (.int (ei_ (b))), some (.int (ei_ ((-1))))], [.long z_, .ref 47], m) : am_S)) (el_i2l q0 rfl)) ?_
                  refine pw_call (As := [.long (el_ (a))]) (st := []) (k := 47) rfl rfl rfl rfl rfl (Nat.le_of_ble_eq_true rfl) ?_
                  refine pw_intro (I := iX9_isOne) (T := tX9_isOne) rfl rfl rfl ?_
                  refine pw_steps 3 (s' := (3, [some (.ref 47), some (.long (el_ (a))), none], [.ref 47, .long (el_ (0)), .long (el_ (a))], m)) rfl ?_
                  refine pw_get rfl rfl (fun x258 (hx258 : x258 = vi_ m 47 6) rx258 sx258 => ?_)
                  refine pw_steps 3 (s' := (9, [some (.ref 47), some (.long (el_ (a))), none], [.long (((ei_ (x258)) - (ei_ (1))).toInt64), .long (el_ (0)), .long (el_ (a))], m)) rfl ?_
                  refine pw_cv (congrArg (fun z_ : Int64 => ((9, [some (.ref 47), some (.long (el_ (a))), none], [.long z_, .long (el_ (0)), .long (el_ (a))], m) : am_S)) (el_i2l (by omega) (ei_sub rfl rfl))) ?_
                  refine pw_callS (As := [.long (el_ (a)), .long (el_ (0)), .long (el_ ((x258 - 1)))]) (st := []) rfl (by decide) rfl rfl (Nat.le_of_ble_eq_true rfl) ?_
                  refine mt_within (by omega) (by omega) (by omega) (fun g259 g260 => ?_) (fun g261 => ?_) (fun g262 => ?_)
                  · refine pw_iret rfl rfl rfl ?_
                    refine pw_ifT rfl (by decide) (show ¬ 1 = 0 by decide) ?_
                    refine pw_steps 1 (s' := (30, [some (.ref 47), some (.int (ei_ (a))), some (.int (ei_ (b))), some (.int (ei_ ((-1))))], [.int (ei_ (b))], m)) rfl ?_
                    rcases (show b < 10 by omega) with h263
                    · refine pw_tabD rfl q1 (by omega) ?_
                      refine pw_steps 1 (s' := (105, [some (.ref 47), some (.int (ei_ (a))), some (.int (ei_ (b))), some (.int (ei_ ((-1))))], [.int (ei_ ((-1)))], m)) rfl ?_
                      refine pw_iret rfl rfl rfl ?_
                      have hx_ : ((-1) : Int) = (-1) := by rfl
                      exact ⟨(-1), rfl, congrArg (fun z_ : Int => some (Value.int (ei_ z_))) hx_, rR_sm (sm_rfl m) hR⟩
                  · exact False.elim (by omega)
                  · exact False.elim (by omega)
          · refine pw_tabD rfl q1 (by omega) ?_
            refine pw_steps 1 (s' := (130, [some (.ref 0), some (.int (ei_ (a))), some (.int (ei_ (b)))], [.int (ei_ ((-1)))], m)) rfl ?_
            refine pw_iret rfl rfl rfl ?_
            refine pw_intro (I := iX9_of) (T := tX9_of) rfl rfl rfl ?_
            refine pw_steps 3 (s' := (3, [some (.ref 47), some (.int (ei_ (a))), some (.int (ei_ (b))), none], [.int (ei_ (b)), .int (ei_ (a)), .ref 47], m)) rfl ?_
            refine pw_call (As := [.int (ei_ (a)), .int (ei_ (b))]) (st := []) (k := 47) rfl rfl rfl rfl rfl (Nat.le_of_ble_eq_true rfl) ?_
            refine pw_intro (I := iX9_placeOf) (T := tX9_placeOf) rfl rfl rfl ?_
            refine pw_steps 4 (s' := (6, [some (.ref 47), some (.int (ei_ (a))), some (.int (ei_ (b)))], [.long (el_ (3)), .long (el_ (0)), .long ((ei_ (b)).toInt64)], m)) rfl ?_
            refine pw_cv (congrArg (fun z_ : Int64 => ((6, [some (.ref 47), some (.int (ei_ (a))), some (.int (ei_ (b)))], [.long (el_ (3)), .long (el_ (0)), .long z_], m) : am_S)) (el_i2l q1 rfl)) ?_
            refine pw_callS (As := [.long (el_ (b)), .long (el_ (0)), .long (el_ (3))]) (st := []) rfl (by decide) rfl rfl (Nat.le_of_ble_eq_true rfl) ?_
            refine mt_within (by omega) (by omega) (by omega) (fun g264 g265 => ?_) (fun g266 => ?_) (fun g267 => ?_)
            · exact False.elim (by omega)
            · exact False.elim (by omega)
            · refine pw_ifT rfl (by decide) (show 0 = 0 by decide) ?_
              refine pw_steps 1 (s' := (33, [some (.ref 47), some (.int (ei_ (a))), some (.int (ei_ (b)))], [.int (ei_ (a))], m)) rfl ?_
              refine pw_if rfl q0 (fun (h268 : ¬ a = 0) => ?_) (fun (h268 : ¬ ¬ a = 0) => ?_)
              · refine pw_steps 1 (s' := (60, [some (.ref 47), some (.int (ei_ (a))), some (.int (ei_ (b)))], [.int (ei_ ((-1)))], m)) rfl ?_
                refine pw_iret rfl rfl rfl ?_
                refine pw_steps 2 (s' := (8, [some (.ref 47), some (.int (ei_ (a))), some (.int (ei_ (b))), some (.int (ei_ ((-1))))], [.int (ei_ ((-1)))], m)) rfl ?_
                refine pw_ifT rfl (by decide) (show (-1) < 0 by decide) ?_
                refine pw_steps 3 (s' := (21, [some (.ref 47), some (.int (ei_ (a))), some (.int (ei_ (b))), some (.int (ei_ ((-1))))], [.long ((ei_ (a)).toInt64), .ref 47], m)) rfl ?_
                refine pw_cv (congrArg (fun z_ : Int64 => ((21, [some (.ref 47), some (.int (ei_ (a))), some (.int (ei_ (b))), some (.int (ei_ ((-1))))], [.long z_, .ref 47], m) : am_S)) (el_i2l q0 rfl)) ?_
                refine pw_call (As := [.long (el_ (a))]) (st := []) (k := 47) rfl rfl rfl rfl rfl (Nat.le_of_ble_eq_true rfl) ?_
                refine pw_intro (I := iX9_isOne) (T := tX9_isOne) rfl rfl rfl ?_
                refine pw_steps 3 (s' := (3, [some (.ref 47), some (.long (el_ (a))), none], [.ref 47, .long (el_ (0)), .long (el_ (a))], m)) rfl ?_
                refine pw_get rfl rfl (fun x269 (hx269 : x269 = vi_ m 47 6) rx269 sx269 => ?_)
                refine pw_steps 3 (s' := (9, [some (.ref 47), some (.long (el_ (a))), none], [.long (((ei_ (x269)) - (ei_ (1))).toInt64), .long (el_ (0)), .long (el_ (a))], m)) rfl ?_
                refine pw_cv (congrArg (fun z_ : Int64 => ((9, [some (.ref 47), some (.long (el_ (a))), none], [.long z_, .long (el_ (0)), .long (el_ (a))], m) : am_S)) (el_i2l (by omega) (ei_sub rfl rfl))) ?_
                refine pw_callS (As := [.long (el_ (a)), .long (el_ (0)), .long (el_ ((x269 - 1)))]) (st := []) rfl (by decide) rfl rfl (Nat.le_of_ble_eq_true rfl) ?_
                refine mt_within (by omega) (by omega) (by omega) (fun g270 g271 => ?_) (fun g272 => ?_) (fun g273 => ?_)
                · refine pw_iret rfl rfl rfl ?_
                  refine pw_ifT rfl (by decide) (show ¬ 1 = 0 by decide) ?_
                  refine pw_steps 1 (s' := (30, [some (.ref 47), some (.int (ei_ (a))), some (.int (ei_ (b))), some (.int (ei_ ((-1))))], [.int (ei_ (b))], m)) rfl ?_
                  rcases (show 13 < b by omega) with h274
                  · refine pw_tabD rfl q1 (by omega) ?_
                    refine pw_steps 1 (s' := (105, [some (.ref 47), some (.int (ei_ (a))), some (.int (ei_ (b))), some (.int (ei_ ((-1))))], [.int (ei_ ((-1)))], m)) rfl ?_
                    refine pw_iret rfl rfl rfl ?_
                    have hx_ : ((-1) : Int) = (-1) := by rfl
                    exact ⟨(-1), rfl, congrArg (fun z_ : Int => some (Value.int (ei_ z_))) hx_, rR_sm (sm_rfl m) hR⟩
                · exact False.elim (by omega)
                · exact False.elim (by omega)
              · refine pw_steps 4 (s' := (44, [some (.ref 47), some (.int (ei_ (a))), some (.int (ei_ (b)))], [.long (el_ (5)), .long (el_ (4)), .long ((ei_ (b)).toInt64)], m)) rfl ?_
                refine pw_cv (congrArg (fun z_ : Int64 => ((44, [some (.ref 47), some (.int (ei_ (a))), some (.int (ei_ (b)))], [.long (el_ (5)), .long (el_ (4)), .long z_], m) : am_S)) (el_i2l q1 rfl)) ?_
                refine pw_callS (As := [.long (el_ (b)), .long (el_ (4)), .long (el_ (5))]) (st := []) rfl (by decide) rfl rfl (Nat.le_of_ble_eq_true rfl) ?_
                refine mt_within (by omega) (by omega) (by omega) (fun g275 g276 => ?_) (fun g277 => ?_) (fun g278 => ?_)
                · exact False.elim (by omega)
                · exact False.elim (by omega)
                · refine pw_ifT rfl (by decide) (show 0 = 0 by decide) ?_
                  refine pw_steps 1 (s' := (60, [some (.ref 47), some (.int (ei_ (a))), some (.int (ei_ (b)))], [.int (ei_ ((-1)))], m)) rfl ?_
                  refine pw_iret rfl rfl rfl ?_
                  refine pw_steps 2 (s' := (8, [some (.ref 47), some (.int (ei_ (a))), some (.int (ei_ (b))), some (.int (ei_ ((-1))))], [.int (ei_ ((-1)))], m)) rfl ?_
                  refine pw_ifT rfl (by decide) (show (-1) < 0 by decide) ?_
                  refine pw_steps 3 (s' := (21, [some (.ref 47), some (.int (ei_ (a))), some (.int (ei_ (b))), some (.int (ei_ ((-1))))], [.long ((ei_ (a)).toInt64), .ref 47], m)) rfl ?_
                  refine pw_cv (congrArg (fun z_ : Int64 => ((21, [some (.ref 47), some (.int (ei_ (a))), some (.int (ei_ (b))), some (.int (ei_ ((-1))))], [.long z_, .ref 47], m) : am_S)) (el_i2l q0 rfl)) ?_
                  refine pw_call (As := [.long (el_ (a))]) (st := []) (k := 47) rfl rfl rfl rfl rfl (Nat.le_of_ble_eq_true rfl) ?_
                  refine pw_intro (I := iX9_isOne) (T := tX9_isOne) rfl rfl rfl ?_
                  refine pw_steps 3 (s' := (3, [some (.ref 47), some (.long (el_ (a))), none], [.ref 47, .long (el_ (0)), .long (el_ (a))], m)) rfl ?_
                  refine pw_get rfl rfl (fun x279 (hx279 : x279 = vi_ m 47 6) rx279 sx279 => ?_)
                  refine pw_steps 3 (s' := (9, [some (.ref 47), some (.long (el_ (a))), none], [.long (((ei_ (x279)) - (ei_ (1))).toInt64), .long (el_ (0)), .long (el_ (a))], m)) rfl ?_
                  refine pw_cv (congrArg (fun z_ : Int64 => ((9, [some (.ref 47), some (.long (el_ (a))), none], [.long z_, .long (el_ (0)), .long (el_ (a))], m) : am_S)) (el_i2l (by omega) (ei_sub rfl rfl))) ?_
                  refine pw_callS (As := [.long (el_ (a)), .long (el_ (0)), .long (el_ ((x279 - 1)))]) (st := []) rfl (by decide) rfl rfl (Nat.le_of_ble_eq_true rfl) ?_
                  refine mt_within (by omega) (by omega) (by omega) (fun g280 g281 => ?_) (fun g282 => ?_) (fun g283 => ?_)
                  · refine pw_iret rfl rfl rfl ?_
                    refine pw_ifT rfl (by decide) (show ¬ 1 = 0 by decide) ?_
                    refine pw_steps 1 (s' := (30, [some (.ref 47), some (.int (ei_ (a))), some (.int (ei_ (b))), some (.int (ei_ ((-1))))], [.int (ei_ (b))], m)) rfl ?_
                    rcases (show 13 < b by omega) with h284
                    · refine pw_tabD rfl q1 (by omega) ?_
                      refine pw_steps 1 (s' := (105, [some (.ref 47), some (.int (ei_ (a))), some (.int (ei_ (b))), some (.int (ei_ ((-1))))], [.int (ei_ ((-1)))], m)) rfl ?_
                      refine pw_iret rfl rfl rfl ?_
                      have hx_ : ((-1) : Int) = (-1) := by rfl
                      exact ⟨(-1), rfl, congrArg (fun z_ : Int => some (Value.int (ei_ z_))) hx_, rR_sm (sm_rfl m) hR⟩
                  · exact False.elim (by omega)
                  · exact False.elim (by omega)
    · refine pw_steps 4 (s' := (15, [some (.ref 0), some (.int (ei_ (a))), some (.int (ei_ (b)))], [.int (ei_ (b)), .int (ei_ (a)), .ref 1], m)) rfl ?_
      refine pw_call (As := [.int (ei_ (a)), .int (ei_ (b))]) (st := []) (k := 1) rfl rfl rfl rfl rfl (Nat.le_of_ble_eq_true rfl) ?_
      refine pw_intro (I := iX3_tells) (T := tX3_tells) rfl rfl rfl ?_
      refine pw_steps 1 (s' := (1, [some (.ref 1), some (.int (ei_ (a))), some (.int (ei_ (b)))], [.int (ei_ (b))], m)) rfl ?_
      refine pw_ifF rfl q1 (show ¬ (b < 0) by omega) ?_
      refine pw_steps 2 (s' := (6, [some (.ref 1), some (.int (ei_ (a))), some (.int (ei_ (b)))], [.int (ei_ (5)), .int (ei_ (b))], m)) rfl ?_
      refine pw_cmpT rfl q1 (by decide) (show b ≤ 5 by omega) ?_
      refine pw_steps 2 (s' := (13, [some (.ref 1), some (.int (ei_ (a))), some (.int (ei_ (b)))], [.int (ei_ (4)), .int (ei_ (b))], m)) rfl ?_
      refine pw_cmp rfl q1 (by decide) (fun (h285 : 4 ≤ b) => ?_) (fun (h285 : ¬ (4 ≤ b)) => ?_)
      · refine pw_steps 1 (s' := (25, [some (.ref 1), some (.int (ei_ (a))), some (.int (ei_ (b)))], [.int (ei_ (a))], m)) rfl ?_
        refine pw_if rfl q0 (fun (h286 : ¬ a = 0) => ?_) (fun (h286 : ¬ ¬ a = 0) => ?_)
        · refine pw_steps 1 (s' := (33, [some (.ref 1), some (.int (ei_ (a))), some (.int (ei_ (b)))], [.int (ei_ (0))], m)) rfl ?_
          refine pw_iret rfl rfl rfl ?_
          refine pw_ifT rfl (by decide) (show 0 = 0 by decide) ?_
          refine pw_steps 1 (s' := (34, [some (.ref 0), some (.int (ei_ (a))), some (.int (ei_ (b)))], [.int (ei_ ((-1)))], m)) rfl ?_
          refine pw_iret rfl rfl rfl ?_
          refine pw_intro (I := iX9_of) (T := tX9_of) rfl rfl rfl ?_
          refine pw_steps 3 (s' := (3, [some (.ref 47), some (.int (ei_ (a))), some (.int (ei_ (b))), none], [.int (ei_ (b)), .int (ei_ (a)), .ref 47], m)) rfl ?_
          refine pw_call (As := [.int (ei_ (a)), .int (ei_ (b))]) (st := []) (k := 47) rfl rfl rfl rfl rfl (Nat.le_of_ble_eq_true rfl) ?_
          refine pw_intro (I := iX9_placeOf) (T := tX9_placeOf) rfl rfl rfl ?_
          refine pw_steps 4 (s' := (6, [some (.ref 47), some (.int (ei_ (a))), some (.int (ei_ (b)))], [.long (el_ (3)), .long (el_ (0)), .long ((ei_ (b)).toInt64)], m)) rfl ?_
          refine pw_cv (congrArg (fun z_ : Int64 => ((6, [some (.ref 47), some (.int (ei_ (a))), some (.int (ei_ (b)))], [.long (el_ (3)), .long (el_ (0)), .long z_], m) : am_S)) (el_i2l q1 rfl)) ?_
          refine pw_callS (As := [.long (el_ (b)), .long (el_ (0)), .long (el_ (3))]) (st := []) rfl (by decide) rfl rfl (Nat.le_of_ble_eq_true rfl) ?_
          refine mt_within (by omega) (by omega) (by omega) (fun g287 g288 => ?_) (fun g289 => ?_) (fun g290 => ?_)
          · exact False.elim (by omega)
          · exact False.elim (by omega)
          · refine pw_ifT rfl (by decide) (show 0 = 0 by decide) ?_
            refine pw_steps 1 (s' := (33, [some (.ref 47), some (.int (ei_ (a))), some (.int (ei_ (b)))], [.int (ei_ (a))], m)) rfl ?_
            refine pw_ifT rfl q0 (show ¬ a = 0 by omega) ?_
            refine pw_steps 1 (s' := (60, [some (.ref 47), some (.int (ei_ (a))), some (.int (ei_ (b)))], [.int (ei_ ((-1)))], m)) rfl ?_
            refine pw_iret rfl rfl rfl ?_
            refine pw_steps 2 (s' := (8, [some (.ref 47), some (.int (ei_ (a))), some (.int (ei_ (b))), some (.int (ei_ ((-1))))], [.int (ei_ ((-1)))], m)) rfl ?_
            refine pw_ifT rfl (by decide) (show (-1) < 0 by decide) ?_
            refine pw_steps 3 (s' := (21, [some (.ref 47), some (.int (ei_ (a))), some (.int (ei_ (b))), some (.int (ei_ ((-1))))], [.long ((ei_ (a)).toInt64), .ref 47], m)) rfl ?_
            refine pw_cv (congrArg (fun z_ : Int64 => ((21, [some (.ref 47), some (.int (ei_ (a))), some (.int (ei_ (b))), some (.int (ei_ ((-1))))], [.long z_, .ref 47], m) : am_S)) (el_i2l q0 rfl)) ?_
            refine pw_call (As := [.long (el_ (a))]) (st := []) (k := 47) rfl rfl rfl rfl rfl (Nat.le_of_ble_eq_true rfl) ?_
            refine pw_intro (I := iX9_isOne) (T := tX9_isOne) rfl rfl rfl ?_
            refine pw_steps 3 (s' := (3, [some (.ref 47), some (.long (el_ (a))), none], [.ref 47, .long (el_ (0)), .long (el_ (a))], m)) rfl ?_
            refine pw_get rfl rfl (fun x291 (hx291 : x291 = vi_ m 47 6) rx291 sx291 => ?_)
            refine pw_steps 3 (s' := (9, [some (.ref 47), some (.long (el_ (a))), none], [.long (((ei_ (x291)) - (ei_ (1))).toInt64), .long (el_ (0)), .long (el_ (a))], m)) rfl ?_
            refine pw_cv (congrArg (fun z_ : Int64 => ((9, [some (.ref 47), some (.long (el_ (a))), none], [.long z_, .long (el_ (0)), .long (el_ (a))], m) : am_S)) (el_i2l (by omega) (ei_sub rfl rfl))) ?_
            refine pw_callS (As := [.long (el_ (a)), .long (el_ (0)), .long (el_ ((x291 - 1)))]) (st := []) rfl (by decide) rfl rfl (Nat.le_of_ble_eq_true rfl) ?_
            refine mt_within (by omega) (by omega) (by omega) (fun g292 g293 => ?_) (fun g294 => ?_) (fun g295 => ?_)
            · refine pw_iret rfl rfl rfl ?_
              refine pw_ifT rfl (by decide) (show ¬ 1 = 0 by decide) ?_
              refine pw_steps 1 (s' := (30, [some (.ref 47), some (.int (ei_ (a))), some (.int (ei_ (b))), some (.int (ei_ ((-1))))], [.int (ei_ (b))], m)) rfl ?_
              rcases (show b < 10 by omega) with h296
              · refine pw_tabD rfl q1 (by omega) ?_
                refine pw_steps 1 (s' := (105, [some (.ref 47), some (.int (ei_ (a))), some (.int (ei_ (b))), some (.int (ei_ ((-1))))], [.int (ei_ ((-1)))], m)) rfl ?_
                refine pw_iret rfl rfl rfl ?_
                have hx_ : ((-1) : Int) = (-1) := by rfl
                exact ⟨(-1), rfl, congrArg (fun z_ : Int => some (Value.int (ei_ z_))) hx_, rR_sm (sm_rfl m) hR⟩
            · refine pw_iret rfl rfl rfl ?_
              refine pw_ifF rfl (by decide) (show ¬ (¬ 0 = 0) by decide) ?_
              refine pw_steps 1 (s' := (28, [some (.ref 47), some (.int (ei_ (a))), some (.int (ei_ (b))), some (.int (ei_ ((-1))))], [.int (ei_ ((-1)))], m)) rfl ?_
              refine pw_iret rfl rfl rfl ?_
              have hx_ : ((-1) : Int) = (-1) := by rfl
              exact ⟨(-1), rfl, congrArg (fun z_ : Int => some (Value.int (ei_ z_))) hx_, rR_sm (sm_rfl m) hR⟩
            · refine pw_iret rfl rfl rfl ?_
              refine pw_ifF rfl (by decide) (show ¬ (¬ 0 = 0) by decide) ?_
              refine pw_steps 1 (s' := (28, [some (.ref 47), some (.int (ei_ (a))), some (.int (ei_ (b))), some (.int (ei_ ((-1))))], [.int (ei_ ((-1)))], m)) rfl ?_
              refine pw_iret rfl rfl rfl ?_
              have hx_ : ((-1) : Int) = (-1) := by rfl
              exact ⟨(-1), rfl, congrArg (fun z_ : Int => some (Value.int (ei_ z_))) hx_, rR_sm (sm_rfl m) hR⟩
        · refine pw_steps 2 (s' := (33, [some (.ref 1), some (.int (ei_ (a))), some (.int (ei_ (b)))], [.int (ei_ (1))], m)) rfl ?_
          refine pw_iret rfl rfl rfl ?_
          refine pw_ifF rfl (by decide) (show ¬ (1 = 0) by decide) ?_
          refine pw_steps 4 (s' := (27, [some (.ref 0), some (.int (ei_ (a))), some (.int (ei_ (b)))], [.int (ei_ (b)), .int (ei_ (a)), .ref 1], m)) rfl ?_
          refine pw_call (As := [.int (ei_ (a)), .int (ei_ (b))]) (st := []) (k := 1) rfl rfl rfl rfl rfl (Nat.le_of_ble_eq_true rfl) ?_
          refine pw_intro (I := iX3_told) (T := tX3_told) rfl rfl rfl ?_
          refine pw_steps 3 (s' := (3, [some (.ref 1), some (.int (ei_ (a))), some (.int (ei_ (b)))], [.int (ei_ (b)), .int (ei_ (a)), .ref 1], m)) rfl ?_
          refine pw_call (As := [.int (ei_ (a)), .int (ei_ (b))]) (st := []) (k := 1) rfl rfl rfl rfl rfl (Nat.le_of_ble_eq_true rfl) ?_
          refine pw_intro (I := iX3_tells) (T := tX3_tells) rfl rfl rfl ?_
          refine pw_steps 1 (s' := (1, [some (.ref 1), some (.int (ei_ (a))), some (.int (ei_ (b)))], [.int (ei_ (b))], m)) rfl ?_
          refine pw_ifF rfl q1 (show ¬ (b < 0) by omega) ?_
          refine pw_steps 2 (s' := (6, [some (.ref 1), some (.int (ei_ (a))), some (.int (ei_ (b)))], [.int (ei_ (5)), .int (ei_ (b))], m)) rfl ?_
          refine pw_cmpT rfl q1 (by decide) (show b ≤ 5 by omega) ?_
          refine pw_steps 2 (s' := (13, [some (.ref 1), some (.int (ei_ (a))), some (.int (ei_ (b)))], [.int (ei_ (4)), .int (ei_ (b))], m)) rfl ?_
          refine pw_cmpT rfl q1 (by decide) (show 4 ≤ b by omega) ?_
          refine pw_steps 1 (s' := (25, [some (.ref 1), some (.int (ei_ (a))), some (.int (ei_ (b)))], [.int (ei_ (a))], m)) rfl ?_
          refine pw_ifF rfl q0 (show ¬ (¬ a = 0) by omega) ?_
          refine pw_steps 2 (s' := (33, [some (.ref 1), some (.int (ei_ (a))), some (.int (ei_ (b)))], [.int (ei_ (1))], m)) rfl ?_
          refine pw_iret rfl rfl rfl ?_
          refine pw_ifF rfl (by decide) (show ¬ (1 = 0) by decide) ?_
          refine pw_steps 4 (s' := (15, [some (.ref 1), some (.int (ei_ (a))), some (.int (ei_ (b)))], [.int (ei_ (b)), .int (ei_ (a)), .ref 2], m)) rfl ?_
          refine pw_callS (As := [.int (ei_ (a)), .int (ei_ (b))]) (st := [.ref 2]) rfl (by decide) rfl rfl (Nat.le_of_ble_eq_true rfl) ?_
          refine pw_intro (I := iX3_placeOf) (T := tX3_placeOf) rfl rfl rfl ?_
          refine pw_steps 2 (s' := (2, [some (.int (ei_ (a))), some (.int (ei_ (b)))], [.int (ei_ (4)), .int (ei_ (b))], m)) rfl ?_
          refine pw_cmpT rfl q1 (by decide) (show 4 ≤ b by omega) ?_
          refine pw_steps 5 (s' := (20, [some (.int (ei_ (a))), some (.int (ei_ (b)))], [.int (((ei_ (32)) + (ei_ (b))) - (ei_ (4)))], m)) rfl ?_
          refine pw_cv (congrArg (fun z_ : Int32 => ((20, [some (.int (ei_ (a))), some (.int (ei_ (b)))], [.int z_], m) : am_S)) (ei_sub (ei_add rfl rfl) rfl)) ?_
          refine pw_iret rfl rfl rfl ?_
          refine pw_ild rfl rfl (by omega) (fun x297 (hx297 : x297 = vi_ m 2 ((32 + b) - 4)) rx297 sx297 => ?_)
          have b298 := hP3 ((32 + b) - 4) (by omega) (by omega)
          refine pw_steps 1 (s' := (23, [some (.ref 1), some (.int (ei_ (a))), some (.int (ei_ (b)))], [.int (ei_ (x297))], m)) rfl ?_
          refine pw_iret rfl rfl rfl ?_
          refine pw_steps 1 (s' := (34, [some (.ref 0), some (.int (ei_ (a))), some (.int (ei_ (b)))], [.int (ei_ (x297))], m)) rfl ?_
          refine pw_iret rfl rfl rfl ?_
          refine pw_intro (I := iX9_of) (T := tX9_of) rfl rfl rfl ?_
          refine pw_steps 3 (s' := (3, [some (.ref 47), some (.int (ei_ (a))), some (.int (ei_ (b))), none], [.int (ei_ (b)), .int (ei_ (a)), .ref 47], m)) rfl ?_
          refine pw_call (As := [.int (ei_ (a)), .int (ei_ (b))]) (st := []) (k := 47) rfl rfl rfl rfl rfl (Nat.le_of_ble_eq_true rfl) ?_
          refine pw_intro (I := iX9_placeOf) (T := tX9_placeOf) rfl rfl rfl ?_
          refine pw_steps 4 (s' := (6, [some (.ref 47), some (.int (ei_ (a))), some (.int (ei_ (b)))], [.long (el_ (3)), .long (el_ (0)), .long ((ei_ (b)).toInt64)], m)) rfl ?_
          refine pw_cv (congrArg (fun z_ : Int64 => ((6, [some (.ref 47), some (.int (ei_ (a))), some (.int (ei_ (b)))], [.long (el_ (3)), .long (el_ (0)), .long z_], m) : am_S)) (el_i2l q1 rfl)) ?_
          refine pw_callS (As := [.long (el_ (b)), .long (el_ (0)), .long (el_ (3))]) (st := []) rfl (by decide) rfl rfl (Nat.le_of_ble_eq_true rfl) ?_
          refine mt_within (by omega) (by omega) (by omega) (fun g299 g300 => ?_) (fun g301 => ?_) (fun g302 => ?_)
          · exact False.elim (by omega)
          · exact False.elim (by omega)
          · refine pw_ifT rfl (by decide) (show 0 = 0 by decide) ?_
            refine pw_steps 1 (s' := (33, [some (.ref 47), some (.int (ei_ (a))), some (.int (ei_ (b)))], [.int (ei_ (a))], m)) rfl ?_
            refine pw_ifF rfl q0 (show ¬ (¬ a = 0) by omega) ?_
            refine pw_steps 4 (s' := (44, [some (.ref 47), some (.int (ei_ (a))), some (.int (ei_ (b)))], [.long (el_ (5)), .long (el_ (4)), .long ((ei_ (b)).toInt64)], m)) rfl ?_
            refine pw_cv (congrArg (fun z_ : Int64 => ((44, [some (.ref 47), some (.int (ei_ (a))), some (.int (ei_ (b)))], [.long (el_ (5)), .long (el_ (4)), .long z_], m) : am_S)) (el_i2l q1 rfl)) ?_
            refine pw_callS (As := [.long (el_ (b)), .long (el_ (4)), .long (el_ (5))]) (st := []) rfl (by decide) rfl rfl (Nat.le_of_ble_eq_true rfl) ?_
            refine mt_within (by omega) (by omega) (by omega) (fun g303 g304 => ?_) (fun g305 => ?_) (fun g306 => ?_)
            · refine pw_ifF rfl (by decide) (show ¬ (1 = 0) by decide) ?_
              refine pw_steps 6 (s' := (60, [some (.ref 47), some (.int (ei_ (a))), some (.int (ei_ (b)))], [.int (((ei_ (32)) + (ei_ (b))) - (ei_ (4)))], m)) rfl ?_
              refine pw_cv (congrArg (fun z_ : Int32 => ((60, [some (.ref 47), some (.int (ei_ (a))), some (.int (ei_ (b)))], [.int z_], m) : am_S)) (ei_sub (ei_add rfl rfl) rfl)) ?_
              refine pw_iret rfl rfl rfl ?_
              refine pw_steps 2 (s' := (8, [some (.ref 47), some (.int (ei_ (a))), some (.int (ei_ (b))), some (.int (ei_ (((32 + b) - 4))))], [.int (ei_ (((32 + b) - 4)))], m)) rfl ?_
              refine pw_ifF rfl (by omega) (show ¬ (((32 + b) - 4) < 0) by omega) ?_
              refine pw_steps 3 (s' := (16, [some (.ref 47), some (.int (ei_ (a))), some (.int (ei_ (b))), some (.int (ei_ (((32 + b) - 4))))], [.int (ei_ (((32 + b) - 4))), .ref 48], m)) rfl ?_
              refine pw_ild rfl rfl (by omega) (fun x307 (hx307 : x307 = vi_ m 48 ((32 + b) - 4)) rx307 sx307 => ?_)
              have ox307 := hx307
              have b308 := hP3 ((32 + b) - 4) (by omega) (by omega)
              rw [b308.2.2] at hx307
              try rw [Int.zero_add] at hx307 b308
              refine pw_iret rfl rfl rfl ?_
              have hx_ : (x307 : Int) = x297 := by first | omega | (rw [hx307, hx297]; exact congrArg _ (by omega))
              exact ⟨x297, rfl, congrArg (fun z_ : Int => some (Value.int (ei_ z_))) hx_, rR_sm (sm_rfl m) hR⟩
            · exact False.elim (by omega)
            · exact False.elim (by omega)
      · refine pw_steps 2 (s' := (18, [some (.ref 1), some (.int (ei_ (a))), some (.int (ei_ (b)))], [.int (ei_ (a)), .ref 1], m)) rfl ?_
        refine pw_call (As := [.int (ei_ (a))]) (st := []) (k := 1) rfl rfl rfl rfl rfl (Nat.le_of_ble_eq_true rfl) ?_
        refine pw_intro (I := iX3_has) (T := tX3_has) rfl rfl rfl ?_
        refine pw_steps 1 (s' := (1, [some (.ref 1), some (.int (ei_ (a)))], [.int (ei_ (a))], m)) rfl ?_
        refine pw_if rfl q0 (fun (h309 : a < 0) => ?_) (fun (h309 : ¬ (a < 0)) => ?_)
        · refine pw_steps 1 (s' := (17, [some (.ref 1), some (.int (ei_ (a)))], [.int (ei_ (0))], m)) rfl ?_
          refine pw_iret rfl rfl rfl ?_
          refine pw_steps 1 (s' := (33, [some (.ref 1), some (.int (ei_ (a))), some (.int (ei_ (b)))], [.int (ei_ (0))], m)) rfl ?_
          refine pw_iret rfl rfl rfl ?_
          refine pw_ifT rfl (by decide) (show 0 = 0 by decide) ?_
          refine pw_steps 1 (s' := (34, [some (.ref 0), some (.int (ei_ (a))), some (.int (ei_ (b)))], [.int (ei_ ((-1)))], m)) rfl ?_
          refine pw_iret rfl rfl rfl ?_
          refine pw_intro (I := iX9_of) (T := tX9_of) rfl rfl rfl ?_
          refine pw_steps 3 (s' := (3, [some (.ref 47), some (.int (ei_ (a))), some (.int (ei_ (b))), none], [.int (ei_ (b)), .int (ei_ (a)), .ref 47], m)) rfl ?_
          refine pw_call (As := [.int (ei_ (a)), .int (ei_ (b))]) (st := []) (k := 47) rfl rfl rfl rfl rfl (Nat.le_of_ble_eq_true rfl) ?_
          refine pw_intro (I := iX9_placeOf) (T := tX9_placeOf) rfl rfl rfl ?_
          refine pw_steps 4 (s' := (6, [some (.ref 47), some (.int (ei_ (a))), some (.int (ei_ (b)))], [.long (el_ (3)), .long (el_ (0)), .long ((ei_ (b)).toInt64)], m)) rfl ?_
          refine pw_cv (congrArg (fun z_ : Int64 => ((6, [some (.ref 47), some (.int (ei_ (a))), some (.int (ei_ (b)))], [.long (el_ (3)), .long (el_ (0)), .long z_], m) : am_S)) (el_i2l q1 rfl)) ?_
          refine pw_callS (As := [.long (el_ (b)), .long (el_ (0)), .long (el_ (3))]) (st := []) rfl (by decide) rfl rfl (Nat.le_of_ble_eq_true rfl) ?_
          refine mt_within (by omega) (by omega) (by omega) (fun g310 g311 => ?_) (fun g312 => ?_) (fun g313 => ?_)
          · refine pw_ifF rfl (by decide) (show ¬ (1 = 0) by decide) ?_
            refine pw_steps 3 (s' := (15, [some (.ref 47), some (.int (ei_ (a))), some (.int (ei_ (b)))], [.long ((ei_ (a)).toInt64), .ref 47], m)) rfl ?_
            refine pw_cv (congrArg (fun z_ : Int64 => ((15, [some (.ref 47), some (.int (ei_ (a))), some (.int (ei_ (b)))], [.long z_, .ref 47], m) : am_S)) (el_i2l q0 rfl)) ?_
            refine pw_call (As := [.long (el_ (a))]) (st := []) (k := 47) rfl rfl rfl rfl rfl (Nat.le_of_ble_eq_true rfl) ?_
            refine pw_intro (I := iX9_isOne) (T := tX9_isOne) rfl rfl rfl ?_
            refine pw_steps 3 (s' := (3, [some (.ref 47), some (.long (el_ (a))), none], [.ref 47, .long (el_ (0)), .long (el_ (a))], m)) rfl ?_
            refine pw_get rfl rfl (fun x314 (hx314 : x314 = vi_ m 47 6) rx314 sx314 => ?_)
            refine pw_steps 3 (s' := (9, [some (.ref 47), some (.long (el_ (a))), none], [.long (((ei_ (x314)) - (ei_ (1))).toInt64), .long (el_ (0)), .long (el_ (a))], m)) rfl ?_
            refine pw_cv (congrArg (fun z_ : Int64 => ((9, [some (.ref 47), some (.long (el_ (a))), none], [.long z_, .long (el_ (0)), .long (el_ (a))], m) : am_S)) (el_i2l (by omega) (ei_sub rfl rfl))) ?_
            refine pw_callS (As := [.long (el_ (a)), .long (el_ (0)), .long (el_ ((x314 - 1)))]) (st := []) rfl (by decide) rfl rfl (Nat.le_of_ble_eq_true rfl) ?_
            refine mt_within (by omega) (by omega) (by omega) (fun g315 g316 => ?_) (fun g317 => ?_) (fun g318 => ?_)
            · exact False.elim (by omega)
            · refine pw_iret rfl rfl rfl ?_
              refine pw_ifT rfl (by decide) (show 0 = 0 by decide) ?_
              refine pw_steps 1 (s' := (31, [some (.ref 47), some (.int (ei_ (a))), some (.int (ei_ (b)))], [.int (ei_ ((-1)))], m)) rfl ?_
              refine pw_iret rfl rfl rfl ?_
              refine pw_steps 2 (s' := (8, [some (.ref 47), some (.int (ei_ (a))), some (.int (ei_ (b))), some (.int (ei_ ((-1))))], [.int (ei_ ((-1)))], m)) rfl ?_
              refine pw_ifT rfl (by decide) (show (-1) < 0 by decide) ?_
              refine pw_steps 3 (s' := (21, [some (.ref 47), some (.int (ei_ (a))), some (.int (ei_ (b))), some (.int (ei_ ((-1))))], [.long ((ei_ (a)).toInt64), .ref 47], m)) rfl ?_
              refine pw_cv (congrArg (fun z_ : Int64 => ((21, [some (.ref 47), some (.int (ei_ (a))), some (.int (ei_ (b))), some (.int (ei_ ((-1))))], [.long z_, .ref 47], m) : am_S)) (el_i2l q0 rfl)) ?_
              refine pw_call (As := [.long (el_ (a))]) (st := []) (k := 47) rfl rfl rfl rfl rfl (Nat.le_of_ble_eq_true rfl) ?_
              refine pw_intro (I := iX9_isOne) (T := tX9_isOne) rfl rfl rfl ?_
              refine pw_steps 3 (s' := (3, [some (.ref 47), some (.long (el_ (a))), none], [.ref 47, .long (el_ (0)), .long (el_ (a))], m)) rfl ?_
              refine pw_getE (x := x314) rfl rfl hx314 ?_
              refine pw_steps 3 (s' := (9, [some (.ref 47), some (.long (el_ (a))), none], [.long (((ei_ (x314)) - (ei_ (1))).toInt64), .long (el_ (0)), .long (el_ (a))], m)) rfl ?_
              refine pw_cv (congrArg (fun z_ : Int64 => ((9, [some (.ref 47), some (.long (el_ (a))), none], [.long z_, .long (el_ (0)), .long (el_ (a))], m) : am_S)) (el_i2l (by omega) (ei_sub rfl rfl))) ?_
              refine pw_callS (As := [.long (el_ (a)), .long (el_ (0)), .long (el_ ((x314 - 1)))]) (st := []) rfl (by decide) rfl rfl (Nat.le_of_ble_eq_true rfl) ?_
              refine mt_within (by omega) (by omega) (by omega) (fun g319 g320 => ?_) (fun g321 => ?_) (fun g322 => ?_)
              · exact False.elim (by omega)
              · refine pw_iret rfl rfl rfl ?_
                refine pw_ifF rfl (by decide) (show ¬ (¬ 0 = 0) by decide) ?_
                refine pw_steps 1 (s' := (28, [some (.ref 47), some (.int (ei_ (a))), some (.int (ei_ (b))), some (.int (ei_ ((-1))))], [.int (ei_ ((-1)))], m)) rfl ?_
                refine pw_iret rfl rfl rfl ?_
                have hx_ : ((-1) : Int) = (-1) := by rfl
                exact ⟨(-1), rfl, congrArg (fun z_ : Int => some (Value.int (ei_ z_))) hx_, rR_sm (sm_rfl m) hR⟩
              · exact False.elim (by omega)
            · exact False.elim (by omega)
          · exact False.elim (by omega)
          · exact False.elim (by omega)
        · refine pw_steps 2 (s' := (6, [some (.ref 1), some (.int (ei_ (a)))], [.ref 1, .int (ei_ (a))], m)) rfl ?_
          refine pw_get rfl rfl (fun x323 (hx323 : x323 = vi_ m 1 1) rx323 sx323 => ?_)
          refine pw_cmp rfl q0 ⟨rx323, sx323⟩ (fun (h324 : x323 ≤ a) => ?_) (fun (h324 : ¬ (x323 ≤ a)) => ?_)
          · refine pw_steps 1 (s' := (17, [some (.ref 1), some (.int (ei_ (a)))], [.int (ei_ (0))], m)) rfl ?_
            refine pw_iret rfl rfl rfl ?_
            refine pw_steps 1 (s' := (33, [some (.ref 1), some (.int (ei_ (a))), some (.int (ei_ (b)))], [.int (ei_ (0))], m)) rfl ?_
            refine pw_iret rfl rfl rfl ?_
            refine pw_ifT rfl (by decide) (show 0 = 0 by decide) ?_
            refine pw_steps 1 (s' := (34, [some (.ref 0), some (.int (ei_ (a))), some (.int (ei_ (b)))], [.int (ei_ ((-1)))], m)) rfl ?_
            refine pw_iret rfl rfl rfl ?_
            refine pw_intro (I := iX9_of) (T := tX9_of) rfl rfl rfl ?_
            refine pw_steps 3 (s' := (3, [some (.ref 47), some (.int (ei_ (a))), some (.int (ei_ (b))), none], [.int (ei_ (b)), .int (ei_ (a)), .ref 47], m)) rfl ?_
            refine pw_call (As := [.int (ei_ (a)), .int (ei_ (b))]) (st := []) (k := 47) rfl rfl rfl rfl rfl (Nat.le_of_ble_eq_true rfl) ?_
            refine pw_intro (I := iX9_placeOf) (T := tX9_placeOf) rfl rfl rfl ?_
            refine pw_steps 4 (s' := (6, [some (.ref 47), some (.int (ei_ (a))), some (.int (ei_ (b)))], [.long (el_ (3)), .long (el_ (0)), .long ((ei_ (b)).toInt64)], m)) rfl ?_
            refine pw_cv (congrArg (fun z_ : Int64 => ((6, [some (.ref 47), some (.int (ei_ (a))), some (.int (ei_ (b)))], [.long (el_ (3)), .long (el_ (0)), .long z_], m) : am_S)) (el_i2l q1 rfl)) ?_
            refine pw_callS (As := [.long (el_ (b)), .long (el_ (0)), .long (el_ (3))]) (st := []) rfl (by decide) rfl rfl (Nat.le_of_ble_eq_true rfl) ?_
            refine mt_within (by omega) (by omega) (by omega) (fun g325 g326 => ?_) (fun g327 => ?_) (fun g328 => ?_)
            · refine pw_ifF rfl (by decide) (show ¬ (1 = 0) by decide) ?_
              refine pw_steps 3 (s' := (15, [some (.ref 47), some (.int (ei_ (a))), some (.int (ei_ (b)))], [.long ((ei_ (a)).toInt64), .ref 47], m)) rfl ?_
              refine pw_cv (congrArg (fun z_ : Int64 => ((15, [some (.ref 47), some (.int (ei_ (a))), some (.int (ei_ (b)))], [.long z_, .ref 47], m) : am_S)) (el_i2l q0 rfl)) ?_
              refine pw_call (As := [.long (el_ (a))]) (st := []) (k := 47) rfl rfl rfl rfl rfl (Nat.le_of_ble_eq_true rfl) ?_
              refine pw_intro (I := iX9_isOne) (T := tX9_isOne) rfl rfl rfl ?_
              refine pw_steps 3 (s' := (3, [some (.ref 47), some (.long (el_ (a))), none], [.ref 47, .long (el_ (0)), .long (el_ (a))], m)) rfl ?_
              refine pw_get rfl rfl (fun x329 (hx329 : x329 = vi_ m 47 6) rx329 sx329 => ?_)
              refine pw_steps 3 (s' := (9, [some (.ref 47), some (.long (el_ (a))), none], [.long (((ei_ (x329)) - (ei_ (1))).toInt64), .long (el_ (0)), .long (el_ (a))], m)) rfl ?_
              refine pw_cv (congrArg (fun z_ : Int64 => ((9, [some (.ref 47), some (.long (el_ (a))), none], [.long z_, .long (el_ (0)), .long (el_ (a))], m) : am_S)) (el_i2l (by omega) (ei_sub rfl rfl))) ?_
              refine pw_callS (As := [.long (el_ (a)), .long (el_ (0)), .long (el_ ((x329 - 1)))]) (st := []) rfl (by decide) rfl rfl (Nat.le_of_ble_eq_true rfl) ?_
              refine mt_within (by omega) (by omega) (by omega) (fun g330 g331 => ?_) (fun g332 => ?_) (fun g333 => ?_)
              · exact False.elim (by omega)
              · exact False.elim (by omega)
              · refine pw_iret rfl rfl rfl ?_
                refine pw_ifT rfl (by decide) (show 0 = 0 by decide) ?_
                refine pw_steps 1 (s' := (31, [some (.ref 47), some (.int (ei_ (a))), some (.int (ei_ (b)))], [.int (ei_ ((-1)))], m)) rfl ?_
                refine pw_iret rfl rfl rfl ?_
                refine pw_steps 2 (s' := (8, [some (.ref 47), some (.int (ei_ (a))), some (.int (ei_ (b))), some (.int (ei_ ((-1))))], [.int (ei_ ((-1)))], m)) rfl ?_
                refine pw_ifT rfl (by decide) (show (-1) < 0 by decide) ?_
                refine pw_steps 3 (s' := (21, [some (.ref 47), some (.int (ei_ (a))), some (.int (ei_ (b))), some (.int (ei_ ((-1))))], [.long ((ei_ (a)).toInt64), .ref 47], m)) rfl ?_
                refine pw_cv (congrArg (fun z_ : Int64 => ((21, [some (.ref 47), some (.int (ei_ (a))), some (.int (ei_ (b))), some (.int (ei_ ((-1))))], [.long z_, .ref 47], m) : am_S)) (el_i2l q0 rfl)) ?_
                refine pw_call (As := [.long (el_ (a))]) (st := []) (k := 47) rfl rfl rfl rfl rfl (Nat.le_of_ble_eq_true rfl) ?_
                refine pw_intro (I := iX9_isOne) (T := tX9_isOne) rfl rfl rfl ?_
                refine pw_steps 3 (s' := (3, [some (.ref 47), some (.long (el_ (a))), none], [.ref 47, .long (el_ (0)), .long (el_ (a))], m)) rfl ?_
                refine pw_getE (x := x329) rfl rfl hx329 ?_
                refine pw_steps 3 (s' := (9, [some (.ref 47), some (.long (el_ (a))), none], [.long (((ei_ (x329)) - (ei_ (1))).toInt64), .long (el_ (0)), .long (el_ (a))], m)) rfl ?_
                refine pw_cv (congrArg (fun z_ : Int64 => ((9, [some (.ref 47), some (.long (el_ (a))), none], [.long z_, .long (el_ (0)), .long (el_ (a))], m) : am_S)) (el_i2l (by omega) (ei_sub rfl rfl))) ?_
                refine pw_callS (As := [.long (el_ (a)), .long (el_ (0)), .long (el_ ((x329 - 1)))]) (st := []) rfl (by decide) rfl rfl (Nat.le_of_ble_eq_true rfl) ?_
                refine mt_within (by omega) (by omega) (by omega) (fun g334 g335 => ?_) (fun g336 => ?_) (fun g337 => ?_)
                · exact False.elim (by omega)
                · exact False.elim (by omega)
                · refine pw_iret rfl rfl rfl ?_
                  refine pw_ifF rfl (by decide) (show ¬ (¬ 0 = 0) by decide) ?_
                  refine pw_steps 1 (s' := (28, [some (.ref 47), some (.int (ei_ (a))), some (.int (ei_ (b))), some (.int (ei_ ((-1))))], [.int (ei_ ((-1)))], m)) rfl ?_
                  refine pw_iret rfl rfl rfl ?_
                  have hx_ : ((-1) : Int) = (-1) := by rfl
                  exact ⟨(-1), rfl, congrArg (fun z_ : Int => some (Value.int (ei_ z_))) hx_, rR_sm (sm_rfl m) hR⟩
            · exact False.elim (by omega)
            · exact False.elim (by omega)
          · refine pw_steps 2 (s' := (17, [some (.ref 1), some (.int (ei_ (a)))], [.int (ei_ (1))], m)) rfl ?_
            refine pw_iret rfl rfl rfl ?_
            refine pw_steps 1 (s' := (33, [some (.ref 1), some (.int (ei_ (a))), some (.int (ei_ (b)))], [.int (ei_ (1))], m)) rfl ?_
            refine pw_iret rfl rfl rfl ?_
            refine pw_ifF rfl (by decide) (show ¬ (1 = 0) by decide) ?_
            refine pw_steps 4 (s' := (27, [some (.ref 0), some (.int (ei_ (a))), some (.int (ei_ (b)))], [.int (ei_ (b)), .int (ei_ (a)), .ref 1], m)) rfl ?_
            refine pw_call (As := [.int (ei_ (a)), .int (ei_ (b))]) (st := []) (k := 1) rfl rfl rfl rfl rfl (Nat.le_of_ble_eq_true rfl) ?_
            refine pw_intro (I := iX3_told) (T := tX3_told) rfl rfl rfl ?_
            refine pw_steps 3 (s' := (3, [some (.ref 1), some (.int (ei_ (a))), some (.int (ei_ (b)))], [.int (ei_ (b)), .int (ei_ (a)), .ref 1], m)) rfl ?_
            refine pw_call (As := [.int (ei_ (a)), .int (ei_ (b))]) (st := []) (k := 1) rfl rfl rfl rfl rfl (Nat.le_of_ble_eq_true rfl) ?_
            refine pw_intro (I := iX3_tells) (T := tX3_tells) rfl rfl rfl ?_
            refine pw_steps 1 (s' := (1, [some (.ref 1), some (.int (ei_ (a))), some (.int (ei_ (b)))], [.int (ei_ (b))], m)) rfl ?_
            refine pw_ifF rfl q1 (show ¬ (b < 0) by omega) ?_
            refine pw_steps 2 (s' := (6, [some (.ref 1), some (.int (ei_ (a))), some (.int (ei_ (b)))], [.int (ei_ (5)), .int (ei_ (b))], m)) rfl ?_
            refine pw_cmpT rfl q1 (by decide) (show b ≤ 5 by omega) ?_
            refine pw_steps 2 (s' := (13, [some (.ref 1), some (.int (ei_ (a))), some (.int (ei_ (b)))], [.int (ei_ (4)), .int (ei_ (b))], m)) rfl ?_
            refine pw_cmpF rfl q1 (by decide) (show ¬ (4 ≤ b) by omega) ?_
            refine pw_steps 2 (s' := (18, [some (.ref 1), some (.int (ei_ (a))), some (.int (ei_ (b)))], [.int (ei_ (a)), .ref 1], m)) rfl ?_
            refine pw_call (As := [.int (ei_ (a))]) (st := []) (k := 1) rfl rfl rfl rfl rfl (Nat.le_of_ble_eq_true rfl) ?_
            refine pw_intro (I := iX3_has) (T := tX3_has) rfl rfl rfl ?_
            refine pw_steps 1 (s' := (1, [some (.ref 1), some (.int (ei_ (a)))], [.int (ei_ (a))], m)) rfl ?_
            refine pw_ifF rfl q0 (show ¬ (a < 0) by omega) ?_
            refine pw_steps 2 (s' := (6, [some (.ref 1), some (.int (ei_ (a)))], [.ref 1, .int (ei_ (a))], m)) rfl ?_
            refine pw_getE (x := x323) rfl rfl hx323 ?_
            refine pw_cmpF rfl q0 ⟨rx323, sx323⟩ (show ¬ (x323 ≤ a) by omega) ?_
            refine pw_steps 2 (s' := (17, [some (.ref 1), some (.int (ei_ (a)))], [.int (ei_ (1))], m)) rfl ?_
            refine pw_iret rfl rfl rfl ?_
            refine pw_steps 1 (s' := (33, [some (.ref 1), some (.int (ei_ (a))), some (.int (ei_ (b)))], [.int (ei_ (1))], m)) rfl ?_
            refine pw_iret rfl rfl rfl ?_
            refine pw_ifF rfl (by decide) (show ¬ (1 = 0) by decide) ?_
            refine pw_steps 4 (s' := (15, [some (.ref 1), some (.int (ei_ (a))), some (.int (ei_ (b)))], [.int (ei_ (b)), .int (ei_ (a)), .ref 2], m)) rfl ?_
            refine pw_callS (As := [.int (ei_ (a)), .int (ei_ (b))]) (st := [.ref 2]) rfl (by decide) rfl rfl (Nat.le_of_ble_eq_true rfl) ?_
            refine pw_intro (I := iX3_placeOf) (T := tX3_placeOf) rfl rfl rfl ?_
            refine pw_steps 2 (s' := (2, [some (.int (ei_ (a))), some (.int (ei_ (b)))], [.int (ei_ (4)), .int (ei_ (b))], m)) rfl ?_
            refine pw_cmpF rfl q1 (by decide) (show ¬ (4 ≤ b) by omega) ?_
            refine pw_steps 6 (s' := (20, [some (.int (ei_ (a))), some (.int (ei_ (b)))], [.int (((ei_ (b)) * (ei_ (8))) + (ei_ (a)))], m)) rfl ?_
            refine pw_cv (congrArg (fun z_ : Int32 => ((20, [some (.int (ei_ (a))), some (.int (ei_ (b)))], [.int z_], m) : am_S)) (ei_add (ei_mul rfl rfl) rfl)) ?_
            refine pw_iret rfl rfl rfl ?_
            refine pw_ild rfl rfl (by omega) (fun x338 (hx338 : x338 = vi_ m 2 ((b * 8) + a)) rx338 sx338 => ?_)
            have b339 := hP3 ((b * 8) + a) (by omega) (by omega)
            refine pw_steps 1 (s' := (23, [some (.ref 1), some (.int (ei_ (a))), some (.int (ei_ (b)))], [.int (ei_ (x338))], m)) rfl ?_
            refine pw_iret rfl rfl rfl ?_
            refine pw_steps 1 (s' := (34, [some (.ref 0), some (.int (ei_ (a))), some (.int (ei_ (b)))], [.int (ei_ (x338))], m)) rfl ?_
            refine pw_iret rfl rfl rfl ?_
            refine pw_intro (I := iX9_of) (T := tX9_of) rfl rfl rfl ?_
            refine pw_steps 3 (s' := (3, [some (.ref 47), some (.int (ei_ (a))), some (.int (ei_ (b))), none], [.int (ei_ (b)), .int (ei_ (a)), .ref 47], m)) rfl ?_
            refine pw_call (As := [.int (ei_ (a)), .int (ei_ (b))]) (st := []) (k := 47) rfl rfl rfl rfl rfl (Nat.le_of_ble_eq_true rfl) ?_
            refine pw_intro (I := iX9_placeOf) (T := tX9_placeOf) rfl rfl rfl ?_
            refine pw_steps 4 (s' := (6, [some (.ref 47), some (.int (ei_ (a))), some (.int (ei_ (b)))], [.long (el_ (3)), .long (el_ (0)), .long ((ei_ (b)).toInt64)], m)) rfl ?_
            refine pw_cv (congrArg (fun z_ : Int64 => ((6, [some (.ref 47), some (.int (ei_ (a))), some (.int (ei_ (b)))], [.long (el_ (3)), .long (el_ (0)), .long z_], m) : am_S)) (el_i2l q1 rfl)) ?_
            refine pw_callS (As := [.long (el_ (b)), .long (el_ (0)), .long (el_ (3))]) (st := []) rfl (by decide) rfl rfl (Nat.le_of_ble_eq_true rfl) ?_
            refine mt_within (by omega) (by omega) (by omega) (fun g340 g341 => ?_) (fun g342 => ?_) (fun g343 => ?_)
            · refine pw_ifF rfl (by decide) (show ¬ (1 = 0) by decide) ?_
              refine pw_steps 3 (s' := (15, [some (.ref 47), some (.int (ei_ (a))), some (.int (ei_ (b)))], [.long ((ei_ (a)).toInt64), .ref 47], m)) rfl ?_
              refine pw_cv (congrArg (fun z_ : Int64 => ((15, [some (.ref 47), some (.int (ei_ (a))), some (.int (ei_ (b)))], [.long z_, .ref 47], m) : am_S)) (el_i2l q0 rfl)) ?_
              refine pw_call (As := [.long (el_ (a))]) (st := []) (k := 47) rfl rfl rfl rfl rfl (Nat.le_of_ble_eq_true rfl) ?_
              refine pw_intro (I := iX9_isOne) (T := tX9_isOne) rfl rfl rfl ?_
              refine pw_steps 3 (s' := (3, [some (.ref 47), some (.long (el_ (a))), none], [.ref 47, .long (el_ (0)), .long (el_ (a))], m)) rfl ?_
              refine pw_get rfl rfl (fun x344 (hx344 : x344 = vi_ m 47 6) rx344 sx344 => ?_)
              refine pw_steps 3 (s' := (9, [some (.ref 47), some (.long (el_ (a))), none], [.long (((ei_ (x344)) - (ei_ (1))).toInt64), .long (el_ (0)), .long (el_ (a))], m)) rfl ?_
              refine pw_cv (congrArg (fun z_ : Int64 => ((9, [some (.ref 47), some (.long (el_ (a))), none], [.long z_, .long (el_ (0)), .long (el_ (a))], m) : am_S)) (el_i2l (by omega) (ei_sub rfl rfl))) ?_
              refine pw_callS (As := [.long (el_ (a)), .long (el_ (0)), .long (el_ ((x344 - 1)))]) (st := []) rfl (by decide) rfl rfl (Nat.le_of_ble_eq_true rfl) ?_
              refine mt_within (by omega) (by omega) (by omega) (fun g345 g346 => ?_) (fun g347 => ?_) (fun g348 => ?_)
              · refine pw_iret rfl rfl rfl ?_
                refine pw_ifF rfl (by decide) (show ¬ (1 = 0) by decide) ?_
                refine pw_steps 6 (s' := (31, [some (.ref 47), some (.int (ei_ (a))), some (.int (ei_ (b)))], [.int (((ei_ (8)) * (ei_ (b))) + (ei_ (a)))], m)) rfl ?_
                refine pw_cv (congrArg (fun z_ : Int32 => ((31, [some (.ref 47), some (.int (ei_ (a))), some (.int (ei_ (b)))], [.int z_], m) : am_S)) (ei_add (ei_mul rfl rfl) rfl)) ?_
                refine pw_iret rfl rfl rfl ?_
                refine pw_steps 2 (s' := (8, [some (.ref 47), some (.int (ei_ (a))), some (.int (ei_ (b))), some (.int (ei_ (((8 * b) + a))))], [.int (ei_ (((8 * b) + a)))], m)) rfl ?_
                refine pw_ifF rfl (by omega) (show ¬ (((8 * b) + a) < 0) by omega) ?_
                refine pw_steps 3 (s' := (16, [some (.ref 47), some (.int (ei_ (a))), some (.int (ei_ (b))), some (.int (ei_ (((8 * b) + a))))], [.int (ei_ (((8 * b) + a))), .ref 48], m)) rfl ?_
                refine pw_ild rfl rfl (by omega) (fun x349 (hx349 : x349 = vi_ m 48 ((8 * b) + a)) rx349 sx349 => ?_)
                have ox349 := hx349
                have b350 := hP3 ((8 * b) + a) (by omega) (by omega)
                rw [b350.2.2] at hx349
                try rw [Int.zero_add] at hx349 b350
                refine pw_iret rfl rfl rfl ?_
                have hx_ : (x349 : Int) = x338 := by first | omega | (rw [hx349, hx338]; exact congrArg _ (by omega))
                exact ⟨x338, rfl, congrArg (fun z_ : Int => some (Value.int (ei_ z_))) hx_, rR_sm (sm_rfl m) hR⟩
              · exact False.elim (by omega)
              · exact False.elim (by omega)
            · exact False.elim (by omega)
            · exact False.elim (by omega)

set_option maxHeartbeats 4000000 in
set_option maxRecDepth 20000 in
theorem op_count {q : am_X} {d : Nat} {m : am_M} {a : Int} (q0 : -2147483648 ≤ a ∧ a < 2147483648) (hR : rR_ m) : pw_C q (d + 60) 168 [.ref 0, .int (ei_ (a))] m (fun r1 m1 => pw_C q (d + 60) 263 [.ref 47, .int (ei_ (a))] m1 (fun r2 m2 => ∃ x : Int, r1 = some (.int (ei_ x)) ∧ r2 = some (.int (ei_ x)) ∧ rR_ m2)) := by
  obtain ⟨hp, hd, hi, ht, hl, hz, hc, ha, hs⟩ := id hR
  obtain ⟨hP1, hP2, hP3, hP4⟩ := id hp
  have hmw := mW_of hp hd
  have hmf := mF_of hp hd
  obtain ⟨ht1, ht2, ht3⟩ := id ht
  obtain ⟨hc1, hc2, hc3, hc4⟩ := id hc
  obtain ⟨ha1, ha2, ha3, ha4, ha5, ha6⟩ := id ha
  refine pw_intro (I := iX8_count) (T := tX8_count) rfl rfl rfl ?_
  refine pw_steps 1 (s' := (1, [some (.ref 0), some (.int (ei_ (a)))], [.int (ei_ (a))], m)) rfl ?_
  rcases (show a = 0 ∨ a = 1 ∨ a = 2 ∨ a = 3 ∨ a = 4 ∨ a = 5 ∨ a < 0 ∨ 5 < a by omega) with h1 | h1 | h1 | h1 | h1 | h1 | h1 | h1
  · refine pw_tab 0 40 rfl q0 (by omega) (by omega) rfl ?_
    refine pw_steps 2 (s' := (44, [some (.ref 0), some (.int (ei_ (a)))], [.ref 1], m)) rfl ?_
    refine pw_call (As := []) (st := []) (k := 1) rfl rfl rfl rfl rfl (Nat.le_of_ble_eq_true rfl) ?_
    refine pw_intro (I := iX3_size) (T := tX3_size) rfl rfl rfl ?_
    refine pw_steps 1 (s' := (1, [some (.ref 1)], [.ref 1], m)) rfl ?_
    refine pw_get rfl rfl (fun x2 (hx2 : x2 = vi_ m 1 1) rx2 sx2 => ?_)
    refine pw_iret rfl rfl rfl ?_
    refine pw_iret rfl rfl rfl ?_
    refine pw_intro (I := iX9_count) (T := tX9_count) rfl rfl rfl ?_
    refine pw_steps 1 (s' := (1, [some (.ref 47), some (.int (ei_ (a)))], [.int (ei_ (a))], m)) rfl ?_
    rcases (show a = 0 by omega) with h3
    · refine pw_tab 0 40 rfl q0 (by omega) (by omega) rfl ?_
      refine pw_steps 1 (s' := (41, [some (.ref 47), some (.int (ei_ (a)))], [.ref 47], m)) rfl ?_
      refine pw_get rfl rfl (fun x4 (hx4 : x4 = vi_ m 47 6) rx4 sx4 => ?_)
      refine pw_iret rfl rfl rfl ?_
      have hx_ : (x4 : Int) = x2 := by first | omega | (rw [hx4, hx2]; exact congrArg _ (by omega))
      exact ⟨x2, rfl, congrArg (fun z_ : Int => some (Value.int (ei_ z_))) hx_, rR_sm (sm_rfl m) hR⟩
  · refine pw_tab 1 48 rfl q0 (by omega) (by omega) rfl ?_
    refine pw_steps 2 (s' := (52, [some (.ref 0), some (.int (ei_ (a)))], [.ref 3], m)) rfl ?_
    refine pw_call (As := []) (st := []) (k := 3) rfl rfl rfl rfl rfl (Nat.le_of_ble_eq_true rfl) ?_
    refine cw_given ((sm_rfl m)) (fun x5 g6 g7 => ?_)
    refine pw_iret rfl rfl rfl ?_
    refine pw_intro (I := iX9_count) (T := tX9_count) rfl rfl rfl ?_
    refine pw_steps 1 (s' := (1, [some (.ref 47), some (.int (ei_ (a)))], [.int (ei_ (a))], m)) rfl ?_
    rcases (show a = 1 by omega) with h8
    · refine pw_tab 1 45 rfl q0 (by omega) (by omega) rfl ?_
      refine pw_steps 1 (s' := (46, [some (.ref 47), some (.int (ei_ (a)))], [.ref 47], m)) rfl ?_
      refine pw_call (As := []) (st := []) (k := 47) rfl rfl rfl rfl rfl (Nat.le_of_ble_eq_true rfl) ?_
      refine mw_given (hp) ((sm_rfl m)) (fun x9 g10 g11 => ?_)
      refine pw_iret rfl rfl rfl ?_
      have hx_ : (x9 : Int) = x5 := by first | omega | (rw [g10, g6]; first | exact cn_mc hp hd ⟨by omega, by omega⟩ | exact su_mc hp hd | rfl)
      exact ⟨x5, rfl, congrArg (fun z_ : Int => some (Value.int (ei_ z_))) hx_, rR_sm (sm_rfl m) hR⟩
  · refine pw_tab 2 56 rfl q0 (by omega) (by omega) rfl ?_
    refine pw_steps 2 (s' := (60, [some (.ref 0), some (.int (ei_ (a)))], [.ref 11], m)) rfl ?_
    refine pw_call (As := []) (st := []) (k := 11) rfl rfl rfl rfl rfl (Nat.le_of_ble_eq_true rfl) ?_
    refine pw_intro (I := iX6_length) (T := tX6_length) rfl rfl rfl ?_
    refine pw_steps 1 (s' := (1, [some (.ref 11)], [.ref 11], m)) rfl ?_
    refine pw_get rfl rfl (fun x12 (hx12 : x12 = vi_ m 11 1) rx12 sx12 => ?_)
    refine pw_iret rfl rfl rfl ?_
    refine pw_iret rfl rfl rfl ?_
    refine pw_intro (I := iX9_count) (T := tX9_count) rfl rfl rfl ?_
    refine pw_steps 1 (s' := (1, [some (.ref 47), some (.int (ei_ (a)))], [.int (ei_ (a))], m)) rfl ?_
    rcases (show a = 2 by omega) with h13
    · refine pw_tab 2 50 rfl q0 (by omega) (by omega) rfl ?_
      refine pw_steps 1 (s' := (51, [some (.ref 47), some (.int (ei_ (a)))], [.ref 47], m)) rfl ?_
      refine pw_get rfl rfl (fun x14 (hx14 : x14 = vi_ m 47 10) rx14 sx14 => ?_)
      refine pw_iret rfl rfl rfl ?_
      have hx_ : (x14 : Int) = x12 := by first | omega | (rw [hx14, hx12]; exact congrArg _ (by omega))
      exact ⟨x12, rfl, congrArg (fun z_ : Int => some (Value.int (ei_ z_))) hx_, rR_sm (sm_rfl m) hR⟩
  · refine pw_tab 3 64 rfl q0 (by omega) (by omega) rfl ?_
    refine pw_steps 2 (s' := (68, [some (.ref 0), some (.int (ei_ (a)))], [.ref 24], m)) rfl ?_
    refine pw_call (As := []) (st := []) (k := 24) rfl rfl rfl rfl rfl (Nat.le_of_ble_eq_true rfl) ?_
    refine pw_intro (I := iX1_mayGoBack) (T := tX1_mayGoBack) rfl rfl rfl ?_
    refine pw_steps 1 (s' := (1, [some (.ref 24)], [.ref 24], m)) rfl ?_
    refine pw_get rfl rfl (fun x15 (hx15 : x15 = vi_ m 24 4) rx15 sx15 => ?_)
    refine pw_iret rfl rfl rfl ?_
    refine pw_iret rfl rfl rfl ?_
    refine pw_intro (I := iX9_count) (T := tX9_count) rfl rfl rfl ?_
    refine pw_steps 1 (s' := (1, [some (.ref 47), some (.int (ei_ (a)))], [.int (ei_ (a))], m)) rfl ?_
    rcases (show a = 3 by omega) with h16
    · refine pw_tab 3 55 rfl q0 (by omega) (by omega) rfl ?_
      refine pw_steps 1 (s' := (56, [some (.ref 47), some (.int (ei_ (a)))], [.ref 47], m)) rfl ?_
      refine pw_get rfl rfl (fun x17 (hx17 : x17 = vi_ m 47 5) rx17 sx17 => ?_)
      refine pw_iret rfl rfl rfl ?_
      have hx_ : (x17 : Int) = x15 := by first | omega | (rw [hx17, hx15]; exact congrArg _ (by omega))
      exact ⟨x15, rfl, congrArg (fun z_ : Int => some (Value.int (ei_ z_))) hx_, rR_sm (sm_rfl m) hR⟩
  · refine pw_tab 4 72 rfl q0 (by omega) (by omega) rfl ?_
    refine pw_steps 2 (s' := (76, [some (.ref 0), some (.int (ei_ (a)))], [.ref 29], m)) rfl ?_
    refine pw_call (As := []) (st := []) (k := 29) rfl rfl rfl rfl rfl (Nat.le_of_ble_eq_true rfl) ?_
    refine pw_intro (I := iX0_size) (T := tX0_size) rfl rfl rfl ?_
    refine pw_steps 1 (s' := (1, [some (.ref 29)], [.ref 29], m)) rfl ?_
    refine pw_get rfl rfl (fun x18 (hx18 : x18 = vi_ m 29 2) rx18 sx18 => ?_)
    refine pw_iret rfl rfl rfl ?_
    refine pw_iret rfl rfl rfl ?_
    refine pw_intro (I := iX9_count) (T := tX9_count) rfl rfl rfl ?_
    refine pw_steps 1 (s' := (1, [some (.ref 47), some (.int (ei_ (a)))], [.int (ei_ (a))], m)) rfl ?_
    rcases (show a = 4 by omega) with h19
    · refine pw_tab 4 60 rfl q0 (by omega) (by omega) rfl ?_
      refine pw_steps 1 (s' := (61, [some (.ref 47), some (.int (ei_ (a)))], [.ref 47], m)) rfl ?_
      refine pw_get rfl rfl (fun x20 (hx20 : x20 = vi_ m 47 35) rx20 sx20 => ?_)
      refine pw_iret rfl rfl rfl ?_
      have hx_ : (x20 : Int) = x18 := by first | omega | (rw [hx20, hx18]; exact congrArg _ (by omega))
      exact ⟨x18, rfl, congrArg (fun z_ : Int => some (Value.int (ei_ z_))) hx_, rR_sm (sm_rfl m) hR⟩
  · refine pw_tab 5 80 rfl q0 (by omega) (by omega) rfl ?_
    refine pw_steps 2 (s' := (84, [some (.ref 0), some (.int (ei_ (a)))], [.ref 29], m)) rfl ?_
    refine pw_call (As := []) (st := []) (k := 29) rfl rfl rfl rfl rfl (Nat.le_of_ble_eq_true rfl) ?_
    refine pw_intro (I := iX0_ran) (T := tX0_ran) rfl rfl rfl ?_
    refine pw_steps 1 (s' := (1, [some (.ref 29)], [.ref 29], m)) rfl ?_
    refine pw_get rfl rfl (fun x21 (hx21 : x21 = vi_ m 29 3) rx21 sx21 => ?_)
    refine pw_iret rfl rfl rfl ?_
    refine pw_iret rfl rfl rfl ?_
    refine pw_intro (I := iX9_count) (T := tX9_count) rfl rfl rfl ?_
    refine pw_steps 1 (s' := (1, [some (.ref 47), some (.int (ei_ (a)))], [.int (ei_ (a))], m)) rfl ?_
    rcases (show a = 5 by omega) with h22
    · refine pw_tab 5 65 rfl q0 (by omega) (by omega) rfl ?_
      refine pw_steps 1 (s' := (66, [some (.ref 47), some (.int (ei_ (a)))], [.ref 47], m)) rfl ?_
      refine pw_get rfl rfl (fun x23 (hx23 : x23 = vi_ m 47 38) rx23 sx23 => ?_)
      refine pw_iret rfl rfl rfl ?_
      have hx_ : (x23 : Int) = x21 := by first | omega | (rw [hx23, hx21]; exact congrArg _ (by omega))
      exact ⟨x21, rfl, congrArg (fun z_ : Int => some (Value.int (ei_ z_))) hx_, rR_sm (sm_rfl m) hR⟩
  · refine pw_tabD rfl q0 (by omega) ?_
    refine pw_steps 1 (s' := (89, [some (.ref 0), some (.int (ei_ (a)))], [.int (ei_ ((-1)))], m)) rfl ?_
    refine pw_iret rfl rfl rfl ?_
    refine pw_intro (I := iX9_count) (T := tX9_count) rfl rfl rfl ?_
    refine pw_steps 1 (s' := (1, [some (.ref 47), some (.int (ei_ (a)))], [.int (ei_ (a))], m)) rfl ?_
    rcases (show a < 0 by omega) with h24
    · refine pw_tabD rfl q0 (by omega) ?_
      refine pw_steps 1 (s' := (71, [some (.ref 47), some (.int (ei_ (a)))], [.int (ei_ ((-1)))], m)) rfl ?_
      refine pw_iret rfl rfl rfl ?_
      have hx_ : ((-1) : Int) = (-1) := by rfl
      exact ⟨(-1), rfl, congrArg (fun z_ : Int => some (Value.int (ei_ z_))) hx_, rR_sm (sm_rfl m) hR⟩
  · refine pw_tabD rfl q0 (by omega) ?_
    refine pw_steps 1 (s' := (89, [some (.ref 0), some (.int (ei_ (a)))], [.int (ei_ ((-1)))], m)) rfl ?_
    refine pw_iret rfl rfl rfl ?_
    refine pw_intro (I := iX9_count) (T := tX9_count) rfl rfl rfl ?_
    refine pw_steps 1 (s' := (1, [some (.ref 47), some (.int (ei_ (a)))], [.int (ei_ (a))], m)) rfl ?_
    rcases (show 5 < a by omega) with h25
    · refine pw_tabD rfl q0 (by omega) ?_
      refine pw_steps 1 (s' := (71, [some (.ref 47), some (.int (ei_ (a)))], [.int (ei_ ((-1)))], m)) rfl ?_
      refine pw_iret rfl rfl rfl ?_
      have hx_ : ((-1) : Int) = (-1) := by rfl
      exact ⟨(-1), rfl, congrArg (fun z_ : Int => some (Value.int (ei_ z_))) hx_, rR_sm (sm_rfl m) hR⟩

set_option maxHeartbeats 4000000 in
set_option maxRecDepth 20000 in
theorem op_trace {q : am_X} {d : Nat} {m : am_M} {a : Int} (q0 : -2147483648 ≤ a ∧ a < 2147483648) (hR : rR_ m) : pw_C q (d + 60) 145 [.ref 0, .int (ei_ (a))] m (fun r1 m1 => pw_C q (d + 60) 252 [.ref 47, .int (ei_ (a))] m1 (fun r2 m2 => ∃ x : Int, r1 = some (.int (ei_ x)) ∧ r2 = some (.int (ei_ x)) ∧ rR_ m2)) := by
  obtain ⟨hp, hd, hi, ht, hl, hz, hc, ha, hs⟩ := id hR
  obtain ⟨hP1, hP2, hP3, hP4⟩ := id hp
  have hmw := mW_of hp hd
  have hmf := mF_of hp hd
  obtain ⟨ha1, ha2, ha3, ha4, ha5, ha6⟩ := id ha
  refine pw_intro (I := iX8_trace) (T := tX8_trace) rfl rfl rfl ?_
  refine pw_steps 3 (s' := (5, [some (.ref 0), some (.int (ei_ (a)))], [.int (ei_ (a)), .ref 29], m)) rfl ?_
  refine pw_call (As := [.int (ei_ (a))]) (st := []) (k := 29) rfl rfl rfl rfl rfl (Nat.le_of_ble_eq_true rfl) ?_
  refine pw_intro (I := iX0_hasTrace) (T := tX0_hasTrace) rfl rfl rfl ?_
  refine pw_steps 1 (s' := (1, [some (.ref 29), some (.int (ei_ (a)))], [.int (ei_ (a))], m)) rfl ?_
  refine pw_if rfl q0 (fun (h1 : a < 0) => ?_) (fun (h1 : ¬ (a < 0)) => ?_)
  · refine pw_steps 1 (s' := (22, [some (.ref 29), some (.int (ei_ (a)))], [.int (ei_ (0))], m)) rfl ?_
    refine pw_iret rfl rfl rfl ?_
    refine pw_ifT rfl (by decide) (show 0 = 0 by decide) ?_
    refine pw_steps 1 (s' := (23, [some (.ref 0), some (.int (ei_ (a)))], [.int (ei_ ((-1)))], m)) rfl ?_
    refine pw_iret rfl rfl rfl ?_
    refine pw_intro (I := iX9_trace) (T := tX9_trace) rfl rfl rfl ?_
    refine pw_steps 1 (s' := (1, [some (.ref 47), some (.int (ei_ (a)))], [.int (ei_ (a))], m)) rfl ?_
    refine pw_ifT rfl q0 (show a < 0 by omega) ?_
    refine pw_steps 1 (s' := (28, [some (.ref 47), some (.int (ei_ (a)))], [.int (ei_ ((-1)))], m)) rfl ?_
    refine pw_iret rfl rfl rfl ?_
    have hx_ : ((-1) : Int) = (-1) := by rfl
    exact ⟨(-1), rfl, congrArg (fun z_ : Int => some (Value.int (ei_ z_))) hx_, rR_sm (sm_rfl m) hR⟩
  · refine pw_steps 2 (s' := (6, [some (.ref 29), some (.int (ei_ (a)))], [.ref 29, .int (ei_ (a))], m)) rfl ?_
    refine pw_get rfl rfl (fun x2 (hx2 : x2 = vi_ m 29 3) rx2 sx2 => ?_)
    refine pw_steps 2 (s' := (14, [some (.ref 29), some (.int (ei_ (a)))], [.int ((if (ei_ (24)) < (ei_ (x2)) then ei_ (24) else ei_ (x2))), .int (ei_ (a))], m)) rfl ?_
    refine pw_cv (congrArg (fun z_ : Int32 => ((14, [some (.ref 29), some (.int (ei_ (a)))], [.int z_, .int (ei_ (a))], m) : am_S)) (ei_min ⟨rx2, sx2⟩ (by decide) rfl rfl)) ?_
    refine pw_cmp rfl q0 (by omega) (fun (h3 : (min x2 24) ≤ a) => ?_) (fun (h3 : ¬ ((min x2 24) ≤ a)) => ?_)
    · refine pw_steps 1 (s' := (22, [some (.ref 29), some (.int (ei_ (a)))], [.int (ei_ (0))], m)) rfl ?_
      refine pw_iret rfl rfl rfl ?_
      refine pw_ifT rfl (by decide) (show 0 = 0 by decide) ?_
      refine pw_steps 1 (s' := (23, [some (.ref 0), some (.int (ei_ (a)))], [.int (ei_ ((-1)))], m)) rfl ?_
      refine pw_iret rfl rfl rfl ?_
      refine pw_intro (I := iX9_trace) (T := tX9_trace) rfl rfl rfl ?_
      refine pw_steps 1 (s' := (1, [some (.ref 47), some (.int (ei_ (a)))], [.int (ei_ (a))], m)) rfl ?_
      refine pw_ifF rfl q0 (show ¬ (a < 0) by omega) ?_
      refine pw_steps 2 (s' := (6, [some (.ref 47), some (.int (ei_ (a)))], [.ref 47, .int (ei_ (a))], m)) rfl ?_
      refine pw_get rfl rfl (fun x4 (hx4 : x4 = vi_ m 47 38) rx4 sx4 => ?_)
      refine pw_cmp rfl q0 ⟨rx4, sx4⟩ (fun (h5 : x4 ≤ a) => ?_) (fun (h5 : ¬ (x4 ≤ a)) => ?_)
      · refine pw_steps 1 (s' := (28, [some (.ref 47), some (.int (ei_ (a)))], [.int (ei_ ((-1)))], m)) rfl ?_
        refine pw_iret rfl rfl rfl ?_
        have hx_ : ((-1) : Int) = (-1) := by rfl
        exact ⟨(-1), rfl, congrArg (fun z_ : Int => some (Value.int (ei_ z_))) hx_, rR_sm (sm_rfl m) hR⟩
      · refine pw_steps 2 (s' := (15, [some (.ref 47), some (.int (ei_ (a)))], [.int (ei_ (24)), .int (ei_ (a))], m)) rfl ?_
        refine pw_cmp rfl q0 (by decide) (fun (h6 : 24 ≤ a) => ?_) (fun (h6 : ¬ (24 ≤ a)) => ?_)
        · refine pw_steps 1 (s' := (28, [some (.ref 47), some (.int (ei_ (a)))], [.int (ei_ ((-1)))], m)) rfl ?_
          refine pw_iret rfl rfl rfl ?_
          have hx_ : ((-1) : Int) = (-1) := by rfl
          exact ⟨(-1), rfl, congrArg (fun z_ : Int => some (Value.int (ei_ z_))) hx_, rR_sm (sm_rfl m) hR⟩
        · refine pw_steps 3 (s' := (23, [some (.ref 47), some (.int (ei_ (a)))], [.int (ei_ (a)), .ref 67], m)) rfl ?_
          refine pw_ild rfl rfl (by omega) (fun x7 (hx7 : x7 = vi_ m 67 a) rx7 sx7 => ?_)
          have b8 := ha6 a (by omega) (by omega) (by omega)
          refine pw_steps 1 (s' := (28, [some (.ref 47), some (.int (ei_ (a)))], [.int (ei_ (x7))], m)) rfl ?_
          refine pw_iret rfl rfl rfl ?_
          have hx_ : (x7 : Int) = (-1) := by omega
          exact ⟨(-1), rfl, congrArg (fun z_ : Int => some (Value.int (ei_ z_))) hx_, rR_sm (sm_rfl m) hR⟩
    · refine pw_steps 2 (s' := (22, [some (.ref 29), some (.int (ei_ (a)))], [.int (ei_ (1))], m)) rfl ?_
      refine pw_iret rfl rfl rfl ?_
      refine pw_ifF rfl (by decide) (show ¬ (1 = 0) by decide) ?_
      refine pw_steps 3 (s' := (16, [some (.ref 0), some (.int (ei_ (a)))], [.int (ei_ (a)), .ref 29], m)) rfl ?_
      refine pw_call (As := [.int (ei_ (a))]) (st := []) (k := 29) rfl rfl rfl rfl rfl (Nat.le_of_ble_eq_true rfl) ?_
      refine pw_intro (I := iX0_traced) (T := tX0_traced) rfl rfl rfl ?_
      refine pw_steps 2 (s' := (2, [some (.ref 29), some (.int (ei_ (a)))], [.int (ei_ (a)), .ref 29], m)) rfl ?_
      refine pw_call (As := [.int (ei_ (a))]) (st := []) (k := 29) rfl rfl rfl rfl rfl (Nat.le_of_ble_eq_true rfl) ?_
      refine pw_intro (I := iX0_hasTrace) (T := tX0_hasTrace) rfl rfl rfl ?_
      refine pw_steps 1 (s' := (1, [some (.ref 29), some (.int (ei_ (a)))], [.int (ei_ (a))], m)) rfl ?_
      refine pw_ifF rfl q0 (show ¬ (a < 0) by omega) ?_
      refine pw_steps 2 (s' := (6, [some (.ref 29), some (.int (ei_ (a)))], [.ref 29, .int (ei_ (a))], m)) rfl ?_
      refine pw_getE (x := x2) rfl rfl hx2 ?_
      refine pw_steps 2 (s' := (14, [some (.ref 29), some (.int (ei_ (a)))], [.int ((if (ei_ (24)) < (ei_ (x2)) then ei_ (24) else ei_ (x2))), .int (ei_ (a))], m)) rfl ?_
      refine pw_cv (congrArg (fun z_ : Int32 => ((14, [some (.ref 29), some (.int (ei_ (a)))], [.int z_, .int (ei_ (a))], m) : am_S)) (ei_min ⟨rx2, sx2⟩ (by decide) rfl rfl)) ?_
      refine pw_cmpF rfl q0 (by omega) (show ¬ ((min x2 24) ≤ a) by omega) ?_
      refine pw_steps 2 (s' := (22, [some (.ref 29), some (.int (ei_ (a)))], [.int (ei_ (1))], m)) rfl ?_
      refine pw_iret rfl rfl rfl ?_
      refine pw_ifF rfl (by decide) (show ¬ (1 = 0) by decide) ?_
      refine pw_steps 3 (s' := (13, [some (.ref 29), some (.int (ei_ (a)))], [.int (ei_ (a)), .ref 31], m)) rfl ?_
      refine pw_ild rfl rfl (by omega) (fun x9 (hx9 : x9 = vi_ m 31 a) rx9 sx9 => ?_)
      refine pw_steps 1 (s' := (18, [some (.ref 29), some (.int (ei_ (a)))], [.int (ei_ (x9))], m)) rfl ?_
      refine pw_iret rfl rfl rfl ?_
      refine pw_steps 1 (s' := (23, [some (.ref 0), some (.int (ei_ (a)))], [.int (ei_ (x9))], m)) rfl ?_
      refine pw_iret rfl rfl rfl ?_
      refine pw_intro (I := iX9_trace) (T := tX9_trace) rfl rfl rfl ?_
      refine pw_steps 1 (s' := (1, [some (.ref 47), some (.int (ei_ (a)))], [.int (ei_ (a))], m)) rfl ?_
      refine pw_ifF rfl q0 (show ¬ (a < 0) by omega) ?_
      refine pw_steps 2 (s' := (6, [some (.ref 47), some (.int (ei_ (a)))], [.ref 47, .int (ei_ (a))], m)) rfl ?_
      refine pw_get rfl rfl (fun x10 (hx10 : x10 = vi_ m 47 38) rx10 sx10 => ?_)
      refine pw_cmpF rfl q0 ⟨rx10, sx10⟩ (show ¬ (x10 ≤ a) by omega) ?_
      refine pw_steps 2 (s' := (15, [some (.ref 47), some (.int (ei_ (a)))], [.int (ei_ (24)), .int (ei_ (a))], m)) rfl ?_
      refine pw_cmpF rfl q0 (by decide) (show ¬ (24 ≤ a) by omega) ?_
      refine pw_steps 3 (s' := (23, [some (.ref 47), some (.int (ei_ (a)))], [.int (ei_ (a)), .ref 67], m)) rfl ?_
      refine pw_ild rfl rfl (by omega) (fun x11 (hx11 : x11 = vi_ m 67 a) rx11 sx11 => ?_)
      have b12 := ha6 a (by omega) (by omega) (by omega)
      refine pw_steps 1 (s' := (28, [some (.ref 47), some (.int (ei_ (a)))], [.int (ei_ (x11))], m)) rfl ?_
      refine pw_iret rfl rfl rfl ?_
      have hx_ : (x11 : Int) = x9 := by first | omega | (rw [hx11, hx9]; exact congrArg _ (by omega))
      exact ⟨x9, rfl, congrArg (fun z_ : Int => some (Value.int (ei_ z_))) hx_, rR_sm (sm_rfl m) hR⟩

set_option maxHeartbeats 4000000 in
set_option maxRecDepth 20000 in
theorem op_led {q : am_X} {d : Nat} {m : am_M} {a : Int} (q0 : -2147483648 ≤ a ∧ a < 2147483648) (hR : rR_ m) : pw_C q (d + 60) 118 [.ref 0, .int (ei_ (a))] m (fun r1 m1 => pw_C q (d + 60) 241 [.ref 47, .int (ei_ (a))] m1 (fun r2 m2 => ∃ x : Int, r1 = some (.int (ei_ x)) ∧ r2 = some (.int (ei_ x)) ∧ rR_ m2)) := by
  obtain ⟨hp, hd, hi, ht, hl, hz, hc, ha, hs⟩ := id hR
  obtain ⟨hP1, hP2, hP3, hP4⟩ := id hp
  have hmw := mW_of hp hd
  have hmf := mF_of hp hd
  obtain ⟨hd1, hd2, hd3, hd4, hd5, hd6, hd7⟩ := id hd
  refine pw_intro (I := iX8_led) (T := tX8_led) rfl rfl rfl ?_
  refine pw_steps 1 (s' := (1, [some (.ref 0), some (.int (ei_ (a)))], [.int (ei_ (a))], m)) rfl ?_
  rcases (show a = 0 ∨ a = 1 ∨ a = 2 ∨ a = 3 ∨ a < 0 ∨ 3 < a by omega) with h1 | h1 | h1 | h1 | h1 | h1
  · refine pw_tab 0 32 rfl q0 (by omega) (by omega) rfl ?_
    refine pw_steps 2 (s' := (36, [some (.ref 0), some (.int (ei_ (a)))], [.ref 3], m)) rfl ?_
    refine pw_call (As := []) (st := []) (k := 3) rfl rfl rfl rfl rfl (Nat.le_of_ble_eq_true rfl) ?_
    refine pw_intro (I := iX2_days) (T := tX2_days) rfl rfl rfl ?_
    refine pw_steps 1 (s' := (1, [some (.ref 3)], [.ref 3], m)) rfl ?_
    refine pw_get rfl rfl (fun x2 (hx2 : x2 = vi_ m 3 3) rx2 sx2 => ?_)
    refine pw_iret rfl rfl rfl ?_
    refine pw_iret rfl rfl rfl ?_
    refine pw_intro (I := iX9_led) (T := tX9_led) rfl rfl rfl ?_
    refine pw_steps 1 (s' := (1, [some (.ref 47), some (.int (ei_ (a)))], [.int (ei_ (a))], m)) rfl ?_
    rcases (show a = 0 by omega) with h3
    · refine pw_tab 0 32 rfl q0 (by omega) (by omega) rfl ?_
      refine pw_steps 1 (s' := (33, [some (.ref 47), some (.int (ei_ (a)))], [.ref 47], m)) rfl ?_
      refine pw_get rfl rfl (fun x4 (hx4 : x4 = vi_ m 47 26) rx4 sx4 => ?_)
      refine pw_iret rfl rfl rfl ?_
      have hx_ : (x4 : Int) = x2 := by first | omega | (rw [hx4, hx2]; exact congrArg _ (by omega))
      exact ⟨x2, rfl, congrArg (fun z_ : Int => some (Value.int (ei_ z_))) hx_, rR_sm (sm_rfl m) hR⟩
  · refine pw_tab 1 40 rfl q0 (by omega) (by omega) rfl ?_
    refine pw_steps 2 (s' := (44, [some (.ref 0), some (.int (ei_ (a)))], [.ref 3], m)) rfl ?_
    refine pw_call (As := []) (st := []) (k := 3) rfl rfl rfl rfl rfl (Nat.le_of_ble_eq_true rfl) ?_
    refine pw_intro (I := iX2_lendings) (T := tX2_lendings) rfl rfl rfl ?_
    refine pw_steps 1 (s' := (1, [some (.ref 3)], [.ref 3], m)) rfl ?_
    refine pw_get rfl rfl (fun x5 (hx5 : x5 = vi_ m 3 4) rx5 sx5 => ?_)
    refine pw_iret rfl rfl rfl ?_
    refine pw_iret rfl rfl rfl ?_
    refine pw_intro (I := iX9_led) (T := tX9_led) rfl rfl rfl ?_
    refine pw_steps 1 (s' := (1, [some (.ref 47), some (.int (ei_ (a)))], [.int (ei_ (a))], m)) rfl ?_
    rcases (show a = 1 by omega) with h6
    · refine pw_tab 1 37 rfl q0 (by omega) (by omega) rfl ?_
      refine pw_steps 1 (s' := (38, [some (.ref 47), some (.int (ei_ (a)))], [.ref 47], m)) rfl ?_
      refine pw_get rfl rfl (fun x7 (hx7 : x7 = vi_ m 47 27) rx7 sx7 => ?_)
      refine pw_iret rfl rfl rfl ?_
      have hx_ : (x7 : Int) = x5 := by first | omega | (rw [hx7, hx5]; exact congrArg _ (by omega))
      exact ⟨x5, rfl, congrArg (fun z_ : Int => some (Value.int (ei_ z_))) hx_, rR_sm (sm_rfl m) hR⟩
  · refine pw_tab 2 48 rfl q0 (by omega) (by omega) rfl ?_
    refine pw_steps 2 (s' := (52, [some (.ref 0), some (.int (ei_ (a)))], [.ref 3], m)) rfl ?_
    refine pw_call (As := []) (st := []) (k := 3) rfl rfl rfl rfl rfl (Nat.le_of_ble_eq_true rfl) ?_
    refine pw_intro (I := iX2_homecomings) (T := tX2_homecomings) rfl rfl rfl ?_
    refine pw_steps 1 (s' := (1, [some (.ref 3)], [.ref 3], m)) rfl ?_
    refine pw_get rfl rfl (fun x8 (hx8 : x8 = vi_ m 3 5) rx8 sx8 => ?_)
    refine pw_iret rfl rfl rfl ?_
    refine pw_iret rfl rfl rfl ?_
    refine pw_intro (I := iX9_led) (T := tX9_led) rfl rfl rfl ?_
    refine pw_steps 1 (s' := (1, [some (.ref 47), some (.int (ei_ (a)))], [.int (ei_ (a))], m)) rfl ?_
    rcases (show a = 2 by omega) with h9
    · refine pw_tab 2 42 rfl q0 (by omega) (by omega) rfl ?_
      refine pw_steps 1 (s' := (43, [some (.ref 47), some (.int (ei_ (a)))], [.ref 47], m)) rfl ?_
      refine pw_get rfl rfl (fun x10 (hx10 : x10 = vi_ m 47 28) rx10 sx10 => ?_)
      refine pw_iret rfl rfl rfl ?_
      have hx_ : (x10 : Int) = x8 := by first | omega | (rw [hx10, hx8]; exact congrArg _ (by omega))
      exact ⟨x8, rfl, congrArg (fun z_ : Int => some (Value.int (ei_ z_))) hx_, rR_sm (sm_rfl m) hR⟩
  · refine pw_tab 3 56 rfl q0 (by omega) (by omega) rfl ?_
    refine pw_steps 1 (s' := (57, [some (.ref 0), some (.int (ei_ (a)))], [.ref 0], m)) rfl ?_
    refine pw_call (As := []) (st := []) (k := 0) rfl rfl rfl rfl rfl (Nat.le_of_ble_eq_true rfl) ?_
    refine cw_burntNow (hp) ((sm_rfl m)) (fun x11 g12 g13 => ?_)
    refine pw_iret rfl rfl rfl ?_
    refine pw_intro (I := iX9_led) (T := tX9_led) rfl rfl rfl ?_
    refine pw_steps 1 (s' := (1, [some (.ref 47), some (.int (ei_ (a)))], [.int (ei_ (a))], m)) rfl ?_
    rcases (show a = 3 by omega) with h14
    · refine pw_tab 3 47 rfl q0 (by omega) (by omega) rfl ?_
      refine pw_steps 1 (s' := (48, [some (.ref 47), some (.int (ei_ (a)))], [.ref 47], m)) rfl ?_
      refine pw_call (As := []) (st := []) (k := 47) rfl rfl rfl rfl rfl (Nat.le_of_ble_eq_true rfl) ?_
      refine md_begins (hp) ((sm_rfl m)) (fun m115 g16 g17 => ?_)
      refine pw_steps 1 (s' := (52, [some (.ref 47), some (.int (ei_ (a)))], [.ref 47], m115)) rfl ?_
      refine pw_call (As := []) (st := []) (k := 47) rfl rfl rfl rfl rfl (Nat.le_of_ble_eq_true rfl) ?_
      refine md_burnt (hp) ((sm_le g16 p57_Sc)) (fun x18 g19 g20 => ?_)
      refine pw_iret rfl rfl rfl ?_
      have hx_ : (x18 : Int) = x11 := by rw [g19, g12]; exact cn_cg _ (fun j a_ b_ => by rw [g17 j a_ (by omega), (hd.2.2.1 j a_ (by omega)).2])
      exact ⟨x11, rfl, congrArg (fun z_ : Int => some (Value.int (ei_ z_))) hx_, rR_sm (sm_le g16 p57_Sc) hR⟩
  · refine pw_tabD rfl q0 (by omega) ?_
    refine pw_steps 1 (s' := (62, [some (.ref 0), some (.int (ei_ (a)))], [.int (ei_ ((-1)))], m)) rfl ?_
    refine pw_iret rfl rfl rfl ?_
    refine pw_intro (I := iX9_led) (T := tX9_led) rfl rfl rfl ?_
    refine pw_steps 1 (s' := (1, [some (.ref 47), some (.int (ei_ (a)))], [.int (ei_ (a))], m)) rfl ?_
    rcases (show a < 0 by omega) with h21
    · refine pw_tabD rfl q0 (by omega) ?_
      refine pw_steps 1 (s' := (57, [some (.ref 47), some (.int (ei_ (a)))], [.int (ei_ ((-1)))], m)) rfl ?_
      refine pw_iret rfl rfl rfl ?_
      have hx_ : ((-1) : Int) = (-1) := by rfl
      exact ⟨(-1), rfl, congrArg (fun z_ : Int => some (Value.int (ei_ z_))) hx_, rR_sm (sm_rfl m) hR⟩
  · refine pw_tabD rfl q0 (by omega) ?_
    refine pw_steps 1 (s' := (62, [some (.ref 0), some (.int (ei_ (a)))], [.int (ei_ ((-1)))], m)) rfl ?_
    refine pw_iret rfl rfl rfl ?_
    refine pw_intro (I := iX9_led) (T := tX9_led) rfl rfl rfl ?_
    refine pw_steps 1 (s' := (1, [some (.ref 47), some (.int (ei_ (a)))], [.int (ei_ (a))], m)) rfl ?_
    rcases (show 3 < a by omega) with h22
    · refine pw_tabD rfl q0 (by omega) ?_
      refine pw_steps 1 (s' := (57, [some (.ref 47), some (.int (ei_ (a)))], [.int (ei_ ((-1)))], m)) rfl ?_
      refine pw_iret rfl rfl rfl ?_
      have hx_ : ((-1) : Int) = (-1) := by rfl
      exact ⟨(-1), rfl, congrArg (fun z_ : Int => some (Value.int (ei_ z_))) hx_, rR_sm (sm_rfl m) hR⟩

