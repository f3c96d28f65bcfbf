set_option maxHeartbeats 4000000 in
set_option maxRecDepth 20000 in
theorem mt_within {q : am_X} {d : Nat} {m : am_M} {Q : Option Value → am_M → Prop} {v : Int} {a : Int} {b : Int}  (p0 : -9223372036854775808 ≤ v ∧ v < 9223372036854775808) (p1 : -9223372036854775808 ≤ a ∧ a < 9223372036854775808) (p2 : -9223372036854775808 ≤ b ∧ b < 9223372036854775808) (k0 : (a ≤ v) → (v ≤ b) → Q (some (.int (ei_ (1)))) m) (k1 : (v < a) → Q (some (.int (ei_ (0)))) m) (k2 : (b < v) → Q (some (.int (ei_ (0)))) m) : pw_C q (d + 1) 177 [.long (el_ (v)), .long (el_ (a)), .long (el_ (b))] m Q := by
  refine pw_intro (I := iX9_within) (T := tX9_within) rfl rfl rfl ?_
  refine pw_steps 2 (s' := (2, [some (.long (el_ (v))), none, some (.long (el_ (a))), none, some (.long (el_ (b))), none], [.long (el_ (a)), .long (el_ (v))], m)) rfl ?_
  refine pw_lcmp rfl rfl (by omega) (by omega) (fun (h1 : v < a) => ?_) (fun (h1 : ¬ (v < a)) => ?_)
  · refine pw_steps 1 (s' := (18, [some (.long (el_ (v))), none, some (.long (el_ (a))), none, some (.long (el_ (b))), none], [.int (ei_ (0))], m)) rfl ?_
    refine pw_iret rfl rfl rfl ?_
    exact k1 (by omega)
  · refine pw_steps 2 (s' := (9, [some (.long (el_ (v))), none, some (.long (el_ (a))), none, some (.long (el_ (b))), none], [.long (el_ (b)), .long (el_ (v))], m)) rfl ?_
    refine pw_lcmp rfl rfl (by omega) (by omega) (fun (h2 : b < v) => ?_) (fun (h2 : ¬ (b < v)) => ?_)
    · refine pw_steps 1 (s' := (18, [some (.long (el_ (v))), none, some (.long (el_ (a))), none, some (.long (el_ (b))), none], [.int (ei_ (0))], m)) rfl ?_
      refine pw_iret rfl rfl rfl ?_
      exact k2 (by omega)
    · refine pw_steps 2 (s' := (18, [some (.long (el_ (v))), none, some (.long (el_ (a))), none, some (.long (el_ (b))), none], [.int (ei_ (1))], m)) rfl ?_
      refine pw_iret rfl rfl rfl ?_
      exact k0 (by omega) (by omega)

set_option maxHeartbeats 4000000 in
set_option maxRecDepth 20000 in
theorem op_burns {q : am_X} {d : Nat} {m : am_M} {a : Int} (q0 : -2147483648 ≤ a ∧ a < 2147483648) (hR : rR_ m) : pw_C q (d + 60) 44 [.ref 0, .int (ei_ (a))] m (fun r1 m1 => pw_C q (d + 60) 202 [.ref 47, .int (ei_ (a))] m1 (fun r2 m2 => ∃ x : Int, r1 = some (.int (ei_ x)) ∧ r2 = some (.int (ei_ x)) ∧ rR_ m2)) := by
  obtain ⟨hp, hd, hi, ht, hl, hz, hc, ha, hs⟩ := id hR
  obtain ⟨hP1, hP2, hP3, hP4⟩ := id hp
  have hmw := mW_of hp hd
  have hmf := mF_of hp hd
  refine pw_intro (I := iX8_burns) (T := tX8_burns) rfl rfl rfl ?_
  refine pw_steps 3 (s' := (5, [some (.ref 0), some (.int (ei_ (a)))], [.int (ei_ (a)), .ref 1], m)) rfl ?_
  refine pw_call (As := [.int (ei_ (a))]) (st := []) (k := 1) rfl rfl rfl rfl rfl (Nat.le_of_ble_eq_true rfl) ?_
  refine pw_intro (I := iX3_has) (T := tX3_has) rfl rfl rfl ?_
  refine pw_steps 1 (s' := (1, [some (.ref 1), some (.int (ei_ (a)))], [.int (ei_ (a))], m)) rfl ?_
  refine pw_if rfl q0 (fun (h1 : a < 0) => ?_) (fun (h1 : ¬ (a < 0)) => ?_)
  · refine pw_steps 1 (s' := (17, [some (.ref 1), some (.int (ei_ (a)))], [.int (ei_ (0))], m)) rfl ?_
    refine pw_iret rfl rfl rfl ?_
    refine pw_ifT rfl (by decide) (show 0 = 0 by decide) ?_
    refine pw_steps 1 (s' := (20, [some (.ref 0), some (.int (ei_ (a)))], [.int (ei_ ((-1)))], m)) rfl ?_
    refine pw_iret rfl rfl rfl ?_
    refine pw_intro (I := iX9_burns) (T := tX9_burns) rfl rfl rfl ?_
    refine pw_steps 3 (s' := (3, [some (.ref 47), some (.int (ei_ (a)))], [.long ((ei_ (a)).toInt64), .ref 47], m)) rfl ?_
    refine pw_cv (congrArg (fun z_ : Int64 => ((3, [some (.ref 47), some (.int (ei_ (a)))], [.long z_, .ref 47], m) : am_S)) (el_i2l q0 rfl)) ?_
    refine pw_call (As := [.long (el_ (a))]) (st := []) (k := 47) rfl rfl rfl rfl rfl (Nat.le_of_ble_eq_true rfl) ?_
    refine pw_intro (I := iX9_isOne) (T := tX9_isOne) rfl rfl rfl ?_
    refine pw_steps 3 (s' := (3, [some (.ref 47), some (.long (el_ (a))), none], [.ref 47, .long (el_ (0)), .long (el_ (a))], m)) rfl ?_
    refine pw_get rfl rfl (fun x2 (hx2 : x2 = vi_ m 47 6) rx2 sx2 => ?_)
    refine pw_steps 3 (s' := (9, [some (.ref 47), some (.long (el_ (a))), none], [.long (((ei_ (x2)) - (ei_ (1))).toInt64), .long (el_ (0)), .long (el_ (a))], m)) rfl ?_
    refine pw_cv (congrArg (fun z_ : Int64 => ((9, [some (.ref 47), some (.long (el_ (a))), none], [.long z_, .long (el_ (0)), .long (el_ (a))], m) : am_S)) (el_i2l (by omega) (ei_sub rfl rfl))) ?_
    refine pw_callS (As := [.long (el_ (a)), .long (el_ (0)), .long (el_ ((x2 - 1)))]) (st := []) rfl (by decide) rfl rfl (Nat.le_of_ble_eq_true rfl) ?_
    refine mt_within (by omega) (by omega) (by omega) (fun g3 g4 => ?_) (fun g5 => ?_) (fun g6 => ?_)
    · exact False.elim (by omega)
    · refine pw_iret rfl rfl rfl ?_
      refine pw_ifT rfl (by decide) (show 0 = 0 by decide) ?_
      refine pw_steps 1 (s' := (25, [some (.ref 47), some (.int (ei_ (a)))], [.int (ei_ ((-1)))], m)) rfl ?_
      refine pw_iret rfl rfl rfl ?_
      have hx_ : ((-1) : Int) = (-1) := by rfl
      exact ⟨(-1), rfl, congrArg (fun z_ : Int => some (Value.int (ei_ z_))) hx_, rR_sm (sm_rfl m) hR⟩
    · exact False.elim (by omega)
  · refine pw_steps 2 (s' := (6, [some (.ref 1), some (.int (ei_ (a)))], [.ref 1, .int (ei_ (a))], m)) rfl ?_
    refine pw_get rfl rfl (fun x7 (hx7 : x7 = vi_ m 1 1) rx7 sx7 => ?_)
    refine pw_cmp rfl q0 ⟨rx7, sx7⟩ (fun (h8 : x7 ≤ a) => ?_) (fun (h8 : ¬ (x7 ≤ a)) => ?_)
    · refine pw_steps 1 (s' := (17, [some (.ref 1), some (.int (ei_ (a)))], [.int (ei_ (0))], m)) rfl ?_
      refine pw_iret rfl rfl rfl ?_
      refine pw_ifT rfl (by decide) (show 0 = 0 by decide) ?_
      refine pw_steps 1 (s' := (20, [some (.ref 0), some (.int (ei_ (a)))], [.int (ei_ ((-1)))], m)) rfl ?_
      refine pw_iret rfl rfl rfl ?_
      refine pw_intro (I := iX9_burns) (T := tX9_burns) rfl rfl rfl ?_
      refine pw_steps 3 (s' := (3, [some (.ref 47), some (.int (ei_ (a)))], [.long ((ei_ (a)).toInt64), .ref 47], m)) rfl ?_
      refine pw_cv (congrArg (fun z_ : Int64 => ((3, [some (.ref 47), some (.int (ei_ (a)))], [.long z_, .ref 47], m) : am_S)) (el_i2l q0 rfl)) ?_
      refine pw_call (As := [.long (el_ (a))]) (st := []) (k := 47) rfl rfl rfl rfl rfl (Nat.le_of_ble_eq_true rfl) ?_
      refine pw_intro (I := iX9_isOne) (T := tX9_isOne) rfl rfl rfl ?_
      refine pw_steps 3 (s' := (3, [some (.ref 47), some (.long (el_ (a))), none], [.ref 47, .long (el_ (0)), .long (el_ (a))], m)) rfl ?_
      refine pw_get rfl rfl (fun x9 (hx9 : x9 = vi_ m 47 6) rx9 sx9 => ?_)
      refine pw_steps 3 (s' := (9, [some (.ref 47), some (.long (el_ (a))), none], [.long (((ei_ (x9)) - (ei_ (1))).toInt64), .long (el_ (0)), .long (el_ (a))], m)) rfl ?_
      refine pw_cv (congrArg (fun z_ : Int64 => ((9, [some (.ref 47), some (.long (el_ (a))), none], [.long z_, .long (el_ (0)), .long (el_ (a))], m) : am_S)) (el_i2l (by omega) (ei_sub rfl rfl))) ?_
      refine pw_callS (As := [.long (el_ (a)), .long (el_ (0)), .long (el_ ((x9 - 1)))]) (st := []) rfl (by decide) rfl rfl (Nat.le_of_ble_eq_true rfl) ?_
      refine mt_within (by omega) (by omega) (by omega) (fun g10 g11 => ?_) (fun g12 => ?_) (fun g13 => ?_)
      · exact False.elim (by omega)
      · exact False.elim (by omega)
      · refine pw_iret rfl rfl rfl ?_
        refine pw_ifT rfl (by decide) (show 0 = 0 by decide) ?_
        refine pw_steps 1 (s' := (25, [some (.ref 47), some (.int (ei_ (a)))], [.int (ei_ ((-1)))], m)) rfl ?_
        refine pw_iret rfl rfl rfl ?_
        have hx_ : ((-1) : Int) = (-1) := by rfl
        exact ⟨(-1), rfl, congrArg (fun z_ : Int => some (Value.int (ei_ z_))) hx_, rR_sm (sm_rfl m) hR⟩
    · refine pw_steps 2 (s' := (17, [some (.ref 1), some (.int (ei_ (a)))], [.int (ei_ (1))], m)) rfl ?_
      refine pw_iret rfl rfl rfl ?_
      refine pw_ifF rfl (by decide) (show ¬ (1 = 0) by decide) ?_
      refine pw_steps 2 (s' := (13, [some (.ref 0), some (.int (ei_ (a)))], [.int (ei_ (a)), .ref 0], m)) rfl ?_
      refine pw_call (As := [.int (ei_ (a))]) (st := []) (k := 0) rfl rfl rfl rfl rfl (Nat.le_of_ble_eq_true rfl) ?_
      refine cw_rateNow (hp) (hz) ((sm_rfl m)) (hd.1) (by omega) (fun x14 m115 g16 g17 g18 => ?_)
      refine pw_steps 1 (s' := (20, [some (.ref 0), some (.int (ei_ (a)))], [.int (ei_ (x14))], m115)) rfl ?_
      refine pw_iret rfl rfl rfl ?_
      refine pw_intro (I := iX9_burns) (T := tX9_burns) rfl rfl rfl ?_
      refine pw_steps 3 (s' := (3, [some (.ref 47), some (.int (ei_ (a)))], [.long ((ei_ (a)).toInt64), .ref 47], m115)) rfl ?_
      refine pw_cv (congrArg (fun z_ : Int64 => ((3, [some (.ref 47), some (.int (ei_ (a)))], [.long z_, .ref 47], m115) : am_S)) (el_i2l q0 rfl)) ?_
      refine pw_call (As := [.long (el_ (a))]) (st := []) (k := 47) rfl rfl rfl rfl rfl (Nat.le_of_ble_eq_true rfl) ?_
      refine pw_intro (I := iX9_isOne) (T := tX9_isOne) rfl rfl rfl ?_
      refine pw_steps 3 (s' := (3, [some (.ref 47), some (.long (el_ (a))), none], [.ref 47, .long (el_ (0)), .long (el_ (a))], m115)) rfl ?_
      refine pw_get rfl rfl (fun x19 (hx19 : x19 = vi_ m115 47 6) rx19 sx19 => ?_)
      have ox19 := hx19
      replace hx19 : x19 = vi_ m 47 6 := hx19.trans (sm_v g17 rfl)
      refine pw_steps 3 (s' := (9, [some (.ref 47), some (.long (el_ (a))), none], [.long (((ei_ (x19)) - (ei_ (1))).toInt64), .long (el_ (0)), .long (el_ (a))], m115)) rfl ?_
      refine pw_cv (congrArg (fun z_ : Int64 => ((9, [some (.ref 47), some (.long (el_ (a))), none], [.long z_, .long (el_ (0)), .long (el_ (a))], m115) : am_S)) (el_i2l (by omega) (ei_sub rfl rfl))) ?_
      refine pw_callS (As := [.long (el_ (a)), .long (el_ (0)), .long (el_ ((x19 - 1)))]) (st := []) rfl (by decide) rfl rfl (Nat.le_of_ble_eq_true rfl) ?_
      refine mt_within (by omega) (by omega) (by omega) (fun g20 g21 => ?_) (fun g22 => ?_) (fun g23 => ?_)
      · refine pw_iret rfl rfl rfl ?_
        refine pw_ifF rfl (by decide) (show ¬ (1 = 0) by decide) ?_
        refine pw_steps 5 (s' := (17, [some (.ref 47), some (.int (ei_ (a)))], [.int (ei_ (32)), .ref 48, .int (ei_ (a)), .ref 47], m115)) rfl ?_
        refine pw_ild rfl rfl (by omega) (fun x24 (hx24 : x24 = vi_ m115 48 32) rx24 sx24 => ?_)
        have ox24 := hx24
        replace hx24 : x24 = vi_ m 48 32 := hx24.trans (sm_v g17 rfl)
        have b25 := hP3 32 (by omega) (by omega)
        rw [b25.2.2] at hx24
        try rw [Int.zero_add] at hx24 b25
        refine pw_call (As := [.int (ei_ (a)), .int (ei_ (x24))]) (st := []) (k := 47) rfl rfl rfl rfl rfl (Nat.le_of_ble_eq_true rfl) ?_
        refine mb_burns (hp) (hmw) (g17) (by omega) (by omega) (hl) (fun x26 m127 g28 g29 g30 => ?_)
        refine pw_steps 1 (s' := (25, [some (.ref 47), some (.int (ei_ (a)))], [.int (ei_ (x26))], m127)) rfl ?_
        refine pw_iret rfl rfl rfl ?_
        have hx_ : (x26 : Int) = x14 := by rw [g29, g16, hx24]; exact bn_rn hp hd ⟨by omega, by omega⟩
        exact ⟨x14, rfl, congrArg (fun z_ : Int => some (Value.int (ei_ z_))) hx_, rR_sm (sm_tr g17 (sm_le g28 pPr_Sc)) hR⟩
      · exact False.elim (by omega)
      · exact False.elim (by omega)

set_option maxHeartbeats 4000000 in
set_option maxRecDepth 20000 in
theorem op_left {q : am_X} {d : Nat} {m : am_M} {a : Int} {b : Int} (q0 : -2147483648 ≤ a ∧ a < 2147483648) (q1 : -2147483648 ≤ b ∧ b < 2147483648) (hR : rR_ m) : pw_C q (d + 60) 55 [.ref 0, .int (ei_ (a)), .int (ei_ (b))] m (fun r1 m1 => pw_C q (d + 60) 204 [.ref 47, .int (ei_ (a)), .int (ei_ (b))] m1 (fun r2 m2 => ∃ x : Int, r1 = some (.int (ei_ x)) ∧ r2 = some (.int (ei_ x)) ∧ rR_ m2)) := by
  obtain ⟨hp, hd, hi, ht, hl, hz, hc, ha, hs⟩ := id hR
  obtain ⟨hP1, hP2, hP3, hP4⟩ := id hp
  have hmw := mW_of hp hd
  have hmf := mF_of hp hd
  refine pw_intro (I := iX8_left) (T := tX8_left) rfl rfl rfl ?_
  refine pw_steps 3 (s' := (5, [some (.ref 0), some (.int (ei_ (a))), some (.int (ei_ (b)))], [.int (ei_ (a)), .ref 1], m)) rfl ?_
  refine pw_call (As := [.int (ei_ (a))]) (st := []) (k := 1) rfl rfl rfl rfl rfl (Nat.le_of_ble_eq_true rfl) ?_
  refine pw_intro (I := iX3_has) (T := tX3_has) rfl rfl rfl ?_
  refine pw_steps 1 (s' := (1, [some (.ref 1), some (.int (ei_ (a)))], [.int (ei_ (a))], m)) rfl ?_
  refine pw_if rfl q0 (fun (h1 : a < 0) => ?_) (fun (h1 : ¬ (a < 0)) => ?_)
  · refine pw_steps 1 (s' := (17, [some (.ref 1), some (.int (ei_ (a)))], [.int (ei_ (0))], m)) rfl ?_
    refine pw_iret rfl rfl rfl ?_
    refine pw_ifT rfl (by decide) (show 0 = 0 by decide) ?_
    refine pw_steps 1 (s' := (28, [some (.ref 0), some (.int (ei_ (a))), some (.int (ei_ (b)))], [.int (ei_ ((-1)))], m)) rfl ?_
    refine pw_iret rfl rfl rfl ?_
    refine pw_intro (I := iX9_left) (T := tX9_left) rfl rfl rfl ?_
    refine pw_steps 3 (s' := (3, [some (.ref 47), some (.int (ei_ (a))), some (.int (ei_ (b)))], [.long ((ei_ (a)).toInt64), .ref 47], m)) rfl ?_
    refine pw_cv (congrArg (fun z_ : Int64 => ((3, [some (.ref 47), some (.int (ei_ (a))), some (.int (ei_ (b)))], [.long z_, .ref 47], m) : am_S)) (el_i2l q0 rfl)) ?_
    refine pw_call (As := [.long (el_ (a))]) (st := []) (k := 47) rfl rfl rfl rfl rfl (Nat.le_of_ble_eq_true rfl) ?_
    refine pw_intro (I := iX9_isOne) (T := tX9_isOne) rfl rfl rfl ?_
    refine pw_steps 3 (s' := (3, [some (.ref 47), some (.long (el_ (a))), none], [.ref 47, .long (el_ (0)), .long (el_ (a))], m)) rfl ?_
    refine pw_get rfl rfl (fun x2 (hx2 : x2 = vi_ m 47 6) rx2 sx2 => ?_)
    refine pw_steps 3 (s' := (9, [some (.ref 47), some (.long (el_ (a))), none], [.long (((ei_ (x2)) - (ei_ (1))).toInt64), .long (el_ (0)), .long (el_ (a))], m)) rfl ?_
    refine pw_cv (congrArg (fun z_ : Int64 => ((9, [some (.ref 47), some (.long (el_ (a))), none], [.long z_, .long (el_ (0)), .long (el_ (a))], m) : am_S)) (el_i2l (by omega) (ei_sub rfl rfl))) ?_
    refine pw_callS (As := [.long (el_ (a)), .long (el_ (0)), .long (el_ ((x2 - 1)))]) (st := []) rfl (by decide) rfl rfl (Nat.le_of_ble_eq_true rfl) ?_
    refine mt_within (by omega) (by omega) (by omega) (fun g3 g4 => ?_) (fun g5 => ?_) (fun g6 => ?_)
    · exact False.elim (by omega)
    · refine pw_iret rfl rfl rfl ?_
      refine pw_ifT rfl (by decide) (show 0 = 0 by decide) ?_
      refine pw_steps 1 (s' := (17, [some (.ref 47), some (.int (ei_ (a))), some (.int (ei_ (b)))], [.int (ei_ ((-1)))], m)) rfl ?_
      refine pw_iret rfl rfl rfl ?_
      exact ⟨(-1), rfl, rfl, rR_sm (sm_rfl m) hR⟩
    · exact False.elim (by omega)
  · refine pw_steps 2 (s' := (6, [some (.ref 1), some (.int (ei_ (a)))], [.ref 1, .int (ei_ (a))], m)) rfl ?_
    refine pw_get rfl rfl (fun x7 (hx7 : x7 = vi_ m 1 1) rx7 sx7 => ?_)
    refine pw_cmp rfl q0 ⟨rx7, sx7⟩ (fun (h8 : x7 ≤ a) => ?_) (fun (h8 : ¬ (x7 ≤ a)) => ?_)
    · refine pw_steps 1 (s' := (17, [some (.ref 1), some (.int (ei_ (a)))], [.int (ei_ (0))], m)) rfl ?_
      refine pw_iret rfl rfl rfl ?_
      refine pw_ifT rfl (by decide) (show 0 = 0 by decide) ?_
      refine pw_steps 1 (s' := (28, [some (.ref 0), some (.int (ei_ (a))), some (.int (ei_ (b)))], [.int (ei_ ((-1)))], m)) rfl ?_
      refine pw_iret rfl rfl rfl ?_
      refine pw_intro (I := iX9_left) (T := tX9_left) rfl rfl rfl ?_
      refine pw_steps 3 (s' := (3, [some (.ref 47), some (.int (ei_ (a))), some (.int (ei_ (b)))], [.long ((ei_ (a)).toInt64), .ref 47], m)) rfl ?_
      refine pw_cv (congrArg (fun z_ : Int64 => ((3, [some (.ref 47), some (.int (ei_ (a))), some (.int (ei_ (b)))], [.long z_, .ref 47], m) : am_S)) (el_i2l q0 rfl)) ?_
      refine pw_call (As := [.long (el_ (a))]) (st := []) (k := 47) rfl rfl rfl rfl rfl (Nat.le_of_ble_eq_true rfl) ?_
      refine pw_intro (I := iX9_isOne) (T := tX9_isOne) rfl rfl rfl ?_
      refine pw_steps 3 (s' := (3, [some (.ref 47), some (.long (el_ (a))), none], [.ref 47, .long (el_ (0)), .long (el_ (a))], m)) rfl ?_
      refine pw_get rfl rfl (fun x9 (hx9 : x9 = vi_ m 47 6) rx9 sx9 => ?_)
      refine pw_steps 3 (s' := (9, [some (.ref 47), some (.long (el_ (a))), none], [.long (((ei_ (x9)) - (ei_ (1))).toInt64), .long (el_ (0)), .long (el_ (a))], m)) rfl ?_
      refine pw_cv (congrArg (fun z_ : Int64 => ((9, [some (.ref 47), some (.long (el_ (a))), none], [.long z_, .long (el_ (0)), .long (el_ (a))], m) : am_S)) (el_i2l (by omega) (ei_sub rfl rfl))) ?_
      refine pw_callS (As := [.long (el_ (a)), .long (el_ (0)), .long (el_ ((x9 - 1)))]) (st := []) rfl (by decide) rfl rfl (Nat.le_of_ble_eq_true rfl) ?_
      refine mt_within (by omega) (by omega) (by omega) (fun g10 g11 => ?_) (fun g12 => ?_) (fun g13 => ?_)
      · exact False.elim (by omega)
      · exact False.elim (by omega)
      · refine pw_iret rfl rfl rfl ?_
        refine pw_ifT rfl (by decide) (show 0 = 0 by decide) ?_
        refine pw_steps 1 (s' := (17, [some (.ref 47), some (.int (ei_ (a))), some (.int (ei_ (b)))], [.int (ei_ ((-1)))], m)) rfl ?_
        refine pw_iret rfl rfl rfl ?_
        exact ⟨(-1), rfl, rfl, rR_sm (sm_rfl m) hR⟩
    · refine pw_steps 2 (s' := (17, [some (.ref 1), some (.int (ei_ (a)))], [.int (ei_ (1))], m)) rfl ?_
      refine pw_iret rfl rfl rfl ?_
      refine pw_ifF rfl (by decide) (show ¬ (1 = 0) by decide) ?_
      refine pw_steps 1 (s' := (12, [some (.ref 0), some (.int (ei_ (a))), some (.int (ei_ (b)))], [.int (ei_ (b))], m)) rfl ?_
      refine pw_callS (As := [.int (ei_ (b))]) (st := []) rfl (by decide) rfl rfl (Nat.le_of_ble_eq_true rfl) ?_
      refine pw_intro (I := iX8_isTo99) (T := tX8_isTo99) rfl rfl rfl ?_
      refine pw_steps 1 (s' := (1, [some (.int (ei_ (b)))], [.int (ei_ (b))], m)) rfl ?_
      refine pw_if rfl q1 (fun (h14 : b < 0) => ?_) (fun (h14 : ¬ (b < 0)) => ?_)
      · refine pw_steps 1 (s' := (15, [some (.int (ei_ (b)))], [.int (ei_ (0))], m)) rfl ?_
        refine pw_iret rfl rfl rfl ?_
        refine pw_ifT rfl (by decide) (show 0 = 0 by decide) ?_
        refine pw_steps 1 (s' := (28, [some (.ref 0), some (.int (ei_ (a))), some (.int (ei_ (b)))], [.int (ei_ ((-1)))], m)) rfl ?_
        refine pw_iret rfl rfl rfl ?_
        refine pw_intro (I := iX9_left) (T := tX9_left) rfl rfl rfl ?_
        refine pw_steps 3 (s' := (3, [some (.ref 47), some (.int (ei_ (a))), some (.int (ei_ (b)))], [.long ((ei_ (a)).toInt64), .ref 47], m)) rfl ?_
        refine pw_cv (congrArg (fun z_ : Int64 => ((3, [some (.ref 47), some (.int (ei_ (a))), some (.int (ei_ (b)))], [.long z_, .ref 47], m) : am_S)) (el_i2l q0 rfl)) ?_
        refine pw_call (As := [.long (el_ (a))]) (st := []) (k := 47) rfl rfl rfl rfl rfl (Nat.le_of_ble_eq_true rfl) ?_
        refine pw_intro (I := iX9_isOne) (T := tX9_isOne) rfl rfl rfl ?_
        refine pw_steps 3 (s' := (3, [some (.ref 47), some (.long (el_ (a))), none], [.ref 47, .long (el_ (0)), .long (el_ (a))], m)) rfl ?_
        refine pw_get rfl rfl (fun x15 (hx15 : x15 = vi_ m 47 6) rx15 sx15 => ?_)
        refine pw_steps 3 (s' := (9, [some (.ref 47), some (.long (el_ (a))), none], [.long (((ei_ (x15)) - (ei_ (1))).toInt64), .long (el_ (0)), .long (el_ (a))], m)) rfl ?_
        refine pw_cv (congrArg (fun z_ : Int64 => ((9, [some (.ref 47), some (.long (el_ (a))), none], [.long z_, .long (el_ (0)), .long (el_ (a))], m) : am_S)) (el_i2l (by omega) (ei_sub rfl rfl))) ?_
        refine pw_callS (As := [.long (el_ (a)), .long (el_ (0)), .long (el_ ((x15 - 1)))]) (st := []) rfl (by decide) rfl rfl (Nat.le_of_ble_eq_true rfl) ?_
        refine mt_within (by omega) (by omega) (by omega) (fun g16 g17 => ?_) (fun g18 => ?_) (fun g19 => ?_)
        · refine pw_iret rfl rfl rfl ?_
          refine pw_ifF rfl (by decide) (show ¬ (1 = 0) by decide) ?_
          refine pw_steps 1 (s' := (10, [some (.ref 47), some (.int (ei_ (a))), some (.int (ei_ (b)))], [.int (ei_ (b))], m)) rfl ?_
          refine pw_callS (As := [.int (ei_ (b))]) (st := []) rfl (by decide) rfl rfl (Nat.le_of_ble_eq_true rfl) ?_
          refine pw_intro (I := iX9_isN) (T := tX9_isN) rfl rfl rfl ?_
          refine pw_steps 4 (s' := (6, [some (.int (ei_ (b)))], [.long (el_ (99)), .long (el_ (0)), .long ((ei_ (b)).toInt64)], m)) rfl ?_
          refine pw_cv (congrArg (fun z_ : Int64 => ((6, [some (.int (ei_ (b)))], [.long (el_ (99)), .long (el_ (0)), .long z_], m) : am_S)) (el_i2l q1 rfl)) ?_
          refine pw_callS (As := [.long (el_ (b)), .long (el_ (0)), .long (el_ (99))]) (st := []) rfl (by decide) rfl rfl (Nat.le_of_ble_eq_true rfl) ?_
          refine mt_within (by omega) (by omega) (by omega) (fun g20 g21 => ?_) (fun g22 => ?_) (fun g23 => ?_)
          · exact False.elim (by omega)
          · refine pw_iret rfl rfl rfl ?_
            refine pw_ifF rfl (by decide) (show ¬ (¬ 0 = 0) by decide) ?_
            refine pw_steps 1 (s' := (17, [some (.ref 47), some (.int (ei_ (a))), some (.int (ei_ (b)))], [.int (ei_ ((-1)))], m)) rfl ?_
            refine pw_iret rfl rfl rfl ?_
            exact ⟨(-1), rfl, rfl, rR_sm (sm_rfl m) hR⟩
          · exact False.elim (by omega)
        · exact False.elim (by omega)
        · exact False.elim (by omega)
      · refine pw_steps 2 (s' := (7, [some (.int (ei_ (b)))], [.int (ei_ (99)), .int (ei_ (b))], m)) rfl ?_
        refine pw_cmp rfl q1 (by decide) (fun (h24 : 99 < b) => ?_) (fun (h24 : ¬ (99 < b)) => ?_)
        · refine pw_steps 1 (s' := (15, [some (.int (ei_ (b)))], [.int (ei_ (0))], m)) rfl ?_
          refine pw_iret rfl rfl rfl ?_
          refine pw_ifT rfl (by decide) (show 0 = 0 by decide) ?_
          refine pw_steps 1 (s' := (28, [some (.ref 0), some (.int (ei_ (a))), some (.int (ei_ (b)))], [.int (ei_ ((-1)))], m)) rfl ?_
          refine pw_iret rfl rfl rfl ?_
          refine pw_intro (I := iX9_left) (T := tX9_left) rfl rfl rfl ?_
          refine pw_steps 3 (s' := (3, [some (.ref 47), some (.int (ei_ (a))), some (.int (ei_ (b)))], [.long ((ei_ (a)).toInt64), .ref 47], m)) rfl ?_
          refine pw_cv (congrArg (fun z_ : Int64 => ((3, [some (.ref 47), some (.int (ei_ (a))), some (.int (ei_ (b)))], [.long z_, .ref 47], m) : am_S)) (el_i2l q0 rfl)) ?_
          refine pw_call (As := [.long (el_ (a))]) (st := []) (k := 47) rfl rfl rfl rfl rfl (Nat.le_of_ble_eq_true rfl) ?_
          refine pw_intro (I := iX9_isOne) (T := tX9_isOne) rfl rfl rfl ?_
          refine pw_steps 3 (s' := (3, [some (.ref 47), some (.long (el_ (a))), none], [.ref 47, .long (el_ (0)), .long (el_ (a))], m)) rfl ?_
          refine pw_get rfl rfl (fun x25 (hx25 : x25 = vi_ m 47 6) rx25 sx25 => ?_)
          refine pw_steps 3 (s' := (9, [some (.ref 47), some (.long (el_ (a))), none], [.long (((ei_ (x25)) - (ei_ (1))).toInt64), .long (el_ (0)), .long (el_ (a))], m)) rfl ?_
          refine pw_cv (congrArg (fun z_ : Int64 => ((9, [some (.ref 47), some (.long (el_ (a))), none], [.long z_, .long (el_ (0)), .long (el_ (a))], m) : am_S)) (el_i2l (by omega) (ei_sub rfl rfl))) ?_
          refine pw_callS (As := [.long (el_ (a)), .long (el_ (0)), .long (el_ ((x25 - 1)))]) (st := []) rfl (by decide) rfl rfl (Nat.le_of_ble_eq_true rfl) ?_
          refine mt_within (by omega) (by omega) (by omega) (fun g26 g27 => ?_) (fun g28 => ?_) (fun g29 => ?_)
          · refine pw_iret rfl rfl rfl ?_
            refine pw_ifF rfl (by decide) (show ¬ (1 = 0) by decide) ?_
            refine pw_steps 1 (s' := (10, [some (.ref 47), some (.int (ei_ (a))), some (.int (ei_ (b)))], [.int (ei_ (b))], m)) rfl ?_
            refine pw_callS (As := [.int (ei_ (b))]) (st := []) rfl (by decide) rfl rfl (Nat.le_of_ble_eq_true rfl) ?_
            refine pw_intro (I := iX9_isN) (T := tX9_isN) rfl rfl rfl ?_
            refine pw_steps 4 (s' := (6, [some (.int (ei_ (b)))], [.long (el_ (99)), .long (el_ (0)), .long ((ei_ (b)).toInt64)], m)) rfl ?_
            refine pw_cv (congrArg (fun z_ : Int64 => ((6, [some (.int (ei_ (b)))], [.long (el_ (99)), .long (el_ (0)), .long z_], m) : am_S)) (el_i2l q1 rfl)) ?_
            refine pw_callS (As := [.long (el_ (b)), .long (el_ (0)), .long (el_ (99))]) (st := []) rfl (by decide) rfl rfl (Nat.le_of_ble_eq_true rfl) ?_
            refine mt_within (by omega) (by omega) (by omega) (fun g30 g31 => ?_) (fun g32 => ?_) (fun g33 => ?_)
            · exact False.elim (by omega)
            · exact False.elim (by omega)
            · refine pw_iret rfl rfl rfl ?_
              refine pw_ifF rfl (by decide) (show ¬ (¬ 0 = 0) by decide) ?_
              refine pw_steps 1 (s' := (17, [some (.ref 47), some (.int (ei_ (a))), some (.int (ei_ (b)))], [.int (ei_ ((-1)))], m)) rfl ?_
              refine pw_iret rfl rfl rfl ?_
              exact ⟨(-1), rfl, rfl, rR_sm (sm_rfl m) hR⟩
          · exact False.elim (by omega)
          · exact False.elim (by omega)
        · refine pw_steps 2 (s' := (15, [some (.int (ei_ (b)))], [.int (ei_ (1))], m)) rfl ?_
          refine pw_iret rfl rfl rfl ?_
          refine pw_ifF rfl (by decide) (show ¬ (1 = 0) by decide) ?_
          refine pw_steps 3 (s' := (21, [some (.ref 0), some (.int (ei_ (a))), some (.int (ei_ (b)))], [.int (ei_ (b)), .int (ei_ (a)), .ref 0], m)) rfl ?_
          refine pw_call (As := [.int (ei_ (a)), .int (ei_ (b))]) (st := []) (k := 0) rfl rfl rfl rfl rfl (Nat.le_of_ble_eq_true rfl) ?_
          refine cw_leftAfter (hp) (hz) ((sm_rfl m)) (hd.1) (hd.2.1) (by omega) (by omega) (fun x34 m135 g36 g37 g38 => ?_)
          refine pw_steps 1 (s' := (28, [some (.ref 0), some (.int (ei_ (a))), some (.int (ei_ (b)))], [.int (ei_ (x34))], m135)) rfl ?_
          refine pw_iret rfl rfl rfl ?_
          refine pw_intro (I := iX9_left) (T := tX9_left) rfl rfl rfl ?_
          refine pw_steps 3 (s' := (3, [some (.ref 47), some (.int (ei_ (a))), some (.int (ei_ (b)))], [.long ((ei_ (a)).toInt64), .ref 47], m135)) rfl ?_
          refine pw_cv (congrArg (fun z_ : Int64 => ((3, [some (.ref 47), some (.int (ei_ (a))), some (.int (ei_ (b)))], [.long z_, .ref 47], m135) : am_S)) (el_i2l q0 rfl)) ?_
          refine pw_call (As := [.long (el_ (a))]) (st := []) (k := 47) rfl rfl rfl rfl rfl (Nat.le_of_ble_eq_true rfl) ?_
          refine pw_intro (I := iX9_isOne) (T := tX9_isOne) rfl rfl rfl ?_
          refine pw_steps 3 (s' := (3, [some (.ref 47), some (.long (el_ (a))), none], [.ref 47, .long (el_ (0)), .long (el_ (a))], m135)) rfl ?_
          refine pw_get rfl rfl (fun x39 (hx39 : x39 = vi_ m135 47 6) rx39 sx39 => ?_)
          have ox39 := hx39
          replace hx39 : x39 = vi_ m 47 6 := hx39.trans (sm_v g37 rfl)
          refine pw_steps 3 (s' := (9, [some (.ref 47), some (.long (el_ (a))), none], [.long (((ei_ (x39)) - (ei_ (1))).toInt64), .long (el_ (0)), .long (el_ (a))], m135)) rfl ?_
          refine pw_cv (congrArg (fun z_ : Int64 => ((9, [some (.ref 47), some (.long (el_ (a))), none], [.long z_, .long (el_ (0)), .long (el_ (a))], m135) : am_S)) (el_i2l (by omega) (ei_sub rfl rfl))) ?_
          refine pw_callS (As := [.long (el_ (a)), .long (el_ (0)), .long (el_ ((x39 - 1)))]) (st := []) rfl (by decide) rfl rfl (Nat.le_of_ble_eq_true rfl) ?_
          refine mt_within (by omega) (by omega) (by omega) (fun g40 g41 => ?_) (fun g42 => ?_) (fun g43 => ?_)
          · refine pw_iret rfl rfl rfl ?_
            refine pw_ifF rfl (by decide) (show ¬ (1 = 0) by decide) ?_
            refine pw_steps 1 (s' := (10, [some (.ref 47), some (.int (ei_ (a))), some (.int (ei_ (b)))], [.int (ei_ (b))], m135)) rfl ?_
            refine pw_callS (As := [.int (ei_ (b))]) (st := []) rfl (by decide) rfl rfl (Nat.le_of_ble_eq_true rfl) ?_
            refine pw_intro (I := iX9_isN) (T := tX9_isN) rfl rfl rfl ?_
            refine pw_steps 4 (s' := (6, [some (.int (ei_ (b)))], [.long (el_ (99)), .long (el_ (0)), .long ((ei_ (b)).toInt64)], m135)) rfl ?_
            refine pw_cv (congrArg (fun z_ : Int64 => ((6, [some (.int (ei_ (b)))], [.long (el_ (99)), .long (el_ (0)), .long z_], m135) : am_S)) (el_i2l q1 rfl)) ?_
            refine pw_callS (As := [.long (el_ (b)), .long (el_ (0)), .long (el_ (99))]) (st := []) rfl (by decide) rfl rfl (Nat.le_of_ble_eq_true rfl) ?_
            refine mt_within (by omega) (by omega) (by omega) (fun g44 g45 => ?_) (fun g46 => ?_) (fun g47 => ?_)
            · refine pw_iret rfl rfl rfl ?_
              refine pw_ifT rfl (by decide) (show ¬ 1 = 0 by decide) ?_
              refine pw_steps 2 (s' := (20, [some (.ref 47), some (.int (ei_ (a))), some (.int (ei_ (b)))], [.int (ei_ (b)), .ref 47], m135)) rfl ?_
              refine pw_call (As := [.int (ei_ (b))]) (st := []) (k := 47) rfl rfl rfl rfl rfl (Nat.le_of_ble_eq_true rfl) ?_
              refine md_goes (hp) (hmw) (g37) (hl) (hmf) (by omega) (fun m148 g49 g50 => ?_)
              refine pw_steps 3 (s' := (28, [some (.ref 47), some (.int (ei_ (a))), some (.int (ei_ (b)))], [.int (ei_ (a)), .ref 57], m148)) rfl ?_
              refine pw_ild rfl rfl (by omega) (fun x51 (hx51 : x51 = vi_ m148 57 a) rx51 sx51 => ?_)
              have b52 := g50 a (by omega) (by omega)
              rw [lf_mc hp hd ⟨by omega, by omega⟩] at b52
              refine pw_iret rfl rfl rfl ?_
              have hx_ : (x51 : Int) = x34 := by omega
              exact ⟨x34, rfl, congrArg (fun z_ : Int => some (Value.int (ei_ z_))) hx_, rR_sm (sm_tr g37 (sm_le g49 pGo_Sc)) hR⟩
            · exact False.elim (by omega)
            · exact False.elim (by omega)
          · exact False.elim (by omega)
          · exact False.elim (by omega)

set_option maxHeartbeats 4000000 in
set_option maxRecDepth 20000 in
theorem op_when {q : am_X} {d : Nat} {m : am_M} {a : Int} {b : Int} (q0 : -2147483648 ≤ a ∧ a < 2147483648) (q1 : -2147483648 ≤ b ∧ b < 2147483648) (hR : rR_ m) : pw_C q (d + 60) 61 [.ref 0, .int (ei_ (a)), .int (ei_ (b))] m (fun r1 m1 => pw_C q (d + 60) 213 [.ref 47, .int (ei_ (a)), .int (ei_ (b))] m1 (fun r2 m2 => ∃ x : Int, r1 = some (.int (ei_ x)) ∧ r2 = some (.int (ei_ x)) ∧ rR_ m2)) := by
  obtain ⟨hp, hd, hi, ht, hl, hz, hc, ha, hs⟩ := id hR
  obtain ⟨hP1, hP2, hP3, hP4⟩ := id hp
  have hmw := mW_of hp hd
  have hmf := mF_of hp hd
  refine pw_intro (I := iX8_when) (T := tX8_when) rfl rfl rfl ?_
  refine pw_steps 3 (s' := (5, [some (.ref 0), some (.int (ei_ (a))), some (.int (ei_ (b)))], [.int (ei_ (a)), .ref 1], m)) rfl ?_
  refine pw_call (As := [.int (ei_ (a))]) (st := []) (k := 1) rfl rfl rfl rfl rfl (Nat.le_of_ble_eq_true rfl) ?_
  refine pw_intro (I := iX3_has) (T := tX3_has) rfl rfl rfl ?_
  refine pw_steps 1 (s' := (1, [some (.ref 1), some (.int (ei_ (a)))], [.int (ei_ (a))], m)) rfl ?_
  refine pw_if rfl q0 (fun (h1 : a < 0) => ?_) (fun (h1 : ¬ (a < 0)) => ?_)
  · refine pw_steps 1 (s' := (17, [some (.ref 1), some (.int (ei_ (a)))], [.int (ei_ (0))], m)) rfl ?_
    refine pw_iret rfl rfl rfl ?_
    refine pw_ifT rfl (by decide) (show 0 = 0 by decide) ?_
    refine pw_steps 1 (s' := (21, [some (.ref 0), some (.int (ei_ (a))), some (.int (ei_ (b)))], [.int (ei_ ((-1)))], m)) rfl ?_
    refine pw_iret rfl rfl rfl ?_
    refine pw_intro (I := iX9_when) (T := tX9_when) rfl rfl rfl ?_
    refine pw_steps 3 (s' := (3, [some (.ref 47), some (.int (ei_ (a))), some (.int (ei_ (b)))], [.long ((ei_ (a)).toInt64), .ref 47], m)) rfl ?_
    refine pw_cv (congrArg (fun z_ : Int64 => ((3, [some (.ref 47), some (.int (ei_ (a))), some (.int (ei_ (b)))], [.long z_, .ref 47], m) : am_S)) (el_i2l q0 rfl)) ?_
    refine pw_call (As := [.long (el_ (a))]) (st := []) (k := 47) rfl rfl rfl rfl rfl (Nat.le_of_ble_eq_true rfl) ?_
    refine pw_intro (I := iX9_isOne) (T := tX9_isOne) rfl rfl rfl ?_
    refine pw_steps 3 (s' := (3, [some (.ref 47), some (.long (el_ (a))), none], [.ref 47, .long (el_ (0)), .long (el_ (a))], m)) rfl ?_
    refine pw_get rfl rfl (fun x2 (hx2 : x2 = vi_ m 47 6) rx2 sx2 => ?_)
    refine pw_steps 3 (s' := (9, [some (.ref 47), some (.long (el_ (a))), none], [.long (((ei_ (x2)) - (ei_ (1))).toInt64), .long (el_ (0)), .long (el_ (a))], m)) rfl ?_
    refine pw_cv (congrArg (fun z_ : Int64 => ((9, [some (.ref 47), some (.long (el_ (a))), none], [.long z_, .long (el_ (0)), .long (el_ (a))], m) : am_S)) (el_i2l (by omega) (ei_sub rfl rfl))) ?_
    refine pw_callS (As := [.long (el_ (a)), .long (el_ (0)), .long (el_ ((x2 - 1)))]) (st := []) rfl (by decide) rfl rfl (Nat.le_of_ble_eq_true rfl) ?_
    refine mt_within (by omega) (by omega) (by omega) (fun g3 g4 => ?_) (fun g5 => ?_) (fun g6 => ?_)
    · exact False.elim (by omega)
    · refine pw_iret rfl rfl rfl ?_
      refine pw_ifT rfl (by decide) (show 0 = 0 by decide) ?_
      refine pw_steps 1 (s' := (20, [some (.ref 47), some (.int (ei_ (a))), some (.int (ei_ (b)))], [.int (ei_ ((-1)))], m)) rfl ?_
      refine pw_iret rfl rfl rfl ?_
      have hx_ : ((-1) : Int) = (-1) := by rfl
      exact ⟨(-1), rfl, congrArg (fun z_ : Int => some (Value.int (ei_ z_))) hx_, rR_sm (sm_rfl m) hR⟩
    · exact False.elim (by omega)
  · refine pw_steps 2 (s' := (6, [some (.ref 1), some (.int (ei_ (a)))], [.ref 1, .int (ei_ (a))], m)) rfl ?_
    refine pw_get rfl rfl (fun x7 (hx7 : x7 = vi_ m 1 1) rx7 sx7 => ?_)
    refine pw_cmp rfl q0 ⟨rx7, sx7⟩ (fun (h8 : x7 ≤ a) => ?_) (fun (h8 : ¬ (x7 ≤ a)) => ?_)
    · refine pw_steps 1 (s' := (17, [some (.ref 1), some (.int (ei_ (a)))], [.int (ei_ (0))], m)) rfl ?_
      refine pw_iret rfl rfl rfl ?_
      refine pw_ifT rfl (by decide) (show 0 = 0 by decide) ?_
      refine pw_steps 1 (s' := (21, [some (.ref 0), some (.int (ei_ (a))), some (.int (ei_ (b)))], [.int (ei_ ((-1)))], m)) rfl ?_
      refine pw_iret rfl rfl rfl ?_
      refine pw_intro (I := iX9_when) (T := tX9_when) rfl rfl rfl ?_
      refine pw_steps 3 (s' := (3, [some (.ref 47), some (.int (ei_ (a))), some (.int (ei_ (b)))], [.long ((ei_ (a)).toInt64), .ref 47], m)) rfl ?_
      refine pw_cv (congrArg (fun z_ : Int64 => ((3, [some (.ref 47), some (.int (ei_ (a))), some (.int (ei_ (b)))], [.long z_, .ref 47], m) : am_S)) (el_i2l q0 rfl)) ?_
      refine pw_call (As := [.long (el_ (a))]) (st := []) (k := 47) rfl rfl rfl rfl rfl (Nat.le_of_ble_eq_true rfl) ?_
      refine pw_intro (I := iX9_isOne) (T := tX9_isOne) rfl rfl rfl ?_
      refine pw_steps 3 (s' := (3, [some (.ref 47), some (.long (el_ (a))), none], [.ref 47, .long (el_ (0)), .long (el_ (a))], m)) rfl ?_
      refine pw_get rfl rfl (fun x9 (hx9 : x9 = vi_ m 47 6) rx9 sx9 => ?_)
      refine pw_steps 3 (s' := (9, [some (.ref 47), some (.long (el_ (a))), none], [.long (((ei_ (x9)) - (ei_ (1))).toInt64), .long (el_ (0)), .long (el_ (a))], m)) rfl ?_
      refine pw_cv (congrArg (fun z_ : Int64 => ((9, [some (.ref 47), some (.long (el_ (a))), none], [.long z_, .long (el_ (0)), .long (el_ (a))], m) : am_S)) (el_i2l (by omega) (ei_sub rfl rfl))) ?_
      refine pw_callS (As := [.long (el_ (a)), .long (el_ (0)), .long (el_ ((x9 - 1)))]) (st := []) rfl (by decide) rfl rfl (Nat.le_of_ble_eq_true rfl) ?_
      refine mt_within (by omega) (by omega) (by omega) (fun g10 g11 => ?_) (fun g12 => ?_) (fun g13 => ?_)
      · exact False.elim (by omega)
      · exact False.elim (by omega)
      · refine pw_iret rfl rfl rfl ?_
        refine pw_ifT rfl (by decide) (show 0 = 0 by decide) ?_
        refine pw_steps 1 (s' := (20, [some (.ref 47), some (.int (ei_ (a))), some (.int (ei_ (b)))], [.int (ei_ ((-1)))], m)) rfl ?_
        refine pw_iret rfl rfl rfl ?_
        have hx_ : ((-1) : Int) = (-1) := by rfl
        exact ⟨(-1), rfl, congrArg (fun z_ : Int => some (Value.int (ei_ z_))) hx_, rR_sm (sm_rfl m) hR⟩
    · refine pw_steps 2 (s' := (17, [some (.ref 1), some (.int (ei_ (a)))], [.int (ei_ (1))], m)) rfl ?_
      refine pw_iret rfl rfl rfl ?_
      refine pw_ifF rfl (by decide) (show ¬ (1 = 0) by decide) ?_
      refine pw_steps 1 (s' := (12, [some (.ref 0), some (.int (ei_ (a))), some (.int (ei_ (b)))], [.int (ei_ (b))], m)) rfl ?_
      refine pw_if rfl q1 (fun (h14 : b < 0) => ?_) (fun (h14 : ¬ (b < 0)) => ?_)
      · refine pw_steps 1 (s' := (21, [some (.ref 0), some (.int (ei_ (a))), some (.int (ei_ (b)))], [.int (ei_ ((-1)))], m)) rfl ?_
        refine pw_iret rfl rfl rfl ?_
        refine pw_intro (I := iX9_when) (T := tX9_when) rfl rfl rfl ?_
        refine pw_steps 3 (s' := (3, [some (.ref 47), some (.int (ei_ (a))), some (.int (ei_ (b)))], [.long ((ei_ (a)).toInt64), .ref 47], m)) rfl ?_
        refine pw_cv (congrArg (fun z_ : Int64 => ((3, [some (.ref 47), some (.int (ei_ (a))), some (.int (ei_ (b)))], [.long z_, .ref 47], m) : am_S)) (el_i2l q0 rfl)) ?_
        refine pw_call (As := [.long (el_ (a))]) (st := []) (k := 47) rfl rfl rfl rfl rfl (Nat.le_of_ble_eq_true rfl) ?_
        refine pw_intro (I := iX9_isOne) (T := tX9_isOne) rfl rfl rfl ?_
        refine pw_steps 3 (s' := (3, [some (.ref 47), some (.long (el_ (a))), none], [.ref 47, .long (el_ (0)), .long (el_ (a))], m)) rfl ?_
        refine pw_get rfl rfl (fun x15 (hx15 : x15 = vi_ m 47 6) rx15 sx15 => ?_)
        refine pw_steps 3 (s' := (9, [some (.ref 47), some (.long (el_ (a))), none], [.long (((ei_ (x15)) - (ei_ (1))).toInt64), .long (el_ (0)), .long (el_ (a))], m)) rfl ?_
        refine pw_cv (congrArg (fun z_ : Int64 => ((9, [some (.ref 47), some (.long (el_ (a))), none], [.long z_, .long (el_ (0)), .long (el_ (a))], m) : am_S)) (el_i2l (by omega) (ei_sub rfl rfl))) ?_
        refine pw_callS (As := [.long (el_ (a)), .long (el_ (0)), .long (el_ ((x15 - 1)))]) (st := []) rfl (by decide) rfl rfl (Nat.le_of_ble_eq_true rfl) ?_
        refine mt_within (by omega) (by omega) (by omega) (fun g16 g17 => ?_) (fun g18 => ?_) (fun g19 => ?_)
        · refine pw_iret rfl rfl rfl ?_
          refine pw_ifF rfl (by decide) (show ¬ (1 = 0) by decide) ?_
          refine pw_steps 4 (s' := (13, [some (.ref 47), some (.int (ei_ (a))), some (.int (ei_ (b)))], [.long (el_ (1)), .long (el_ (0)), .long ((ei_ (b)).toInt64)], m)) rfl ?_
          refine pw_cv (congrArg (fun z_ : Int64 => ((13, [some (.ref 47), some (.int (ei_ (a))), some (.int (ei_ (b)))], [.long (el_ (1)), .long (el_ (0)), .long z_], m) : am_S)) (el_i2l q1 rfl)) ?_
          refine pw_callS (As := [.long (el_ (b)), .long (el_ (0)), .long (el_ (1))]) (st := []) rfl (by decide) rfl rfl (Nat.le_of_ble_eq_true rfl) ?_
          refine mt_within (by omega) (by omega) (by omega) (fun g20 g21 => ?_) (fun g22 => ?_) (fun g23 => ?_)
          · exact False.elim (by omega)
          · refine pw_ifF rfl (by decide) (show ¬ (¬ 0 = 0) by decide) ?_
            refine pw_steps 1 (s' := (20, [some (.ref 47), some (.int (ei_ (a))), some (.int (ei_ (b)))], [.int (ei_ ((-1)))], m)) rfl ?_
            refine pw_iret rfl rfl rfl ?_
            have hx_ : ((-1) : Int) = (-1) := by rfl
            exact ⟨(-1), rfl, congrArg (fun z_ : Int => some (Value.int (ei_ z_))) hx_, rR_sm (sm_rfl m) hR⟩
          · exact False.elim (by omega)
        · exact False.elim (by omega)
        · exact False.elim (by omega)
      · refine pw_steps 2 (s' := (17, [some (.ref 0), some (.int (ei_ (a))), some (.int (ei_ (b)))], [.int (ei_ (1)), .int (ei_ (b))], m)) rfl ?_
        refine pw_cmp rfl q1 (by decide) (fun (h24 : b ≤ 1) => ?_) (fun (h24 : ¬ (b ≤ 1)) => ?_)
        · refine pw_steps 4 (s' := (26, [some (.ref 0), some (.int (ei_ (a))), some (.int (ei_ (b)))], [.int (ei_ (1)), .int (ei_ (b)), .int (ei_ (a)), .ref 0], m)) rfl ?_
          refine pw_cmp rfl q1 (by decide) (fun (h25 : ¬ b = 1) => ?_) (fun (h25 : ¬ ¬ b = 1) => ?_)
          · refine pw_steps 1 (s' := (34, [some (.ref 0), some (.int (ei_ (a))), some (.int (ei_ (b)))], [.int (ei_ (0)), .int (ei_ (a)), .ref 0], m)) rfl ?_
            refine pw_call (As := [.int (ei_ (a)), .int (ei_ (0))]) (st := []) (k := 0) rfl rfl rfl rfl rfl (Nat.le_of_ble_eq_true rfl) ?_
            refine cw_firstDay (hp) (hz) ((sm_rfl m)) (hd.1) (hd.2.1) (by omega) (by omega) (fun x26 m127 g28 g29 g30 => ?_)
            refine pw_iret rfl rfl rfl ?_
            refine pw_intro (I := iX9_when) (T := tX9_when) rfl rfl rfl ?_
            refine pw_steps 3 (s' := (3, [some (.ref 47), some (.int (ei_ (a))), some (.int (ei_ (b)))], [.long ((ei_ (a)).toInt64), .ref 47], m127)) rfl ?_
            refine pw_cv (congrArg (fun z_ : Int64 => ((3, [some (.ref 47), some (.int (ei_ (a))), some (.int (ei_ (b)))], [.long z_, .ref 47], m127) : am_S)) (el_i2l q0 rfl)) ?_
            refine pw_call (As := [.long (el_ (a))]) (st := []) (k := 47) rfl rfl rfl rfl rfl (Nat.le_of_ble_eq_true rfl) ?_
            refine pw_intro (I := iX9_isOne) (T := tX9_isOne) rfl rfl rfl ?_
            refine pw_steps 3 (s' := (3, [some (.ref 47), some (.long (el_ (a))), none], [.ref 47, .long (el_ (0)), .long (el_ (a))], m127)) rfl ?_
            refine pw_get rfl rfl (fun x31 (hx31 : x31 = vi_ m127 47 6) rx31 sx31 => ?_)
            have ox31 := hx31
            replace hx31 : x31 = vi_ m 47 6 := hx31.trans (sm_v g29 rfl)
            refine pw_steps 3 (s' := (9, [some (.ref 47), some (.long (el_ (a))), none], [.long (((ei_ (x31)) - (ei_ (1))).toInt64), .long (el_ (0)), .long (el_ (a))], m127)) rfl ?_
            refine pw_cv (congrArg (fun z_ : Int64 => ((9, [some (.ref 47), some (.long (el_ (a))), none], [.long z_, .long (el_ (0)), .long (el_ (a))], m127) : am_S)) (el_i2l (by omega) (ei_sub rfl rfl))) ?_
            refine pw_callS (As := [.long (el_ (a)), .long (el_ (0)), .long (el_ ((x31 - 1)))]) (st := []) rfl (by decide) rfl rfl (Nat.le_of_ble_eq_true rfl) ?_
            refine mt_within (by omega) (by omega) (by omega) (fun g32 g33 => ?_) (fun g34 => ?_) (fun g35 => ?_)
            · refine pw_iret rfl rfl rfl ?_
              refine pw_ifF rfl (by decide) (show ¬ (1 = 0) by decide) ?_
              refine pw_steps 4 (s' := (13, [some (.ref 47), some (.int (ei_ (a))), some (.int (ei_ (b)))], [.long (el_ (1)), .long (el_ (0)), .long ((ei_ (b)).toInt64)], m127)) rfl ?_
              refine pw_cv (congrArg (fun z_ : Int64 => ((13, [some (.ref 47), some (.int (ei_ (a))), some (.int (ei_ (b)))], [.long (el_ (1)), .long (el_ (0)), .long z_], m127) : am_S)) (el_i2l q1 rfl)) ?_
              refine pw_callS (As := [.long (el_ (b)), .long (el_ (0)), .long (el_ (1))]) (st := []) rfl (by decide) rfl rfl (Nat.le_of_ble_eq_true rfl) ?_
              refine mt_within (by omega) (by omega) (by omega) (fun g36 g37 => ?_) (fun g38 => ?_) (fun g39 => ?_)
              · refine pw_ifT rfl (by decide) (show ¬ 1 = 0 by decide) ?_
                refine pw_steps 3 (s' := (24, [some (.ref 47), some (.int (ei_ (a))), some (.int (ei_ (b)))], [.int (ei_ (b)), .int (ei_ (a)), .ref 47], m127)) rfl ?_
                refine pw_if rfl q1 (fun (h40 : ¬ b = 0) => ?_) (fun (h40 : ¬ ¬ b = 0) => ?_)
                · refine pw_steps 1 (s' := (40, [some (.ref 47), some (.int (ei_ (a))), some (.int (ei_ (b)))], [.int (ei_ (1)), .int (ei_ (a)), .ref 47], m127)) rfl ?_
                  refine pw_call (As := [.int (ei_ (a)), .int (ei_ (1))]) (st := []) (k := 47) rfl rfl rfl rfl rfl (Nat.le_of_ble_eq_true rfl) ?_
                  refine md_less (hp) (hmw) (g29) (hl) (hmf) (by omega) (by omega) (fun x41 m142 g43 g44 g45 => ?_)
                  refine pw_iret rfl rfl rfl ?_
                  have hx_ : (x41 : Int) = x26 := by refine fs_u g43 (fs_cg g28 (fun j a_ b_ => ?_)); have hb_ := lf_b (l := vi_ m 5 a) (r := rn_ m a) (n := j) (hd.2.1 a (by omega) (by omega)).1 (rn_b m a).1 a_; have hc_ := lf_mc (n := j) hp hd (a := a) ⟨by omega, by omega⟩; omega
                  exact ⟨x26, rfl, congrArg (fun z_ : Int => some (Value.int (ei_ z_))) hx_, rR_sm (sm_tr g29 (sm_le g44 pGo_Sc)) hR⟩
                · refine pw_steps 4 (s' := (32, [some (.ref 47), some (.int (ei_ (a))), some (.int (ei_ (b)))], [.int (ei_ (0)), .int (ei_ (a)), .ref 47, .int (ei_ (10)), .int (ei_ (a)), .ref 47], m127)) rfl ?_
                  refine pw_call (As := [.int (ei_ (a)), .int (ei_ (0))]) (st := [.int (ei_ (10)), .int (ei_ (a)), .ref 47]) (k := 47) rfl rfl rfl rfl rfl (Nat.le_of_ble_eq_true rfl) ?_
                  refine pw_intro (I := iX9_ofOne) (T := tX9_ofOne) rfl rfl rfl ?_
                  refine pw_steps 7 (s' := (10, [some (.ref 47), some (.int (ei_ (a))), some (.int (ei_ (0)))], [.int (((ei_ (8)) * (ei_ (0))) + (ei_ (a))), .ref 48], m127)) rfl ?_
                  refine pw_cv (congrArg (fun z_ : Int32 => ((10, [some (.ref 47), some (.int (ei_ (a))), some (.int (ei_ (0)))], [.int z_, .ref 48], m127) : am_S)) (ei_add (ei_mul rfl rfl) rfl)) ?_
                  refine pw_ild rfl rfl (by omega) (fun x46 (hx46 : x46 = vi_ m127 48 (0 + a)) rx46 sx46 => ?_)
                  have ox46 := hx46
                  replace hx46 : x46 = vi_ m 48 (0 + a) := hx46.trans (sm_v g29 rfl)
                  have b47 := hP3 (0 + a) (by omega) (by omega)
                  rw [b47.2.2] at hx46
                  try rw [Int.zero_add] at hx46 b47
                  refine pw_iret rfl rfl rfl ?_
                  refine pw_steps 2 (s' := (40, [some (.ref 47), some (.int (ei_ (a))), some (.int (ei_ (b)))], [.int ((ei_ (10)) * (ei_ (x46))), .int (ei_ (a)), .ref 47], m127)) rfl ?_
                  refine pw_cv (congrArg (fun z_ : Int32 => ((40, [some (.ref 47), some (.int (ei_ (a))), some (.int (ei_ (b)))], [.int z_, .int (ei_ (a)), .ref 47], m127) : am_S)) (ei_mul rfl rfl)) ?_
                  refine pw_call (As := [.int (ei_ (a)), .int (ei_ ((10 * x46)))]) (st := []) (k := 47) rfl rfl rfl rfl rfl (Nat.le_of_ble_eq_true rfl) ?_
                  refine md_less (hp) (hmw) (g29) (hl) (hmf) (by omega) (by omega) (fun x48 m149 g50 g51 g52 => ?_)
                  refine pw_iret rfl rfl rfl ?_
                  have hx_ : (x48 : Int) = x26 := by refine fs_u g50 (fs_cg g28 (fun j a_ b_ => ?_)); have hb_ := lf_b (l := vi_ m 5 a) (r := rn_ m a) (n := j) (hd.2.1 a (by omega) (by omega)).1 (rn_b m a).1 a_; have hc_ := lf_mc (n := j) hp hd (a := a) ⟨by omega, by omega⟩; omega
                  exact ⟨x26, rfl, congrArg (fun z_ : Int => some (Value.int (ei_ z_))) hx_, rR_sm (sm_tr g29 (sm_le g51 pGo_Sc)) hR⟩
              · exact False.elim (by omega)
              · exact False.elim (by omega)
            · exact False.elim (by omega)
            · exact False.elim (by omega)
          · refine pw_steps 2 (s' := (34, [some (.ref 0), some (.int (ei_ (a))), some (.int (ei_ (b)))], [.int (ei_ (1)), .int (ei_ (a)), .ref 0], m)) rfl ?_
            refine pw_call (As := [.int (ei_ (a)), .int (ei_ (1))]) (st := []) (k := 0) rfl rfl rfl rfl rfl (Nat.le_of_ble_eq_true rfl) ?_
            refine cw_firstDay (hp) (hz) ((sm_rfl m)) (hd.1) (hd.2.1) (by omega) (by omega) (fun x53 m154 g55 g56 g57 => ?_)
            refine pw_iret rfl rfl rfl ?_
            refine pw_intro (I := iX9_when) (T := tX9_when) rfl rfl rfl ?_
            refine pw_steps 3 (s' := (3, [some (.ref 47), some (.int (ei_ (a))), some (.int (ei_ (b)))], [.long ((ei_ (a)).toInt64), .ref 47], m154)) rfl ?_
            refine pw_cv (congrArg (fun z_ : Int64 => ((3, [some (.ref 47), some (.int (ei_ (a))), some (.int (ei_ (b)))], [.long z_, .ref 47], m154) : am_S)) (el_i2l q0 rfl)) ?_
            refine pw_call (As := [.long (el_ (a))]) (st := []) (k := 47) rfl rfl rfl rfl rfl (Nat.le_of_ble_eq_true rfl) ?_
            refine pw_intro (I := iX9_isOne) (T := tX9_isOne) rfl rfl rfl ?_
            refine pw_steps 3 (s' := (3, [some (.ref 47), some (.long (el_ (a))), none], [.ref 47, .long (el_ (0)), .long (el_ (a))], m154)) rfl ?_
            refine pw_get rfl rfl (fun x58 (hx58 : x58 = vi_ m154 47 6) rx58 sx58 => ?_)
            have ox58 := hx58
            replace hx58 : x58 = vi_ m 47 6 := hx58.trans (sm_v g56 rfl)
            refine pw_steps 3 (s' := (9, [some (.ref 47), some (.long (el_ (a))), none], [.long (((ei_ (x58)) - (ei_ (1))).toInt64), .long (el_ (0)), .long (el_ (a))], m154)) rfl ?_
            refine pw_cv (congrArg (fun z_ : Int64 => ((9, [some (.ref 47), some (.long (el_ (a))), none], [.long z_, .long (el_ (0)), .long (el_ (a))], m154) : am_S)) (el_i2l (by omega) (ei_sub rfl rfl))) ?_
            refine pw_callS (As := [.long (el_ (a)), .long (el_ (0)), .long (el_ ((x58 - 1)))]) (st := []) rfl (by decide) rfl rfl (Nat.le_of_ble_eq_true rfl) ?_
            refine mt_within (by omega) (by omega) (by omega) (fun g59 g60 => ?_) (fun g61 => ?_) (fun g62 => ?_)
            · refine pw_iret rfl rfl rfl ?_
              refine pw_ifF rfl (by decide) (show ¬ (1 = 0) by decide) ?_
              refine pw_steps 4 (s' := (13, [some (.ref 47), some (.int (ei_ (a))), some (.int (ei_ (b)))], [.long (el_ (1)), .long (el_ (0)), .long ((ei_ (b)).toInt64)], m154)) rfl ?_
              refine pw_cv (congrArg (fun z_ : Int64 => ((13, [some (.ref 47), some (.int (ei_ (a))), some (.int (ei_ (b)))], [.long (el_ (1)), .long (el_ (0)), .long z_], m154) : am_S)) (el_i2l q1 rfl)) ?_
              refine pw_callS (As := [.long (el_ (b)), .long (el_ (0)), .long (el_ (1))]) (st := []) rfl (by decide) rfl rfl (Nat.le_of_ble_eq_true rfl) ?_
              refine mt_within (by omega) (by omega) (by omega) (fun g63 g64 => ?_) (fun g65 => ?_) (fun g66 => ?_)
              · refine pw_ifT rfl (by decide) (show ¬ 1 = 0 by decide) ?_
                refine pw_steps 3 (s' := (24, [some (.ref 47), some (.int (ei_ (a))), some (.int (ei_ (b)))], [.int (ei_ (b)), .int (ei_ (a)), .ref 47], m154)) rfl ?_
                refine pw_ifT rfl q1 (show ¬ b = 0 by omega) ?_
                refine pw_steps 1 (s' := (40, [some (.ref 47), some (.int (ei_ (a))), some (.int (ei_ (b)))], [.int (ei_ (1)), .int (ei_ (a)), .ref 47], m154)) rfl ?_
                refine pw_call (As := [.int (ei_ (a)), .int (ei_ (1))]) (st := []) (k := 47) rfl rfl rfl rfl rfl (Nat.le_of_ble_eq_true rfl) ?_
                refine md_less (hp) (hmw) (g56) (hl) (hmf) (by omega) (by omega) (fun x67 m168 g69 g70 g71 => ?_)
                refine pw_iret rfl rfl rfl ?_
                have hx_ : (x67 : Int) = x53 := by refine fs_u g69 (fs_cg g55 (fun j a_ b_ => ?_)); have hb_ := lf_b (l := vi_ m 5 a) (r := rn_ m a) (n := j) (hd.2.1 a (by omega) (by omega)).1 (rn_b m a).1 a_; have hc_ := lf_mc (n := j) hp hd (a := a) ⟨by omega, by omega⟩; omega
                exact ⟨x53, rfl, congrArg (fun z_ : Int => some (Value.int (ei_ z_))) hx_, rR_sm (sm_tr g56 (sm_le g70 pGo_Sc)) hR⟩
              · exact False.elim (by omega)
              · exact False.elim (by omega)
            · exact False.elim (by omega)
            · exact False.elim (by omega)
        · refine pw_steps 1 (s' := (21, [some (.ref 0), some (.int (ei_ (a))), some (.int (ei_ (b)))], [.int (ei_ ((-1)))], m)) rfl ?_
          refine pw_iret rfl rfl rfl ?_
          refine pw_intro (I := iX9_when) (T := tX9_when) rfl rfl rfl ?_
          refine pw_steps 3 (s' := (3, [some (.ref 47), some (.int (ei_ (a))), some (.int (ei_ (b)))], [.long ((ei_ (a)).toInt64), .ref 47], m)) rfl ?_
          refine pw_cv (congrArg (fun z_ : Int64 => ((3, [some (.ref 47), some (.int (ei_ (a))), some (.int (ei_ (b)))], [.long z_, .ref 47], m) : am_S)) (el_i2l q0 rfl)) ?_
          refine pw_call (As := [.long (el_ (a))]) (st := []) (k := 47) rfl rfl rfl rfl rfl (Nat.le_of_ble_eq_true rfl) ?_
          refine pw_intro (I := iX9_isOne) (T := tX9_isOne) rfl rfl rfl ?_
          refine pw_steps 3 (s' := (3, [some (.ref 47), some (.long (el_ (a))), none], [.ref 47, .long (el_ (0)), .long (el_ (a))], m)) rfl ?_
          refine pw_get rfl rfl (fun x72 (hx72 : x72 = vi_ m 47 6) rx72 sx72 => ?_)
          refine pw_steps 3 (s' := (9, [some (.ref 47), some (.long (el_ (a))), none], [.long (((ei_ (x72)) - (ei_ (1))).toInt64), .long (el_ (0)), .long (el_ (a))], m)) rfl ?_
          refine pw_cv (congrArg (fun z_ : Int64 => ((9, [some (.ref 47), some (.long (el_ (a))), none], [.long z_, .long (el_ (0)), .long (el_ (a))], m) : am_S)) (el_i2l (by omega) (ei_sub rfl rfl))) ?_
          refine pw_callS (As := [.long (el_ (a)), .long (el_ (0)), .long (el_ ((x72 - 1)))]) (st := []) rfl (by decide) rfl rfl (Nat.le_of_ble_eq_true rfl) ?_
          refine mt_within (by omega) (by omega) (by omega) (fun g73 g74 => ?_) (fun g75 => ?_) (fun g76 => ?_)
          · refine pw_iret rfl rfl rfl ?_
            refine pw_ifF rfl (by decide) (show ¬ (1 = 0) by decide) ?_
            refine pw_steps 4 (s' := (13, [some (.ref 47), some (.int (ei_ (a))), some (.int (ei_ (b)))], [.long (el_ (1)), .long (el_ (0)), .long ((ei_ (b)).toInt64)], m)) rfl ?_
            refine pw_cv (congrArg (fun z_ : Int64 => ((13, [some (.ref 47), some (.int (ei_ (a))), some (.int (ei_ (b)))], [.long (el_ (1)), .long (el_ (0)), .long z_], m) : am_S)) (el_i2l q1 rfl)) ?_
            refine pw_callS (As := [.long (el_ (b)), .long (el_ (0)), .long (el_ (1))]) (st := []) rfl (by decide) rfl rfl (Nat.le_of_ble_eq_true rfl) ?_
            refine mt_within (by omega) (by omega) (by omega) (fun g77 g78 => ?_) (fun g79 => ?_) (fun g80 => ?_)
            · exact False.elim (by omega)
            · exact False.elim (by omega)
            · refine pw_ifF rfl (by decide) (show ¬ (¬ 0 = 0) by decide) ?_
              refine pw_steps 1 (s' := (20, [some (.ref 47), some (.int (ei_ (a))), some (.int (ei_ (b)))], [.int (ei_ ((-1)))], m)) rfl ?_
              refine pw_iret rfl rfl rfl ?_
              have hx_ : ((-1) : Int) = (-1) := by rfl
              exact ⟨(-1), rfl, congrArg (fun z_ : Int => some (Value.int (ei_ z_))) hx_, rR_sm (sm_rfl m) hR⟩
          · exact False.elim (by omega)
          · exact False.elim (by omega)


theorem mh_mc {m : am_M} (hp : rP_ m) (hd : rD_ m) {a : Int} (ha : 0 ≤ a ∧ a < vi_ m 1 1) : mh_ (vi_ m 52) a = mh_ (vi_ m 4) a := mh_cg ha.1 (fun j h1 h2 => (hd.2.2.1 j h1 (by omega)).1)
theorem mx_mc {m : am_M} (hp : rP_ m) (hd : rD_ m) : mx_ (mh_ (vi_ m 52)) (vi_ m 1 1).toNat = mx_ (mh_ (vi_ m 4)) (vi_ m 1 1).toNat := mx_cg _ (fun j h1 h2 => mh_mc hp hd ⟨h1, by have := hp.1; omega⟩)

set_option maxHeartbeats 4000000 in
set_option maxRecDepth 20000 in
theorem op_thaws {q : am_X} {d : Nat} {m : am_M} {a : Int} (q0 : -2147483648 ≤ a ∧ a < 2147483648) (hR : rR_ m) : pw_C q (d + 60) 85 [.ref 0, .int (ei_ (a))] m (fun r1 m1 => pw_C q (d + 60) 223 [.ref 47, .int (ei_ (a))] m1 (fun r2 m2 => ∃ x : Int, r1 = some (.int (ei_ x)) ∧ r2 = some (.int (ei_ x)) ∧ rR_ m2)) := by
  obtain ⟨hp, hd, hi, ht, hl, hz, hc, ha, hs⟩ := id hR
  obtain ⟨hP1, hP2, hP3, hP4⟩ := id hp
  have hmw := mW_of hp hd
  have hmf := mF_of hp hd
  refine pw_intro (I := iX8_thaws) (T := tX8_thaws) rfl rfl rfl ?_
  refine pw_steps 2 (s' := (2, [some (.ref 0), some (.int (ei_ (a)))], [.int (ei_ ((-1))), .int (ei_ (a))], m)) rfl ?_
  refine pw_cmp rfl q0 (by decide) (fun (h1 : ¬ a = (-1)) => ?_) (fun (h1 : ¬ ¬ a = (-1)) => ?_)
  · refine pw_steps 3 (s' := (15, [some (.ref 0), some (.int (ei_ (a)))], [.int (ei_ (a)), .ref 1], m)) rfl ?_
    refine pw_call (As := [.int (ei_ (a))]) (st := []) (k := 1) rfl rfl rfl rfl rfl (Nat.le_of_ble_eq_true rfl) ?_
    refine pw_intro (I := iX3_has) (T := tX3_has) rfl rfl rfl ?_
    refine pw_steps 1 (s' := (1, [some (.ref 1), some (.int (ei_ (a)))], [.int (ei_ (a))], m)) rfl ?_
    refine pw_if rfl q0 (fun (h2 : a < 0) => ?_) (fun (h2 : ¬ (a < 0)) => ?_)
    · refine pw_steps 1 (s' := (17, [some (.ref 1), some (.int (ei_ (a)))], [.int (ei_ (0))], m)) rfl ?_
      refine pw_iret rfl rfl rfl ?_
      refine pw_ifT rfl (by decide) (show 0 = 0 by decide) ?_
      refine pw_steps 1 (s' := (33, [some (.ref 0), some (.int (ei_ (a)))], [.int (ei_ ((-1)))], m)) rfl ?_
      refine pw_iret rfl rfl rfl ?_
      refine pw_intro (I := iX9_thaws) (T := tX9_thaws) rfl rfl rfl ?_
      refine pw_steps 2 (s' := (2, [some (.ref 47), some (.int (ei_ (a)))], [.int (ei_ ((-1))), .int (ei_ (a))], m)) rfl ?_
      refine pw_cmpT rfl q0 (by decide) (show ¬ a = (-1) by omega) ?_
      refine pw_steps 3 (s' := (15, [some (.ref 47), some (.int (ei_ (a)))], [.long ((ei_ (a)).toInt64), .ref 47], m)) rfl ?_
      refine pw_cv (congrArg (fun z_ : Int64 => ((15, [some (.ref 47), some (.int (ei_ (a)))], [.long z_, .ref 47], m) : am_S)) (el_i2l q0 rfl)) ?_
      refine pw_call (As := [.long (el_ (a))]) (st := []) (k := 47) rfl rfl rfl rfl rfl (Nat.le_of_ble_eq_true rfl) ?_
      refine pw_intro (I := iX9_isOne) (T := tX9_isOne) rfl rfl rfl ?_
      refine pw_steps 3 (s' := (3, [some (.ref 47), some (.long (el_ (a))), none], [.ref 47, .long (el_ (0)), .long (el_ (a))], m)) rfl ?_
      refine pw_get rfl rfl (fun x3 (hx3 : x3 = vi_ m 47 6) rx3 sx3 => ?_)
      refine pw_steps 3 (s' := (9, [some (.ref 47), some (.long (el_ (a))), none], [.long (((ei_ (x3)) - (ei_ (1))).toInt64), .long (el_ (0)), .long (el_ (a))], m)) rfl ?_
      refine pw_cv (congrArg (fun z_ : Int64 => ((9, [some (.ref 47), some (.long (el_ (a))), none], [.long z_, .long (el_ (0)), .long (el_ (a))], m) : am_S)) (el_i2l (by omega) (ei_sub rfl rfl))) ?_
      refine pw_callS (As := [.long (el_ (a)), .long (el_ (0)), .long (el_ ((x3 - 1)))]) (st := []) rfl (by decide) rfl rfl (Nat.le_of_ble_eq_true rfl) ?_
      refine mt_within (by omega) (by omega) (by omega) (fun g4 g5 => ?_) (fun g6 => ?_) (fun g7 => ?_)
      · exact False.elim (by omega)
      · refine pw_iret rfl rfl rfl ?_
        refine pw_ifT rfl (by decide) (show 0 = 0 by decide) ?_
        refine pw_steps 1 (s' := (30, [some (.ref 47), some (.int (ei_ (a)))], [.int (ei_ ((-1)))], m)) rfl ?_
        refine pw_iret rfl rfl rfl ?_
        have hx_ : ((-1) : Int) = (-1) := by rfl
        exact ⟨(-1), rfl, congrArg (fun z_ : Int => some (Value.int (ei_ z_))) hx_, rR_sm (sm_rfl m) hR⟩
      · exact False.elim (by omega)
    · refine pw_steps 2 (s' := (6, [some (.ref 1), some (.int (ei_ (a)))], [.ref 1, .int (ei_ (a))], m)) rfl ?_
      refine pw_get rfl rfl (fun x8 (hx8 : x8 = vi_ m 1 1) rx8 sx8 => ?_)
      refine pw_cmp rfl q0 ⟨rx8, sx8⟩ (fun (h9 : x8 ≤ a) => ?_) (fun (h9 : ¬ (x8 ≤ a)) => ?_)
      · refine pw_steps 1 (s' := (17, [some (.ref 1), some (.int (ei_ (a)))], [.int (ei_ (0))], m)) rfl ?_
        refine pw_iret rfl rfl rfl ?_
        refine pw_ifT rfl (by decide) (show 0 = 0 by decide) ?_
        refine pw_steps 1 (s' := (33, [some (.ref 0), some (.int (ei_ (a)))], [.int (ei_ ((-1)))], m)) rfl ?_
        refine pw_iret rfl rfl rfl ?_
        refine pw_intro (I := iX9_thaws) (T := tX9_thaws) rfl rfl rfl ?_
        refine pw_steps 2 (s' := (2, [some (.ref 47), some (.int (ei_ (a)))], [.int (ei_ ((-1))), .int (ei_ (a))], m)) rfl ?_
        refine pw_cmpT rfl q0 (by decide) (show ¬ a = (-1) by omega) ?_
        refine pw_steps 3 (s' := (15, [some (.ref 47), some (.int (ei_ (a)))], [.long ((ei_ (a)).toInt64), .ref 47], m)) rfl ?_
        refine pw_cv (congrArg (fun z_ : Int64 => ((15, [some (.ref 47), some (.int (ei_ (a)))], [.long z_, .ref 47], m) : am_S)) (el_i2l q0 rfl)) ?_
        refine pw_call (As := [.long (el_ (a))]) (st := []) (k := 47) rfl rfl rfl rfl rfl (Nat.le_of_ble_eq_true rfl) ?_
        refine pw_intro (I := iX9_isOne) (T := tX9_isOne) rfl rfl rfl ?_
        refine pw_steps 3 (s' := (3, [some (.ref 47), some (.long (el_ (a))), none], [.ref 47, .long (el_ (0)), .long (el_ (a))], m)) rfl ?_
        refine pw_get rfl rfl (fun x10 (hx10 : x10 = vi_ m 47 6) rx10 sx10 => ?_)
        refine pw_steps 3 (s' := (9, [some (.ref 47), some (.long (el_ (a))), none], [.long (((ei_ (x10)) - (ei_ (1))).toInt64), .long (el_ (0)), .long (el_ (a))], m)) rfl ?_
        refine pw_cv (congrArg (fun z_ : Int64 => ((9, [some (.ref 47), some (.long (el_ (a))), none], [.long z_, .long (el_ (0)), .long (el_ (a))], m) : am_S)) (el_i2l (by omega) (ei_sub rfl rfl))) ?_
        refine pw_callS (As := [.long (el_ (a)), .long (el_ (0)), .long (el_ ((x10 - 1)))]) (st := []) rfl (by decide) rfl rfl (Nat.le_of_ble_eq_true rfl) ?_
        refine mt_within (by omega) (by omega) (by omega) (fun g11 g12 => ?_) (fun g13 => ?_) (fun g14 => ?_)
        · exact False.elim (by omega)
        · exact False.elim (by omega)
        · refine pw_iret rfl rfl rfl ?_
          refine pw_ifT rfl (by decide) (show 0 = 0 by decide) ?_
          refine pw_steps 1 (s' := (30, [some (.ref 47), some (.int (ei_ (a)))], [.int (ei_ ((-1)))], m)) rfl ?_
          refine pw_iret rfl rfl rfl ?_
          have hx_ : ((-1) : Int) = (-1) := by rfl
          exact ⟨(-1), rfl, congrArg (fun z_ : Int => some (Value.int (ei_ z_))) hx_, rR_sm (sm_rfl m) hR⟩
      · refine pw_steps 2 (s' := (17, [some (.ref 1), some (.int (ei_ (a)))], [.int (ei_ (1))], m)) rfl ?_
        refine pw_iret rfl rfl rfl ?_
        refine pw_ifF rfl (by decide) (show ¬ (1 = 0) by decide) ?_
        refine pw_steps 3 (s' := (26, [some (.ref 0), some (.int (ei_ (a)))], [.int (ei_ (a)), .ref 3], m)) rfl ?_
        refine pw_call (As := [.int (ei_ (a))]) (st := []) (k := 3) rfl rfl rfl rfl rfl (Nat.le_of_ble_eq_true rfl) ?_
        refine cw_home ((sm_rfl m)) (by omega) (fun x15 g16 g17 => ?_)
        refine pw_steps 1 (s' := (33, [some (.ref 0), some (.int (ei_ (a)))], [.int (ei_ (x15))], m)) rfl ?_
        refine pw_iret rfl rfl rfl ?_
        refine pw_intro (I := iX9_thaws) (T := tX9_thaws) rfl rfl rfl ?_
        refine pw_steps 2 (s' := (2, [some (.ref 47), some (.int (ei_ (a)))], [.int (ei_ ((-1))), .int (ei_ (a))], m)) rfl ?_
        refine pw_cmpT rfl q0 (by decide) (show ¬ a = (-1) by omega) ?_
        refine pw_steps 3 (s' := (15, [some (.ref 47), some (.int (ei_ (a)))], [.long ((ei_ (a)).toInt64), .ref 47], m)) rfl ?_
        refine pw_cv (congrArg (fun z_ : Int64 => ((15, [some (.ref 47), some (.int (ei_ (a)))], [.long z_, .ref 47], m) : am_S)) (el_i2l q0 rfl)) ?_
        refine pw_call (As := [.long (el_ (a))]) (st := []) (k := 47) rfl rfl rfl rfl rfl (Nat.le_of_ble_eq_true rfl) ?_
        refine pw_intro (I := iX9_isOne) (T := tX9_isOne) rfl rfl rfl ?_
        refine pw_steps 3 (s' := (3, [some (.ref 47), some (.long (el_ (a))), none], [.ref 47, .long (el_ (0)), .long (el_ (a))], m)) rfl ?_
        refine pw_get rfl rfl (fun x18 (hx18 : x18 = vi_ m 47 6) rx18 sx18 => ?_)
        refine pw_steps 3 (s' := (9, [some (.ref 47), some (.long (el_ (a))), none], [.long (((ei_ (x18)) - (ei_ (1))).toInt64), .long (el_ (0)), .long (el_ (a))], m)) rfl ?_
        refine pw_cv (congrArg (fun z_ : Int64 => ((9, [some (.ref 47), some (.long (el_ (a))), none], [.long z_, .long (el_ (0)), .long (el_ (a))], m) : am_S)) (el_i2l (by omega) (ei_sub rfl rfl))) ?_
        refine pw_callS (As := [.long (el_ (a)), .long (el_ (0)), .long (el_ ((x18 - 1)))]) (st := []) rfl (by decide) rfl rfl (Nat.le_of_ble_eq_true rfl) ?_
        refine mt_within (by omega) (by omega) (by omega) (fun g19 g20 => ?_) (fun g21 => ?_) (fun g22 => ?_)
        · refine pw_iret rfl rfl rfl ?_
          refine pw_ifF rfl (by decide) (show ¬ (1 = 0) by decide) ?_
          refine pw_steps 2 (s' := (23, [some (.ref 47), some (.int (ei_ (a)))], [.int (ei_ (a)), .ref 47], m)) rfl ?_
          refine pw_call (As := [.int (ei_ (a))]) (st := []) (k := 47) rfl rfl rfl rfl rfl (Nat.le_of_ble_eq_true rfl) ?_
          refine mw_home ((sm_rfl m)) (by omega) (fun x23 g24 g25 => ?_)
          refine pw_steps 1 (s' := (30, [some (.ref 47), some (.int (ei_ (a)))], [.int (ei_ (x23))], m)) rfl ?_
          refine pw_iret rfl rfl rfl ?_
          have hx_ : (x23 : Int) = x15 := by rw [g24, g16]; first | exact mx_mc hp hd | exact mh_mc hp hd ⟨by omega, by omega⟩
          exact ⟨x15, rfl, congrArg (fun z_ : Int => some (Value.int (ei_ z_))) hx_, rR_sm (sm_rfl m) hR⟩
        · exact False.elim (by omega)
        · exact False.elim (by omega)
  · refine pw_steps 1 (s' := (6, [some (.ref 0), some (.int (ei_ (a)))], [.ref 0], m)) rfl ?_
    refine pw_call (As := []) (st := []) (k := 0) rfl rfl rfl rfl rfl (Nat.le_of_ble_eq_true rfl) ?_
    refine cw_minutes (hp) ((sm_rfl m)) (fun x26 g27 g28 => ?_)
    refine pw_iret rfl rfl rfl ?_
    refine pw_intro (I := iX9_thaws) (T := tX9_thaws) rfl rfl rfl ?_
    refine pw_steps 2 (s' := (2, [some (.ref 47), some (.int (ei_ (a)))], [.int (ei_ ((-1))), .int (ei_ (a))], m)) rfl ?_
    refine pw_cmpF rfl q0 (by decide) (show ¬ (¬ a = (-1)) by omega) ?_
    refine pw_steps 1 (s' := (6, [some (.ref 47), some (.int (ei_ (a)))], [.ref 47], m)) rfl ?_
    refine pw_call (As := []) (st := []) (k := 47) rfl rfl rfl rfl rfl (Nat.le_of_ble_eq_true rfl) ?_
    refine mw_minutes (hp) ((sm_rfl m)) (fun x29 g30 g31 => ?_)
    refine pw_steps 1 (s' := (30, [some (.ref 47), some (.int (ei_ (a)))], [.int (ei_ (x29))], m)) rfl ?_
    refine pw_iret rfl rfl rfl ?_
    have hx_ : (x29 : Int) = x26 := by rw [g30, g27]; first | exact mx_mc hp hd | exact mh_mc hp hd ⟨by omega, by omega⟩
    exact ⟨x26, rfl, congrArg (fun z_ : Int => some (Value.int (ei_ z_))) hx_, rR_sm (sm_rfl m) hR⟩

