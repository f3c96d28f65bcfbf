
/-! ===== person ===== -/
def aC_ (m : am_M) (x s o c : Int) : am_M := wi_ (wi_ (wi_ (wi_ m 1 1 (x + 1)) 2 x s) 2 (8 + x) o) 2 (16 + x) c
def aM_ (m : am_M) (x s o c : Int) : am_M := wi_ (wi_ (wi_ (wi_ (wi_ (wi_ (wi_ m 48 x s) 48 (8 + x) o) 48 (16 + x) c) 48 (24 + x) 0) 52 x x) 53 x 100) 47 6 (x + 1)
def pAdd (k j : Nat) : Bool := (k == 1 && j == 1) || k == 2 || k == 48 || k == 52 || k == 53 || (k == 47 && j == 6)
theorem sm_add {m : am_M} {x s o c : Int} : sm_ pAdd m (aM_ (aC_ m x s o c) x s o c) :=
  sm_w (sm_w (sm_w (sm_w (sm_w (sm_w (sm_w (sm_w (sm_w (sm_w (sm_w (sm_rfl m) (fun _ h => by rw [h]; rfl)) (fun _ _ => rfl)) (fun _ _ => rfl)) (fun _ _ => rfl)) (fun _ _ => rfl)) (fun _ _ => rfl)) (fun _ _ => rfl)) (fun _ _ => rfl)) (fun _ _ => rfl)) (fun _ _ => rfl)) (fun _ h => by rw [h]; rfl)
theorem rR_add {m : am_M} {x s o c : Int} (hR : rR_ m) (hx : x = vi_ m 1 1) (h8 : x < 8) (hs : 1 ≤ s ∧ s ≤ 9) (ho : 0 ≤ o ∧ o ≤ 9) (hc : 1 ≤ c ∧ c ≤ 9) : rR_ (aM_ (aC_ m x s o c) x s o c) := by
  obtain ⟨hp, hd, hi, ht, hl, hz, hcc, ha, hS⟩ := hR
  obtain ⟨p1, p2, p3, p4⟩ := id hp
  obtain ⟨d1, d2, d3, d4⟩ := id hd
  have h := sm_add (m := m) (x := x) (s := s) (o := o) (c := c)
  have hx0 : 0 ≤ x := by omega
  have e1 : vi_ (aM_ (aC_ m x s o c) x s o c) 1 1 = x + 1 := by
    simp (disch := omega) only [aM_, aC_, vi_up, vi_ne, if_true]
  have e47 : vi_ (aM_ (aC_ m x s o c) x s o c) 47 6 = x + 1 := vi_eq (by omega)
  have e2 : ∀ j, 0 ≤ j → vi_ (aM_ (aC_ m x s o c) x s o c) 2 j = if j = 16 + x then c else if j = 8 + x then o else if j = x then s else vi_ m 2 j := by
    intro j a
    simp (disch := omega) only [aM_, aC_, vi_up, vi_ne]
  have e48 : ∀ j, 0 ≤ j → vi_ (aM_ (aC_ m x s o c) x s o c) 48 j = if j = 24 + x then 0 else if j = 16 + x then c else if j = 8 + x then o else if j = x then s else vi_ m 48 j := by
    intro j a
    simp (disch := omega) only [aM_, aC_, vi_up, vi_ne]
  have e52 : ∀ j, 0 ≤ j → vi_ (aM_ (aC_ m x s o c) x s o c) 52 j = if j = x then x else vi_ m 52 j := by
    intro j a
    simp (disch := omega) only [aM_, aC_, vi_up, vi_ne]
  have e53 : ∀ j, 0 ≤ j → vi_ (aM_ (aC_ m x s o c) x s o c) 53 j = if j = x then 100 else vi_ m 53 j := by
    intro j a
    simp (disch := omega) only [aM_, aC_, vi_up, vi_ne]
  have g4 := sm_f h (k := 4) (fun _ => rfl)
  have g5 := sm_f h (k := 5) (fun _ => rfl)
  refine ⟨⟨by rw [e1]; omega, by rw [e1, e47], fun j a b => ?_, fun j a b => ?_⟩, ⟨fun j a b => ?_, fun j a b => ?_, fun j a b => ?_, ?_⟩, ?_, rT_fr h rfl rfl (fun _ => rfl) (fun _ => rfl) ht, rL_fr h rfl rfl (fun _ => rfl) (fun _ => rfl) hl, rZ_fr h rfl hz, ?_, rA_fr h rfl rfl (fun _ => rfl) (fun _ => rfl) rfl rfl (fun _ => rfl) (fun _ => rfl) ha, rS_fr h (fun _ => rfl) (fun _ => rfl) rfl (fun d_ a_ b_ => by rcases sf_six ⟨a_, b_⟩ with h_ | h_ | h_ | h_ | h_ | h_ <;> subst h_ <;> exact ⟨rfl, rfl, rfl⟩) hS⟩
  · rw [e2 j a, e48 j a]
    have t := p3 j a b
    have t2 : j = 24 + x → vi_ m 2 j = 0 := fun e => by rw [e]; exact p4 x (by omega) (by omega)
    by_cases c1 : j = 24 + x
    · rw [if_neg (by omega), if_neg (by omega), if_neg (by omega), if_pos c1, t2 c1]; omega
    · rw [if_neg c1]
      by_cases c2 : j = 16 + x
      · rw [if_pos c2, if_pos c2]; omega
      · rw [if_neg c2, if_neg c2]
        by_cases c3 : j = 8 + x
        · rw [if_pos c3, if_pos c3]; omega
        · rw [if_neg c3, if_neg c3]
          by_cases c4 : j = x
          · rw [if_pos c4, if_pos c4]; omega
          · rw [if_neg c4, if_neg c4]; exact t
  · rw [e1] at a
    rw [e2 _ (by omega), if_neg (by omega), if_neg (by omega), if_neg (by omega)]
    exact p4 j (by omega) b
  · rw [g4, e1]; have t := d1 j a b; omega
  · rw [g5, e1]; have t := d2 j a b; omega
  · rw [e1] at b
    rw [g4, g5, e52 j a, e53 j a]
    by_cases cc : j = x
    · rw [if_pos cc, if_pos cc]
      have t := d1 j a (by omega); have t2 := d2 j a (by omega)
      omega
    · rw [if_neg cc, if_neg cc]; exact d3 j a (by omega)
  · rw [sm_f h (k := 61) (fun _ => rfl), sm_f h (k := 6) (fun _ => rfl), sm_v h (k := 47) (j := 26) rfl, sm_v h (k := 47) (j := 27) rfl, sm_v h (k := 47) (j := 28) rfl, sm_f h (k := 3) (fun _ => rfl)]
    exact d4
  · unfold rI_ at hi ⊢
    rw [e1, sm_v h (k := 47) (j := 29) rfl, sm_v h (k := 47) (j := 30) rfl, sm_f h (k := 0) (fun _ => rfl), sm_f h (k := 8) (fun _ => rfl), sm_f h (k := 9) (fun _ => rfl), sm_f h (k := 10) (fun _ => rfl), sm_f h (k := 7) (fun _ => rfl), sm_f h (k := 62) (fun _ => rfl), sm_f h (k := 63) (fun _ => rfl), sm_f h (k := 64) (fun _ => rfl), sm_f h (k := 65) (fun _ => rfl)]
    refine ⟨hi.1, hi.2.1, fun g => ?_⟩
    obtain ⟨i1, i2⟩ := hi.2.2 g
    exact ⟨⟨i1.1, by omega⟩, i2⟩
  · unfold rC_ at hcc ⊢
    rw [e1, sm_v h (k := 47) (j := 5) rfl, sm_v h (k := 47) (j := 4) rfl, sm_f h (k := 24) (fun _ => rfl), sm_f h (k := 25) (fun _ => rfl), sm_f h (k := 26) (fun _ => rfl), sm_f h (k := 27) (fun _ => rfl), sm_f h (k := 28) (fun _ => rfl), sm_f h (k := 49) (fun _ => rfl), sm_f h (k := 50) (fun _ => rfl), sm_f h (k := 51) (fun _ => rfl)]
    refine ⟨hcc.1, hcc.2.1, hcc.2.2.1, fun j a b => ?_⟩
    have t := hcc.2.2.2 j a b
    omega

set_option maxHeartbeats 4000000 in
set_option maxRecDepth 20000 in
theorem op_person {q : am_X} {d : Nat} {m : am_M} {a : Int} {b : Int} (q0 : -2147483648 ≤ a ∧ a < 2147483648) (q1 : -2147483648 ≤ b ∧ b < 2147483648) (hR : rR_ m) : pw_C q (d + 60) 0 [.ref 0, .int (ei_ (a)), .int (ei_ (b))] m (fun r1 m1 => pw_C q (d + 60) 175 [.ref 47, .int (ei_ (a)), .int (ei_ (b))] m1 (fun r2 m2 => ∃ x : Int, r1 = some (.int (ei_ x)) ∧ r2 = some (.int (ei_ x)) ∧ rR_ m2)) := by
  obtain ⟨hp, hd, hi, ht, hl, hz, hc, ha, hs⟩ := id hR
  obtain ⟨hP1, hP2, hP3, hP4⟩ := id hp
  have hmw := mW_of hp hd
  have hmf := mF_of hp hd
  refine pw_intro (I := iX8_person) (T := tX8_person) rfl rfl rfl ?_
  refine pw_steps 2 (s' := (2, [some (.ref 0), some (.int (ei_ (a))), some (.int (ei_ (b)))], [.int (ei_ (a)), .int (ei_ (0))], m)) rfl ?_
  refine pw_callS (As := [.int (ei_ (0)), .int (ei_ (a))]) (st := []) rfl (by decide) rfl rfl (Nat.le_of_ble_eq_true rfl) ?_
  refine pw_intro (I := iX3_fits) (T := tX3_fits) rfl rfl rfl ?_
  refine pw_steps 1 (s' := (1, [some (.int (ei_ (0))), some (.int (ei_ (a)))], [.int (ei_ (0))], m)) rfl ?_
  refine pw_ifF rfl (by decide) (show ¬ (0 < 0) by decide) ?_
  refine pw_steps 3 (s' := (9, [some (.int (ei_ (0))), some (.int (ei_ (a)))], [.int (ei_ (6)), .int (ei_ (0))], m)) rfl ?_
  refine pw_cmpF rfl (by decide) (by decide) (show ¬ (6 ≤ 0) by decide) ?_
  refine pw_steps 3 (s' := (17, [some (.int (ei_ (0))), some (.int (ei_ (a)))], [.int (ei_ (0)), .ref 1001, .int (ei_ (a))], m)) rfl ?_
  refine pw_ildE (x := 1) rfl rfl (by decide) (by decide) ?_
  refine pw_cmp rfl q0 (by decide) (fun (h1 : a < 1) => ?_) (fun (h1 : ¬ (a < 1)) => ?_)
  · refine pw_steps 1 (s' := (35, [some (.int (ei_ (0))), some (.int (ei_ (a)))], [.int (ei_ (0))], m)) rfl ?_
    refine pw_iret rfl rfl rfl ?_
    refine pw_ifT rfl (by decide) (show 0 = 0 by decide) ?_
    refine pw_steps 1 (s' := (17, [some (.ref 0), some (.int (ei_ (a))), some (.int (ei_ (b)))], [.int (ei_ ((-1)))], m)) rfl ?_
    refine pw_iret rfl rfl rfl ?_
    refine pw_intro (I := iX9_person) (T := tX9_person) rfl rfl rfl ?_
    refine pw_steps 5 (s' := (7, [some (.ref 47), some (.int (ei_ (a))), some (.int (ei_ (b)))], [.long (el_ (4)), .long ((ei_ (b)).toInt64), .long ((ei_ (a)).toInt64)], m)) rfl ?_
    refine pw_cv (congrArg (fun z_ : Int64 => ((7, [some (.ref 47), some (.int (ei_ (a))), some (.int (ei_ (b)))], [.long (el_ (4)), .long z_, .long ((ei_ (a)).toInt64)], m) : am_S)) (el_i2l q1 rfl)) ?_
    refine pw_cv (congrArg (fun z_ : Int64 => ((7, [some (.ref 47), some (.int (ei_ (a))), some (.int (ei_ (b)))], [.long (el_ (4)), .long (el_ (b)), .long z_], m) : am_S)) (el_i2l q0 rfl)) ?_
    refine pw_callS (As := [.long (el_ (a)), .long (el_ (b)), .long (el_ (4))]) (st := []) rfl (by decide) rfl rfl (Nat.le_of_ble_eq_true rfl) ?_
    refine pw_intro (I := iX9_mayCome) (T := tX9_mayCome) rfl rfl rfl ?_
    refine pw_steps 3 (s' := (5, [some (.long (el_ (a))), none, some (.long (el_ (b))), none, some (.long (el_ (4))), none], [.long (el_ (9)), .long (el_ (1)), .long (el_ (a))], m)) rfl ?_
    refine pw_callS (As := [.long (el_ (a)), .long (el_ (1)), .long (el_ (9))]) (st := []) rfl (by decide) rfl rfl (Nat.le_of_ble_eq_true rfl) ?_
    refine mt_within (by omega) (by omega) (by omega) (fun g2 g3 => ?_) (fun g4 => ?_) (fun g5 => ?_)
    · exact False.elim (by omega)
    · refine pw_ifT rfl (by decide) (show 0 = 0 by decide) ?_
      refine pw_steps 1 (s' := (39, [some (.long (el_ (a))), none, some (.long (el_ (b))), none, some (.long (el_ (4))), none], [.int (ei_ (0))], m)) rfl ?_
      refine pw_iret rfl rfl rfl ?_
      refine pw_ifF rfl (by decide) (show ¬ (¬ 0 = 0) by decide) ?_
      refine pw_steps 1 (s' := (14, [some (.ref 47), some (.int (ei_ (a))), some (.int (ei_ (b)))], [.int (ei_ ((-1)))], m)) rfl ?_
      refine pw_iret rfl rfl rfl ?_
      exact ⟨(-1), rfl, rfl, hR⟩
    · exact False.elim (by omega)
  · refine pw_steps 3 (s' := (26, [some (.int (ei_ (0))), some (.int (ei_ (a)))], [.int (ei_ (0)), .ref 1002, .int (ei_ (a))], m)) rfl ?_
    refine pw_ildE (x := 9) rfl rfl (by decide) (by decide) ?_
    refine pw_cmp rfl q0 (by decide) (fun (h6 : 9 < a) => ?_) (fun (h6 : ¬ (9 < a)) => ?_)
    · refine pw_steps 1 (s' := (35, [some (.int (ei_ (0))), some (.int (ei_ (a)))], [.int (ei_ (0))], m)) rfl ?_
      refine pw_iret rfl rfl rfl ?_
      refine pw_ifT rfl (by decide) (show 0 = 0 by decide) ?_
      refine pw_steps 1 (s' := (17, [some (.ref 0), some (.int (ei_ (a))), some (.int (ei_ (b)))], [.int (ei_ ((-1)))], m)) rfl ?_
      refine pw_iret rfl rfl rfl ?_
      refine pw_intro (I := iX9_person) (T := tX9_person) rfl rfl rfl ?_
      refine pw_steps 5 (s' := (7, [some (.ref 47), some (.int (ei_ (a))), some (.int (ei_ (b)))], [.long (el_ (4)), .long ((ei_ (b)).toInt64), .long ((ei_ (a)).toInt64)], m)) rfl ?_
      refine pw_cv (congrArg (fun z_ : Int64 => ((7, [some (.ref 47), some (.int (ei_ (a))), some (.int (ei_ (b)))], [.long (el_ (4)), .long z_, .long ((ei_ (a)).toInt64)], m) : am_S)) (el_i2l q1 rfl)) ?_
      refine pw_cv (congrArg (fun z_ : Int64 => ((7, [some (.ref 47), some (.int (ei_ (a))), some (.int (ei_ (b)))], [.long (el_ (4)), .long (el_ (b)), .long z_], m) : am_S)) (el_i2l q0 rfl)) ?_
      refine pw_callS (As := [.long (el_ (a)), .long (el_ (b)), .long (el_ (4))]) (st := []) rfl (by decide) rfl rfl (Nat.le_of_ble_eq_true rfl) ?_
      refine pw_intro (I := iX9_mayCome) (T := tX9_mayCome) rfl rfl rfl ?_
      refine pw_steps 3 (s' := (5, [some (.long (el_ (a))), none, some (.long (el_ (b))), none, some (.long (el_ (4))), none], [.long (el_ (9)), .long (el_ (1)), .long (el_ (a))], m)) rfl ?_
      refine pw_callS (As := [.long (el_ (a)), .long (el_ (1)), .long (el_ (9))]) (st := []) rfl (by decide) rfl rfl (Nat.le_of_ble_eq_true rfl) ?_
      refine mt_within (by omega) (by omega) (by omega) (fun g7 g8 => ?_) (fun g9 => ?_) (fun g10 => ?_)
      · exact False.elim (by omega)
      · exact False.elim (by omega)
      · refine pw_ifT rfl (by decide) (show 0 = 0 by decide) ?_
        refine pw_steps 1 (s' := (39, [some (.long (el_ (a))), none, some (.long (el_ (b))), none, some (.long (el_ (4))), none], [.int (ei_ (0))], m)) rfl ?_
        refine pw_iret rfl rfl rfl ?_
        refine pw_ifF rfl (by decide) (show ¬ (¬ 0 = 0) by decide) ?_
        refine pw_steps 1 (s' := (14, [some (.ref 47), some (.int (ei_ (a))), some (.int (ei_ (b)))], [.int (ei_ ((-1)))], m)) rfl ?_
        refine pw_iret rfl rfl rfl ?_
        exact ⟨(-1), rfl, rfl, hR⟩
    · refine pw_steps 2 (s' := (35, [some (.int (ei_ (0))), some (.int (ei_ (a)))], [.int (ei_ (1))], m)) rfl ?_
      refine pw_iret rfl rfl rfl ?_
      refine pw_ifF rfl (by decide) (show ¬ (1 = 0) by decide) ?_
      refine pw_steps 2 (s' := (10, [some (.ref 0), some (.int (ei_ (a))), some (.int (ei_ (b)))], [.int (ei_ (b)), .int (ei_ (1))], m)) rfl ?_
      refine pw_callS (As := [.int (ei_ (1)), .int (ei_ (b))]) (st := []) rfl (by decide) rfl rfl (Nat.le_of_ble_eq_true rfl) ?_
      refine pw_intro (I := iX3_fits) (T := tX3_fits) rfl rfl rfl ?_
      refine pw_steps 1 (s' := (1, [some (.int (ei_ (1))), some (.int (ei_ (b)))], [.int (ei_ (1))], m)) rfl ?_
      refine pw_ifF rfl (by decide) (show ¬ (1 < 0) by decide) ?_
      refine pw_steps 3 (s' := (9, [some (.int (ei_ (1))), some (.int (ei_ (b)))], [.int (ei_ (6)), .int (ei_ (1))], m)) rfl ?_
      refine pw_cmpF rfl (by decide) (by decide) (show ¬ (6 ≤ 1) by decide) ?_
      refine pw_steps 3 (s' := (17, [some (.int (ei_ (1))), some (.int (ei_ (b)))], [.int (ei_ (1)), .ref 1001, .int (ei_ (b))], m)) rfl ?_
      refine pw_ildE (x := 0) rfl rfl (by decide) (by decide) ?_
      refine pw_cmp rfl q1 (by decide) (fun (h11 : b < 0) => ?_) (fun (h11 : ¬ (b < 0)) => ?_)
      · refine pw_steps 1 (s' := (35, [some (.int (ei_ (1))), some (.int (ei_ (b)))], [.int (ei_ (0))], m)) rfl ?_
        refine pw_iret rfl rfl rfl ?_
        refine pw_ifF rfl (by decide) (show ¬ (¬ 0 = 0) by decide) ?_
        refine pw_steps 1 (s' := (17, [some (.ref 0), some (.int (ei_ (a))), some (.int (ei_ (b)))], [.int (ei_ ((-1)))], m)) rfl ?_
        refine pw_iret rfl rfl rfl ?_
        refine pw_intro (I := iX9_person) (T := tX9_person) rfl rfl rfl ?_
        refine pw_steps 5 (s' := (7, [some (.ref 47), some (.int (ei_ (a))), some (.int (ei_ (b)))], [.long (el_ (4)), .long ((ei_ (b)).toInt64), .long ((ei_ (a)).toInt64)], m)) rfl ?_
        refine pw_cv (congrArg (fun z_ : Int64 => ((7, [some (.ref 47), some (.int (ei_ (a))), some (.int (ei_ (b)))], [.long (el_ (4)), .long z_, .long ((ei_ (a)).toInt64)], m) : am_S)) (el_i2l q1 rfl)) ?_
        refine pw_cv (congrArg (fun z_ : Int64 => ((7, [some (.ref 47), some (.int (ei_ (a))), some (.int (ei_ (b)))], [.long (el_ (4)), .long (el_ (b)), .long z_], m) : am_S)) (el_i2l q0 rfl)) ?_
        refine pw_callS (As := [.long (el_ (a)), .long (el_ (b)), .long (el_ (4))]) (st := []) rfl (by decide) rfl rfl (Nat.le_of_ble_eq_true rfl) ?_
        refine pw_intro (I := iX9_mayCome) (T := tX9_mayCome) rfl rfl rfl ?_
        refine pw_steps 3 (s' := (5, [some (.long (el_ (a))), none, some (.long (el_ (b))), none, some (.long (el_ (4))), none], [.long (el_ (9)), .long (el_ (1)), .long (el_ (a))], m)) rfl ?_
        refine pw_callS (As := [.long (el_ (a)), .long (el_ (1)), .long (el_ (9))]) (st := []) rfl (by decide) rfl rfl (Nat.le_of_ble_eq_true rfl) ?_
        refine mt_within (by omega) (by omega) (by omega) (fun g12 g13 => ?_) (fun g14 => ?_) (fun g15 => ?_)
        · refine pw_ifF rfl (by decide) (show ¬ (1 = 0) by decide) ?_
          refine pw_steps 3 (s' := (16, [some (.long (el_ (a))), none, some (.long (el_ (b))), none, some (.long (el_ (4))), none], [.long (el_ (9)), .long (el_ (0)), .long (el_ (b))], m)) rfl ?_
          refine pw_callS (As := [.long (el_ (b)), .long (el_ (0)), .long (el_ (9))]) (st := []) rfl (by decide) rfl rfl (Nat.le_of_ble_eq_true rfl) ?_
          refine mt_within (by omega) (by omega) (by omega) (fun g16 g17 => ?_) (fun g18 => ?_) (fun g19 => ?_)
          · exact False.elim (by omega)
          · refine pw_ifT rfl (by decide) (show 0 = 0 by decide) ?_
            refine pw_steps 1 (s' := (39, [some (.long (el_ (a))), none, some (.long (el_ (b))), none, some (.long (el_ (4))), none], [.int (ei_ (0))], m)) rfl ?_
            refine pw_iret rfl rfl rfl ?_
            refine pw_ifF rfl (by decide) (show ¬ (¬ 0 = 0) by decide) ?_
            refine pw_steps 1 (s' := (14, [some (.ref 47), some (.int (ei_ (a))), some (.int (ei_ (b)))], [.int (ei_ ((-1)))], m)) rfl ?_
            refine pw_iret rfl rfl rfl ?_
            exact ⟨(-1), rfl, rfl, hR⟩
          · exact False.elim (by omega)
        · exact False.elim (by omega)
        · exact False.elim (by omega)
      · refine pw_steps 3 (s' := (26, [some (.int (ei_ (1))), some (.int (ei_ (b)))], [.int (ei_ (1)), .ref 1002, .int (ei_ (b))], m)) rfl ?_
        refine pw_ildE (x := 9) rfl rfl (by decide) (by decide) ?_
        refine pw_cmp rfl q1 (by decide) (fun (h20 : 9 < b) => ?_) (fun (h20 : ¬ (9 < b)) => ?_)
        · refine pw_steps 1 (s' := (35, [some (.int (ei_ (1))), some (.int (ei_ (b)))], [.int (ei_ (0))], m)) rfl ?_
          refine pw_iret rfl rfl rfl ?_
          refine pw_ifF rfl (by decide) (show ¬ (¬ 0 = 0) by decide) ?_
          refine pw_steps 1 (s' := (17, [some (.ref 0), some (.int (ei_ (a))), some (.int (ei_ (b)))], [.int (ei_ ((-1)))], m)) rfl ?_
          refine pw_iret rfl rfl rfl ?_
          refine pw_intro (I := iX9_person) (T := tX9_person) rfl rfl rfl ?_
          refine pw_steps 5 (s' := (7, [some (.ref 47), some (.int (ei_ (a))), some (.int (ei_ (b)))], [.long (el_ (4)), .long ((ei_ (b)).toInt64), .long ((ei_ (a)).toInt64)], m)) rfl ?_
          refine pw_cv (congrArg (fun z_ : Int64 => ((7, [some (.ref 47), some (.int (ei_ (a))), some (.int (ei_ (b)))], [.long (el_ (4)), .long z_, .long ((ei_ (a)).toInt64)], m) : am_S)) (el_i2l q1 rfl)) ?_
          refine pw_cv (congrArg (fun z_ : Int64 => ((7, [some (.ref 47), some (.int (ei_ (a))), some (.int (ei_ (b)))], [.long (el_ (4)), .long (el_ (b)), .long z_], m) : am_S)) (el_i2l q0 rfl)) ?_
          refine pw_callS (As := [.long (el_ (a)), .long (el_ (b)), .long (el_ (4))]) (st := []) rfl (by decide) rfl rfl (Nat.le_of_ble_eq_true rfl) ?_
          refine pw_intro (I := iX9_mayCome) (T := tX9_mayCome) rfl rfl rfl ?_
          refine pw_steps 3 (s' := (5, [some (.long (el_ (a))), none, some (.long (el_ (b))), none, some (.long (el_ (4))), none], [.long (el_ (9)), .long (el_ (1)), .long (el_ (a))], m)) rfl ?_
          refine pw_callS (As := [.long (el_ (a)), .long (el_ (1)), .long (el_ (9))]) (st := []) rfl (by decide) rfl rfl (Nat.le_of_ble_eq_true rfl) ?_
          refine mt_within (by omega) (by omega) (by omega) (fun g21 g22 => ?_) (fun g23 => ?_) (fun g24 => ?_)
          · refine pw_ifF rfl (by decide) (show ¬ (1 = 0) by decide) ?_
            refine pw_steps 3 (s' := (16, [some (.long (el_ (a))), none, some (.long (el_ (b))), none, some (.long (el_ (4))), none], [.long (el_ (9)), .long (el_ (0)), .long (el_ (b))], m)) rfl ?_
            refine pw_callS (As := [.long (el_ (b)), .long (el_ (0)), .long (el_ (9))]) (st := []) rfl (by decide) rfl rfl (Nat.le_of_ble_eq_true rfl) ?_
            refine mt_within (by omega) (by omega) (by omega) (fun g25 g26 => ?_) (fun g27 => ?_) (fun g28 => ?_)
            · exact False.elim (by omega)
            · exact False.elim (by omega)
            · refine pw_ifT rfl (by decide) (show 0 = 0 by decide) ?_
              refine pw_steps 1 (s' := (39, [some (.long (el_ (a))), none, some (.long (el_ (b))), none, some (.long (el_ (4))), none], [.int (ei_ (0))], m)) rfl ?_
              refine pw_iret rfl rfl rfl ?_
              refine pw_ifF rfl (by decide) (show ¬ (¬ 0 = 0) by decide) ?_
              refine pw_steps 1 (s' := (14, [some (.ref 47), some (.int (ei_ (a))), some (.int (ei_ (b)))], [.int (ei_ ((-1)))], m)) rfl ?_
              refine pw_iret rfl rfl rfl ?_
              exact ⟨(-1), rfl, rfl, hR⟩
          · exact False.elim (by omega)
          · exact False.elim (by omega)
        · refine pw_steps 2 (s' := (35, [some (.int (ei_ (1))), some (.int (ei_ (b)))], [.int (ei_ (1))], m)) rfl ?_
          refine pw_iret rfl rfl rfl ?_
          refine pw_ifT rfl (by decide) (show ¬ 1 = 0 by decide) ?_
          refine pw_steps 2 (s' := (22, [some (.ref 0), some (.int (ei_ (a))), some (.int (ei_ (b)))], [.ref 1], m)) rfl ?_
          refine pw_call (As := []) (st := []) (k := 1) rfl rfl rfl rfl rfl (Nat.le_of_ble_eq_true rfl) ?_
          refine pw_intro (I := iX3_isFull) (T := tX3_isFull) rfl rfl rfl ?_
          refine pw_steps 1 (s' := (1, [some (.ref 1)], [.ref 1], m)) rfl ?_
          refine pw_get rfl rfl (fun x29 (hx29 : x29 = vi_ m 1 1) rx29 sx29 => ?_)
          refine pw_steps 1 (s' := (6, [some (.ref 1)], [.int (ei_ (8)), .int (ei_ (x29))], m)) rfl ?_
          refine pw_cmp rfl ⟨rx29, sx29⟩ (by decide) (fun (h30 : x29 < 8) => ?_) (fun (h30 : ¬ (x29 < 8)) => ?_)
          · refine pw_steps 1 (s' := (14, [some (.ref 1)], [.int (ei_ (0))], m)) rfl ?_
            refine pw_iret rfl rfl rfl ?_
            refine pw_ifT rfl (by decide) (show 0 = 0 by decide) ?_
            refine pw_steps 5 (s' := (40, [some (.ref 0), some (.int (ei_ (a))), some (.int (ei_ (b)))], [.int (ei_ (4)), .int (ei_ (b)), .int (ei_ (a)), .ref 1], m)) rfl ?_
            refine pw_call (As := [.int (ei_ (a)), .int (ei_ (b)), .int (ei_ (4))]) (st := []) (k := 1) rfl rfl rfl rfl rfl (Nat.le_of_ble_eq_true rfl) ?_
            refine pw_intro (I := iX3_welcome) (T := tX3_welcome) rfl rfl rfl ?_
            refine pw_steps 1 (s' := (1, [some (.ref 1), some (.int (ei_ (a))), some (.int (ei_ (b))), some (.int (ei_ (4))), none], [.ref 1], m)) rfl ?_
            refine pw_getE (x := x29) rfl rfl hx29 ?_
            refine pw_steps 3 (s' := (8, [some (.ref 1), some (.int (ei_ (a))), some (.int (ei_ (b))), some (.int (ei_ (4))), some (.int (ei_ (x29)))], [.ref 1, .ref 1], m)) rfl ?_
            refine pw_getE (x := x29) rfl rfl hx29 ?_
            refine pw_steps 2 (s' := (13, [some (.ref 1), some (.int (ei_ (a))), some (.int (ei_ (b))), some (.int (ei_ (4))), some (.int (ei_ (x29)))], [.int ((ei_ (x29)) + (ei_ (1))), .ref 1], m)) rfl ?_
            refine pw_cv (congrArg (fun z_ : Int32 => ((13, [some (.ref 1), some (.int (ei_ (a))), some (.int (ei_ (b))), some (.int (ei_ (4))), some (.int (ei_ (x29)))], [.int z_, .ref 1], m) : am_S)) (ei_add rfl rfl)) ?_
            refine pw_put (v := (x29 + 1)) rfl rfl (Or.inl rfl) ?_
            refine pw_cv (s' := (16, [some (.ref 1), some (.int (ei_ (a))), some (.int (ei_ (b))), some (.int (ei_ (4))), some (.int (ei_ (x29)))], [], wi_ m 1 (1) ((x29 + 1)))) rfl ?_
            refine pw_steps 4 (s' := (21, [some (.ref 1), some (.int (ei_ (a))), some (.int (ei_ (b))), some (.int (ei_ (4))), some (.int (ei_ (x29)))], [.int (ei_ (a)), .int (ei_ (0)), .int (ei_ (x29)), .ref 1], wi_ m 1 (1) ((x29 + 1)))) rfl ?_
            refine pw_call (As := [.int (ei_ (x29)), .int (ei_ (0)), .int (ei_ (a))]) (st := []) (k := 1) rfl rfl rfl rfl rfl (Nat.le_of_ble_eq_true rfl) ?_
            refine cw_tell (P := ((x29 + 1))) ((ei_i (by omega))) (by omega) (by omega) (by omega) (by omega) (by omega) (fun pl31 g32 => ?_)
            have hpl_ : pl31 = x29 := by omega
            subst pl31
            refine pw_steps 4 (s' := (29, [some (.ref 1), some (.int (ei_ (a))), some (.int (ei_ (b))), some (.int (ei_ (4))), some (.int (ei_ (x29)))], [.int (ei_ (b)), .int (ei_ (1)), .int (ei_ (x29)), .ref 1], wi_ (wi_ m 1 (1) ((x29 + 1))) 2 (x29) (a))) rfl ?_
            refine pw_call (As := [.int (ei_ (x29)), .int (ei_ (1)), .int (ei_ (b))]) (st := []) (k := 1) rfl rfl rfl rfl rfl (Nat.le_of_ble_eq_true rfl) ?_
            refine cw_tell (P := ((x29 + 1))) ((ei_i (by omega))) (by omega) (by omega) (by omega) (by omega) (by omega) (fun pl33 g34 => ?_)
            have hpl_ : pl33 = 8 + x29 := by omega
            subst pl33
            refine pw_steps 4 (s' := (37, [some (.ref 1), some (.int (ei_ (a))), some (.int (ei_ (b))), some (.int (ei_ (4))), some (.int (ei_ (x29)))], [.int (ei_ (4)), .int (ei_ (2)), .int (ei_ (x29)), .ref 1], wi_ (wi_ (wi_ m 1 (1) ((x29 + 1))) 2 (x29) (a)) 2 (8 + x29) (b))) rfl ?_
            refine pw_call (As := [.int (ei_ (x29)), .int (ei_ (2)), .int (ei_ (4))]) (st := []) (k := 1) rfl rfl rfl rfl rfl (Nat.le_of_ble_eq_true rfl) ?_
            refine cw_tell (P := ((x29 + 1))) ((ei_i (by omega))) (by omega) (by omega) (by omega) (by omega) (by omega) (fun pl35 g36 => ?_)
            have hpl_ : pl35 = 16 + x29 := by omega
            subst pl35
            refine pw_steps 1 (s' := (42, [some (.ref 1), some (.int (ei_ (a))), some (.int (ei_ (b))), some (.int (ei_ (4))), some (.int (ei_ (x29)))], [.int (ei_ (x29))], wi_ (wi_ (wi_ (wi_ m 1 (1) ((x29 + 1))) 2 (x29) (a)) 2 (8 + x29) (b)) 2 (16 + x29) (4))) rfl ?_
            refine pw_iret rfl rfl rfl ?_
            refine pw_iret rfl rfl rfl ?_
            refine pw_intro (I := iX9_person) (T := tX9_person) rfl rfl rfl ?_
            refine pw_steps 5 (s' := (7, [some (.ref 47), some (.int (ei_ (a))), some (.int (ei_ (b)))], [.long (el_ (4)), .long ((ei_ (b)).toInt64), .long ((ei_ (a)).toInt64)], wi_ (wi_ (wi_ (wi_ m 1 (1) ((x29 + 1))) 2 (x29) (a)) 2 (8 + x29) (b)) 2 (16 + x29) (4))) rfl ?_
            refine pw_cv (congrArg (fun z_ : Int64 => ((7, [some (.ref 47), some (.int (ei_ (a))), some (.int (ei_ (b)))], [.long (el_ (4)), .long z_, .long ((ei_ (a)).toInt64)], wi_ (wi_ (wi_ (wi_ m 1 (1) ((x29 + 1))) 2 (x29) (a)) 2 (8 + x29) (b)) 2 (16 + x29) (4)) : am_S)) (el_i2l q1 rfl)) ?_
            refine pw_cv (congrArg (fun z_ : Int64 => ((7, [some (.ref 47), some (.int (ei_ (a))), some (.int (ei_ (b)))], [.long (el_ (4)), .long (el_ (b)), .long z_], wi_ (wi_ (wi_ (wi_ m 1 (1) ((x29 + 1))) 2 (x29) (a)) 2 (8 + x29) (b)) 2 (16 + x29) (4)) : am_S)) (el_i2l q0 rfl)) ?_
            refine pw_callS (As := [.long (el_ (a)), .long (el_ (b)), .long (el_ (4))]) (st := []) rfl (by decide) rfl rfl (Nat.le_of_ble_eq_true rfl) ?_
            refine pw_intro (I := iX9_mayCome) (T := tX9_mayCome) rfl rfl rfl ?_
            refine pw_steps 3 (s' := (5, [some (.long (el_ (a))), none, some (.long (el_ (b))), none, some (.long (el_ (4))), none], [.long (el_ (9)), .long (el_ (1)), .long (el_ (a))], wi_ (wi_ (wi_ (wi_ m 1 (1) ((x29 + 1))) 2 (x29) (a)) 2 (8 + x29) (b)) 2 (16 + x29) (4))) rfl ?_
            refine pw_callS (As := [.long (el_ (a)), .long (el_ (1)), .long (el_ (9))]) (st := []) rfl (by decide) rfl rfl (Nat.le_of_ble_eq_true rfl) ?_
            refine mt_within (by omega) (by omega) (by omega) (fun g37 g38 => ?_) (fun g39 => ?_) (fun g40 => ?_)
            · refine pw_ifF rfl (by decide) (show ¬ (1 = 0) by decide) ?_
              refine pw_steps 3 (s' := (16, [some (.long (el_ (a))), none, some (.long (el_ (b))), none, some (.long (el_ (4))), none], [.long (el_ (9)), .long (el_ (0)), .long (el_ (b))], wi_ (wi_ (wi_ (wi_ m 1 (1) ((x29 + 1))) 2 (x29) (a)) 2 (8 + x29) (b)) 2 (16 + x29) (4))) rfl ?_
              refine pw_callS (As := [.long (el_ (b)), .long (el_ (0)), .long (el_ (9))]) (st := []) rfl (by decide) rfl rfl (Nat.le_of_ble_eq_true rfl) ?_
              refine mt_within (by omega) (by omega) (by omega) (fun g41 g42 => ?_) (fun g43 => ?_) (fun g44 => ?_)
              · refine pw_ifF rfl (by decide) (show ¬ (1 = 0) by decide) ?_
                refine pw_steps 3 (s' := (28, [some (.long (el_ (a))), none, some (.long (el_ (b))), none, some (.long (el_ (4))), none], [.long (el_ (9)), .long (el_ (1)), .long (el_ (4))], wi_ (wi_ (wi_ (wi_ m 1 (1) ((x29 + 1))) 2 (x29) (a)) 2 (8 + x29) (b)) 2 (16 + x29) (4))) rfl ?_
                refine pw_callS (As := [.long (el_ (4)), .long (el_ (1)), .long (el_ (9))]) (st := []) rfl (by decide) rfl rfl (Nat.le_of_ble_eq_true rfl) ?_
                refine mt_within (by omega) (by omega) (by omega) (fun g45 g46 => ?_) (fun g47 => ?_) (fun g48 => ?_)
                · refine pw_ifF rfl (by decide) (show ¬ (1 = 0) by decide) ?_
                  refine pw_steps 2 (s' := (39, [some (.long (el_ (a))), none, some (.long (el_ (b))), none, some (.long (el_ (4))), none], [.int (ei_ (1))], wi_ (wi_ (wi_ (wi_ m 1 (1) ((x29 + 1))) 2 (x29) (a)) 2 (8 + x29) (b)) 2 (16 + x29) (4))) rfl ?_
                  refine pw_iret rfl rfl rfl ?_
                  refine pw_ifT rfl (by decide) (show ¬ 1 = 0 by decide) ?_
                  refine pw_steps 1 (s' := (16, [some (.ref 47), some (.int (ei_ (a))), some (.int (ei_ (b)))], [.ref 47], wi_ (wi_ (wi_ (wi_ m 1 (1) ((x29 + 1))) 2 (x29) (a)) 2 (8 + x29) (b)) 2 (16 + x29) (4))) rfl ?_
                  refine pw_get rfl rfl (fun x49 (hx49 : x49 = vi_ m 47 6) rx49 sx49 => ?_)
                  replace hx49 : x49 = vi_ m 1 1 := hx49.trans hP2
                  replace hx49 : x49 = x29 := hx49.trans hx29.symm
                  subst x49
                  refine pw_steps 1 (s' := (21, [some (.ref 47), some (.int (ei_ (a))), some (.int (ei_ (b)))], [.int (ei_ (8)), .int (ei_ (x29))], wi_ (wi_ (wi_ (wi_ m 1 (1) ((x29 + 1))) 2 (x29) (a)) 2 (8 + x29) (b)) 2 (16 + x29) (4))) rfl ?_
                  refine pw_cmpT rfl ⟨rx29, sx29⟩ (by decide) (show ¬ x29 = 8 by omega) ?_
                  refine pw_steps 4 (s' := (31, [some (.ref 47), some (.int (ei_ (a))), some (.int (ei_ (b)))], [.int (ei_ (4)), .int (ei_ (b)), .int (ei_ (a)), .ref 47], wi_ (wi_ (wi_ (wi_ m 1 (1) ((x29 + 1))) 2 (x29) (a)) 2 (8 + x29) (b)) 2 (16 + x29) (4))) rfl ?_
                  refine pw_call (As := [.int (ei_ (a)), .int (ei_ (b)), .int (ei_ (4))]) (st := []) (k := 47) rfl rfl rfl rfl rfl (Nat.le_of_ble_eq_true rfl) ?_
                  refine pw_intro (I := iX9_adds) (T := tX9_adds) rfl rfl rfl ?_
                  refine pw_steps 3 (s' := (5, [some (.ref 47), some (.int (ei_ (a))), some (.int (ei_ (b))), some (.int (ei_ (4)))], [.ref 47, .ref 48], wi_ (wi_ (wi_ (wi_ m 1 (1) ((x29 + 1))) 2 (x29) (a)) 2 (8 + x29) (b)) 2 (16 + x29) (4))) rfl ?_
                  refine pw_get rfl rfl (fun x50 (hx50 : x50 = vi_ m 47 6) rx50 sx50 => ?_)
                  replace hx50 : x50 = vi_ m 1 1 := hx50.trans hP2
                  replace hx50 : x50 = x29 := hx50.trans hx29.symm
                  subst x50
                  refine pw_steps 1 (s' := (9, [some (.ref 47), some (.int (ei_ (a))), some (.int (ei_ (b))), some (.int (ei_ (4)))], [.int (ei_ (a)), .int (ei_ (x29)), .ref 48], wi_ (wi_ (wi_ (wi_ m 1 (1) ((x29 + 1))) 2 (x29) (a)) 2 (8 + x29) (b)) 2 (16 + x29) (4))) rfl ?_
                  refine pw_ist rfl rfl (by omega) ?_
                  refine pw_steps 4 (s' := (17, [some (.ref 47), some (.int (ei_ (a))), some (.int (ei_ (b))), some (.int (ei_ (4)))], [.ref 47, .int (ei_ (8)), .ref 48], wi_ (wi_ (wi_ (wi_ (wi_ m 1 (1) ((x29 + 1))) 2 (x29) (a)) 2 (8 + x29) (b)) 2 (16 + x29) (4)) 48 (x29) (a))) rfl ?_
                  refine pw_get rfl rfl (fun x51 (hx51 : x51 = vi_ m 47 6) rx51 sx51 => ?_)
                  replace hx51 : x51 = vi_ m 1 1 := hx51.trans hP2
                  replace hx51 : x51 = x29 := hx51.trans hx29.symm
                  subst x51
                  refine pw_steps 2 (s' := (22, [some (.ref 47), some (.int (ei_ (a))), some (.int (ei_ (b))), some (.int (ei_ (4)))], [.int (ei_ (b)), .int ((ei_ (8)) + (ei_ (x29))), .ref 48], wi_ (wi_ (wi_ (wi_ (wi_ m 1 (1) ((x29 + 1))) 2 (x29) (a)) 2 (8 + x29) (b)) 2 (16 + x29) (4)) 48 (x29) (a))) rfl ?_
                  refine pw_cv (congrArg (fun z_ : Int32 => ((22, [some (.ref 47), some (.int (ei_ (a))), some (.int (ei_ (b))), some (.int (ei_ (4)))], [.int (ei_ (b)), .int z_, .ref 48], wi_ (wi_ (wi_ (wi_ (wi_ m 1 (1) ((x29 + 1))) 2 (x29) (a)) 2 (8 + x29) (b)) 2 (16 + x29) (4)) 48 (x29) (a)) : am_S)) (ei_add rfl rfl)) ?_
                  refine pw_ist rfl rfl (by omega) ?_
                  refine pw_steps 4 (s' := (30, [some (.ref 47), some (.int (ei_ (a))), some (.int (ei_ (b))), some (.int (ei_ (4)))], [.ref 47, .int (ei_ (16)), .ref 48], wi_ (wi_ (wi_ (wi_ (wi_ (wi_ m 1 (1) ((x29 + 1))) 2 (x29) (a)) 2 (8 + x29) (b)) 2 (16 + x29) (4)) 48 (x29) (a)) 48 ((8 + x29)) (b))) rfl ?_
                  refine pw_get rfl rfl (fun x52 (hx52 : x52 = vi_ m 47 6) rx52 sx52 => ?_)
                  replace hx52 : x52 = vi_ m 1 1 := hx52.trans hP2
                  replace hx52 : x52 = x29 := hx52.trans hx29.symm
                  subst x52
                  refine pw_steps 2 (s' := (35, [some (.ref 47), some (.int (ei_ (a))), some (.int (ei_ (b))), some (.int (ei_ (4)))], [.int (ei_ (4)), .int ((ei_ (16)) + (ei_ (x29))), .ref 48], wi_ (wi_ (wi_ (wi_ (wi_ (wi_ m 1 (1) ((x29 + 1))) 2 (x29) (a)) 2 (8 + x29) (b)) 2 (16 + x29) (4)) 48 (x29) (a)) 48 ((8 + x29)) (b))) rfl ?_
                  refine pw_cv (congrArg (fun z_ : Int32 => ((35, [some (.ref 47), some (.int (ei_ (a))), some (.int (ei_ (b))), some (.int (ei_ (4)))], [.int (ei_ (4)), .int z_, .ref 48], wi_ (wi_ (wi_ (wi_ (wi_ (wi_ m 1 (1) ((x29 + 1))) 2 (x29) (a)) 2 (8 + x29) (b)) 2 (16 + x29) (4)) 48 (x29) (a)) 48 ((8 + x29)) (b)) : am_S)) (ei_add rfl rfl)) ?_
                  refine pw_ist rfl rfl (by omega) ?_
                  refine pw_steps 4 (s' := (43, [some (.ref 47), some (.int (ei_ (a))), some (.int (ei_ (b))), some (.int (ei_ (4)))], [.ref 47, .int (ei_ (24)), .ref 48], wi_ (wi_ (wi_ (wi_ (wi_ (wi_ (wi_ m 1 (1) ((x29 + 1))) 2 (x29) (a)) 2 (8 + x29) (b)) 2 (16 + x29) (4)) 48 (x29) (a)) 48 ((8 + x29)) (b)) 48 ((16 + x29)) (4))) rfl ?_
                  refine pw_get rfl rfl (fun x53 (hx53 : x53 = vi_ m 47 6) rx53 sx53 => ?_)
                  replace hx53 : x53 = vi_ m 1 1 := hx53.trans hP2
                  replace hx53 : x53 = x29 := hx53.trans hx29.symm
                  subst x53
                  refine pw_steps 2 (s' := (48, [some (.ref 47), some (.int (ei_ (a))), some (.int (ei_ (b))), some (.int (ei_ (4)))], [.int (ei_ (0)), .int ((ei_ (24)) + (ei_ (x29))), .ref 48], wi_ (wi_ (wi_ (wi_ (wi_ (wi_ (wi_ m 1 (1) ((x29 + 1))) 2 (x29) (a)) 2 (8 + x29) (b)) 2 (16 + x29) (4)) 48 (x29) (a)) 48 ((8 + x29)) (b)) 48 ((16 + x29)) (4))) rfl ?_
                  refine pw_cv (congrArg (fun z_ : Int32 => ((48, [some (.ref 47), some (.int (ei_ (a))), some (.int (ei_ (b))), some (.int (ei_ (4)))], [.int (ei_ (0)), .int z_, .ref 48], wi_ (wi_ (wi_ (wi_ (wi_ (wi_ (wi_ m 1 (1) ((x29 + 1))) 2 (x29) (a)) 2 (8 + x29) (b)) 2 (16 + x29) (4)) 48 (x29) (a)) 48 ((8 + x29)) (b)) 48 ((16 + x29)) (4)) : am_S)) (ei_add rfl rfl)) ?_
                  refine pw_ist rfl rfl (by omega) ?_
                  refine pw_steps 3 (s' := (54, [some (.ref 47), some (.int (ei_ (a))), some (.int (ei_ (b))), some (.int (ei_ (4)))], [.ref 47, .ref 52], wi_ (wi_ (wi_ (wi_ (wi_ (wi_ (wi_ (wi_ m 1 (1) ((x29 + 1))) 2 (x29) (a)) 2 (8 + x29) (b)) 2 (16 + x29) (4)) 48 (x29) (a)) 48 ((8 + x29)) (b)) 48 ((16 + x29)) (4)) 48 ((24 + x29)) (0))) rfl ?_
                  refine pw_get rfl rfl (fun x54 (hx54 : x54 = vi_ m 47 6) rx54 sx54 => ?_)
                  replace hx54 : x54 = vi_ m 1 1 := hx54.trans hP2
                  replace hx54 : x54 = x29 := hx54.trans hx29.symm
                  subst x54
                  refine pw_steps 1 (s' := (58, [some (.ref 47), some (.int (ei_ (a))), some (.int (ei_ (b))), some (.int (ei_ (4)))], [.ref 47, .int (ei_ (x29)), .ref 52], wi_ (wi_ (wi_ (wi_ (wi_ (wi_ (wi_ (wi_ m 1 (1) ((x29 + 1))) 2 (x29) (a)) 2 (8 + x29) (b)) 2 (16 + x29) (4)) 48 (x29) (a)) 48 ((8 + x29)) (b)) 48 ((16 + x29)) (4)) 48 ((24 + x29)) (0))) rfl ?_
                  refine pw_get rfl rfl (fun x55 (hx55 : x55 = vi_ m 47 6) rx55 sx55 => ?_)
                  replace hx55 : x55 = vi_ m 1 1 := hx55.trans hP2
                  replace hx55 : x55 = x29 := hx55.trans hx29.symm
                  subst x55
                  refine pw_ist rfl rfl (by omega) ?_
                  refine pw_steps 3 (s' := (67, [some (.ref 47), some (.int (ei_ (a))), some (.int (ei_ (b))), some (.int (ei_ (4)))], [.ref 47, .ref 53], wi_ (wi_ (wi_ (wi_ (wi_ (wi_ (wi_ (wi_ (wi_ m 1 (1) ((x29 + 1))) 2 (x29) (a)) 2 (8 + x29) (b)) 2 (16 + x29) (4)) 48 (x29) (a)) 48 ((8 + x29)) (b)) 48 ((16 + x29)) (4)) 48 ((24 + x29)) (0)) 52 (x29) (x29))) rfl ?_
                  refine pw_get rfl rfl (fun x56 (hx56 : x56 = vi_ m 47 6) rx56 sx56 => ?_)
                  replace hx56 : x56 = vi_ m 1 1 := hx56.trans hP2
                  replace hx56 : x56 = x29 := hx56.trans hx29.symm
                  subst x56
                  refine pw_steps 1 (s' := (72, [some (.ref 47), some (.int (ei_ (a))), some (.int (ei_ (b))), some (.int (ei_ (4)))], [.int (ei_ (100)), .int (ei_ (x29)), .ref 53], wi_ (wi_ (wi_ (wi_ (wi_ (wi_ (wi_ (wi_ (wi_ m 1 (1) ((x29 + 1))) 2 (x29) (a)) 2 (8 + x29) (b)) 2 (16 + x29) (4)) 48 (x29) (a)) 48 ((8 + x29)) (b)) 48 ((16 + x29)) (4)) 48 ((24 + x29)) (0)) 52 (x29) (x29))) rfl ?_
                  refine pw_ist rfl rfl (by omega) ?_
                  refine pw_steps 2 (s' := (75, [some (.ref 47), some (.int (ei_ (a))), some (.int (ei_ (b))), some (.int (ei_ (4)))], [.ref 47, .ref 47], wi_ (wi_ (wi_ (wi_ (wi_ (wi_ (wi_ (wi_ (wi_ (wi_ m 1 (1) ((x29 + 1))) 2 (x29) (a)) 2 (8 + x29) (b)) 2 (16 + x29) (4)) 48 (x29) (a)) 48 ((8 + x29)) (b)) 48 ((16 + x29)) (4)) 48 ((24 + x29)) (0)) 52 (x29) (x29)) 53 (x29) (100))) rfl ?_
                  refine pw_get rfl rfl (fun x57 (hx57 : x57 = vi_ m 47 6) rx57 sx57 => ?_)
                  replace hx57 : x57 = vi_ m 1 1 := hx57.trans hP2
                  replace hx57 : x57 = x29 := hx57.trans hx29.symm
                  subst x57
                  refine pw_steps 2 (s' := (80, [some (.ref 47), some (.int (ei_ (a))), some (.int (ei_ (b))), some (.int (ei_ (4)))], [.int ((ei_ (x29)) + (ei_ (1))), .ref 47], wi_ (wi_ (wi_ (wi_ (wi_ (wi_ (wi_ (wi_ (wi_ (wi_ m 1 (1) ((x29 + 1))) 2 (x29) (a)) 2 (8 + x29) (b)) 2 (16 + x29) (4)) 48 (x29) (a)) 48 ((8 + x29)) (b)) 48 ((16 + x29)) (4)) 48 ((24 + x29)) (0)) 52 (x29) (x29)) 53 (x29) (100))) rfl ?_
                  refine pw_cv (congrArg (fun z_ : Int32 => ((80, [some (.ref 47), some (.int (ei_ (a))), some (.int (ei_ (b))), some (.int (ei_ (4)))], [.int z_, .ref 47], wi_ (wi_ (wi_ (wi_ (wi_ (wi_ (wi_ (wi_ (wi_ (wi_ m 1 (1) ((x29 + 1))) 2 (x29) (a)) 2 (8 + x29) (b)) 2 (16 + x29) (4)) 48 (x29) (a)) 48 ((8 + x29)) (b)) 48 ((16 + x29)) (4)) 48 ((24 + x29)) (0)) 52 (x29) (x29)) 53 (x29) (100)) : am_S)) (ei_add rfl rfl)) ?_
                  refine pw_put (v := (x29 + 1)) rfl rfl (Or.inl rfl) ?_
                  refine pw_cv (s' := (83, [some (.ref 47), some (.int (ei_ (a))), some (.int (ei_ (b))), some (.int (ei_ (4)))], [], wi_ (wi_ (wi_ (wi_ (wi_ (wi_ (wi_ (wi_ (wi_ (wi_ (wi_ m 1 (1) ((x29 + 1))) 2 (x29) (a)) 2 (8 + x29) (b)) 2 (16 + x29) (4)) 48 (x29) (a)) 48 ((8 + x29)) (b)) 48 ((16 + x29)) (4)) 48 ((24 + x29)) (0)) 52 (x29) (x29)) 53 (x29) (100)) 47 (6) ((x29 + 1)))) rfl ?_
                  refine pw_vret rfl rfl ?_
                  refine pw_steps 4 (s' := (40, [some (.ref 47), some (.int (ei_ (a))), some (.int (ei_ (b)))], [.int ((ei_ ((x29 + 1))) - (ei_ (1)))], wi_ (wi_ (wi_ (wi_ (wi_ (wi_ (wi_ (wi_ (wi_ (wi_ (wi_ m 1 (1) ((x29 + 1))) 2 (x29) (a)) 2 (8 + x29) (b)) 2 (16 + x29) (4)) 48 (x29) (a)) 48 ((8 + x29)) (b)) 48 ((16 + x29)) (4)) 48 ((24 + x29)) (0)) 52 (x29) (x29)) 53 (x29) (100)) 47 (6) ((x29 + 1)))) rfl ?_
                  refine pw_cv (congrArg (fun z_ : Int32 => ((40, [some (.ref 47), some (.int (ei_ (a))), some (.int (ei_ (b)))], [.int z_], wi_ (wi_ (wi_ (wi_ (wi_ (wi_ (wi_ (wi_ (wi_ (wi_ (wi_ m 1 (1) ((x29 + 1))) 2 (x29) (a)) 2 (8 + x29) (b)) 2 (16 + x29) (4)) 48 (x29) (a)) 48 ((8 + x29)) (b)) 48 ((16 + x29)) (4)) 48 ((24 + x29)) (0)) 52 (x29) (x29)) 53 (x29) (100)) 47 (6) ((x29 + 1))) : am_S)) (ei_sub rfl rfl)) ?_
                  refine pw_iret rfl rfl rfl ?_
                  have hx_ : (((x29 + 1) - 1) : Int) = x29 := by omega
                  exact ⟨x29, rfl, congrArg (fun z_ : Int => some (Value.int (ei_ z_))) hx_, rR_add hR hx29 (by omega) ⟨by omega, by omega⟩ ⟨by omega, by omega⟩ (by decide)⟩
                · exact False.elim (by omega)
                · exact False.elim (by omega)
              · exact False.elim (by omega)
              · exact False.elim (by omega)
            · exact False.elim (by omega)
            · exact False.elim (by omega)
          · refine pw_steps 2 (s' := (14, [some (.ref 1)], [.int (ei_ (1))], m)) rfl ?_
            refine pw_iret rfl rfl rfl ?_
            refine pw_ifF rfl (by decide) (show ¬ (1 = 0) by decide) ?_
            refine pw_steps 2 (s' := (43, [some (.ref 0), some (.int (ei_ (a))), some (.int (ei_ (b)))], [.int (ei_ ((-3)))], m)) rfl ?_
            refine pw_iret rfl rfl rfl ?_
            refine pw_intro (I := iX9_person) (T := tX9_person) rfl rfl rfl ?_
            refine pw_steps 5 (s' := (7, [some (.ref 47), some (.int (ei_ (a))), some (.int (ei_ (b)))], [.long (el_ (4)), .long ((ei_ (b)).toInt64), .long ((ei_ (a)).toInt64)], m)) rfl ?_
            refine pw_cv (congrArg (fun z_ : Int64 => ((7, [some (.ref 47), some (.int (ei_ (a))), some (.int (ei_ (b)))], [.long (el_ (4)), .long z_, .long ((ei_ (a)).toInt64)], m) : am_S)) (el_i2l q1 rfl)) ?_
            refine pw_cv (congrArg (fun z_ : Int64 => ((7, [some (.ref 47), some (.int (ei_ (a))), some (.int (ei_ (b)))], [.long (el_ (4)), .long (el_ (b)), .long z_], m) : am_S)) (el_i2l q0 rfl)) ?_
            refine pw_callS (As := [.long (el_ (a)), .long (el_ (b)), .long (el_ (4))]) (st := []) rfl (by decide) rfl rfl (Nat.le_of_ble_eq_true rfl) ?_
            refine pw_intro (I := iX9_mayCome) (T := tX9_mayCome) rfl rfl rfl ?_
            refine pw_steps 3 (s' := (5, [some (.long (el_ (a))), none, some (.long (el_ (b))), none, some (.long (el_ (4))), none], [.long (el_ (9)), .long (el_ (1)), .long (el_ (a))], m)) rfl ?_
            refine pw_callS (As := [.long (el_ (a)), .long (el_ (1)), .long (el_ (9))]) (st := []) rfl (by decide) rfl rfl (Nat.le_of_ble_eq_true rfl) ?_
            refine mt_within (by omega) (by omega) (by omega) (fun g58 g59 => ?_) (fun g60 => ?_) (fun g61 => ?_)
            · refine pw_ifF rfl (by decide) (show ¬ (1 = 0) by decide) ?_
              refine pw_steps 3 (s' := (16, [some (.long (el_ (a))), none, some (.long (el_ (b))), none, some (.long (el_ (4))), none], [.long (el_ (9)), .long (el_ (0)), .long (el_ (b))], m)) rfl ?_
              refine pw_callS (As := [.long (el_ (b)), .long (el_ (0)), .long (el_ (9))]) (st := []) rfl (by decide) rfl rfl (Nat.le_of_ble_eq_true rfl) ?_
              refine mt_within (by omega) (by omega) (by omega) (fun g62 g63 => ?_) (fun g64 => ?_) (fun g65 => ?_)
              · refine pw_ifF rfl (by decide) (show ¬ (1 = 0) by decide) ?_
                refine pw_steps 3 (s' := (28, [some (.long (el_ (a))), none, some (.long (el_ (b))), none, some (.long (el_ (4))), none], [.long (el_ (9)), .long (el_ (1)), .long (el_ (4))], m)) rfl ?_
                refine pw_callS (As := [.long (el_ (4)), .long (el_ (1)), .long (el_ (9))]) (st := []) rfl (by decide) rfl rfl (Nat.le_of_ble_eq_true rfl) ?_
                refine mt_within (by omega) (by omega) (by omega) (fun g66 g67 => ?_) (fun g68 => ?_) (fun g69 => ?_)
                · refine pw_ifF rfl (by decide) (show ¬ (1 = 0) by decide) ?_
                  refine pw_steps 2 (s' := (39, [some (.long (el_ (a))), none, some (.long (el_ (b))), none, some (.long (el_ (4))), none], [.int (ei_ (1))], m)) rfl ?_
                  refine pw_iret rfl rfl rfl ?_
                  refine pw_ifT rfl (by decide) (show ¬ 1 = 0 by decide) ?_
                  refine pw_steps 1 (s' := (16, [some (.ref 47), some (.int (ei_ (a))), some (.int (ei_ (b)))], [.ref 47], m)) rfl ?_
                  refine pw_get rfl rfl (fun x70 (hx70 : x70 = vi_ m 47 6) rx70 sx70 => ?_)
                  replace hx70 : x70 = vi_ m 1 1 := hx70.trans hP2
                  replace hx70 : x70 = x29 := hx70.trans hx29.symm
                  subst x70
                  refine pw_steps 1 (s' := (21, [some (.ref 47), some (.int (ei_ (a))), some (.int (ei_ (b)))], [.int (ei_ (8)), .int (ei_ (x29))], m)) rfl ?_
                  refine pw_cmpF rfl ⟨rx29, sx29⟩ (by decide) (show ¬ (¬ x29 = 8) by omega) ?_
                  refine pw_steps 1 (s' := (26, [some (.ref 47), some (.int (ei_ (a))), some (.int (ei_ (b)))], [.int (ei_ ((-3)))], m)) rfl ?_
                  refine pw_iret rfl rfl rfl ?_
                  exact ⟨(-3), rfl, rfl, hR⟩
                · exact False.elim (by omega)
                · exact False.elim (by omega)
              · exact False.elim (by omega)
              · exact False.elim (by omega)
            · exact False.elim (by omega)
            · exact False.elim (by omega)

