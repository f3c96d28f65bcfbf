
/-! ===== shelves ===== -/
theorem sf_ne {a d : Int} (ha : 0 ≤ a) (hd : 0 ≤ d) (h : d ≠ a) : sf_ d ≠ sf_ a := by unfold sf_; omega
theorem sf_rg {a : Int} (h : 0 ≤ a ∧ a < 6) : 33 ≤ sf_ a ∧ sf_ a ≤ 43 := by unfold sf_; omega
theorem sf_ln {a : Int} (h : 0 ≤ a ∧ a < 6) : 0 ≤ a ∧ a < ((([33, 35, 37, 39, 41, 43] : List Nat).length : Nat) : Int) ∧ a < 2147483648 := ⟨h.1, h.2, by omega⟩
theorem sf_od {a d : Int} : sf_ d ≠ sf_ a + 1 := by unfold sf_; omega
theorem rS_put {m : am_M} {a b v v' : Int} (h : rS_ m) (ha : 0 ≤ a ∧ a < 6) (hb : 0 ≤ b ∧ b < vi_ m (sf_ a) 2) (hv : v' = v) (r : -9223372036854775808 ≤ v ∧ v < 9223372036854775808) (hby : vi_ m (sf_ a) 0 = 0 → -128 ≤ v ∧ v ≤ 127) : rS_ (wl_ (wl_ m (sf_ a + 1) b v) 70 (60 * a + b) v') := by
  subst hv
  intro d h1 h2
  have hr := sf_rg ha
  have hrd := sf_rg ⟨h1, h2⟩
  obtain ⟨t1, t2, t3⟩ := h d h1 h2
  refine ⟨t1, t2, ?_⟩
  rcases t3 with t3 | t3 | ⟨t3, t4, t5, t6⟩
  · exact Or.inl t3
  · exact Or.inr (Or.inl t3)
  · refine Or.inr (Or.inr ⟨t3, t4, t5, fun j j1 j2 => ?_⟩)
    have j2' : j < vi_ m (sf_ d) 2 := j2
    have hbb := (h a ha.1 ha.2).2.1
    have t7 := t6 j j1 j2'
    show vl_ (wl_ (wl_ m (sf_ a + 1) b v') 70 (60 * a + b) v') 70 (60 * d + j) = vl_ (wl_ (wl_ m (sf_ a + 1) b v') 70 (60 * a + b) v') (sf_ d + 1) j ∧ (vi_ m (sf_ d) 0 = 0 → -128 ≤ vl_ (wl_ (wl_ m (sf_ a + 1) b v') 70 (60 * a + b) v') (sf_ d + 1) j ∧ vl_ (wl_ (wl_ m (sf_ a + 1) b v') 70 (60 * a + b) v') (sf_ d + 1) j ≤ 127)
    rw [vl_up r (by omega) (by omega), vl_ne (show (70 : Nat) ≠ sf_ a + 1 by omega), vl_ne (show sf_ d + 1 ≠ 70 by omega)]
    by_cases e : d = a
    · subst e
      rw [vl_up r hb.1 j1]
      by_cases e2 : j = b
      · rw [if_pos (by omega), if_pos e2]; exact ⟨rfl, hby⟩
      · rw [if_neg (by omega), if_neg e2]; exact t7
    · rw [if_neg (by omega), vl_ne (show sf_ d + 1 ≠ sf_ a + 1 by have := sf_ne ha.1 h1 e; omega)]
      exact t7
theorem rS_kp0 {m : am_M} {a b : Int} (h : rS_ m) (ha : 0 ≤ a ∧ a < 6) (hb : b = -1) : rS_ (wi_ (wi_ (wi_ (wi_ m (sf_ a) 0 (-1)) (sf_ a) 2 0) 68 a b) 69 a 0) := by
  subst hb
  intro d h1 h2
  have hr := sf_rg ha
  have hrd := sf_rg ⟨h1, h2⟩
  have t := h d h1 h2
  unfold rs_ at t ⊢
  by_cases e : d = a
  · subst e
    simp (disch := omega) only [vi_up, vi_ne, if_true]
    exact ⟨by decide, by decide, Or.inl ⟨by decide, by decide, by decide⟩⟩
  · have hn := sf_ne ha.1 h1 e
    simp (disch := omega) only [vi_up, vi_ne, if_neg e]
    exact t
theorem rS_kp1 {m : am_M} {a b : Int} (h : rS_ m) (ha : 0 ≤ a ∧ a < 6) (hb : 0 ≤ b ∧ b < vi_ m 29 2) (hm : vi_ m 29 2 ≤ 50) : rS_ (wi_ (wi_ (wi_ (wi_ (wi_ m (sf_ a) 0 (-2)) (sf_ a) 1 b) (sf_ a) 2 0) 68 a b) 69 a 0) := by
  intro d h1 h2
  have hr := sf_rg ha
  have hrd := sf_rg ⟨h1, h2⟩
  have t := h d h1 h2
  unfold rs_ at t ⊢
  by_cases e : d = a
  · subst e
    simp (disch := omega) only [vi_up, vi_ne, if_true]
    exact ⟨by decide, by decide, Or.inr (Or.inl ⟨by simp, by simp, by simpa using hb.1, by simpa using hb.2, by decide⟩)⟩
  · have hn := sf_ne ha.1 h1 e
    simp (disch := omega) only [vi_up, vi_ne, if_neg e]
    exact t
def pSh (k _j : Nat) : Bool := 33 ≤ k && k ≤ 43
theorem sf_sh {a : Int} (h : 0 ≤ a ∧ a < 6) (j : Nat) : pSh (sf_ a) j = true := by
  have := sf_rg h
  simp only [pSh, Bool.and_eq_true, decide_eq_true_eq]
  exact this
def pKe (k _j : Nat) : Bool := (33 ≤ k && k ≤ 43) || k == 68 || k == 69
theorem pSh_Ke : ∀ k j, pKe k j = false → pSh k j = false := by
  intro k j h
  simp only [pKe, pSh, Bool.or_eq_false_iff] at h ⊢
  exact h.1.1
/-- the kind t is k, or under it -/
def un_ (t k : Int) : Int := if t = k then 1 else if t = 1 ∧ k = 0 then 1 else if t = 2 ∧ k = 0 then 1 else if t = 3 ∧ (k = 2 ∨ k = 0) then 1 else if t = 4 ∧ (k = 1 ∨ k = 0) then 1 else if t = 5 ∧ (k = 3 ∨ k = 2 ∨ k = 0) then 1 else if t = 6 ∧ k = 0 then 1 else if t = 7 ∧ (k = 4 ∨ k = 1 ∨ k = 0) then 1 else 0

set_option maxHeartbeats 4000000 in
set_option maxRecDepth 20000 in
theorem op_element {q : am_X} {d : Nat} {m : am_M} {a : Int} {b : Int} (q0 : -2147483648 ≤ a ∧ a < 2147483648) (q1 : -2147483648 ≤ b ∧ b < 2147483648) (hR : rR_ m) : pw_C q (d + 60) 159 [.ref 0, .int (ei_ (a)), .int (ei_ (b))] m (fun r1 m1 => pw_C q (d + 60) 258 [.ref 47, .int (ei_ (a)), .int (ei_ (b))] m1 (fun r2 m2 => ∃ x : Int, r1 = some (.long (el_ x)) ∧ r2 = some (.long (el_ x)) ∧ rR_ m2)) := by
  obtain ⟨hp, hd, hi, ht, hl, hz, hc, ha, hs⟩ := id hR
  obtain ⟨hP1, hP2, hP3, hP4⟩ := id hp
  have hmw := mW_of hp hd
  have hmf := mF_of hp hd
  obtain ⟨ha1, ha2, ha3, ha4, ha5, ha6⟩ := id ha
  refine pw_intro (I := iX8_element) (T := tX8_element) rfl rfl rfl ?_
  refine pw_steps 3 (s' := (3, [some (.ref 0), some (.int (ei_ (a))), some (.int (ei_ (b)))], [.int (ei_ (b)), .int (ei_ (a)), .ref 0], m)) rfl ?_
  refine pw_call (As := [.int (ei_ (a)), .int (ei_ (b))]) (st := []) (k := 0) rfl rfl rfl rfl rfl (Nat.le_of_ble_eq_true rfl) ?_
  refine pw_intro (I := iX8_refusalOfPlace) (T := tX8_refusalOfPlace) rfl rfl rfl ?_
  refine pw_steps 1 (s' := (1, [some (.ref 0), some (.int (ei_ (a))), some (.int (ei_ (b)))], [.int (ei_ (a))], m)) rfl ?_
  refine pw_callS (As := [.int (ei_ (a))]) (st := []) rfl (by decide) rfl rfl (Nat.le_of_ble_eq_true rfl) ?_
  refine pw_intro (I := iX8_isShelf) (T := tX8_isShelf) rfl rfl rfl ?_
  refine pw_steps 1 (s' := (1, [some (.int (ei_ (a)))], [.int (ei_ (a))], m)) rfl ?_
  refine pw_if rfl q0 (fun (h1 : a < 0) => ?_) (fun (h1 : ¬ (a < 0)) => ?_)
  · refine pw_steps 1 (s' := (15, [some (.int (ei_ (a)))], [.int (ei_ (0))], m)) rfl ?_
    refine pw_iret rfl rfl rfl ?_
    refine pw_ifF rfl (by decide) (show ¬ (¬ 0 = 0) by decide) ?_
    refine pw_steps 1 (s' := (8, [some (.ref 0), some (.int (ei_ (a))), some (.int (ei_ (b)))], [.int (ei_ ((-1)))], m)) rfl ?_
    refine pw_iret rfl rfl rfl ?_
    refine pw_ifT rfl (by decide) (show ¬ (-1) = 0 by decide) ?_
    refine pw_steps 1 (s' := (25, [some (.ref 0), some (.int (ei_ (a))), some (.int (ei_ (b)))], [.long (el_ ((-9223372036854775808)))], m)) rfl ?_
    refine pw_lret rfl rfl ?_
    refine pw_intro (I := iX9_element) (T := tX9_element) rfl rfl rfl ?_
    refine pw_steps 3 (s' := (3, [some (.ref 47), some (.int (ei_ (a))), some (.int (ei_ (b)))], [.int (ei_ (b)), .int (ei_ (a)), .ref 47], m)) rfl ?_
    refine pw_call (As := [.int (ei_ (a)), .int (ei_ (b))]) (st := []) (k := 47) rfl rfl rfl rfl rfl (Nat.le_of_ble_eq_true rfl) ?_
    refine pw_intro (I := iX9_refusal) (T := tX9_refusal) rfl rfl rfl ?_
    refine pw_steps 1 (s' := (1, [some (.ref 47), some (.int (ei_ (a))), some (.int (ei_ (b)))], [.int (ei_ (a))], m)) rfl ?_
    refine pw_callS (As := [.int (ei_ (a))]) (st := []) rfl (by decide) rfl rfl (Nat.le_of_ble_eq_true rfl) ?_
    refine pw_intro (I := iX9_isShelf) (T := tX9_isShelf) rfl rfl rfl ?_
    refine pw_steps 4 (s' := (6, [some (.int (ei_ (a)))], [.long (el_ (5)), .long (el_ (0)), .long ((ei_ (a)).toInt64)], m)) rfl ?_
    refine pw_cv (congrArg (fun z_ : Int64 => ((6, [some (.int (ei_ (a)))], [.long (el_ (5)), .long (el_ (0)), .long z_], m) : am_S)) (el_i2l q0 rfl)) ?_
    refine pw_callS (As := [.long (el_ (a)), .long (el_ (0)), .long (el_ (5))]) (st := []) rfl (by decide) rfl rfl (Nat.le_of_ble_eq_true rfl) ?_
    refine mt_within (by omega) (by omega) (by omega) (fun g2 g3 => ?_) (fun g4 => ?_) (fun g5 => ?_)
    · exact False.elim (by omega)
    · refine pw_iret rfl rfl rfl ?_
      refine pw_ifF rfl (by decide) (show ¬ (¬ 0 = 0) by decide) ?_
      refine pw_steps 1 (s' := (8, [some (.ref 47), some (.int (ei_ (a))), some (.int (ei_ (b)))], [.int (ei_ ((-1)))], m)) rfl ?_
      refine pw_iret rfl rfl rfl ?_
      refine pw_ifF rfl (by decide) (show ¬ ((-1) = 0) by decide) ?_
      refine pw_steps 2 (s' := (26, [some (.ref 47), some (.int (ei_ (a))), some (.int (ei_ (b)))], [.long (el_ ((-9223372036854775808)))], m)) rfl ?_
      refine pw_lret rfl rfl ?_
      have hx_ : ((-9223372036854775808) : Int) = (-9223372036854775808) := by rfl
      exact ⟨(-9223372036854775808), rfl, congrArg (fun z_ : Int => some (Value.long (el_ z_))) hx_, rR_sm (sm_rfl m) hR⟩
    · exact False.elim (by omega)
  · refine pw_steps 2 (s' := (7, [some (.int (ei_ (a)))], [.int (ei_ (6)), .int (ei_ (a))], m)) rfl ?_
    refine pw_cmp rfl q0 (by decide) (fun (h6 : 6 ≤ a) => ?_) (fun (h6 : ¬ (6 ≤ a)) => ?_)
    · refine pw_steps 1 (s' := (15, [some (.int (ei_ (a)))], [.int (ei_ (0))], m)) rfl ?_
      refine pw_iret rfl rfl rfl ?_
      refine pw_ifF rfl (by decide) (show ¬ (¬ 0 = 0) by decide) ?_
      refine pw_steps 1 (s' := (8, [some (.ref 0), some (.int (ei_ (a))), some (.int (ei_ (b)))], [.int (ei_ ((-1)))], m)) rfl ?_
      refine pw_iret rfl rfl rfl ?_
      refine pw_ifT rfl (by decide) (show ¬ (-1) = 0 by decide) ?_
      refine pw_steps 1 (s' := (25, [some (.ref 0), some (.int (ei_ (a))), some (.int (ei_ (b)))], [.long (el_ ((-9223372036854775808)))], m)) rfl ?_
      refine pw_lret rfl rfl ?_
      refine pw_intro (I := iX9_element) (T := tX9_element) rfl rfl rfl ?_
      refine pw_steps 3 (s' := (3, [some (.ref 47), some (.int (ei_ (a))), some (.int (ei_ (b)))], [.int (ei_ (b)), .int (ei_ (a)), .ref 47], m)) rfl ?_
      refine pw_call (As := [.int (ei_ (a)), .int (ei_ (b))]) (st := []) (k := 47) rfl rfl rfl rfl rfl (Nat.le_of_ble_eq_true rfl) ?_
      refine pw_intro (I := iX9_refusal) (T := tX9_refusal) rfl rfl rfl ?_
      refine pw_steps 1 (s' := (1, [some (.ref 47), some (.int (ei_ (a))), some (.int (ei_ (b)))], [.int (ei_ (a))], m)) rfl ?_
      refine pw_callS (As := [.int (ei_ (a))]) (st := []) rfl (by decide) rfl rfl (Nat.le_of_ble_eq_true rfl) ?_
      refine pw_intro (I := iX9_isShelf) (T := tX9_isShelf) rfl rfl rfl ?_
      refine pw_steps 4 (s' := (6, [some (.int (ei_ (a)))], [.long (el_ (5)), .long (el_ (0)), .long ((ei_ (a)).toInt64)], m)) rfl ?_
      refine pw_cv (congrArg (fun z_ : Int64 => ((6, [some (.int (ei_ (a)))], [.long (el_ (5)), .long (el_ (0)), .long z_], m) : am_S)) (el_i2l q0 rfl)) ?_
      refine pw_callS (As := [.long (el_ (a)), .long (el_ (0)), .long (el_ (5))]) (st := []) rfl (by decide) rfl rfl (Nat.le_of_ble_eq_true rfl) ?_
      refine mt_within (by omega) (by omega) (by omega) (fun g7 g8 => ?_) (fun g9 => ?_) (fun g10 => ?_)
      · exact False.elim (by omega)
      · exact False.elim (by omega)
      · refine pw_iret rfl rfl rfl ?_
        refine pw_ifF rfl (by decide) (show ¬ (¬ 0 = 0) by decide) ?_
        refine pw_steps 1 (s' := (8, [some (.ref 47), some (.int (ei_ (a))), some (.int (ei_ (b)))], [.int (ei_ ((-1)))], m)) rfl ?_
        refine pw_iret rfl rfl rfl ?_
        refine pw_ifF rfl (by decide) (show ¬ ((-1) = 0) by decide) ?_
        refine pw_steps 2 (s' := (26, [some (.ref 47), some (.int (ei_ (a))), some (.int (ei_ (b)))], [.long (el_ ((-9223372036854775808)))], m)) rfl ?_
        refine pw_lret rfl rfl ?_
        have hx_ : ((-9223372036854775808) : Int) = (-9223372036854775808) := by rfl
        exact ⟨(-9223372036854775808), rfl, congrArg (fun z_ : Int => some (Value.long (el_ z_))) hx_, rR_sm (sm_rfl m) hR⟩
    · refine pw_steps 2 (s' := (15, [some (.int (ei_ (a)))], [.int (ei_ (1))], m)) rfl ?_
      refine pw_iret rfl rfl rfl ?_
      refine pw_ifT rfl (by decide) (show ¬ 1 = 0 by decide) ?_
      refine pw_steps 3 (s' := (14, [some (.ref 0), some (.int (ei_ (a))), some (.int (ei_ (b)))], [.int (ei_ (a)), .ref 32], m)) rfl ?_
      refine pw_ald (r0 := (sf_ a)) rfl rfl (sf_ln (by omega)) (sf_al (by omega)) ?_
      obtain ⟨hk11, hk12, hk13⟩ := hs a (by omega) (by omega)
      rcases hk13 with ⟨hb141, hb142, hb143⟩ | ⟨hb141, hb142, hb143, hb144, hb145⟩ | ⟨hb141, hb142, hb143, hb144⟩
      · refine pw_call (As := []) (st := []) (k := (sf_ a)) rfl rfl rfl (sf_sk (by omega)) rfl (Nat.le_of_ble_eq_true rfl) ?_
        refine pw_intro (I := iX5_isEmpty) (T := tX5_isEmpty) rfl rfl rfl ?_
        refine pw_steps 1 (s' := (1, [some (.ref ((sf_ a)))], [.ref ((sf_ a))], m)) rfl ?_
        refine pw_get rfl (sf_ok (a := a) (by omega)).1 (fun x15 (hx15 : x15 = vi_ m (sf_ a) 0) rx15 sx15 => ?_)
        refine pw_steps 1 (s' := (5, [some (.ref ((sf_ a)))], [.int (ei_ ((-1))), .int (ei_ (x15))], m)) rfl ?_
        refine pw_cmpF rfl ⟨rx15, sx15⟩ (by decide) (show ¬ (¬ x15 = (-1)) by omega) ?_
        refine pw_steps 2 (s' := (13, [some (.ref ((sf_ a)))], [.int (ei_ (1))], m)) rfl ?_
        refine pw_iret rfl rfl rfl ?_
        refine pw_ifF rfl (by decide) (show ¬ (1 = 0) by decide) ?_
        refine pw_steps 1 (s' := (23, [some (.ref 0), some (.int (ei_ (a))), some (.int (ei_ (b)))], [.int (ei_ ((-11)))], m)) rfl ?_
        refine pw_iret rfl rfl rfl ?_
        refine pw_ifT rfl (by decide) (show ¬ (-11) = 0 by decide) ?_
        refine pw_steps 1 (s' := (25, [some (.ref 0), some (.int (ei_ (a))), some (.int (ei_ (b)))], [.long (el_ ((-9223372036854775808)))], m)) rfl ?_
        refine pw_lret rfl rfl ?_
        refine pw_intro (I := iX9_element) (T := tX9_element) rfl rfl rfl ?_
        refine pw_steps 3 (s' := (3, [some (.ref 47), some (.int (ei_ (a))), some (.int (ei_ (b)))], [.int (ei_ (b)), .int (ei_ (a)), .ref 47], m)) rfl ?_
        refine pw_call (As := [.int (ei_ (a)), .int (ei_ (b))]) (st := []) (k := 47) rfl rfl rfl rfl rfl (Nat.le_of_ble_eq_true rfl) ?_
        refine pw_intro (I := iX9_refusal) (T := tX9_refusal) rfl rfl rfl ?_
        refine pw_steps 1 (s' := (1, [some (.ref 47), some (.int (ei_ (a))), some (.int (ei_ (b)))], [.int (ei_ (a))], m)) rfl ?_
        refine pw_callS (As := [.int (ei_ (a))]) (st := []) rfl (by decide) rfl rfl (Nat.le_of_ble_eq_true rfl) ?_
        refine pw_intro (I := iX9_isShelf) (T := tX9_isShelf) rfl rfl rfl ?_
        refine pw_steps 4 (s' := (6, [some (.int (ei_ (a)))], [.long (el_ (5)), .long (el_ (0)), .long ((ei_ (a)).toInt64)], m)) rfl ?_
        refine pw_cv (congrArg (fun z_ : Int64 => ((6, [some (.int (ei_ (a)))], [.long (el_ (5)), .long (el_ (0)), .long z_], m) : am_S)) (el_i2l q0 rfl)) ?_
        refine pw_callS (As := [.long (el_ (a)), .long (el_ (0)), .long (el_ (5))]) (st := []) rfl (by decide) rfl rfl (Nat.le_of_ble_eq_true rfl) ?_
        refine mt_within (by omega) (by omega) (by omega) (fun g16 g17 => ?_) (fun g18 => ?_) (fun g19 => ?_)
        · refine pw_iret rfl rfl rfl ?_
          refine pw_ifT rfl (by decide) (show ¬ 1 = 0 by decide) ?_
          refine pw_steps 3 (s' := (14, [some (.ref 47), some (.int (ei_ (a))), some (.int (ei_ (b)))], [.int (ei_ (a)), .ref 68], m)) rfl ?_
          refine pw_ild rfl rfl (by omega) (fun x20 (hx20 : x20 = vi_ m 68 a) rx20 sx20 => ?_)
          refine pw_ifF rfl ⟨rx20, sx20⟩ (show ¬ (0 ≤ x20) by omega) ?_
          refine pw_steps 1 (s' := (20, [some (.ref 47), some (.int (ei_ (a))), some (.int (ei_ (b)))], [.int (ei_ ((-11)))], m)) rfl ?_
          refine pw_iret rfl rfl rfl ?_
          refine pw_ifF rfl (by decide) (show ¬ ((-11) = 0) by decide) ?_
          refine pw_steps 2 (s' := (26, [some (.ref 47), some (.int (ei_ (a))), some (.int (ei_ (b)))], [.long (el_ ((-9223372036854775808)))], m)) rfl ?_
          refine pw_lret rfl rfl ?_
          have hx_ : ((-9223372036854775808) : Int) = (-9223372036854775808) := by rfl
          exact ⟨(-9223372036854775808), rfl, congrArg (fun z_ : Int => some (Value.long (el_ z_))) hx_, rR_sm (sm_rfl m) hR⟩
        · exact False.elim (by omega)
        · exact False.elim (by omega)
      · refine pw_call (As := []) (st := []) (k := (sf_ a)) rfl rfl rfl (sf_sk (by omega)) rfl (Nat.le_of_ble_eq_true rfl) ?_
        refine pw_intro (I := iX5_isEmpty) (T := tX5_isEmpty) rfl rfl rfl ?_
        refine pw_steps 1 (s' := (1, [some (.ref ((sf_ a)))], [.ref ((sf_ a))], m)) rfl ?_
        refine pw_get rfl (sf_ok (a := a) (by omega)).1 (fun x21 (hx21 : x21 = vi_ m (sf_ a) 0) rx21 sx21 => ?_)
        refine pw_steps 1 (s' := (5, [some (.ref ((sf_ a)))], [.int (ei_ ((-1))), .int (ei_ (x21))], m)) rfl ?_
        refine pw_cmpT rfl ⟨rx21, sx21⟩ (by decide) (show ¬ x21 = (-1) by omega) ?_
        refine pw_steps 1 (s' := (13, [some (.ref ((sf_ a)))], [.int (ei_ (0))], m)) rfl ?_
        refine pw_iret rfl rfl rfl ?_
        refine pw_ifT rfl (by decide) (show 0 = 0 by decide) ?_
        refine pw_steps 3 (s' := (29, [some (.ref 0), some (.int (ei_ (a))), some (.int (ei_ (b)))], [.int (ei_ (a)), .ref 32], m)) rfl ?_
        refine pw_ald (r0 := (sf_ a)) rfl rfl (sf_ln (by omega)) (sf_al (by omega)) ?_
        refine pw_call (As := []) (st := []) (k := (sf_ a)) rfl rfl rfl (sf_sk (by omega)) rfl (Nat.le_of_ble_eq_true rfl) ?_
        refine pw_intro (I := iX5_isRow) (T := tX5_isRow) rfl rfl rfl ?_
        refine pw_steps 1 (s' := (1, [some (.ref ((sf_ a)))], [.ref ((sf_ a))], m)) rfl ?_
        refine pw_getE (x := x21) rfl (sf_ok (a := a) (by omega)).1 hx21 ?_
        refine pw_ifT rfl ⟨rx21, sx21⟩ (show x21 < 0 by omega) ?_
        refine pw_steps 1 (s' := (12, [some (.ref ((sf_ a)))], [.int (ei_ (0))], m)) rfl ?_
        refine pw_iret rfl rfl rfl ?_
        refine pw_ifF rfl (by decide) (show ¬ (¬ 0 = 0) by decide) ?_
        refine pw_steps 1 (s' := (38, [some (.ref 0), some (.int (ei_ (a))), some (.int (ei_ (b)))], [.int (ei_ ((-12)))], m)) rfl ?_
        refine pw_iret rfl rfl rfl ?_
        refine pw_ifT rfl (by decide) (show ¬ (-12) = 0 by decide) ?_
        refine pw_steps 1 (s' := (25, [some (.ref 0), some (.int (ei_ (a))), some (.int (ei_ (b)))], [.long (el_ ((-9223372036854775808)))], m)) rfl ?_
        refine pw_lret rfl rfl ?_
        refine pw_intro (I := iX9_element) (T := tX9_element) rfl rfl rfl ?_
        refine pw_steps 3 (s' := (3, [some (.ref 47), some (.int (ei_ (a))), some (.int (ei_ (b)))], [.int (ei_ (b)), .int (ei_ (a)), .ref 47], m)) rfl ?_
        refine pw_call (As := [.int (ei_ (a)), .int (ei_ (b))]) (st := []) (k := 47) rfl rfl rfl rfl rfl (Nat.le_of_ble_eq_true rfl) ?_
        refine pw_intro (I := iX9_refusal) (T := tX9_refusal) rfl rfl rfl ?_
        refine pw_steps 1 (s' := (1, [some (.ref 47), some (.int (ei_ (a))), some (.int (ei_ (b)))], [.int (ei_ (a))], m)) rfl ?_
        refine pw_callS (As := [.int (ei_ (a))]) (st := []) rfl (by decide) rfl rfl (Nat.le_of_ble_eq_true rfl) ?_
        refine pw_intro (I := iX9_isShelf) (T := tX9_isShelf) rfl rfl rfl ?_
        refine pw_steps 4 (s' := (6, [some (.int (ei_ (a)))], [.long (el_ (5)), .long (el_ (0)), .long ((ei_ (a)).toInt64)], m)) rfl ?_
        refine pw_cv (congrArg (fun z_ : Int64 => ((6, [some (.int (ei_ (a)))], [.long (el_ (5)), .long (el_ (0)), .long z_], m) : am_S)) (el_i2l q0 rfl)) ?_
        refine pw_callS (As := [.long (el_ (a)), .long (el_ (0)), .long (el_ (5))]) (st := []) rfl (by decide) rfl rfl (Nat.le_of_ble_eq_true rfl) ?_
        refine mt_within (by omega) (by omega) (by omega) (fun g22 g23 => ?_) (fun g24 => ?_) (fun g25 => ?_)
        · refine pw_iret rfl rfl rfl ?_
          refine pw_ifT rfl (by decide) (show ¬ 1 = 0 by decide) ?_
          refine pw_steps 3 (s' := (14, [some (.ref 47), some (.int (ei_ (a))), some (.int (ei_ (b)))], [.int (ei_ (a)), .ref 68], m)) rfl ?_
          refine pw_ild rfl rfl (by omega) (fun x26 (hx26 : x26 = vi_ m 68 a) rx26 sx26 => ?_)
          refine pw_ifT rfl ⟨rx26, sx26⟩ (show 0 ≤ x26 by omega) ?_
          refine pw_steps 3 (s' := (26, [some (.ref 47), some (.int (ei_ (a))), some (.int (ei_ (b)))], [.int (ei_ (a)), .ref 68], m)) rfl ?_
          refine pw_ildE (x := x26) rfl rfl (by omega) hx26 ?_
          refine pw_steps 1 (s' := (29, [some (.ref 47), some (.int (ei_ (a))), some (.int (ei_ (b)))], [.int (ei_ (50)), .int (ei_ (x26))], m)) rfl ?_
          refine pw_cmpF rfl ⟨rx26, sx26⟩ (by decide) (show ¬ (50 ≤ x26) by omega) ?_
          refine pw_steps 1 (s' := (34, [some (.ref 47), some (.int (ei_ (a))), some (.int (ei_ (b)))], [.int (ei_ ((-12)))], m)) rfl ?_
          refine pw_iret rfl rfl rfl ?_
          refine pw_ifF rfl (by decide) (show ¬ ((-12) = 0) by decide) ?_
          refine pw_steps 2 (s' := (26, [some (.ref 47), some (.int (ei_ (a))), some (.int (ei_ (b)))], [.long (el_ ((-9223372036854775808)))], m)) rfl ?_
          refine pw_lret rfl rfl ?_
          have hx_ : ((-9223372036854775808) : Int) = (-9223372036854775808) := by rfl
          exact ⟨(-9223372036854775808), rfl, congrArg (fun z_ : Int => some (Value.long (el_ z_))) hx_, rR_sm (sm_rfl m) hR⟩
        · exact False.elim (by omega)
        · exact False.elim (by omega)
      · refine pw_call (As := []) (st := []) (k := (sf_ a)) rfl rfl rfl (sf_sk (by omega)) rfl (Nat.le_of_ble_eq_true rfl) ?_
        refine pw_intro (I := iX5_isEmpty) (T := tX5_isEmpty) rfl rfl rfl ?_
        refine pw_steps 1 (s' := (1, [some (.ref ((sf_ a)))], [.ref ((sf_ a))], m)) rfl ?_
        refine pw_get rfl (sf_ok (a := a) (by omega)).1 (fun x27 (hx27 : x27 = vi_ m (sf_ a) 0) rx27 sx27 => ?_)
        refine pw_steps 1 (s' := (5, [some (.ref ((sf_ a)))], [.int (ei_ ((-1))), .int (ei_ (x27))], m)) rfl ?_
        refine pw_cmpT rfl ⟨rx27, sx27⟩ (by decide) (show ¬ x27 = (-1) by omega) ?_
        refine pw_steps 1 (s' := (13, [some (.ref ((sf_ a)))], [.int (ei_ (0))], m)) rfl ?_
        refine pw_iret rfl rfl rfl ?_
        refine pw_ifT rfl (by decide) (show 0 = 0 by decide) ?_
        refine pw_steps 3 (s' := (29, [some (.ref 0), some (.int (ei_ (a))), some (.int (ei_ (b)))], [.int (ei_ (a)), .ref 32], m)) rfl ?_
        refine pw_ald (r0 := (sf_ a)) rfl rfl (sf_ln (by omega)) (sf_al (by omega)) ?_
        refine pw_call (As := []) (st := []) (k := (sf_ a)) rfl rfl rfl (sf_sk (by omega)) rfl (Nat.le_of_ble_eq_true rfl) ?_
        refine pw_intro (I := iX5_isRow) (T := tX5_isRow) rfl rfl rfl ?_
        refine pw_steps 1 (s' := (1, [some (.ref ((sf_ a)))], [.ref ((sf_ a))], m)) rfl ?_
        refine pw_getE (x := x27) rfl (sf_ok (a := a) (by omega)).1 hx27 ?_
        refine pw_ifF rfl ⟨rx27, sx27⟩ (show ¬ (x27 < 0) by omega) ?_
        refine pw_steps 2 (s' := (12, [some (.ref ((sf_ a)))], [.int (ei_ (1))], m)) rfl ?_
        refine pw_iret rfl rfl rfl ?_
        refine pw_ifT rfl (by decide) (show ¬ 1 = 0 by decide) ?_
        refine pw_steps 3 (s' := (44, [some (.ref 0), some (.int (ei_ (a))), some (.int (ei_ (b)))], [.int (ei_ (a)), .ref 32], m)) rfl ?_
        refine pw_ald (r0 := (sf_ a)) rfl rfl (sf_ln (by omega)) (sf_al (by omega)) ?_
        refine pw_steps 2 (s' := (47, [some (.ref 0), some (.int (ei_ (a))), some (.int (ei_ (b)))], [.int (ei_ (1)), .int (ei_ (b)), .ref ((sf_ a))], m)) rfl ?_
        refine pw_call (As := [.int (ei_ (b)), .int (ei_ (1))]) (st := []) (k := (sf_ a)) rfl rfl rfl (sf_sk (by omega)) rfl (Nat.le_of_ble_eq_true rfl) ?_
        refine pw_intro (I := iX5_hasPlaces) (T := tX5_hasPlaces) rfl rfl rfl ?_
        refine pw_steps 1 (s' := (1, [some (.ref ((sf_ a))), some (.int (ei_ (b))), some (.int (ei_ (1)))], [.int (ei_ (b))], m)) rfl ?_
        refine pw_if rfl q1 (fun (h28 : b < 0) => ?_) (fun (h28 : ¬ (b < 0)) => ?_)
        · refine pw_steps 1 (s' := (31, [some (.ref ((sf_ a))), some (.int (ei_ (b))), some (.int (ei_ (1)))], [.int (ei_ (0))], m)) rfl ?_
          refine pw_iret rfl rfl rfl ?_
          refine pw_ifT rfl (by decide) (show 0 = 0 by decide) ?_
          refine pw_steps 1 (s' := (59, [some (.ref 0), some (.int (ei_ (a))), some (.int (ei_ (b)))], [.int (ei_ ((-13)))], m)) rfl ?_
          refine pw_iret rfl rfl rfl ?_
          refine pw_ifT rfl (by decide) (show ¬ (-13) = 0 by decide) ?_
          refine pw_steps 1 (s' := (25, [some (.ref 0), some (.int (ei_ (a))), some (.int (ei_ (b)))], [.long (el_ ((-9223372036854775808)))], m)) rfl ?_
          refine pw_lret rfl rfl ?_
          refine pw_intro (I := iX9_element) (T := tX9_element) rfl rfl rfl ?_
          refine pw_steps 3 (s' := (3, [some (.ref 47), some (.int (ei_ (a))), some (.int (ei_ (b)))], [.int (ei_ (b)), .int (ei_ (a)), .ref 47], m)) rfl ?_
          refine pw_call (As := [.int (ei_ (a)), .int (ei_ (b))]) (st := []) (k := 47) rfl rfl rfl rfl rfl (Nat.le_of_ble_eq_true rfl) ?_
          refine pw_intro (I := iX9_refusal) (T := tX9_refusal) rfl rfl rfl ?_
          refine pw_steps 1 (s' := (1, [some (.ref 47), some (.int (ei_ (a))), some (.int (ei_ (b)))], [.int (ei_ (a))], m)) rfl ?_
          refine pw_callS (As := [.int (ei_ (a))]) (st := []) rfl (by decide) rfl rfl (Nat.le_of_ble_eq_true rfl) ?_
          refine pw_intro (I := iX9_isShelf) (T := tX9_isShelf) rfl rfl rfl ?_
          refine pw_steps 4 (s' := (6, [some (.int (ei_ (a)))], [.long (el_ (5)), .long (el_ (0)), .long ((ei_ (a)).toInt64)], m)) rfl ?_
          refine pw_cv (congrArg (fun z_ : Int64 => ((6, [some (.int (ei_ (a)))], [.long (el_ (5)), .long (el_ (0)), .long z_], m) : am_S)) (el_i2l q0 rfl)) ?_
          refine pw_callS (As := [.long (el_ (a)), .long (el_ (0)), .long (el_ (5))]) (st := []) rfl (by decide) rfl rfl (Nat.le_of_ble_eq_true rfl) ?_
          refine mt_within (by omega) (by omega) (by omega) (fun g29 g30 => ?_) (fun g31 => ?_) (fun g32 => ?_)
          · refine pw_iret rfl rfl rfl ?_
            refine pw_ifT rfl (by decide) (show ¬ 1 = 0 by decide) ?_
            refine pw_steps 3 (s' := (14, [some (.ref 47), some (.int (ei_ (a))), some (.int (ei_ (b)))], [.int (ei_ (a)), .ref 68], m)) rfl ?_
            refine pw_ild rfl rfl (by omega) (fun x33 (hx33 : x33 = vi_ m 68 a) rx33 sx33 => ?_)
            refine pw_ifT rfl ⟨rx33, sx33⟩ (show 0 ≤ x33 by omega) ?_
            refine pw_steps 3 (s' := (26, [some (.ref 47), some (.int (ei_ (a))), some (.int (ei_ (b)))], [.int (ei_ (a)), .ref 68], m)) rfl ?_
            refine pw_ildE (x := x33) rfl rfl (by omega) hx33 ?_
            refine pw_steps 1 (s' := (29, [some (.ref 47), some (.int (ei_ (a))), some (.int (ei_ (b)))], [.int (ei_ (50)), .int (ei_ (x33))], m)) rfl ?_
            refine pw_cmpT rfl ⟨rx33, sx33⟩ (by decide) (show 50 ≤ x33 by omega) ?_
            refine pw_steps 1 (s' := (36, [some (.ref 47), some (.int (ei_ (a))), some (.int (ei_ (b)))], [.int (ei_ (b))], m)) rfl ?_
            refine pw_ifT rfl q1 (show b < 0 by omega) ?_
            refine pw_steps 1 (s' := (55, [some (.ref 47), some (.int (ei_ (a))), some (.int (ei_ (b)))], [.int (ei_ ((-13)))], m)) rfl ?_
            refine pw_iret rfl rfl rfl ?_
            refine pw_ifF rfl (by decide) (show ¬ ((-13) = 0) by decide) ?_
            refine pw_steps 2 (s' := (26, [some (.ref 47), some (.int (ei_ (a))), some (.int (ei_ (b)))], [.long (el_ ((-9223372036854775808)))], m)) rfl ?_
            refine pw_lret rfl rfl ?_
            have hx_ : ((-9223372036854775808) : Int) = (-9223372036854775808) := by rfl
            exact ⟨(-9223372036854775808), rfl, congrArg (fun z_ : Int => some (Value.long (el_ z_))) hx_, rR_sm (sm_rfl m) hR⟩
          · exact False.elim (by omega)
          · exact False.elim (by omega)
        · refine pw_steps 1 (s' := (5, [some (.ref ((sf_ a))), some (.int (ei_ (b))), some (.int (ei_ (1)))], [.int (ei_ (1))], m)) rfl ?_
          refine pw_ifF rfl (by decide) (show ¬ (1 < 0) by decide) ?_
          refine pw_steps 2 (s' := (10, [some (.ref ((sf_ a))), some (.int (ei_ (b))), some (.int (ei_ (1)))], [.ref ((sf_ a)), .int (ei_ (1))], m)) rfl ?_
          refine pw_get rfl (sf_ok (a := a) (by omega)).2.2.1 (fun x34 (hx34 : x34 = vi_ m (sf_ a) 2) rx34 sx34 => ?_)
          refine pw_cmp rfl (by decide) ⟨rx34, sx34⟩ (fun (h35 : x34 < 1) => ?_) (fun (h35 : ¬ (x34 < 1)) => ?_)
          · refine pw_steps 1 (s' := (31, [some (.ref ((sf_ a))), some (.int (ei_ (b))), some (.int (ei_ (1)))], [.int (ei_ (0))], m)) rfl ?_
            refine pw_iret rfl rfl rfl ?_
            refine pw_ifT rfl (by decide) (show 0 = 0 by decide) ?_
            refine pw_steps 1 (s' := (59, [some (.ref 0), some (.int (ei_ (a))), some (.int (ei_ (b)))], [.int (ei_ ((-13)))], m)) rfl ?_
            refine pw_iret rfl rfl rfl ?_
            refine pw_ifT rfl (by decide) (show ¬ (-13) = 0 by decide) ?_
            refine pw_steps 1 (s' := (25, [some (.ref 0), some (.int (ei_ (a))), some (.int (ei_ (b)))], [.long (el_ ((-9223372036854775808)))], m)) rfl ?_
            refine pw_lret rfl rfl ?_
            refine pw_intro (I := iX9_element) (T := tX9_element) rfl rfl rfl ?_
            refine pw_steps 3 (s' := (3, [some (.ref 47), some (.int (ei_ (a))), some (.int (ei_ (b)))], [.int (ei_ (b)), .int (ei_ (a)), .ref 47], m)) rfl ?_
            refine pw_call (As := [.int (ei_ (a)), .int (ei_ (b))]) (st := []) (k := 47) rfl rfl rfl rfl rfl (Nat.le_of_ble_eq_true rfl) ?_
            refine pw_intro (I := iX9_refusal) (T := tX9_refusal) rfl rfl rfl ?_
            refine pw_steps 1 (s' := (1, [some (.ref 47), some (.int (ei_ (a))), some (.int (ei_ (b)))], [.int (ei_ (a))], m)) rfl ?_
            refine pw_callS (As := [.int (ei_ (a))]) (st := []) rfl (by decide) rfl rfl (Nat.le_of_ble_eq_true rfl) ?_
            refine pw_intro (I := iX9_isShelf) (T := tX9_isShelf) rfl rfl rfl ?_
            refine pw_steps 4 (s' := (6, [some (.int (ei_ (a)))], [.long (el_ (5)), .long (el_ (0)), .long ((ei_ (a)).toInt64)], m)) rfl ?_
            refine pw_cv (congrArg (fun z_ : Int64 => ((6, [some (.int (ei_ (a)))], [.long (el_ (5)), .long (el_ (0)), .long z_], m) : am_S)) (el_i2l q0 rfl)) ?_
            refine pw_callS (As := [.long (el_ (a)), .long (el_ (0)), .long (el_ (5))]) (st := []) rfl (by decide) rfl rfl (Nat.le_of_ble_eq_true rfl) ?_
            refine mt_within (by omega) (by omega) (by omega) (fun g36 g37 => ?_) (fun g38 => ?_) (fun g39 => ?_)
            · refine pw_iret rfl rfl rfl ?_
              refine pw_ifT rfl (by decide) (show ¬ 1 = 0 by decide) ?_
              refine pw_steps 3 (s' := (14, [some (.ref 47), some (.int (ei_ (a))), some (.int (ei_ (b)))], [.int (ei_ (a)), .ref 68], m)) rfl ?_
              refine pw_ild rfl rfl (by omega) (fun x40 (hx40 : x40 = vi_ m 68 a) rx40 sx40 => ?_)
              refine pw_ifT rfl ⟨rx40, sx40⟩ (show 0 ≤ x40 by omega) ?_
              refine pw_steps 3 (s' := (26, [some (.ref 47), some (.int (ei_ (a))), some (.int (ei_ (b)))], [.int (ei_ (a)), .ref 68], m)) rfl ?_
              refine pw_ildE (x := x40) rfl rfl (by omega) hx40 ?_
              refine pw_steps 1 (s' := (29, [some (.ref 47), some (.int (ei_ (a))), some (.int (ei_ (b)))], [.int (ei_ (50)), .int (ei_ (x40))], m)) rfl ?_
              refine pw_cmpT rfl ⟨rx40, sx40⟩ (by decide) (show 50 ≤ x40 by omega) ?_
              refine pw_steps 1 (s' := (36, [some (.ref 47), some (.int (ei_ (a))), some (.int (ei_ (b)))], [.int (ei_ (b))], m)) rfl ?_
              refine pw_ifF rfl q1 (show ¬ (b < 0) by omega) ?_
              refine pw_steps 4 (s' := (45, [some (.ref 47), some (.int (ei_ (a))), some (.int (ei_ (b)))], [.int (ei_ (a)), .ref 69, .int (ei_ (b))], m)) rfl ?_
              refine pw_ild rfl rfl (by omega) (fun x41 (hx41 : x41 = vi_ m 69 a) rx41 sx41 => ?_)
              refine pw_cmpT rfl q1 ⟨rx41, sx41⟩ (show x41 ≤ b by omega) ?_
              refine pw_steps 1 (s' := (55, [some (.ref 47), some (.int (ei_ (a))), some (.int (ei_ (b)))], [.int (ei_ ((-13)))], m)) rfl ?_
              refine pw_iret rfl rfl rfl ?_
              refine pw_ifF rfl (by decide) (show ¬ ((-13) = 0) by decide) ?_
              refine pw_steps 2 (s' := (26, [some (.ref 47), some (.int (ei_ (a))), some (.int (ei_ (b)))], [.long (el_ ((-9223372036854775808)))], m)) rfl ?_
              refine pw_lret rfl rfl ?_
              have hx_ : ((-9223372036854775808) : Int) = (-9223372036854775808) := by rfl
              exact ⟨(-9223372036854775808), rfl, congrArg (fun z_ : Int => some (Value.long (el_ z_))) hx_, rR_sm (sm_rfl m) hR⟩
            · exact False.elim (by omega)
            · exact False.elim (by omega)
          · refine pw_steps 2 (s' := (18, [some (.ref ((sf_ a))), some (.int (ei_ (b))), some (.int (ei_ (1)))], [.ref ((sf_ a)), .int (ei_ (b))], m)) rfl ?_
            refine pw_getE (x := x34) rfl (sf_ok (a := a) (by omega)).2.2.1 hx34 ?_
            refine pw_steps 2 (s' := (23, [some (.ref ((sf_ a))), some (.int (ei_ (b))), some (.int (ei_ (1)))], [.int ((ei_ (x34)) - (ei_ (1))), .int (ei_ (b))], m)) rfl ?_
            refine pw_cv (congrArg (fun z_ : Int32 => ((23, [some (.ref ((sf_ a))), some (.int (ei_ (b))), some (.int (ei_ (1)))], [.int z_, .int (ei_ (b))], m) : am_S)) (ei_sub rfl rfl)) ?_
            refine pw_cmp rfl q1 (by omega) (fun (h42 : (x34 - 1) < b) => ?_) (fun (h42 : ¬ ((x34 - 1) < b)) => ?_)
            · refine pw_steps 1 (s' := (31, [some (.ref ((sf_ a))), some (.int (ei_ (b))), some (.int (ei_ (1)))], [.int (ei_ (0))], m)) rfl ?_
              refine pw_iret rfl rfl rfl ?_
              refine pw_ifT rfl (by decide) (show 0 = 0 by decide) ?_
              refine pw_steps 1 (s' := (59, [some (.ref 0), some (.int (ei_ (a))), some (.int (ei_ (b)))], [.int (ei_ ((-13)))], m)) rfl ?_
              refine pw_iret rfl rfl rfl ?_
              refine pw_ifT rfl (by decide) (show ¬ (-13) = 0 by decide) ?_
              refine pw_steps 1 (s' := (25, [some (.ref 0), some (.int (ei_ (a))), some (.int (ei_ (b)))], [.long (el_ ((-9223372036854775808)))], m)) rfl ?_
              refine pw_lret rfl rfl ?_
              refine pw_intro (I := iX9_element) (T := tX9_element) rfl rfl rfl ?_
              refine pw_steps 3 (s' := (3, [some (.ref 47), some (.int (ei_ (a))), some (.int (ei_ (b)))], [.int (ei_ (b)), .int (ei_ (a)), .ref 47], m)) rfl ?_
              refine pw_call (As := [.int (ei_ (a)), .int (ei_ (b))]) (st := []) (k := 47) rfl rfl rfl rfl rfl (Nat.le_of_ble_eq_true rfl) ?_
              refine pw_intro (I := iX9_refusal) (T := tX9_refusal) rfl rfl rfl ?_
              refine pw_steps 1 (s' := (1, [some (.ref 47), some (.int (ei_ (a))), some (.int (ei_ (b)))], [.int (ei_ (a))], m)) rfl ?_
              refine pw_callS (As := [.int (ei_ (a))]) (st := []) rfl (by decide) rfl rfl (Nat.le_of_ble_eq_true rfl) ?_
              refine pw_intro (I := iX9_isShelf) (T := tX9_isShelf) rfl rfl rfl ?_
              refine pw_steps 4 (s' := (6, [some (.int (ei_ (a)))], [.long (el_ (5)), .long (el_ (0)), .long ((ei_ (a)).toInt64)], m)) rfl ?_
              refine pw_cv (congrArg (fun z_ : Int64 => ((6, [some (.int (ei_ (a)))], [.long (el_ (5)), .long (el_ (0)), .long z_], m) : am_S)) (el_i2l q0 rfl)) ?_
              refine pw_callS (As := [.long (el_ (a)), .long (el_ (0)), .long (el_ (5))]) (st := []) rfl (by decide) rfl rfl (Nat.le_of_ble_eq_true rfl) ?_
              refine mt_within (by omega) (by omega) (by omega) (fun g43 g44 => ?_) (fun g45 => ?_) (fun g46 => ?_)
              · refine pw_iret rfl rfl rfl ?_
                refine pw_ifT rfl (by decide) (show ¬ 1 = 0 by decide) ?_
                refine pw_steps 3 (s' := (14, [some (.ref 47), some (.int (ei_ (a))), some (.int (ei_ (b)))], [.int (ei_ (a)), .ref 68], m)) rfl ?_
                refine pw_ild rfl rfl (by omega) (fun x47 (hx47 : x47 = vi_ m 68 a) rx47 sx47 => ?_)
                refine pw_ifT rfl ⟨rx47, sx47⟩ (show 0 ≤ x47 by omega) ?_
                refine pw_steps 3 (s' := (26, [some (.ref 47), some (.int (ei_ (a))), some (.int (ei_ (b)))], [.int (ei_ (a)), .ref 68], m)) rfl ?_
                refine pw_ildE (x := x47) rfl rfl (by omega) hx47 ?_
                refine pw_steps 1 (s' := (29, [some (.ref 47), some (.int (ei_ (a))), some (.int (ei_ (b)))], [.int (ei_ (50)), .int (ei_ (x47))], m)) rfl ?_
                refine pw_cmpT rfl ⟨rx47, sx47⟩ (by decide) (show 50 ≤ x47 by omega) ?_
                refine pw_steps 1 (s' := (36, [some (.ref 47), some (.int (ei_ (a))), some (.int (ei_ (b)))], [.int (ei_ (b))], m)) rfl ?_
                refine pw_ifF rfl q1 (show ¬ (b < 0) by omega) ?_
                refine pw_steps 4 (s' := (45, [some (.ref 47), some (.int (ei_ (a))), some (.int (ei_ (b)))], [.int (ei_ (a)), .ref 69, .int (ei_ (b))], m)) rfl ?_
                refine pw_ild rfl rfl (by omega) (fun x48 (hx48 : x48 = vi_ m 69 a) rx48 sx48 => ?_)
                refine pw_cmpT rfl q1 ⟨rx48, sx48⟩ (show x48 ≤ b by omega) ?_
                refine pw_steps 1 (s' := (55, [some (.ref 47), some (.int (ei_ (a))), some (.int (ei_ (b)))], [.int (ei_ ((-13)))], m)) rfl ?_
                refine pw_iret rfl rfl rfl ?_
                refine pw_ifF rfl (by decide) (show ¬ ((-13) = 0) by decide) ?_
                refine pw_steps 2 (s' := (26, [some (.ref 47), some (.int (ei_ (a))), some (.int (ei_ (b)))], [.long (el_ ((-9223372036854775808)))], m)) rfl ?_
                refine pw_lret rfl rfl ?_
                have hx_ : ((-9223372036854775808) : Int) = (-9223372036854775808) := by rfl
                exact ⟨(-9223372036854775808), rfl, congrArg (fun z_ : Int => some (Value.long (el_ z_))) hx_, rR_sm (sm_rfl m) hR⟩
              · exact False.elim (by omega)
              · exact False.elim (by omega)
            · refine pw_steps 2 (s' := (31, [some (.ref ((sf_ a))), some (.int (ei_ (b))), some (.int (ei_ (1)))], [.int (ei_ (1))], m)) rfl ?_
              refine pw_iret rfl rfl rfl ?_
              refine pw_ifF rfl (by decide) (show ¬ (1 = 0) by decide) ?_
              refine pw_steps 2 (s' := (59, [some (.ref 0), some (.int (ei_ (a))), some (.int (ei_ (b)))], [.int (ei_ (0))], m)) rfl ?_
              refine pw_iret rfl rfl rfl ?_
              refine pw_ifF rfl (by decide) (show ¬ (¬ 0 = 0) by decide) ?_
              refine pw_steps 3 (s' := (14, [some (.ref 0), some (.int (ei_ (a))), some (.int (ei_ (b)))], [.int (ei_ (a)), .ref 32], m)) rfl ?_
              refine pw_ald (r0 := (sf_ a)) rfl rfl (sf_ln (by omega)) (sf_al (by omega)) ?_
              refine pw_steps 1 (s' := (16, [some (.ref 0), some (.int (ei_ (a))), some (.int (ei_ (b)))], [.int (ei_ (b)), .ref ((sf_ a))], m)) rfl ?_
              refine pw_call (As := [.int (ei_ (b))]) (st := []) (k := (sf_ a)) rfl rfl rfl (sf_sk (by omega)) rfl (Nat.le_of_ble_eq_true rfl) ?_
              refine pw_intro (I := iX5_get) (T := tX5_get) rfl rfl rfl ?_
              refine pw_steps 3 (s' := (3, [some (.ref ((sf_ a))), some (.int (ei_ (b)))], [.int (ei_ (1)), .int (ei_ (b)), .ref ((sf_ a))], m)) rfl ?_
              refine pw_call (As := [.int (ei_ (b)), .int (ei_ (1))]) (st := []) (k := (sf_ a)) rfl rfl rfl (sf_sk (by omega)) rfl (Nat.le_of_ble_eq_true rfl) ?_
              refine pw_intro (I := iX5_hasPlaces) (T := tX5_hasPlaces) rfl rfl rfl ?_
              refine pw_steps 1 (s' := (1, [some (.ref ((sf_ a))), some (.int (ei_ (b))), some (.int (ei_ (1)))], [.int (ei_ (b))], m)) rfl ?_
              refine pw_ifF rfl q1 (show ¬ (b < 0) by omega) ?_
              refine pw_steps 1 (s' := (5, [some (.ref ((sf_ a))), some (.int (ei_ (b))), some (.int (ei_ (1)))], [.int (ei_ (1))], m)) rfl ?_
              refine pw_ifF rfl (by decide) (show ¬ (1 < 0) by decide) ?_
              refine pw_steps 2 (s' := (10, [some (.ref ((sf_ a))), some (.int (ei_ (b))), some (.int (ei_ (1)))], [.ref ((sf_ a)), .int (ei_ (1))], m)) rfl ?_
              refine pw_getE (x := x34) rfl (sf_ok (a := a) (by omega)).2.2.1 hx34 ?_
              refine pw_cmpF rfl (by decide) ⟨rx34, sx34⟩ (show ¬ (x34 < 1) by omega) ?_
              refine pw_steps 2 (s' := (18, [some (.ref ((sf_ a))), some (.int (ei_ (b))), some (.int (ei_ (1)))], [.ref ((sf_ a)), .int (ei_ (b))], m)) rfl ?_
              refine pw_getE (x := x34) rfl (sf_ok (a := a) (by omega)).2.2.1 hx34 ?_
              refine pw_steps 2 (s' := (23, [some (.ref ((sf_ a))), some (.int (ei_ (b))), some (.int (ei_ (1)))], [.int ((ei_ (x34)) - (ei_ (1))), .int (ei_ (b))], m)) rfl ?_
              refine pw_cv (congrArg (fun z_ : Int32 => ((23, [some (.ref ((sf_ a))), some (.int (ei_ (b))), some (.int (ei_ (1)))], [.int z_, .int (ei_ (b))], m) : am_S)) (ei_sub rfl rfl)) ?_
              refine pw_cmpF rfl q1 (by omega) (show ¬ ((x34 - 1) < b) by omega) ?_
              refine pw_steps 2 (s' := (31, [some (.ref ((sf_ a))), some (.int (ei_ (b))), some (.int (ei_ (1)))], [.int (ei_ (1))], m)) rfl ?_
              refine pw_iret rfl rfl rfl ?_
              refine pw_ifF rfl (by decide) (show ¬ (1 = 0) by decide) ?_
              refine pw_steps 1 (s' := (10, [some (.ref ((sf_ a))), some (.int (ei_ (b)))], [.ref ((sf_ a))], m)) rfl ?_
              refine pw_getR (r := (sf_ a) + 1) rfl (sf_ok (a := a) (by omega)).2.2.2.1 ?_
              refine pw_steps 1 (s' := (14, [some (.ref ((sf_ a))), some (.int (ei_ (b)))], [.int (ei_ (b)), .ref ((sf_ a) + 1)], m)) rfl ?_
              refine pw_lld rfl (sf_ok (a := a) (by omega)).2.2.2.2 (by omega) (fun y49 (hy49 : y49 = vl_ m ((sf_ a) + 1) b) ry49 sy49 => ?_)
              refine pw_steps 1 (s' := (19, [some (.ref ((sf_ a))), some (.int (ei_ (b)))], [.long (el_ (y49))], m)) rfl ?_
              refine pw_lret rfl rfl ?_
              refine pw_steps 1 (s' := (25, [some (.ref 0), some (.int (ei_ (a))), some (.int (ei_ (b)))], [.long (el_ (y49))], m)) rfl ?_
              refine pw_lret rfl rfl ?_
              refine pw_intro (I := iX9_element) (T := tX9_element) rfl rfl rfl ?_
              refine pw_steps 3 (s' := (3, [some (.ref 47), some (.int (ei_ (a))), some (.int (ei_ (b)))], [.int (ei_ (b)), .int (ei_ (a)), .ref 47], m)) rfl ?_
              refine pw_call (As := [.int (ei_ (a)), .int (ei_ (b))]) (st := []) (k := 47) rfl rfl rfl rfl rfl (Nat.le_of_ble_eq_true rfl) ?_
              refine pw_intro (I := iX9_refusal) (T := tX9_refusal) rfl rfl rfl ?_
              refine pw_steps 1 (s' := (1, [some (.ref 47), some (.int (ei_ (a))), some (.int (ei_ (b)))], [.int (ei_ (a))], m)) rfl ?_
              refine pw_callS (As := [.int (ei_ (a))]) (st := []) rfl (by decide) rfl rfl (Nat.le_of_ble_eq_true rfl) ?_
              refine pw_intro (I := iX9_isShelf) (T := tX9_isShelf) rfl rfl rfl ?_
              refine pw_steps 4 (s' := (6, [some (.int (ei_ (a)))], [.long (el_ (5)), .long (el_ (0)), .long ((ei_ (a)).toInt64)], m)) rfl ?_
              refine pw_cv (congrArg (fun z_ : Int64 => ((6, [some (.int (ei_ (a)))], [.long (el_ (5)), .long (el_ (0)), .long z_], m) : am_S)) (el_i2l q0 rfl)) ?_
              refine pw_callS (As := [.long (el_ (a)), .long (el_ (0)), .long (el_ (5))]) (st := []) rfl (by decide) rfl rfl (Nat.le_of_ble_eq_true rfl) ?_
              refine mt_within (by omega) (by omega) (by omega) (fun g50 g51 => ?_) (fun g52 => ?_) (fun g53 => ?_)
              · refine pw_iret rfl rfl rfl ?_
                refine pw_ifT rfl (by decide) (show ¬ 1 = 0 by decide) ?_
                refine pw_steps 3 (s' := (14, [some (.ref 47), some (.int (ei_ (a))), some (.int (ei_ (b)))], [.int (ei_ (a)), .ref 68], m)) rfl ?_
                refine pw_ild rfl rfl (by omega) (fun x54 (hx54 : x54 = vi_ m 68 a) rx54 sx54 => ?_)
                refine pw_ifT rfl ⟨rx54, sx54⟩ (show 0 ≤ x54 by omega) ?_
                refine pw_steps 3 (s' := (26, [some (.ref 47), some (.int (ei_ (a))), some (.int (ei_ (b)))], [.int (ei_ (a)), .ref 68], m)) rfl ?_
                refine pw_ildE (x := x54) rfl rfl (by omega) hx54 ?_
                refine pw_steps 1 (s' := (29, [some (.ref 47), some (.int (ei_ (a))), some (.int (ei_ (b)))], [.int (ei_ (50)), .int (ei_ (x54))], m)) rfl ?_
                refine pw_cmpT rfl ⟨rx54, sx54⟩ (by decide) (show 50 ≤ x54 by omega) ?_
                refine pw_steps 1 (s' := (36, [some (.ref 47), some (.int (ei_ (a))), some (.int (ei_ (b)))], [.int (ei_ (b))], m)) rfl ?_
                refine pw_ifF rfl q1 (show ¬ (b < 0) by omega) ?_
                refine pw_steps 4 (s' := (45, [some (.ref 47), some (.int (ei_ (a))), some (.int (ei_ (b)))], [.int (ei_ (a)), .ref 69, .int (ei_ (b))], m)) rfl ?_
                refine pw_ild rfl rfl (by omega) (fun x55 (hx55 : x55 = vi_ m 69 a) rx55 sx55 => ?_)
                refine pw_cmpF rfl q1 ⟨rx55, sx55⟩ (show ¬ (x55 ≤ b) by omega) ?_
                refine pw_steps 2 (s' := (55, [some (.ref 47), some (.int (ei_ (a))), some (.int (ei_ (b)))], [.int (ei_ (0))], m)) rfl ?_
                refine pw_iret rfl rfl rfl ?_
                refine pw_ifT rfl (by decide) (show 0 = 0 by decide) ?_
                refine pw_steps 7 (s' := (25, [some (.ref 47), some (.int (ei_ (a))), some (.int (ei_ (b)))], [.int (((ei_ (60)) * (ei_ (a))) + (ei_ (b))), .ref 70], m)) rfl ?_
                refine pw_cv (congrArg (fun z_ : Int32 => ((25, [some (.ref 47), some (.int (ei_ (a))), some (.int (ei_ (b)))], [.int z_, .ref 70], m) : am_S)) (ei_add (ei_mul rfl rfl) rfl)) ?_
                refine pw_lld rfl rfl (by omega) (fun y56 (hy56 : y56 = vl_ m 70 ((60 * a) + b)) ry56 sy56 => ?_)
                refine pw_lret rfl rfl ?_
                have hx_ : (y56 : Int) = y49 := by rw [hy56, hy49]; exact (hb144 b (by omega) (by omega)).1
                exact ⟨y49, rfl, congrArg (fun z_ : Int => some (Value.long (el_ z_))) hx_, rR_sm (sm_rfl m) hR⟩
              · exact False.elim (by omega)
              · exact False.elim (by omega)

set_option maxHeartbeats 4000000 in
set_option maxRecDepth 20000 in
theorem op_put {q : am_X} {d : Nat} {m : am_M} {a : Int} {b : Int} {c : Int} (q0 : -2147483648 ≤ a ∧ a < 2147483648) (q1 : -2147483648 ≤ b ∧ b < 2147483648) (q2 : -9223372036854775808 ≤ c ∧ c < 9223372036854775808) (hR : rR_ m) : pw_C q (d + 60) 154 [.ref 0, .int (ei_ (a)), .int (ei_ (b)), .long (el_ (c))] m (fun r1 m1 => pw_C q (d + 60) 255 [.ref 47, .int (ei_ (a)), .int (ei_ (b)), .long (el_ (c))] m1 (fun r2 m2 => ∃ x : Int, r1 = some (.int (ei_ x)) ∧ r2 = some (.int (ei_ x)) ∧ rR_ m2)) := by
  obtain ⟨hp, hd, hi, ht, hl, hz, hc, ha, hs⟩ := id hR
  obtain ⟨hP1, hP2, hP3, hP4⟩ := id hp
  have hmw := mW_of hp hd
  have hmf := mF_of hp hd
  obtain ⟨ha1, ha2, ha3, ha4, ha5, ha6⟩ := id ha
  refine pw_intro (I := iX8_put) (T := tX8_put) rfl rfl rfl ?_
  refine pw_steps 3 (s' := (3, [some (.ref 0), some (.int (ei_ (a))), some (.int (ei_ (b))), some (.long (el_ (c))), none, none], [.int (ei_ (b)), .int (ei_ (a)), .ref 0], m)) rfl ?_
  refine pw_call (As := [.int (ei_ (a)), .int (ei_ (b))]) (st := []) (k := 0) rfl rfl rfl rfl rfl (Nat.le_of_ble_eq_true rfl) ?_
  refine pw_intro (I := iX8_refusalOfPlace) (T := tX8_refusalOfPlace) rfl rfl rfl ?_
  refine pw_steps 1 (s' := (1, [some (.ref 0), some (.int (ei_ (a))), some (.int (ei_ (b)))], [.int (ei_ (a))], m)) rfl ?_
  refine pw_callS (As := [.int (ei_ (a))]) (st := []) rfl (by decide) rfl rfl (Nat.le_of_ble_eq_true rfl) ?_
  refine pw_intro (I := iX8_isShelf) (T := tX8_isShelf) rfl rfl rfl ?_
  refine pw_steps 1 (s' := (1, [some (.int (ei_ (a)))], [.int (ei_ (a))], m)) rfl ?_
  refine pw_if rfl q0 (fun (h1 : a < 0) => ?_) (fun (h1 : ¬ (a < 0)) => ?_)
  · refine pw_steps 1 (s' := (15, [some (.int (ei_ (a)))], [.int (ei_ (0))], m)) rfl ?_
    refine pw_iret rfl rfl rfl ?_
    refine pw_ifF rfl (by decide) (show ¬ (¬ 0 = 0) by decide) ?_
    refine pw_steps 1 (s' := (8, [some (.ref 0), some (.int (ei_ (a))), some (.int (ei_ (b)))], [.int (ei_ ((-1)))], m)) rfl ?_
    refine pw_iret rfl rfl rfl ?_
    refine pw_steps 2 (s' := (10, [some (.ref 0), some (.int (ei_ (a))), some (.int (ei_ (b))), some (.long (el_ (c))), none, some (.int (ei_ ((-1))))], [.int (ei_ ((-1)))], m)) rfl ?_
    refine pw_ifF rfl (by decide) (show ¬ ((-1) = 0) by decide) ?_
    refine pw_steps 1 (s' := (15, [some (.ref 0), some (.int (ei_ (a))), some (.int (ei_ (b))), some (.long (el_ (c))), none, some (.int (ei_ ((-1))))], [.int (ei_ ((-1)))], m)) rfl ?_
    refine pw_iret rfl rfl rfl ?_
    refine pw_intro (I := iX9_put) (T := tX9_put) rfl rfl rfl ?_
    refine pw_steps 3 (s' := (3, [some (.ref 47), some (.int (ei_ (a))), some (.int (ei_ (b))), some (.long (el_ (c))), none, none], [.int (ei_ (b)), .int (ei_ (a)), .ref 47], m)) rfl ?_
    refine pw_call (As := [.int (ei_ (a)), .int (ei_ (b))]) (st := []) (k := 47) rfl rfl rfl rfl rfl (Nat.le_of_ble_eq_true rfl) ?_
    refine pw_intro (I := iX9_refusal) (T := tX9_refusal) rfl rfl rfl ?_
    refine pw_steps 1 (s' := (1, [some (.ref 47), some (.int (ei_ (a))), some (.int (ei_ (b)))], [.int (ei_ (a))], m)) rfl ?_
    refine pw_callS (As := [.int (ei_ (a))]) (st := []) rfl (by decide) rfl rfl (Nat.le_of_ble_eq_true rfl) ?_
    refine pw_intro (I := iX9_isShelf) (T := tX9_isShelf) rfl rfl rfl ?_
    refine pw_steps 4 (s' := (6, [some (.int (ei_ (a)))], [.long (el_ (5)), .long (el_ (0)), .long ((ei_ (a)).toInt64)], m)) rfl ?_
    refine pw_cv (congrArg (fun z_ : Int64 => ((6, [some (.int (ei_ (a)))], [.long (el_ (5)), .long (el_ (0)), .long z_], m) : am_S)) (el_i2l q0 rfl)) ?_
    refine pw_callS (As := [.long (el_ (a)), .long (el_ (0)), .long (el_ (5))]) (st := []) rfl (by decide) rfl rfl (Nat.le_of_ble_eq_true rfl) ?_
    refine mt_within (by omega) (by omega) (by omega) (fun g2 g3 => ?_) (fun g4 => ?_) (fun g5 => ?_)
    · exact False.elim (by omega)
    · refine pw_iret rfl rfl rfl ?_
      refine pw_ifF rfl (by decide) (show ¬ (¬ 0 = 0) by decide) ?_
      refine pw_steps 1 (s' := (8, [some (.ref 47), some (.int (ei_ (a))), some (.int (ei_ (b)))], [.int (ei_ ((-1)))], m)) rfl ?_
      refine pw_iret rfl rfl rfl ?_
      refine pw_steps 2 (s' := (10, [some (.ref 47), some (.int (ei_ (a))), some (.int (ei_ (b))), some (.long (el_ (c))), none, some (.int (ei_ ((-1))))], [.int (ei_ ((-1)))], m)) rfl ?_
      refine pw_ifT rfl (by decide) (show ¬ (-1) = 0 by decide) ?_
      refine pw_steps 1 (s' := (39, [some (.ref 47), some (.int (ei_ (a))), some (.int (ei_ (b))), some (.long (el_ (c))), none, some (.int (ei_ ((-1))))], [.int (ei_ ((-1)))], m)) rfl ?_
      refine pw_ifT rfl (by decide) (show ¬ (-1) = 0 by decide) ?_
      refine pw_steps 1 (s' := (48, [some (.ref 47), some (.int (ei_ (a))), some (.int (ei_ (b))), some (.long (el_ (c))), none, some (.int (ei_ ((-1))))], [.int (ei_ ((-1)))], m)) rfl ?_
      refine pw_iret rfl rfl rfl ?_
      exact ⟨(-1), rfl, rfl, hR⟩
    · exact False.elim (by omega)
  · refine pw_steps 2 (s' := (7, [some (.int (ei_ (a)))], [.int (ei_ (6)), .int (ei_ (a))], m)) rfl ?_
    refine pw_cmp rfl q0 (by decide) (fun (h6 : 6 ≤ a) => ?_) (fun (h6 : ¬ (6 ≤ a)) => ?_)
    · refine pw_steps 1 (s' := (15, [some (.int (ei_ (a)))], [.int (ei_ (0))], m)) rfl ?_
      refine pw_iret rfl rfl rfl ?_
      refine pw_ifF rfl (by decide) (show ¬ (¬ 0 = 0) by decide) ?_
      refine pw_steps 1 (s' := (8, [some (.ref 0), some (.int (ei_ (a))), some (.int (ei_ (b)))], [.int (ei_ ((-1)))], m)) rfl ?_
      refine pw_iret rfl rfl rfl ?_
      refine pw_steps 2 (s' := (10, [some (.ref 0), some (.int (ei_ (a))), some (.int (ei_ (b))), some (.long (el_ (c))), none, some (.int (ei_ ((-1))))], [.int (ei_ ((-1)))], m)) rfl ?_
      refine pw_ifF rfl (by decide) (show ¬ ((-1) = 0) by decide) ?_
      refine pw_steps 1 (s' := (15, [some (.ref 0), some (.int (ei_ (a))), some (.int (ei_ (b))), some (.long (el_ (c))), none, some (.int (ei_ ((-1))))], [.int (ei_ ((-1)))], m)) rfl ?_
      refine pw_iret rfl rfl rfl ?_
      refine pw_intro (I := iX9_put) (T := tX9_put) rfl rfl rfl ?_
      refine pw_steps 3 (s' := (3, [some (.ref 47), some (.int (ei_ (a))), some (.int (ei_ (b))), some (.long (el_ (c))), none, none], [.int (ei_ (b)), .int (ei_ (a)), .ref 47], m)) rfl ?_
      refine pw_call (As := [.int (ei_ (a)), .int (ei_ (b))]) (st := []) (k := 47) rfl rfl rfl rfl rfl (Nat.le_of_ble_eq_true rfl) ?_
      refine pw_intro (I := iX9_refusal) (T := tX9_refusal) rfl rfl rfl ?_
      refine pw_steps 1 (s' := (1, [some (.ref 47), some (.int (ei_ (a))), some (.int (ei_ (b)))], [.int (ei_ (a))], m)) rfl ?_
      refine pw_callS (As := [.int (ei_ (a))]) (st := []) rfl (by decide) rfl rfl (Nat.le_of_ble_eq_true rfl) ?_
      refine pw_intro (I := iX9_isShelf) (T := tX9_isShelf) rfl rfl rfl ?_
      refine pw_steps 4 (s' := (6, [some (.int (ei_ (a)))], [.long (el_ (5)), .long (el_ (0)), .long ((ei_ (a)).toInt64)], m)) rfl ?_
      refine pw_cv (congrArg (fun z_ : Int64 => ((6, [some (.int (ei_ (a)))], [.long (el_ (5)), .long (el_ (0)), .long z_], m) : am_S)) (el_i2l q0 rfl)) ?_
      refine pw_callS (As := [.long (el_ (a)), .long (el_ (0)), .long (el_ (5))]) (st := []) rfl (by decide) rfl rfl (Nat.le_of_ble_eq_true rfl) ?_
      refine mt_within (by omega) (by omega) (by omega) (fun g7 g8 => ?_) (fun g9 => ?_) (fun g10 => ?_)
      · exact False.elim (by omega)
      · exact False.elim (by omega)
      · refine pw_iret rfl rfl rfl ?_
        refine pw_ifF rfl (by decide) (show ¬ (¬ 0 = 0) by decide) ?_
        refine pw_steps 1 (s' := (8, [some (.ref 47), some (.int (ei_ (a))), some (.int (ei_ (b)))], [.int (ei_ ((-1)))], m)) rfl ?_
        refine pw_iret rfl rfl rfl ?_
        refine pw_steps 2 (s' := (10, [some (.ref 47), some (.int (ei_ (a))), some (.int (ei_ (b))), some (.long (el_ (c))), none, some (.int (ei_ ((-1))))], [.int (ei_ ((-1)))], m)) rfl ?_
        refine pw_ifT rfl (by decide) (show ¬ (-1) = 0 by decide) ?_
        refine pw_steps 1 (s' := (39, [some (.ref 47), some (.int (ei_ (a))), some (.int (ei_ (b))), some (.long (el_ (c))), none, some (.int (ei_ ((-1))))], [.int (ei_ ((-1)))], m)) rfl ?_
        refine pw_ifT rfl (by decide) (show ¬ (-1) = 0 by decide) ?_
        refine pw_steps 1 (s' := (48, [some (.ref 47), some (.int (ei_ (a))), some (.int (ei_ (b))), some (.long (el_ (c))), none, some (.int (ei_ ((-1))))], [.int (ei_ ((-1)))], m)) rfl ?_
        refine pw_iret rfl rfl rfl ?_
        exact ⟨(-1), rfl, rfl, hR⟩
    · refine pw_steps 2 (s' := (15, [some (.int (ei_ (a)))], [.int (ei_ (1))], m)) rfl ?_
      refine pw_iret rfl rfl rfl ?_
      refine pw_ifT rfl (by decide) (show ¬ 1 = 0 by decide) ?_
      refine pw_steps 3 (s' := (14, [some (.ref 0), some (.int (ei_ (a))), some (.int (ei_ (b)))], [.int (ei_ (a)), .ref 32], m)) rfl ?_
      refine pw_ald (r0 := (sf_ a)) rfl rfl (sf_ln (by omega)) (sf_al (by omega)) ?_
      obtain ⟨hk11, hk12, hk13⟩ := hs a (by omega) (by omega)
      rcases hk13 with ⟨hb141, hb142, hb143⟩ | ⟨hb141, hb142, hb143, hb144, hb145⟩ | ⟨hb141, hb142, hb143, hb144⟩
      · refine pw_call (As := []) (st := []) (k := (sf_ a)) rfl rfl rfl (sf_sk (by omega)) rfl (Nat.le_of_ble_eq_true rfl) ?_
        refine pw_intro (I := iX5_isEmpty) (T := tX5_isEmpty) rfl rfl rfl ?_
        refine pw_steps 1 (s' := (1, [some (.ref ((sf_ a)))], [.ref ((sf_ a))], m)) rfl ?_
        refine pw_get rfl (sf_ok (a := a) (by omega)).1 (fun x15 (hx15 : x15 = vi_ m (sf_ a) 0) rx15 sx15 => ?_)
        refine pw_steps 1 (s' := (5, [some (.ref ((sf_ a)))], [.int (ei_ ((-1))), .int (ei_ (x15))], m)) rfl ?_
        refine pw_cmpF rfl ⟨rx15, sx15⟩ (by decide) (show ¬ (¬ x15 = (-1)) by omega) ?_
        refine pw_steps 2 (s' := (13, [some (.ref ((sf_ a)))], [.int (ei_ (1))], m)) rfl ?_
        refine pw_iret rfl rfl rfl ?_
        refine pw_ifF rfl (by decide) (show ¬ (1 = 0) by decide) ?_
        refine pw_steps 1 (s' := (23, [some (.ref 0), some (.int (ei_ (a))), some (.int (ei_ (b)))], [.int (ei_ ((-11)))], m)) rfl ?_
        refine pw_iret rfl rfl rfl ?_
        refine pw_steps 2 (s' := (10, [some (.ref 0), some (.int (ei_ (a))), some (.int (ei_ (b))), some (.long (el_ (c))), none, some (.int (ei_ ((-11))))], [.int (ei_ ((-11)))], m)) rfl ?_
        refine pw_ifF rfl (by decide) (show ¬ ((-11) = 0) by decide) ?_
        refine pw_steps 1 (s' := (15, [some (.ref 0), some (.int (ei_ (a))), some (.int (ei_ (b))), some (.long (el_ (c))), none, some (.int (ei_ ((-11))))], [.int (ei_ ((-11)))], m)) rfl ?_
        refine pw_iret rfl rfl rfl ?_
        refine pw_intro (I := iX9_put) (T := tX9_put) rfl rfl rfl ?_
        refine pw_steps 3 (s' := (3, [some (.ref 47), some (.int (ei_ (a))), some (.int (ei_ (b))), some (.long (el_ (c))), none, none], [.int (ei_ (b)), .int (ei_ (a)), .ref 47], m)) rfl ?_
        refine pw_call (As := [.int (ei_ (a)), .int (ei_ (b))]) (st := []) (k := 47) rfl rfl rfl rfl rfl (Nat.le_of_ble_eq_true rfl) ?_
        refine pw_intro (I := iX9_refusal) (T := tX9_refusal) rfl rfl rfl ?_
        refine pw_steps 1 (s' := (1, [some (.ref 47), some (.int (ei_ (a))), some (.int (ei_ (b)))], [.int (ei_ (a))], m)) rfl ?_
        refine pw_callS (As := [.int (ei_ (a))]) (st := []) rfl (by decide) rfl rfl (Nat.le_of_ble_eq_true rfl) ?_
        refine pw_intro (I := iX9_isShelf) (T := tX9_isShelf) rfl rfl rfl ?_
        refine pw_steps 4 (s' := (6, [some (.int (ei_ (a)))], [.long (el_ (5)), .long (el_ (0)), .long ((ei_ (a)).toInt64)], m)) rfl ?_
        refine pw_cv (congrArg (fun z_ : Int64 => ((6, [some (.int (ei_ (a)))], [.long (el_ (5)), .long (el_ (0)), .long z_], m) : am_S)) (el_i2l q0 rfl)) ?_
        refine pw_callS (As := [.long (el_ (a)), .long (el_ (0)), .long (el_ (5))]) (st := []) rfl (by decide) rfl rfl (Nat.le_of_ble_eq_true rfl) ?_
        refine mt_within (by omega) (by omega) (by omega) (fun g16 g17 => ?_) (fun g18 => ?_) (fun g19 => ?_)
        · refine pw_iret rfl rfl rfl ?_
          refine pw_ifT rfl (by decide) (show ¬ 1 = 0 by decide) ?_
          refine pw_steps 3 (s' := (14, [some (.ref 47), some (.int (ei_ (a))), some (.int (ei_ (b)))], [.int (ei_ (a)), .ref 68], m)) rfl ?_
          refine pw_ild rfl rfl (by omega) (fun x20 (hx20 : x20 = vi_ m 68 a) rx20 sx20 => ?_)
          refine pw_ifF rfl ⟨rx20, sx20⟩ (show ¬ (0 ≤ x20) by omega) ?_
          refine pw_steps 1 (s' := (20, [some (.ref 47), some (.int (ei_ (a))), some (.int (ei_ (b)))], [.int (ei_ ((-11)))], m)) rfl ?_
          refine pw_iret rfl rfl rfl ?_
          refine pw_steps 2 (s' := (10, [some (.ref 47), some (.int (ei_ (a))), some (.int (ei_ (b))), some (.long (el_ (c))), none, some (.int (ei_ ((-11))))], [.int (ei_ ((-11)))], m)) rfl ?_
          refine pw_ifT rfl (by decide) (show ¬ (-11) = 0 by decide) ?_
          refine pw_steps 1 (s' := (39, [some (.ref 47), some (.int (ei_ (a))), some (.int (ei_ (b))), some (.long (el_ (c))), none, some (.int (ei_ ((-11))))], [.int (ei_ ((-11)))], m)) rfl ?_
          refine pw_ifT rfl (by decide) (show ¬ (-11) = 0 by decide) ?_
          refine pw_steps 1 (s' := (48, [some (.ref 47), some (.int (ei_ (a))), some (.int (ei_ (b))), some (.long (el_ (c))), none, some (.int (ei_ ((-11))))], [.int (ei_ ((-11)))], m)) rfl ?_
          refine pw_iret rfl rfl rfl ?_
          exact ⟨(-11), rfl, rfl, hR⟩
        · exact False.elim (by omega)
        · exact False.elim (by omega)
      · refine pw_call (As := []) (st := []) (k := (sf_ a)) rfl rfl rfl (sf_sk (by omega)) rfl (Nat.le_of_ble_eq_true rfl) ?_
        refine pw_intro (I := iX5_isEmpty) (T := tX5_isEmpty) rfl rfl rfl ?_
        refine pw_steps 1 (s' := (1, [some (.ref ((sf_ a)))], [.ref ((sf_ a))], m)) rfl ?_
        refine pw_get rfl (sf_ok (a := a) (by omega)).1 (fun x21 (hx21 : x21 = vi_ m (sf_ a) 0) rx21 sx21 => ?_)
        refine pw_steps 1 (s' := (5, [some (.ref ((sf_ a)))], [.int (ei_ ((-1))), .int (ei_ (x21))], m)) rfl ?_
        refine pw_cmpT rfl ⟨rx21, sx21⟩ (by decide) (show ¬ x21 = (-1) by omega) ?_
        refine pw_steps 1 (s' := (13, [some (.ref ((sf_ a)))], [.int (ei_ (0))], m)) rfl ?_
        refine pw_iret rfl rfl rfl ?_
        refine pw_ifT rfl (by decide) (show 0 = 0 by decide) ?_
        refine pw_steps 3 (s' := (29, [some (.ref 0), some (.int (ei_ (a))), some (.int (ei_ (b)))], [.int (ei_ (a)), .ref 32], m)) rfl ?_
        refine pw_ald (r0 := (sf_ a)) rfl rfl (sf_ln (by omega)) (sf_al (by omega)) ?_
        refine pw_call (As := []) (st := []) (k := (sf_ a)) rfl rfl rfl (sf_sk (by omega)) rfl (Nat.le_of_ble_eq_true rfl) ?_
        refine pw_intro (I := iX5_isRow) (T := tX5_isRow) rfl rfl rfl ?_
        refine pw_steps 1 (s' := (1, [some (.ref ((sf_ a)))], [.ref ((sf_ a))], m)) rfl ?_
        refine pw_getE (x := x21) rfl (sf_ok (a := a) (by omega)).1 hx21 ?_
        refine pw_ifT rfl ⟨rx21, sx21⟩ (show x21 < 0 by omega) ?_
        refine pw_steps 1 (s' := (12, [some (.ref ((sf_ a)))], [.int (ei_ (0))], m)) rfl ?_
        refine pw_iret rfl rfl rfl ?_
        refine pw_ifF rfl (by decide) (show ¬ (¬ 0 = 0) by decide) ?_
        refine pw_steps 1 (s' := (38, [some (.ref 0), some (.int (ei_ (a))), some (.int (ei_ (b)))], [.int (ei_ ((-12)))], m)) rfl ?_
        refine pw_iret rfl rfl rfl ?_
        refine pw_steps 2 (s' := (10, [some (.ref 0), some (.int (ei_ (a))), some (.int (ei_ (b))), some (.long (el_ (c))), none, some (.int (ei_ ((-12))))], [.int (ei_ ((-12)))], m)) rfl ?_
        refine pw_ifF rfl (by decide) (show ¬ ((-12) = 0) by decide) ?_
        refine pw_steps 1 (s' := (15, [some (.ref 0), some (.int (ei_ (a))), some (.int (ei_ (b))), some (.long (el_ (c))), none, some (.int (ei_ ((-12))))], [.int (ei_ ((-12)))], m)) rfl ?_
        refine pw_iret rfl rfl rfl ?_
        refine pw_intro (I := iX9_put) (T := tX9_put) rfl rfl rfl ?_
        refine pw_steps 3 (s' := (3, [some (.ref 47), some (.int (ei_ (a))), some (.int (ei_ (b))), some (.long (el_ (c))), none, none], [.int (ei_ (b)), .int (ei_ (a)), .ref 47], m)) rfl ?_
        refine pw_call (As := [.int (ei_ (a)), .int (ei_ (b))]) (st := []) (k := 47) rfl rfl rfl rfl rfl (Nat.le_of_ble_eq_true rfl) ?_
        refine pw_intro (I := iX9_refusal) (T := tX9_refusal) rfl rfl rfl ?_
        refine pw_steps 1 (s' := (1, [some (.ref 47), some (.int (ei_ (a))), some (.int (ei_ (b)))], [.int (ei_ (a))], m)) rfl ?_
        refine pw_callS (As := [.int (ei_ (a))]) (st := []) rfl (by decide) rfl rfl (Nat.le_of_ble_eq_true rfl) ?_
        refine pw_intro (I := iX9_isShelf) (T := tX9_isShelf) rfl rfl rfl ?_
        refine pw_steps 4 (s' := (6, [some (.int (ei_ (a)))], [.long (el_ (5)), .long (el_ (0)), .long ((ei_ (a)).toInt64)], m)) rfl ?_
        refine pw_cv (congrArg (fun z_ : Int64 => ((6, [some (.int (ei_ (a)))], [.long (el_ (5)), .long (el_ (0)), .long z_], m) : am_S)) (el_i2l q0 rfl)) ?_
        refine pw_callS (As := [.long (el_ (a)), .long (el_ (0)), .long (el_ (5))]) (st := []) rfl (by decide) rfl rfl (Nat.le_of_ble_eq_true rfl) ?_
        refine mt_within (by omega) (by omega) (by omega) (fun g22 g23 => ?_) (fun g24 => ?_) (fun g25 => ?_)
        · refine pw_iret rfl rfl rfl ?_
          refine pw_ifT rfl (by decide) (show ¬ 1 = 0 by decide) ?_
          refine pw_steps 3 (s' := (14, [some (.ref 47), some (.int (ei_ (a))), some (.int (ei_ (b)))], [.int (ei_ (a)), .ref 68], m)) rfl ?_
          refine pw_ild rfl rfl (by omega) (fun x26 (hx26 : x26 = vi_ m 68 a) rx26 sx26 => ?_)
          refine pw_ifT rfl ⟨rx26, sx26⟩ (show 0 ≤ x26 by omega) ?_
          refine pw_steps 3 (s' := (26, [some (.ref 47), some (.int (ei_ (a))), some (.int (ei_ (b)))], [.int (ei_ (a)), .ref 68], m)) rfl ?_
          refine pw_ildE (x := x26) rfl rfl (by omega) hx26 ?_
          refine pw_steps 1 (s' := (29, [some (.ref 47), some (.int (ei_ (a))), some (.int (ei_ (b)))], [.int (ei_ (50)), .int (ei_ (x26))], m)) rfl ?_
          refine pw_cmpF rfl ⟨rx26, sx26⟩ (by decide) (show ¬ (50 ≤ x26) by omega) ?_
          refine pw_steps 1 (s' := (34, [some (.ref 47), some (.int (ei_ (a))), some (.int (ei_ (b)))], [.int (ei_ ((-12)))], m)) rfl ?_
          refine pw_iret rfl rfl rfl ?_
          refine pw_steps 2 (s' := (10, [some (.ref 47), some (.int (ei_ (a))), some (.int (ei_ (b))), some (.long (el_ (c))), none, some (.int (ei_ ((-12))))], [.int (ei_ ((-12)))], m)) rfl ?_
          refine pw_ifT rfl (by decide) (show ¬ (-12) = 0 by decide) ?_
          refine pw_steps 1 (s' := (39, [some (.ref 47), some (.int (ei_ (a))), some (.int (ei_ (b))), some (.long (el_ (c))), none, some (.int (ei_ ((-12))))], [.int (ei_ ((-12)))], m)) rfl ?_
          refine pw_ifT rfl (by decide) (show ¬ (-12) = 0 by decide) ?_
          refine pw_steps 1 (s' := (48, [some (.ref 47), some (.int (ei_ (a))), some (.int (ei_ (b))), some (.long (el_ (c))), none, some (.int (ei_ ((-12))))], [.int (ei_ ((-12)))], m)) rfl ?_
          refine pw_iret rfl rfl rfl ?_
          exact ⟨(-12), rfl, rfl, hR⟩
        · exact False.elim (by omega)
        · exact False.elim (by omega)
      · refine pw_call (As := []) (st := []) (k := (sf_ a)) rfl rfl rfl (sf_sk (by omega)) rfl (Nat.le_of_ble_eq_true rfl) ?_
        refine pw_intro (I := iX5_isEmpty) (T := tX5_isEmpty) rfl rfl rfl ?_
        refine pw_steps 1 (s' := (1, [some (.ref ((sf_ a)))], [.ref ((sf_ a))], m)) rfl ?_
        refine pw_get rfl (sf_ok (a := a) (by omega)).1 (fun x27 (hx27 : x27 = vi_ m (sf_ a) 0) rx27 sx27 => ?_)
        refine pw_steps 1 (s' := (5, [some (.ref ((sf_ a)))], [.int (ei_ ((-1))), .int (ei_ (x27))], m)) rfl ?_
        refine pw_cmpT rfl ⟨rx27, sx27⟩ (by decide) (show ¬ x27 = (-1) by omega) ?_
        refine pw_steps 1 (s' := (13, [some (.ref ((sf_ a)))], [.int (ei_ (0))], m)) rfl ?_
        refine pw_iret rfl rfl rfl ?_
        refine pw_ifT rfl (by decide) (show 0 = 0 by decide) ?_
        refine pw_steps 3 (s' := (29, [some (.ref 0), some (.int (ei_ (a))), some (.int (ei_ (b)))], [.int (ei_ (a)), .ref 32], m)) rfl ?_
        refine pw_ald (r0 := (sf_ a)) rfl rfl (sf_ln (by omega)) (sf_al (by omega)) ?_
        refine pw_call (As := []) (st := []) (k := (sf_ a)) rfl rfl rfl (sf_sk (by omega)) rfl (Nat.le_of_ble_eq_true rfl) ?_
        refine pw_intro (I := iX5_isRow) (T := tX5_isRow) rfl rfl rfl ?_
        refine pw_steps 1 (s' := (1, [some (.ref ((sf_ a)))], [.ref ((sf_ a))], m)) rfl ?_
        refine pw_getE (x := x27) rfl (sf_ok (a := a) (by omega)).1 hx27 ?_
        refine pw_ifF rfl ⟨rx27, sx27⟩ (show ¬ (x27 < 0) by omega) ?_
        refine pw_steps 2 (s' := (12, [some (.ref ((sf_ a)))], [.int (ei_ (1))], m)) rfl ?_
        refine pw_iret rfl rfl rfl ?_
        refine pw_ifT rfl (by decide) (show ¬ 1 = 0 by decide) ?_
        refine pw_steps 3 (s' := (44, [some (.ref 0), some (.int (ei_ (a))), some (.int (ei_ (b)))], [.int (ei_ (a)), .ref 32], m)) rfl ?_
        refine pw_ald (r0 := (sf_ a)) rfl rfl (sf_ln (by omega)) (sf_al (by omega)) ?_
        refine pw_steps 2 (s' := (47, [some (.ref 0), some (.int (ei_ (a))), some (.int (ei_ (b)))], [.int (ei_ (1)), .int (ei_ (b)), .ref ((sf_ a))], m)) rfl ?_
        refine pw_call (As := [.int (ei_ (b)), .int (ei_ (1))]) (st := []) (k := (sf_ a)) rfl rfl rfl (sf_sk (by omega)) rfl (Nat.le_of_ble_eq_true rfl) ?_
        refine pw_intro (I := iX5_hasPlaces) (T := tX5_hasPlaces) rfl rfl rfl ?_
        refine pw_steps 1 (s' := (1, [some (.ref ((sf_ a))), some (.int (ei_ (b))), some (.int (ei_ (1)))], [.int (ei_ (b))], m)) rfl ?_
        refine pw_if rfl q1 (fun (h28 : b < 0) => ?_) (fun (h28 : ¬ (b < 0)) => ?_)
        · refine pw_steps 1 (s' := (31, [some (.ref ((sf_ a))), some (.int (ei_ (b))), some (.int (ei_ (1)))], [.int (ei_ (0))], m)) rfl ?_
          refine pw_iret rfl rfl rfl ?_
          refine pw_ifT rfl (by decide) (show 0 = 0 by decide) ?_
          refine pw_steps 1 (s' := (59, [some (.ref 0), some (.int (ei_ (a))), some (.int (ei_ (b)))], [.int (ei_ ((-13)))], m)) rfl ?_
          refine pw_iret rfl rfl rfl ?_
          refine pw_steps 2 (s' := (10, [some (.ref 0), some (.int (ei_ (a))), some (.int (ei_ (b))), some (.long (el_ (c))), none, some (.int (ei_ ((-13))))], [.int (ei_ ((-13)))], m)) rfl ?_
          refine pw_ifF rfl (by decide) (show ¬ ((-13) = 0) by decide) ?_
          refine pw_steps 1 (s' := (15, [some (.ref 0), some (.int (ei_ (a))), some (.int (ei_ (b))), some (.long (el_ (c))), none, some (.int (ei_ ((-13))))], [.int (ei_ ((-13)))], m)) rfl ?_
          refine pw_iret rfl rfl rfl ?_
          refine pw_intro (I := iX9_put) (T := tX9_put) rfl rfl rfl ?_
          refine pw_steps 3 (s' := (3, [some (.ref 47), some (.int (ei_ (a))), some (.int (ei_ (b))), some (.long (el_ (c))), none, none], [.int (ei_ (b)), .int (ei_ (a)), .ref 47], m)) rfl ?_
          refine pw_call (As := [.int (ei_ (a)), .int (ei_ (b))]) (st := []) (k := 47) rfl rfl rfl rfl rfl (Nat.le_of_ble_eq_true rfl) ?_
          refine pw_intro (I := iX9_refusal) (T := tX9_refusal) rfl rfl rfl ?_
          refine pw_steps 1 (s' := (1, [some (.ref 47), some (.int (ei_ (a))), some (.int (ei_ (b)))], [.int (ei_ (a))], m)) rfl ?_
          refine pw_callS (As := [.int (ei_ (a))]) (st := []) rfl (by decide) rfl rfl (Nat.le_of_ble_eq_true rfl) ?_
          refine pw_intro (I := iX9_isShelf) (T := tX9_isShelf) rfl rfl rfl ?_
          refine pw_steps 4 (s' := (6, [some (.int (ei_ (a)))], [.long (el_ (5)), .long (el_ (0)), .long ((ei_ (a)).toInt64)], m)) rfl ?_
          refine pw_cv (congrArg (fun z_ : Int64 => ((6, [some (.int (ei_ (a)))], [.long (el_ (5)), .long (el_ (0)), .long z_], m) : am_S)) (el_i2l q0 rfl)) ?_
          refine pw_callS (As := [.long (el_ (a)), .long (el_ (0)), .long (el_ (5))]) (st := []) rfl (by decide) rfl rfl (Nat.le_of_ble_eq_true rfl) ?_
          refine mt_within (by omega) (by omega) (by omega) (fun g29 g30 => ?_) (fun g31 => ?_) (fun g32 => ?_)
          · refine pw_iret rfl rfl rfl ?_
            refine pw_ifT rfl (by decide) (show ¬ 1 = 0 by decide) ?_
            refine pw_steps 3 (s' := (14, [some (.ref 47), some (.int (ei_ (a))), some (.int (ei_ (b)))], [.int (ei_ (a)), .ref 68], m)) rfl ?_
            refine pw_ild rfl rfl (by omega) (fun x33 (hx33 : x33 = vi_ m 68 a) rx33 sx33 => ?_)
            refine pw_ifT rfl ⟨rx33, sx33⟩ (show 0 ≤ x33 by omega) ?_
            refine pw_steps 3 (s' := (26, [some (.ref 47), some (.int (ei_ (a))), some (.int (ei_ (b)))], [.int (ei_ (a)), .ref 68], m)) rfl ?_
            refine pw_ildE (x := x33) rfl rfl (by omega) hx33 ?_
            refine pw_steps 1 (s' := (29, [some (.ref 47), some (.int (ei_ (a))), some (.int (ei_ (b)))], [.int (ei_ (50)), .int (ei_ (x33))], m)) rfl ?_
            refine pw_cmpT rfl ⟨rx33, sx33⟩ (by decide) (show 50 ≤ x33 by omega) ?_
            refine pw_steps 1 (s' := (36, [some (.ref 47), some (.int (ei_ (a))), some (.int (ei_ (b)))], [.int (ei_ (b))], m)) rfl ?_
            refine pw_ifT rfl q1 (show b < 0 by omega) ?_
            refine pw_steps 1 (s' := (55, [some (.ref 47), some (.int (ei_ (a))), some (.int (ei_ (b)))], [.int (ei_ ((-13)))], m)) rfl ?_
            refine pw_iret rfl rfl rfl ?_
            refine pw_steps 2 (s' := (10, [some (.ref 47), some (.int (ei_ (a))), some (.int (ei_ (b))), some (.long (el_ (c))), none, some (.int (ei_ ((-13))))], [.int (ei_ ((-13)))], m)) rfl ?_
            refine pw_ifT rfl (by decide) (show ¬ (-13) = 0 by decide) ?_
            refine pw_steps 1 (s' := (39, [some (.ref 47), some (.int (ei_ (a))), some (.int (ei_ (b))), some (.long (el_ (c))), none, some (.int (ei_ ((-13))))], [.int (ei_ ((-13)))], m)) rfl ?_
            refine pw_ifT rfl (by decide) (show ¬ (-13) = 0 by decide) ?_
            refine pw_steps 1 (s' := (48, [some (.ref 47), some (.int (ei_ (a))), some (.int (ei_ (b))), some (.long (el_ (c))), none, some (.int (ei_ ((-13))))], [.int (ei_ ((-13)))], m)) rfl ?_
            refine pw_iret rfl rfl rfl ?_
            exact ⟨(-13), rfl, rfl, hR⟩
          · exact False.elim (by omega)
          · exact False.elim (by omega)
        · refine pw_steps 1 (s' := (5, [some (.ref ((sf_ a))), some (.int (ei_ (b))), some (.int (ei_ (1)))], [.int (ei_ (1))], m)) rfl ?_
          refine pw_ifF rfl (by decide) (show ¬ (1 < 0) by decide) ?_
          refine pw_steps 2 (s' := (10, [some (.ref ((sf_ a))), some (.int (ei_ (b))), some (.int (ei_ (1)))], [.ref ((sf_ a)), .int (ei_ (1))], m)) rfl ?_
          refine pw_get rfl (sf_ok (a := a) (by omega)).2.2.1 (fun x34 (hx34 : x34 = vi_ m (sf_ a) 2) rx34 sx34 => ?_)
          refine pw_cmp rfl (by decide) ⟨rx34, sx34⟩ (fun (h35 : x34 < 1) => ?_) (fun (h35 : ¬ (x34 < 1)) => ?_)
          · refine pw_steps 1 (s' := (31, [some (.ref ((sf_ a))), some (.int (ei_ (b))), some (.int (ei_ (1)))], [.int (ei_ (0))], m)) rfl ?_
            refine pw_iret rfl rfl rfl ?_
            refine pw_ifT rfl (by decide) (show 0 = 0 by decide) ?_
            refine pw_steps 1 (s' := (59, [some (.ref 0), some (.int (ei_ (a))), some (.int (ei_ (b)))], [.int (ei_ ((-13)))], m)) rfl ?_
            refine pw_iret rfl rfl rfl ?_
            refine pw_steps 2 (s' := (10, [some (.ref 0), some (.int (ei_ (a))), some (.int (ei_ (b))), some (.long (el_ (c))), none, some (.int (ei_ ((-13))))], [.int (ei_ ((-13)))], m)) rfl ?_
            refine pw_ifF rfl (by decide) (show ¬ ((-13) = 0) by decide) ?_
            refine pw_steps 1 (s' := (15, [some (.ref 0), some (.int (ei_ (a))), some (.int (ei_ (b))), some (.long (el_ (c))), none, some (.int (ei_ ((-13))))], [.int (ei_ ((-13)))], m)) rfl ?_
            refine pw_iret rfl rfl rfl ?_
            refine pw_intro (I := iX9_put) (T := tX9_put) rfl rfl rfl ?_
            refine pw_steps 3 (s' := (3, [some (.ref 47), some (.int (ei_ (a))), some (.int (ei_ (b))), some (.long (el_ (c))), none, none], [.int (ei_ (b)), .int (ei_ (a)), .ref 47], m)) rfl ?_
            refine pw_call (As := [.int (ei_ (a)), .int (ei_ (b))]) (st := []) (k := 47) rfl rfl rfl rfl rfl (Nat.le_of_ble_eq_true rfl) ?_
            refine pw_intro (I := iX9_refusal) (T := tX9_refusal) rfl rfl rfl ?_
            refine pw_steps 1 (s' := (1, [some (.ref 47), some (.int (ei_ (a))), some (.int (ei_ (b)))], [.int (ei_ (a))], m)) rfl ?_
            refine pw_callS (As := [.int (ei_ (a))]) (st := []) rfl (by decide) rfl rfl (Nat.le_of_ble_eq_true rfl) ?_
            refine pw_intro (I := iX9_isShelf) (T := tX9_isShelf) rfl rfl rfl ?_
            refine pw_steps 4 (s' := (6, [some (.int (ei_ (a)))], [.long (el_ (5)), .long (el_ (0)), .long ((ei_ (a)).toInt64)], m)) rfl ?_
            refine pw_cv (congrArg (fun z_ : Int64 => ((6, [some (.int (ei_ (a)))], [.long (el_ (5)), .long (el_ (0)), .long z_], m) : am_S)) (el_i2l q0 rfl)) ?_
            refine pw_callS (As := [.long (el_ (a)), .long (el_ (0)), .long (el_ (5))]) (st := []) rfl (by decide) rfl rfl (Nat.le_of_ble_eq_true rfl) ?_
            refine mt_within (by omega) (by omega) (by omega) (fun g36 g37 => ?_) (fun g38 => ?_) (fun g39 => ?_)
            · refine pw_iret rfl rfl rfl ?_
              refine pw_ifT rfl (by decide) (show ¬ 1 = 0 by decide) ?_
              refine pw_steps 3 (s' := (14, [some (.ref 47), some (.int (ei_ (a))), some (.int (ei_ (b)))], [.int (ei_ (a)), .ref 68], m)) rfl ?_
              refine pw_ild rfl rfl (by omega) (fun x40 (hx40 : x40 = vi_ m 68 a) rx40 sx40 => ?_)
              refine pw_ifT rfl ⟨rx40, sx40⟩ (show 0 ≤ x40 by omega) ?_
              refine pw_steps 3 (s' := (26, [some (.ref 47), some (.int (ei_ (a))), some (.int (ei_ (b)))], [.int (ei_ (a)), .ref 68], m)) rfl ?_
              refine pw_ildE (x := x40) rfl rfl (by omega) hx40 ?_
              refine pw_steps 1 (s' := (29, [some (.ref 47), some (.int (ei_ (a))), some (.int (ei_ (b)))], [.int (ei_ (50)), .int (ei_ (x40))], m)) rfl ?_
              refine pw_cmpT rfl ⟨rx40, sx40⟩ (by decide) (show 50 ≤ x40 by omega) ?_
              refine pw_steps 1 (s' := (36, [some (.ref 47), some (.int (ei_ (a))), some (.int (ei_ (b)))], [.int (ei_ (b))], m)) rfl ?_
              refine pw_ifF rfl q1 (show ¬ (b < 0) by omega) ?_
              refine pw_steps 4 (s' := (45, [some (.ref 47), some (.int (ei_ (a))), some (.int (ei_ (b)))], [.int (ei_ (a)), .ref 69, .int (ei_ (b))], m)) rfl ?_
              refine pw_ild rfl rfl (by omega) (fun x41 (hx41 : x41 = vi_ m 69 a) rx41 sx41 => ?_)
              refine pw_cmpT rfl q1 ⟨rx41, sx41⟩ (show x41 ≤ b by omega) ?_
              refine pw_steps 1 (s' := (55, [some (.ref 47), some (.int (ei_ (a))), some (.int (ei_ (b)))], [.int (ei_ ((-13)))], m)) rfl ?_
              refine pw_iret rfl rfl rfl ?_
              refine pw_steps 2 (s' := (10, [some (.ref 47), some (.int (ei_ (a))), some (.int (ei_ (b))), some (.long (el_ (c))), none, some (.int (ei_ ((-13))))], [.int (ei_ ((-13)))], m)) rfl ?_
              refine pw_ifT rfl (by decide) (show ¬ (-13) = 0 by decide) ?_
              refine pw_steps 1 (s' := (39, [some (.ref 47), some (.int (ei_ (a))), some (.int (ei_ (b))), some (.long (el_ (c))), none, some (.int (ei_ ((-13))))], [.int (ei_ ((-13)))], m)) rfl ?_
              refine pw_ifT rfl (by decide) (show ¬ (-13) = 0 by decide) ?_
              refine pw_steps 1 (s' := (48, [some (.ref 47), some (.int (ei_ (a))), some (.int (ei_ (b))), some (.long (el_ (c))), none, some (.int (ei_ ((-13))))], [.int (ei_ ((-13)))], m)) rfl ?_
              refine pw_iret rfl rfl rfl ?_
              exact ⟨(-13), rfl, rfl, hR⟩
            · exact False.elim (by omega)
            · exact False.elim (by omega)
          · refine pw_steps 2 (s' := (18, [some (.ref ((sf_ a))), some (.int (ei_ (b))), some (.int (ei_ (1)))], [.ref ((sf_ a)), .int (ei_ (b))], m)) rfl ?_
            refine pw_getE (x := x34) rfl (sf_ok (a := a) (by omega)).2.2.1 hx34 ?_
            refine pw_steps 2 (s' := (23, [some (.ref ((sf_ a))), some (.int (ei_ (b))), some (.int (ei_ (1)))], [.int ((ei_ (x34)) - (ei_ (1))), .int (ei_ (b))], m)) rfl ?_
            refine pw_cv (congrArg (fun z_ : Int32 => ((23, [some (.ref ((sf_ a))), some (.int (ei_ (b))), some (.int (ei_ (1)))], [.int z_, .int (ei_ (b))], m) : am_S)) (ei_sub rfl rfl)) ?_
            refine pw_cmp rfl q1 (by omega) (fun (h42 : (x34 - 1) < b) => ?_) (fun (h42 : ¬ ((x34 - 1) < b)) => ?_)
            · refine pw_steps 1 (s' := (31, [some (.ref ((sf_ a))), some (.int (ei_ (b))), some (.int (ei_ (1)))], [.int (ei_ (0))], m)) rfl ?_
              refine pw_iret rfl rfl rfl ?_
              refine pw_ifT rfl (by decide) (show 0 = 0 by decide) ?_
              refine pw_steps 1 (s' := (59, [some (.ref 0), some (.int (ei_ (a))), some (.int (ei_ (b)))], [.int (ei_ ((-13)))], m)) rfl ?_
              refine pw_iret rfl rfl rfl ?_
              refine pw_steps 2 (s' := (10, [some (.ref 0), some (.int (ei_ (a))), some (.int (ei_ (b))), some (.long (el_ (c))), none, some (.int (ei_ ((-13))))], [.int (ei_ ((-13)))], m)) rfl ?_
              refine pw_ifF rfl (by decide) (show ¬ ((-13) = 0) by decide) ?_
              refine pw_steps 1 (s' := (15, [some (.ref 0), some (.int (ei_ (a))), some (.int (ei_ (b))), some (.long (el_ (c))), none, some (.int (ei_ ((-13))))], [.int (ei_ ((-13)))], m)) rfl ?_
              refine pw_iret rfl rfl rfl ?_
              refine pw_intro (I := iX9_put) (T := tX9_put) rfl rfl rfl ?_
              refine pw_steps 3 (s' := (3, [some (.ref 47), some (.int (ei_ (a))), some (.int (ei_ (b))), some (.long (el_ (c))), none, none], [.int (ei_ (b)), .int (ei_ (a)), .ref 47], m)) rfl ?_
              refine pw_call (As := [.int (ei_ (a)), .int (ei_ (b))]) (st := []) (k := 47) rfl rfl rfl rfl rfl (Nat.le_of_ble_eq_true rfl) ?_
              refine pw_intro (I := iX9_refusal) (T := tX9_refusal) rfl rfl rfl ?_
              refine pw_steps 1 (s' := (1, [some (.ref 47), some (.int (ei_ (a))), some (.int (ei_ (b)))], [.int (ei_ (a))], m)) rfl ?_
              refine pw_callS (As := [.int (ei_ (a))]) (st := []) rfl (by decide) rfl rfl (Nat.le_of_ble_eq_true rfl) ?_
              refine pw_intro (I := iX9_isShelf) (T := tX9_isShelf) rfl rfl rfl ?_
              refine pw_steps 4 (s' := (6, [some (.int (ei_ (a)))], [.long (el_ (5)), .long (el_ (0)), .long ((ei_ (a)).toInt64)], m)) rfl ?_
              refine pw_cv (congrArg (fun z_ : Int64 => ((6, [some (.int (ei_ (a)))], [.long (el_ (5)), .long (el_ (0)), .long z_], m) : am_S)) (el_i2l q0 rfl)) ?_
              refine pw_callS (As := [.long (el_ (a)), .long (el_ (0)), .long (el_ (5))]) (st := []) rfl (by decide) rfl rfl (Nat.le_of_ble_eq_true rfl) ?_
              refine mt_within (by omega) (by omega) (by omega) (fun g43 g44 => ?_) (fun g45 => ?_) (fun g46 => ?_)
              · refine pw_iret rfl rfl rfl ?_
                refine pw_ifT rfl (by decide) (show ¬ 1 = 0 by decide) ?_
                refine pw_steps 3 (s' := (14, [some (.ref 47), some (.int (ei_ (a))), some (.int (ei_ (b)))], [.int (ei_ (a)), .ref 68], m)) rfl ?_
                refine pw_ild rfl rfl (by omega) (fun x47 (hx47 : x47 = vi_ m 68 a) rx47 sx47 => ?_)
                refine pw_ifT rfl ⟨rx47, sx47⟩ (show 0 ≤ x47 by omega) ?_
                refine pw_steps 3 (s' := (26, [some (.ref 47), some (.int (ei_ (a))), some (.int (ei_ (b)))], [.int (ei_ (a)), .ref 68], m)) rfl ?_
                refine pw_ildE (x := x47) rfl rfl (by omega) hx47 ?_
                refine pw_steps 1 (s' := (29, [some (.ref 47), some (.int (ei_ (a))), some (.int (ei_ (b)))], [.int (ei_ (50)), .int (ei_ (x47))], m)) rfl ?_
                refine pw_cmpT rfl ⟨rx47, sx47⟩ (by decide) (show 50 ≤ x47 by omega) ?_
                refine pw_steps 1 (s' := (36, [some (.ref 47), some (.int (ei_ (a))), some (.int (ei_ (b)))], [.int (ei_ (b))], m)) rfl ?_
                refine pw_ifF rfl q1 (show ¬ (b < 0) by omega) ?_
                refine pw_steps 4 (s' := (45, [some (.ref 47), some (.int (ei_ (a))), some (.int (ei_ (b)))], [.int (ei_ (a)), .ref 69, .int (ei_ (b))], m)) rfl ?_
                refine pw_ild rfl rfl (by omega) (fun x48 (hx48 : x48 = vi_ m 69 a) rx48 sx48 => ?_)
                refine pw_cmpT rfl q1 ⟨rx48, sx48⟩ (show x48 ≤ b by omega) ?_
                refine pw_steps 1 (s' := (55, [some (.ref 47), some (.int (ei_ (a))), some (.int (ei_ (b)))], [.int (ei_ ((-13)))], m)) rfl ?_
                refine pw_iret rfl rfl rfl ?_
                refine pw_steps 2 (s' := (10, [some (.ref 47), some (.int (ei_ (a))), some (.int (ei_ (b))), some (.long (el_ (c))), none, some (.int (ei_ ((-13))))], [.int (ei_ ((-13)))], m)) rfl ?_
                refine pw_ifT rfl (by decide) (show ¬ (-13) = 0 by decide) ?_
                refine pw_steps 1 (s' := (39, [some (.ref 47), some (.int (ei_ (a))), some (.int (ei_ (b))), some (.long (el_ (c))), none, some (.int (ei_ ((-13))))], [.int (ei_ ((-13)))], m)) rfl ?_
                refine pw_ifT rfl (by decide) (show ¬ (-13) = 0 by decide) ?_
                refine pw_steps 1 (s' := (48, [some (.ref 47), some (.int (ei_ (a))), some (.int (ei_ (b))), some (.long (el_ (c))), none, some (.int (ei_ ((-13))))], [.int (ei_ ((-13)))], m)) rfl ?_
                refine pw_iret rfl rfl rfl ?_
                exact ⟨(-13), rfl, rfl, hR⟩
              · exact False.elim (by omega)
              · exact False.elim (by omega)
            · refine pw_steps 2 (s' := (31, [some (.ref ((sf_ a))), some (.int (ei_ (b))), some (.int (ei_ (1)))], [.int (ei_ (1))], m)) rfl ?_
              refine pw_iret rfl rfl rfl ?_
              refine pw_ifF rfl (by decide) (show ¬ (1 = 0) by decide) ?_
              refine pw_steps 2 (s' := (59, [some (.ref 0), some (.int (ei_ (a))), some (.int (ei_ (b)))], [.int (ei_ (0))], m)) rfl ?_
              refine pw_iret rfl rfl rfl ?_
              refine pw_steps 2 (s' := (10, [some (.ref 0), some (.int (ei_ (a))), some (.int (ei_ (b))), some (.long (el_ (c))), none, some (.int (ei_ (0)))], [.int (ei_ (0))], m)) rfl ?_
              refine pw_ifT rfl (by decide) (show 0 = 0 by decide) ?_
              refine pw_steps 3 (s' := (21, [some (.ref 0), some (.int (ei_ (a))), some (.int (ei_ (b))), some (.long (el_ (c))), none, some (.int (ei_ (0)))], [.int (ei_ (a)), .ref 32], m)) rfl ?_
              refine pw_ald (r0 := (sf_ a)) rfl rfl (sf_ln (by omega)) (sf_al (by omega)) ?_
              refine pw_steps 2 (s' := (24, [some (.ref 0), some (.int (ei_ (a))), some (.int (ei_ (b))), some (.long (el_ (c))), none, some (.int (ei_ (0)))], [.long (el_ (c)), .int (ei_ (b)), .ref ((sf_ a))], m)) rfl ?_
              refine pw_call (As := [.int (ei_ (b)), .long (el_ (c))]) (st := []) (k := (sf_ a)) rfl rfl rfl (sf_sk (by omega)) rfl (Nat.le_of_ble_eq_true rfl) ?_
              refine pw_intro (I := iX5_set) (T := tX5_set) rfl rfl rfl ?_
              refine pw_steps 3 (s' := (3, [some (.ref ((sf_ a))), some (.int (ei_ (b))), some (.long (el_ (c))), none], [.int (ei_ (1)), .int (ei_ (b)), .ref ((sf_ a))], m)) rfl ?_
              refine pw_call (As := [.int (ei_ (b)), .int (ei_ (1))]) (st := []) (k := (sf_ a)) rfl rfl rfl (sf_sk (by omega)) rfl (Nat.le_of_ble_eq_true rfl) ?_
              refine pw_intro (I := iX5_hasPlaces) (T := tX5_hasPlaces) rfl rfl rfl ?_
              refine pw_steps 1 (s' := (1, [some (.ref ((sf_ a))), some (.int (ei_ (b))), some (.int (ei_ (1)))], [.int (ei_ (b))], m)) rfl ?_
              refine pw_ifF rfl q1 (show ¬ (b < 0) by omega) ?_
              refine pw_steps 1 (s' := (5, [some (.ref ((sf_ a))), some (.int (ei_ (b))), some (.int (ei_ (1)))], [.int (ei_ (1))], m)) rfl ?_
              refine pw_ifF rfl (by decide) (show ¬ (1 < 0) by decide) ?_
              refine pw_steps 2 (s' := (10, [some (.ref ((sf_ a))), some (.int (ei_ (b))), some (.int (ei_ (1)))], [.ref ((sf_ a)), .int (ei_ (1))], m)) rfl ?_
              refine pw_getE (x := x34) rfl (sf_ok (a := a) (by omega)).2.2.1 hx34 ?_
              refine pw_cmpF rfl (by decide) ⟨rx34, sx34⟩ (show ¬ (x34 < 1) by omega) ?_
              refine pw_steps 2 (s' := (18, [some (.ref ((sf_ a))), some (.int (ei_ (b))), some (.int (ei_ (1)))], [.ref ((sf_ a)), .int (ei_ (b))], m)) rfl ?_
              refine pw_getE (x := x34) rfl (sf_ok (a := a) (by omega)).2.2.1 hx34 ?_
              refine pw_steps 2 (s' := (23, [some (.ref ((sf_ a))), some (.int (ei_ (b))), some (.int (ei_ (1)))], [.int ((ei_ (x34)) - (ei_ (1))), .int (ei_ (b))], m)) rfl ?_
              refine pw_cv (congrArg (fun z_ : Int32 => ((23, [some (.ref ((sf_ a))), some (.int (ei_ (b))), some (.int (ei_ (1)))], [.int z_, .int (ei_ (b))], m) : am_S)) (ei_sub rfl rfl)) ?_
              refine pw_cmpF rfl q1 (by omega) (show ¬ ((x34 - 1) < b) by omega) ?_
              refine pw_steps 2 (s' := (31, [some (.ref ((sf_ a))), some (.int (ei_ (b))), some (.int (ei_ (1)))], [.int (ei_ (1))], m)) rfl ?_
              refine pw_iret rfl rfl rfl ?_
              refine pw_ifF rfl (by decide) (show ¬ (1 = 0) by decide) ?_
              refine pw_steps 1 (s' := (10, [some (.ref ((sf_ a))), some (.int (ei_ (b))), some (.long (el_ (c))), none], [.ref ((sf_ a))], m)) rfl ?_
              refine pw_getR (r := (sf_ a) + 1) rfl (sf_ok (a := a) (by omega)).2.2.2.1 ?_
              refine pw_steps 3 (s' := (16, [some (.ref ((sf_ a))), some (.int (ei_ (b))), some (.long (el_ (c))), none], [.long (el_ (c)), .ref ((sf_ a)), .int (ei_ (b)), .ref ((sf_ a) + 1)], m)) rfl ?_
              refine pw_call (As := [.long (el_ (c))]) (st := [.int (ei_ (b)), .ref ((sf_ a) + 1)]) (k := (sf_ a)) rfl rfl rfl (sf_sk (by omega)) rfl (Nat.le_of_ble_eq_true rfl) ?_
              refine pw_intro (I := iX5_cut) (T := tX5_cut) rfl rfl rfl ?_
              refine pw_steps 1 (s' := (1, [some (.ref ((sf_ a))), some (.long (el_ (c))), none], [.ref ((sf_ a))], m)) rfl ?_
              refine pw_getE (x := x27) rfl (sf_ok (a := a) (by omega)).1 hx27 ?_
              rcases (show x27 = 0 ∨ x27 = 1 ∨ x27 = 2 ∨ x27 = 3 ∨ x27 = 4 by omega) with h49 | h49 | h49 | h49 | h49
              · refine pw_tab 0 40 rfl ⟨rx27, sx27⟩ (by omega) (by omega) rfl ?_
                refine pw_steps 4 (s' := (44, [some (.ref ((sf_ a))), some (.long (el_ (c))), none], [.long ((((el_ (c)).toInt32).toInt8.toInt32).toInt64)], m)) rfl ?_
                refine pw_cv (congrArg (fun z_ : Int64 => ((44, [some (.ref ((sf_ a))), some (.long (el_ (c))), none], [.long z_], m) : am_S)) (el_i2l (by_r _) (ei_by (ei_l2iw rfl)))) ?_
                refine pw_lret rfl rfl ?_
                refine pw_lst rfl (sf_ok (a := a) (by omega)).2.2.2.2 (by omega) ?_
                refine pw_vret rfl rfl ?_
                refine pw_steps 1 (s' := (28, [some (.ref 0), some (.int (ei_ (a))), some (.int (ei_ (b))), some (.long (el_ (c))), none, some (.int (ei_ (0)))], [.int (ei_ (1))], wl_ m ((sf_ a) + 1) (b) ((by_ (wr_ c))))) rfl ?_
                refine pw_iret rfl rfl rfl ?_
                refine pw_intro (I := iX9_put) (T := tX9_put) rfl rfl rfl ?_
                refine pw_steps 3 (s' := (3, [some (.ref 47), some (.int (ei_ (a))), some (.int (ei_ (b))), some (.long (el_ (c))), none, none], [.int (ei_ (b)), .int (ei_ (a)), .ref 47], wl_ m ((sf_ a) + 1) (b) ((by_ (wr_ c))))) rfl ?_
                refine pw_call (As := [.int (ei_ (a)), .int (ei_ (b))]) (st := []) (k := 47) rfl rfl rfl rfl rfl (Nat.le_of_ble_eq_true rfl) ?_
                refine pw_intro (I := iX9_refusal) (T := tX9_refusal) rfl rfl rfl ?_
                refine pw_steps 1 (s' := (1, [some (.ref 47), some (.int (ei_ (a))), some (.int (ei_ (b)))], [.int (ei_ (a))], wl_ m ((sf_ a) + 1) (b) ((by_ (wr_ c))))) rfl ?_
                refine pw_callS (As := [.int (ei_ (a))]) (st := []) rfl (by decide) rfl rfl (Nat.le_of_ble_eq_true rfl) ?_
                refine pw_intro (I := iX9_isShelf) (T := tX9_isShelf) rfl rfl rfl ?_
                refine pw_steps 4 (s' := (6, [some (.int (ei_ (a)))], [.long (el_ (5)), .long (el_ (0)), .long ((ei_ (a)).toInt64)], wl_ m ((sf_ a) + 1) (b) ((by_ (wr_ c))))) rfl ?_
                refine pw_cv (congrArg (fun z_ : Int64 => ((6, [some (.int (ei_ (a)))], [.long (el_ (5)), .long (el_ (0)), .long z_], wl_ m ((sf_ a) + 1) (b) ((by_ (wr_ c)))) : am_S)) (el_i2l q0 rfl)) ?_
                refine pw_callS (As := [.long (el_ (a)), .long (el_ (0)), .long (el_ (5))]) (st := []) rfl (by decide) rfl rfl (Nat.le_of_ble_eq_true rfl) ?_
                refine mt_within (by omega) (by omega) (by omega) (fun g50 g51 => ?_) (fun g52 => ?_) (fun g53 => ?_)
                · refine pw_iret rfl rfl rfl ?_
                  refine pw_ifT rfl (by decide) (show ¬ 1 = 0 by decide) ?_
                  refine pw_steps 3 (s' := (14, [some (.ref 47), some (.int (ei_ (a))), some (.int (ei_ (b)))], [.int (ei_ (a)), .ref 68], wl_ m ((sf_ a) + 1) (b) ((by_ (wr_ c))))) rfl ?_
                  refine pw_ild rfl rfl (by omega) (fun x54 (hx54 : x54 = vi_ m 68 a) rx54 sx54 => ?_)
                  refine pw_ifT rfl ⟨rx54, sx54⟩ (show 0 ≤ x54 by omega) ?_
                  refine pw_steps 3 (s' := (26, [some (.ref 47), some (.int (ei_ (a))), some (.int (ei_ (b)))], [.int (ei_ (a)), .ref 68], wl_ m ((sf_ a) + 1) (b) ((by_ (wr_ c))))) rfl ?_
                  refine pw_ildE (x := x54) rfl rfl (by omega) hx54 ?_
                  refine pw_steps 1 (s' := (29, [some (.ref 47), some (.int (ei_ (a))), some (.int (ei_ (b)))], [.int (ei_ (50)), .int (ei_ (x54))], wl_ m ((sf_ a) + 1) (b) ((by_ (wr_ c))))) rfl ?_
                  refine pw_cmpT rfl ⟨rx54, sx54⟩ (by decide) (show 50 ≤ x54 by omega) ?_
                  refine pw_steps 1 (s' := (36, [some (.ref 47), some (.int (ei_ (a))), some (.int (ei_ (b)))], [.int (ei_ (b))], wl_ m ((sf_ a) + 1) (b) ((by_ (wr_ c))))) rfl ?_
                  refine pw_ifF rfl q1 (show ¬ (b < 0) by omega) ?_
                  refine pw_steps 4 (s' := (45, [some (.ref 47), some (.int (ei_ (a))), some (.int (ei_ (b)))], [.int (ei_ (a)), .ref 69, .int (ei_ (b))], wl_ m ((sf_ a) + 1) (b) ((by_ (wr_ c))))) rfl ?_
                  refine pw_ild rfl rfl (by omega) (fun x55 (hx55 : x55 = vi_ m 69 a) rx55 sx55 => ?_)
                  refine pw_cmpF rfl q1 ⟨rx55, sx55⟩ (show ¬ (x55 ≤ b) by omega) ?_
                  refine pw_steps 2 (s' := (55, [some (.ref 47), some (.int (ei_ (a))), some (.int (ei_ (b)))], [.int (ei_ (0))], wl_ m ((sf_ a) + 1) (b) ((by_ (wr_ c))))) rfl ?_
                  refine pw_iret rfl rfl rfl ?_
                  refine pw_steps 2 (s' := (10, [some (.ref 47), some (.int (ei_ (a))), some (.int (ei_ (b))), some (.long (el_ (c))), none, some (.int (ei_ (0)))], [.int (ei_ (0))], wl_ m ((sf_ a) + 1) (b) ((by_ (wr_ c))))) rfl ?_
                  refine pw_ifF rfl (by decide) (show ¬ (¬ 0 = 0) by decide) ?_
                  refine pw_steps 10 (s' := (28, [some (.ref 47), some (.int (ei_ (a))), some (.int (ei_ (b))), some (.long (el_ (c))), none, some (.int (ei_ (0)))], [.int (ei_ (a)), .ref 68, .int (((ei_ (60)) * (ei_ (a))) + (ei_ (b))), .ref 70], wl_ m ((sf_ a) + 1) (b) ((by_ (wr_ c))))) rfl ?_
                  refine pw_cv (congrArg (fun z_ : Int32 => ((28, [some (.ref 47), some (.int (ei_ (a))), some (.int (ei_ (b))), some (.long (el_ (c))), none, some (.int (ei_ (0)))], [.int (ei_ (a)), .ref 68, .int z_, .ref 70], wl_ m ((sf_ a) + 1) (b) ((by_ (wr_ c)))) : am_S)) (ei_add (ei_mul rfl rfl) rfl)) ?_
                  refine pw_ildE (x := x54) rfl rfl (by omega) hx54 ?_
                  refine pw_steps 3 (s' := (33, [some (.ref 47), some (.int (ei_ (a))), some (.int (ei_ (b))), some (.long (el_ (c))), none, some (.int (ei_ (0)))], [.long (el_ (c)), .int ((ei_ (x54)) - (ei_ (50))), .int (ei_ (((60 * a) + b))), .ref 70], wl_ m ((sf_ a) + 1) (b) ((by_ (wr_ c))))) rfl ?_
                  refine pw_cv (congrArg (fun z_ : Int32 => ((33, [some (.ref 47), some (.int (ei_ (a))), some (.int (ei_ (b))), some (.long (el_ (c))), none, some (.int (ei_ (0)))], [.long (el_ (c)), .int z_, .int (ei_ (((60 * a) + b))), .ref 70], wl_ m ((sf_ a) + 1) (b) ((by_ (wr_ c)))) : am_S)) (ei_sub rfl rfl)) ?_
                  refine pw_callS (As := [.int (ei_ ((x54 - 50))), .long (el_ (c))]) (st := [.int (ei_ (((60 * a) + b))), .ref 70]) rfl (by decide) rfl rfl (Nat.le_of_ble_eq_true rfl) ?_
                  refine pw_intro (I := iX9_asSort) (T := tX9_asSort) rfl rfl rfl ?_
                  refine pw_steps 1 (s' := (1, [some (.int (ei_ ((x54 - 50)))), some (.long (el_ (c))), none], [.int (ei_ ((x54 - 50)))], wl_ m ((sf_ a) + 1) (b) ((by_ (wr_ c))))) rfl ?_
                  refine pw_ifF rfl (by omega) (show ¬ (¬ (x54 - 50) = 0) by omega) ?_
                  refine pw_steps 5 (s' := (54, [some (.int (ei_ ((x54 - 50)))), some (.long (el_ (c))), none], [.long ((((el_ (c)).toInt32).toInt8.toInt32).toInt64)], wl_ m ((sf_ a) + 1) (b) ((by_ (wr_ c))))) rfl ?_
                  refine pw_cv (congrArg (fun z_ : Int64 => ((54, [some (.int (ei_ ((x54 - 50)))), some (.long (el_ (c))), none], [.long z_], wl_ m ((sf_ a) + 1) (b) ((by_ (wr_ c)))) : am_S)) (el_i2l (by_r _) (ei_by (ei_l2iw rfl)))) ?_
                  refine pw_lret rfl rfl ?_
                  refine pw_lst rfl rfl (by omega) ?_
                  refine pw_steps 1 (s' := (39, [some (.ref 47), some (.int (ei_ (a))), some (.int (ei_ (b))), some (.long (el_ (c))), none, some (.int (ei_ (0)))], [.int (ei_ (0))], wl_ (wl_ m ((sf_ a) + 1) (b) ((by_ (wr_ c)))) 70 (((60 * a) + b)) ((by_ (wr_ c))))) rfl ?_
                  refine pw_ifF rfl (by decide) (show ¬ (¬ 0 = 0) by decide) ?_
                  refine pw_steps 2 (s' := (48, [some (.ref 47), some (.int (ei_ (a))), some (.int (ei_ (b))), some (.long (el_ (c))), none, some (.int (ei_ (0)))], [.int (ei_ (1))], wl_ (wl_ m ((sf_ a) + 1) (b) ((by_ (wr_ c)))) 70 (((60 * a) + b)) ((by_ (wr_ c))))) rfl ?_
                  refine pw_iret rfl rfl rfl ?_
                  exact ⟨1, rfl, rfl, ⟨hp, hd, hi, ht, hl, hz, hc, ha, rS_put hs ⟨by omega, by omega⟩ ⟨by omega, by omega⟩ rfl (by have t_ := ((by_r _) : -2147483648 ≤ (by_ (wr_ c)) ∧ (by_ (wr_ c)) < 2147483648); omega) (fun _ => by_b _)⟩⟩
                · exact False.elim (by omega)
                · exact False.elim (by omega)
              · refine pw_tab 1 45 rfl ⟨rx27, sx27⟩ (by omega) (by omega) rfl ?_
                refine pw_steps 4 (s' := (49, [some (.ref ((sf_ a))), some (.long (el_ (c))), none], [.long ((((el_ (c)).toInt32).toInt16.toInt32).toInt64)], m)) rfl ?_
                refine pw_cv (congrArg (fun z_ : Int64 => ((49, [some (.ref ((sf_ a))), some (.long (el_ (c))), none], [.long z_], m) : am_S)) (el_i2l (sh_r _) (ei_sh (ei_l2iw rfl)))) ?_
                refine pw_lret rfl rfl ?_
                refine pw_lst rfl (sf_ok (a := a) (by omega)).2.2.2.2 (by omega) ?_
                refine pw_vret rfl rfl ?_
                refine pw_steps 1 (s' := (28, [some (.ref 0), some (.int (ei_ (a))), some (.int (ei_ (b))), some (.long (el_ (c))), none, some (.int (ei_ (0)))], [.int (ei_ (1))], wl_ m ((sf_ a) + 1) (b) ((sh_ (wr_ c))))) rfl ?_
                refine pw_iret rfl rfl rfl ?_
                refine pw_intro (I := iX9_put) (T := tX9_put) rfl rfl rfl ?_
                refine pw_steps 3 (s' := (3, [some (.ref 47), some (.int (ei_ (a))), some (.int (ei_ (b))), some (.long (el_ (c))), none, none], [.int (ei_ (b)), .int (ei_ (a)), .ref 47], wl_ m ((sf_ a) + 1) (b) ((sh_ (wr_ c))))) rfl ?_
                refine pw_call (As := [.int (ei_ (a)), .int (ei_ (b))]) (st := []) (k := 47) rfl rfl rfl rfl rfl (Nat.le_of_ble_eq_true rfl) ?_
                refine pw_intro (I := iX9_refusal) (T := tX9_refusal) rfl rfl rfl ?_
                refine pw_steps 1 (s' := (1, [some (.ref 47), some (.int (ei_ (a))), some (.int (ei_ (b)))], [.int (ei_ (a))], wl_ m ((sf_ a) + 1) (b) ((sh_ (wr_ c))))) rfl ?_
                refine pw_callS (As := [.int (ei_ (a))]) (st := []) rfl (by decide) rfl rfl (Nat.le_of_ble_eq_true rfl) ?_
                refine pw_intro (I := iX9_isShelf) (T := tX9_isShelf) rfl rfl rfl ?_
                refine pw_steps 4 (s' := (6, [some (.int (ei_ (a)))], [.long (el_ (5)), .long (el_ (0)), .long ((ei_ (a)).toInt64)], wl_ m ((sf_ a) + 1) (b) ((sh_ (wr_ c))))) rfl ?_
                refine pw_cv (congrArg (fun z_ : Int64 => ((6, [some (.int (ei_ (a)))], [.long (el_ (5)), .long (el_ (0)), .long z_], wl_ m ((sf_ a) + 1) (b) ((sh_ (wr_ c)))) : am_S)) (el_i2l q0 rfl)) ?_
                refine pw_callS (As := [.long (el_ (a)), .long (el_ (0)), .long (el_ (5))]) (st := []) rfl (by decide) rfl rfl (Nat.le_of_ble_eq_true rfl) ?_
                refine mt_within (by omega) (by omega) (by omega) (fun g56 g57 => ?_) (fun g58 => ?_) (fun g59 => ?_)
                · refine pw_iret rfl rfl rfl ?_
                  refine pw_ifT rfl (by decide) (show ¬ 1 = 0 by decide) ?_
                  refine pw_steps 3 (s' := (14, [some (.ref 47), some (.int (ei_ (a))), some (.int (ei_ (b)))], [.int (ei_ (a)), .ref 68], wl_ m ((sf_ a) + 1) (b) ((sh_ (wr_ c))))) rfl ?_
                  refine pw_ild rfl rfl (by omega) (fun x60 (hx60 : x60 = vi_ m 68 a) rx60 sx60 => ?_)
                  refine pw_ifT rfl ⟨rx60, sx60⟩ (show 0 ≤ x60 by omega) ?_
                  refine pw_steps 3 (s' := (26, [some (.ref 47), some (.int (ei_ (a))), some (.int (ei_ (b)))], [.int (ei_ (a)), .ref 68], wl_ m ((sf_ a) + 1) (b) ((sh_ (wr_ c))))) rfl ?_
                  refine pw_ildE (x := x60) rfl rfl (by omega) hx60 ?_
                  refine pw_steps 1 (s' := (29, [some (.ref 47), some (.int (ei_ (a))), some (.int (ei_ (b)))], [.int (ei_ (50)), .int (ei_ (x60))], wl_ m ((sf_ a) + 1) (b) ((sh_ (wr_ c))))) rfl ?_
                  refine pw_cmpT rfl ⟨rx60, sx60⟩ (by decide) (show 50 ≤ x60 by omega) ?_
                  refine pw_steps 1 (s' := (36, [some (.ref 47), some (.int (ei_ (a))), some (.int (ei_ (b)))], [.int (ei_ (b))], wl_ m ((sf_ a) + 1) (b) ((sh_ (wr_ c))))) rfl ?_
                  refine pw_ifF rfl q1 (show ¬ (b < 0) by omega) ?_
                  refine pw_steps 4 (s' := (45, [some (.ref 47), some (.int (ei_ (a))), some (.int (ei_ (b)))], [.int (ei_ (a)), .ref 69, .int (ei_ (b))], wl_ m ((sf_ a) + 1) (b) ((sh_ (wr_ c))))) rfl ?_
                  refine pw_ild rfl rfl (by omega) (fun x61 (hx61 : x61 = vi_ m 69 a) rx61 sx61 => ?_)
                  refine pw_cmpF rfl q1 ⟨rx61, sx61⟩ (show ¬ (x61 ≤ b) by omega) ?_
                  refine pw_steps 2 (s' := (55, [some (.ref 47), some (.int (ei_ (a))), some (.int (ei_ (b)))], [.int (ei_ (0))], wl_ m ((sf_ a) + 1) (b) ((sh_ (wr_ c))))) rfl ?_
                  refine pw_iret rfl rfl rfl ?_
                  refine pw_steps 2 (s' := (10, [some (.ref 47), some (.int (ei_ (a))), some (.int (ei_ (b))), some (.long (el_ (c))), none, some (.int (ei_ (0)))], [.int (ei_ (0))], wl_ m ((sf_ a) + 1) (b) ((sh_ (wr_ c))))) rfl ?_
                  refine pw_ifF rfl (by decide) (show ¬ (¬ 0 = 0) by decide) ?_
                  refine pw_steps 10 (s' := (28, [some (.ref 47), some (.int (ei_ (a))), some (.int (ei_ (b))), some (.long (el_ (c))), none, some (.int (ei_ (0)))], [.int (ei_ (a)), .ref 68, .int (((ei_ (60)) * (ei_ (a))) + (ei_ (b))), .ref 70], wl_ m ((sf_ a) + 1) (b) ((sh_ (wr_ c))))) rfl ?_
                  refine pw_cv (congrArg (fun z_ : Int32 => ((28, [some (.ref 47), some (.int (ei_ (a))), some (.int (ei_ (b))), some (.long (el_ (c))), none, some (.int (ei_ (0)))], [.int (ei_ (a)), .ref 68, .int z_, .ref 70], wl_ m ((sf_ a) + 1) (b) ((sh_ (wr_ c)))) : am_S)) (ei_add (ei_mul rfl rfl) rfl)) ?_
                  refine pw_ildE (x := x60) rfl rfl (by omega) hx60 ?_
                  refine pw_steps 3 (s' := (33, [some (.ref 47), some (.int (ei_ (a))), some (.int (ei_ (b))), some (.long (el_ (c))), none, some (.int (ei_ (0)))], [.long (el_ (c)), .int ((ei_ (x60)) - (ei_ (50))), .int (ei_ (((60 * a) + b))), .ref 70], wl_ m ((sf_ a) + 1) (b) ((sh_ (wr_ c))))) rfl ?_
                  refine pw_cv (congrArg (fun z_ : Int32 => ((33, [some (.ref 47), some (.int (ei_ (a))), some (.int (ei_ (b))), some (.long (el_ (c))), none, some (.int (ei_ (0)))], [.long (el_ (c)), .int z_, .int (ei_ (((60 * a) + b))), .ref 70], wl_ m ((sf_ a) + 1) (b) ((sh_ (wr_ c)))) : am_S)) (ei_sub rfl rfl)) ?_
                  refine pw_callS (As := [.int (ei_ ((x60 - 50))), .long (el_ (c))]) (st := [.int (ei_ (((60 * a) + b))), .ref 70]) rfl (by decide) rfl rfl (Nat.le_of_ble_eq_true rfl) ?_
                  refine pw_intro (I := iX9_asSort) (T := tX9_asSort) rfl rfl rfl ?_
                  refine pw_steps 1 (s' := (1, [some (.int (ei_ ((x60 - 50)))), some (.long (el_ (c))), none], [.int (ei_ ((x60 - 50)))], wl_ m ((sf_ a) + 1) (b) ((sh_ (wr_ c))))) rfl ?_
                  refine pw_ifT rfl (by omega) (show ¬ (x60 - 50) = 0 by omega) ?_
                  refine pw_steps 2 (s' := (13, [some (.int (ei_ ((x60 - 50)))), some (.long (el_ (c))), none], [.int (ei_ (1)), .int (ei_ ((x60 - 50)))], wl_ m ((sf_ a) + 1) (b) ((sh_ (wr_ c))))) rfl ?_
                  refine pw_cmpF rfl (by omega) (by decide) (show ¬ (¬ (x60 - 50) = 1) by omega) ?_
                  refine pw_steps 5 (s' := (54, [some (.int (ei_ ((x60 - 50)))), some (.long (el_ (c))), none], [.long ((((el_ (c)).toInt32).toInt16.toInt32).toInt64)], wl_ m ((sf_ a) + 1) (b) ((sh_ (wr_ c))))) rfl ?_
                  refine pw_cv (congrArg (fun z_ : Int64 => ((54, [some (.int (ei_ ((x60 - 50)))), some (.long (el_ (c))), none], [.long z_], wl_ m ((sf_ a) + 1) (b) ((sh_ (wr_ c)))) : am_S)) (el_i2l (sh_r _) (ei_sh (ei_l2iw rfl)))) ?_
                  refine pw_lret rfl rfl ?_
                  refine pw_lst rfl rfl (by omega) ?_
                  refine pw_steps 1 (s' := (39, [some (.ref 47), some (.int (ei_ (a))), some (.int (ei_ (b))), some (.long (el_ (c))), none, some (.int (ei_ (0)))], [.int (ei_ (0))], wl_ (wl_ m ((sf_ a) + 1) (b) ((sh_ (wr_ c)))) 70 (((60 * a) + b)) ((sh_ (wr_ c))))) rfl ?_
                  refine pw_ifF rfl (by decide) (show ¬ (¬ 0 = 0) by decide) ?_
                  refine pw_steps 2 (s' := (48, [some (.ref 47), some (.int (ei_ (a))), some (.int (ei_ (b))), some (.long (el_ (c))), none, some (.int (ei_ (0)))], [.int (ei_ (1))], wl_ (wl_ m ((sf_ a) + 1) (b) ((sh_ (wr_ c)))) 70 (((60 * a) + b)) ((sh_ (wr_ c))))) rfl ?_
                  refine pw_iret rfl rfl rfl ?_
                  exact ⟨1, rfl, rfl, ⟨hp, hd, hi, ht, hl, hz, hc, ha, rS_put hs ⟨by omega, by omega⟩ ⟨by omega, by omega⟩ rfl (by have t_ := ((sh_r _) : -2147483648 ≤ (sh_ (wr_ c)) ∧ (sh_ (wr_ c)) < 2147483648); omega) (fun h_ => by omega)⟩⟩
                · exact False.elim (by omega)
                · exact False.elim (by omega)
              · refine pw_tab 2 50 rfl ⟨rx27, sx27⟩ (by omega) (by omega) rfl ?_
                refine pw_steps 3 (s' := (53, [some (.ref ((sf_ a))), some (.long (el_ (c))), none], [.long (((el_ (c)).toInt32).toInt64)], m)) rfl ?_
                refine pw_cv (congrArg (fun z_ : Int64 => ((53, [some (.ref ((sf_ a))), some (.long (el_ (c))), none], [.long z_], m) : am_S)) (el_i2l (wr_r _) (ei_l2iw rfl))) ?_
                refine pw_lret rfl rfl ?_
                refine pw_lst rfl (sf_ok (a := a) (by omega)).2.2.2.2 (by omega) ?_
                refine pw_vret rfl rfl ?_
                refine pw_steps 1 (s' := (28, [some (.ref 0), some (.int (ei_ (a))), some (.int (ei_ (b))), some (.long (el_ (c))), none, some (.int (ei_ (0)))], [.int (ei_ (1))], wl_ m ((sf_ a) + 1) (b) ((wr_ c)))) rfl ?_
                refine pw_iret rfl rfl rfl ?_
                refine pw_intro (I := iX9_put) (T := tX9_put) rfl rfl rfl ?_
                refine pw_steps 3 (s' := (3, [some (.ref 47), some (.int (ei_ (a))), some (.int (ei_ (b))), some (.long (el_ (c))), none, none], [.int (ei_ (b)), .int (ei_ (a)), .ref 47], wl_ m ((sf_ a) + 1) (b) ((wr_ c)))) rfl ?_
                refine pw_call (As := [.int (ei_ (a)), .int (ei_ (b))]) (st := []) (k := 47) rfl rfl rfl rfl rfl (Nat.le_of_ble_eq_true rfl) ?_
                refine pw_intro (I := iX9_refusal) (T := tX9_refusal) rfl rfl rfl ?_
                refine pw_steps 1 (s' := (1, [some (.ref 47), some (.int (ei_ (a))), some (.int (ei_ (b)))], [.int (ei_ (a))], wl_ m ((sf_ a) + 1) (b) ((wr_ c)))) rfl ?_
                refine pw_callS (As := [.int (ei_ (a))]) (st := []) rfl (by decide) rfl rfl (Nat.le_of_ble_eq_true rfl) ?_
                refine pw_intro (I := iX9_isShelf) (T := tX9_isShelf) rfl rfl rfl ?_
                refine pw_steps 4 (s' := (6, [some (.int (ei_ (a)))], [.long (el_ (5)), .long (el_ (0)), .long ((ei_ (a)).toInt64)], wl_ m ((sf_ a) + 1) (b) ((wr_ c)))) rfl ?_
                refine pw_cv (congrArg (fun z_ : Int64 => ((6, [some (.int (ei_ (a)))], [.long (el_ (5)), .long (el_ (0)), .long z_], wl_ m ((sf_ a) + 1) (b) ((wr_ c))) : am_S)) (el_i2l q0 rfl)) ?_
                refine pw_callS (As := [.long (el_ (a)), .long (el_ (0)), .long (el_ (5))]) (st := []) rfl (by decide) rfl rfl (Nat.le_of_ble_eq_true rfl) ?_
                refine mt_within (by omega) (by omega) (by omega) (fun g62 g63 => ?_) (fun g64 => ?_) (fun g65 => ?_)
                · refine pw_iret rfl rfl rfl ?_
                  refine pw_ifT rfl (by decide) (show ¬ 1 = 0 by decide) ?_
                  refine pw_steps 3 (s' := (14, [some (.ref 47), some (.int (ei_ (a))), some (.int (ei_ (b)))], [.int (ei_ (a)), .ref 68], wl_ m ((sf_ a) + 1) (b) ((wr_ c)))) rfl ?_
                  refine pw_ild rfl rfl (by omega) (fun x66 (hx66 : x66 = vi_ m 68 a) rx66 sx66 => ?_)
                  refine pw_ifT rfl ⟨rx66, sx66⟩ (show 0 ≤ x66 by omega) ?_
                  refine pw_steps 3 (s' := (26, [some (.ref 47), some (.int (ei_ (a))), some (.int (ei_ (b)))], [.int (ei_ (a)), .ref 68], wl_ m ((sf_ a) + 1) (b) ((wr_ c)))) rfl ?_
                  refine pw_ildE (x := x66) rfl rfl (by omega) hx66 ?_
                  refine pw_steps 1 (s' := (29, [some (.ref 47), some (.int (ei_ (a))), some (.int (ei_ (b)))], [.int (ei_ (50)), .int (ei_ (x66))], wl_ m ((sf_ a) + 1) (b) ((wr_ c)))) rfl ?_
                  refine pw_cmpT rfl ⟨rx66, sx66⟩ (by decide) (show 50 ≤ x66 by omega) ?_
                  refine pw_steps 1 (s' := (36, [some (.ref 47), some (.int (ei_ (a))), some (.int (ei_ (b)))], [.int (ei_ (b))], wl_ m ((sf_ a) + 1) (b) ((wr_ c)))) rfl ?_
                  refine pw_ifF rfl q1 (show ¬ (b < 0) by omega) ?_
                  refine pw_steps 4 (s' := (45, [some (.ref 47), some (.int (ei_ (a))), some (.int (ei_ (b)))], [.int (ei_ (a)), .ref 69, .int (ei_ (b))], wl_ m ((sf_ a) + 1) (b) ((wr_ c)))) rfl ?_
                  refine pw_ild rfl rfl (by omega) (fun x67 (hx67 : x67 = vi_ m 69 a) rx67 sx67 => ?_)
                  refine pw_cmpF rfl q1 ⟨rx67, sx67⟩ (show ¬ (x67 ≤ b) by omega) ?_
                  refine pw_steps 2 (s' := (55, [some (.ref 47), some (.int (ei_ (a))), some (.int (ei_ (b)))], [.int (ei_ (0))], wl_ m ((sf_ a) + 1) (b) ((wr_ c)))) rfl ?_
                  refine pw_iret rfl rfl rfl ?_
                  refine pw_steps 2 (s' := (10, [some (.ref 47), some (.int (ei_ (a))), some (.int (ei_ (b))), some (.long (el_ (c))), none, some (.int (ei_ (0)))], [.int (ei_ (0))], wl_ m ((sf_ a) + 1) (b) ((wr_ c)))) rfl ?_
                  refine pw_ifF rfl (by decide) (show ¬ (¬ 0 = 0) by decide) ?_
                  refine pw_steps 10 (s' := (28, [some (.ref 47), some (.int (ei_ (a))), some (.int (ei_ (b))), some (.long (el_ (c))), none, some (.int (ei_ (0)))], [.int (ei_ (a)), .ref 68, .int (((ei_ (60)) * (ei_ (a))) + (ei_ (b))), .ref 70], wl_ m ((sf_ a) + 1) (b) ((wr_ c)))) rfl ?_
                  refine pw_cv (congrArg (fun z_ : Int32 => ((28, [some (.ref 47), some (.int (ei_ (a))), some (.int (ei_ (b))), some (.long (el_ (c))), none, some (.int (ei_ (0)))], [.int (ei_ (a)), .ref 68, .int z_, .ref 70], wl_ m ((sf_ a) + 1) (b) ((wr_ c))) : am_S)) (ei_add (ei_mul rfl rfl) rfl)) ?_
                  refine pw_ildE (x := x66) rfl rfl (by omega) hx66 ?_
                  refine pw_steps 3 (s' := (33, [some (.ref 47), some (.int (ei_ (a))), some (.int (ei_ (b))), some (.long (el_ (c))), none, some (.int (ei_ (0)))], [.long (el_ (c)), .int ((ei_ (x66)) - (ei_ (50))), .int (ei_ (((60 * a) + b))), .ref 70], wl_ m ((sf_ a) + 1) (b) ((wr_ c)))) rfl ?_
                  refine pw_cv (congrArg (fun z_ : Int32 => ((33, [some (.ref 47), some (.int (ei_ (a))), some (.int (ei_ (b))), some (.long (el_ (c))), none, some (.int (ei_ (0)))], [.long (el_ (c)), .int z_, .int (ei_ (((60 * a) + b))), .ref 70], wl_ m ((sf_ a) + 1) (b) ((wr_ c))) : am_S)) (ei_sub rfl rfl)) ?_
                  refine pw_callS (As := [.int (ei_ ((x66 - 50))), .long (el_ (c))]) (st := [.int (ei_ (((60 * a) + b))), .ref 70]) rfl (by decide) rfl rfl (Nat.le_of_ble_eq_true rfl) ?_
                  refine pw_intro (I := iX9_asSort) (T := tX9_asSort) rfl rfl rfl ?_
                  refine pw_steps 1 (s' := (1, [some (.int (ei_ ((x66 - 50)))), some (.long (el_ (c))), none], [.int (ei_ ((x66 - 50)))], wl_ m ((sf_ a) + 1) (b) ((wr_ c)))) rfl ?_
                  refine pw_ifT rfl (by omega) (show ¬ (x66 - 50) = 0 by omega) ?_
                  refine pw_steps 2 (s' := (13, [some (.int (ei_ ((x66 - 50)))), some (.long (el_ (c))), none], [.int (ei_ (1)), .int (ei_ ((x66 - 50)))], wl_ m ((sf_ a) + 1) (b) ((wr_ c)))) rfl ?_
                  refine pw_cmpT rfl (by omega) (by decide) (show ¬ (x66 - 50) = 1 by omega) ?_
                  refine pw_steps 2 (s' := (25, [some (.int (ei_ ((x66 - 50)))), some (.long (el_ (c))), none], [.int (ei_ (2)), .int (ei_ ((x66 - 50)))], wl_ m ((sf_ a) + 1) (b) ((wr_ c)))) rfl ?_
                  refine pw_cmpF rfl (by omega) (by decide) (show ¬ (¬ (x66 - 50) = 2) by omega) ?_
                  refine pw_steps 4 (s' := (54, [some (.int (ei_ ((x66 - 50)))), some (.long (el_ (c))), none], [.long (((el_ (c)).toInt32).toInt64)], wl_ m ((sf_ a) + 1) (b) ((wr_ c)))) rfl ?_
                  refine pw_cv (congrArg (fun z_ : Int64 => ((54, [some (.int (ei_ ((x66 - 50)))), some (.long (el_ (c))), none], [.long z_], wl_ m ((sf_ a) + 1) (b) ((wr_ c))) : am_S)) (el_i2l (wr_r _) (ei_l2iw rfl))) ?_
                  refine pw_lret rfl rfl ?_
                  refine pw_lst rfl rfl (by omega) ?_
                  refine pw_steps 1 (s' := (39, [some (.ref 47), some (.int (ei_ (a))), some (.int (ei_ (b))), some (.long (el_ (c))), none, some (.int (ei_ (0)))], [.int (ei_ (0))], wl_ (wl_ m ((sf_ a) + 1) (b) ((wr_ c))) 70 (((60 * a) + b)) ((wr_ c)))) rfl ?_
                  refine pw_ifF rfl (by decide) (show ¬ (¬ 0 = 0) by decide) ?_
                  refine pw_steps 2 (s' := (48, [some (.ref 47), some (.int (ei_ (a))), some (.int (ei_ (b))), some (.long (el_ (c))), none, some (.int (ei_ (0)))], [.int (ei_ (1))], wl_ (wl_ m ((sf_ a) + 1) (b) ((wr_ c))) 70 (((60 * a) + b)) ((wr_ c)))) rfl ?_
                  refine pw_iret rfl rfl rfl ?_
                  exact ⟨1, rfl, rfl, ⟨hp, hd, hi, ht, hl, hz, hc, ha, rS_put hs ⟨by omega, by omega⟩ ⟨by omega, by omega⟩ rfl (by have t_ := ((wr_r _) : -2147483648 ≤ (wr_ c) ∧ (wr_ c) < 2147483648); omega) (fun h_ => by omega)⟩⟩
                · exact False.elim (by omega)
                · exact False.elim (by omega)
              · refine pw_tab 3 66 rfl ⟨rx27, sx27⟩ (by omega) (by omega) rfl ?_
                refine pw_steps 1 (s' := (67, [some (.ref ((sf_ a))), some (.long (el_ (c))), none], [.long (el_ (c))], m)) rfl ?_
                refine pw_lret rfl rfl ?_
                refine pw_lst rfl (sf_ok (a := a) (by omega)).2.2.2.2 (by omega) ?_
                refine pw_vret rfl rfl ?_
                refine pw_steps 1 (s' := (28, [some (.ref 0), some (.int (ei_ (a))), some (.int (ei_ (b))), some (.long (el_ (c))), none, some (.int (ei_ (0)))], [.int (ei_ (1))], wl_ m ((sf_ a) + 1) (b) (c))) rfl ?_
                refine pw_iret rfl rfl rfl ?_
                refine pw_intro (I := iX9_put) (T := tX9_put) rfl rfl rfl ?_
                refine pw_steps 3 (s' := (3, [some (.ref 47), some (.int (ei_ (a))), some (.int (ei_ (b))), some (.long (el_ (c))), none, none], [.int (ei_ (b)), .int (ei_ (a)), .ref 47], wl_ m ((sf_ a) + 1) (b) (c))) rfl ?_
                refine pw_call (As := [.int (ei_ (a)), .int (ei_ (b))]) (st := []) (k := 47) rfl rfl rfl rfl rfl (Nat.le_of_ble_eq_true rfl) ?_
                refine pw_intro (I := iX9_refusal) (T := tX9_refusal) rfl rfl rfl ?_
                refine pw_steps 1 (s' := (1, [some (.ref 47), some (.int (ei_ (a))), some (.int (ei_ (b)))], [.int (ei_ (a))], wl_ m ((sf_ a) + 1) (b) (c))) rfl ?_
                refine pw_callS (As := [.int (ei_ (a))]) (st := []) rfl (by decide) rfl rfl (Nat.le_of_ble_eq_true rfl) ?_
                refine pw_intro (I := iX9_isShelf) (T := tX9_isShelf) rfl rfl rfl ?_
                refine pw_steps 4 (s' := (6, [some (.int (ei_ (a)))], [.long (el_ (5)), .long (el_ (0)), .long ((ei_ (a)).toInt64)], wl_ m ((sf_ a) + 1) (b) (c))) rfl ?_
                refine pw_cv (congrArg (fun z_ : Int64 => ((6, [some (.int (ei_ (a)))], [.long (el_ (5)), .long (el_ (0)), .long z_], wl_ m ((sf_ a) + 1) (b) (c)) : am_S)) (el_i2l q0 rfl)) ?_
                refine pw_callS (As := [.long (el_ (a)), .long (el_ (0)), .long (el_ (5))]) (st := []) rfl (by decide) rfl rfl (Nat.le_of_ble_eq_true rfl) ?_
                refine mt_within (by omega) (by omega) (by omega) (fun g68 g69 => ?_) (fun g70 => ?_) (fun g71 => ?_)
                · refine pw_iret rfl rfl rfl ?_
                  refine pw_ifT rfl (by decide) (show ¬ 1 = 0 by decide) ?_
                  refine pw_steps 3 (s' := (14, [some (.ref 47), some (.int (ei_ (a))), some (.int (ei_ (b)))], [.int (ei_ (a)), .ref 68], wl_ m ((sf_ a) + 1) (b) (c))) rfl ?_
                  refine pw_ild rfl rfl (by omega) (fun x72 (hx72 : x72 = vi_ m 68 a) rx72 sx72 => ?_)
                  refine pw_ifT rfl ⟨rx72, sx72⟩ (show 0 ≤ x72 by omega) ?_
                  refine pw_steps 3 (s' := (26, [some (.ref 47), some (.int (ei_ (a))), some (.int (ei_ (b)))], [.int (ei_ (a)), .ref 68], wl_ m ((sf_ a) + 1) (b) (c))) rfl ?_
                  refine pw_ildE (x := x72) rfl rfl (by omega) hx72 ?_
                  refine pw_steps 1 (s' := (29, [some (.ref 47), some (.int (ei_ (a))), some (.int (ei_ (b)))], [.int (ei_ (50)), .int (ei_ (x72))], wl_ m ((sf_ a) + 1) (b) (c))) rfl ?_
                  refine pw_cmpT rfl ⟨rx72, sx72⟩ (by decide) (show 50 ≤ x72 by omega) ?_
                  refine pw_steps 1 (s' := (36, [some (.ref 47), some (.int (ei_ (a))), some (.int (ei_ (b)))], [.int (ei_ (b))], wl_ m ((sf_ a) + 1) (b) (c))) rfl ?_
                  refine pw_ifF rfl q1 (show ¬ (b < 0) by omega) ?_
                  refine pw_steps 4 (s' := (45, [some (.ref 47), some (.int (ei_ (a))), some (.int (ei_ (b)))], [.int (ei_ (a)), .ref 69, .int (ei_ (b))], wl_ m ((sf_ a) + 1) (b) (c))) rfl ?_
                  refine pw_ild rfl rfl (by omega) (fun x73 (hx73 : x73 = vi_ m 69 a) rx73 sx73 => ?_)
                  refine pw_cmpF rfl q1 ⟨rx73, sx73⟩ (show ¬ (x73 ≤ b) by omega) ?_
                  refine pw_steps 2 (s' := (55, [some (.ref 47), some (.int (ei_ (a))), some (.int (ei_ (b)))], [.int (ei_ (0))], wl_ m ((sf_ a) + 1) (b) (c))) rfl ?_
                  refine pw_iret rfl rfl rfl ?_
                  refine pw_steps 2 (s' := (10, [some (.ref 47), some (.int (ei_ (a))), some (.int (ei_ (b))), some (.long (el_ (c))), none, some (.int (ei_ (0)))], [.int (ei_ (0))], wl_ m ((sf_ a) + 1) (b) (c))) rfl ?_
                  refine pw_ifF rfl (by decide) (show ¬ (¬ 0 = 0) by decide) ?_
                  refine pw_steps 10 (s' := (28, [some (.ref 47), some (.int (ei_ (a))), some (.int (ei_ (b))), some (.long (el_ (c))), none, some (.int (ei_ (0)))], [.int (ei_ (a)), .ref 68, .int (((ei_ (60)) * (ei_ (a))) + (ei_ (b))), .ref 70], wl_ m ((sf_ a) + 1) (b) (c))) rfl ?_
                  refine pw_cv (congrArg (fun z_ : Int32 => ((28, [some (.ref 47), some (.int (ei_ (a))), some (.int (ei_ (b))), some (.long (el_ (c))), none, some (.int (ei_ (0)))], [.int (ei_ (a)), .ref 68, .int z_, .ref 70], wl_ m ((sf_ a) + 1) (b) (c)) : am_S)) (ei_add (ei_mul rfl rfl) rfl)) ?_
                  refine pw_ildE (x := x72) rfl rfl (by omega) hx72 ?_
                  refine pw_steps 3 (s' := (33, [some (.ref 47), some (.int (ei_ (a))), some (.int (ei_ (b))), some (.long (el_ (c))), none, some (.int (ei_ (0)))], [.long (el_ (c)), .int ((ei_ (x72)) - (ei_ (50))), .int (ei_ (((60 * a) + b))), .ref 70], wl_ m ((sf_ a) + 1) (b) (c))) rfl ?_
                  refine pw_cv (congrArg (fun z_ : Int32 => ((33, [some (.ref 47), some (.int (ei_ (a))), some (.int (ei_ (b))), some (.long (el_ (c))), none, some (.int (ei_ (0)))], [.long (el_ (c)), .int z_, .int (ei_ (((60 * a) + b))), .ref 70], wl_ m ((sf_ a) + 1) (b) (c)) : am_S)) (ei_sub rfl rfl)) ?_
                  refine pw_callS (As := [.int (ei_ ((x72 - 50))), .long (el_ (c))]) (st := [.int (ei_ (((60 * a) + b))), .ref 70]) rfl (by decide) rfl rfl (Nat.le_of_ble_eq_true rfl) ?_
                  refine pw_intro (I := iX9_asSort) (T := tX9_asSort) rfl rfl rfl ?_
                  refine pw_steps 1 (s' := (1, [some (.int (ei_ ((x72 - 50)))), some (.long (el_ (c))), none], [.int (ei_ ((x72 - 50)))], wl_ m ((sf_ a) + 1) (b) (c))) rfl ?_
                  refine pw_ifT rfl (by omega) (show ¬ (x72 - 50) = 0 by omega) ?_
                  refine pw_steps 2 (s' := (13, [some (.int (ei_ ((x72 - 50)))), some (.long (el_ (c))), none], [.int (ei_ (1)), .int (ei_ ((x72 - 50)))], wl_ m ((sf_ a) + 1) (b) (c))) rfl ?_
                  refine pw_cmpT rfl (by omega) (by decide) (show ¬ (x72 - 50) = 1 by omega) ?_
                  refine pw_steps 2 (s' := (25, [some (.int (ei_ ((x72 - 50)))), some (.long (el_ (c))), none], [.int (ei_ (2)), .int (ei_ ((x72 - 50)))], wl_ m ((sf_ a) + 1) (b) (c))) rfl ?_
                  refine pw_cmpT rfl (by omega) (by decide) (show ¬ (x72 - 50) = 2 by omega) ?_
                  refine pw_steps 2 (s' := (36, [some (.int (ei_ ((x72 - 50)))), some (.long (el_ (c))), none], [.int (ei_ (4)), .int (ei_ ((x72 - 50)))], wl_ m ((sf_ a) + 1) (b) (c))) rfl ?_
                  refine pw_cmpT rfl (by omega) (by decide) (show ¬ (x72 - 50) = 4 by omega) ?_
                  refine pw_steps 1 (s' := (54, [some (.int (ei_ ((x72 - 50)))), some (.long (el_ (c))), none], [.long (el_ (c))], wl_ m ((sf_ a) + 1) (b) (c))) rfl ?_
                  refine pw_lret rfl rfl ?_
                  refine pw_lst rfl rfl (by omega) ?_
                  refine pw_steps 1 (s' := (39, [some (.ref 47), some (.int (ei_ (a))), some (.int (ei_ (b))), some (.long (el_ (c))), none, some (.int (ei_ (0)))], [.int (ei_ (0))], wl_ (wl_ m ((sf_ a) + 1) (b) (c)) 70 (((60 * a) + b)) (c))) rfl ?_
                  refine pw_ifF rfl (by decide) (show ¬ (¬ 0 = 0) by decide) ?_
                  refine pw_steps 2 (s' := (48, [some (.ref 47), some (.int (ei_ (a))), some (.int (ei_ (b))), some (.long (el_ (c))), none, some (.int (ei_ (0)))], [.int (ei_ (1))], wl_ (wl_ m ((sf_ a) + 1) (b) (c)) 70 (((60 * a) + b)) (c))) rfl ?_
                  refine pw_iret rfl rfl rfl ?_
                  exact ⟨1, rfl, rfl, ⟨hp, hd, hi, ht, hl, hz, hc, ha, rS_put hs ⟨by omega, by omega⟩ ⟨by omega, by omega⟩ rfl q2 (fun h_ => by omega)⟩⟩
                · exact False.elim (by omega)
                · exact False.elim (by omega)
              · refine pw_tab 4 54 rfl ⟨rx27, sx27⟩ (by omega) (by omega) rfl ?_
                refine pw_steps 2 (s' := (56, [some (.ref ((sf_ a))), some (.long (el_ (c))), none], [.long (el_ (0)), .long (el_ (c))], m)) rfl ?_
                refine pw_lcmp rfl rfl (by omega) (by decide) (fun (h74 : c = 0) => ?_) (fun (h74 : ¬ (c = 0)) => ?_)
                · refine pw_steps 1 (s' := (65, [some (.ref ((sf_ a))), some (.long (el_ (c))), none], [.long (el_ (0))], m)) rfl ?_
                  refine pw_lret rfl rfl ?_
                  refine pw_lst rfl (sf_ok (a := a) (by omega)).2.2.2.2 (by omega) ?_
                  refine pw_vret rfl rfl ?_
                  refine pw_steps 1 (s' := (28, [some (.ref 0), some (.int (ei_ (a))), some (.int (ei_ (b))), some (.long (el_ (c))), none, some (.int (ei_ (0)))], [.int (ei_ (1))], wl_ m ((sf_ a) + 1) (b) (0))) rfl ?_
                  refine pw_iret rfl rfl rfl ?_
                  refine pw_intro (I := iX9_put) (T := tX9_put) rfl rfl rfl ?_
                  refine pw_steps 3 (s' := (3, [some (.ref 47), some (.int (ei_ (a))), some (.int (ei_ (b))), some (.long (el_ (c))), none, none], [.int (ei_ (b)), .int (ei_ (a)), .ref 47], wl_ m ((sf_ a) + 1) (b) (0))) rfl ?_
                  refine pw_call (As := [.int (ei_ (a)), .int (ei_ (b))]) (st := []) (k := 47) rfl rfl rfl rfl rfl (Nat.le_of_ble_eq_true rfl) ?_
                  refine pw_intro (I := iX9_refusal) (T := tX9_refusal) rfl rfl rfl ?_
                  refine pw_steps 1 (s' := (1, [some (.ref 47), some (.int (ei_ (a))), some (.int (ei_ (b)))], [.int (ei_ (a))], wl_ m ((sf_ a) + 1) (b) (0))) rfl ?_
                  refine pw_callS (As := [.int (ei_ (a))]) (st := []) rfl (by decide) rfl rfl (Nat.le_of_ble_eq_true rfl) ?_
                  refine pw_intro (I := iX9_isShelf) (T := tX9_isShelf) rfl rfl rfl ?_
                  refine pw_steps 4 (s' := (6, [some (.int (ei_ (a)))], [.long (el_ (5)), .long (el_ (0)), .long ((ei_ (a)).toInt64)], wl_ m ((sf_ a) + 1) (b) (0))) rfl ?_
                  refine pw_cv (congrArg (fun z_ : Int64 => ((6, [some (.int (ei_ (a)))], [.long (el_ (5)), .long (el_ (0)), .long z_], wl_ m ((sf_ a) + 1) (b) (0)) : am_S)) (el_i2l q0 rfl)) ?_
                  refine pw_callS (As := [.long (el_ (a)), .long (el_ (0)), .long (el_ (5))]) (st := []) rfl (by decide) rfl rfl (Nat.le_of_ble_eq_true rfl) ?_
                  refine mt_within (by omega) (by omega) (by omega) (fun g75 g76 => ?_) (fun g77 => ?_) (fun g78 => ?_)
                  · refine pw_iret rfl rfl rfl ?_
                    refine pw_ifT rfl (by decide) (show ¬ 1 = 0 by decide) ?_
                    refine pw_steps 3 (s' := (14, [some (.ref 47), some (.int (ei_ (a))), some (.int (ei_ (b)))], [.int (ei_ (a)), .ref 68], wl_ m ((sf_ a) + 1) (b) (0))) rfl ?_
                    refine pw_ild rfl rfl (by omega) (fun x79 (hx79 : x79 = vi_ m 68 a) rx79 sx79 => ?_)
                    refine pw_ifT rfl ⟨rx79, sx79⟩ (show 0 ≤ x79 by omega) ?_
                    refine pw_steps 3 (s' := (26, [some (.ref 47), some (.int (ei_ (a))), some (.int (ei_ (b)))], [.int (ei_ (a)), .ref 68], wl_ m ((sf_ a) + 1) (b) (0))) rfl ?_
                    refine pw_ildE (x := x79) rfl rfl (by omega) hx79 ?_
                    refine pw_steps 1 (s' := (29, [some (.ref 47), some (.int (ei_ (a))), some (.int (ei_ (b)))], [.int (ei_ (50)), .int (ei_ (x79))], wl_ m ((sf_ a) + 1) (b) (0))) rfl ?_
                    refine pw_cmpT rfl ⟨rx79, sx79⟩ (by decide) (show 50 ≤ x79 by omega) ?_
                    refine pw_steps 1 (s' := (36, [some (.ref 47), some (.int (ei_ (a))), some (.int (ei_ (b)))], [.int (ei_ (b))], wl_ m ((sf_ a) + 1) (b) (0))) rfl ?_
                    refine pw_ifF rfl q1 (show ¬ (b < 0) by omega) ?_
                    refine pw_steps 4 (s' := (45, [some (.ref 47), some (.int (ei_ (a))), some (.int (ei_ (b)))], [.int (ei_ (a)), .ref 69, .int (ei_ (b))], wl_ m ((sf_ a) + 1) (b) (0))) rfl ?_
                    refine pw_ild rfl rfl (by omega) (fun x80 (hx80 : x80 = vi_ m 69 a) rx80 sx80 => ?_)
                    refine pw_cmpF rfl q1 ⟨rx80, sx80⟩ (show ¬ (x80 ≤ b) by omega) ?_
                    refine pw_steps 2 (s' := (55, [some (.ref 47), some (.int (ei_ (a))), some (.int (ei_ (b)))], [.int (ei_ (0))], wl_ m ((sf_ a) + 1) (b) (0))) rfl ?_
                    refine pw_iret rfl rfl rfl ?_
                    refine pw_steps 2 (s' := (10, [some (.ref 47), some (.int (ei_ (a))), some (.int (ei_ (b))), some (.long (el_ (c))), none, some (.int (ei_ (0)))], [.int (ei_ (0))], wl_ m ((sf_ a) + 1) (b) (0))) rfl ?_
                    refine pw_ifF rfl (by decide) (show ¬ (¬ 0 = 0) by decide) ?_
                    refine pw_steps 10 (s' := (28, [some (.ref 47), some (.int (ei_ (a))), some (.int (ei_ (b))), some (.long (el_ (c))), none, some (.int (ei_ (0)))], [.int (ei_ (a)), .ref 68, .int (((ei_ (60)) * (ei_ (a))) + (ei_ (b))), .ref 70], wl_ m ((sf_ a) + 1) (b) (0))) rfl ?_
                    refine pw_cv (congrArg (fun z_ : Int32 => ((28, [some (.ref 47), some (.int (ei_ (a))), some (.int (ei_ (b))), some (.long (el_ (c))), none, some (.int (ei_ (0)))], [.int (ei_ (a)), .ref 68, .int z_, .ref 70], wl_ m ((sf_ a) + 1) (b) (0)) : am_S)) (ei_add (ei_mul rfl rfl) rfl)) ?_
                    refine pw_ildE (x := x79) rfl rfl (by omega) hx79 ?_
                    refine pw_steps 3 (s' := (33, [some (.ref 47), some (.int (ei_ (a))), some (.int (ei_ (b))), some (.long (el_ (c))), none, some (.int (ei_ (0)))], [.long (el_ (c)), .int ((ei_ (x79)) - (ei_ (50))), .int (ei_ (((60 * a) + b))), .ref 70], wl_ m ((sf_ a) + 1) (b) (0))) rfl ?_
                    refine pw_cv (congrArg (fun z_ : Int32 => ((33, [some (.ref 47), some (.int (ei_ (a))), some (.int (ei_ (b))), some (.long (el_ (c))), none, some (.int (ei_ (0)))], [.long (el_ (c)), .int z_, .int (ei_ (((60 * a) + b))), .ref 70], wl_ m ((sf_ a) + 1) (b) (0)) : am_S)) (ei_sub rfl rfl)) ?_
                    refine pw_callS (As := [.int (ei_ ((x79 - 50))), .long (el_ (c))]) (st := [.int (ei_ (((60 * a) + b))), .ref 70]) rfl (by decide) rfl rfl (Nat.le_of_ble_eq_true rfl) ?_
                    refine pw_intro (I := iX9_asSort) (T := tX9_asSort) rfl rfl rfl ?_
                    refine pw_steps 1 (s' := (1, [some (.int (ei_ ((x79 - 50)))), some (.long (el_ (c))), none], [.int (ei_ ((x79 - 50)))], wl_ m ((sf_ a) + 1) (b) (0))) rfl ?_
                    refine pw_ifT rfl (by omega) (show ¬ (x79 - 50) = 0 by omega) ?_
                    refine pw_steps 2 (s' := (13, [some (.int (ei_ ((x79 - 50)))), some (.long (el_ (c))), none], [.int (ei_ (1)), .int (ei_ ((x79 - 50)))], wl_ m ((sf_ a) + 1) (b) (0))) rfl ?_
                    refine pw_cmpT rfl (by omega) (by decide) (show ¬ (x79 - 50) = 1 by omega) ?_
                    refine pw_steps 2 (s' := (25, [some (.int (ei_ ((x79 - 50)))), some (.long (el_ (c))), none], [.int (ei_ (2)), .int (ei_ ((x79 - 50)))], wl_ m ((sf_ a) + 1) (b) (0))) rfl ?_
                    refine pw_cmpT rfl (by omega) (by decide) (show ¬ (x79 - 50) = 2 by omega) ?_
                    refine pw_steps 2 (s' := (36, [some (.int (ei_ ((x79 - 50)))), some (.long (el_ (c))), none], [.int (ei_ (4)), .int (ei_ ((x79 - 50)))], wl_ m ((sf_ a) + 1) (b) (0))) rfl ?_
                    refine pw_cmpF rfl (by omega) (by decide) (show ¬ (¬ (x79 - 50) = 4) by omega) ?_
                    refine pw_steps 2 (s' := (41, [some (.int (ei_ ((x79 - 50)))), some (.long (el_ (c))), none], [.long (el_ (0)), .long (el_ (c))], wl_ m ((sf_ a) + 1) (b) (0))) rfl ?_
                    refine pw_lcmp rfl rfl (by omega) (by decide) (fun (h81 : c = 0) => ?_) (fun (h81 : ¬ (c = 0)) => ?_)
                    · refine pw_steps 2 (s' := (54, [some (.int (ei_ ((x79 - 50)))), some (.long (el_ (c))), none], [.long (el_ (0))], wl_ m ((sf_ a) + 1) (b) (0))) rfl ?_
                      refine pw_lret rfl rfl ?_
                      refine pw_lst rfl rfl (by omega) ?_
                      refine pw_steps 1 (s' := (39, [some (.ref 47), some (.int (ei_ (a))), some (.int (ei_ (b))), some (.long (el_ (c))), none, some (.int (ei_ (0)))], [.int (ei_ (0))], wl_ (wl_ m ((sf_ a) + 1) (b) (0)) 70 (((60 * a) + b)) (0))) rfl ?_
                      refine pw_ifF rfl (by decide) (show ¬ (¬ 0 = 0) by decide) ?_
                      refine pw_steps 2 (s' := (48, [some (.ref 47), some (.int (ei_ (a))), some (.int (ei_ (b))), some (.long (el_ (c))), none, some (.int (ei_ (0)))], [.int (ei_ (1))], wl_ (wl_ m ((sf_ a) + 1) (b) (0)) 70 (((60 * a) + b)) (0))) rfl ?_
                      refine pw_iret rfl rfl rfl ?_
                      exact ⟨1, rfl, rfl, ⟨hp, hd, hi, ht, hl, hz, hc, ha, rS_put hs ⟨by omega, by omega⟩ ⟨by omega, by omega⟩ rfl (by decide) (fun h_ => by omega)⟩⟩
                    · exact False.elim (by omega)
                  · exact False.elim (by omega)
                  · exact False.elim (by omega)
                · refine pw_steps 2 (s' := (65, [some (.ref ((sf_ a))), some (.long (el_ (c))), none], [.long (el_ (1))], m)) rfl ?_
                  refine pw_lret rfl rfl ?_
                  refine pw_lst rfl (sf_ok (a := a) (by omega)).2.2.2.2 (by omega) ?_
                  refine pw_vret rfl rfl ?_
                  refine pw_steps 1 (s' := (28, [some (.ref 0), some (.int (ei_ (a))), some (.int (ei_ (b))), some (.long (el_ (c))), none, some (.int (ei_ (0)))], [.int (ei_ (1))], wl_ m ((sf_ a) + 1) (b) (1))) rfl ?_
                  refine pw_iret rfl rfl rfl ?_
                  refine pw_intro (I := iX9_put) (T := tX9_put) rfl rfl rfl ?_
                  refine pw_steps 3 (s' := (3, [some (.ref 47), some (.int (ei_ (a))), some (.int (ei_ (b))), some (.long (el_ (c))), none, none], [.int (ei_ (b)), .int (ei_ (a)), .ref 47], wl_ m ((sf_ a) + 1) (b) (1))) rfl ?_
                  refine pw_call (As := [.int (ei_ (a)), .int (ei_ (b))]) (st := []) (k := 47) rfl rfl rfl rfl rfl (Nat.le_of_ble_eq_true rfl) ?_
                  refine pw_intro (I := iX9_refusal) (T := tX9_refusal) rfl rfl rfl ?_
                  refine pw_steps 1 (s' := (1, [some (.ref 47), some (.int (ei_ (a))), some (.int (ei_ (b)))], [.int (ei_ (a))], wl_ m ((sf_ a) + 1) (b) (1))) rfl ?_
                  refine pw_callS (As := [.int (ei_ (a))]) (st := []) rfl (by decide) rfl rfl (Nat.le_of_ble_eq_true rfl) ?_
                  refine pw_intro (I := iX9_isShelf) (T := tX9_isShelf) rfl rfl rfl ?_
                  refine pw_steps 4 (s' := (6, [some (.int (ei_ (a)))], [.long (el_ (5)), .long (el_ (0)), .long ((ei_ (a)).toInt64)], wl_ m ((sf_ a) + 1) (b) (1))) rfl ?_
                  refine pw_cv (congrArg (fun z_ : Int64 => ((6, [some (.int (ei_ (a)))], [.long (el_ (5)), .long (el_ (0)), .long z_], wl_ m ((sf_ a) + 1) (b) (1)) : am_S)) (el_i2l q0 rfl)) ?_
                  refine pw_callS (As := [.long (el_ (a)), .long (el_ (0)), .long (el_ (5))]) (st := []) rfl (by decide) rfl rfl (Nat.le_of_ble_eq_true rfl) ?_
                  refine mt_within (by omega) (by omega) (by omega) (fun g82 g83 => ?_) (fun g84 => ?_) (fun g85 => ?_)
                  · refine pw_iret rfl rfl rfl ?_
                    refine pw_ifT rfl (by decide) (show ¬ 1 = 0 by decide) ?_
                    refine pw_steps 3 (s' := (14, [some (.ref 47), some (.int (ei_ (a))), some (.int (ei_ (b)))], [.int (ei_ (a)), .ref 68], wl_ m ((sf_ a) + 1) (b) (1))) rfl ?_
                    refine pw_ild rfl rfl (by omega) (fun x86 (hx86 : x86 = vi_ m 68 a) rx86 sx86 => ?_)
                    refine pw_ifT rfl ⟨rx86, sx86⟩ (show 0 ≤ x86 by omega) ?_
                    refine pw_steps 3 (s' := (26, [some (.ref 47), some (.int (ei_ (a))), some (.int (ei_ (b)))], [.int (ei_ (a)), .ref 68], wl_ m ((sf_ a) + 1) (b) (1))) rfl ?_
                    refine pw_ildE (x := x86) rfl rfl (by omega) hx86 ?_
                    refine pw_steps 1 (s' := (29, [some (.ref 47), some (.int (ei_ (a))), some (.int (ei_ (b)))], [.int (ei_ (50)), .int (ei_ (x86))], wl_ m ((sf_ a) + 1) (b) (1))) rfl ?_
                    refine pw_cmpT rfl ⟨rx86, sx86⟩ (by decide) (show 50 ≤ x86 by omega) ?_
                    refine pw_steps 1 (s' := (36, [some (.ref 47), some (.int (ei_ (a))), some (.int (ei_ (b)))], [.int (ei_ (b))], wl_ m ((sf_ a) + 1) (b) (1))) rfl ?_
                    refine pw_ifF rfl q1 (show ¬ (b < 0) by omega) ?_
                    refine pw_steps 4 (s' := (45, [some (.ref 47), some (.int (ei_ (a))), some (.int (ei_ (b)))], [.int (ei_ (a)), .ref 69, .int (ei_ (b))], wl_ m ((sf_ a) + 1) (b) (1))) rfl ?_
                    refine pw_ild rfl rfl (by omega) (fun x87 (hx87 : x87 = vi_ m 69 a) rx87 sx87 => ?_)
                    refine pw_cmpF rfl q1 ⟨rx87, sx87⟩ (show ¬ (x87 ≤ b) by omega) ?_
                    refine pw_steps 2 (s' := (55, [some (.ref 47), some (.int (ei_ (a))), some (.int (ei_ (b)))], [.int (ei_ (0))], wl_ m ((sf_ a) + 1) (b) (1))) rfl ?_
                    refine pw_iret rfl rfl rfl ?_
                    refine pw_steps 2 (s' := (10, [some (.ref 47), some (.int (ei_ (a))), some (.int (ei_ (b))), some (.long (el_ (c))), none, some (.int (ei_ (0)))], [.int (ei_ (0))], wl_ m ((sf_ a) + 1) (b) (1))) rfl ?_
                    refine pw_ifF rfl (by decide) (show ¬ (¬ 0 = 0) by decide) ?_
                    refine pw_steps 10 (s' := (28, [some (.ref 47), some (.int (ei_ (a))), some (.int (ei_ (b))), some (.long (el_ (c))), none, some (.int (ei_ (0)))], [.int (ei_ (a)), .ref 68, .int (((ei_ (60)) * (ei_ (a))) + (ei_ (b))), .ref 70], wl_ m ((sf_ a) + 1) (b) (1))) rfl ?_
                    refine pw_cv (congrArg (fun z_ : Int32 => ((28, [some (.ref 47), some (.int (ei_ (a))), some (.int (ei_ (b))), some (.long (el_ (c))), none, some (.int (ei_ (0)))], [.int (ei_ (a)), .ref 68, .int z_, .ref 70], wl_ m ((sf_ a) + 1) (b) (1)) : am_S)) (ei_add (ei_mul rfl rfl) rfl)) ?_
                    refine pw_ildE (x := x86) rfl rfl (by omega) hx86 ?_
                    refine pw_steps 3 (s' := (33, [some (.ref 47), some (.int (ei_ (a))), some (.int (ei_ (b))), some (.long (el_ (c))), none, some (.int (ei_ (0)))], [.long (el_ (c)), .int ((ei_ (x86)) - (ei_ (50))), .int (ei_ (((60 * a) + b))), .ref 70], wl_ m ((sf_ a) + 1) (b) (1))) rfl ?_
                    refine pw_cv (congrArg (fun z_ : Int32 => ((33, [some (.ref 47), some (.int (ei_ (a))), some (.int (ei_ (b))), some (.long (el_ (c))), none, some (.int (ei_ (0)))], [.long (el_ (c)), .int z_, .int (ei_ (((60 * a) + b))), .ref 70], wl_ m ((sf_ a) + 1) (b) (1)) : am_S)) (ei_sub rfl rfl)) ?_
                    refine pw_callS (As := [.int (ei_ ((x86 - 50))), .long (el_ (c))]) (st := [.int (ei_ (((60 * a) + b))), .ref 70]) rfl (by decide) rfl rfl (Nat.le_of_ble_eq_true rfl) ?_
                    refine pw_intro (I := iX9_asSort) (T := tX9_asSort) rfl rfl rfl ?_
                    refine pw_steps 1 (s' := (1, [some (.int (ei_ ((x86 - 50)))), some (.long (el_ (c))), none], [.int (ei_ ((x86 - 50)))], wl_ m ((sf_ a) + 1) (b) (1))) rfl ?_
                    refine pw_ifT rfl (by omega) (show ¬ (x86 - 50) = 0 by omega) ?_
                    refine pw_steps 2 (s' := (13, [some (.int (ei_ ((x86 - 50)))), some (.long (el_ (c))), none], [.int (ei_ (1)), .int (ei_ ((x86 - 50)))], wl_ m ((sf_ a) + 1) (b) (1))) rfl ?_
                    refine pw_cmpT rfl (by omega) (by decide) (show ¬ (x86 - 50) = 1 by omega) ?_
                    refine pw_steps 2 (s' := (25, [some (.int (ei_ ((x86 - 50)))), some (.long (el_ (c))), none], [.int (ei_ (2)), .int (ei_ ((x86 - 50)))], wl_ m ((sf_ a) + 1) (b) (1))) rfl ?_
                    refine pw_cmpT rfl (by omega) (by decide) (show ¬ (x86 - 50) = 2 by omega) ?_
                    refine pw_steps 2 (s' := (36, [some (.int (ei_ ((x86 - 50)))), some (.long (el_ (c))), none], [.int (ei_ (4)), .int (ei_ ((x86 - 50)))], wl_ m ((sf_ a) + 1) (b) (1))) rfl ?_
                    refine pw_cmpF rfl (by omega) (by decide) (show ¬ (¬ (x86 - 50) = 4) by omega) ?_
                    refine pw_steps 2 (s' := (41, [some (.int (ei_ ((x86 - 50)))), some (.long (el_ (c))), none], [.long (el_ (0)), .long (el_ (c))], wl_ m ((sf_ a) + 1) (b) (1))) rfl ?_
                    refine pw_lcmp rfl rfl (by omega) (by decide) (fun (h88 : c = 0) => ?_) (fun (h88 : ¬ (c = 0)) => ?_)
                    · exact False.elim (by omega)
                    · refine pw_steps 2 (s' := (54, [some (.int (ei_ ((x86 - 50)))), some (.long (el_ (c))), none], [.long (el_ (1))], wl_ m ((sf_ a) + 1) (b) (1))) rfl ?_
                      refine pw_lret rfl rfl ?_
                      refine pw_lst rfl rfl (by omega) ?_
                      refine pw_steps 1 (s' := (39, [some (.ref 47), some (.int (ei_ (a))), some (.int (ei_ (b))), some (.long (el_ (c))), none, some (.int (ei_ (0)))], [.int (ei_ (0))], wl_ (wl_ m ((sf_ a) + 1) (b) (1)) 70 (((60 * a) + b)) (1))) rfl ?_
                      refine pw_ifF rfl (by decide) (show ¬ (¬ 0 = 0) by decide) ?_
                      refine pw_steps 2 (s' := (48, [some (.ref 47), some (.int (ei_ (a))), some (.int (ei_ (b))), some (.long (el_ (c))), none, some (.int (ei_ (0)))], [.int (ei_ (1))], wl_ (wl_ m ((sf_ a) + 1) (b) (1)) 70 (((60 * a) + b)) (1))) rfl ?_
                      refine pw_iret rfl rfl rfl ?_
                      exact ⟨1, rfl, rfl, ⟨hp, hd, hi, ht, hl, hz, hc, ha, rS_put hs ⟨by omega, by omega⟩ ⟨by omega, by omega⟩ rfl (by decide) (fun h_ => by omega)⟩⟩
                  · exact False.elim (by omega)
                  · exact False.elim (by omega)

set_option maxHeartbeats 4000000 in
set_option maxRecDepth 20000 in
theorem op_keep {q : am_X} {d : Nat} {m : am_M} {a : Int} {b : Int} (q0 : -2147483648 ≤ a ∧ a < 2147483648) (q1 : -2147483648 ≤ b ∧ b < 2147483648) (hR : rR_ m) : pw_C q (d + 60) 148 [.ref 0, .int (ei_ (a)), .int (ei_ (b))] m (fun r1 m1 => pw_C q (d + 60) 253 [.ref 47, .int (ei_ (a)), .int (ei_ (b))] m1 (fun r2 m2 => ∃ x : Int, r1 = some (.int (ei_ x)) ∧ r2 = some (.int (ei_ x)) ∧ rR_ m2)) := by
  obtain ⟨hp, hd, hi, ht, hl, hz, hc, ha, hs⟩ := id hR
  obtain ⟨hP1, hP2, hP3, hP4⟩ := id hp
  have hmw := mW_of hp hd
  have hmf := mF_of hp hd
  obtain ⟨ha1, ha2, ha3, ha4, ha5, ha6⟩ := id ha
  refine pw_intro (I := iX8_keep) (T := tX8_keep) rfl rfl rfl ?_
  refine pw_steps 1 (s' := (1, [some (.ref 0), some (.int (ei_ (a))), some (.int (ei_ (b)))], [.int (ei_ (a))], m)) rfl ?_
  refine pw_callS (As := [.int (ei_ (a))]) (st := []) rfl (by decide) rfl rfl (Nat.le_of_ble_eq_true rfl) ?_
  refine pw_intro (I := iX8_isShelf) (T := tX8_isShelf) rfl rfl rfl ?_
  refine pw_steps 1 (s' := (1, [some (.int (ei_ (a)))], [.int (ei_ (a))], m)) rfl ?_
  refine pw_if rfl q0 (fun (h1 : a < 0) => ?_) (fun (h1 : ¬ (a < 0)) => ?_)
  · refine pw_steps 1 (s' := (15, [some (.int (ei_ (a)))], [.int (ei_ (0))], m)) rfl ?_
    refine pw_iret rfl rfl rfl ?_
    refine pw_ifT rfl (by decide) (show 0 = 0 by decide) ?_
    refine pw_steps 1 (s' := (24, [some (.ref 0), some (.int (ei_ (a))), some (.int (ei_ (b)))], [.int (ei_ ((-1)))], m)) rfl ?_
    refine pw_iret rfl rfl rfl ?_
    refine pw_intro (I := iX9_keep) (T := tX9_keep) rfl rfl rfl ?_
    refine pw_steps 1 (s' := (1, [some (.ref 47), some (.int (ei_ (a))), some (.int (ei_ (b)))], [.int (ei_ (a))], m)) rfl ?_
    refine pw_callS (As := [.int (ei_ (a))]) (st := []) rfl (by decide) rfl rfl (Nat.le_of_ble_eq_true rfl) ?_
    refine pw_intro (I := iX9_isShelf) (T := tX9_isShelf) rfl rfl rfl ?_
    refine pw_steps 4 (s' := (6, [some (.int (ei_ (a)))], [.long (el_ (5)), .long (el_ (0)), .long ((ei_ (a)).toInt64)], m)) rfl ?_
    refine pw_cv (congrArg (fun z_ : Int64 => ((6, [some (.int (ei_ (a)))], [.long (el_ (5)), .long (el_ (0)), .long z_], m) : am_S)) (el_i2l q0 rfl)) ?_
    refine pw_callS (As := [.long (el_ (a)), .long (el_ (0)), .long (el_ (5))]) (st := []) rfl (by decide) rfl rfl (Nat.le_of_ble_eq_true rfl) ?_
    refine mt_within (by omega) (by omega) (by omega) (fun g2 g3 => ?_) (fun g4 => ?_) (fun g5 => ?_)
    · exact False.elim (by omega)
    · refine pw_iret rfl rfl rfl ?_
      refine pw_ifT rfl (by decide) (show 0 = 0 by decide) ?_
      refine pw_steps 1 (s' := (21, [some (.ref 47), some (.int (ei_ (a))), some (.int (ei_ (b)))], [.int (ei_ ((-1)))], m)) rfl ?_
      refine pw_iret rfl rfl rfl ?_
      exact ⟨(-1), rfl, rfl, hR⟩
    · exact False.elim (by omega)
  · refine pw_steps 2 (s' := (7, [some (.int (ei_ (a)))], [.int (ei_ (6)), .int (ei_ (a))], m)) rfl ?_
    refine pw_cmp rfl q0 (by decide) (fun (h6 : 6 ≤ a) => ?_) (fun (h6 : ¬ (6 ≤ a)) => ?_)
    · refine pw_steps 1 (s' := (15, [some (.int (ei_ (a)))], [.int (ei_ (0))], m)) rfl ?_
      refine pw_iret rfl rfl rfl ?_
      refine pw_ifT rfl (by decide) (show 0 = 0 by decide) ?_
      refine pw_steps 1 (s' := (24, [some (.ref 0), some (.int (ei_ (a))), some (.int (ei_ (b)))], [.int (ei_ ((-1)))], m)) rfl ?_
      refine pw_iret rfl rfl rfl ?_
      refine pw_intro (I := iX9_keep) (T := tX9_keep) rfl rfl rfl ?_
      refine pw_steps 1 (s' := (1, [some (.ref 47), some (.int (ei_ (a))), some (.int (ei_ (b)))], [.int (ei_ (a))], m)) rfl ?_
      refine pw_callS (As := [.int (ei_ (a))]) (st := []) rfl (by decide) rfl rfl (Nat.le_of_ble_eq_true rfl) ?_
      refine pw_intro (I := iX9_isShelf) (T := tX9_isShelf) rfl rfl rfl ?_
      refine pw_steps 4 (s' := (6, [some (.int (ei_ (a)))], [.long (el_ (5)), .long (el_ (0)), .long ((ei_ (a)).toInt64)], m)) rfl ?_
      refine pw_cv (congrArg (fun z_ : Int64 => ((6, [some (.int (ei_ (a)))], [.long (el_ (5)), .long (el_ (0)), .long z_], m) : am_S)) (el_i2l q0 rfl)) ?_
      refine pw_callS (As := [.long (el_ (a)), .long (el_ (0)), .long (el_ (5))]) (st := []) rfl (by decide) rfl rfl (Nat.le_of_ble_eq_true rfl) ?_
      refine mt_within (by omega) (by omega) (by omega) (fun g7 g8 => ?_) (fun g9 => ?_) (fun g10 => ?_)
      · exact False.elim (by omega)
      · exact False.elim (by omega)
      · refine pw_iret rfl rfl rfl ?_
        refine pw_ifT rfl (by decide) (show 0 = 0 by decide) ?_
        refine pw_steps 1 (s' := (21, [some (.ref 47), some (.int (ei_ (a))), some (.int (ei_ (b)))], [.int (ei_ ((-1)))], m)) rfl ?_
        refine pw_iret rfl rfl rfl ?_
        exact ⟨(-1), rfl, rfl, hR⟩
    · refine pw_steps 2 (s' := (15, [some (.int (ei_ (a)))], [.int (ei_ (1))], m)) rfl ?_
      refine pw_iret rfl rfl rfl ?_
      refine pw_ifF rfl (by decide) (show ¬ (1 = 0) by decide) ?_
      refine pw_steps 2 (s' := (9, [some (.ref 0), some (.int (ei_ (a))), some (.int (ei_ (b)))], [.int (ei_ ((-1))), .int (ei_ (b))], m)) rfl ?_
      refine pw_cmp rfl q1 (by decide) (fun (h11 : b = (-1)) => ?_) (fun (h11 : ¬ (b = (-1))) => ?_)
      · refine pw_steps 2 (s' := (27, [some (.ref 0), some (.int (ei_ (a))), some (.int (ei_ (b)))], [.int (ei_ ((-1))), .int (ei_ (b))], m)) rfl ?_
        refine pw_cmpF rfl q1 (by decide) (show ¬ (¬ b = (-1)) by omega) ?_
        refine pw_steps 3 (s' := (35, [some (.ref 0), some (.int (ei_ (a))), some (.int (ei_ (b)))], [.int (ei_ (a)), .ref 32], m)) rfl ?_
        refine pw_ald (r0 := (sf_ a)) rfl rfl (sf_ln (by omega)) (sf_al (by omega)) ?_
        refine pw_call (As := []) (st := []) (k := (sf_ a)) rfl rfl rfl (sf_sk (by omega)) rfl (Nat.le_of_ble_eq_true rfl) ?_
        refine pw_intro (I := iX5_holdNothing) (T := tX5_holdNothing) rfl rfl rfl ?_
        refine pw_steps 2 (s' := (2, [some (.ref ((sf_ a)))], [.int (ei_ ((-1))), .ref ((sf_ a))], m)) rfl ?_
        refine pw_put (v := (-1)) rfl (sf_ok (a := a) (by omega)).1 (Or.inl rfl) ?_
        refine pw_cv (s' := (5, [some (.ref ((sf_ a)))], [], wi_ m (sf_ a) (0) ((-1)))) rfl ?_
        refine pw_steps 2 (s' := (7, [some (.ref ((sf_ a)))], [.int (ei_ (0)), .ref ((sf_ a))], wi_ m (sf_ a) (0) ((-1)))) rfl ?_
        refine pw_put (v := 0) rfl (sf_ok (a := a) (by omega)).2.2.1 (Or.inl rfl) ?_
        refine pw_cv (s' := (10, [some (.ref ((sf_ a)))], [], wi_ (wi_ m (sf_ a) (0) ((-1))) (sf_ a) (2) (0))) rfl ?_
        refine pw_vret rfl rfl ?_
        refine pw_steps 2 (s' := (53, [some (.ref 0), some (.int (ei_ (a))), some (.int (ei_ (b)))], [.int (ei_ (1))], wi_ (wi_ m (sf_ a) (0) ((-1))) (sf_ a) (2) (0))) rfl ?_
        refine pw_iret rfl rfl rfl ?_
        have hsk_ : sm_ pSh m (wi_ (wi_ m (sf_ a) (0) ((-1))) (sf_ a) (2) (0)) := (sm_w (sm_w (sm_rfl m) (fun _ _ => sf_sh ⟨by omega, by omega⟩ _)) (fun _ _ => sf_sh ⟨by omega, by omega⟩ _))
        generalize hmk_ : wi_ (wi_ m (sf_ a) (0) ((-1))) (sf_ a) (2) (0) = mk_ at hsk_ ⊢
        refine pw_intro (I := iX9_keep) (T := tX9_keep) rfl rfl rfl ?_
        refine pw_steps 1 (s' := (1, [some (.ref 47), some (.int (ei_ (a))), some (.int (ei_ (b)))], [.int (ei_ (a))], mk_)) rfl ?_
        refine pw_callS (As := [.int (ei_ (a))]) (st := []) rfl (by decide) rfl rfl (Nat.le_of_ble_eq_true rfl) ?_
        refine pw_intro (I := iX9_isShelf) (T := tX9_isShelf) rfl rfl rfl ?_
        refine pw_steps 4 (s' := (6, [some (.int (ei_ (a)))], [.long (el_ (5)), .long (el_ (0)), .long ((ei_ (a)).toInt64)], mk_)) rfl ?_
        refine pw_cv (congrArg (fun z_ : Int64 => ((6, [some (.int (ei_ (a)))], [.long (el_ (5)), .long (el_ (0)), .long z_], mk_) : am_S)) (el_i2l q0 rfl)) ?_
        refine pw_callS (As := [.long (el_ (a)), .long (el_ (0)), .long (el_ (5))]) (st := []) rfl (by decide) rfl rfl (Nat.le_of_ble_eq_true rfl) ?_
        refine mt_within (by omega) (by omega) (by omega) (fun g12 g13 => ?_) (fun g14 => ?_) (fun g15 => ?_)
        · refine pw_iret rfl rfl rfl ?_
          refine pw_ifF rfl (by decide) (show ¬ (1 = 0) by decide) ?_
          refine pw_steps 2 (s' := (9, [some (.ref 47), some (.int (ei_ (a))), some (.int (ei_ (b)))], [.int (ei_ ((-1))), .int (ei_ (b))], mk_)) rfl ?_
          refine pw_cmpT rfl q1 (by decide) (show b = (-1) by omega) ?_
          refine pw_steps 4 (s' := (28, [some (.ref 47), some (.int (ei_ (a))), some (.int (ei_ (b)))], [.int (ei_ (b)), .int (ei_ (a)), .ref 68], mk_)) rfl ?_
          refine pw_ist rfl rfl (by omega) ?_
          refine pw_steps 4 (s' := (35, [some (.ref 47), some (.int (ei_ (a))), some (.int (ei_ (b)))], [.int (ei_ (0)), .int (ei_ (a)), .ref 69], wi_ mk_ 68 (a) (b))) rfl ?_
          refine pw_ist rfl rfl (by omega) ?_
          refine pw_steps 1 (s' := (37, [some (.ref 47), some (.int (ei_ (a))), some (.int (ei_ (b)))], [.int (ei_ (1))], wi_ (wi_ mk_ 68 (a) (b)) 69 (a) (0))) rfl ?_
          refine pw_iret rfl rfl rfl ?_
          have hsm_ : sm_ pKe m (wi_ (wi_ mk_ 68 (a) (b)) 69 (a) (0)) := (sm_w (sm_w (sm_le hsk_ pSh_Ke) (fun _ h_ => by rw [h_]; rfl)) (fun _ h_ => by rw [h_]; rfl))
          have hS_ : rS_ (wi_ (wi_ mk_ 68 (a) (b)) 69 (a) (0)) := by rw [← hmk_]; exact rS_kp0 hs ⟨by omega, by omega⟩ (by omega)
          exact ⟨1, rfl, rfl, ⟨rP_fr hsm_ rfl rfl (fun _ => rfl) (fun _ => rfl) hp, rD_fr hsm_ rfl (fun _ => rfl) (fun _ => rfl) (fun _ => rfl) (fun _ => rfl) (fun _ => rfl) (fun _ => rfl) rfl rfl rfl rfl rfl rfl hd, rI_fr hsm_ rfl rfl rfl rfl (fun _ => rfl) (fun _ => rfl) (fun _ => rfl) (fun _ => rfl) (fun _ => rfl) (fun _ => rfl) (fun _ => rfl) rfl rfl rfl hi, rT_fr hsm_ rfl rfl (fun _ => rfl) (fun _ => rfl) ht, rL_fr hsm_ rfl rfl (fun _ => rfl) (fun _ => rfl) hl, rZ_fr hsm_ rfl hz, rC_fr hsm_ rfl rfl rfl rfl (fun _ => rfl) (fun _ => rfl) (fun _ => rfl) (fun _ => rfl) (fun _ => rfl) (fun _ => rfl) (fun _ => rfl) rfl hc, rA_fr hsm_ rfl rfl (fun _ => rfl) (fun _ => rfl) rfl rfl (fun _ => rfl) (fun _ => rfl) ha, hS_⟩⟩
        · exact False.elim (by omega)
        · exact False.elim (by omega)
      · refine pw_steps 3 (s' := (17, [some (.ref 0), some (.int (ei_ (a))), some (.int (ei_ (b)))], [.int (ei_ (b)), .ref 29], m)) rfl ?_
        refine pw_call (As := [.int (ei_ (b))]) (st := []) (k := 29) rfl rfl rfl rfl rfl (Nat.le_of_ble_eq_true rfl) ?_
        refine pw_intro (I := iX0_has) (T := tX0_has) rfl rfl rfl ?_
        refine pw_steps 1 (s' := (1, [some (.ref 29), some (.int (ei_ (b)))], [.int (ei_ (b))], m)) rfl ?_
        refine pw_if rfl q1 (fun (h16 : b < 0) => ?_) (fun (h16 : ¬ (b < 0)) => ?_)
        · refine pw_steps 1 (s' := (17, [some (.ref 29), some (.int (ei_ (b)))], [.int (ei_ (0))], m)) rfl ?_
          refine pw_iret rfl rfl rfl ?_
          refine pw_ifF rfl (by decide) (show ¬ (¬ 0 = 0) by decide) ?_
          refine pw_steps 1 (s' := (24, [some (.ref 0), some (.int (ei_ (a))), some (.int (ei_ (b)))], [.int (ei_ ((-1)))], m)) rfl ?_
          refine pw_iret rfl rfl rfl ?_
          refine pw_intro (I := iX9_keep) (T := tX9_keep) rfl rfl rfl ?_
          refine pw_steps 1 (s' := (1, [some (.ref 47), some (.int (ei_ (a))), some (.int (ei_ (b)))], [.int (ei_ (a))], m)) rfl ?_
          refine pw_callS (As := [.int (ei_ (a))]) (st := []) rfl (by decide) rfl rfl (Nat.le_of_ble_eq_true rfl) ?_
          refine pw_intro (I := iX9_isShelf) (T := tX9_isShelf) rfl rfl rfl ?_
          refine pw_steps 4 (s' := (6, [some (.int (ei_ (a)))], [.long (el_ (5)), .long (el_ (0)), .long ((ei_ (a)).toInt64)], m)) rfl ?_
          refine pw_cv (congrArg (fun z_ : Int64 => ((6, [some (.int (ei_ (a)))], [.long (el_ (5)), .long (el_ (0)), .long z_], m) : am_S)) (el_i2l q0 rfl)) ?_
          refine pw_callS (As := [.long (el_ (a)), .long (el_ (0)), .long (el_ (5))]) (st := []) rfl (by decide) rfl rfl (Nat.le_of_ble_eq_true rfl) ?_
          refine mt_within (by omega) (by omega) (by omega) (fun g17 g18 => ?_) (fun g19 => ?_) (fun g20 => ?_)
          · refine pw_iret rfl rfl rfl ?_
            refine pw_ifF rfl (by decide) (show ¬ (1 = 0) by decide) ?_
            refine pw_steps 2 (s' := (9, [some (.ref 47), some (.int (ei_ (a))), some (.int (ei_ (b)))], [.int (ei_ ((-1))), .int (ei_ (b))], m)) rfl ?_
            refine pw_cmpF rfl q1 (by decide) (show ¬ (b = (-1)) by omega) ?_
            refine pw_steps 2 (s' := (14, [some (.ref 47), some (.int (ei_ (a))), some (.int (ei_ (b)))], [.int (ei_ (b)), .ref 47], m)) rfl ?_
            refine pw_call (As := [.int (ei_ (b))]) (st := []) (k := 47) rfl rfl rfl rfl rfl (Nat.le_of_ble_eq_true rfl) ?_
            refine pw_intro (I := iX9_isBody) (T := tX9_isBody) rfl rfl rfl ?_
            refine pw_steps 4 (s' := (4, [some (.ref 47), some (.int (ei_ (b)))], [.ref 47, .long (el_ (0)), .long ((ei_ (b)).toInt64)], m)) rfl ?_
            refine pw_cv (congrArg (fun z_ : Int64 => ((4, [some (.ref 47), some (.int (ei_ (b)))], [.ref 47, .long (el_ (0)), .long z_], m) : am_S)) (el_i2l q1 rfl)) ?_
            refine pw_get rfl rfl (fun x21 (hx21 : x21 = vi_ m 47 35) rx21 sx21 => ?_)
            refine pw_steps 3 (s' := (10, [some (.ref 47), some (.int (ei_ (b)))], [.long (((ei_ (x21)) - (ei_ (1))).toInt64), .long (el_ (0)), .long (el_ (b))], m)) rfl ?_
            refine pw_cv (congrArg (fun z_ : Int64 => ((10, [some (.ref 47), some (.int (ei_ (b)))], [.long z_, .long (el_ (0)), .long (el_ (b))], m) : am_S)) (el_i2l (by omega) (ei_sub rfl rfl))) ?_
            refine pw_callS (As := [.long (el_ (b)), .long (el_ (0)), .long (el_ ((x21 - 1)))]) (st := []) rfl (by decide) rfl rfl (Nat.le_of_ble_eq_true rfl) ?_
            refine mt_within (by omega) (by omega) (by omega) (fun g22 g23 => ?_) (fun g24 => ?_) (fun g25 => ?_)
            · exact False.elim (by omega)
            · refine pw_iret rfl rfl rfl ?_
              refine pw_ifF rfl (by decide) (show ¬ (¬ 0 = 0) by decide) ?_
              refine pw_steps 1 (s' := (21, [some (.ref 47), some (.int (ei_ (a))), some (.int (ei_ (b)))], [.int (ei_ ((-1)))], m)) rfl ?_
              refine pw_iret rfl rfl rfl ?_
              exact ⟨(-1), rfl, rfl, hR⟩
            · exact False.elim (by omega)
          · exact False.elim (by omega)
          · exact False.elim (by omega)
        · refine pw_steps 2 (s' := (6, [some (.ref 29), some (.int (ei_ (b)))], [.ref 29, .int (ei_ (b))], m)) rfl ?_
          refine pw_get rfl rfl (fun x26 (hx26 : x26 = vi_ m 29 2) rx26 sx26 => ?_)
          refine pw_cmp rfl q1 ⟨rx26, sx26⟩ (fun (h27 : x26 ≤ b) => ?_) (fun (h27 : ¬ (x26 ≤ b)) => ?_)
          · refine pw_steps 1 (s' := (17, [some (.ref 29), some (.int (ei_ (b)))], [.int (ei_ (0))], m)) rfl ?_
            refine pw_iret rfl rfl rfl ?_
            refine pw_ifF rfl (by decide) (show ¬ (¬ 0 = 0) by decide) ?_
            refine pw_steps 1 (s' := (24, [some (.ref 0), some (.int (ei_ (a))), some (.int (ei_ (b)))], [.int (ei_ ((-1)))], m)) rfl ?_
            refine pw_iret rfl rfl rfl ?_
            refine pw_intro (I := iX9_keep) (T := tX9_keep) rfl rfl rfl ?_
            refine pw_steps 1 (s' := (1, [some (.ref 47), some (.int (ei_ (a))), some (.int (ei_ (b)))], [.int (ei_ (a))], m)) rfl ?_
            refine pw_callS (As := [.int (ei_ (a))]) (st := []) rfl (by decide) rfl rfl (Nat.le_of_ble_eq_true rfl) ?_
            refine pw_intro (I := iX9_isShelf) (T := tX9_isShelf) rfl rfl rfl ?_
            refine pw_steps 4 (s' := (6, [some (.int (ei_ (a)))], [.long (el_ (5)), .long (el_ (0)), .long ((ei_ (a)).toInt64)], m)) rfl ?_
            refine pw_cv (congrArg (fun z_ : Int64 => ((6, [some (.int (ei_ (a)))], [.long (el_ (5)), .long (el_ (0)), .long z_], m) : am_S)) (el_i2l q0 rfl)) ?_
            refine pw_callS (As := [.long (el_ (a)), .long (el_ (0)), .long (el_ (5))]) (st := []) rfl (by decide) rfl rfl (Nat.le_of_ble_eq_true rfl) ?_
            refine mt_within (by omega) (by omega) (by omega) (fun g28 g29 => ?_) (fun g30 => ?_) (fun g31 => ?_)
            · refine pw_iret rfl rfl rfl ?_
              refine pw_ifF rfl (by decide) (show ¬ (1 = 0) by decide) ?_
              refine pw_steps 2 (s' := (9, [some (.ref 47), some (.int (ei_ (a))), some (.int (ei_ (b)))], [.int (ei_ ((-1))), .int (ei_ (b))], m)) rfl ?_
              refine pw_cmpF rfl q1 (by decide) (show ¬ (b = (-1)) by omega) ?_
              refine pw_steps 2 (s' := (14, [some (.ref 47), some (.int (ei_ (a))), some (.int (ei_ (b)))], [.int (ei_ (b)), .ref 47], m)) rfl ?_
              refine pw_call (As := [.int (ei_ (b))]) (st := []) (k := 47) rfl rfl rfl rfl rfl (Nat.le_of_ble_eq_true rfl) ?_
              refine pw_intro (I := iX9_isBody) (T := tX9_isBody) rfl rfl rfl ?_
              refine pw_steps 4 (s' := (4, [some (.ref 47), some (.int (ei_ (b)))], [.ref 47, .long (el_ (0)), .long ((ei_ (b)).toInt64)], m)) rfl ?_
              refine pw_cv (congrArg (fun z_ : Int64 => ((4, [some (.ref 47), some (.int (ei_ (b)))], [.ref 47, .long (el_ (0)), .long z_], m) : am_S)) (el_i2l q1 rfl)) ?_
              refine pw_get rfl rfl (fun x32 (hx32 : x32 = vi_ m 47 35) rx32 sx32 => ?_)
              refine pw_steps 3 (s' := (10, [some (.ref 47), some (.int (ei_ (b)))], [.long (((ei_ (x32)) - (ei_ (1))).toInt64), .long (el_ (0)), .long (el_ (b))], m)) rfl ?_
              refine pw_cv (congrArg (fun z_ : Int64 => ((10, [some (.ref 47), some (.int (ei_ (b)))], [.long z_, .long (el_ (0)), .long (el_ (b))], m) : am_S)) (el_i2l (by omega) (ei_sub rfl rfl))) ?_
              refine pw_callS (As := [.long (el_ (b)), .long (el_ (0)), .long (el_ ((x32 - 1)))]) (st := []) rfl (by decide) rfl rfl (Nat.le_of_ble_eq_true rfl) ?_
              refine mt_within (by omega) (by omega) (by omega) (fun g33 g34 => ?_) (fun g35 => ?_) (fun g36 => ?_)
              · exact False.elim (by omega)
              · exact False.elim (by omega)
              · refine pw_iret rfl rfl rfl ?_
                refine pw_ifF rfl (by decide) (show ¬ (¬ 0 = 0) by decide) ?_
                refine pw_steps 1 (s' := (21, [some (.ref 47), some (.int (ei_ (a))), some (.int (ei_ (b)))], [.int (ei_ ((-1)))], m)) rfl ?_
                refine pw_iret rfl rfl rfl ?_
                exact ⟨(-1), rfl, rfl, hR⟩
            · exact False.elim (by omega)
            · exact False.elim (by omega)
          · refine pw_steps 2 (s' := (17, [some (.ref 29), some (.int (ei_ (b)))], [.int (ei_ (1))], m)) rfl ?_
            refine pw_iret rfl rfl rfl ?_
            refine pw_ifT rfl (by decide) (show ¬ 1 = 0 by decide) ?_
            refine pw_steps 2 (s' := (27, [some (.ref 0), some (.int (ei_ (a))), some (.int (ei_ (b)))], [.int (ei_ ((-1))), .int (ei_ (b))], m)) rfl ?_
            refine pw_cmpT rfl q1 (by decide) (show ¬ b = (-1) by omega) ?_
            refine pw_steps 3 (s' := (47, [some (.ref 0), some (.int (ei_ (a))), some (.int (ei_ (b)))], [.int (ei_ (a)), .ref 32], m)) rfl ?_
            refine pw_ald (r0 := (sf_ a)) rfl rfl (sf_ln (by omega)) (sf_al (by omega)) ?_
            refine pw_steps 1 (s' := (49, [some (.ref 0), some (.int (ei_ (a))), some (.int (ei_ (b)))], [.int (ei_ (b)), .ref ((sf_ a))], m)) rfl ?_
            refine pw_call (As := [.int (ei_ (b))]) (st := []) (k := (sf_ a)) rfl rfl rfl (sf_sk (by omega)) rfl (Nat.le_of_ble_eq_true rfl) ?_
            refine pw_intro (I := iX5_holdName) (T := tX5_holdName) rfl rfl rfl ?_
            refine pw_steps 2 (s' := (3, [some (.ref ((sf_ a))), some (.int (ei_ (b)))], [.int (ei_ ((-2))), .ref ((sf_ a))], m)) rfl ?_
            refine pw_put (v := (-2)) rfl (sf_ok (a := a) (by omega)).1 (Or.inl rfl) ?_
            refine pw_cv (s' := (6, [some (.ref ((sf_ a))), some (.int (ei_ (b)))], [], wi_ m (sf_ a) (0) ((-2)))) rfl ?_
            refine pw_steps 2 (s' := (8, [some (.ref ((sf_ a))), some (.int (ei_ (b)))], [.int (ei_ (b)), .ref ((sf_ a))], wi_ m (sf_ a) (0) ((-2)))) rfl ?_
            refine pw_put (v := b) rfl (sf_ok (a := a) (by omega)).2.1 (Or.inl rfl) ?_
            refine pw_cv (s' := (11, [some (.ref ((sf_ a))), some (.int (ei_ (b)))], [], wi_ (wi_ m (sf_ a) (0) ((-2))) (sf_ a) (1) (b))) rfl ?_
            refine pw_steps 2 (s' := (13, [some (.ref ((sf_ a))), some (.int (ei_ (b)))], [.int (ei_ (0)), .ref ((sf_ a))], wi_ (wi_ m (sf_ a) (0) ((-2))) (sf_ a) (1) (b))) rfl ?_
            refine pw_put (v := 0) rfl (sf_ok (a := a) (by omega)).2.2.1 (Or.inl rfl) ?_
            refine pw_cv (s' := (16, [some (.ref ((sf_ a))), some (.int (ei_ (b)))], [], wi_ (wi_ (wi_ m (sf_ a) (0) ((-2))) (sf_ a) (1) (b)) (sf_ a) (2) (0))) rfl ?_
            refine pw_vret rfl rfl ?_
            refine pw_steps 1 (s' := (53, [some (.ref 0), some (.int (ei_ (a))), some (.int (ei_ (b)))], [.int (ei_ (1))], wi_ (wi_ (wi_ m (sf_ a) (0) ((-2))) (sf_ a) (1) (b)) (sf_ a) (2) (0))) rfl ?_
            refine pw_iret rfl rfl rfl ?_
            have hsk_ : sm_ pSh m (wi_ (wi_ (wi_ m (sf_ a) (0) ((-2))) (sf_ a) (1) (b)) (sf_ a) (2) (0)) := (sm_w (sm_w (sm_w (sm_rfl m) (fun _ _ => sf_sh ⟨by omega, by omega⟩ _)) (fun _ _ => sf_sh ⟨by omega, by omega⟩ _)) (fun _ _ => sf_sh ⟨by omega, by omega⟩ _))
            generalize hmk_ : wi_ (wi_ (wi_ m (sf_ a) (0) ((-2))) (sf_ a) (1) (b)) (sf_ a) (2) (0) = mk_ at hsk_ ⊢
            refine pw_intro (I := iX9_keep) (T := tX9_keep) rfl rfl rfl ?_
            refine pw_steps 1 (s' := (1, [some (.ref 47), some (.int (ei_ (a))), some (.int (ei_ (b)))], [.int (ei_ (a))], mk_)) rfl ?_
            refine pw_callS (As := [.int (ei_ (a))]) (st := []) rfl (by decide) rfl rfl (Nat.le_of_ble_eq_true rfl) ?_
            refine pw_intro (I := iX9_isShelf) (T := tX9_isShelf) rfl rfl rfl ?_
            refine pw_steps 4 (s' := (6, [some (.int (ei_ (a)))], [.long (el_ (5)), .long (el_ (0)), .long ((ei_ (a)).toInt64)], mk_)) rfl ?_
            refine pw_cv (congrArg (fun z_ : Int64 => ((6, [some (.int (ei_ (a)))], [.long (el_ (5)), .long (el_ (0)), .long z_], mk_) : am_S)) (el_i2l q0 rfl)) ?_
            refine pw_callS (As := [.long (el_ (a)), .long (el_ (0)), .long (el_ (5))]) (st := []) rfl (by decide) rfl rfl (Nat.le_of_ble_eq_true rfl) ?_
            refine mt_within (by omega) (by omega) (by omega) (fun g37 g38 => ?_) (fun g39 => ?_) (fun g40 => ?_)
            · refine pw_iret rfl rfl rfl ?_
              refine pw_ifF rfl (by decide) (show ¬ (1 = 0) by decide) ?_
              refine pw_steps 2 (s' := (9, [some (.ref 47), some (.int (ei_ (a))), some (.int (ei_ (b)))], [.int (ei_ ((-1))), .int (ei_ (b))], mk_)) rfl ?_
              refine pw_cmpF rfl q1 (by decide) (show ¬ (b = (-1)) by omega) ?_
              refine pw_steps 2 (s' := (14, [some (.ref 47), some (.int (ei_ (a))), some (.int (ei_ (b)))], [.int (ei_ (b)), .ref 47], mk_)) rfl ?_
              refine pw_call (As := [.int (ei_ (b))]) (st := []) (k := 47) rfl rfl rfl rfl rfl (Nat.le_of_ble_eq_true rfl) ?_
              refine pw_intro (I := iX9_isBody) (T := tX9_isBody) rfl rfl rfl ?_
              refine pw_steps 4 (s' := (4, [some (.ref 47), some (.int (ei_ (b)))], [.ref 47, .long (el_ (0)), .long ((ei_ (b)).toInt64)], mk_)) rfl ?_
              refine pw_cv (congrArg (fun z_ : Int64 => ((4, [some (.ref 47), some (.int (ei_ (b)))], [.ref 47, .long (el_ (0)), .long z_], mk_) : am_S)) (el_i2l q1 rfl)) ?_
              refine pw_get rfl rfl (fun x41 (hx41 : x41 = vi_ mk_ 47 35) rx41 sx41 => ?_)
              have ox41 := hx41
              replace hx41 : x41 = vi_ m 47 35 := hx41.trans (sm_v hsk_ rfl)
              refine pw_steps 3 (s' := (10, [some (.ref 47), some (.int (ei_ (b)))], [.long (((ei_ (x41)) - (ei_ (1))).toInt64), .long (el_ (0)), .long (el_ (b))], mk_)) rfl ?_
              refine pw_cv (congrArg (fun z_ : Int64 => ((10, [some (.ref 47), some (.int (ei_ (b)))], [.long z_, .long (el_ (0)), .long (el_ (b))], mk_) : am_S)) (el_i2l (by omega) (ei_sub rfl rfl))) ?_
              refine pw_callS (As := [.long (el_ (b)), .long (el_ (0)), .long (el_ ((x41 - 1)))]) (st := []) rfl (by decide) rfl rfl (Nat.le_of_ble_eq_true rfl) ?_
              refine mt_within (by omega) (by omega) (by omega) (fun g42 g43 => ?_) (fun g44 => ?_) (fun g45 => ?_)
              · refine pw_iret rfl rfl rfl ?_
                refine pw_ifT rfl (by decide) (show ¬ 1 = 0 by decide) ?_
                refine pw_steps 4 (s' := (28, [some (.ref 47), some (.int (ei_ (a))), some (.int (ei_ (b)))], [.int (ei_ (b)), .int (ei_ (a)), .ref 68], mk_)) rfl ?_
                refine pw_ist rfl rfl (by omega) ?_
                refine pw_steps 4 (s' := (35, [some (.ref 47), some (.int (ei_ (a))), some (.int (ei_ (b)))], [.int (ei_ (0)), .int (ei_ (a)), .ref 69], wi_ mk_ 68 (a) (b))) rfl ?_
                refine pw_ist rfl rfl (by omega) ?_
                refine pw_steps 1 (s' := (37, [some (.ref 47), some (.int (ei_ (a))), some (.int (ei_ (b)))], [.int (ei_ (1))], wi_ (wi_ mk_ 68 (a) (b)) 69 (a) (0))) rfl ?_
                refine pw_iret rfl rfl rfl ?_
                have hsm_ : sm_ pKe m (wi_ (wi_ mk_ 68 (a) (b)) 69 (a) (0)) := (sm_w (sm_w (sm_le hsk_ pSh_Ke) (fun _ h_ => by rw [h_]; rfl)) (fun _ h_ => by rw [h_]; rfl))
                have hS_ : rS_ (wi_ (wi_ mk_ 68 (a) (b)) 69 (a) (0)) := by rw [← hmk_]; exact rS_kp1 hs ⟨by omega, by omega⟩ ⟨by omega, by omega⟩ (by omega)
                exact ⟨1, rfl, rfl, ⟨rP_fr hsm_ rfl rfl (fun _ => rfl) (fun _ => rfl) hp, rD_fr hsm_ rfl (fun _ => rfl) (fun _ => rfl) (fun _ => rfl) (fun _ => rfl) (fun _ => rfl) (fun _ => rfl) rfl rfl rfl rfl rfl rfl hd, rI_fr hsm_ rfl rfl rfl rfl (fun _ => rfl) (fun _ => rfl) (fun _ => rfl) (fun _ => rfl) (fun _ => rfl) (fun _ => rfl) (fun _ => rfl) rfl rfl rfl hi, rT_fr hsm_ rfl rfl (fun _ => rfl) (fun _ => rfl) ht, rL_fr hsm_ rfl rfl (fun _ => rfl) (fun _ => rfl) hl, rZ_fr hsm_ rfl hz, rC_fr hsm_ rfl rfl rfl rfl (fun _ => rfl) (fun _ => rfl) (fun _ => rfl) (fun _ => rfl) (fun _ => rfl) (fun _ => rfl) (fun _ => rfl) rfl hc, rA_fr hsm_ rfl rfl (fun _ => rfl) (fun _ => rfl) rfl rfl (fun _ => rfl) (fun _ => rfl) ha, hS_⟩⟩
              · exact False.elim (by omega)
              · exact False.elim (by omega)
            · exact False.elim (by omega)
            · exact False.elim (by omega)

set_option maxHeartbeats 4000000 in
set_option maxRecDepth 20000 in
theorem cs_under {q : am_X} {d : Nat} {m : am_M} {Q : Option Value → am_M → Prop} {m0 : am_M} {number : Int} {k : Int}  (p0 : 0 ≤ number ∧ number < vi_ m0 29 2) (p1 : ∀ j, 0 ≤ j → j < vi_ m0 29 2 → 0 ≤ vi_ m0 30 j ∧ vi_ m0 30 j ≤ 7) (p2 : 0 ≤ k ∧ k ≤ 7) (p3 : sm_ pSc m0 m) (p4 : vi_ m0 29 2 ≤ 50) (k0 : (un_ (vi_ m0 30 number) k = 1) → Q (some (.int (ei_ (1)))) m) (k1 : (un_ (vi_ m0 30 number) k = 0) → Q (some (.int (ei_ (0)))) m) : pw_C q (d + 3) 167 [.ref 29, .int (ei_ (number)), .int (ei_ (k))] m Q := by
  refine pw_intro (I := iX0_isUnder) (T := tX0_isUnder) rfl rfl rfl ?_
  refine pw_steps 2 (s' := (2, [some (.ref 29), some (.int (ei_ (number))), some (.int (ei_ (k))), none, none], [.int (ei_ (number)), .ref 29], m)) rfl ?_
  refine pw_call (As := [.int (ei_ (number))]) (st := []) (k := 29) rfl rfl rfl rfl rfl (Nat.le_of_ble_eq_true rfl) ?_
  refine pw_intro (I := iX0_kindOf) (T := tX0_kindOf) rfl rfl rfl ?_
  refine pw_steps 2 (s' := (2, [some (.ref 29), some (.int (ei_ (number)))], [.int (ei_ (number)), .ref 29], m)) rfl ?_
  refine pw_call (As := [.int (ei_ (number))]) (st := []) (k := 29) rfl rfl rfl rfl rfl (Nat.le_of_ble_eq_true rfl) ?_
  refine pw_intro (I := iX0_has) (T := tX0_has) rfl rfl rfl ?_
  refine pw_steps 1 (s' := (1, [some (.ref 29), some (.int (ei_ (number)))], [.int (ei_ (number))], m)) rfl ?_
  refine pw_ifF rfl (by omega) (show ¬ (number < 0) by omega) ?_
  refine pw_steps 2 (s' := (6, [some (.ref 29), some (.int (ei_ (number)))], [.ref 29, .int (ei_ (number))], m)) rfl ?_
  refine pw_get rfl rfl (fun x1 (hx1 : x1 = vi_ m 29 2) rx1 sx1 => ?_)
  have ox1 := hx1
  replace hx1 : x1 = vi_ m0 29 2 := hx1.trans (sm_v p3 rfl)
  refine pw_cmpF rfl (by omega) ⟨rx1, sx1⟩ (show ¬ (x1 ≤ number) by omega) ?_
  refine pw_steps 2 (s' := (17, [some (.ref 29), some (.int (ei_ (number)))], [.int (ei_ (1))], m)) rfl ?_
  refine pw_iret rfl rfl rfl ?_
  refine pw_ifF rfl (by decide) (show ¬ (1 = 0) by decide) ?_
  refine pw_steps 3 (s' := (13, [some (.ref 29), some (.int (ei_ (number)))], [.int (ei_ (number)), .ref 30], m)) rfl ?_
  refine pw_ild rfl rfl (by omega) (fun x2 (hx2 : x2 = vi_ m 30 number) rx2 sx2 => ?_)
  have ox2 := hx2
  replace hx2 : x2 = vi_ m0 30 number := hx2.trans (sm_v p3 rfl)
  have b3 := p1 number (by omega) (by omega)
  refine pw_steps 1 (s' := (18, [some (.ref 29), some (.int (ei_ (number)))], [.int (ei_ (x2))], m)) rfl ?_
  refine pw_iret rfl rfl rfl ?_
  refine pw_steps 3 (s' := (9, [some (.ref 29), some (.int (ei_ (number))), some (.int (ei_ (k))), some (.int (ei_ (x2))), some (.int (ei_ (0)))], [], m)) rfl ?_
  have hk7_ := True.intro
  rcases (show x2 = 0 ∨ x2 = 1 ∨ x2 = 2 ∨ x2 = 3 ∨ x2 = 4 ∨ x2 = 5 ∨ x2 = 6 ∨ x2 = 7 by omega) with h4 | h4 | h4 | h4 | h4 | h4 | h4 | h4
  · rw [h4]
    refine pw_steps 2 (s' := (13, [some (.ref 29), some (.int (ei_ (number))), some (.int (ei_ (k))), some (.int (ei_ (0))), some (.int (ei_ (0)))], [.int (ei_ (8)), .int (ei_ (0))], m)) rfl ?_
    refine pw_cmpF rfl (by decide) (by decide) (show ¬ (8 ≤ 0) by decide) ?_
    refine pw_steps 1 (s' := (17, [some (.ref 29), some (.int (ei_ (number))), some (.int (ei_ (k))), some (.int (ei_ (0))), some (.int (ei_ (0)))], [.int (ei_ (0))], m)) rfl ?_
    refine pw_callS (As := [.int (ei_ (0))]) (st := []) rfl (by decide) rfl rfl (Nat.le_of_ble_eq_true rfl) ?_
    refine pw_intro (I := iX0_isKind) (T := tX0_isKind) rfl rfl rfl ?_
    refine pw_steps 1 (s' := (1, [some (.int (ei_ (0)))], [.int (ei_ (0))], m)) rfl ?_
    refine pw_ifF rfl (by decide) (show ¬ (0 < 0) by decide) ?_
    refine pw_steps 2 (s' := (7, [some (.int (ei_ (0)))], [.int (ei_ (8)), .int (ei_ (0))], m)) rfl ?_
    refine pw_cmpF rfl (by decide) (by decide) (show ¬ (8 ≤ 0) by decide) ?_
    refine pw_steps 2 (s' := (15, [some (.int (ei_ (0)))], [.int (ei_ (1))], m)) rfl ?_
    refine pw_iret rfl rfl rfl ?_
    refine pw_ifF rfl (by decide) (show ¬ (1 = 0) by decide) ?_
    refine pw_steps 2 (s' := (25, [some (.ref 29), some (.int (ei_ (number))), some (.int (ei_ (k))), some (.int (ei_ (0))), some (.int (ei_ (0)))], [.int (ei_ (k)), .int (ei_ (0))], m)) rfl ?_
    refine pw_cmp rfl (by decide) (by omega) (fun (h5 : ¬ 0 = k) => ?_) (fun (h5 : ¬ ¬ 0 = k) => ?_)
    · refine pw_steps 2 (s' := (34, [some (.ref 29), some (.int (ei_ (number))), some (.int (ei_ (k))), some (.int (ei_ (0))), some (.int (ei_ (0)))], [.int (ei_ (0)), .ref 1003], m)) rfl ?_
      refine pw_ildE (x := (-1)) rfl rfl (by decide) (by decide) ?_
      refine pw_steps 5 (s' := (13, [some (.ref 29), some (.int (ei_ (number))), some (.int (ei_ (k))), some (.int (ei_ ((-1)))), some (.int ((ei_ (0)) + (ei_ (1))))], [.int (ei_ (8)), .int ((ei_ (0)) + (ei_ (1)))], m)) rfl ?_
      refine pw_cv (congrArg (fun z_ : Int32 => ((13, [some (.ref 29), some (.int (ei_ (number))), some (.int (ei_ (k))), some (.int (ei_ ((-1)))), some (.int z_)], [.int (ei_ (8)), .int z_], m) : am_S)) (ei_add rfl rfl)) ?_
      refine pw_cmpF rfl (by decide) (by decide) (show ¬ (8 ≤ 1) by decide) ?_
      refine pw_steps 1 (s' := (17, [some (.ref 29), some (.int (ei_ (number))), some (.int (ei_ (k))), some (.int (ei_ ((-1)))), some (.int (ei_ (1)))], [.int (ei_ ((-1)))], m)) rfl ?_
      refine pw_callS (As := [.int (ei_ ((-1)))]) (st := []) rfl (by decide) rfl rfl (Nat.le_of_ble_eq_true rfl) ?_
      refine pw_intro (I := iX0_isKind) (T := tX0_isKind) rfl rfl rfl ?_
      refine pw_steps 1 (s' := (1, [some (.int (ei_ ((-1))))], [.int (ei_ ((-1)))], m)) rfl ?_
      refine pw_ifT rfl (by decide) (show (-1) < 0 by decide) ?_
      refine pw_steps 1 (s' := (15, [some (.int (ei_ ((-1))))], [.int (ei_ (0))], m)) rfl ?_
      refine pw_iret rfl rfl rfl ?_
      refine pw_ifT rfl (by decide) (show 0 = 0 by decide) ?_
      refine pw_steps 1 (s' := (43, [some (.ref 29), some (.int (ei_ (number))), some (.int (ei_ (k))), some (.int (ei_ ((-1)))), some (.int (ei_ (1)))], [.int (ei_ (0))], m)) rfl ?_
      refine pw_iret rfl rfl rfl ?_
      exact k1 (by unfold un_; omega)
    · refine pw_steps 1 (s' := (29, [some (.ref 29), some (.int (ei_ (number))), some (.int (ei_ (k))), some (.int (ei_ (0))), some (.int (ei_ (0)))], [.int (ei_ (1))], m)) rfl ?_
      refine pw_iret rfl rfl rfl ?_
      exact k0 (by unfold un_; omega)
  · rw [h4]
    refine pw_steps 2 (s' := (13, [some (.ref 29), some (.int (ei_ (number))), some (.int (ei_ (k))), some (.int (ei_ (1))), some (.int (ei_ (0)))], [.int (ei_ (8)), .int (ei_ (0))], m)) rfl ?_
    refine pw_cmpF rfl (by decide) (by decide) (show ¬ (8 ≤ 0) by decide) ?_
    refine pw_steps 1 (s' := (17, [some (.ref 29), some (.int (ei_ (number))), some (.int (ei_ (k))), some (.int (ei_ (1))), some (.int (ei_ (0)))], [.int (ei_ (1))], m)) rfl ?_
    refine pw_callS (As := [.int (ei_ (1))]) (st := []) rfl (by decide) rfl rfl (Nat.le_of_ble_eq_true rfl) ?_
    refine pw_intro (I := iX0_isKind) (T := tX0_isKind) rfl rfl rfl ?_
    refine pw_steps 1 (s' := (1, [some (.int (ei_ (1)))], [.int (ei_ (1))], m)) rfl ?_
    refine pw_ifF rfl (by decide) (show ¬ (1 < 0) by decide) ?_
    refine pw_steps 2 (s' := (7, [some (.int (ei_ (1)))], [.int (ei_ (8)), .int (ei_ (1))], m)) rfl ?_
    refine pw_cmpF rfl (by decide) (by decide) (show ¬ (8 ≤ 1) by decide) ?_
    refine pw_steps 2 (s' := (15, [some (.int (ei_ (1)))], [.int (ei_ (1))], m)) rfl ?_
    refine pw_iret rfl rfl rfl ?_
    refine pw_ifF rfl (by decide) (show ¬ (1 = 0) by decide) ?_
    refine pw_steps 2 (s' := (25, [some (.ref 29), some (.int (ei_ (number))), some (.int (ei_ (k))), some (.int (ei_ (1))), some (.int (ei_ (0)))], [.int (ei_ (k)), .int (ei_ (1))], m)) rfl ?_
    refine pw_cmp rfl (by decide) (by omega) (fun (h6 : ¬ 1 = k) => ?_) (fun (h6 : ¬ ¬ 1 = k) => ?_)
    · refine pw_steps 2 (s' := (34, [some (.ref 29), some (.int (ei_ (number))), some (.int (ei_ (k))), some (.int (ei_ (1))), some (.int (ei_ (0)))], [.int (ei_ (1)), .ref 1003], m)) rfl ?_
      refine pw_ildE (x := 0) rfl rfl (by decide) (by decide) ?_
      refine pw_steps 5 (s' := (13, [some (.ref 29), some (.int (ei_ (number))), some (.int (ei_ (k))), some (.int (ei_ (0))), some (.int ((ei_ (0)) + (ei_ (1))))], [.int (ei_ (8)), .int ((ei_ (0)) + (ei_ (1)))], m)) rfl ?_
      refine pw_cv (congrArg (fun z_ : Int32 => ((13, [some (.ref 29), some (.int (ei_ (number))), some (.int (ei_ (k))), some (.int (ei_ (0))), some (.int z_)], [.int (ei_ (8)), .int z_], m) : am_S)) (ei_add rfl rfl)) ?_
      refine pw_cmpF rfl (by decide) (by decide) (show ¬ (8 ≤ 1) by decide) ?_
      refine pw_steps 1 (s' := (17, [some (.ref 29), some (.int (ei_ (number))), some (.int (ei_ (k))), some (.int (ei_ (0))), some (.int (ei_ (1)))], [.int (ei_ (0))], m)) rfl ?_
      refine pw_callS (As := [.int (ei_ (0))]) (st := []) rfl (by decide) rfl rfl (Nat.le_of_ble_eq_true rfl) ?_
      refine pw_intro (I := iX0_isKind) (T := tX0_isKind) rfl rfl rfl ?_
      refine pw_steps 1 (s' := (1, [some (.int (ei_ (0)))], [.int (ei_ (0))], m)) rfl ?_
      refine pw_ifF rfl (by decide) (show ¬ (0 < 0) by decide) ?_
      refine pw_steps 2 (s' := (7, [some (.int (ei_ (0)))], [.int (ei_ (8)), .int (ei_ (0))], m)) rfl ?_
      refine pw_cmpF rfl (by decide) (by decide) (show ¬ (8 ≤ 0) by decide) ?_
      refine pw_steps 2 (s' := (15, [some (.int (ei_ (0)))], [.int (ei_ (1))], m)) rfl ?_
      refine pw_iret rfl rfl rfl ?_
      refine pw_ifF rfl (by decide) (show ¬ (1 = 0) by decide) ?_
      refine pw_steps 2 (s' := (25, [some (.ref 29), some (.int (ei_ (number))), some (.int (ei_ (k))), some (.int (ei_ (0))), some (.int (ei_ (1)))], [.int (ei_ (k)), .int (ei_ (0))], m)) rfl ?_
      refine pw_cmp rfl (by decide) (by omega) (fun (h7 : ¬ 0 = k) => ?_) (fun (h7 : ¬ ¬ 0 = k) => ?_)
      · refine pw_steps 2 (s' := (34, [some (.ref 29), some (.int (ei_ (number))), some (.int (ei_ (k))), some (.int (ei_ (0))), some (.int (ei_ (1)))], [.int (ei_ (0)), .ref 1003], m)) rfl ?_
        refine pw_ildE (x := (-1)) rfl rfl (by decide) (by decide) ?_
        refine pw_steps 5 (s' := (13, [some (.ref 29), some (.int (ei_ (number))), some (.int (ei_ (k))), some (.int (ei_ ((-1)))), some (.int ((ei_ (1)) + (ei_ (1))))], [.int (ei_ (8)), .int ((ei_ (1)) + (ei_ (1)))], m)) rfl ?_
        refine pw_cv (congrArg (fun z_ : Int32 => ((13, [some (.ref 29), some (.int (ei_ (number))), some (.int (ei_ (k))), some (.int (ei_ ((-1)))), some (.int z_)], [.int (ei_ (8)), .int z_], m) : am_S)) (ei_add rfl rfl)) ?_
        refine pw_cmpF rfl (by decide) (by decide) (show ¬ (8 ≤ 2) by decide) ?_
        refine pw_steps 1 (s' := (17, [some (.ref 29), some (.int (ei_ (number))), some (.int (ei_ (k))), some (.int (ei_ ((-1)))), some (.int (ei_ (2)))], [.int (ei_ ((-1)))], m)) rfl ?_
        refine pw_callS (As := [.int (ei_ ((-1)))]) (st := []) rfl (by decide) rfl rfl (Nat.le_of_ble_eq_true rfl) ?_
        refine pw_intro (I := iX0_isKind) (T := tX0_isKind) rfl rfl rfl ?_
        refine pw_steps 1 (s' := (1, [some (.int (ei_ ((-1))))], [.int (ei_ ((-1)))], m)) rfl ?_
        refine pw_ifT rfl (by decide) (show (-1) < 0 by decide) ?_
        refine pw_steps 1 (s' := (15, [some (.int (ei_ ((-1))))], [.int (ei_ (0))], m)) rfl ?_
        refine pw_iret rfl rfl rfl ?_
        refine pw_ifT rfl (by decide) (show 0 = 0 by decide) ?_
        refine pw_steps 1 (s' := (43, [some (.ref 29), some (.int (ei_ (number))), some (.int (ei_ (k))), some (.int (ei_ ((-1)))), some (.int (ei_ (2)))], [.int (ei_ (0))], m)) rfl ?_
        refine pw_iret rfl rfl rfl ?_
        exact k1 (by unfold un_; omega)
      · refine pw_steps 1 (s' := (29, [some (.ref 29), some (.int (ei_ (number))), some (.int (ei_ (k))), some (.int (ei_ (0))), some (.int (ei_ (1)))], [.int (ei_ (1))], m)) rfl ?_
        refine pw_iret rfl rfl rfl ?_
        exact k0 (by unfold un_; omega)
    · refine pw_steps 1 (s' := (29, [some (.ref 29), some (.int (ei_ (number))), some (.int (ei_ (k))), some (.int (ei_ (1))), some (.int (ei_ (0)))], [.int (ei_ (1))], m)) rfl ?_
      refine pw_iret rfl rfl rfl ?_
      exact k0 (by unfold un_; omega)
  · rw [h4]
    refine pw_steps 2 (s' := (13, [some (.ref 29), some (.int (ei_ (number))), some (.int (ei_ (k))), some (.int (ei_ (2))), some (.int (ei_ (0)))], [.int (ei_ (8)), .int (ei_ (0))], m)) rfl ?_
    refine pw_cmpF rfl (by decide) (by decide) (show ¬ (8 ≤ 0) by decide) ?_
    refine pw_steps 1 (s' := (17, [some (.ref 29), some (.int (ei_ (number))), some (.int (ei_ (k))), some (.int (ei_ (2))), some (.int (ei_ (0)))], [.int (ei_ (2))], m)) rfl ?_
    refine pw_callS (As := [.int (ei_ (2))]) (st := []) rfl (by decide) rfl rfl (Nat.le_of_ble_eq_true rfl) ?_
    refine pw_intro (I := iX0_isKind) (T := tX0_isKind) rfl rfl rfl ?_
    refine pw_steps 1 (s' := (1, [some (.int (ei_ (2)))], [.int (ei_ (2))], m)) rfl ?_
    refine pw_ifF rfl (by decide) (show ¬ (2 < 0) by decide) ?_
    refine pw_steps 2 (s' := (7, [some (.int (ei_ (2)))], [.int (ei_ (8)), .int (ei_ (2))], m)) rfl ?_
    refine pw_cmpF rfl (by decide) (by decide) (show ¬ (8 ≤ 2) by decide) ?_
    refine pw_steps 2 (s' := (15, [some (.int (ei_ (2)))], [.int (ei_ (1))], m)) rfl ?_
    refine pw_iret rfl rfl rfl ?_
    refine pw_ifF rfl (by decide) (show ¬ (1 = 0) by decide) ?_
    refine pw_steps 2 (s' := (25, [some (.ref 29), some (.int (ei_ (number))), some (.int (ei_ (k))), some (.int (ei_ (2))), some (.int (ei_ (0)))], [.int (ei_ (k)), .int (ei_ (2))], m)) rfl ?_
    refine pw_cmp rfl (by decide) (by omega) (fun (h8 : ¬ 2 = k) => ?_) (fun (h8 : ¬ ¬ 2 = k) => ?_)
    · refine pw_steps 2 (s' := (34, [some (.ref 29), some (.int (ei_ (number))), some (.int (ei_ (k))), some (.int (ei_ (2))), some (.int (ei_ (0)))], [.int (ei_ (2)), .ref 1003], m)) rfl ?_
      refine pw_ildE (x := 0) rfl rfl (by decide) (by decide) ?_
      refine pw_steps 5 (s' := (13, [some (.ref 29), some (.int (ei_ (number))), some (.int (ei_ (k))), some (.int (ei_ (0))), some (.int ((ei_ (0)) + (ei_ (1))))], [.int (ei_ (8)), .int ((ei_ (0)) + (ei_ (1)))], m)) rfl ?_
      refine pw_cv (congrArg (fun z_ : Int32 => ((13, [some (.ref 29), some (.int (ei_ (number))), some (.int (ei_ (k))), some (.int (ei_ (0))), some (.int z_)], [.int (ei_ (8)), .int z_], m) : am_S)) (ei_add rfl rfl)) ?_
      refine pw_cmpF rfl (by decide) (by decide) (show ¬ (8 ≤ 1) by decide) ?_
      refine pw_steps 1 (s' := (17, [some (.ref 29), some (.int (ei_ (number))), some (.int (ei_ (k))), some (.int (ei_ (0))), some (.int (ei_ (1)))], [.int (ei_ (0))], m)) rfl ?_
      refine pw_callS (As := [.int (ei_ (0))]) (st := []) rfl (by decide) rfl rfl (Nat.le_of_ble_eq_true rfl) ?_
      refine pw_intro (I := iX0_isKind) (T := tX0_isKind) rfl rfl rfl ?_
      refine pw_steps 1 (s' := (1, [some (.int (ei_ (0)))], [.int (ei_ (0))], m)) rfl ?_
      refine pw_ifF rfl (by decide) (show ¬ (0 < 0) by decide) ?_
      refine pw_steps 2 (s' := (7, [some (.int (ei_ (0)))], [.int (ei_ (8)), .int (ei_ (0))], m)) rfl ?_
      refine pw_cmpF rfl (by decide) (by decide) (show ¬ (8 ≤ 0) by decide) ?_
      refine pw_steps 2 (s' := (15, [some (.int (ei_ (0)))], [.int (ei_ (1))], m)) rfl ?_
      refine pw_iret rfl rfl rfl ?_
      refine pw_ifF rfl (by decide) (show ¬ (1 = 0) by decide) ?_
      refine pw_steps 2 (s' := (25, [some (.ref 29), some (.int (ei_ (number))), some (.int (ei_ (k))), some (.int (ei_ (0))), some (.int (ei_ (1)))], [.int (ei_ (k)), .int (ei_ (0))], m)) rfl ?_
      refine pw_cmp rfl (by decide) (by omega) (fun (h9 : ¬ 0 = k) => ?_) (fun (h9 : ¬ ¬ 0 = k) => ?_)
      · refine pw_steps 2 (s' := (34, [some (.ref 29), some (.int (ei_ (number))), some (.int (ei_ (k))), some (.int (ei_ (0))), some (.int (ei_ (1)))], [.int (ei_ (0)), .ref 1003], m)) rfl ?_
        refine pw_ildE (x := (-1)) rfl rfl (by decide) (by decide) ?_
        refine pw_steps 5 (s' := (13, [some (.ref 29), some (.int (ei_ (number))), some (.int (ei_ (k))), some (.int (ei_ ((-1)))), some (.int ((ei_ (1)) + (ei_ (1))))], [.int (ei_ (8)), .int ((ei_ (1)) + (ei_ (1)))], m)) rfl ?_
        refine pw_cv (congrArg (fun z_ : Int32 => ((13, [some (.ref 29), some (.int (ei_ (number))), some (.int (ei_ (k))), some (.int (ei_ ((-1)))), some (.int z_)], [.int (ei_ (8)), .int z_], m) : am_S)) (ei_add rfl rfl)) ?_
        refine pw_cmpF rfl (by decide) (by decide) (show ¬ (8 ≤ 2) by decide) ?_
        refine pw_steps 1 (s' := (17, [some (.ref 29), some (.int (ei_ (number))), some (.int (ei_ (k))), some (.int (ei_ ((-1)))), some (.int (ei_ (2)))], [.int (ei_ ((-1)))], m)) rfl ?_
        refine pw_callS (As := [.int (ei_ ((-1)))]) (st := []) rfl (by decide) rfl rfl (Nat.le_of_ble_eq_true rfl) ?_
        refine pw_intro (I := iX0_isKind) (T := tX0_isKind) rfl rfl rfl ?_
        refine pw_steps 1 (s' := (1, [some (.int (ei_ ((-1))))], [.int (ei_ ((-1)))], m)) rfl ?_
        refine pw_ifT rfl (by decide) (show (-1) < 0 by decide) ?_
        refine pw_steps 1 (s' := (15, [some (.int (ei_ ((-1))))], [.int (ei_ (0))], m)) rfl ?_
        refine pw_iret rfl rfl rfl ?_
        refine pw_ifT rfl (by decide) (show 0 = 0 by decide) ?_
        refine pw_steps 1 (s' := (43, [some (.ref 29), some (.int (ei_ (number))), some (.int (ei_ (k))), some (.int (ei_ ((-1)))), some (.int (ei_ (2)))], [.int (ei_ (0))], m)) rfl ?_
        refine pw_iret rfl rfl rfl ?_
        exact k1 (by unfold un_; omega)
      · refine pw_steps 1 (s' := (29, [some (.ref 29), some (.int (ei_ (number))), some (.int (ei_ (k))), some (.int (ei_ (0))), some (.int (ei_ (1)))], [.int (ei_ (1))], m)) rfl ?_
        refine pw_iret rfl rfl rfl ?_
        exact k0 (by unfold un_; omega)
    · refine pw_steps 1 (s' := (29, [some (.ref 29), some (.int (ei_ (number))), some (.int (ei_ (k))), some (.int (ei_ (2))), some (.int (ei_ (0)))], [.int (ei_ (1))], m)) rfl ?_
      refine pw_iret rfl rfl rfl ?_
      exact k0 (by unfold un_; omega)
  · rw [h4]
    refine pw_steps 2 (s' := (13, [some (.ref 29), some (.int (ei_ (number))), some (.int (ei_ (k))), some (.int (ei_ (3))), some (.int (ei_ (0)))], [.int (ei_ (8)), .int (ei_ (0))], m)) rfl ?_
    refine pw_cmpF rfl (by decide) (by decide) (show ¬ (8 ≤ 0) by decide) ?_
    refine pw_steps 1 (s' := (17, [some (.ref 29), some (.int (ei_ (number))), some (.int (ei_ (k))), some (.int (ei_ (3))), some (.int (ei_ (0)))], [.int (ei_ (3))], m)) rfl ?_
    refine pw_callS (As := [.int (ei_ (3))]) (st := []) rfl (by decide) rfl rfl (Nat.le_of_ble_eq_true rfl) ?_
    refine pw_intro (I := iX0_isKind) (T := tX0_isKind) rfl rfl rfl ?_
    refine pw_steps 1 (s' := (1, [some (.int (ei_ (3)))], [.int (ei_ (3))], m)) rfl ?_
    refine pw_ifF rfl (by decide) (show ¬ (3 < 0) by decide) ?_
    refine pw_steps 2 (s' := (7, [some (.int (ei_ (3)))], [.int (ei_ (8)), .int (ei_ (3))], m)) rfl ?_
    refine pw_cmpF rfl (by decide) (by decide) (show ¬ (8 ≤ 3) by decide) ?_
    refine pw_steps 2 (s' := (15, [some (.int (ei_ (3)))], [.int (ei_ (1))], m)) rfl ?_
    refine pw_iret rfl rfl rfl ?_
    refine pw_ifF rfl (by decide) (show ¬ (1 = 0) by decide) ?_
    refine pw_steps 2 (s' := (25, [some (.ref 29), some (.int (ei_ (number))), some (.int (ei_ (k))), some (.int (ei_ (3))), some (.int (ei_ (0)))], [.int (ei_ (k)), .int (ei_ (3))], m)) rfl ?_
    refine pw_cmp rfl (by decide) (by omega) (fun (h10 : ¬ 3 = k) => ?_) (fun (h10 : ¬ ¬ 3 = k) => ?_)
    · refine pw_steps 2 (s' := (34, [some (.ref 29), some (.int (ei_ (number))), some (.int (ei_ (k))), some (.int (ei_ (3))), some (.int (ei_ (0)))], [.int (ei_ (3)), .ref 1003], m)) rfl ?_
      refine pw_ildE (x := 2) rfl rfl (by decide) (by decide) ?_
      refine pw_steps 5 (s' := (13, [some (.ref 29), some (.int (ei_ (number))), some (.int (ei_ (k))), some (.int (ei_ (2))), some (.int ((ei_ (0)) + (ei_ (1))))], [.int (ei_ (8)), .int ((ei_ (0)) + (ei_ (1)))], m)) rfl ?_
      refine pw_cv (congrArg (fun z_ : Int32 => ((13, [some (.ref 29), some (.int (ei_ (number))), some (.int (ei_ (k))), some (.int (ei_ (2))), some (.int z_)], [.int (ei_ (8)), .int z_], m) : am_S)) (ei_add rfl rfl)) ?_
      refine pw_cmpF rfl (by decide) (by decide) (show ¬ (8 ≤ 1) by decide) ?_
      refine pw_steps 1 (s' := (17, [some (.ref 29), some (.int (ei_ (number))), some (.int (ei_ (k))), some (.int (ei_ (2))), some (.int (ei_ (1)))], [.int (ei_ (2))], m)) rfl ?_
      refine pw_callS (As := [.int (ei_ (2))]) (st := []) rfl (by decide) rfl rfl (Nat.le_of_ble_eq_true rfl) ?_
      refine pw_intro (I := iX0_isKind) (T := tX0_isKind) rfl rfl rfl ?_
      refine pw_steps 1 (s' := (1, [some (.int (ei_ (2)))], [.int (ei_ (2))], m)) rfl ?_
      refine pw_ifF rfl (by decide) (show ¬ (2 < 0) by decide) ?_
      refine pw_steps 2 (s' := (7, [some (.int (ei_ (2)))], [.int (ei_ (8)), .int (ei_ (2))], m)) rfl ?_
      refine pw_cmpF rfl (by decide) (by decide) (show ¬ (8 ≤ 2) by decide) ?_
      refine pw_steps 2 (s' := (15, [some (.int (ei_ (2)))], [.int (ei_ (1))], m)) rfl ?_
      refine pw_iret rfl rfl rfl ?_
      refine pw_ifF rfl (by decide) (show ¬ (1 = 0) by decide) ?_
      refine pw_steps 2 (s' := (25, [some (.ref 29), some (.int (ei_ (number))), some (.int (ei_ (k))), some (.int (ei_ (2))), some (.int (ei_ (1)))], [.int (ei_ (k)), .int (ei_ (2))], m)) rfl ?_
      refine pw_cmp rfl (by decide) (by omega) (fun (h11 : ¬ 2 = k) => ?_) (fun (h11 : ¬ ¬ 2 = k) => ?_)
      · refine pw_steps 2 (s' := (34, [some (.ref 29), some (.int (ei_ (number))), some (.int (ei_ (k))), some (.int (ei_ (2))), some (.int (ei_ (1)))], [.int (ei_ (2)), .ref 1003], m)) rfl ?_
        refine pw_ildE (x := 0) rfl rfl (by decide) (by decide) ?_
        refine pw_steps 5 (s' := (13, [some (.ref 29), some (.int (ei_ (number))), some (.int (ei_ (k))), some (.int (ei_ (0))), some (.int ((ei_ (1)) + (ei_ (1))))], [.int (ei_ (8)), .int ((ei_ (1)) + (ei_ (1)))], m)) rfl ?_
        refine pw_cv (congrArg (fun z_ : Int32 => ((13, [some (.ref 29), some (.int (ei_ (number))), some (.int (ei_ (k))), some (.int (ei_ (0))), some (.int z_)], [.int (ei_ (8)), .int z_], m) : am_S)) (ei_add rfl rfl)) ?_
        refine pw_cmpF rfl (by decide) (by decide) (show ¬ (8 ≤ 2) by decide) ?_
        refine pw_steps 1 (s' := (17, [some (.ref 29), some (.int (ei_ (number))), some (.int (ei_ (k))), some (.int (ei_ (0))), some (.int (ei_ (2)))], [.int (ei_ (0))], m)) rfl ?_
        refine pw_callS (As := [.int (ei_ (0))]) (st := []) rfl (by decide) rfl rfl (Nat.le_of_ble_eq_true rfl) ?_
        refine pw_intro (I := iX0_isKind) (T := tX0_isKind) rfl rfl rfl ?_
        refine pw_steps 1 (s' := (1, [some (.int (ei_ (0)))], [.int (ei_ (0))], m)) rfl ?_
        refine pw_ifF rfl (by decide) (show ¬ (0 < 0) by decide) ?_
        refine pw_steps 2 (s' := (7, [some (.int (ei_ (0)))], [.int (ei_ (8)), .int (ei_ (0))], m)) rfl ?_
        refine pw_cmpF rfl (by decide) (by decide) (show ¬ (8 ≤ 0) by decide) ?_
        refine pw_steps 2 (s' := (15, [some (.int (ei_ (0)))], [.int (ei_ (1))], m)) rfl ?_
        refine pw_iret rfl rfl rfl ?_
        refine pw_ifF rfl (by decide) (show ¬ (1 = 0) by decide) ?_
        refine pw_steps 2 (s' := (25, [some (.ref 29), some (.int (ei_ (number))), some (.int (ei_ (k))), some (.int (ei_ (0))), some (.int (ei_ (2)))], [.int (ei_ (k)), .int (ei_ (0))], m)) rfl ?_
        refine pw_cmp rfl (by decide) (by omega) (fun (h12 : ¬ 0 = k) => ?_) (fun (h12 : ¬ ¬ 0 = k) => ?_)
        · refine pw_steps 2 (s' := (34, [some (.ref 29), some (.int (ei_ (number))), some (.int (ei_ (k))), some (.int (ei_ (0))), some (.int (ei_ (2)))], [.int (ei_ (0)), .ref 1003], m)) rfl ?_
          refine pw_ildE (x := (-1)) rfl rfl (by decide) (by decide) ?_
          refine pw_steps 5 (s' := (13, [some (.ref 29), some (.int (ei_ (number))), some (.int (ei_ (k))), some (.int (ei_ ((-1)))), some (.int ((ei_ (2)) + (ei_ (1))))], [.int (ei_ (8)), .int ((ei_ (2)) + (ei_ (1)))], m)) rfl ?_
          refine pw_cv (congrArg (fun z_ : Int32 => ((13, [some (.ref 29), some (.int (ei_ (number))), some (.int (ei_ (k))), some (.int (ei_ ((-1)))), some (.int z_)], [.int (ei_ (8)), .int z_], m) : am_S)) (ei_add rfl rfl)) ?_
          refine pw_cmpF rfl (by decide) (by decide) (show ¬ (8 ≤ 3) by decide) ?_
          refine pw_steps 1 (s' := (17, [some (.ref 29), some (.int (ei_ (number))), some (.int (ei_ (k))), some (.int (ei_ ((-1)))), some (.int (ei_ (3)))], [.int (ei_ ((-1)))], m)) rfl ?_
          refine pw_callS (As := [.int (ei_ ((-1)))]) (st := []) rfl (by decide) rfl rfl (Nat.le_of_ble_eq_true rfl) ?_
          refine pw_intro (I := iX0_isKind) (T := tX0_isKind) rfl rfl rfl ?_
          refine pw_steps 1 (s' := (1, [some (.int (ei_ ((-1))))], [.int (ei_ ((-1)))], m)) rfl ?_
          refine pw_ifT rfl (by decide) (show (-1) < 0 by decide) ?_
          refine pw_steps 1 (s' := (15, [some (.int (ei_ ((-1))))], [.int (ei_ (0))], m)) rfl ?_
          refine pw_iret rfl rfl rfl ?_
          refine pw_ifT rfl (by decide) (show 0 = 0 by decide) ?_
          refine pw_steps 1 (s' := (43, [some (.ref 29), some (.int (ei_ (number))), some (.int (ei_ (k))), some (.int (ei_ ((-1)))), some (.int (ei_ (3)))], [.int (ei_ (0))], m)) rfl ?_
          refine pw_iret rfl rfl rfl ?_
          exact k1 (by unfold un_; omega)
        · refine pw_steps 1 (s' := (29, [some (.ref 29), some (.int (ei_ (number))), some (.int (ei_ (k))), some (.int (ei_ (0))), some (.int (ei_ (2)))], [.int (ei_ (1))], m)) rfl ?_
          refine pw_iret rfl rfl rfl ?_
          exact k0 (by unfold un_; omega)
      · refine pw_steps 1 (s' := (29, [some (.ref 29), some (.int (ei_ (number))), some (.int (ei_ (k))), some (.int (ei_ (2))), some (.int (ei_ (1)))], [.int (ei_ (1))], m)) rfl ?_
        refine pw_iret rfl rfl rfl ?_
        exact k0 (by unfold un_; omega)
    · refine pw_steps 1 (s' := (29, [some (.ref 29), some (.int (ei_ (number))), some (.int (ei_ (k))), some (.int (ei_ (3))), some (.int (ei_ (0)))], [.int (ei_ (1))], m)) rfl ?_
      refine pw_iret rfl rfl rfl ?_
      exact k0 (by unfold un_; omega)
  · rw [h4]
    refine pw_steps 2 (s' := (13, [some (.ref 29), some (.int (ei_ (number))), some (.int (ei_ (k))), some (.int (ei_ (4))), some (.int (ei_ (0)))], [.int (ei_ (8)), .int (ei_ (0))], m)) rfl ?_
    refine pw_cmpF rfl (by decide) (by decide) (show ¬ (8 ≤ 0) by decide) ?_
    refine pw_steps 1 (s' := (17, [some (.ref 29), some (.int (ei_ (number))), some (.int (ei_ (k))), some (.int (ei_ (4))), some (.int (ei_ (0)))], [.int (ei_ (4))], m)) rfl ?_
    refine pw_callS (As := [.int (ei_ (4))]) (st := []) rfl (by decide) rfl rfl (Nat.le_of_ble_eq_true rfl) ?_
    refine pw_intro (I := iX0_isKind) (T := tX0_isKind) rfl rfl rfl ?_
    refine pw_steps 1 (s' := (1, [some (.int (ei_ (4)))], [.int (ei_ (4))], m)) rfl ?_
    refine pw_ifF rfl (by decide) (show ¬ (4 < 0) by decide) ?_
    refine pw_steps 2 (s' := (7, [some (.int (ei_ (4)))], [.int (ei_ (8)), .int (ei_ (4))], m)) rfl ?_
    refine pw_cmpF rfl (by decide) (by decide) (show ¬ (8 ≤ 4) by decide) ?_
    refine pw_steps 2 (s' := (15, [some (.int (ei_ (4)))], [.int (ei_ (1))], m)) rfl ?_
    refine pw_iret rfl rfl rfl ?_
    refine pw_ifF rfl (by decide) (show ¬ (1 = 0) by decide) ?_
    refine pw_steps 2 (s' := (25, [some (.ref 29), some (.int (ei_ (number))), some (.int (ei_ (k))), some (.int (ei_ (4))), some (.int (ei_ (0)))], [.int (ei_ (k)), .int (ei_ (4))], m)) rfl ?_
    refine pw_cmp rfl (by decide) (by omega) (fun (h13 : ¬ 4 = k) => ?_) (fun (h13 : ¬ ¬ 4 = k) => ?_)
    · refine pw_steps 2 (s' := (34, [some (.ref 29), some (.int (ei_ (number))), some (.int (ei_ (k))), some (.int (ei_ (4))), some (.int (ei_ (0)))], [.int (ei_ (4)), .ref 1003], m)) rfl ?_
      refine pw_ildE (x := 1) rfl rfl (by decide) (by decide) ?_
      refine pw_steps 5 (s' := (13, [some (.ref 29), some (.int (ei_ (number))), some (.int (ei_ (k))), some (.int (ei_ (1))), some (.int ((ei_ (0)) + (ei_ (1))))], [.int (ei_ (8)), .int ((ei_ (0)) + (ei_ (1)))], m)) rfl ?_
      refine pw_cv (congrArg (fun z_ : Int32 => ((13, [some (.ref 29), some (.int (ei_ (number))), some (.int (ei_ (k))), some (.int (ei_ (1))), some (.int z_)], [.int (ei_ (8)), .int z_], m) : am_S)) (ei_add rfl rfl)) ?_
      refine pw_cmpF rfl (by decide) (by decide) (show ¬ (8 ≤ 1) by decide) ?_
      refine pw_steps 1 (s' := (17, [some (.ref 29), some (.int (ei_ (number))), some (.int (ei_ (k))), some (.int (ei_ (1))), some (.int (ei_ (1)))], [.int (ei_ (1))], m)) rfl ?_
      refine pw_callS (As := [.int (ei_ (1))]) (st := []) rfl (by decide) rfl rfl (Nat.le_of_ble_eq_true rfl) ?_
      refine pw_intro (I := iX0_isKind) (T := tX0_isKind) rfl rfl rfl ?_
      refine pw_steps 1 (s' := (1, [some (.int (ei_ (1)))], [.int (ei_ (1))], m)) rfl ?_
      refine pw_ifF rfl (by decide) (show ¬ (1 < 0) by decide) ?_
      refine pw_steps 2 (s' := (7, [some (.int (ei_ (1)))], [.int (ei_ (8)), .int (ei_ (1))], m)) rfl ?_
      refine pw_cmpF rfl (by decide) (by decide) (show ¬ (8 ≤ 1) by decide) ?_
      refine pw_steps 2 (s' := (15, [some (.int (ei_ (1)))], [.int (ei_ (1))], m)) rfl ?_
      refine pw_iret rfl rfl rfl ?_
      refine pw_ifF rfl (by decide) (show ¬ (1 = 0) by decide) ?_
      refine pw_steps 2 (s' := (25, [some (.ref 29), some (.int (ei_ (number))), some (.int (ei_ (k))), some (.int (ei_ (1))), some (.int (ei_ (1)))], [.int (ei_ (k)), .int (ei_ (1))], m)) rfl ?_
      refine pw_cmp rfl (by decide) (by omega) (fun (h14 : ¬ 1 = k) => ?_) (fun (h14 : ¬ ¬ 1 = k) => ?_)
      · refine pw_steps 2 (s' := (34, [some (.ref 29), some (.int (ei_ (number))), some (.int (ei_ (k))), some (.int (ei_ (1))), some (.int (ei_ (1)))], [.int (ei_ (1)), .ref 1003], m)) rfl ?_
        refine pw_ildE (x := 0) rfl rfl (by decide) (by decide) ?_
        refine pw_steps 5 (s' := (13, [some (.ref 29), some (.int (ei_ (number))), some (.int (ei_ (k))), some (.int (ei_ (0))), some (.int ((ei_ (1)) + (ei_ (1))))], [.int (ei_ (8)), .int ((ei_ (1)) + (ei_ (1)))], m)) rfl ?_
        refine pw_cv (congrArg (fun z_ : Int32 => ((13, [some (.ref 29), some (.int (ei_ (number))), some (.int (ei_ (k))), some (.int (ei_ (0))), some (.int z_)], [.int (ei_ (8)), .int z_], m) : am_S)) (ei_add rfl rfl)) ?_
        refine pw_cmpF rfl (by decide) (by decide) (show ¬ (8 ≤ 2) by decide) ?_
        refine pw_steps 1 (s' := (17, [some (.ref 29), some (.int (ei_ (number))), some (.int (ei_ (k))), some (.int (ei_ (0))), some (.int (ei_ (2)))], [.int (ei_ (0))], m)) rfl ?_
        refine pw_callS (As := [.int (ei_ (0))]) (st := []) rfl (by decide) rfl rfl (Nat.le_of_ble_eq_true rfl) ?_
        refine pw_intro (I := iX0_isKind) (T := tX0_isKind) rfl rfl rfl ?_
        refine pw_steps 1 (s' := (1, [some (.int (ei_ (0)))], [.int (ei_ (0))], m)) rfl ?_
        refine pw_ifF rfl (by decide) (show ¬ (0 < 0) by decide) ?_
        refine pw_steps 2 (s' := (7, [some (.int (ei_ (0)))], [.int (ei_ (8)), .int (ei_ (0))], m)) rfl ?_
        refine pw_cmpF rfl (by decide) (by decide) (show ¬ (8 ≤ 0) by decide) ?_
        refine pw_steps 2 (s' := (15, [some (.int (ei_ (0)))], [.int (ei_ (1))], m)) rfl ?_
        refine pw_iret rfl rfl rfl ?_
        refine pw_ifF rfl (by decide) (show ¬ (1 = 0) by decide) ?_
        refine pw_steps 2 (s' := (25, [some (.ref 29), some (.int (ei_ (number))), some (.int (ei_ (k))), some (.int (ei_ (0))), some (.int (ei_ (2)))], [.int (ei_ (k)), .int (ei_ (0))], m)) rfl ?_
        refine pw_cmp rfl (by decide) (by omega) (fun (h15 : ¬ 0 = k) => ?_) (fun (h15 : ¬ ¬ 0 = k) => ?_)
        · refine pw_steps 2 (s' := (34, [some (.ref 29), some (.int (ei_ (number))), some (.int (ei_ (k))), some (.int (ei_ (0))), some (.int (ei_ (2)))], [.int (ei_ (0)), .ref 1003], m)) rfl ?_
          refine pw_ildE (x := (-1)) rfl rfl (by decide) (by decide) ?_
          refine pw_steps 5 (s' := (13, [some (.ref 29), some (.int (ei_ (number))), some (.int (ei_ (k))), some (.int (ei_ ((-1)))), some (.int ((ei_ (2)) + (ei_ (1))))], [.int (ei_ (8)), .int ((ei_ (2)) + (ei_ (1)))], m)) rfl ?_
          refine pw_cv (congrArg (fun z_ : Int32 => ((13, [some (.ref 29), some (.int (ei_ (number))), some (.int (ei_ (k))), some (.int (ei_ ((-1)))), some (.int z_)], [.int (ei_ (8)), .int z_], m) : am_S)) (ei_add rfl rfl)) ?_
          refine pw_cmpF rfl (by decide) (by decide) (show ¬ (8 ≤ 3) by decide) ?_
          refine pw_steps 1 (s' := (17, [some (.ref 29), some (.int (ei_ (number))), some (.int (ei_ (k))), some (.int (ei_ ((-1)))), some (.int (ei_ (3)))], [.int (ei_ ((-1)))], m)) rfl ?_
          refine pw_callS (As := [.int (ei_ ((-1)))]) (st := []) rfl (by decide) rfl rfl (Nat.le_of_ble_eq_true rfl) ?_
          refine pw_intro (I := iX0_isKind) (T := tX0_isKind) rfl rfl rfl ?_
          refine pw_steps 1 (s' := (1, [some (.int (ei_ ((-1))))], [.int (ei_ ((-1)))], m)) rfl ?_
          refine pw_ifT rfl (by decide) (show (-1) < 0 by decide) ?_
          refine pw_steps 1 (s' := (15, [some (.int (ei_ ((-1))))], [.int (ei_ (0))], m)) rfl ?_
          refine pw_iret rfl rfl rfl ?_
          refine pw_ifT rfl (by decide) (show 0 = 0 by decide) ?_
          refine pw_steps 1 (s' := (43, [some (.ref 29), some (.int (ei_ (number))), some (.int (ei_ (k))), some (.int (ei_ ((-1)))), some (.int (ei_ (3)))], [.int (ei_ (0))], m)) rfl ?_
          refine pw_iret rfl rfl rfl ?_
          exact k1 (by unfold un_; omega)
        · refine pw_steps 1 (s' := (29, [some (.ref 29), some (.int (ei_ (number))), some (.int (ei_ (k))), some (.int (ei_ (0))), some (.int (ei_ (2)))], [.int (ei_ (1))], m)) rfl ?_
          refine pw_iret rfl rfl rfl ?_
          exact k0 (by unfold un_; omega)
      · refine pw_steps 1 (s' := (29, [some (.ref 29), some (.int (ei_ (number))), some (.int (ei_ (k))), some (.int (ei_ (1))), some (.int (ei_ (1)))], [.int (ei_ (1))], m)) rfl ?_
        refine pw_iret rfl rfl rfl ?_
        exact k0 (by unfold un_; omega)
    · refine pw_steps 1 (s' := (29, [some (.ref 29), some (.int (ei_ (number))), some (.int (ei_ (k))), some (.int (ei_ (4))), some (.int (ei_ (0)))], [.int (ei_ (1))], m)) rfl ?_
      refine pw_iret rfl rfl rfl ?_
      exact k0 (by unfold un_; omega)
  · rw [h4]
    refine pw_steps 2 (s' := (13, [some (.ref 29), some (.int (ei_ (number))), some (.int (ei_ (k))), some (.int (ei_ (5))), some (.int (ei_ (0)))], [.int (ei_ (8)), .int (ei_ (0))], m)) rfl ?_
    refine pw_cmpF rfl (by decide) (by decide) (show ¬ (8 ≤ 0) by decide) ?_
    refine pw_steps 1 (s' := (17, [some (.ref 29), some (.int (ei_ (number))), some (.int (ei_ (k))), some (.int (ei_ (5))), some (.int (ei_ (0)))], [.int (ei_ (5))], m)) rfl ?_
    refine pw_callS (As := [.int (ei_ (5))]) (st := []) rfl (by decide) rfl rfl (Nat.le_of_ble_eq_true rfl) ?_
    refine pw_intro (I := iX0_isKind) (T := tX0_isKind) rfl rfl rfl ?_
    refine pw_steps 1 (s' := (1, [some (.int (ei_ (5)))], [.int (ei_ (5))], m)) rfl ?_
    refine pw_ifF rfl (by decide) (show ¬ (5 < 0) by decide) ?_
    refine pw_steps 2 (s' := (7, [some (.int (ei_ (5)))], [.int (ei_ (8)), .int (ei_ (5))], m)) rfl ?_
    refine pw_cmpF rfl (by decide) (by decide) (show ¬ (8 ≤ 5) by decide) ?_
    refine pw_steps 2 (s' := (15, [some (.int (ei_ (5)))], [.int (ei_ (1))], m)) rfl ?_
    refine pw_iret rfl rfl rfl ?_
    refine pw_ifF rfl (by decide) (show ¬ (1 = 0) by decide) ?_
    refine pw_steps 2 (s' := (25, [some (.ref 29), some (.int (ei_ (number))), some (.int (ei_ (k))), some (.int (ei_ (5))), some (.int (ei_ (0)))], [.int (ei_ (k)), .int (ei_ (5))], m)) rfl ?_
    refine pw_cmp rfl (by decide) (by omega) (fun (h16 : ¬ 5 = k) => ?_) (fun (h16 : ¬ ¬ 5 = k) => ?_)
    · refine pw_steps 2 (s' := (34, [some (.ref 29), some (.int (ei_ (number))), some (.int (ei_ (k))), some (.int (ei_ (5))), some (.int (ei_ (0)))], [.int (ei_ (5)), .ref 1003], m)) rfl ?_
      refine pw_ildE (x := 3) rfl rfl (by decide) (by decide) ?_
      refine pw_steps 5 (s' := (13, [some (.ref 29), some (.int (ei_ (number))), some (.int (ei_ (k))), some (.int (ei_ (3))), some (.int ((ei_ (0)) + (ei_ (1))))], [.int (ei_ (8)), .int ((ei_ (0)) + (ei_ (1)))], m)) rfl ?_
      refine pw_cv (congrArg (fun z_ : Int32 => ((13, [some (.ref 29), some (.int (ei_ (number))), some (.int (ei_ (k))), some (.int (ei_ (3))), some (.int z_)], [.int (ei_ (8)), .int z_], m) : am_S)) (ei_add rfl rfl)) ?_
      refine pw_cmpF rfl (by decide) (by decide) (show ¬ (8 ≤ 1) by decide) ?_
      refine pw_steps 1 (s' := (17, [some (.ref 29), some (.int (ei_ (number))), some (.int (ei_ (k))), some (.int (ei_ (3))), some (.int (ei_ (1)))], [.int (ei_ (3))], m)) rfl ?_
      refine pw_callS (As := [.int (ei_ (3))]) (st := []) rfl (by decide) rfl rfl (Nat.le_of_ble_eq_true rfl) ?_
      refine pw_intro (I := iX0_isKind) (T := tX0_isKind) rfl rfl rfl ?_
      refine pw_steps 1 (s' := (1, [some (.int (ei_ (3)))], [.int (ei_ (3))], m)) rfl ?_
      refine pw_ifF rfl (by decide) (show ¬ (3 < 0) by decide) ?_
      refine pw_steps 2 (s' := (7, [some (.int (ei_ (3)))], [.int (ei_ (8)), .int (ei_ (3))], m)) rfl ?_
      refine pw_cmpF rfl (by decide) (by decide) (show ¬ (8 ≤ 3) by decide) ?_
      refine pw_steps 2 (s' := (15, [some (.int (ei_ (3)))], [.int (ei_ (1))], m)) rfl ?_
      refine pw_iret rfl rfl rfl ?_
      refine pw_ifF rfl (by decide) (show ¬ (1 = 0) by decide) ?_
      refine pw_steps 2 (s' := (25, [some (.ref 29), some (.int (ei_ (number))), some (.int (ei_ (k))), some (.int (ei_ (3))), some (.int (ei_ (1)))], [.int (ei_ (k)), .int (ei_ (3))], m)) rfl ?_
      refine pw_cmp rfl (by decide) (by omega) (fun (h17 : ¬ 3 = k) => ?_) (fun (h17 : ¬ ¬ 3 = k) => ?_)
      · refine pw_steps 2 (s' := (34, [some (.ref 29), some (.int (ei_ (number))), some (.int (ei_ (k))), some (.int (ei_ (3))), some (.int (ei_ (1)))], [.int (ei_ (3)), .ref 1003], m)) rfl ?_
        refine pw_ildE (x := 2) rfl rfl (by decide) (by decide) ?_
        refine pw_steps 5 (s' := (13, [some (.ref 29), some (.int (ei_ (number))), some (.int (ei_ (k))), some (.int (ei_ (2))), some (.int ((ei_ (1)) + (ei_ (1))))], [.int (ei_ (8)), .int ((ei_ (1)) + (ei_ (1)))], m)) rfl ?_
        refine pw_cv (congrArg (fun z_ : Int32 => ((13, [some (.ref 29), some (.int (ei_ (number))), some (.int (ei_ (k))), some (.int (ei_ (2))), some (.int z_)], [.int (ei_ (8)), .int z_], m) : am_S)) (ei_add rfl rfl)) ?_
        refine pw_cmpF rfl (by decide) (by decide) (show ¬ (8 ≤ 2) by decide) ?_
        refine pw_steps 1 (s' := (17, [some (.ref 29), some (.int (ei_ (number))), some (.int (ei_ (k))), some (.int (ei_ (2))), some (.int (ei_ (2)))], [.int (ei_ (2))], m)) rfl ?_
        refine pw_callS (As := [.int (ei_ (2))]) (st := []) rfl (by decide) rfl rfl (Nat.le_of_ble_eq_true rfl) ?_
        refine pw_intro (I := iX0_isKind) (T := tX0_isKind) rfl rfl rfl ?_
        refine pw_steps 1 (s' := (1, [some (.int (ei_ (2)))], [.int (ei_ (2))], m)) rfl ?_
        refine pw_ifF rfl (by decide) (show ¬ (2 < 0) by decide) ?_
        refine pw_steps 2 (s' := (7, [some (.int (ei_ (2)))], [.int (ei_ (8)), .int (ei_ (2))], m)) rfl ?_
        refine pw_cmpF rfl (by decide) (by decide) (show ¬ (8 ≤ 2) by decide) ?_
        refine pw_steps 2 (s' := (15, [some (.int (ei_ (2)))], [.int (ei_ (1))], m)) rfl ?_
        refine pw_iret rfl rfl rfl ?_
        refine pw_ifF rfl (by decide) (show ¬ (1 = 0) by decide) ?_
        refine pw_steps 2 (s' := (25, [some (.ref 29), some (.int (ei_ (number))), some (.int (ei_ (k))), some (.int (ei_ (2))), some (.int (ei_ (2)))], [.int (ei_ (k)), .int (ei_ (2))], m)) rfl ?_
        refine pw_cmp rfl (by decide) (by omega) (fun (h18 : ¬ 2 = k) => ?_) (fun (h18 : ¬ ¬ 2 = k) => ?_)
        · refine pw_steps 2 (s' := (34, [some (.ref 29), some (.int (ei_ (number))), some (.int (ei_ (k))), some (.int (ei_ (2))), some (.int (ei_ (2)))], [.int (ei_ (2)), .ref 1003], m)) rfl ?_
          refine pw_ildE (x := 0) rfl rfl (by decide) (by decide) ?_
          refine pw_steps 5 (s' := (13, [some (.ref 29), some (.int (ei_ (number))), some (.int (ei_ (k))), some (.int (ei_ (0))), some (.int ((ei_ (2)) + (ei_ (1))))], [.int (ei_ (8)), .int ((ei_ (2)) + (ei_ (1)))], m)) rfl ?_
          refine pw_cv (congrArg (fun z_ : Int32 => ((13, [some (.ref 29), some (.int (ei_ (number))), some (.int (ei_ (k))), some (.int (ei_ (0))), some (.int z_)], [.int (ei_ (8)), .int z_], m) : am_S)) (ei_add rfl rfl)) ?_
          refine pw_cmpF rfl (by decide) (by decide) (show ¬ (8 ≤ 3) by decide) ?_
          refine pw_steps 1 (s' := (17, [some (.ref 29), some (.int (ei_ (number))), some (.int (ei_ (k))), some (.int (ei_ (0))), some (.int (ei_ (3)))], [.int (ei_ (0))], m)) rfl ?_
          refine pw_callS (As := [.int (ei_ (0))]) (st := []) rfl (by decide) rfl rfl (Nat.le_of_ble_eq_true rfl) ?_
          refine pw_intro (I := iX0_isKind) (T := tX0_isKind) rfl rfl rfl ?_
          refine pw_steps 1 (s' := (1, [some (.int (ei_ (0)))], [.int (ei_ (0))], m)) rfl ?_
          refine pw_ifF rfl (by decide) (show ¬ (0 < 0) by decide) ?_
          refine pw_steps 2 (s' := (7, [some (.int (ei_ (0)))], [.int (ei_ (8)), .int (ei_ (0))], m)) rfl ?_
          refine pw_cmpF rfl (by decide) (by decide) (show ¬ (8 ≤ 0) by decide) ?_
          refine pw_steps 2 (s' := (15, [some (.int (ei_ (0)))], [.int (ei_ (1))], m)) rfl ?_
          refine pw_iret rfl rfl rfl ?_
          refine pw_ifF rfl (by decide) (show ¬ (1 = 0) by decide) ?_
          refine pw_steps 2 (s' := (25, [some (.ref 29), some (.int (ei_ (number))), some (.int (ei_ (k))), some (.int (ei_ (0))), some (.int (ei_ (3)))], [.int (ei_ (k)), .int (ei_ (0))], m)) rfl ?_
          refine pw_cmp rfl (by decide) (by omega) (fun (h19 : ¬ 0 = k) => ?_) (fun (h19 : ¬ ¬ 0 = k) => ?_)
          · refine pw_steps 2 (s' := (34, [some (.ref 29), some (.int (ei_ (number))), some (.int (ei_ (k))), some (.int (ei_ (0))), some (.int (ei_ (3)))], [.int (ei_ (0)), .ref 1003], m)) rfl ?_
            refine pw_ildE (x := (-1)) rfl rfl (by decide) (by decide) ?_
            refine pw_steps 5 (s' := (13, [some (.ref 29), some (.int (ei_ (number))), some (.int (ei_ (k))), some (.int (ei_ ((-1)))), some (.int ((ei_ (3)) + (ei_ (1))))], [.int (ei_ (8)), .int ((ei_ (3)) + (ei_ (1)))], m)) rfl ?_
            refine pw_cv (congrArg (fun z_ : Int32 => ((13, [some (.ref 29), some (.int (ei_ (number))), some (.int (ei_ (k))), some (.int (ei_ ((-1)))), some (.int z_)], [.int (ei_ (8)), .int z_], m) : am_S)) (ei_add rfl rfl)) ?_
            refine pw_cmpF rfl (by decide) (by decide) (show ¬ (8 ≤ 4) by decide) ?_
            refine pw_steps 1 (s' := (17, [some (.ref 29), some (.int (ei_ (number))), some (.int (ei_ (k))), some (.int (ei_ ((-1)))), some (.int (ei_ (4)))], [.int (ei_ ((-1)))], m)) rfl ?_
            refine pw_callS (As := [.int (ei_ ((-1)))]) (st := []) rfl (by decide) rfl rfl (Nat.le_of_ble_eq_true rfl) ?_
            refine pw_intro (I := iX0_isKind) (T := tX0_isKind) rfl rfl rfl ?_
            refine pw_steps 1 (s' := (1, [some (.int (ei_ ((-1))))], [.int (ei_ ((-1)))], m)) rfl ?_
            refine pw_ifT rfl (by decide) (show (-1) < 0 by decide) ?_
            refine pw_steps 1 (s' := (15, [some (.int (ei_ ((-1))))], [.int (ei_ (0))], m)) rfl ?_
            refine pw_iret rfl rfl rfl ?_
            refine pw_ifT rfl (by decide) (show 0 = 0 by decide) ?_
            refine pw_steps 1 (s' := (43, [some (.ref 29), some (.int (ei_ (number))), some (.int (ei_ (k))), some (.int (ei_ ((-1)))), some (.int (ei_ (4)))], [.int (ei_ (0))], m)) rfl ?_
            refine pw_iret rfl rfl rfl ?_
            exact k1 (by unfold un_; omega)
          · refine pw_steps 1 (s' := (29, [some (.ref 29), some (.int (ei_ (number))), some (.int (ei_ (k))), some (.int (ei_ (0))), some (.int (ei_ (3)))], [.int (ei_ (1))], m)) rfl ?_
            refine pw_iret rfl rfl rfl ?_
            exact k0 (by unfold un_; omega)
        · refine pw_steps 1 (s' := (29, [some (.ref 29), some (.int (ei_ (number))), some (.int (ei_ (k))), some (.int (ei_ (2))), some (.int (ei_ (2)))], [.int (ei_ (1))], m)) rfl ?_
          refine pw_iret rfl rfl rfl ?_
          exact k0 (by unfold un_; omega)
      · refine pw_steps 1 (s' := (29, [some (.ref 29), some (.int (ei_ (number))), some (.int (ei_ (k))), some (.int (ei_ (3))), some (.int (ei_ (1)))], [.int (ei_ (1))], m)) rfl ?_
        refine pw_iret rfl rfl rfl ?_
        exact k0 (by unfold un_; omega)
    · refine pw_steps 1 (s' := (29, [some (.ref 29), some (.int (ei_ (number))), some (.int (ei_ (k))), some (.int (ei_ (5))), some (.int (ei_ (0)))], [.int (ei_ (1))], m)) rfl ?_
      refine pw_iret rfl rfl rfl ?_
      exact k0 (by unfold un_; omega)
  · rw [h4]
    refine pw_steps 2 (s' := (13, [some (.ref 29), some (.int (ei_ (number))), some (.int (ei_ (k))), some (.int (ei_ (6))), some (.int (ei_ (0)))], [.int (ei_ (8)), .int (ei_ (0))], m)) rfl ?_
    refine pw_cmpF rfl (by decide) (by decide) (show ¬ (8 ≤ 0) by decide) ?_
    refine pw_steps 1 (s' := (17, [some (.ref 29), some (.int (ei_ (number))), some (.int (ei_ (k))), some (.int (ei_ (6))), some (.int (ei_ (0)))], [.int (ei_ (6))], m)) rfl ?_
    refine pw_callS (As := [.int (ei_ (6))]) (st := []) rfl (by decide) rfl rfl (Nat.le_of_ble_eq_true rfl) ?_
    refine pw_intro (I := iX0_isKind) (T := tX0_isKind) rfl rfl rfl ?_
    refine pw_steps 1 (s' := (1, [some (.int (ei_ (6)))], [.int (ei_ (6))], m)) rfl ?_
    refine pw_ifF rfl (by decide) (show ¬ (6 < 0) by decide) ?_
    refine pw_steps 2 (s' := (7, [some (.int (ei_ (6)))], [.int (ei_ (8)), .int (ei_ (6))], m)) rfl ?_
    refine pw_cmpF rfl (by decide) (by decide) (show ¬ (8 ≤ 6) by decide) ?_
    refine pw_steps 2 (s' := (15, [some (.int (ei_ (6)))], [.int (ei_ (1))], m)) rfl ?_
    refine pw_iret rfl rfl rfl ?_
    refine pw_ifF rfl (by decide) (show ¬ (1 = 0) by decide) ?_
    refine pw_steps 2 (s' := (25, [some (.ref 29), some (.int (ei_ (number))), some (.int (ei_ (k))), some (.int (ei_ (6))), some (.int (ei_ (0)))], [.int (ei_ (k)), .int (ei_ (6))], m)) rfl ?_
    refine pw_cmp rfl (by decide) (by omega) (fun (h20 : ¬ 6 = k) => ?_) (fun (h20 : ¬ ¬ 6 = k) => ?_)
    · refine pw_steps 2 (s' := (34, [some (.ref 29), some (.int (ei_ (number))), some (.int (ei_ (k))), some (.int (ei_ (6))), some (.int (ei_ (0)))], [.int (ei_ (6)), .ref 1003], m)) rfl ?_
      refine pw_ildE (x := 0) rfl rfl (by decide) (by decide) ?_
      refine pw_steps 5 (s' := (13, [some (.ref 29), some (.int (ei_ (number))), some (.int (ei_ (k))), some (.int (ei_ (0))), some (.int ((ei_ (0)) + (ei_ (1))))], [.int (ei_ (8)), .int ((ei_ (0)) + (ei_ (1)))], m)) rfl ?_
      refine pw_cv (congrArg (fun z_ : Int32 => ((13, [some (.ref 29), some (.int (ei_ (number))), some (.int (ei_ (k))), some (.int (ei_ (0))), some (.int z_)], [.int (ei_ (8)), .int z_], m) : am_S)) (ei_add rfl rfl)) ?_
      refine pw_cmpF rfl (by decide) (by decide) (show ¬ (8 ≤ 1) by decide) ?_
      refine pw_steps 1 (s' := (17, [some (.ref 29), some (.int (ei_ (number))), some (.int (ei_ (k))), some (.int (ei_ (0))), some (.int (ei_ (1)))], [.int (ei_ (0))], m)) rfl ?_
      refine pw_callS (As := [.int (ei_ (0))]) (st := []) rfl (by decide) rfl rfl (Nat.le_of_ble_eq_true rfl) ?_
      refine pw_intro (I := iX0_isKind) (T := tX0_isKind) rfl rfl rfl ?_
      refine pw_steps 1 (s' := (1, [some (.int (ei_ (0)))], [.int (ei_ (0))], m)) rfl ?_
      refine pw_ifF rfl (by decide) (show ¬ (0 < 0) by decide) ?_
      refine pw_steps 2 (s' := (7, [some (.int (ei_ (0)))], [.int (ei_ (8)), .int (ei_ (0))], m)) rfl ?_
      refine pw_cmpF rfl (by decide) (by decide) (show ¬ (8 ≤ 0) by decide) ?_
      refine pw_steps 2 (s' := (15, [some (.int (ei_ (0)))], [.int (ei_ (1))], m)) rfl ?_
      refine pw_iret rfl rfl rfl ?_
      refine pw_ifF rfl (by decide) (show ¬ (1 = 0) by decide) ?_
      refine pw_steps 2 (s' := (25, [some (.ref 29), some (.int (ei_ (number))), some (.int (ei_ (k))), some (.int (ei_ (0))), some (.int (ei_ (1)))], [.int (ei_ (k)), .int (ei_ (0))], m)) rfl ?_
      refine pw_cmp rfl (by decide) (by omega) (fun (h21 : ¬ 0 = k) => ?_) (fun (h21 : ¬ ¬ 0 = k) => ?_)
      · refine pw_steps 2 (s' := (34, [some (.ref 29), some (.int (ei_ (number))), some (.int (ei_ (k))), some (.int (ei_ (0))), some (.int (ei_ (1)))], [.int (ei_ (0)), .ref 1003], m)) rfl ?_
        refine pw_ildE (x := (-1)) rfl rfl (by decide) (by decide) ?_
        refine pw_steps 5 (s' := (13, [some (.ref 29), some (.int (ei_ (number))), some (.int (ei_ (k))), some (.int (ei_ ((-1)))), some (.int ((ei_ (1)) + (ei_ (1))))], [.int (ei_ (8)), .int ((ei_ (1)) + (ei_ (1)))], m)) rfl ?_
        refine pw_cv (congrArg (fun z_ : Int32 => ((13, [some (.ref 29), some (.int (ei_ (number))), some (.int (ei_ (k))), some (.int (ei_ ((-1)))), some (.int z_)], [.int (ei_ (8)), .int z_], m) : am_S)) (ei_add rfl rfl)) ?_
        refine pw_cmpF rfl (by decide) (by decide) (show ¬ (8 ≤ 2) by decide) ?_
        refine pw_steps 1 (s' := (17, [some (.ref 29), some (.int (ei_ (number))), some (.int (ei_ (k))), some (.int (ei_ ((-1)))), some (.int (ei_ (2)))], [.int (ei_ ((-1)))], m)) rfl ?_
        refine pw_callS (As := [.int (ei_ ((-1)))]) (st := []) rfl (by decide) rfl rfl (Nat.le_of_ble_eq_true rfl) ?_
        refine pw_intro (I := iX0_isKind) (T := tX0_isKind) rfl rfl rfl ?_
        refine pw_steps 1 (s' := (1, [some (.int (ei_ ((-1))))], [.int (ei_ ((-1)))], m)) rfl ?_
        refine pw_ifT rfl (by decide) (show (-1) < 0 by decide) ?_
        refine pw_steps 1 (s' := (15, [some (.int (ei_ ((-1))))], [.int (ei_ (0))], m)) rfl ?_
        refine pw_iret rfl rfl rfl ?_
        refine pw_ifT rfl (by decide) (show 0 = 0 by decide) ?_
        refine pw_steps 1 (s' := (43, [some (.ref 29), some (.int (ei_ (number))), some (.int (ei_ (k))), some (.int (ei_ ((-1)))), some (.int (ei_ (2)))], [.int (ei_ (0))], m)) rfl ?_
        refine pw_iret rfl rfl rfl ?_
        exact k1 (by unfold un_; omega)
      · refine pw_steps 1 (s' := (29, [some (.ref 29), some (.int (ei_ (number))), some (.int (ei_ (k))), some (.int (ei_ (0))), some (.int (ei_ (1)))], [.int (ei_ (1))], m)) rfl ?_
        refine pw_iret rfl rfl rfl ?_
        exact k0 (by unfold un_; omega)
    · refine pw_steps 1 (s' := (29, [some (.ref 29), some (.int (ei_ (number))), some (.int (ei_ (k))), some (.int (ei_ (6))), some (.int (ei_ (0)))], [.int (ei_ (1))], m)) rfl ?_
      refine pw_iret rfl rfl rfl ?_
      exact k0 (by unfold un_; omega)
  · rw [h4]
    refine pw_steps 2 (s' := (13, [some (.ref 29), some (.int (ei_ (number))), some (.int (ei_ (k))), some (.int (ei_ (7))), some (.int (ei_ (0)))], [.int (ei_ (8)), .int (ei_ (0))], m)) rfl ?_
    refine pw_cmpF rfl (by decide) (by decide) (show ¬ (8 ≤ 0) by decide) ?_
    refine pw_steps 1 (s' := (17, [some (.ref 29), some (.int (ei_ (number))), some (.int (ei_ (k))), some (.int (ei_ (7))), some (.int (ei_ (0)))], [.int (ei_ (7))], m)) rfl ?_
    refine pw_callS (As := [.int (ei_ (7))]) (st := []) rfl (by decide) rfl rfl (Nat.le_of_ble_eq_true rfl) ?_
    refine pw_intro (I := iX0_isKind) (T := tX0_isKind) rfl rfl rfl ?_
    refine pw_steps 1 (s' := (1, [some (.int (ei_ (7)))], [.int (ei_ (7))], m)) rfl ?_
    refine pw_ifF rfl (by decide) (show ¬ (7 < 0) by decide) ?_
    refine pw_steps 2 (s' := (7, [some (.int (ei_ (7)))], [.int (ei_ (8)), .int (ei_ (7))], m)) rfl ?_
    refine pw_cmpF rfl (by decide) (by decide) (show ¬ (8 ≤ 7) by decide) ?_
    refine pw_steps 2 (s' := (15, [some (.int (ei_ (7)))], [.int (ei_ (1))], m)) rfl ?_
    refine pw_iret rfl rfl rfl ?_
    refine pw_ifF rfl (by decide) (show ¬ (1 = 0) by decide) ?_
    refine pw_steps 2 (s' := (25, [some (.ref 29), some (.int (ei_ (number))), some (.int (ei_ (k))), some (.int (ei_ (7))), some (.int (ei_ (0)))], [.int (ei_ (k)), .int (ei_ (7))], m)) rfl ?_
    refine pw_cmp rfl (by decide) (by omega) (fun (h22 : ¬ 7 = k) => ?_) (fun (h22 : ¬ ¬ 7 = k) => ?_)
    · refine pw_steps 2 (s' := (34, [some (.ref 29), some (.int (ei_ (number))), some (.int (ei_ (k))), some (.int (ei_ (7))), some (.int (ei_ (0)))], [.int (ei_ (7)), .ref 1003], m)) rfl ?_
      refine pw_ildE (x := 4) rfl rfl (by decide) (by decide) ?_
      refine pw_steps 5 (s' := (13, [some (.ref 29), some (.int (ei_ (number))), some (.int (ei_ (k))), some (.int (ei_ (4))), some (.int ((ei_ (0)) + (ei_ (1))))], [.int (ei_ (8)), .int ((ei_ (0)) + (ei_ (1)))], m)) rfl ?_
      refine pw_cv (congrArg (fun z_ : Int32 => ((13, [some (.ref 29), some (.int (ei_ (number))), some (.int (ei_ (k))), some (.int (ei_ (4))), some (.int z_)], [.int (ei_ (8)), .int z_], m) : am_S)) (ei_add rfl rfl)) ?_
      refine pw_cmpF rfl (by decide) (by decide) (show ¬ (8 ≤ 1) by decide) ?_
      refine pw_steps 1 (s' := (17, [some (.ref 29), some (.int (ei_ (number))), some (.int (ei_ (k))), some (.int (ei_ (4))), some (.int (ei_ (1)))], [.int (ei_ (4))], m)) rfl ?_
      refine pw_callS (As := [.int (ei_ (4))]) (st := []) rfl (by decide) rfl rfl (Nat.le_of_ble_eq_true rfl) ?_
      refine pw_intro (I := iX0_isKind) (T := tX0_isKind) rfl rfl rfl ?_
      refine pw_steps 1 (s' := (1, [some (.int (ei_ (4)))], [.int (ei_ (4))], m)) rfl ?_
      refine pw_ifF rfl (by decide) (show ¬ (4 < 0) by decide) ?_
      refine pw_steps 2 (s' := (7, [some (.int (ei_ (4)))], [.int (ei_ (8)), .int (ei_ (4))], m)) rfl ?_
      refine pw_cmpF rfl (by decide) (by decide) (show ¬ (8 ≤ 4) by decide) ?_
      refine pw_steps 2 (s' := (15, [some (.int (ei_ (4)))], [.int (ei_ (1))], m)) rfl ?_
      refine pw_iret rfl rfl rfl ?_
      refine pw_ifF rfl (by decide) (show ¬ (1 = 0) by decide) ?_
      refine pw_steps 2 (s' := (25, [some (.ref 29), some (.int (ei_ (number))), some (.int (ei_ (k))), some (.int (ei_ (4))), some (.int (ei_ (1)))], [.int (ei_ (k)), .int (ei_ (4))], m)) rfl ?_
      refine pw_cmp rfl (by decide) (by omega) (fun (h23 : ¬ 4 = k) => ?_) (fun (h23 : ¬ ¬ 4 = k) => ?_)
      · refine pw_steps 2 (s' := (34, [some (.ref 29), some (.int (ei_ (number))), some (.int (ei_ (k))), some (.int (ei_ (4))), some (.int (ei_ (1)))], [.int (ei_ (4)), .ref 1003], m)) rfl ?_
        refine pw_ildE (x := 1) rfl rfl (by decide) (by decide) ?_
        refine pw_steps 5 (s' := (13, [some (.ref 29), some (.int (ei_ (number))), some (.int (ei_ (k))), some (.int (ei_ (1))), some (.int ((ei_ (1)) + (ei_ (1))))], [.int (ei_ (8)), .int ((ei_ (1)) + (ei_ (1)))], m)) rfl ?_
        refine pw_cv (congrArg (fun z_ : Int32 => ((13, [some (.ref 29), some (.int (ei_ (number))), some (.int (ei_ (k))), some (.int (ei_ (1))), some (.int z_)], [.int (ei_ (8)), .int z_], m) : am_S)) (ei_add rfl rfl)) ?_
        refine pw_cmpF rfl (by decide) (by decide) (show ¬ (8 ≤ 2) by decide) ?_
        refine pw_steps 1 (s' := (17, [some (.ref 29), some (.int (ei_ (number))), some (.int (ei_ (k))), some (.int (ei_ (1))), some (.int (ei_ (2)))], [.int (ei_ (1))], m)) rfl ?_
        refine pw_callS (As := [.int (ei_ (1))]) (st := []) rfl (by decide) rfl rfl (Nat.le_of_ble_eq_true rfl) ?_
        refine pw_intro (I := iX0_isKind) (T := tX0_isKind) rfl rfl rfl ?_
        refine pw_steps 1 (s' := (1, [some (.int (ei_ (1)))], [.int (ei_ (1))], m)) rfl ?_
        refine pw_ifF rfl (by decide) (show ¬ (1 < 0) by decide) ?_
        refine pw_steps 2 (s' := (7, [some (.int (ei_ (1)))], [.int (ei_ (8)), .int (ei_ (1))], m)) rfl ?_
        refine pw_cmpF rfl (by decide) (by decide) (show ¬ (8 ≤ 1) by decide) ?_
        refine pw_steps 2 (s' := (15, [some (.int (ei_ (1)))], [.int (ei_ (1))], m)) rfl ?_
        refine pw_iret rfl rfl rfl ?_
        refine pw_ifF rfl (by decide) (show ¬ (1 = 0) by decide) ?_
        refine pw_steps 2 (s' := (25, [some (.ref 29), some (.int (ei_ (number))), some (.int (ei_ (k))), some (.int (ei_ (1))), some (.int (ei_ (2)))], [.int (ei_ (k)), .int (ei_ (1))], m)) rfl ?_
        refine pw_cmp rfl (by decide) (by omega) (fun (h24 : ¬ 1 = k) => ?_) (fun (h24 : ¬ ¬ 1 = k) => ?_)
        · refine pw_steps 2 (s' := (34, [some (.ref 29), some (.int (ei_ (number))), some (.int (ei_ (k))), some (.int (ei_ (1))), some (.int (ei_ (2)))], [.int (ei_ (1)), .ref 1003], m)) rfl ?_
          refine pw_ildE (x := 0) rfl rfl (by decide) (by decide) ?_
          refine pw_steps 5 (s' := (13, [some (.ref 29), some (.int (ei_ (number))), some (.int (ei_ (k))), some (.int (ei_ (0))), some (.int ((ei_ (2)) + (ei_ (1))))], [.int (ei_ (8)), .int ((ei_ (2)) + (ei_ (1)))], m)) rfl ?_
          refine pw_cv (congrArg (fun z_ : Int32 => ((13, [some (.ref 29), some (.int (ei_ (number))), some (.int (ei_ (k))), some (.int (ei_ (0))), some (.int z_)], [.int (ei_ (8)), .int z_], m) : am_S)) (ei_add rfl rfl)) ?_
          refine pw_cmpF rfl (by decide) (by decide) (show ¬ (8 ≤ 3) by decide) ?_
          refine pw_steps 1 (s' := (17, [some (.ref 29), some (.int (ei_ (number))), some (.int (ei_ (k))), some (.int (ei_ (0))), some (.int (ei_ (3)))], [.int (ei_ (0))], m)) rfl ?_
          refine pw_callS (As := [.int (ei_ (0))]) (st := []) rfl (by decide) rfl rfl (Nat.le_of_ble_eq_true rfl) ?_
          refine pw_intro (I := iX0_isKind) (T := tX0_isKind) rfl rfl rfl ?_
          refine pw_steps 1 (s' := (1, [some (.int (ei_ (0)))], [.int (ei_ (0))], m)) rfl ?_
          refine pw_ifF rfl (by decide) (show ¬ (0 < 0) by decide) ?_
          refine pw_steps 2 (s' := (7, [some (.int (ei_ (0)))], [.int (ei_ (8)), .int (ei_ (0))], m)) rfl ?_
          refine pw_cmpF rfl (by decide) (by decide) (show ¬ (8 ≤ 0) by decide) ?_
          refine pw_steps 2 (s' := (15, [some (.int (ei_ (0)))], [.int (ei_ (1))], m)) rfl ?_
          refine pw_iret rfl rfl rfl ?_
          refine pw_ifF rfl (by decide) (show ¬ (1 = 0) by decide) ?_
          refine pw_steps 2 (s' := (25, [some (.ref 29), some (.int (ei_ (number))), some (.int (ei_ (k))), some (.int (ei_ (0))), some (.int (ei_ (3)))], [.int (ei_ (k)), .int (ei_ (0))], m)) rfl ?_
          refine pw_cmp rfl (by decide) (by omega) (fun (h25 : ¬ 0 = k) => ?_) (fun (h25 : ¬ ¬ 0 = k) => ?_)
          · refine pw_steps 2 (s' := (34, [some (.ref 29), some (.int (ei_ (number))), some (.int (ei_ (k))), some (.int (ei_ (0))), some (.int (ei_ (3)))], [.int (ei_ (0)), .ref 1003], m)) rfl ?_
            refine pw_ildE (x := (-1)) rfl rfl (by decide) (by decide) ?_
            refine pw_steps 5 (s' := (13, [some (.ref 29), some (.int (ei_ (number))), some (.int (ei_ (k))), some (.int (ei_ ((-1)))), some (.int ((ei_ (3)) + (ei_ (1))))], [.int (ei_ (8)), .int ((ei_ (3)) + (ei_ (1)))], m)) rfl ?_
            refine pw_cv (congrArg (fun z_ : Int32 => ((13, [some (.ref 29), some (.int (ei_ (number))), some (.int (ei_ (k))), some (.int (ei_ ((-1)))), some (.int z_)], [.int (ei_ (8)), .int z_], m) : am_S)) (ei_add rfl rfl)) ?_
            refine pw_cmpF rfl (by decide) (by decide) (show ¬ (8 ≤ 4) by decide) ?_
            refine pw_steps 1 (s' := (17, [some (.ref 29), some (.int (ei_ (number))), some (.int (ei_ (k))), some (.int (ei_ ((-1)))), some (.int (ei_ (4)))], [.int (ei_ ((-1)))], m)) rfl ?_
            refine pw_callS (As := [.int (ei_ ((-1)))]) (st := []) rfl (by decide) rfl rfl (Nat.le_of_ble_eq_true rfl) ?_
            refine pw_intro (I := iX0_isKind) (T := tX0_isKind) rfl rfl rfl ?_
            refine pw_steps 1 (s' := (1, [some (.int (ei_ ((-1))))], [.int (ei_ ((-1)))], m)) rfl ?_
            refine pw_ifT rfl (by decide) (show (-1) < 0 by decide) ?_
            refine pw_steps 1 (s' := (15, [some (.int (ei_ ((-1))))], [.int (ei_ (0))], m)) rfl ?_
            refine pw_iret rfl rfl rfl ?_
            refine pw_ifT rfl (by decide) (show 0 = 0 by decide) ?_
            refine pw_steps 1 (s' := (43, [some (.ref 29), some (.int (ei_ (number))), some (.int (ei_ (k))), some (.int (ei_ ((-1)))), some (.int (ei_ (4)))], [.int (ei_ (0))], m)) rfl ?_
            refine pw_iret rfl rfl rfl ?_
            exact k1 (by unfold un_; omega)
          · refine pw_steps 1 (s' := (29, [some (.ref 29), some (.int (ei_ (number))), some (.int (ei_ (k))), some (.int (ei_ (0))), some (.int (ei_ (3)))], [.int (ei_ (1))], m)) rfl ?_
            refine pw_iret rfl rfl rfl ?_
            exact k0 (by unfold un_; omega)
        · refine pw_steps 1 (s' := (29, [some (.ref 29), some (.int (ei_ (number))), some (.int (ei_ (k))), some (.int (ei_ (1))), some (.int (ei_ (2)))], [.int (ei_ (1))], m)) rfl ?_
          refine pw_iret rfl rfl rfl ?_
          exact k0 (by unfold un_; omega)
      · refine pw_steps 1 (s' := (29, [some (.ref 29), some (.int (ei_ (number))), some (.int (ei_ (k))), some (.int (ei_ (4))), some (.int (ei_ (1)))], [.int (ei_ (1))], m)) rfl ?_
        refine pw_iret rfl rfl rfl ?_
        exact k0 (by unfold un_; omega)
    · refine pw_steps 1 (s' := (29, [some (.ref 29), some (.int (ei_ (number))), some (.int (ei_ (k))), some (.int (ei_ (7))), some (.int (ei_ (0)))], [.int (ei_ (1))], m)) rfl ?_
      refine pw_iret rfl rfl rfl ?_
      exact k0 (by unfold un_; omega)

set_option maxHeartbeats 4000000 in
set_option maxRecDepth 20000 in
theorem op_taken {q : am_X} {d : Nat} {m : am_M} {a : Int} {b : Int} (q0 : -2147483648 ≤ a ∧ a < 2147483648) (q1 : -2147483648 ≤ b ∧ b < 2147483648) (hR : rR_ m) : pw_C q (d + 60) 164 [.ref 0, .int (ei_ (a)), .int (ei_ (b))] m (fun r1 m1 => pw_C q (d + 60) 260 [.ref 47, .int (ei_ (a)), .int (ei_ (b))] m1 (fun r2 m2 => ∃ x : Int, r1 = some (.int (ei_ x)) ∧ r2 = some (.int (ei_ x)) ∧ rR_ m2)) := by
  obtain ⟨hp, hd, hi, ht, hl, hz, hc, ha, hs⟩ := id hR
  obtain ⟨hP1, hP2, hP3, hP4⟩ := id hp
  have hmw := mW_of hp hd
  have hmf := mF_of hp hd
  obtain ⟨ha1, ha2, ha3, ha4, ha5, ha6⟩ := id ha
  refine pw_intro (I := iX8_taken) (T := tX8_taken) rfl rfl rfl ?_
  refine pw_steps 1 (s' := (1, [some (.ref 0), some (.int (ei_ (a))), some (.int (ei_ (b))), none], [.int (ei_ (a))], m)) rfl ?_
  refine pw_callS (As := [.int (ei_ (a))]) (st := []) rfl (by decide) rfl rfl (Nat.le_of_ble_eq_true rfl) ?_
  refine pw_intro (I := iX8_isShelf) (T := tX8_isShelf) rfl rfl rfl ?_
  refine pw_steps 1 (s' := (1, [some (.int (ei_ (a)))], [.int (ei_ (a))], m)) rfl ?_
  refine pw_if rfl q0 (fun (h1 : a < 0) => ?_) (fun (h1 : ¬ (a < 0)) => ?_)
  · refine pw_steps 1 (s' := (15, [some (.int (ei_ (a)))], [.int (ei_ (0))], m)) rfl ?_
    refine pw_iret rfl rfl rfl ?_
    refine pw_ifT rfl (by decide) (show 0 = 0 by decide) ?_
    refine pw_steps 1 (s' := (15, [some (.ref 0), some (.int (ei_ (a))), some (.int (ei_ (b))), none], [.int (ei_ ((-1)))], m)) rfl ?_
    refine pw_iret rfl rfl rfl ?_
    refine pw_intro (I := iX9_taken) (T := tX9_taken) rfl rfl rfl ?_
    refine pw_steps 1 (s' := (1, [some (.ref 47), some (.int (ei_ (a))), some (.int (ei_ (b))), none], [.int (ei_ (a))], m)) rfl ?_
    refine pw_callS (As := [.int (ei_ (a))]) (st := []) rfl (by decide) rfl rfl (Nat.le_of_ble_eq_true rfl) ?_
    refine pw_intro (I := iX9_isShelf) (T := tX9_isShelf) rfl rfl rfl ?_
    refine pw_steps 4 (s' := (6, [some (.int (ei_ (a)))], [.long (el_ (5)), .long (el_ (0)), .long ((ei_ (a)).toInt64)], m)) rfl ?_
    refine pw_cv (congrArg (fun z_ : Int64 => ((6, [some (.int (ei_ (a)))], [.long (el_ (5)), .long (el_ (0)), .long z_], m) : am_S)) (el_i2l q0 rfl)) ?_
    refine pw_callS (As := [.long (el_ (a)), .long (el_ (0)), .long (el_ (5))]) (st := []) rfl (by decide) rfl rfl (Nat.le_of_ble_eq_true rfl) ?_
    refine mt_within (by omega) (by omega) (by omega) (fun g2 g3 => ?_) (fun g4 => ?_) (fun g5 => ?_)
    · exact False.elim (by omega)
    · refine pw_iret rfl rfl rfl ?_
      refine pw_ifT rfl (by decide) (show 0 = 0 by decide) ?_
      refine pw_steps 1 (s' := (20, [some (.ref 47), some (.int (ei_ (a))), some (.int (ei_ (b))), none], [.int (ei_ ((-1)))], m)) rfl ?_
      refine pw_iret rfl rfl rfl ?_
      have hx_ : ((-1) : Int) = (-1) := by rfl
      exact ⟨(-1), rfl, congrArg (fun z_ : Int => some (Value.int (ei_ z_))) hx_, rR_sm (sm_rfl m) hR⟩
    · exact False.elim (by omega)
  · refine pw_steps 2 (s' := (7, [some (.int (ei_ (a)))], [.int (ei_ (6)), .int (ei_ (a))], m)) rfl ?_
    refine pw_cmp rfl q0 (by decide) (fun (h6 : 6 ≤ a) => ?_) (fun (h6 : ¬ (6 ≤ a)) => ?_)
    · refine pw_steps 1 (s' := (15, [some (.int (ei_ (a)))], [.int (ei_ (0))], m)) rfl ?_
      refine pw_iret rfl rfl rfl ?_
      refine pw_ifT rfl (by decide) (show 0 = 0 by decide) ?_
      refine pw_steps 1 (s' := (15, [some (.ref 0), some (.int (ei_ (a))), some (.int (ei_ (b))), none], [.int (ei_ ((-1)))], m)) rfl ?_
      refine pw_iret rfl rfl rfl ?_
      refine pw_intro (I := iX9_taken) (T := tX9_taken) rfl rfl rfl ?_
      refine pw_steps 1 (s' := (1, [some (.ref 47), some (.int (ei_ (a))), some (.int (ei_ (b))), none], [.int (ei_ (a))], m)) rfl ?_
      refine pw_callS (As := [.int (ei_ (a))]) (st := []) rfl (by decide) rfl rfl (Nat.le_of_ble_eq_true rfl) ?_
      refine pw_intro (I := iX9_isShelf) (T := tX9_isShelf) rfl rfl rfl ?_
      refine pw_steps 4 (s' := (6, [some (.int (ei_ (a)))], [.long (el_ (5)), .long (el_ (0)), .long ((ei_ (a)).toInt64)], m)) rfl ?_
      refine pw_cv (congrArg (fun z_ : Int64 => ((6, [some (.int (ei_ (a)))], [.long (el_ (5)), .long (el_ (0)), .long z_], m) : am_S)) (el_i2l q0 rfl)) ?_
      refine pw_callS (As := [.long (el_ (a)), .long (el_ (0)), .long (el_ (5))]) (st := []) rfl (by decide) rfl rfl (Nat.le_of_ble_eq_true rfl) ?_
      refine mt_within (by omega) (by omega) (by omega) (fun g7 g8 => ?_) (fun g9 => ?_) (fun g10 => ?_)
      · exact False.elim (by omega)
      · exact False.elim (by omega)
      · refine pw_iret rfl rfl rfl ?_
        refine pw_ifT rfl (by decide) (show 0 = 0 by decide) ?_
        refine pw_steps 1 (s' := (20, [some (.ref 47), some (.int (ei_ (a))), some (.int (ei_ (b))), none], [.int (ei_ ((-1)))], m)) rfl ?_
        refine pw_iret rfl rfl rfl ?_
        have hx_ : ((-1) : Int) = (-1) := by rfl
        exact ⟨(-1), rfl, congrArg (fun z_ : Int => some (Value.int (ei_ z_))) hx_, rR_sm (sm_rfl m) hR⟩
    · refine pw_steps 2 (s' := (15, [some (.int (ei_ (a)))], [.int (ei_ (1))], m)) rfl ?_
      refine pw_iret rfl rfl rfl ?_
      refine pw_ifF rfl (by decide) (show ¬ (1 = 0) by decide) ?_
      refine pw_steps 1 (s' := (8, [some (.ref 0), some (.int (ei_ (a))), some (.int (ei_ (b))), none], [.int (ei_ (b))], m)) rfl ?_
      refine pw_callS (As := [.int (ei_ (b))]) (st := []) rfl (by decide) rfl rfl (Nat.le_of_ble_eq_true rfl) ?_
      refine pw_intro (I := iX0_isKind) (T := tX0_isKind) rfl rfl rfl ?_
      refine pw_steps 1 (s' := (1, [some (.int (ei_ (b)))], [.int (ei_ (b))], m)) rfl ?_
      refine pw_if rfl q1 (fun (h11 : b < 0) => ?_) (fun (h11 : ¬ (b < 0)) => ?_)
      · refine pw_steps 1 (s' := (15, [some (.int (ei_ (b)))], [.int (ei_ (0))], m)) rfl ?_
        refine pw_iret rfl rfl rfl ?_
        refine pw_ifF rfl (by decide) (show ¬ (¬ 0 = 0) by decide) ?_
        refine pw_steps 1 (s' := (15, [some (.ref 0), some (.int (ei_ (a))), some (.int (ei_ (b))), none], [.int (ei_ ((-1)))], m)) rfl ?_
        refine pw_iret rfl rfl rfl ?_
        refine pw_intro (I := iX9_taken) (T := tX9_taken) rfl rfl rfl ?_
        refine pw_steps 1 (s' := (1, [some (.ref 47), some (.int (ei_ (a))), some (.int (ei_ (b))), none], [.int (ei_ (a))], m)) rfl ?_
        refine pw_callS (As := [.int (ei_ (a))]) (st := []) rfl (by decide) rfl rfl (Nat.le_of_ble_eq_true rfl) ?_
        refine pw_intro (I := iX9_isShelf) (T := tX9_isShelf) rfl rfl rfl ?_
        refine pw_steps 4 (s' := (6, [some (.int (ei_ (a)))], [.long (el_ (5)), .long (el_ (0)), .long ((ei_ (a)).toInt64)], m)) rfl ?_
        refine pw_cv (congrArg (fun z_ : Int64 => ((6, [some (.int (ei_ (a)))], [.long (el_ (5)), .long (el_ (0)), .long z_], m) : am_S)) (el_i2l q0 rfl)) ?_
        refine pw_callS (As := [.long (el_ (a)), .long (el_ (0)), .long (el_ (5))]) (st := []) rfl (by decide) rfl rfl (Nat.le_of_ble_eq_true rfl) ?_
        refine mt_within (by omega) (by omega) (by omega) (fun g12 g13 => ?_) (fun g14 => ?_) (fun g15 => ?_)
        · refine pw_iret rfl rfl rfl ?_
          refine pw_ifF rfl (by decide) (show ¬ (1 = 0) by decide) ?_
          refine pw_steps 4 (s' := (13, [some (.ref 47), some (.int (ei_ (a))), some (.int (ei_ (b))), none], [.long (el_ (7)), .long (el_ (0)), .long ((ei_ (b)).toInt64)], m)) rfl ?_
          refine pw_cv (congrArg (fun z_ : Int64 => ((13, [some (.ref 47), some (.int (ei_ (a))), some (.int (ei_ (b))), none], [.long (el_ (7)), .long (el_ (0)), .long z_], m) : am_S)) (el_i2l q1 rfl)) ?_
          refine pw_callS (As := [.long (el_ (b)), .long (el_ (0)), .long (el_ (7))]) (st := []) rfl (by decide) rfl rfl (Nat.le_of_ble_eq_true rfl) ?_
          refine mt_within (by omega) (by omega) (by omega) (fun g16 g17 => ?_) (fun g18 => ?_) (fun g19 => ?_)
          · exact False.elim (by omega)
          · refine pw_ifF rfl (by decide) (show ¬ (¬ 0 = 0) by decide) ?_
            refine pw_steps 1 (s' := (20, [some (.ref 47), some (.int (ei_ (a))), some (.int (ei_ (b))), none], [.int (ei_ ((-1)))], m)) rfl ?_
            refine pw_iret rfl rfl rfl ?_
            have hx_ : ((-1) : Int) = (-1) := by rfl
            exact ⟨(-1), rfl, congrArg (fun z_ : Int => some (Value.int (ei_ z_))) hx_, rR_sm (sm_rfl m) hR⟩
          · exact False.elim (by omega)
        · exact False.elim (by omega)
        · exact False.elim (by omega)
      · refine pw_steps 2 (s' := (7, [some (.int (ei_ (b)))], [.int (ei_ (8)), .int (ei_ (b))], m)) rfl ?_
        refine pw_cmp rfl q1 (by decide) (fun (h20 : 8 ≤ b) => ?_) (fun (h20 : ¬ (8 ≤ b)) => ?_)
        · refine pw_steps 1 (s' := (15, [some (.int (ei_ (b)))], [.int (ei_ (0))], m)) rfl ?_
          refine pw_iret rfl rfl rfl ?_
          refine pw_ifF rfl (by decide) (show ¬ (¬ 0 = 0) by decide) ?_
          refine pw_steps 1 (s' := (15, [some (.ref 0), some (.int (ei_ (a))), some (.int (ei_ (b))), none], [.int (ei_ ((-1)))], m)) rfl ?_
          refine pw_iret rfl rfl rfl ?_
          refine pw_intro (I := iX9_taken) (T := tX9_taken) rfl rfl rfl ?_
          refine pw_steps 1 (s' := (1, [some (.ref 47), some (.int (ei_ (a))), some (.int (ei_ (b))), none], [.int (ei_ (a))], m)) rfl ?_
          refine pw_callS (As := [.int (ei_ (a))]) (st := []) rfl (by decide) rfl rfl (Nat.le_of_ble_eq_true rfl) ?_
          refine pw_intro (I := iX9_isShelf) (T := tX9_isShelf) rfl rfl rfl ?_
          refine pw_steps 4 (s' := (6, [some (.int (ei_ (a)))], [.long (el_ (5)), .long (el_ (0)), .long ((ei_ (a)).toInt64)], m)) rfl ?_
          refine pw_cv (congrArg (fun z_ : Int64 => ((6, [some (.int (ei_ (a)))], [.long (el_ (5)), .long (el_ (0)), .long z_], m) : am_S)) (el_i2l q0 rfl)) ?_
          refine pw_callS (As := [.long (el_ (a)), .long (el_ (0)), .long (el_ (5))]) (st := []) rfl (by decide) rfl rfl (Nat.le_of_ble_eq_true rfl) ?_
          refine mt_within (by omega) (by omega) (by omega) (fun g21 g22 => ?_) (fun g23 => ?_) (fun g24 => ?_)
          · refine pw_iret rfl rfl rfl ?_
            refine pw_ifF rfl (by decide) (show ¬ (1 = 0) by decide) ?_
            refine pw_steps 4 (s' := (13, [some (.ref 47), some (.int (ei_ (a))), some (.int (ei_ (b))), none], [.long (el_ (7)), .long (el_ (0)), .long ((ei_ (b)).toInt64)], m)) rfl ?_
            refine pw_cv (congrArg (fun z_ : Int64 => ((13, [some (.ref 47), some (.int (ei_ (a))), some (.int (ei_ (b))), none], [.long (el_ (7)), .long (el_ (0)), .long z_], m) : am_S)) (el_i2l q1 rfl)) ?_
            refine pw_callS (As := [.long (el_ (b)), .long (el_ (0)), .long (el_ (7))]) (st := []) rfl (by decide) rfl rfl (Nat.le_of_ble_eq_true rfl) ?_
            refine mt_within (by omega) (by omega) (by omega) (fun g25 g26 => ?_) (fun g27 => ?_) (fun g28 => ?_)
            · exact False.elim (by omega)
            · exact False.elim (by omega)
            · refine pw_ifF rfl (by decide) (show ¬ (¬ 0 = 0) by decide) ?_
              refine pw_steps 1 (s' := (20, [some (.ref 47), some (.int (ei_ (a))), some (.int (ei_ (b))), none], [.int (ei_ ((-1)))], m)) rfl ?_
              refine pw_iret rfl rfl rfl ?_
              have hx_ : ((-1) : Int) = (-1) := by rfl
              exact ⟨(-1), rfl, congrArg (fun z_ : Int => some (Value.int (ei_ z_))) hx_, rR_sm (sm_rfl m) hR⟩
          · exact False.elim (by omega)
          · exact False.elim (by omega)
        · refine pw_steps 2 (s' := (15, [some (.int (ei_ (b)))], [.int (ei_ (1))], m)) rfl ?_
          refine pw_iret rfl rfl rfl ?_
          refine pw_ifT rfl (by decide) (show ¬ 1 = 0 by decide) ?_
          refine pw_steps 3 (s' := (21, [some (.ref 0), some (.int (ei_ (a))), some (.int (ei_ (b))), none], [.int (ei_ (a)), .ref 32], m)) rfl ?_
          refine pw_ald (r0 := (sf_ a)) rfl rfl (sf_ln (by omega)) (sf_al (by omega)) ?_
          obtain ⟨hk29, hk30, hk31⟩ := hs a (by omega) (by omega)
          rcases hk31 with ⟨hb321, hb322, hb323⟩ | ⟨hb321, hb322, hb323, hb324, hb325⟩ | ⟨hb321, hb322, hb323, hb324⟩
          · refine pw_steps 2 (s' := (24, [some (.ref 0), some (.int (ei_ (a))), some (.int (ei_ (b))), some (.ref ((sf_ a)))], [.ref ((sf_ a))], m)) rfl ?_
            refine pw_call (As := []) (st := []) (k := (sf_ a)) rfl rfl rfl (sf_sk (by omega)) rfl (Nat.le_of_ble_eq_true rfl) ?_
            refine pw_intro (I := iX5_isEmpty) (T := tX5_isEmpty) rfl rfl rfl ?_
            refine pw_steps 1 (s' := (1, [some (.ref ((sf_ a)))], [.ref ((sf_ a))], m)) rfl ?_
            refine pw_get rfl (sf_ok (a := a) (by omega)).1 (fun x33 (hx33 : x33 = vi_ m (sf_ a) 0) rx33 sx33 => ?_)
            refine pw_steps 1 (s' := (5, [some (.ref ((sf_ a)))], [.int (ei_ ((-1))), .int (ei_ (x33))], m)) rfl ?_
            refine pw_cmpF rfl ⟨rx33, sx33⟩ (by decide) (show ¬ (¬ x33 = (-1)) by omega) ?_
            refine pw_steps 2 (s' := (13, [some (.ref ((sf_ a)))], [.int (ei_ (1))], m)) rfl ?_
            refine pw_iret rfl rfl rfl ?_
            refine pw_ifF rfl (by decide) (show ¬ (1 = 0) by decide) ?_
            refine pw_steps 1 (s' := (32, [some (.ref 0), some (.int (ei_ (a))), some (.int (ei_ (b))), some (.ref ((sf_ a)))], [.int (ei_ ((-11)))], m)) rfl ?_
            refine pw_iret rfl rfl rfl ?_
            refine pw_intro (I := iX9_taken) (T := tX9_taken) rfl rfl rfl ?_
            refine pw_steps 1 (s' := (1, [some (.ref 47), some (.int (ei_ (a))), some (.int (ei_ (b))), none], [.int (ei_ (a))], m)) rfl ?_
            refine pw_callS (As := [.int (ei_ (a))]) (st := []) rfl (by decide) rfl rfl (Nat.le_of_ble_eq_true rfl) ?_
            refine pw_intro (I := iX9_isShelf) (T := tX9_isShelf) rfl rfl rfl ?_
            refine pw_steps 4 (s' := (6, [some (.int (ei_ (a)))], [.long (el_ (5)), .long (el_ (0)), .long ((ei_ (a)).toInt64)], m)) rfl ?_
            refine pw_cv (congrArg (fun z_ : Int64 => ((6, [some (.int (ei_ (a)))], [.long (el_ (5)), .long (el_ (0)), .long z_], m) : am_S)) (el_i2l q0 rfl)) ?_
            refine pw_callS (As := [.long (el_ (a)), .long (el_ (0)), .long (el_ (5))]) (st := []) rfl (by decide) rfl rfl (Nat.le_of_ble_eq_true rfl) ?_
            refine mt_within (by omega) (by omega) (by omega) (fun g34 g35 => ?_) (fun g36 => ?_) (fun g37 => ?_)
            · refine pw_iret rfl rfl rfl ?_
              refine pw_ifF rfl (by decide) (show ¬ (1 = 0) by decide) ?_
              refine pw_steps 4 (s' := (13, [some (.ref 47), some (.int (ei_ (a))), some (.int (ei_ (b))), none], [.long (el_ (7)), .long (el_ (0)), .long ((ei_ (b)).toInt64)], m)) rfl ?_
              refine pw_cv (congrArg (fun z_ : Int64 => ((13, [some (.ref 47), some (.int (ei_ (a))), some (.int (ei_ (b))), none], [.long (el_ (7)), .long (el_ (0)), .long z_], m) : am_S)) (el_i2l q1 rfl)) ?_
              refine pw_callS (As := [.long (el_ (b)), .long (el_ (0)), .long (el_ (7))]) (st := []) rfl (by decide) rfl rfl (Nat.le_of_ble_eq_true rfl) ?_
              refine mt_within (by omega) (by omega) (by omega) (fun g38 g39 => ?_) (fun g40 => ?_) (fun g41 => ?_)
              · refine pw_ifT rfl (by decide) (show ¬ 1 = 0 by decide) ?_
                refine pw_steps 3 (s' := (26, [some (.ref 47), some (.int (ei_ (a))), some (.int (ei_ (b))), none], [.int (ei_ (a)), .ref 68], m)) rfl ?_
                refine pw_ild rfl rfl (by omega) (fun x42 (hx42 : x42 = vi_ m 68 a) rx42 sx42 => ?_)
                refine pw_ifF rfl ⟨rx42, sx42⟩ (show ¬ (0 ≤ x42) by omega) ?_
                refine pw_steps 1 (s' := (32, [some (.ref 47), some (.int (ei_ (a))), some (.int (ei_ (b))), none], [.int (ei_ ((-11)))], m)) rfl ?_
                refine pw_iret rfl rfl rfl ?_
                have hx_ : ((-11) : Int) = (-11) := by rfl
                exact ⟨(-11), rfl, congrArg (fun z_ : Int => some (Value.int (ei_ z_))) hx_, rR_sm (sm_rfl m) hR⟩
              · exact False.elim (by omega)
              · exact False.elim (by omega)
            · exact False.elim (by omega)
            · exact False.elim (by omega)
          · refine pw_steps 2 (s' := (24, [some (.ref 0), some (.int (ei_ (a))), some (.int (ei_ (b))), some (.ref ((sf_ a)))], [.ref ((sf_ a))], m)) rfl ?_
            refine pw_call (As := []) (st := []) (k := (sf_ a)) rfl rfl rfl (sf_sk (by omega)) rfl (Nat.le_of_ble_eq_true rfl) ?_
            refine pw_intro (I := iX5_isEmpty) (T := tX5_isEmpty) rfl rfl rfl ?_
            refine pw_steps 1 (s' := (1, [some (.ref ((sf_ a)))], [.ref ((sf_ a))], m)) rfl ?_
            refine pw_get rfl (sf_ok (a := a) (by omega)).1 (fun x43 (hx43 : x43 = vi_ m (sf_ a) 0) rx43 sx43 => ?_)
            refine pw_steps 1 (s' := (5, [some (.ref ((sf_ a)))], [.int (ei_ ((-1))), .int (ei_ (x43))], m)) rfl ?_
            refine pw_cmpT rfl ⟨rx43, sx43⟩ (by decide) (show ¬ x43 = (-1) by omega) ?_
            refine pw_steps 1 (s' := (13, [some (.ref ((sf_ a)))], [.int (ei_ (0))], m)) rfl ?_
            refine pw_iret rfl rfl rfl ?_
            refine pw_ifT rfl (by decide) (show 0 = 0 by decide) ?_
            refine pw_steps 1 (s' := (34, [some (.ref 0), some (.int (ei_ (a))), some (.int (ei_ (b))), some (.ref ((sf_ a)))], [.ref ((sf_ a))], m)) rfl ?_
            refine pw_call (As := []) (st := []) (k := (sf_ a)) rfl rfl rfl (sf_sk (by omega)) rfl (Nat.le_of_ble_eq_true rfl) ?_
            refine pw_intro (I := iX5_isName) (T := tX5_isName) rfl rfl rfl ?_
            refine pw_steps 1 (s' := (1, [some (.ref ((sf_ a)))], [.ref ((sf_ a))], m)) rfl ?_
            refine pw_getE (x := x43) rfl (sf_ok (a := a) (by omega)).1 hx43 ?_
            refine pw_steps 1 (s' := (6, [some (.ref ((sf_ a)))], [.int (ei_ ((-2))), .int (ei_ (x43))], m)) rfl ?_
            refine pw_cmpF rfl ⟨rx43, sx43⟩ (by decide) (show ¬ (¬ x43 = (-2)) by omega) ?_
            refine pw_steps 2 (s' := (14, [some (.ref ((sf_ a)))], [.int (ei_ (1))], m)) rfl ?_
            refine pw_iret rfl rfl rfl ?_
            refine pw_ifF rfl (by decide) (show ¬ (1 = 0) by decide) ?_
            refine pw_steps 3 (s' := (45, [some (.ref 0), some (.int (ei_ (a))), some (.int (ei_ (b))), some (.ref ((sf_ a)))], [.ref ((sf_ a)), .ref 29], m)) rfl ?_
            refine pw_call (As := []) (st := [.ref 29]) (k := (sf_ a)) rfl rfl rfl (sf_sk (by omega)) rfl (Nat.le_of_ble_eq_true rfl) ?_
            refine pw_intro (I := iX5_name) (T := tX5_name) rfl rfl rfl ?_
            refine pw_steps 1 (s' := (1, [some (.ref ((sf_ a)))], [.ref ((sf_ a))], m)) rfl ?_
            refine pw_get rfl (sf_ok (a := a) (by omega)).2.1 (fun x44 (hx44 : x44 = vi_ m (sf_ a) 1) rx44 sx44 => ?_)
            refine pw_iret rfl rfl rfl ?_
            refine pw_steps 1 (s' := (49, [some (.ref 0), some (.int (ei_ (a))), some (.int (ei_ (b))), some (.ref ((sf_ a)))], [.int (ei_ (b)), .int (ei_ (x44)), .ref 29], m)) rfl ?_
            refine pw_call (As := [.int (ei_ (x44)), .int (ei_ (b))]) (st := []) (k := 29) rfl rfl rfl rfl rfl (Nat.le_of_ble_eq_true rfl) ?_
            refine cs_under (by omega) (fun j a_ b_ => (ha3 j a_ b_).2) (by omega) ((sm_rfl m)) (by omega) (fun g45 => ?_) (fun g46 => ?_)
            · unfold un_ at g45
              refine pw_ifT rfl (by decide) (show ¬ 1 = 0 by decide) ?_
              refine pw_steps 3 (s' := (63, [some (.ref 0), some (.int (ei_ (a))), some (.int (ei_ (b))), some (.ref ((sf_ a)))], [.ref ((sf_ a)), .ref 29], m)) rfl ?_
              refine pw_call (As := []) (st := [.ref 29]) (k := (sf_ a)) rfl rfl rfl (sf_sk (by omega)) rfl (Nat.le_of_ble_eq_true rfl) ?_
              refine pw_intro (I := iX5_name) (T := tX5_name) rfl rfl rfl ?_
              refine pw_steps 1 (s' := (1, [some (.ref ((sf_ a)))], [.ref ((sf_ a))], m)) rfl ?_
              refine pw_getE (x := x44) rfl (sf_ok (a := a) (by omega)).2.1 hx44 ?_
              refine pw_iret rfl rfl rfl ?_
              refine pw_call (As := [.int (ei_ (x44))]) (st := []) (k := 29) rfl rfl rfl rfl rfl (Nat.le_of_ble_eq_true rfl) ?_
              refine pw_intro (I := iX0_kindOf) (T := tX0_kindOf) rfl rfl rfl ?_
              refine pw_steps 2 (s' := (2, [some (.ref 29), some (.int (ei_ (x44)))], [.int (ei_ (x44)), .ref 29], m)) rfl ?_
              refine pw_call (As := [.int (ei_ (x44))]) (st := []) (k := 29) rfl rfl rfl rfl rfl (Nat.le_of_ble_eq_true rfl) ?_
              refine pw_intro (I := iX0_has) (T := tX0_has) rfl rfl rfl ?_
              refine pw_steps 1 (s' := (1, [some (.ref 29), some (.int (ei_ (x44)))], [.int (ei_ (x44))], m)) rfl ?_
              refine pw_ifF rfl ⟨rx44, sx44⟩ (show ¬ (x44 < 0) by omega) ?_
              refine pw_steps 2 (s' := (6, [some (.ref 29), some (.int (ei_ (x44)))], [.ref 29, .int (ei_ (x44))], m)) rfl ?_
              refine pw_get rfl rfl (fun x47 (hx47 : x47 = vi_ m 29 2) rx47 sx47 => ?_)
              refine pw_cmpF rfl ⟨rx44, sx44⟩ ⟨rx47, sx47⟩ (show ¬ (x47 ≤ x44) by omega) ?_
              refine pw_steps 2 (s' := (17, [some (.ref 29), some (.int (ei_ (x44)))], [.int (ei_ (1))], m)) rfl ?_
              refine pw_iret rfl rfl rfl ?_
              refine pw_ifF rfl (by decide) (show ¬ (1 = 0) by decide) ?_
              refine pw_steps 3 (s' := (13, [some (.ref 29), some (.int (ei_ (x44)))], [.int (ei_ (x44)), .ref 30], m)) rfl ?_
              refine pw_ild rfl rfl (by omega) (fun x48 (hx48 : x48 = vi_ m 30 x44) rx48 sx48 => ?_)
              have b49 := ha3 x44 (by omega) (by omega)
              refine pw_steps 1 (s' := (18, [some (.ref 29), some (.int (ei_ (x44)))], [.int (ei_ (x48))], m)) rfl ?_
              refine pw_iret rfl rfl rfl ?_
              refine pw_iret rfl rfl rfl ?_
              have h68_ : vi_ m 68 a = x44 := by omega
              refine pw_intro (I := iX9_taken) (T := tX9_taken) rfl rfl rfl ?_
              refine pw_steps 1 (s' := (1, [some (.ref 47), some (.int (ei_ (a))), some (.int (ei_ (b))), none], [.int (ei_ (a))], m)) rfl ?_
              refine pw_callS (As := [.int (ei_ (a))]) (st := []) rfl (by decide) rfl rfl (Nat.le_of_ble_eq_true rfl) ?_
              refine pw_intro (I := iX9_isShelf) (T := tX9_isShelf) rfl rfl rfl ?_
              refine pw_steps 4 (s' := (6, [some (.int (ei_ (a)))], [.long (el_ (5)), .long (el_ (0)), .long ((ei_ (a)).toInt64)], m)) rfl ?_
              refine pw_cv (congrArg (fun z_ : Int64 => ((6, [some (.int (ei_ (a)))], [.long (el_ (5)), .long (el_ (0)), .long z_], m) : am_S)) (el_i2l q0 rfl)) ?_
              refine pw_callS (As := [.long (el_ (a)), .long (el_ (0)), .long (el_ (5))]) (st := []) rfl (by decide) rfl rfl (Nat.le_of_ble_eq_true rfl) ?_
              refine mt_within (by omega) (by omega) (by omega) (fun g50 g51 => ?_) (fun g52 => ?_) (fun g53 => ?_)
              · refine pw_iret rfl rfl rfl ?_
                refine pw_ifF rfl (by decide) (show ¬ (1 = 0) by decide) ?_
                refine pw_steps 4 (s' := (13, [some (.ref 47), some (.int (ei_ (a))), some (.int (ei_ (b))), none], [.long (el_ (7)), .long (el_ (0)), .long ((ei_ (b)).toInt64)], m)) rfl ?_
                refine pw_cv (congrArg (fun z_ : Int64 => ((13, [some (.ref 47), some (.int (ei_ (a))), some (.int (ei_ (b))), none], [.long (el_ (7)), .long (el_ (0)), .long z_], m) : am_S)) (el_i2l q1 rfl)) ?_
                refine pw_callS (As := [.long (el_ (b)), .long (el_ (0)), .long (el_ (7))]) (st := []) rfl (by decide) rfl rfl (Nat.le_of_ble_eq_true rfl) ?_
                refine mt_within (by omega) (by omega) (by omega) (fun g54 g55 => ?_) (fun g56 => ?_) (fun g57 => ?_)
                · refine pw_ifT rfl (by decide) (show ¬ 1 = 0 by decide) ?_
                  refine pw_steps 3 (s' := (26, [some (.ref 47), some (.int (ei_ (a))), some (.int (ei_ (b))), none], [.int (ei_ (a)), .ref 68], m)) rfl ?_
                  refine pw_ild rfl rfl (by omega) (fun x58 (hx58 : x58 = vi_ m 68 a) rx58 sx58 => ?_)
                  replace hx58 : x58 = x44 := hx58.trans h68_
                  subst x58
                  refine pw_ifT rfl ⟨rx44, sx44⟩ (show 0 ≤ x44 by omega) ?_
                  refine pw_steps 3 (s' := (38, [some (.ref 47), some (.int (ei_ (a))), some (.int (ei_ (b))), none], [.int (ei_ (a)), .ref 68], m)) rfl ?_
                  refine pw_ild rfl rfl (by omega) (fun x59 (hx59 : x59 = vi_ m 68 a) rx59 sx59 => ?_)
                  replace hx59 : x59 = x44 := hx59.trans h68_
                  subst x59
                  refine pw_steps 1 (s' := (41, [some (.ref 47), some (.int (ei_ (a))), some (.int (ei_ (b))), none], [.int (ei_ (50)), .int (ei_ (x44))], m)) rfl ?_
                  refine pw_cmpT rfl ⟨rx44, sx44⟩ (by decide) (show x44 < 50 by omega) ?_
                  refine pw_steps 4 (s' := (53, [some (.ref 47), some (.int (ei_ (a))), some (.int (ei_ (b))), none], [.int (ei_ (a)), .ref 68, .ref 47], m)) rfl ?_
                  refine pw_ild rfl rfl (by omega) (fun x60 (hx60 : x60 = vi_ m 68 a) rx60 sx60 => ?_)
                  replace hx60 : x60 = x44 := hx60.trans h68_
                  subst x60
                  refine pw_call (As := [.int (ei_ (x44))]) (st := []) (k := 47) rfl rfl rfl rfl rfl (Nat.le_of_ble_eq_true rfl) ?_
                  refine pw_intro (I := iX9_kindOf) (T := tX9_kindOf) rfl rfl rfl ?_
                  refine pw_steps 3 (s' := (5, [some (.ref 47), some (.int (ei_ (x44)))], [.int (ei_ (x44)), .ref 66], m)) rfl ?_
                  refine pw_ild rfl rfl (by omega) (fun x61 (hx61 : x61 = vi_ m 66 x44) rx61 sx61 => ?_)
                  have b62 := ha3 x44 (by omega) (by omega)
                  refine pw_iret rfl rfl rfl ?_
                  refine pw_steps 1 (s' := (58, [some (.ref 47), some (.int (ei_ (a))), some (.int (ei_ (b))), some (.int (ei_ (x61)))], [], m)) rfl ?_
                  rcases (show x61 = 0 ∨ x61 = 1 ∨ x61 = 2 ∨ x61 = 3 ∨ x61 = 4 ∨ x61 = 5 ∨ x61 = 6 ∨ x61 = 7 by omega) with h63 | h63 | h63 | h63 | h63 | h63 | h63 | h63
                  · rw [h63]
                    refine pw_steps 2 (s' := (60, [some (.ref 47), some (.int (ei_ (a))), some (.int (ei_ (b))), some (.int (ei_ (0)))], [.int (ei_ (b)), .int (ei_ (0))], m)) rfl ?_
                    refine pw_cmp rfl (by decide) q1 (fun (h64 : 0 = b) => ?_) (fun (h64 : ¬ (0 = b)) => ?_)
                    · refine pw_steps 2 (s' := (77, [some (.ref 47), some (.int (ei_ (a))), some (.int (ei_ (b))), some (.int (ei_ (0)))], [.int (ei_ (b)), .int (ei_ (0))], m)) rfl ?_
                      refine pw_cmpF rfl (by decide) q1 (show ¬ (¬ 0 = b) by omega) ?_
                      refine pw_steps 4 (s' := (86, [some (.ref 47), some (.int (ei_ (a))), some (.int (ei_ (b))), some (.int (ei_ (0)))], [.int (ei_ (a)), .ref 68, .ref 47], m)) rfl ?_
                      refine pw_ild rfl rfl (by omega) (fun x65 (hx65 : x65 = vi_ m 68 a) rx65 sx65 => ?_)
                      replace hx65 : x65 = x44 := hx65.trans h68_
                      subst x65
                      refine pw_call (As := [.int (ei_ (x44))]) (st := []) (k := 47) rfl rfl rfl rfl rfl (Nat.le_of_ble_eq_true rfl) ?_
                      refine pw_intro (I := iX9_kindOf) (T := tX9_kindOf) rfl rfl rfl ?_
                      refine pw_steps 3 (s' := (5, [some (.ref 47), some (.int (ei_ (x44)))], [.int (ei_ (x44)), .ref 66], m)) rfl ?_
                      refine pw_ildE (x := x61) rfl rfl (by omega) hx61 ?_
                      refine pw_iret rfl rfl rfl ?_
                      refine pw_steps 1 (s' := (95, [some (.ref 47), some (.int (ei_ (a))), some (.int (ei_ (b))), some (.int (ei_ (0)))], [.int (ei_ (x61))], m)) rfl ?_
                      refine pw_iret rfl rfl rfl ?_
                      have hx_ : (x61 : Int) = x48 := by omega
                      exact ⟨x48, rfl, congrArg (fun z_ : Int => some (Value.int (ei_ z_))) hx_, rR_sm (sm_rfl m) hR⟩
                    · refine pw_steps 1 (s' := (64, [some (.ref 47), some (.int (ei_ (a))), some (.int (ei_ (b))), some (.int (ei_ (0)))], [.int (ei_ (0))], m)) rfl ?_
                      refine pw_ifT rfl (by decide) (show 0 ≤ 0 by decide) ?_
                      refine pw_steps 2 (s' := (77, [some (.ref 47), some (.int (ei_ (a))), some (.int (ei_ (b))), some (.int (ei_ (0)))], [.int (ei_ (b)), .int (ei_ (0))], m)) rfl ?_
                      refine pw_cmpT rfl (by decide) q1 (show ¬ 0 = b by omega) ?_
                      refine pw_steps 1 (s' := (95, [some (.ref 47), some (.int (ei_ (a))), some (.int (ei_ (b))), some (.int (ei_ (0)))], [.int (ei_ ((-12)))], m)) rfl ?_
                      refine pw_iret rfl rfl rfl ?_
                      have hx_ : ((-12) : Int) = x48 := by omega
                      exact ⟨x48, rfl, congrArg (fun z_ : Int => some (Value.int (ei_ z_))) hx_, rR_sm (sm_rfl m) hR⟩
                  · rw [h63]
                    refine pw_steps 2 (s' := (60, [some (.ref 47), some (.int (ei_ (a))), some (.int (ei_ (b))), some (.int (ei_ (1)))], [.int (ei_ (b)), .int (ei_ (1))], m)) rfl ?_
                    refine pw_cmp rfl (by decide) q1 (fun (h66 : 1 = b) => ?_) (fun (h66 : ¬ (1 = b)) => ?_)
                    · refine pw_steps 2 (s' := (77, [some (.ref 47), some (.int (ei_ (a))), some (.int (ei_ (b))), some (.int (ei_ (1)))], [.int (ei_ (b)), .int (ei_ (1))], m)) rfl ?_
                      refine pw_cmpF rfl (by decide) q1 (show ¬ (¬ 1 = b) by omega) ?_
                      refine pw_steps 4 (s' := (86, [some (.ref 47), some (.int (ei_ (a))), some (.int (ei_ (b))), some (.int (ei_ (1)))], [.int (ei_ (a)), .ref 68, .ref 47], m)) rfl ?_
                      refine pw_ild rfl rfl (by omega) (fun x67 (hx67 : x67 = vi_ m 68 a) rx67 sx67 => ?_)
                      replace hx67 : x67 = x44 := hx67.trans h68_
                      subst x67
                      refine pw_call (As := [.int (ei_ (x44))]) (st := []) (k := 47) rfl rfl rfl rfl rfl (Nat.le_of_ble_eq_true rfl) ?_
                      refine pw_intro (I := iX9_kindOf) (T := tX9_kindOf) rfl rfl rfl ?_
                      refine pw_steps 3 (s' := (5, [some (.ref 47), some (.int (ei_ (x44)))], [.int (ei_ (x44)), .ref 66], m)) rfl ?_
                      refine pw_ildE (x := x61) rfl rfl (by omega) hx61 ?_
                      refine pw_iret rfl rfl rfl ?_
                      refine pw_steps 1 (s' := (95, [some (.ref 47), some (.int (ei_ (a))), some (.int (ei_ (b))), some (.int (ei_ (1)))], [.int (ei_ (x61))], m)) rfl ?_
                      refine pw_iret rfl rfl rfl ?_
                      have hx_ : (x61 : Int) = x48 := by omega
                      exact ⟨x48, rfl, congrArg (fun z_ : Int => some (Value.int (ei_ z_))) hx_, rR_sm (sm_rfl m) hR⟩
                    · refine pw_steps 1 (s' := (64, [some (.ref 47), some (.int (ei_ (a))), some (.int (ei_ (b))), some (.int (ei_ (1)))], [.int (ei_ (1))], m)) rfl ?_
                      refine pw_ifF rfl (by decide) (show ¬ (1 ≤ 0) by decide) ?_
                      refine pw_steps 1 (s' := (68, [some (.ref 47), some (.int (ei_ (a))), some (.int (ei_ (b))), some (.int (ei_ (1)))], [.int (ei_ (1))], m)) rfl ?_
                      refine pw_callS (As := [.int (ei_ (1))]) (st := []) rfl (by decide) rfl rfl (Nat.le_of_ble_eq_true rfl) ?_
                      refine pw_intro (I := iX9_above) (T := tX9_above) rfl rfl rfl ?_
                      refine pw_steps 2 (s' := (2, [some (.int (ei_ (1)))], [.int (ei_ (3)), .int (ei_ (1))], m)) rfl ?_
                      refine pw_cmpT rfl (by decide) (by decide) (show ¬ 1 = 3 by decide) ?_
                      refine pw_steps 2 (s' := (11, [some (.int (ei_ (1)))], [.int (ei_ (4)), .int (ei_ (1))], m)) rfl ?_
                      refine pw_cmpT rfl (by decide) (by decide) (show ¬ 1 = 4 by decide) ?_
                      refine pw_steps 2 (s' := (20, [some (.int (ei_ (1)))], [.int (ei_ (5)), .int (ei_ (1))], m)) rfl ?_
                      refine pw_cmpT rfl (by decide) (by decide) (show ¬ 1 = 5 by decide) ?_
                      refine pw_steps 2 (s' := (30, [some (.int (ei_ (1)))], [.int (ei_ (7)), .int (ei_ (1))], m)) rfl ?_
                      refine pw_cmpT rfl (by decide) (by decide) (show ¬ 1 = 7 by decide) ?_
                      refine pw_steps 1 (s' := (38, [some (.int (ei_ (1)))], [.int (ei_ (0))], m)) rfl ?_
                      refine pw_iret rfl rfl rfl ?_
                      refine pw_steps 4 (s' := (60, [some (.ref 47), some (.int (ei_ (a))), some (.int (ei_ (b))), some (.int (ei_ (0)))], [.int (ei_ (b)), .int (ei_ (0))], m)) rfl ?_
                      refine pw_cmp rfl (by decide) q1 (fun (h68 : 0 = b) => ?_) (fun (h68 : ¬ (0 = b)) => ?_)
                      · refine pw_steps 2 (s' := (77, [some (.ref 47), some (.int (ei_ (a))), some (.int (ei_ (b))), some (.int (ei_ (0)))], [.int (ei_ (b)), .int (ei_ (0))], m)) rfl ?_
                        refine pw_cmpF rfl (by decide) q1 (show ¬ (¬ 0 = b) by omega) ?_
                        refine pw_steps 4 (s' := (86, [some (.ref 47), some (.int (ei_ (a))), some (.int (ei_ (b))), some (.int (ei_ (0)))], [.int (ei_ (a)), .ref 68, .ref 47], m)) rfl ?_
                        refine pw_ild rfl rfl (by omega) (fun x69 (hx69 : x69 = vi_ m 68 a) rx69 sx69 => ?_)
                        replace hx69 : x69 = x44 := hx69.trans h68_
                        subst x69
                        refine pw_call (As := [.int (ei_ (x44))]) (st := []) (k := 47) rfl rfl rfl rfl rfl (Nat.le_of_ble_eq_true rfl) ?_
                        refine pw_intro (I := iX9_kindOf) (T := tX9_kindOf) rfl rfl rfl ?_
                        refine pw_steps 3 (s' := (5, [some (.ref 47), some (.int (ei_ (x44)))], [.int (ei_ (x44)), .ref 66], m)) rfl ?_
                        refine pw_ildE (x := x61) rfl rfl (by omega) hx61 ?_
                        refine pw_iret rfl rfl rfl ?_
                        refine pw_steps 1 (s' := (95, [some (.ref 47), some (.int (ei_ (a))), some (.int (ei_ (b))), some (.int (ei_ (0)))], [.int (ei_ (x61))], m)) rfl ?_
                        refine pw_iret rfl rfl rfl ?_
                        have hx_ : (x61 : Int) = x48 := by omega
                        exact ⟨x48, rfl, congrArg (fun z_ : Int => some (Value.int (ei_ z_))) hx_, rR_sm (sm_rfl m) hR⟩
                      · refine pw_steps 1 (s' := (64, [some (.ref 47), some (.int (ei_ (a))), some (.int (ei_ (b))), some (.int (ei_ (0)))], [.int (ei_ (0))], m)) rfl ?_
                        refine pw_ifT rfl (by decide) (show 0 ≤ 0 by decide) ?_
                        refine pw_steps 2 (s' := (77, [some (.ref 47), some (.int (ei_ (a))), some (.int (ei_ (b))), some (.int (ei_ (0)))], [.int (ei_ (b)), .int (ei_ (0))], m)) rfl ?_
                        refine pw_cmpT rfl (by decide) q1 (show ¬ 0 = b by omega) ?_
                        refine pw_steps 1 (s' := (95, [some (.ref 47), some (.int (ei_ (a))), some (.int (ei_ (b))), some (.int (ei_ (0)))], [.int (ei_ ((-12)))], m)) rfl ?_
                        refine pw_iret rfl rfl rfl ?_
                        have hx_ : ((-12) : Int) = x48 := by omega
                        exact ⟨x48, rfl, congrArg (fun z_ : Int => some (Value.int (ei_ z_))) hx_, rR_sm (sm_rfl m) hR⟩
                  · rw [h63]
                    refine pw_steps 2 (s' := (60, [some (.ref 47), some (.int (ei_ (a))), some (.int (ei_ (b))), some (.int (ei_ (2)))], [.int (ei_ (b)), .int (ei_ (2))], m)) rfl ?_
                    refine pw_cmp rfl (by decide) q1 (fun (h70 : 2 = b) => ?_) (fun (h70 : ¬ (2 = b)) => ?_)
                    · refine pw_steps 2 (s' := (77, [some (.ref 47), some (.int (ei_ (a))), some (.int (ei_ (b))), some (.int (ei_ (2)))], [.int (ei_ (b)), .int (ei_ (2))], m)) rfl ?_
                      refine pw_cmpF rfl (by decide) q1 (show ¬ (¬ 2 = b) by omega) ?_
                      refine pw_steps 4 (s' := (86, [some (.ref 47), some (.int (ei_ (a))), some (.int (ei_ (b))), some (.int (ei_ (2)))], [.int (ei_ (a)), .ref 68, .ref 47], m)) rfl ?_
                      refine pw_ild rfl rfl (by omega) (fun x71 (hx71 : x71 = vi_ m 68 a) rx71 sx71 => ?_)
                      replace hx71 : x71 = x44 := hx71.trans h68_
                      subst x71
                      refine pw_call (As := [.int (ei_ (x44))]) (st := []) (k := 47) rfl rfl rfl rfl rfl (Nat.le_of_ble_eq_true rfl) ?_
                      refine pw_intro (I := iX9_kindOf) (T := tX9_kindOf) rfl rfl rfl ?_
                      refine pw_steps 3 (s' := (5, [some (.ref 47), some (.int (ei_ (x44)))], [.int (ei_ (x44)), .ref 66], m)) rfl ?_
                      refine pw_ildE (x := x61) rfl rfl (by omega) hx61 ?_
                      refine pw_iret rfl rfl rfl ?_
                      refine pw_steps 1 (s' := (95, [some (.ref 47), some (.int (ei_ (a))), some (.int (ei_ (b))), some (.int (ei_ (2)))], [.int (ei_ (x61))], m)) rfl ?_
                      refine pw_iret rfl rfl rfl ?_
                      have hx_ : (x61 : Int) = x48 := by omega
                      exact ⟨x48, rfl, congrArg (fun z_ : Int => some (Value.int (ei_ z_))) hx_, rR_sm (sm_rfl m) hR⟩
                    · refine pw_steps 1 (s' := (64, [some (.ref 47), some (.int (ei_ (a))), some (.int (ei_ (b))), some (.int (ei_ (2)))], [.int (ei_ (2))], m)) rfl ?_
                      refine pw_ifF rfl (by decide) (show ¬ (2 ≤ 0) by decide) ?_
                      refine pw_steps 1 (s' := (68, [some (.ref 47), some (.int (ei_ (a))), some (.int (ei_ (b))), some (.int (ei_ (2)))], [.int (ei_ (2))], m)) rfl ?_
                      refine pw_callS (As := [.int (ei_ (2))]) (st := []) rfl (by decide) rfl rfl (Nat.le_of_ble_eq_true rfl) ?_
                      refine pw_intro (I := iX9_above) (T := tX9_above) rfl rfl rfl ?_
                      refine pw_steps 2 (s' := (2, [some (.int (ei_ (2)))], [.int (ei_ (3)), .int (ei_ (2))], m)) rfl ?_
                      refine pw_cmpT rfl (by decide) (by decide) (show ¬ 2 = 3 by decide) ?_
                      refine pw_steps 2 (s' := (11, [some (.int (ei_ (2)))], [.int (ei_ (4)), .int (ei_ (2))], m)) rfl ?_
                      refine pw_cmpT rfl (by decide) (by decide) (show ¬ 2 = 4 by decide) ?_
                      refine pw_steps 2 (s' := (20, [some (.int (ei_ (2)))], [.int (ei_ (5)), .int (ei_ (2))], m)) rfl ?_
                      refine pw_cmpT rfl (by decide) (by decide) (show ¬ 2 = 5 by decide) ?_
                      refine pw_steps 2 (s' := (30, [some (.int (ei_ (2)))], [.int (ei_ (7)), .int (ei_ (2))], m)) rfl ?_
                      refine pw_cmpT rfl (by decide) (by decide) (show ¬ 2 = 7 by decide) ?_
                      refine pw_steps 1 (s' := (38, [some (.int (ei_ (2)))], [.int (ei_ (0))], m)) rfl ?_
                      refine pw_iret rfl rfl rfl ?_
                      refine pw_steps 4 (s' := (60, [some (.ref 47), some (.int (ei_ (a))), some (.int (ei_ (b))), some (.int (ei_ (0)))], [.int (ei_ (b)), .int (ei_ (0))], m)) rfl ?_
                      refine pw_cmp rfl (by decide) q1 (fun (h72 : 0 = b) => ?_) (fun (h72 : ¬ (0 = b)) => ?_)
                      · refine pw_steps 2 (s' := (77, [some (.ref 47), some (.int (ei_ (a))), some (.int (ei_ (b))), some (.int (ei_ (0)))], [.int (ei_ (b)), .int (ei_ (0))], m)) rfl ?_
                        refine pw_cmpF rfl (by decide) q1 (show ¬ (¬ 0 = b) by omega) ?_
                        refine pw_steps 4 (s' := (86, [some (.ref 47), some (.int (ei_ (a))), some (.int (ei_ (b))), some (.int (ei_ (0)))], [.int (ei_ (a)), .ref 68, .ref 47], m)) rfl ?_
                        refine pw_ild rfl rfl (by omega) (fun x73 (hx73 : x73 = vi_ m 68 a) rx73 sx73 => ?_)
                        replace hx73 : x73 = x44 := hx73.trans h68_
                        subst x73
                        refine pw_call (As := [.int (ei_ (x44))]) (st := []) (k := 47) rfl rfl rfl rfl rfl (Nat.le_of_ble_eq_true rfl) ?_
                        refine pw_intro (I := iX9_kindOf) (T := tX9_kindOf) rfl rfl rfl ?_
                        refine pw_steps 3 (s' := (5, [some (.ref 47), some (.int (ei_ (x44)))], [.int (ei_ (x44)), .ref 66], m)) rfl ?_
                        refine pw_ildE (x := x61) rfl rfl (by omega) hx61 ?_
                        refine pw_iret rfl rfl rfl ?_
                        refine pw_steps 1 (s' := (95, [some (.ref 47), some (.int (ei_ (a))), some (.int (ei_ (b))), some (.int (ei_ (0)))], [.int (ei_ (x61))], m)) rfl ?_
                        refine pw_iret rfl rfl rfl ?_
                        have hx_ : (x61 : Int) = x48 := by omega
                        exact ⟨x48, rfl, congrArg (fun z_ : Int => some (Value.int (ei_ z_))) hx_, rR_sm (sm_rfl m) hR⟩
                      · refine pw_steps 1 (s' := (64, [some (.ref 47), some (.int (ei_ (a))), some (.int (ei_ (b))), some (.int (ei_ (0)))], [.int (ei_ (0))], m)) rfl ?_
                        refine pw_ifT rfl (by decide) (show 0 ≤ 0 by decide) ?_
                        refine pw_steps 2 (s' := (77, [some (.ref 47), some (.int (ei_ (a))), some (.int (ei_ (b))), some (.int (ei_ (0)))], [.int (ei_ (b)), .int (ei_ (0))], m)) rfl ?_
                        refine pw_cmpT rfl (by decide) q1 (show ¬ 0 = b by omega) ?_
                        refine pw_steps 1 (s' := (95, [some (.ref 47), some (.int (ei_ (a))), some (.int (ei_ (b))), some (.int (ei_ (0)))], [.int (ei_ ((-12)))], m)) rfl ?_
                        refine pw_iret rfl rfl rfl ?_
                        have hx_ : ((-12) : Int) = x48 := by omega
                        exact ⟨x48, rfl, congrArg (fun z_ : Int => some (Value.int (ei_ z_))) hx_, rR_sm (sm_rfl m) hR⟩
                  · rw [h63]
                    refine pw_steps 2 (s' := (60, [some (.ref 47), some (.int (ei_ (a))), some (.int (ei_ (b))), some (.int (ei_ (3)))], [.int (ei_ (b)), .int (ei_ (3))], m)) rfl ?_
                    refine pw_cmp rfl (by decide) q1 (fun (h74 : 3 = b) => ?_) (fun (h74 : ¬ (3 = b)) => ?_)
                    · refine pw_steps 2 (s' := (77, [some (.ref 47), some (.int (ei_ (a))), some (.int (ei_ (b))), some (.int (ei_ (3)))], [.int (ei_ (b)), .int (ei_ (3))], m)) rfl ?_
                      refine pw_cmpF rfl (by decide) q1 (show ¬ (¬ 3 = b) by omega) ?_
                      refine pw_steps 4 (s' := (86, [some (.ref 47), some (.int (ei_ (a))), some (.int (ei_ (b))), some (.int (ei_ (3)))], [.int (ei_ (a)), .ref 68, .ref 47], m)) rfl ?_
                      refine pw_ild rfl rfl (by omega) (fun x75 (hx75 : x75 = vi_ m 68 a) rx75 sx75 => ?_)
                      replace hx75 : x75 = x44 := hx75.trans h68_
                      subst x75
                      refine pw_call (As := [.int (ei_ (x44))]) (st := []) (k := 47) rfl rfl rfl rfl rfl (Nat.le_of_ble_eq_true rfl) ?_
                      refine pw_intro (I := iX9_kindOf) (T := tX9_kindOf) rfl rfl rfl ?_
                      refine pw_steps 3 (s' := (5, [some (.ref 47), some (.int (ei_ (x44)))], [.int (ei_ (x44)), .ref 66], m)) rfl ?_
                      refine pw_ildE (x := x61) rfl rfl (by omega) hx61 ?_
                      refine pw_iret rfl rfl rfl ?_
                      refine pw_steps 1 (s' := (95, [some (.ref 47), some (.int (ei_ (a))), some (.int (ei_ (b))), some (.int (ei_ (3)))], [.int (ei_ (x61))], m)) rfl ?_
                      refine pw_iret rfl rfl rfl ?_
                      have hx_ : (x61 : Int) = x48 := by omega
                      exact ⟨x48, rfl, congrArg (fun z_ : Int => some (Value.int (ei_ z_))) hx_, rR_sm (sm_rfl m) hR⟩
                    · refine pw_steps 1 (s' := (64, [some (.ref 47), some (.int (ei_ (a))), some (.int (ei_ (b))), some (.int (ei_ (3)))], [.int (ei_ (3))], m)) rfl ?_
                      refine pw_ifF rfl (by decide) (show ¬ (3 ≤ 0) by decide) ?_
                      refine pw_steps 1 (s' := (68, [some (.ref 47), some (.int (ei_ (a))), some (.int (ei_ (b))), some (.int (ei_ (3)))], [.int (ei_ (3))], m)) rfl ?_
                      refine pw_callS (As := [.int (ei_ (3))]) (st := []) rfl (by decide) rfl rfl (Nat.le_of_ble_eq_true rfl) ?_
                      refine pw_intro (I := iX9_above) (T := tX9_above) rfl rfl rfl ?_
                      refine pw_steps 2 (s' := (2, [some (.int (ei_ (3)))], [.int (ei_ (3)), .int (ei_ (3))], m)) rfl ?_
                      refine pw_cmpF rfl (by decide) (by decide) (show ¬ (¬ 3 = 3) by decide) ?_
                      refine pw_steps 2 (s' := (38, [some (.int (ei_ (3)))], [.int (ei_ (2))], m)) rfl ?_
                      refine pw_iret rfl rfl rfl ?_
                      refine pw_steps 4 (s' := (60, [some (.ref 47), some (.int (ei_ (a))), some (.int (ei_ (b))), some (.int (ei_ (2)))], [.int (ei_ (b)), .int (ei_ (2))], m)) rfl ?_
                      refine pw_cmp rfl (by decide) q1 (fun (h76 : 2 = b) => ?_) (fun (h76 : ¬ (2 = b)) => ?_)
                      · refine pw_steps 2 (s' := (77, [some (.ref 47), some (.int (ei_ (a))), some (.int (ei_ (b))), some (.int (ei_ (2)))], [.int (ei_ (b)), .int (ei_ (2))], m)) rfl ?_
                        refine pw_cmpF rfl (by decide) q1 (show ¬ (¬ 2 = b) by omega) ?_
                        refine pw_steps 4 (s' := (86, [some (.ref 47), some (.int (ei_ (a))), some (.int (ei_ (b))), some (.int (ei_ (2)))], [.int (ei_ (a)), .ref 68, .ref 47], m)) rfl ?_
                        refine pw_ild rfl rfl (by omega) (fun x77 (hx77 : x77 = vi_ m 68 a) rx77 sx77 => ?_)
                        replace hx77 : x77 = x44 := hx77.trans h68_
                        subst x77
                        refine pw_call (As := [.int (ei_ (x44))]) (st := []) (k := 47) rfl rfl rfl rfl rfl (Nat.le_of_ble_eq_true rfl) ?_
                        refine pw_intro (I := iX9_kindOf) (T := tX9_kindOf) rfl rfl rfl ?_
                        refine pw_steps 3 (s' := (5, [some (.ref 47), some (.int (ei_ (x44)))], [.int (ei_ (x44)), .ref 66], m)) rfl ?_
                        refine pw_ildE (x := x61) rfl rfl (by omega) hx61 ?_
                        refine pw_iret rfl rfl rfl ?_
                        refine pw_steps 1 (s' := (95, [some (.ref 47), some (.int (ei_ (a))), some (.int (ei_ (b))), some (.int (ei_ (2)))], [.int (ei_ (x61))], m)) rfl ?_
                        refine pw_iret rfl rfl rfl ?_
                        have hx_ : (x61 : Int) = x48 := by omega
                        exact ⟨x48, rfl, congrArg (fun z_ : Int => some (Value.int (ei_ z_))) hx_, rR_sm (sm_rfl m) hR⟩
                      · refine pw_steps 1 (s' := (64, [some (.ref 47), some (.int (ei_ (a))), some (.int (ei_ (b))), some (.int (ei_ (2)))], [.int (ei_ (2))], m)) rfl ?_
                        refine pw_ifF rfl (by decide) (show ¬ (2 ≤ 0) by decide) ?_
                        refine pw_steps 1 (s' := (68, [some (.ref 47), some (.int (ei_ (a))), some (.int (ei_ (b))), some (.int (ei_ (2)))], [.int (ei_ (2))], m)) rfl ?_
                        refine pw_callS (As := [.int (ei_ (2))]) (st := []) rfl (by decide) rfl rfl (Nat.le_of_ble_eq_true rfl) ?_
                        refine pw_intro (I := iX9_above) (T := tX9_above) rfl rfl rfl ?_
                        refine pw_steps 2 (s' := (2, [some (.int (ei_ (2)))], [.int (ei_ (3)), .int (ei_ (2))], m)) rfl ?_
                        refine pw_cmpT rfl (by decide) (by decide) (show ¬ 2 = 3 by decide) ?_
                        refine pw_steps 2 (s' := (11, [some (.int (ei_ (2)))], [.int (ei_ (4)), .int (ei_ (2))], m)) rfl ?_
                        refine pw_cmpT rfl (by decide) (by decide) (show ¬ 2 = 4 by decide) ?_
                        refine pw_steps 2 (s' := (20, [some (.int (ei_ (2)))], [.int (ei_ (5)), .int (ei_ (2))], m)) rfl ?_
                        refine pw_cmpT rfl (by decide) (by decide) (show ¬ 2 = 5 by decide) ?_
                        refine pw_steps 2 (s' := (30, [some (.int (ei_ (2)))], [.int (ei_ (7)), .int (ei_ (2))], m)) rfl ?_
                        refine pw_cmpT rfl (by decide) (by decide) (show ¬ 2 = 7 by decide) ?_
                        refine pw_steps 1 (s' := (38, [some (.int (ei_ (2)))], [.int (ei_ (0))], m)) rfl ?_
                        refine pw_iret rfl rfl rfl ?_
                        refine pw_steps 4 (s' := (60, [some (.ref 47), some (.int (ei_ (a))), some (.int (ei_ (b))), some (.int (ei_ (0)))], [.int (ei_ (b)), .int (ei_ (0))], m)) rfl ?_
                        refine pw_cmp rfl (by decide) q1 (fun (h78 : 0 = b) => ?_) (fun (h78 : ¬ (0 = b)) => ?_)
                        · refine pw_steps 2 (s' := (77, [some (.ref 47), some (.int (ei_ (a))), some (.int (ei_ (b))), some (.int (ei_ (0)))], [.int (ei_ (b)), .int (ei_ (0))], m)) rfl ?_
                          refine pw_cmpF rfl (by decide) q1 (show ¬ (¬ 0 = b) by omega) ?_
                          refine pw_steps 4 (s' := (86, [some (.ref 47), some (.int (ei_ (a))), some (.int (ei_ (b))), some (.int (ei_ (0)))], [.int (ei_ (a)), .ref 68, .ref 47], m)) rfl ?_
                          refine pw_ild rfl rfl (by omega) (fun x79 (hx79 : x79 = vi_ m 68 a) rx79 sx79 => ?_)
                          replace hx79 : x79 = x44 := hx79.trans h68_
                          subst x79
                          refine pw_call (As := [.int (ei_ (x44))]) (st := []) (k := 47) rfl rfl rfl rfl rfl (Nat.le_of_ble_eq_true rfl) ?_
                          refine pw_intro (I := iX9_kindOf) (T := tX9_kindOf) rfl rfl rfl ?_
                          refine pw_steps 3 (s' := (5, [some (.ref 47), some (.int (ei_ (x44)))], [.int (ei_ (x44)), .ref 66], m)) rfl ?_
                          refine pw_ildE (x := x61) rfl rfl (by omega) hx61 ?_
                          refine pw_iret rfl rfl rfl ?_
                          refine pw_steps 1 (s' := (95, [some (.ref 47), some (.int (ei_ (a))), some (.int (ei_ (b))), some (.int (ei_ (0)))], [.int (ei_ (x61))], m)) rfl ?_
                          refine pw_iret rfl rfl rfl ?_
                          have hx_ : (x61 : Int) = x48 := by omega
                          exact ⟨x48, rfl, congrArg (fun z_ : Int => some (Value.int (ei_ z_))) hx_, rR_sm (sm_rfl m) hR⟩
                        · refine pw_steps 1 (s' := (64, [some (.ref 47), some (.int (ei_ (a))), some (.int (ei_ (b))), some (.int (ei_ (0)))], [.int (ei_ (0))], m)) rfl ?_
                          refine pw_ifT rfl (by decide) (show 0 ≤ 0 by decide) ?_
                          refine pw_steps 2 (s' := (77, [some (.ref 47), some (.int (ei_ (a))), some (.int (ei_ (b))), some (.int (ei_ (0)))], [.int (ei_ (b)), .int (ei_ (0))], m)) rfl ?_
                          refine pw_cmpT rfl (by decide) q1 (show ¬ 0 = b by omega) ?_
                          refine pw_steps 1 (s' := (95, [some (.ref 47), some (.int (ei_ (a))), some (.int (ei_ (b))), some (.int (ei_ (0)))], [.int (ei_ ((-12)))], m)) rfl ?_
                          refine pw_iret rfl rfl rfl ?_
                          have hx_ : ((-12) : Int) = x48 := by omega
                          exact ⟨x48, rfl, congrArg (fun z_ : Int => some (Value.int (ei_ z_))) hx_, rR_sm (sm_rfl m) hR⟩
                  · rw [h63]
                    refine pw_steps 2 (s' := (60, [some (.ref 47), some (.int (ei_ (a))), some (.int (ei_ (b))), some (.int (ei_ (4)))], [.int (ei_ (b)), .int (ei_ (4))], m)) rfl ?_
                    refine pw_cmp rfl (by decide) q1 (fun (h80 : 4 = b) => ?_) (fun (h80 : ¬ (4 = b)) => ?_)
                    · refine pw_steps 2 (s' := (77, [some (.ref 47), some (.int (ei_ (a))), some (.int (ei_ (b))), some (.int (ei_ (4)))], [.int (ei_ (b)), .int (ei_ (4))], m)) rfl ?_
                      refine pw_cmpF rfl (by decide) q1 (show ¬ (¬ 4 = b) by omega) ?_
                      refine pw_steps 4 (s' := (86, [some (.ref 47), some (.int (ei_ (a))), some (.int (ei_ (b))), some (.int (ei_ (4)))], [.int (ei_ (a)), .ref 68, .ref 47], m)) rfl ?_
                      refine pw_ild rfl rfl (by omega) (fun x81 (hx81 : x81 = vi_ m 68 a) rx81 sx81 => ?_)
                      replace hx81 : x81 = x44 := hx81.trans h68_
                      subst x81
                      refine pw_call (As := [.int (ei_ (x44))]) (st := []) (k := 47) rfl rfl rfl rfl rfl (Nat.le_of_ble_eq_true rfl) ?_
                      refine pw_intro (I := iX9_kindOf) (T := tX9_kindOf) rfl rfl rfl ?_
                      refine pw_steps 3 (s' := (5, [some (.ref 47), some (.int (ei_ (x44)))], [.int (ei_ (x44)), .ref 66], m)) rfl ?_
                      refine pw_ildE (x := x61) rfl rfl (by omega) hx61 ?_
                      refine pw_iret rfl rfl rfl ?_
                      refine pw_steps 1 (s' := (95, [some (.ref 47), some (.int (ei_ (a))), some (.int (ei_ (b))), some (.int (ei_ (4)))], [.int (ei_ (x61))], m)) rfl ?_
                      refine pw_iret rfl rfl rfl ?_
                      have hx_ : (x61 : Int) = x48 := by omega
                      exact ⟨x48, rfl, congrArg (fun z_ : Int => some (Value.int (ei_ z_))) hx_, rR_sm (sm_rfl m) hR⟩
                    · refine pw_steps 1 (s' := (64, [some (.ref 47), some (.int (ei_ (a))), some (.int (ei_ (b))), some (.int (ei_ (4)))], [.int (ei_ (4))], m)) rfl ?_
                      refine pw_ifF rfl (by decide) (show ¬ (4 ≤ 0) by decide) ?_
                      refine pw_steps 1 (s' := (68, [some (.ref 47), some (.int (ei_ (a))), some (.int (ei_ (b))), some (.int (ei_ (4)))], [.int (ei_ (4))], m)) rfl ?_
                      refine pw_callS (As := [.int (ei_ (4))]) (st := []) rfl (by decide) rfl rfl (Nat.le_of_ble_eq_true rfl) ?_
                      refine pw_intro (I := iX9_above) (T := tX9_above) rfl rfl rfl ?_
                      refine pw_steps 2 (s' := (2, [some (.int (ei_ (4)))], [.int (ei_ (3)), .int (ei_ (4))], m)) rfl ?_
                      refine pw_cmpT rfl (by decide) (by decide) (show ¬ 4 = 3 by decide) ?_
                      refine pw_steps 2 (s' := (11, [some (.int (ei_ (4)))], [.int (ei_ (4)), .int (ei_ (4))], m)) rfl ?_
                      refine pw_cmpF rfl (by decide) (by decide) (show ¬ (¬ 4 = 4) by decide) ?_
                      refine pw_steps 2 (s' := (38, [some (.int (ei_ (4)))], [.int (ei_ (1))], m)) rfl ?_
                      refine pw_iret rfl rfl rfl ?_
                      refine pw_steps 4 (s' := (60, [some (.ref 47), some (.int (ei_ (a))), some (.int (ei_ (b))), some (.int (ei_ (1)))], [.int (ei_ (b)), .int (ei_ (1))], m)) rfl ?_
                      refine pw_cmp rfl (by decide) q1 (fun (h82 : 1 = b) => ?_) (fun (h82 : ¬ (1 = b)) => ?_)
                      · refine pw_steps 2 (s' := (77, [some (.ref 47), some (.int (ei_ (a))), some (.int (ei_ (b))), some (.int (ei_ (1)))], [.int (ei_ (b)), .int (ei_ (1))], m)) rfl ?_
                        refine pw_cmpF rfl (by decide) q1 (show ¬ (¬ 1 = b) by omega) ?_
                        refine pw_steps 4 (s' := (86, [some (.ref 47), some (.int (ei_ (a))), some (.int (ei_ (b))), some (.int (ei_ (1)))], [.int (ei_ (a)), .ref 68, .ref 47], m)) rfl ?_
                        refine pw_ild rfl rfl (by omega) (fun x83 (hx83 : x83 = vi_ m 68 a) rx83 sx83 => ?_)
                        replace hx83 : x83 = x44 := hx83.trans h68_
                        subst x83
                        refine pw_call (As := [.int (ei_ (x44))]) (st := []) (k := 47) rfl rfl rfl rfl rfl (Nat.le_of_ble_eq_true rfl) ?_
                        refine pw_intro (I := iX9_kindOf) (T := tX9_kindOf) rfl rfl rfl ?_
                        refine pw_steps 3 (s' := (5, [some (.ref 47), some (.int (ei_ (x44)))], [.int (ei_ (x44)), .ref 66], m)) rfl ?_
                        refine pw_ildE (x := x61) rfl rfl (by omega) hx61 ?_
                        refine pw_iret rfl rfl rfl ?_
                        refine pw_steps 1 (s' := (95, [some (.ref 47), some (.int (ei_ (a))), some (.int (ei_ (b))), some (.int (ei_ (1)))], [.int (ei_ (x61))], m)) rfl ?_
                        refine pw_iret rfl rfl rfl ?_
                        have hx_ : (x61 : Int) = x48 := by omega
                        exact ⟨x48, rfl, congrArg (fun z_ : Int => some (Value.int (ei_ z_))) hx_, rR_sm (sm_rfl m) hR⟩
                      · refine pw_steps 1 (s' := (64, [some (.ref 47), some (.int (ei_ (a))), some (.int (ei_ (b))), some (.int (ei_ (1)))], [.int (ei_ (1))], m)) rfl ?_
                        refine pw_ifF rfl (by decide) (show ¬ (1 ≤ 0) by decide) ?_
                        refine pw_steps 1 (s' := (68, [some (.ref 47), some (.int (ei_ (a))), some (.int (ei_ (b))), some (.int (ei_ (1)))], [.int (ei_ (1))], m)) rfl ?_
                        refine pw_callS (As := [.int (ei_ (1))]) (st := []) rfl (by decide) rfl rfl (Nat.le_of_ble_eq_true rfl) ?_
                        refine pw_intro (I := iX9_above) (T := tX9_above) rfl rfl rfl ?_
                        refine pw_steps 2 (s' := (2, [some (.int (ei_ (1)))], [.int (ei_ (3)), .int (ei_ (1))], m)) rfl ?_
                        refine pw_cmpT rfl (by decide) (by decide) (show ¬ 1 = 3 by decide) ?_
                        refine pw_steps 2 (s' := (11, [some (.int (ei_ (1)))], [.int (ei_ (4)), .int (ei_ (1))], m)) rfl ?_
                        refine pw_cmpT rfl (by decide) (by decide) (show ¬ 1 = 4 by decide) ?_
                        refine pw_steps 2 (s' := (20, [some (.int (ei_ (1)))], [.int (ei_ (5)), .int (ei_ (1))], m)) rfl ?_
                        refine pw_cmpT rfl (by decide) (by decide) (show ¬ 1 = 5 by decide) ?_
                        refine pw_steps 2 (s' := (30, [some (.int (ei_ (1)))], [.int (ei_ (7)), .int (ei_ (1))], m)) rfl ?_
                        refine pw_cmpT rfl (by decide) (by decide) (show ¬ 1 = 7 by decide) ?_
                        refine pw_steps 1 (s' := (38, [some (.int (ei_ (1)))], [.int (ei_ (0))], m)) rfl ?_
                        refine pw_iret rfl rfl rfl ?_
                        refine pw_steps 4 (s' := (60, [some (.ref 47), some (.int (ei_ (a))), some (.int (ei_ (b))), some (.int (ei_ (0)))], [.int (ei_ (b)), .int (ei_ (0))], m)) rfl ?_
                        refine pw_cmp rfl (by decide) q1 (fun (h84 : 0 = b) => ?_) (fun (h84 : ¬ (0 = b)) => ?_)
                        · refine pw_steps 2 (s' := (77, [some (.ref 47), some (.int (ei_ (a))), some (.int (ei_ (b))), some (.int (ei_ (0)))], [.int (ei_ (b)), .int (ei_ (0))], m)) rfl ?_
                          refine pw_cmpF rfl (by decide) q1 (show ¬ (¬ 0 = b) by omega) ?_
                          refine pw_steps 4 (s' := (86, [some (.ref 47), some (.int (ei_ (a))), some (.int (ei_ (b))), some (.int (ei_ (0)))], [.int (ei_ (a)), .ref 68, .ref 47], m)) rfl ?_
                          refine pw_ild rfl rfl (by omega) (fun x85 (hx85 : x85 = vi_ m 68 a) rx85 sx85 => ?_)
                          replace hx85 : x85 = x44 := hx85.trans h68_
                          subst x85
                          refine pw_call (As := [.int (ei_ (x44))]) (st := []) (k := 47) rfl rfl rfl rfl rfl (Nat.le_of_ble_eq_true rfl) ?_
                          refine pw_intro (I := iX9_kindOf) (T := tX9_kindOf) rfl rfl rfl ?_
                          refine pw_steps 3 (s' := (5, [some (.ref 47), some (.int (ei_ (x44)))], [.int (ei_ (x44)), .ref 66], m)) rfl ?_
                          refine pw_ildE (x := x61) rfl rfl (by omega) hx61 ?_
                          refine pw_iret rfl rfl rfl ?_
                          refine pw_steps 1 (s' := (95, [some (.ref 47), some (.int (ei_ (a))), some (.int (ei_ (b))), some (.int (ei_ (0)))], [.int (ei_ (x61))], m)) rfl ?_
                          refine pw_iret rfl rfl rfl ?_
                          have hx_ : (x61 : Int) = x48 := by omega
                          exact ⟨x48, rfl, congrArg (fun z_ : Int => some (Value.int (ei_ z_))) hx_, rR_sm (sm_rfl m) hR⟩
                        · refine pw_steps 1 (s' := (64, [some (.ref 47), some (.int (ei_ (a))), some (.int (ei_ (b))), some (.int (ei_ (0)))], [.int (ei_ (0))], m)) rfl ?_
                          refine pw_ifT rfl (by decide) (show 0 ≤ 0 by decide) ?_
                          refine pw_steps 2 (s' := (77, [some (.ref 47), some (.int (ei_ (a))), some (.int (ei_ (b))), some (.int (ei_ (0)))], [.int (ei_ (b)), .int (ei_ (0))], m)) rfl ?_
                          refine pw_cmpT rfl (by decide) q1 (show ¬ 0 = b by omega) ?_
                          refine pw_steps 1 (s' := (95, [some (.ref 47), some (.int (ei_ (a))), some (.int (ei_ (b))), some (.int (ei_ (0)))], [.int (ei_ ((-12)))], m)) rfl ?_
                          refine pw_iret rfl rfl rfl ?_
                          have hx_ : ((-12) : Int) = x48 := by omega
                          exact ⟨x48, rfl, congrArg (fun z_ : Int => some (Value.int (ei_ z_))) hx_, rR_sm (sm_rfl m) hR⟩
                  · rw [h63]
                    refine pw_steps 2 (s' := (60, [some (.ref 47), some (.int (ei_ (a))), some (.int (ei_ (b))), some (.int (ei_ (5)))], [.int (ei_ (b)), .int (ei_ (5))], m)) rfl ?_
                    refine pw_cmp rfl (by decide) q1 (fun (h86 : 5 = b) => ?_) (fun (h86 : ¬ (5 = b)) => ?_)
                    · refine pw_steps 2 (s' := (77, [some (.ref 47), some (.int (ei_ (a))), some (.int (ei_ (b))), some (.int (ei_ (5)))], [.int (ei_ (b)), .int (ei_ (5))], m)) rfl ?_
                      refine pw_cmpF rfl (by decide) q1 (show ¬ (¬ 5 = b) by omega) ?_
                      refine pw_steps 4 (s' := (86, [some (.ref 47), some (.int (ei_ (a))), some (.int (ei_ (b))), some (.int (ei_ (5)))], [.int (ei_ (a)), .ref 68, .ref 47], m)) rfl ?_
                      refine pw_ild rfl rfl (by omega) (fun x87 (hx87 : x87 = vi_ m 68 a) rx87 sx87 => ?_)
                      replace hx87 : x87 = x44 := hx87.trans h68_
                      subst x87
                      refine pw_call (As := [.int (ei_ (x44))]) (st := []) (k := 47) rfl rfl rfl rfl rfl (Nat.le_of_ble_eq_true rfl) ?_
                      refine pw_intro (I := iX9_kindOf) (T := tX9_kindOf) rfl rfl rfl ?_
                      refine pw_steps 3 (s' := (5, [some (.ref 47), some (.int (ei_ (x44)))], [.int (ei_ (x44)), .ref 66], m)) rfl ?_
                      refine pw_ildE (x := x61) rfl rfl (by omega) hx61 ?_
                      refine pw_iret rfl rfl rfl ?_
                      refine pw_steps 1 (s' := (95, [some (.ref 47), some (.int (ei_ (a))), some (.int (ei_ (b))), some (.int (ei_ (5)))], [.int (ei_ (x61))], m)) rfl ?_
                      refine pw_iret rfl rfl rfl ?_
                      have hx_ : (x61 : Int) = x48 := by omega
                      exact ⟨x48, rfl, congrArg (fun z_ : Int => some (Value.int (ei_ z_))) hx_, rR_sm (sm_rfl m) hR⟩
                    · refine pw_steps 1 (s' := (64, [some (.ref 47), some (.int (ei_ (a))), some (.int (ei_ (b))), some (.int (ei_ (5)))], [.int (ei_ (5))], m)) rfl ?_
                      refine pw_ifF rfl (by decide) (show ¬ (5 ≤ 0) by decide) ?_
                      refine pw_steps 1 (s' := (68, [some (.ref 47), some (.int (ei_ (a))), some (.int (ei_ (b))), some (.int (ei_ (5)))], [.int (ei_ (5))], m)) rfl ?_
                      refine pw_callS (As := [.int (ei_ (5))]) (st := []) rfl (by decide) rfl rfl (Nat.le_of_ble_eq_true rfl) ?_
                      refine pw_intro (I := iX9_above) (T := tX9_above) rfl rfl rfl ?_
                      refine pw_steps 2 (s' := (2, [some (.int (ei_ (5)))], [.int (ei_ (3)), .int (ei_ (5))], m)) rfl ?_
                      refine pw_cmpT rfl (by decide) (by decide) (show ¬ 5 = 3 by decide) ?_
                      refine pw_steps 2 (s' := (11, [some (.int (ei_ (5)))], [.int (ei_ (4)), .int (ei_ (5))], m)) rfl ?_
                      refine pw_cmpT rfl (by decide) (by decide) (show ¬ 5 = 4 by decide) ?_
                      refine pw_steps 2 (s' := (20, [some (.int (ei_ (5)))], [.int (ei_ (5)), .int (ei_ (5))], m)) rfl ?_
                      refine pw_cmpF rfl (by decide) (by decide) (show ¬ (¬ 5 = 5) by decide) ?_
                      refine pw_steps 2 (s' := (38, [some (.int (ei_ (5)))], [.int (ei_ (3))], m)) rfl ?_
                      refine pw_iret rfl rfl rfl ?_
                      refine pw_steps 4 (s' := (60, [some (.ref 47), some (.int (ei_ (a))), some (.int (ei_ (b))), some (.int (ei_ (3)))], [.int (ei_ (b)), .int (ei_ (3))], m)) rfl ?_
                      refine pw_cmp rfl (by decide) q1 (fun (h88 : 3 = b) => ?_) (fun (h88 : ¬ (3 = b)) => ?_)
                      · refine pw_steps 2 (s' := (77, [some (.ref 47), some (.int (ei_ (a))), some (.int (ei_ (b))), some (.int (ei_ (3)))], [.int (ei_ (b)), .int (ei_ (3))], m)) rfl ?_
                        refine pw_cmpF rfl (by decide) q1 (show ¬ (¬ 3 = b) by omega) ?_
                        refine pw_steps 4 (s' := (86, [some (.ref 47), some (.int (ei_ (a))), some (.int (ei_ (b))), some (.int (ei_ (3)))], [.int (ei_ (a)), .ref 68, .ref 47], m)) rfl ?_
                        refine pw_ild rfl rfl (by omega) (fun x89 (hx89 : x89 = vi_ m 68 a) rx89 sx89 => ?_)
                        replace hx89 : x89 = x44 := hx89.trans h68_
                        subst x89
                        refine pw_call (As := [.int (ei_ (x44))]) (st := []) (k := 47) rfl rfl rfl rfl rfl (Nat.le_of_ble_eq_true rfl) ?_
                        refine pw_intro (I := iX9_kindOf) (T := tX9_kindOf) rfl rfl rfl ?_
                        refine pw_steps 3 (s' := (5, [some (.ref 47), some (.int (ei_ (x44)))], [.int (ei_ (x44)), .ref 66], m)) rfl ?_
                        refine pw_ildE (x := x61) rfl rfl (by omega) hx61 ?_
                        refine pw_iret rfl rfl rfl ?_
                        refine pw_steps 1 (s' := (95, [some (.ref 47), some (.int (ei_ (a))), some (.int (ei_ (b))), some (.int (ei_ (3)))], [.int (ei_ (x61))], m)) rfl ?_
                        refine pw_iret rfl rfl rfl ?_
                        have hx_ : (x61 : Int) = x48 := by omega
                        exact ⟨x48, rfl, congrArg (fun z_ : Int => some (Value.int (ei_ z_))) hx_, rR_sm (sm_rfl m) hR⟩
                      · refine pw_steps 1 (s' := (64, [some (.ref 47), some (.int (ei_ (a))), some (.int (ei_ (b))), some (.int (ei_ (3)))], [.int (ei_ (3))], m)) rfl ?_
                        refine pw_ifF rfl (by decide) (show ¬ (3 ≤ 0) by decide) ?_
                        refine pw_steps 1 (s' := (68, [some (.ref 47), some (.int (ei_ (a))), some (.int (ei_ (b))), some (.int (ei_ (3)))], [.int (ei_ (3))], m)) rfl ?_
                        refine pw_callS (As := [.int (ei_ (3))]) (st := []) rfl (by decide) rfl rfl (Nat.le_of_ble_eq_true rfl) ?_
                        refine pw_intro (I := iX9_above) (T := tX9_above) rfl rfl rfl ?_
                        refine pw_steps 2 (s' := (2, [some (.int (ei_ (3)))], [.int (ei_ (3)), .int (ei_ (3))], m)) rfl ?_
                        refine pw_cmpF rfl (by decide) (by decide) (show ¬ (¬ 3 = 3) by decide) ?_
                        refine pw_steps 2 (s' := (38, [some (.int (ei_ (3)))], [.int (ei_ (2))], m)) rfl ?_
                        refine pw_iret rfl rfl rfl ?_
                        refine pw_steps 4 (s' := (60, [some (.ref 47), some (.int (ei_ (a))), some (.int (ei_ (b))), some (.int (ei_ (2)))], [.int (ei_ (b)), .int (ei_ (2))], m)) rfl ?_
                        refine pw_cmp rfl (by decide) q1 (fun (h90 : 2 = b) => ?_) (fun (h90 : ¬ (2 = b)) => ?_)
                        · refine pw_steps 2 (s' := (77, [some (.ref 47), some (.int (ei_ (a))), some (.int (ei_ (b))), some (.int (ei_ (2)))], [.int (ei_ (b)), .int (ei_ (2))], m)) rfl ?_
                          refine pw_cmpF rfl (by decide) q1 (show ¬ (¬ 2 = b) by omega) ?_
                          refine pw_steps 4 (s' := (86, [some (.ref 47), some (.int (ei_ (a))), some (.int (ei_ (b))), some (.int (ei_ (2)))], [.int (ei_ (a)), .ref 68, .ref 47], m)) rfl ?_
                          refine pw_ild rfl rfl (by omega) (fun x91 (hx91 : x91 = vi_ m 68 a) rx91 sx91 => ?_)
                          replace hx91 : x91 = x44 := hx91.trans h68_
                          subst x91
                          refine pw_call (As := [.int (ei_ (x44))]) (st := []) (k := 47) rfl rfl rfl rfl rfl (Nat.le_of_ble_eq_true rfl) ?_
                          refine pw_intro (I := iX9_kindOf) (T := tX9_kindOf) rfl rfl rfl ?_
                          refine pw_steps 3 (s' := (5, [some (.ref 47), some (.int (ei_ (x44)))], [.int (ei_ (x44)), .ref 66], m)) rfl ?_
                          refine pw_ildE (x := x61) rfl rfl (by omega) hx61 ?_
                          refine pw_iret rfl rfl rfl ?_
                          refine pw_steps 1 (s' := (95, [some (.ref 47), some (.int (ei_ (a))), some (.int (ei_ (b))), some (.int (ei_ (2)))], [.int (ei_ (x61))], m)) rfl ?_
                          refine pw_iret rfl rfl rfl ?_
                          have hx_ : (x61 : Int) = x48 := by omega
                          exact ⟨x48, rfl, congrArg (fun z_ : Int => some (Value.int (ei_ z_))) hx_, rR_sm (sm_rfl m) hR⟩
                        · refine pw_steps 1 (s' := (64, [some (.ref 47), some (.int (ei_ (a))), some (.int (ei_ (b))), some (.int (ei_ (2)))], [.int (ei_ (2))], m)) rfl ?_
                          refine pw_ifF rfl (by decide) (show ¬ (2 ≤ 0) by decide) ?_
                          refine pw_steps 1 (s' := (68, [some (.ref 47), some (.int (ei_ (a))), some (.int (ei_ (b))), some (.int (ei_ (2)))], [.int (ei_ (2))], m)) rfl ?_
                          refine pw_callS (As := [.int (ei_ (2))]) (st := []) rfl (by decide) rfl rfl (Nat.le_of_ble_eq_true rfl) ?_
                          refine pw_intro (I := iX9_above) (T := tX9_above) rfl rfl rfl ?_
                          refine pw_steps 2 (s' := (2, [some (.int (ei_ (2)))], [.int (ei_ (3)), .int (ei_ (2))], m)) rfl ?_
                          refine pw_cmpT rfl (by decide) (by decide) (show ¬ 2 = 3 by decide) ?_
                          refine pw_steps 2 (s' := (11, [some (.int (ei_ (2)))], [.int (ei_ (4)), .int (ei_ (2))], m)) rfl ?_
                          refine pw_cmpT rfl (by decide) (by decide) (show ¬ 2 = 4 by decide) ?_
                          refine pw_steps 2 (s' := (20, [some (.int (ei_ (2)))], [.int (ei_ (5)), .int (ei_ (2))], m)) rfl ?_
                          refine pw_cmpT rfl (by decide) (by decide) (show ¬ 2 = 5 by decide) ?_
                          refine pw_steps 2 (s' := (30, [some (.int (ei_ (2)))], [.int (ei_ (7)), .int (ei_ (2))], m)) rfl ?_
                          refine pw_cmpT rfl (by decide) (by decide) (show ¬ 2 = 7 by decide) ?_
                          refine pw_steps 1 (s' := (38, [some (.int (ei_ (2)))], [.int (ei_ (0))], m)) rfl ?_
                          refine pw_iret rfl rfl rfl ?_
                          refine pw_steps 4 (s' := (60, [some (.ref 47), some (.int (ei_ (a))), some (.int (ei_ (b))), some (.int (ei_ (0)))], [.int (ei_ (b)), .int (ei_ (0))], m)) rfl ?_
                          refine pw_cmp rfl (by decide) q1 (fun (h92 : 0 = b) => ?_) (fun (h92 : ¬ (0 = b)) => ?_)
                          · refine pw_steps 2 (s' := (77, [some (.ref 47), some (.int (ei_ (a))), some (.int (ei_ (b))), some (.int (ei_ (0)))], [.int (ei_ (b)), .int (ei_ (0))], m)) rfl ?_
                            refine pw_cmpF rfl (by decide) q1 (show ¬ (¬ 0 = b) by omega) ?_
                            refine pw_steps 4 (s' := (86, [some (.ref 47), some (.int (ei_ (a))), some (.int (ei_ (b))), some (.int (ei_ (0)))], [.int (ei_ (a)), .ref 68, .ref 47], m)) rfl ?_
                            refine pw_ild rfl rfl (by omega) (fun x93 (hx93 : x93 = vi_ m 68 a) rx93 sx93 => ?_)
                            replace hx93 : x93 = x44 := hx93.trans h68_
                            subst x93
                            refine pw_call (As := [.int (ei_ (x44))]) (st := []) (k := 47) rfl rfl rfl rfl rfl (Nat.le_of_ble_eq_true rfl) ?_
                            refine pw_intro (I := iX9_kindOf) (T := tX9_kindOf) rfl rfl rfl ?_
                            refine pw_steps 3 (s' := (5, [some (.ref 47), some (.int (ei_ (x44)))], [.int (ei_ (x44)), .ref 66], m)) rfl ?_
                            refine pw_ildE (x := x61) rfl rfl (by omega) hx61 ?_
                            refine pw_iret rfl rfl rfl ?_
                            refine pw_steps 1 (s' := (95, [some (.ref 47), some (.int (ei_ (a))), some (.int (ei_ (b))), some (.int (ei_ (0)))], [.int (ei_ (x61))], m)) rfl ?_
                            refine pw_iret rfl rfl rfl ?_
                            have hx_ : (x61 : Int) = x48 := by omega
                            exact ⟨x48, rfl, congrArg (fun z_ : Int => some (Value.int (ei_ z_))) hx_, rR_sm (sm_rfl m) hR⟩
                          · refine pw_steps 1 (s' := (64, [some (.ref 47), some (.int (ei_ (a))), some (.int (ei_ (b))), some (.int (ei_ (0)))], [.int (ei_ (0))], m)) rfl ?_
                            refine pw_ifT rfl (by decide) (show 0 ≤ 0 by decide) ?_
                            refine pw_steps 2 (s' := (77, [some (.ref 47), some (.int (ei_ (a))), some (.int (ei_ (b))), some (.int (ei_ (0)))], [.int (ei_ (b)), .int (ei_ (0))], m)) rfl ?_
                            refine pw_cmpT rfl (by decide) q1 (show ¬ 0 = b by omega) ?_
                            refine pw_steps 1 (s' := (95, [some (.ref 47), some (.int (ei_ (a))), some (.int (ei_ (b))), some (.int (ei_ (0)))], [.int (ei_ ((-12)))], m)) rfl ?_
                            refine pw_iret rfl rfl rfl ?_
                            have hx_ : ((-12) : Int) = x48 := by omega
                            exact ⟨x48, rfl, congrArg (fun z_ : Int => some (Value.int (ei_ z_))) hx_, rR_sm (sm_rfl m) hR⟩
                  · rw [h63]
                    refine pw_steps 2 (s' := (60, [some (.ref 47), some (.int (ei_ (a))), some (.int (ei_ (b))), some (.int (ei_ (6)))], [.int (ei_ (b)), .int (ei_ (6))], m)) rfl ?_
                    refine pw_cmp rfl (by decide) q1 (fun (h94 : 6 = b) => ?_) (fun (h94 : ¬ (6 = b)) => ?_)
                    · refine pw_steps 2 (s' := (77, [some (.ref 47), some (.int (ei_ (a))), some (.int (ei_ (b))), some (.int (ei_ (6)))], [.int (ei_ (b)), .int (ei_ (6))], m)) rfl ?_
                      refine pw_cmpF rfl (by decide) q1 (show ¬ (¬ 6 = b) by omega) ?_
                      refine pw_steps 4 (s' := (86, [some (.ref 47), some (.int (ei_ (a))), some (.int (ei_ (b))), some (.int (ei_ (6)))], [.int (ei_ (a)), .ref 68, .ref 47], m)) rfl ?_
                      refine pw_ild rfl rfl (by omega) (fun x95 (hx95 : x95 = vi_ m 68 a) rx95 sx95 => ?_)
                      replace hx95 : x95 = x44 := hx95.trans h68_
                      subst x95
                      refine pw_call (As := [.int (ei_ (x44))]) (st := []) (k := 47) rfl rfl rfl rfl rfl (Nat.le_of_ble_eq_true rfl) ?_
                      refine pw_intro (I := iX9_kindOf) (T := tX9_kindOf) rfl rfl rfl ?_
                      refine pw_steps 3 (s' := (5, [some (.ref 47), some (.int (ei_ (x44)))], [.int (ei_ (x44)), .ref 66], m)) rfl ?_
                      refine pw_ildE (x := x61) rfl rfl (by omega) hx61 ?_
                      refine pw_iret rfl rfl rfl ?_
                      refine pw_steps 1 (s' := (95, [some (.ref 47), some (.int (ei_ (a))), some (.int (ei_ (b))), some (.int (ei_ (6)))], [.int (ei_ (x61))], m)) rfl ?_
                      refine pw_iret rfl rfl rfl ?_
                      have hx_ : (x61 : Int) = x48 := by omega
                      exact ⟨x48, rfl, congrArg (fun z_ : Int => some (Value.int (ei_ z_))) hx_, rR_sm (sm_rfl m) hR⟩
                    · refine pw_steps 1 (s' := (64, [some (.ref 47), some (.int (ei_ (a))), some (.int (ei_ (b))), some (.int (ei_ (6)))], [.int (ei_ (6))], m)) rfl ?_
                      refine pw_ifF rfl (by decide) (show ¬ (6 ≤ 0) by decide) ?_
                      refine pw_steps 1 (s' := (68, [some (.ref 47), some (.int (ei_ (a))), some (.int (ei_ (b))), some (.int (ei_ (6)))], [.int (ei_ (6))], m)) rfl ?_
                      refine pw_callS (As := [.int (ei_ (6))]) (st := []) rfl (by decide) rfl rfl (Nat.le_of_ble_eq_true rfl) ?_
                      refine pw_intro (I := iX9_above) (T := tX9_above) rfl rfl rfl ?_
                      refine pw_steps 2 (s' := (2, [some (.int (ei_ (6)))], [.int (ei_ (3)), .int (ei_ (6))], m)) rfl ?_
                      refine pw_cmpT rfl (by decide) (by decide) (show ¬ 6 = 3 by decide) ?_
                      refine pw_steps 2 (s' := (11, [some (.int (ei_ (6)))], [.int (ei_ (4)), .int (ei_ (6))], m)) rfl ?_
                      refine pw_cmpT rfl (by decide) (by decide) (show ¬ 6 = 4 by decide) ?_
                      refine pw_steps 2 (s' := (20, [some (.int (ei_ (6)))], [.int (ei_ (5)), .int (ei_ (6))], m)) rfl ?_
                      refine pw_cmpT rfl (by decide) (by decide) (show ¬ 6 = 5 by decide) ?_
                      refine pw_steps 2 (s' := (30, [some (.int (ei_ (6)))], [.int (ei_ (7)), .int (ei_ (6))], m)) rfl ?_
                      refine pw_cmpT rfl (by decide) (by decide) (show ¬ 6 = 7 by decide) ?_
                      refine pw_steps 1 (s' := (38, [some (.int (ei_ (6)))], [.int (ei_ (0))], m)) rfl ?_
                      refine pw_iret rfl rfl rfl ?_
                      refine pw_steps 4 (s' := (60, [some (.ref 47), some (.int (ei_ (a))), some (.int (ei_ (b))), some (.int (ei_ (0)))], [.int (ei_ (b)), .int (ei_ (0))], m)) rfl ?_
                      refine pw_cmp rfl (by decide) q1 (fun (h96 : 0 = b) => ?_) (fun (h96 : ¬ (0 = b)) => ?_)
                      · refine pw_steps 2 (s' := (77, [some (.ref 47), some (.int (ei_ (a))), some (.int (ei_ (b))), some (.int (ei_ (0)))], [.int (ei_ (b)), .int (ei_ (0))], m)) rfl ?_
                        refine pw_cmpF rfl (by decide) q1 (show ¬ (¬ 0 = b) by omega) ?_
                        refine pw_steps 4 (s' := (86, [some (.ref 47), some (.int (ei_ (a))), some (.int (ei_ (b))), some (.int (ei_ (0)))], [.int (ei_ (a)), .ref 68, .ref 47], m)) rfl ?_
                        refine pw_ild rfl rfl (by omega) (fun x97 (hx97 : x97 = vi_ m 68 a) rx97 sx97 => ?_)
                        replace hx97 : x97 = x44 := hx97.trans h68_
                        subst x97
                        refine pw_call (As := [.int (ei_ (x44))]) (st := []) (k := 47) rfl rfl rfl rfl rfl (Nat.le_of_ble_eq_true rfl) ?_
                        refine pw_intro (I := iX9_kindOf) (T := tX9_kindOf) rfl rfl rfl ?_
                        refine pw_steps 3 (s' := (5, [some (.ref 47), some (.int (ei_ (x44)))], [.int (ei_ (x44)), .ref 66], m)) rfl ?_
                        refine pw_ildE (x := x61) rfl rfl (by omega) hx61 ?_
                        refine pw_iret rfl rfl rfl ?_
                        refine pw_steps 1 (s' := (95, [some (.ref 47), some (.int (ei_ (a))), some (.int (ei_ (b))), some (.int (ei_ (0)))], [.int (ei_ (x61))], m)) rfl ?_
                        refine pw_iret rfl rfl rfl ?_
                        have hx_ : (x61 : Int) = x48 := by omega
                        exact ⟨x48, rfl, congrArg (fun z_ : Int => some (Value.int (ei_ z_))) hx_, rR_sm (sm_rfl m) hR⟩
                      · refine pw_steps 1 (s' := (64, [some (.ref 47), some (.int (ei_ (a))), some (.int (ei_ (b))), some (.int (ei_ (0)))], [.int (ei_ (0))], m)) rfl ?_
                        refine pw_ifT rfl (by decide) (show 0 ≤ 0 by decide) ?_
                        refine pw_steps 2 (s' := (77, [some (.ref 47), some (.int (ei_ (a))), some (.int (ei_ (b))), some (.int (ei_ (0)))], [.int (ei_ (b)), .int (ei_ (0))], m)) rfl ?_
                        refine pw_cmpT rfl (by decide) q1 (show ¬ 0 = b by omega) ?_
                        refine pw_steps 1 (s' := (95, [some (.ref 47), some (.int (ei_ (a))), some (.int (ei_ (b))), some (.int (ei_ (0)))], [.int (ei_ ((-12)))], m)) rfl ?_
                        refine pw_iret rfl rfl rfl ?_
                        have hx_ : ((-12) : Int) = x48 := by omega
                        exact ⟨x48, rfl, congrArg (fun z_ : Int => some (Value.int (ei_ z_))) hx_, rR_sm (sm_rfl m) hR⟩
                  · rw [h63]
                    refine pw_steps 2 (s' := (60, [some (.ref 47), some (.int (ei_ (a))), some (.int (ei_ (b))), some (.int (ei_ (7)))], [.int (ei_ (b)), .int (ei_ (7))], m)) rfl ?_
                    refine pw_cmp rfl (by decide) q1 (fun (h98 : 7 = b) => ?_) (fun (h98 : ¬ (7 = b)) => ?_)
                    · refine pw_steps 2 (s' := (77, [some (.ref 47), some (.int (ei_ (a))), some (.int (ei_ (b))), some (.int (ei_ (7)))], [.int (ei_ (b)), .int (ei_ (7))], m)) rfl ?_
                      refine pw_cmpF rfl (by decide) q1 (show ¬ (¬ 7 = b) by omega) ?_
                      refine pw_steps 4 (s' := (86, [some (.ref 47), some (.int (ei_ (a))), some (.int (ei_ (b))), some (.int (ei_ (7)))], [.int (ei_ (a)), .ref 68, .ref 47], m)) rfl ?_
                      refine pw_ild rfl rfl (by omega) (fun x99 (hx99 : x99 = vi_ m 68 a) rx99 sx99 => ?_)
                      replace hx99 : x99 = x44 := hx99.trans h68_
                      subst x99
                      refine pw_call (As := [.int (ei_ (x44))]) (st := []) (k := 47) rfl rfl rfl rfl rfl (Nat.le_of_ble_eq_true rfl) ?_
                      refine pw_intro (I := iX9_kindOf) (T := tX9_kindOf) rfl rfl rfl ?_
                      refine pw_steps 3 (s' := (5, [some (.ref 47), some (.int (ei_ (x44)))], [.int (ei_ (x44)), .ref 66], m)) rfl ?_
                      refine pw_ildE (x := x61) rfl rfl (by omega) hx61 ?_
                      refine pw_iret rfl rfl rfl ?_
                      refine pw_steps 1 (s' := (95, [some (.ref 47), some (.int (ei_ (a))), some (.int (ei_ (b))), some (.int (ei_ (7)))], [.int (ei_ (x61))], m)) rfl ?_
                      refine pw_iret rfl rfl rfl ?_
                      have hx_ : (x61 : Int) = x48 := by omega
                      exact ⟨x48, rfl, congrArg (fun z_ : Int => some (Value.int (ei_ z_))) hx_, rR_sm (sm_rfl m) hR⟩
                    · refine pw_steps 1 (s' := (64, [some (.ref 47), some (.int (ei_ (a))), some (.int (ei_ (b))), some (.int (ei_ (7)))], [.int (ei_ (7))], m)) rfl ?_
                      refine pw_ifF rfl (by decide) (show ¬ (7 ≤ 0) by decide) ?_
                      refine pw_steps 1 (s' := (68, [some (.ref 47), some (.int (ei_ (a))), some (.int (ei_ (b))), some (.int (ei_ (7)))], [.int (ei_ (7))], m)) rfl ?_
                      refine pw_callS (As := [.int (ei_ (7))]) (st := []) rfl (by decide) rfl rfl (Nat.le_of_ble_eq_true rfl) ?_
                      refine pw_intro (I := iX9_above) (T := tX9_above) rfl rfl rfl ?_
                      refine pw_steps 2 (s' := (2, [some (.int (ei_ (7)))], [.int (ei_ (3)), .int (ei_ (7))], m)) rfl ?_
                      refine pw_cmpT rfl (by decide) (by decide) (show ¬ 7 = 3 by decide) ?_
                      refine pw_steps 2 (s' := (11, [some (.int (ei_ (7)))], [.int (ei_ (4)), .int (ei_ (7))], m)) rfl ?_
                      refine pw_cmpT rfl (by decide) (by decide) (show ¬ 7 = 4 by decide) ?_
                      refine pw_steps 2 (s' := (20, [some (.int (ei_ (7)))], [.int (ei_ (5)), .int (ei_ (7))], m)) rfl ?_
                      refine pw_cmpT rfl (by decide) (by decide) (show ¬ 7 = 5 by decide) ?_
                      refine pw_steps 2 (s' := (30, [some (.int (ei_ (7)))], [.int (ei_ (7)), .int (ei_ (7))], m)) rfl ?_
                      refine pw_cmpF rfl (by decide) (by decide) (show ¬ (¬ 7 = 7) by decide) ?_
                      refine pw_steps 2 (s' := (38, [some (.int (ei_ (7)))], [.int (ei_ (4))], m)) rfl ?_
                      refine pw_iret rfl rfl rfl ?_
                      refine pw_steps 4 (s' := (60, [some (.ref 47), some (.int (ei_ (a))), some (.int (ei_ (b))), some (.int (ei_ (4)))], [.int (ei_ (b)), .int (ei_ (4))], m)) rfl ?_
                      refine pw_cmp rfl (by decide) q1 (fun (h100 : 4 = b) => ?_) (fun (h100 : ¬ (4 = b)) => ?_)
                      · refine pw_steps 2 (s' := (77, [some (.ref 47), some (.int (ei_ (a))), some (.int (ei_ (b))), some (.int (ei_ (4)))], [.int (ei_ (b)), .int (ei_ (4))], m)) rfl ?_
                        refine pw_cmpF rfl (by decide) q1 (show ¬ (¬ 4 = b) by omega) ?_
                        refine pw_steps 4 (s' := (86, [some (.ref 47), some (.int (ei_ (a))), some (.int (ei_ (b))), some (.int (ei_ (4)))], [.int (ei_ (a)), .ref 68, .ref 47], m)) rfl ?_
                        refine pw_ild rfl rfl (by omega) (fun x101 (hx101 : x101 = vi_ m 68 a) rx101 sx101 => ?_)
                        replace hx101 : x101 = x44 := hx101.trans h68_
                        subst x101
                        refine pw_call (As := [.int (ei_ (x44))]) (st := []) (k := 47) rfl rfl rfl rfl rfl (Nat.le_of_ble_eq_true rfl) ?_
                        refine pw_intro (I := iX9_kindOf) (T := tX9_kindOf) rfl rfl rfl ?_
                        refine pw_steps 3 (s' := (5, [some (.ref 47), some (.int (ei_ (x44)))], [.int (ei_ (x44)), .ref 66], m)) rfl ?_
                        refine pw_ildE (x := x61) rfl rfl (by omega) hx61 ?_
                        refine pw_iret rfl rfl rfl ?_
                        refine pw_steps 1 (s' := (95, [some (.ref 47), some (.int (ei_ (a))), some (.int (ei_ (b))), some (.int (ei_ (4)))], [.int (ei_ (x61))], m)) rfl ?_
                        refine pw_iret rfl rfl rfl ?_
                        have hx_ : (x61 : Int) = x48 := by omega
                        exact ⟨x48, rfl, congrArg (fun z_ : Int => some (Value.int (ei_ z_))) hx_, rR_sm (sm_rfl m) hR⟩
                      · refine pw_steps 1 (s' := (64, [some (.ref 47), some (.int (ei_ (a))), some (.int (ei_ (b))), some (.int (ei_ (4)))], [.int (ei_ (4))], m)) rfl ?_
                        refine pw_ifF rfl (by decide) (show ¬ (4 ≤ 0) by decide) ?_
                        refine pw_steps 1 (s' := (68, [some (.ref 47), some (.int (ei_ (a))), some (.int (ei_ (b))), some (.int (ei_ (4)))], [.int (ei_ (4))], m)) rfl ?_
                        refine pw_callS (As := [.int (ei_ (4))]) (st := []) rfl (by decide) rfl rfl (Nat.le_of_ble_eq_true rfl) ?_
                        refine pw_intro (I := iX9_above) (T := tX9_above) rfl rfl rfl ?_
                        refine pw_steps 2 (s' := (2, [some (.int (ei_ (4)))], [.int (ei_ (3)), .int (ei_ (4))], m)) rfl ?_
                        refine pw_cmpT rfl (by decide) (by decide) (show ¬ 4 = 3 by decide) ?_
                        refine pw_steps 2 (s' := (11, [some (.int (ei_ (4)))], [.int (ei_ (4)), .int (ei_ (4))], m)) rfl ?_
                        refine pw_cmpF rfl (by decide) (by decide) (show ¬ (¬ 4 = 4) by decide) ?_
                        refine pw_steps 2 (s' := (38, [some (.int (ei_ (4)))], [.int (ei_ (1))], m)) rfl ?_
                        refine pw_iret rfl rfl rfl ?_
                        refine pw_steps 4 (s' := (60, [some (.ref 47), some (.int (ei_ (a))), some (.int (ei_ (b))), some (.int (ei_ (1)))], [.int (ei_ (b)), .int (ei_ (1))], m)) rfl ?_
                        refine pw_cmp rfl (by decide) q1 (fun (h102 : 1 = b) => ?_) (fun (h102 : ¬ (1 = b)) => ?_)
                        · refine pw_steps 2 (s' := (77, [some (.ref 47), some (.int (ei_ (a))), some (.int (ei_ (b))), some (.int (ei_ (1)))], [.int (ei_ (b)), .int (ei_ (1))], m)) rfl ?_
                          refine pw_cmpF rfl (by decide) q1 (show ¬ (¬ 1 = b) by omega) ?_
                          refine pw_steps 4 (s' := (86, [some (.ref 47), some (.int (ei_ (a))), some (.int (ei_ (b))), some (.int (ei_ (1)))], [.int (ei_ (a)), .ref 68, .ref 47], m)) rfl ?_
                          refine pw_ild rfl rfl (by omega) (fun x103 (hx103 : x103 = vi_ m 68 a) rx103 sx103 => ?_)
                          replace hx103 : x103 = x44 := hx103.trans h68_
                          subst x103
                          refine pw_call (As := [.int (ei_ (x44))]) (st := []) (k := 47) rfl rfl rfl rfl rfl (Nat.le_of_ble_eq_true rfl) ?_
                          refine pw_intro (I := iX9_kindOf) (T := tX9_kindOf) rfl rfl rfl ?_
                          refine pw_steps 3 (s' := (5, [some (.ref 47), some (.int (ei_ (x44)))], [.int (ei_ (x44)), .ref 66], m)) rfl ?_
                          refine pw_ildE (x := x61) rfl rfl (by omega) hx61 ?_
                          refine pw_iret rfl rfl rfl ?_
                          refine pw_steps 1 (s' := (95, [some (.ref 47), some (.int (ei_ (a))), some (.int (ei_ (b))), some (.int (ei_ (1)))], [.int (ei_ (x61))], m)) rfl ?_
                          refine pw_iret rfl rfl rfl ?_
                          have hx_ : (x61 : Int) = x48 := by omega
                          exact ⟨x48, rfl, congrArg (fun z_ : Int => some (Value.int (ei_ z_))) hx_, rR_sm (sm_rfl m) hR⟩
                        · refine pw_steps 1 (s' := (64, [some (.ref 47), some (.int (ei_ (a))), some (.int (ei_ (b))), some (.int (ei_ (1)))], [.int (ei_ (1))], m)) rfl ?_
                          refine pw_ifF rfl (by decide) (show ¬ (1 ≤ 0) by decide) ?_
                          refine pw_steps 1 (s' := (68, [some (.ref 47), some (.int (ei_ (a))), some (.int (ei_ (b))), some (.int (ei_ (1)))], [.int (ei_ (1))], m)) rfl ?_
                          refine pw_callS (As := [.int (ei_ (1))]) (st := []) rfl (by decide) rfl rfl (Nat.le_of_ble_eq_true rfl) ?_
                          refine pw_intro (I := iX9_above) (T := tX9_above) rfl rfl rfl ?_
                          refine pw_steps 2 (s' := (2, [some (.int (ei_ (1)))], [.int (ei_ (3)), .int (ei_ (1))], m)) rfl ?_
                          refine pw_cmpT rfl (by decide) (by decide) (show ¬ 1 = 3 by decide) ?_
                          refine pw_steps 2 (s' := (11, [some (.int (ei_ (1)))], [.int (ei_ (4)), .int (ei_ (1))], m)) rfl ?_
                          refine pw_cmpT rfl (by decide) (by decide) (show ¬ 1 = 4 by decide) ?_
                          refine pw_steps 2 (s' := (20, [some (.int (ei_ (1)))], [.int (ei_ (5)), .int (ei_ (1))], m)) rfl ?_
                          refine pw_cmpT rfl (by decide) (by decide) (show ¬ 1 = 5 by decide) ?_
                          refine pw_steps 2 (s' := (30, [some (.int (ei_ (1)))], [.int (ei_ (7)), .int (ei_ (1))], m)) rfl ?_
                          refine pw_cmpT rfl (by decide) (by decide) (show ¬ 1 = 7 by decide) ?_
                          refine pw_steps 1 (s' := (38, [some (.int (ei_ (1)))], [.int (ei_ (0))], m)) rfl ?_
                          refine pw_iret rfl rfl rfl ?_
                          refine pw_steps 4 (s' := (60, [some (.ref 47), some (.int (ei_ (a))), some (.int (ei_ (b))), some (.int (ei_ (0)))], [.int (ei_ (b)), .int (ei_ (0))], m)) rfl ?_
                          refine pw_cmp rfl (by decide) q1 (fun (h104 : 0 = b) => ?_) (fun (h104 : ¬ (0 = b)) => ?_)
                          · refine pw_steps 2 (s' := (77, [some (.ref 47), some (.int (ei_ (a))), some (.int (ei_ (b))), some (.int (ei_ (0)))], [.int (ei_ (b)), .int (ei_ (0))], m)) rfl ?_
                            refine pw_cmpF rfl (by decide) q1 (show ¬ (¬ 0 = b) by omega) ?_
                            refine pw_steps 4 (s' := (86, [some (.ref 47), some (.int (ei_ (a))), some (.int (ei_ (b))), some (.int (ei_ (0)))], [.int (ei_ (a)), .ref 68, .ref 47], m)) rfl ?_
                            refine pw_ild rfl rfl (by omega) (fun x105 (hx105 : x105 = vi_ m 68 a) rx105 sx105 => ?_)
                            replace hx105 : x105 = x44 := hx105.trans h68_
                            subst x105
                            refine pw_call (As := [.int (ei_ (x44))]) (st := []) (k := 47) rfl rfl rfl rfl rfl (Nat.le_of_ble_eq_true rfl) ?_
                            refine pw_intro (I := iX9_kindOf) (T := tX9_kindOf) rfl rfl rfl ?_
                            refine pw_steps 3 (s' := (5, [some (.ref 47), some (.int (ei_ (x44)))], [.int (ei_ (x44)), .ref 66], m)) rfl ?_
                            refine pw_ildE (x := x61) rfl rfl (by omega) hx61 ?_
                            refine pw_iret rfl rfl rfl ?_
                            refine pw_steps 1 (s' := (95, [some (.ref 47), some (.int (ei_ (a))), some (.int (ei_ (b))), some (.int (ei_ (0)))], [.int (ei_ (x61))], m)) rfl ?_
                            refine pw_iret rfl rfl rfl ?_
                            have hx_ : (x61 : Int) = x48 := by omega
                            exact ⟨x48, rfl, congrArg (fun z_ : Int => some (Value.int (ei_ z_))) hx_, rR_sm (sm_rfl m) hR⟩
                          · refine pw_steps 1 (s' := (64, [some (.ref 47), some (.int (ei_ (a))), some (.int (ei_ (b))), some (.int (ei_ (0)))], [.int (ei_ (0))], m)) rfl ?_
                            refine pw_ifT rfl (by decide) (show 0 ≤ 0 by decide) ?_
                            refine pw_steps 2 (s' := (77, [some (.ref 47), some (.int (ei_ (a))), some (.int (ei_ (b))), some (.int (ei_ (0)))], [.int (ei_ (b)), .int (ei_ (0))], m)) rfl ?_
                            refine pw_cmpT rfl (by decide) q1 (show ¬ 0 = b by omega) ?_
                            refine pw_steps 1 (s' := (95, [some (.ref 47), some (.int (ei_ (a))), some (.int (ei_ (b))), some (.int (ei_ (0)))], [.int (ei_ ((-12)))], m)) rfl ?_
                            refine pw_iret rfl rfl rfl ?_
                            have hx_ : ((-12) : Int) = x48 := by omega
                            exact ⟨x48, rfl, congrArg (fun z_ : Int => some (Value.int (ei_ z_))) hx_, rR_sm (sm_rfl m) hR⟩
                · exact False.elim (by omega)
                · exact False.elim (by omega)
              · exact False.elim (by omega)
              · exact False.elim (by omega)
            · unfold un_ at g46
              refine pw_ifF rfl (by decide) (show ¬ (¬ 0 = 0) by decide) ?_
              refine pw_steps 1 (s' := (57, [some (.ref 0), some (.int (ei_ (a))), some (.int (ei_ (b))), some (.ref ((sf_ a)))], [.int (ei_ ((-12)))], m)) rfl ?_
              refine pw_iret rfl rfl rfl ?_
              have h68_ : vi_ m 68 a = x44 := by omega
              refine pw_intro (I := iX9_taken) (T := tX9_taken) rfl rfl rfl ?_
              refine pw_steps 1 (s' := (1, [some (.ref 47), some (.int (ei_ (a))), some (.int (ei_ (b))), none], [.int (ei_ (a))], m)) rfl ?_
              refine pw_callS (As := [.int (ei_ (a))]) (st := []) rfl (by decide) rfl rfl (Nat.le_of_ble_eq_true rfl) ?_
              refine pw_intro (I := iX9_isShelf) (T := tX9_isShelf) rfl rfl rfl ?_
              refine pw_steps 4 (s' := (6, [some (.int (ei_ (a)))], [.long (el_ (5)), .long (el_ (0)), .long ((ei_ (a)).toInt64)], m)) rfl ?_
              refine pw_cv (congrArg (fun z_ : Int64 => ((6, [some (.int (ei_ (a)))], [.long (el_ (5)), .long (el_ (0)), .long z_], m) : am_S)) (el_i2l q0 rfl)) ?_
              refine pw_callS (As := [.long (el_ (a)), .long (el_ (0)), .long (el_ (5))]) (st := []) rfl (by decide) rfl rfl (Nat.le_of_ble_eq_true rfl) ?_
              refine mt_within (by omega) (by omega) (by omega) (fun g106 g107 => ?_) (fun g108 => ?_) (fun g109 => ?_)
              · refine pw_iret rfl rfl rfl ?_
                refine pw_ifF rfl (by decide) (show ¬ (1 = 0) by decide) ?_
                refine pw_steps 4 (s' := (13, [some (.ref 47), some (.int (ei_ (a))), some (.int (ei_ (b))), none], [.long (el_ (7)), .long (el_ (0)), .long ((ei_ (b)).toInt64)], m)) rfl ?_
                refine pw_cv (congrArg (fun z_ : Int64 => ((13, [some (.ref 47), some (.int (ei_ (a))), some (.int (ei_ (b))), none], [.long (el_ (7)), .long (el_ (0)), .long z_], m) : am_S)) (el_i2l q1 rfl)) ?_
                refine pw_callS (As := [.long (el_ (b)), .long (el_ (0)), .long (el_ (7))]) (st := []) rfl (by decide) rfl rfl (Nat.le_of_ble_eq_true rfl) ?_
                refine mt_within (by omega) (by omega) (by omega) (fun g110 g111 => ?_) (fun g112 => ?_) (fun g113 => ?_)
                · refine pw_ifT rfl (by decide) (show ¬ 1 = 0 by decide) ?_
                  refine pw_steps 3 (s' := (26, [some (.ref 47), some (.int (ei_ (a))), some (.int (ei_ (b))), none], [.int (ei_ (a)), .ref 68], m)) rfl ?_
                  refine pw_ild rfl rfl (by omega) (fun x114 (hx114 : x114 = vi_ m 68 a) rx114 sx114 => ?_)
                  replace hx114 : x114 = x44 := hx114.trans h68_
                  subst x114
                  refine pw_ifT rfl ⟨rx44, sx44⟩ (show 0 ≤ x44 by omega) ?_
                  refine pw_steps 3 (s' := (38, [some (.ref 47), some (.int (ei_ (a))), some (.int (ei_ (b))), none], [.int (ei_ (a)), .ref 68], m)) rfl ?_
                  refine pw_ild rfl rfl (by omega) (fun x115 (hx115 : x115 = vi_ m 68 a) rx115 sx115 => ?_)
                  replace hx115 : x115 = x44 := hx115.trans h68_
                  subst x115
                  refine pw_steps 1 (s' := (41, [some (.ref 47), some (.int (ei_ (a))), some (.int (ei_ (b))), none], [.int (ei_ (50)), .int (ei_ (x44))], m)) rfl ?_
                  refine pw_cmpT rfl ⟨rx44, sx44⟩ (by decide) (show x44 < 50 by omega) ?_
                  refine pw_steps 4 (s' := (53, [some (.ref 47), some (.int (ei_ (a))), some (.int (ei_ (b))), none], [.int (ei_ (a)), .ref 68, .ref 47], m)) rfl ?_
                  refine pw_ild rfl rfl (by omega) (fun x116 (hx116 : x116 = vi_ m 68 a) rx116 sx116 => ?_)
                  replace hx116 : x116 = x44 := hx116.trans h68_
                  subst x116
                  refine pw_call (As := [.int (ei_ (x44))]) (st := []) (k := 47) rfl rfl rfl rfl rfl (Nat.le_of_ble_eq_true rfl) ?_
                  refine pw_intro (I := iX9_kindOf) (T := tX9_kindOf) rfl rfl rfl ?_
                  refine pw_steps 3 (s' := (5, [some (.ref 47), some (.int (ei_ (x44)))], [.int (ei_ (x44)), .ref 66], m)) rfl ?_
                  refine pw_ild rfl rfl (by omega) (fun x117 (hx117 : x117 = vi_ m 66 x44) rx117 sx117 => ?_)
                  have b118 := ha3 x44 (by omega) (by omega)
                  refine pw_iret rfl rfl rfl ?_
                  refine pw_steps 1 (s' := (58, [some (.ref 47), some (.int (ei_ (a))), some (.int (ei_ (b))), some (.int (ei_ (x117)))], [], m)) rfl ?_
                  rcases (show x117 = 0 ∨ x117 = 1 ∨ x117 = 2 ∨ x117 = 3 ∨ x117 = 4 ∨ x117 = 5 ∨ x117 = 6 ∨ x117 = 7 by omega) with h119 | h119 | h119 | h119 | h119 | h119 | h119 | h119
                  · rw [h119]
                    refine pw_steps 2 (s' := (60, [some (.ref 47), some (.int (ei_ (a))), some (.int (ei_ (b))), some (.int (ei_ (0)))], [.int (ei_ (b)), .int (ei_ (0))], m)) rfl ?_
                    refine pw_cmp rfl (by decide) q1 (fun (h120 : 0 = b) => ?_) (fun (h120 : ¬ (0 = b)) => ?_)
                    · refine pw_steps 2 (s' := (77, [some (.ref 47), some (.int (ei_ (a))), some (.int (ei_ (b))), some (.int (ei_ (0)))], [.int (ei_ (b)), .int (ei_ (0))], m)) rfl ?_
                      refine pw_cmpF rfl (by decide) q1 (show ¬ (¬ 0 = b) by omega) ?_
                      refine pw_steps 4 (s' := (86, [some (.ref 47), some (.int (ei_ (a))), some (.int (ei_ (b))), some (.int (ei_ (0)))], [.int (ei_ (a)), .ref 68, .ref 47], m)) rfl ?_
                      refine pw_ild rfl rfl (by omega) (fun x121 (hx121 : x121 = vi_ m 68 a) rx121 sx121 => ?_)
                      replace hx121 : x121 = x44 := hx121.trans h68_
                      subst x121
                      refine pw_call (As := [.int (ei_ (x44))]) (st := []) (k := 47) rfl rfl rfl rfl rfl (Nat.le_of_ble_eq_true rfl) ?_
                      refine pw_intro (I := iX9_kindOf) (T := tX9_kindOf) rfl rfl rfl ?_
                      refine pw_steps 3 (s' := (5, [some (.ref 47), some (.int (ei_ (x44)))], [.int (ei_ (x44)), .ref 66], m)) rfl ?_
                      refine pw_ildE (x := x117) rfl rfl (by omega) hx117 ?_
                      refine pw_iret rfl rfl rfl ?_
                      refine pw_steps 1 (s' := (95, [some (.ref 47), some (.int (ei_ (a))), some (.int (ei_ (b))), some (.int (ei_ (0)))], [.int (ei_ (x117))], m)) rfl ?_
                      refine pw_iret rfl rfl rfl ?_
                      have hx_ : (x117 : Int) = (-12) := by omega
                      exact ⟨(-12), rfl, congrArg (fun z_ : Int => some (Value.int (ei_ z_))) hx_, rR_sm (sm_rfl m) hR⟩
                    · refine pw_steps 1 (s' := (64, [some (.ref 47), some (.int (ei_ (a))), some (.int (ei_ (b))), some (.int (ei_ (0)))], [.int (ei_ (0))], m)) rfl ?_
                      refine pw_ifT rfl (by decide) (show 0 ≤ 0 by decide) ?_
                      refine pw_steps 2 (s' := (77, [some (.ref 47), some (.int (ei_ (a))), some (.int (ei_ (b))), some (.int (ei_ (0)))], [.int (ei_ (b)), .int (ei_ (0))], m)) rfl ?_
                      refine pw_cmpT rfl (by decide) q1 (show ¬ 0 = b by omega) ?_
                      refine pw_steps 1 (s' := (95, [some (.ref 47), some (.int (ei_ (a))), some (.int (ei_ (b))), some (.int (ei_ (0)))], [.int (ei_ ((-12)))], m)) rfl ?_
                      refine pw_iret rfl rfl rfl ?_
                      have hx_ : ((-12) : Int) = (-12) := by rfl
                      exact ⟨(-12), rfl, congrArg (fun z_ : Int => some (Value.int (ei_ z_))) hx_, rR_sm (sm_rfl m) hR⟩
                  · rw [h119]
                    refine pw_steps 2 (s' := (60, [some (.ref 47), some (.int (ei_ (a))), some (.int (ei_ (b))), some (.int (ei_ (1)))], [.int (ei_ (b)), .int (ei_ (1))], m)) rfl ?_
                    refine pw_cmp rfl (by decide) q1 (fun (h122 : 1 = b) => ?_) (fun (h122 : ¬ (1 = b)) => ?_)
                    · refine pw_steps 2 (s' := (77, [some (.ref 47), some (.int (ei_ (a))), some (.int (ei_ (b))), some (.int (ei_ (1)))], [.int (ei_ (b)), .int (ei_ (1))], m)) rfl ?_
                      refine pw_cmpF rfl (by decide) q1 (show ¬ (¬ 1 = b) by omega) ?_
                      refine pw_steps 4 (s' := (86, [some (.ref 47), some (.int (ei_ (a))), some (.int (ei_ (b))), some (.int (ei_ (1)))], [.int (ei_ (a)), .ref 68, .ref 47], m)) rfl ?_
                      refine pw_ild rfl rfl (by omega) (fun x123 (hx123 : x123 = vi_ m 68 a) rx123 sx123 => ?_)
                      replace hx123 : x123 = x44 := hx123.trans h68_
                      subst x123
                      refine pw_call (As := [.int (ei_ (x44))]) (st := []) (k := 47) rfl rfl rfl rfl rfl (Nat.le_of_ble_eq_true rfl) ?_
                      refine pw_intro (I := iX9_kindOf) (T := tX9_kindOf) rfl rfl rfl ?_
                      refine pw_steps 3 (s' := (5, [some (.ref 47), some (.int (ei_ (x44)))], [.int (ei_ (x44)), .ref 66], m)) rfl ?_
                      refine pw_ildE (x := x117) rfl rfl (by omega) hx117 ?_
                      refine pw_iret rfl rfl rfl ?_
                      refine pw_steps 1 (s' := (95, [some (.ref 47), some (.int (ei_ (a))), some (.int (ei_ (b))), some (.int (ei_ (1)))], [.int (ei_ (x117))], m)) rfl ?_
                      refine pw_iret rfl rfl rfl ?_
                      have hx_ : (x117 : Int) = (-12) := by omega
                      exact ⟨(-12), rfl, congrArg (fun z_ : Int => some (Value.int (ei_ z_))) hx_, rR_sm (sm_rfl m) hR⟩
                    · refine pw_steps 1 (s' := (64, [some (.ref 47), some (.int (ei_ (a))), some (.int (ei_ (b))), some (.int (ei_ (1)))], [.int (ei_ (1))], m)) rfl ?_
                      refine pw_ifF rfl (by decide) (show ¬ (1 ≤ 0) by decide) ?_
                      refine pw_steps 1 (s' := (68, [some (.ref 47), some (.int (ei_ (a))), some (.int (ei_ (b))), some (.int (ei_ (1)))], [.int (ei_ (1))], m)) rfl ?_
                      refine pw_callS (As := [.int (ei_ (1))]) (st := []) rfl (by decide) rfl rfl (Nat.le_of_ble_eq_true rfl) ?_
                      refine pw_intro (I := iX9_above) (T := tX9_above) rfl rfl rfl ?_
                      refine pw_steps 2 (s' := (2, [some (.int (ei_ (1)))], [.int (ei_ (3)), .int (ei_ (1))], m)) rfl ?_
                      refine pw_cmpT rfl (by decide) (by decide) (show ¬ 1 = 3 by decide) ?_
                      refine pw_steps 2 (s' := (11, [some (.int (ei_ (1)))], [.int (ei_ (4)), .int (ei_ (1))], m)) rfl ?_
                      refine pw_cmpT rfl (by decide) (by decide) (show ¬ 1 = 4 by decide) ?_
                      refine pw_steps 2 (s' := (20, [some (.int (ei_ (1)))], [.int (ei_ (5)), .int (ei_ (1))], m)) rfl ?_
                      refine pw_cmpT rfl (by decide) (by decide) (show ¬ 1 = 5 by decide) ?_
                      refine pw_steps 2 (s' := (30, [some (.int (ei_ (1)))], [.int (ei_ (7)), .int (ei_ (1))], m)) rfl ?_
                      refine pw_cmpT rfl (by decide) (by decide) (show ¬ 1 = 7 by decide) ?_
                      refine pw_steps 1 (s' := (38, [some (.int (ei_ (1)))], [.int (ei_ (0))], m)) rfl ?_
                      refine pw_iret rfl rfl rfl ?_
                      refine pw_steps 4 (s' := (60, [some (.ref 47), some (.int (ei_ (a))), some (.int (ei_ (b))), some (.int (ei_ (0)))], [.int (ei_ (b)), .int (ei_ (0))], m)) rfl ?_
                      refine pw_cmp rfl (by decide) q1 (fun (h124 : 0 = b) => ?_) (fun (h124 : ¬ (0 = b)) => ?_)
                      · refine pw_steps 2 (s' := (77, [some (.ref 47), some (.int (ei_ (a))), some (.int (ei_ (b))), some (.int (ei_ (0)))], [.int (ei_ (b)), .int (ei_ (0))], m)) rfl ?_
                        refine pw_cmpF rfl (by decide) q1 (show ¬ (¬ 0 = b) by omega) ?_
                        refine pw_steps 4 (s' := (86, [some (.ref 47), some (.int (ei_ (a))), some (.int (ei_ (b))), some (.int (ei_ (0)))], [.int (ei_ (a)), .ref 68, .ref 47], m)) rfl ?_
                        refine pw_ild rfl rfl (by omega) (fun x125 (hx125 : x125 = vi_ m 68 a) rx125 sx125 => ?_)
                        replace hx125 : x125 = x44 := hx125.trans h68_
                        subst x125
                        refine pw_call (As := [.int (ei_ (x44))]) (st := []) (k := 47) rfl rfl rfl rfl rfl (Nat.le_of_ble_eq_true rfl) ?_
                        refine pw_intro (I := iX9_kindOf) (T := tX9_kindOf) rfl rfl rfl ?_
                        refine pw_steps 3 (s' := (5, [some (.ref 47), some (.int (ei_ (x44)))], [.int (ei_ (x44)), .ref 66], m)) rfl ?_
                        refine pw_ildE (x := x117) rfl rfl (by omega) hx117 ?_
                        refine pw_iret rfl rfl rfl ?_
                        refine pw_steps 1 (s' := (95, [some (.ref 47), some (.int (ei_ (a))), some (.int (ei_ (b))), some (.int (ei_ (0)))], [.int (ei_ (x117))], m)) rfl ?_
                        refine pw_iret rfl rfl rfl ?_
                        have hx_ : (x117 : Int) = (-12) := by omega
                        exact ⟨(-12), rfl, congrArg (fun z_ : Int => some (Value.int (ei_ z_))) hx_, rR_sm (sm_rfl m) hR⟩
                      · refine pw_steps 1 (s' := (64, [some (.ref 47), some (.int (ei_ (a))), some (.int (ei_ (b))), some (.int (ei_ (0)))], [.int (ei_ (0))], m)) rfl ?_
                        refine pw_ifT rfl (by decide) (show 0 ≤ 0 by decide) ?_
                        refine pw_steps 2 (s' := (77, [some (.ref 47), some (.int (ei_ (a))), some (.int (ei_ (b))), some (.int (ei_ (0)))], [.int (ei_ (b)), .int (ei_ (0))], m)) rfl ?_
                        refine pw_cmpT rfl (by decide) q1 (show ¬ 0 = b by omega) ?_
                        refine pw_steps 1 (s' := (95, [some (.ref 47), some (.int (ei_ (a))), some (.int (ei_ (b))), some (.int (ei_ (0)))], [.int (ei_ ((-12)))], m)) rfl ?_
                        refine pw_iret rfl rfl rfl ?_
                        have hx_ : ((-12) : Int) = (-12) := by rfl
                        exact ⟨(-12), rfl, congrArg (fun z_ : Int => some (Value.int (ei_ z_))) hx_, rR_sm (sm_rfl m) hR⟩
                  · rw [h119]
                    refine pw_steps 2 (s' := (60, [some (.ref 47), some (.int (ei_ (a))), some (.int (ei_ (b))), some (.int (ei_ (2)))], [.int (ei_ (b)), .int (ei_ (2))], m)) rfl ?_
                    refine pw_cmp rfl (by decide) q1 (fun (h126 : 2 = b) => ?_) (fun (h126 : ¬ (2 = b)) => ?_)
                    · refine pw_steps 2 (s' := (77, [some (.ref 47), some (.int (ei_ (a))), some (.int (ei_ (b))), some (.int (ei_ (2)))], [.int (ei_ (b)), .int (ei_ (2))], m)) rfl ?_
                      refine pw_cmpF rfl (by decide) q1 (show ¬ (¬ 2 = b) by omega) ?_
                      refine pw_steps 4 (s' := (86, [some (.ref 47), some (.int (ei_ (a))), some (.int (ei_ (b))), some (.int (ei_ (2)))], [.int (ei_ (a)), .ref 68, .ref 47], m)) rfl ?_
                      refine pw_ild rfl rfl (by omega) (fun x127 (hx127 : x127 = vi_ m 68 a) rx127 sx127 => ?_)
                      replace hx127 : x127 = x44 := hx127.trans h68_
                      subst x127
                      refine pw_call (As := [.int (ei_ (x44))]) (st := []) (k := 47) rfl rfl rfl rfl rfl (Nat.le_of_ble_eq_true rfl) ?_
                      refine pw_intro (I := iX9_kindOf) (T := tX9_kindOf) rfl rfl rfl ?_
                      refine pw_steps 3 (s' := (5, [some (.ref 47), some (.int (ei_ (x44)))], [.int (ei_ (x44)), .ref 66], m)) rfl ?_
                      refine pw_ildE (x := x117) rfl rfl (by omega) hx117 ?_
                      refine pw_iret rfl rfl rfl ?_
                      refine pw_steps 1 (s' := (95, [some (.ref 47), some (.int (ei_ (a))), some (.int (ei_ (b))), some (.int (ei_ (2)))], [.int (ei_ (x117))], m)) rfl ?_
                      refine pw_iret rfl rfl rfl ?_
                      have hx_ : (x117 : Int) = (-12) := by omega
                      exact ⟨(-12), rfl, congrArg (fun z_ : Int => some (Value.int (ei_ z_))) hx_, rR_sm (sm_rfl m) hR⟩
                    · refine pw_steps 1 (s' := (64, [some (.ref 47), some (.int (ei_ (a))), some (.int (ei_ (b))), some (.int (ei_ (2)))], [.int (ei_ (2))], m)) rfl ?_
                      refine pw_ifF rfl (by decide) (show ¬ (2 ≤ 0) by decide) ?_
                      refine pw_steps 1 (s' := (68, [some (.ref 47), some (.int (ei_ (a))), some (.int (ei_ (b))), some (.int (ei_ (2)))], [.int (ei_ (2))], m)) rfl ?_
                      refine pw_callS (As := [.int (ei_ (2))]) (st := []) rfl (by decide) rfl rfl (Nat.le_of_ble_eq_true rfl) ?_
                      refine pw_intro (I := iX9_above) (T := tX9_above) rfl rfl rfl ?_
                      refine pw_steps 2 (s' := (2, [some (.int (ei_ (2)))], [.int (ei_ (3)), .int (ei_ (2))], m)) rfl ?_
                      refine pw_cmpT rfl (by decide) (by decide) (show ¬ 2 = 3 by decide) ?_
                      refine pw_steps 2 (s' := (11, [some (.int (ei_ (2)))], [.int (ei_ (4)), .int (ei_ (2))], m)) rfl ?_
                      refine pw_cmpT rfl (by decide) (by decide) (show ¬ 2 = 4 by decide) ?_
                      refine pw_steps 2 (s' := (20, [some (.int (ei_ (2)))], [.int (ei_ (5)), .int (ei_ (2))], m)) rfl ?_
                      refine pw_cmpT rfl (by decide) (by decide) (show ¬ 2 = 5 by decide) ?_
                      refine pw_steps 2 (s' := (30, [some (.int (ei_ (2)))], [.int (ei_ (7)), .int (ei_ (2))], m)) rfl ?_
                      refine pw_cmpT rfl (by decide) (by decide) (show ¬ 2 = 7 by decide) ?_
                      refine pw_steps 1 (s' := (38, [some (.int (ei_ (2)))], [.int (ei_ (0))], m)) rfl ?_
                      refine pw_iret rfl rfl rfl ?_
                      refine pw_steps 4 (s' := (60, [some (.ref 47), some (.int (ei_ (a))), some (.int (ei_ (b))), some (.int (ei_ (0)))], [.int (ei_ (b)), .int (ei_ (0))], m)) rfl ?_
                      refine pw_cmp rfl (by decide) q1 (fun (h128 : 0 = b) => ?_) (fun (h128 : ¬ (0 = b)) => ?_)
                      · refine pw_steps 2 (s' := (77, [some (.ref 47), some (.int (ei_ (a))), some (.int (ei_ (b))), some (.int (ei_ (0)))], [.int (ei_ (b)), .int (ei_ (0))], m)) rfl ?_
                        refine pw_cmpF rfl (by decide) q1 (show ¬ (¬ 0 = b) by omega) ?_
                        refine pw_steps 4 (s' := (86, [some (.ref 47), some (.int (ei_ (a))), some (.int (ei_ (b))), some (.int (ei_ (0)))], [.int (ei_ (a)), .ref 68, .ref 47], m)) rfl ?_
                        refine pw_ild rfl rfl (by omega) (fun x129 (hx129 : x129 = vi_ m 68 a) rx129 sx129 => ?_)
                        replace hx129 : x129 = x44 := hx129.trans h68_
                        subst x129
                        refine pw_call (As := [.int (ei_ (x44))]) (st := []) (k := 47) rfl rfl rfl rfl rfl (Nat.le_of_ble_eq_true rfl) ?_
                        refine pw_intro (I := iX9_kindOf) (T := tX9_kindOf) rfl rfl rfl ?_
                        refine pw_steps 3 (s' := (5, [some (.ref 47), some (.int (ei_ (x44)))], [.int (ei_ (x44)), .ref 66], m)) rfl ?_
                        refine pw_ildE (x := x117) rfl rfl (by omega) hx117 ?_
                        refine pw_iret rfl rfl rfl ?_
                        refine pw_steps 1 (s' := (95, [some (.ref 47), some (.int (ei_ (a))), some (.int (ei_ (b))), some (.int (ei_ (0)))], [.int (ei_ (x117))], m)) rfl ?_
                        refine pw_iret rfl rfl rfl ?_
                        have hx_ : (x117 : Int) = (-12) := by omega
                        exact ⟨(-12), rfl, congrArg (fun z_ : Int => some (Value.int (ei_ z_))) hx_, rR_sm (sm_rfl m) hR⟩
                      · refine pw_steps 1 (s' := (64, [some (.ref 47), some (.int (ei_ (a))), some (.int (ei_ (b))), some (.int (ei_ (0)))], [.int (ei_ (0))], m)) rfl ?_
                        refine pw_ifT rfl (by decide) (show 0 ≤ 0 by decide) ?_
                        refine pw_steps 2 (s' := (77, [some (.ref 47), some (.int (ei_ (a))), some (.int (ei_ (b))), some (.int (ei_ (0)))], [.int (ei_ (b)), .int (ei_ (0))], m)) rfl ?_
                        refine pw_cmpT rfl (by decide) q1 (show ¬ 0 = b by omega) ?_
                        refine pw_steps 1 (s' := (95, [some (.ref 47), some (.int (ei_ (a))), some (.int (ei_ (b))), some (.int (ei_ (0)))], [.int (ei_ ((-12)))], m)) rfl ?_
                        refine pw_iret rfl rfl rfl ?_
                        have hx_ : ((-12) : Int) = (-12) := by rfl
                        exact ⟨(-12), rfl, congrArg (fun z_ : Int => some (Value.int (ei_ z_))) hx_, rR_sm (sm_rfl m) hR⟩
                  · rw [h119]
                    refine pw_steps 2 (s' := (60, [some (.ref 47), some (.int (ei_ (a))), some (.int (ei_ (b))), some (.int (ei_ (3)))], [.int (ei_ (b)), .int (ei_ (3))], m)) rfl ?_
                    refine pw_cmp rfl (by decide) q1 (fun (h130 : 3 = b) => ?_) (fun (h130 : ¬ (3 = b)) => ?_)
                    · refine pw_steps 2 (s' := (77, [some (.ref 47), some (.int (ei_ (a))), some (.int (ei_ (b))), some (.int (ei_ (3)))], [.int (ei_ (b)), .int (ei_ (3))], m)) rfl ?_
                      refine pw_cmpF rfl (by decide) q1 (show ¬ (¬ 3 = b) by omega) ?_
                      refine pw_steps 4 (s' := (86, [some (.ref 47), some (.int (ei_ (a))), some (.int (ei_ (b))), some (.int (ei_ (3)))], [.int (ei_ (a)), .ref 68, .ref 47], m)) rfl ?_
                      refine pw_ild rfl rfl (by omega) (fun x131 (hx131 : x131 = vi_ m 68 a) rx131 sx131 => ?_)
                      replace hx131 : x131 = x44 := hx131.trans h68_
                      subst x131
                      refine pw_call (As := [.int (ei_ (x44))]) (st := []) (k := 47) rfl rfl rfl rfl rfl (Nat.le_of_ble_eq_true rfl) ?_
                      refine pw_intro (I := iX9_kindOf) (T := tX9_kindOf) rfl rfl rfl ?_
                      refine pw_steps 3 (s' := (5, [some (.ref 47), some (.int (ei_ (x44)))], [.int (ei_ (x44)), .ref 66], m)) rfl ?_
                      refine pw_ildE (x := x117) rfl rfl (by omega) hx117 ?_
                      refine pw_iret rfl rfl rfl ?_
                      refine pw_steps 1 (s' := (95, [some (.ref 47), some (.int (ei_ (a))), some (.int (ei_ (b))), some (.int (ei_ (3)))], [.int (ei_ (x117))], m)) rfl ?_
                      refine pw_iret rfl rfl rfl ?_
                      have hx_ : (x117 : Int) = (-12) := by omega
                      exact ⟨(-12), rfl, congrArg (fun z_ : Int => some (Value.int (ei_ z_))) hx_, rR_sm (sm_rfl m) hR⟩
                    · refine pw_steps 1 (s' := (64, [some (.ref 47), some (.int (ei_ (a))), some (.int (ei_ (b))), some (.int (ei_ (3)))], [.int (ei_ (3))], m)) rfl ?_
                      refine pw_ifF rfl (by decide) (show ¬ (3 ≤ 0) by decide) ?_
                      refine pw_steps 1 (s' := (68, [some (.ref 47), some (.int (ei_ (a))), some (.int (ei_ (b))), some (.int (ei_ (3)))], [.int (ei_ (3))], m)) rfl ?_
                      refine pw_callS (As := [.int (ei_ (3))]) (st := []) rfl (by decide) rfl rfl (Nat.le_of_ble_eq_true rfl) ?_
                      refine pw_intro (I := iX9_above) (T := tX9_above) rfl rfl rfl ?_
                      refine pw_steps 2 (s' := (2, [some (.int (ei_ (3)))], [.int (ei_ (3)), .int (ei_ (3))], m)) rfl ?_
                      refine pw_cmpF rfl (by decide) (by decide) (show ¬ (¬ 3 = 3) by decide) ?_
                      refine pw_steps 2 (s' := (38, [some (.int (ei_ (3)))], [.int (ei_ (2))], m)) rfl ?_
                      refine pw_iret rfl rfl rfl ?_
                      refine pw_steps 4 (s' := (60, [some (.ref 47), some (.int (ei_ (a))), some (.int (ei_ (b))), some (.int (ei_ (2)))], [.int (ei_ (b)), .int (ei_ (2))], m)) rfl ?_
                      refine pw_cmp rfl (by decide) q1 (fun (h132 : 2 = b) => ?_) (fun (h132 : ¬ (2 = b)) => ?_)
                      · refine pw_steps 2 (s' := (77, [some (.ref 47), some (.int (ei_ (a))), some (.int (ei_ (b))), some (.int (ei_ (2)))], [.int (ei_ (b)), .int (ei_ (2))], m)) rfl ?_
                        refine pw_cmpF rfl (by decide) q1 (show ¬ (¬ 2 = b) by omega) ?_
                        refine pw_steps 4 (s' := (86, [some (.ref 47), some (.int (ei_ (a))), some (.int (ei_ (b))), some (.int (ei_ (2)))], [.int (ei_ (a)), .ref 68, .ref 47], m)) rfl ?_
                        refine pw_ild rfl rfl (by omega) (fun x133 (hx133 : x133 = vi_ m 68 a) rx133 sx133 => ?_)
                        replace hx133 : x133 = x44 := hx133.trans h68_
                        subst x133
                        refine pw_call (As := [.int (ei_ (x44))]) (st := []) (k := 47) rfl rfl rfl rfl rfl (Nat.le_of_ble_eq_true rfl) ?_
                        refine pw_intro (I := iX9_kindOf) (T := tX9_kindOf) rfl rfl rfl ?_
                        refine pw_steps 3 (s' := (5, [some (.ref 47), some (.int (ei_ (x44)))], [.int (ei_ (x44)), .ref 66], m)) rfl ?_
                        refine pw_ildE (x := x117) rfl rfl (by omega) hx117 ?_
                        refine pw_iret rfl rfl rfl ?_
                        refine pw_steps 1 (s' := (95, [some (.ref 47), some (.int (ei_ (a))), some (.int (ei_ (b))), some (.int (ei_ (2)))], [.int (ei_ (x117))], m)) rfl ?_
                        refine pw_iret rfl rfl rfl ?_
                        have hx_ : (x117 : Int) = (-12) := by omega
                        exact ⟨(-12), rfl, congrArg (fun z_ : Int => some (Value.int (ei_ z_))) hx_, rR_sm (sm_rfl m) hR⟩
                      · refine pw_steps 1 (s' := (64, [some (.ref 47), some (.int (ei_ (a))), some (.int (ei_ (b))), some (.int (ei_ (2)))], [.int (ei_ (2))], m)) rfl ?_
                        refine pw_ifF rfl (by decide) (show ¬ (2 ≤ 0) by decide) ?_
                        refine pw_steps 1 (s' := (68, [some (.ref 47), some (.int (ei_ (a))), some (.int (ei_ (b))), some (.int (ei_ (2)))], [.int (ei_ (2))], m)) rfl ?_
                        refine pw_callS (As := [.int (ei_ (2))]) (st := []) rfl (by decide) rfl rfl (Nat.le_of_ble_eq_true rfl) ?_
                        refine pw_intro (I := iX9_above) (T := tX9_above) rfl rfl rfl ?_
                        refine pw_steps 2 (s' := (2, [some (.int (ei_ (2)))], [.int (ei_ (3)), .int (ei_ (2))], m)) rfl ?_
                        refine pw_cmpT rfl (by decide) (by decide) (show ¬ 2 = 3 by decide) ?_
                        refine pw_steps 2 (s' := (11, [some (.int (ei_ (2)))], [.int (ei_ (4)), .int (ei_ (2))], m)) rfl ?_
                        refine pw_cmpT rfl (by decide) (by decide) (show ¬ 2 = 4 by decide) ?_
                        refine pw_steps 2 (s' := (20, [some (.int (ei_ (2)))], [.int (ei_ (5)), .int (ei_ (2))], m)) rfl ?_
                        refine pw_cmpT rfl (by decide) (by decide) (show ¬ 2 = 5 by decide) ?_
                        refine pw_steps 2 (s' := (30, [some (.int (ei_ (2)))], [.int (ei_ (7)), .int (ei_ (2))], m)) rfl ?_
                        refine pw_cmpT rfl (by decide) (by decide) (show ¬ 2 = 7 by decide) ?_
                        refine pw_steps 1 (s' := (38, [some (.int (ei_ (2)))], [.int (ei_ (0))], m)) rfl ?_
                        refine pw_iret rfl rfl rfl ?_
                        refine pw_steps 4 (s' := (60, [some (.ref 47), some (.int (ei_ (a))), some (.int (ei_ (b))), some (.int (ei_ (0)))], [.int (ei_ (b)), .int (ei_ (0))], m)) rfl ?_
                        refine pw_cmp rfl (by decide) q1 (fun (h134 : 0 = b) => ?_) (fun (h134 : ¬ (0 = b)) => ?_)
                        · refine pw_steps 2 (s' := (77, [some (.ref 47), some (.int (ei_ (a))), some (.int (ei_ (b))), some (.int (ei_ (0)))], [.int (ei_ (b)), .int (ei_ (0))], m)) rfl ?_
                          refine pw_cmpF rfl (by decide) q1 (show ¬ (¬ 0 = b) by omega) ?_
                          refine pw_steps 4 (s' := (86, [some (.ref 47), some (.int (ei_ (a))), some (.int (ei_ (b))), some (.int (ei_ (0)))], [.int (ei_ (a)), .ref 68, .ref 47], m)) rfl ?_
                          refine pw_ild rfl rfl (by omega) (fun x135 (hx135 : x135 = vi_ m 68 a) rx135 sx135 => ?_)
                          replace hx135 : x135 = x44 := hx135.trans h68_
                          subst x135
                          refine pw_call (As := [.int (ei_ (x44))]) (st := []) (k := 47) rfl rfl rfl rfl rfl (Nat.le_of_ble_eq_true rfl) ?_
                          refine pw_intro (I := iX9_kindOf) (T := tX9_kindOf) rfl rfl rfl ?_
                          refine pw_steps 3 (s' := (5, [some (.ref 47), some (.int (ei_ (x44)))], [.int (ei_ (x44)), .ref 66], m)) rfl ?_
                          refine pw_ildE (x := x117) rfl rfl (by omega) hx117 ?_
                          refine pw_iret rfl rfl rfl ?_
                          refine pw_steps 1 (s' := (95, [some (.ref 47), some (.int (ei_ (a))), some (.int (ei_ (b))), some (.int (ei_ (0)))], [.int (ei_ (x117))], m)) rfl ?_
                          refine pw_iret rfl rfl rfl ?_
                          have hx_ : (x117 : Int) = (-12) := by omega
                          exact ⟨(-12), rfl, congrArg (fun z_ : Int => some (Value.int (ei_ z_))) hx_, rR_sm (sm_rfl m) hR⟩
                        · refine pw_steps 1 (s' := (64, [some (.ref 47), some (.int (ei_ (a))), some (.int (ei_ (b))), some (.int (ei_ (0)))], [.int (ei_ (0))], m)) rfl ?_
                          refine pw_ifT rfl (by decide) (show 0 ≤ 0 by decide) ?_
                          refine pw_steps 2 (s' := (77, [some (.ref 47), some (.int (ei_ (a))), some (.int (ei_ (b))), some (.int (ei_ (0)))], [.int (ei_ (b)), .int (ei_ (0))], m)) rfl ?_
                          refine pw_cmpT rfl (by decide) q1 (show ¬ 0 = b by omega) ?_
                          refine pw_steps 1 (s' := (95, [some (.ref 47), some (.int (ei_ (a))), some (.int (ei_ (b))), some (.int (ei_ (0)))], [.int (ei_ ((-12)))], m)) rfl ?_
                          refine pw_iret rfl rfl rfl ?_
                          have hx_ : ((-12) : Int) = (-12) := by rfl
                          exact ⟨(-12), rfl, congrArg (fun z_ : Int => some (Value.int (ei_ z_))) hx_, rR_sm (sm_rfl m) hR⟩
                  · rw [h119]
                    refine pw_steps 2 (s' := (60, [some (.ref 47), some (.int (ei_ (a))), some (.int (ei_ (b))), some (.int (ei_ (4)))], [.int (ei_ (b)), .int (ei_ (4))], m)) rfl ?_
                    refine pw_cmp rfl (by decide) q1 (fun (h136 : 4 = b) => ?_) (fun (h136 : ¬ (4 = b)) => ?_)
                    · refine pw_steps 2 (s' := (77, [some (.ref 47), some (.int (ei_ (a))), some (.int (ei_ (b))), some (.int (ei_ (4)))], [.int (ei_ (b)), .int (ei_ (4))], m)) rfl ?_
                      refine pw_cmpF rfl (by decide) q1 (show ¬ (¬ 4 = b) by omega) ?_
                      refine pw_steps 4 (s' := (86, [some (.ref 47), some (.int (ei_ (a))), some (.int (ei_ (b))), some (.int (ei_ (4)))], [.int (ei_ (a)), .ref 68, .ref 47], m)) rfl ?_
                      refine pw_ild rfl rfl (by omega) (fun x137 (hx137 : x137 = vi_ m 68 a) rx137 sx137 => ?_)
                      replace hx137 : x137 = x44 := hx137.trans h68_
                      subst x137
                      refine pw_call (As := [.int (ei_ (x44))]) (st := []) (k := 47) rfl rfl rfl rfl rfl (Nat.le_of_ble_eq_true rfl) ?_
                      refine pw_intro (I := iX9_kindOf) (T := tX9_kindOf) rfl rfl rfl ?_
                      refine pw_steps 3 (s' := (5, [some (.ref 47), some (.int (ei_ (x44)))], [.int (ei_ (x44)), .ref 66], m)) rfl ?_
                      refine pw_ildE (x := x117) rfl rfl (by omega) hx117 ?_
                      refine pw_iret rfl rfl rfl ?_
                      refine pw_steps 1 (s' := (95, [some (.ref 47), some (.int (ei_ (a))), some (.int (ei_ (b))), some (.int (ei_ (4)))], [.int (ei_ (x117))], m)) rfl ?_
                      refine pw_iret rfl rfl rfl ?_
                      have hx_ : (x117 : Int) = (-12) := by omega
                      exact ⟨(-12), rfl, congrArg (fun z_ : Int => some (Value.int (ei_ z_))) hx_, rR_sm (sm_rfl m) hR⟩
                    · refine pw_steps 1 (s' := (64, [some (.ref 47), some (.int (ei_ (a))), some (.int (ei_ (b))), some (.int (ei_ (4)))], [.int (ei_ (4))], m)) rfl ?_
                      refine pw_ifF rfl (by decide) (show ¬ (4 ≤ 0) by decide) ?_
                      refine pw_steps 1 (s' := (68, [some (.ref 47), some (.int (ei_ (a))), some (.int (ei_ (b))), some (.int (ei_ (4)))], [.int (ei_ (4))], m)) rfl ?_
                      refine pw_callS (As := [.int (ei_ (4))]) (st := []) rfl (by decide) rfl rfl (Nat.le_of_ble_eq_true rfl) ?_
                      refine pw_intro (I := iX9_above) (T := tX9_above) rfl rfl rfl ?_
                      refine pw_steps 2 (s' := (2, [some (.int (ei_ (4)))], [.int (ei_ (3)), .int (ei_ (4))], m)) rfl ?_
                      refine pw_cmpT rfl (by decide) (by decide) (show ¬ 4 = 3 by decide) ?_
                      refine pw_steps 2 (s' := (11, [some (.int (ei_ (4)))], [.int (ei_ (4)), .int (ei_ (4))], m)) rfl ?_
                      refine pw_cmpF rfl (by decide) (by decide) (show ¬ (¬ 4 = 4) by decide) ?_
                      refine pw_steps 2 (s' := (38, [some (.int (ei_ (4)))], [.int (ei_ (1))], m)) rfl ?_
                      refine pw_iret rfl rfl rfl ?_
                      refine pw_steps 4 (s' := (60, [some (.ref 47), some (.int (ei_ (a))), some (.int (ei_ (b))), some (.int (ei_ (1)))], [.int (ei_ (b)), .int (ei_ (1))], m)) rfl ?_
                      refine pw_cmp rfl (by decide) q1 (fun (h138 : 1 = b) => ?_) (fun (h138 : ¬ (1 = b)) => ?_)
                      · refine pw_steps 2 (s' := (77, [some (.ref 47), some (.int (ei_ (a))), some (.int (ei_ (b))), some (.int (ei_ (1)))], [.int (ei_ (b)), .int (ei_ (1))], m)) rfl ?_
                        refine pw_cmpF rfl (by decide) q1 (show ¬ (¬ 1 = b) by omega) ?_
                        refine pw_steps 4 (s' := (86, [some (.ref 47), some (.int (ei_ (a))), some (.int (ei_ (b))), some (.int (ei_ (1)))], [.int (ei_ (a)), .ref 68, .ref 47], m)) rfl ?_
                        refine pw_ild rfl rfl (by omega) (fun x139 (hx139 : x139 = vi_ m 68 a) rx139 sx139 => ?_)
                        replace hx139 : x139 = x44 := hx139.trans h68_
                        subst x139
                        refine pw_call (As := [.int (ei_ (x44))]) (st := []) (k := 47) rfl rfl rfl rfl rfl (Nat.le_of_ble_eq_true rfl) ?_
                        refine pw_intro (I := iX9_kindOf) (T := tX9_kindOf) rfl rfl rfl ?_
                        refine pw_steps 3 (s' := (5, [some (.ref 47), some (.int (ei_ (x44)))], [.int (ei_ (x44)), .ref 66], m)) rfl ?_
                        refine pw_ildE (x := x117) rfl rfl (by omega) hx117 ?_
                        refine pw_iret rfl rfl rfl ?_
                        refine pw_steps 1 (s' := (95, [some (.ref 47), some (.int (ei_ (a))), some (.int (ei_ (b))), some (.int (ei_ (1)))], [.int (ei_ (x117))], m)) rfl ?_
                        refine pw_iret rfl rfl rfl ?_
                        have hx_ : (x117 : Int) = (-12) := by omega
                        exact ⟨(-12), rfl, congrArg (fun z_ : Int => some (Value.int (ei_ z_))) hx_, rR_sm (sm_rfl m) hR⟩
                      · refine pw_steps 1 (s' := (64, [some (.ref 47), some (.int (ei_ (a))), some (.int (ei_ (b))), some (.int (ei_ (1)))], [.int (ei_ (1))], m)) rfl ?_
                        refine pw_ifF rfl (by decide) (show ¬ (1 ≤ 0) by decide) ?_
                        refine pw_steps 1 (s' := (68, [some (.ref 47), some (.int (ei_ (a))), some (.int (ei_ (b))), some (.int (ei_ (1)))], [.int (ei_ (1))], m)) rfl ?_
                        refine pw_callS (As := [.int (ei_ (1))]) (st := []) rfl (by decide) rfl rfl (Nat.le_of_ble_eq_true rfl) ?_
                        refine pw_intro (I := iX9_above) (T := tX9_above) rfl rfl rfl ?_
                        refine pw_steps 2 (s' := (2, [some (.int (ei_ (1)))], [.int (ei_ (3)), .int (ei_ (1))], m)) rfl ?_
                        refine pw_cmpT rfl (by decide) (by decide) (show ¬ 1 = 3 by decide) ?_
                        refine pw_steps 2 (s' := (11, [some (.int (ei_ (1)))], [.int (ei_ (4)), .int (ei_ (1))], m)) rfl ?_
                        refine pw_cmpT rfl (by decide) (by decide) (show ¬ 1 = 4 by decide) ?_
                        refine pw_steps 2 (s' := (20, [some (.int (ei_ (1)))], [.int (ei_ (5)), .int (ei_ (1))], m)) rfl ?_
                        refine pw_cmpT rfl (by decide) (by decide) (show ¬ 1 = 5 by decide) ?_
                        refine pw_steps 2 (s' := (30, [some (.int (ei_ (1)))], [.int (ei_ (7)), .int (ei_ (1))], m)) rfl ?_
                        refine pw_cmpT rfl (by decide) (by decide) (show ¬ 1 = 7 by decide) ?_
                        refine pw_steps 1 (s' := (38, [some (.int (ei_ (1)))], [.int (ei_ (0))], m)) rfl ?_
                        refine pw_iret rfl rfl rfl ?_
                        refine pw_steps 4 (s' := (60, [some (.ref 47), some (.int (ei_ (a))), some (.int (ei_ (b))), some (.int (ei_ (0)))], [.int (ei_ (b)), .int (ei_ (0))], m)) rfl ?_
                        refine pw_cmp rfl (by decide) q1 (fun (h140 : 0 = b) => ?_) (fun (h140 : ¬ (0 = b)) => ?_)
                        · refine pw_steps 2 (s' := (77, [some (.ref 47), some (.int (ei_ (a))), some (.int (ei_ (b))), some (.int (ei_ (0)))], [.int (ei_ (b)), .int (ei_ (0))], m)) rfl ?_
                          refine pw_cmpF rfl (by decide) q1 (show ¬ (¬ 0 = b) by omega) ?_
                          refine pw_steps 4 (s' := (86, [some (.ref 47), some (.int (ei_ (a))), some (.int (ei_ (b))), some (.int (ei_ (0)))], [.int (ei_ (a)), .ref 68, .ref 47], m)) rfl ?_
                          refine pw_ild rfl rfl (by omega) (fun x141 (hx141 : x141 = vi_ m 68 a) rx141 sx141 => ?_)
                          replace hx141 : x141 = x44 := hx141.trans h68_
                          subst x141
                          refine pw_call (As := [.int (ei_ (x44))]) (st := []) (k := 47) rfl rfl rfl rfl rfl (Nat.le_of_ble_eq_true rfl) ?_
                          refine pw_intro (I := iX9_kindOf) (T := tX9_kindOf) rfl rfl rfl ?_
                          refine pw_steps 3 (s' := (5, [some (.ref 47), some (.int (ei_ (x44)))], [.int (ei_ (x44)), .ref 66], m)) rfl ?_
                          refine pw_ildE (x := x117) rfl rfl (by omega) hx117 ?_
                          refine pw_iret rfl rfl rfl ?_
                          refine pw_steps 1 (s' := (95, [some (.ref 47), some (.int (ei_ (a))), some (.int (ei_ (b))), some (.int (ei_ (0)))], [.int (ei_ (x117))], m)) rfl ?_
                          refine pw_iret rfl rfl rfl ?_
                          have hx_ : (x117 : Int) = (-12) := by omega
                          exact ⟨(-12), rfl, congrArg (fun z_ : Int => some (Value.int (ei_ z_))) hx_, rR_sm (sm_rfl m) hR⟩
                        · refine pw_steps 1 (s' := (64, [some (.ref 47), some (.int (ei_ (a))), some (.int (ei_ (b))), some (.int (ei_ (0)))], [.int (ei_ (0))], m)) rfl ?_
                          refine pw_ifT rfl (by decide) (show 0 ≤ 0 by decide) ?_
                          refine pw_steps 2 (s' := (77, [some (.ref 47), some (.int (ei_ (a))), some (.int (ei_ (b))), some (.int (ei_ (0)))], [.int (ei_ (b)), .int (ei_ (0))], m)) rfl ?_
                          refine pw_cmpT rfl (by decide) q1 (show ¬ 0 = b by omega) ?_
                          refine pw_steps 1 (s' := (95, [some (.ref 47), some (.int (ei_ (a))), some (.int (ei_ (b))), some (.int (ei_ (0)))], [.int (ei_ ((-12)))], m)) rfl ?_
                          refine pw_iret rfl rfl rfl ?_
                          have hx_ : ((-12) : Int) = (-12) := by rfl
                          exact ⟨(-12), rfl, congrArg (fun z_ : Int => some (Value.int (ei_ z_))) hx_, rR_sm (sm_rfl m) hR⟩
                  · rw [h119]
                    refine pw_steps 2 (s' := (60, [some (.ref 47), some (.int (ei_ (a))), some (.int (ei_ (b))), some (.int (ei_ (5)))], [.int (ei_ (b)), .int (ei_ (5))], m)) rfl ?_
                    refine pw_cmp rfl (by decide) q1 (fun (h142 : 5 = b) => ?_) (fun (h142 : ¬ (5 = b)) => ?_)
                    · refine pw_steps 2 (s' := (77, [some (.ref 47), some (.int (ei_ (a))), some (.int (ei_ (b))), some (.int (ei_ (5)))], [.int (ei_ (b)), .int (ei_ (5))], m)) rfl ?_
                      refine pw_cmpF rfl (by decide) q1 (show ¬ (¬ 5 = b) by omega) ?_
                      refine pw_steps 4 (s' := (86, [some (.ref 47), some (.int (ei_ (a))), some (.int (ei_ (b))), some (.int (ei_ (5)))], [.int (ei_ (a)), .ref 68, .ref 47], m)) rfl ?_
                      refine pw_ild rfl rfl (by omega) (fun x143 (hx143 : x143 = vi_ m 68 a) rx143 sx143 => ?_)
                      replace hx143 : x143 = x44 := hx143.trans h68_
                      subst x143
                      refine pw_call (As := [.int (ei_ (x44))]) (st := []) (k := 47) rfl rfl rfl rfl rfl (Nat.le_of_ble_eq_true rfl) ?_
                      refine pw_intro (I := iX9_kindOf) (T := tX9_kindOf) rfl rfl rfl ?_
                      refine pw_steps 3 (s' := (5, [some (.ref 47), some (.int (ei_ (x44)))], [.int (ei_ (x44)), .ref 66], m)) rfl ?_
                      refine pw_ildE (x := x117) rfl rfl (by omega) hx117 ?_
                      refine pw_iret rfl rfl rfl ?_
                      refine pw_steps 1 (s' := (95, [some (.ref 47), some (.int (ei_ (a))), some (.int (ei_ (b))), some (.int (ei_ (5)))], [.int (ei_ (x117))], m)) rfl ?_
                      refine pw_iret rfl rfl rfl ?_
                      have hx_ : (x117 : Int) = (-12) := by omega
                      exact ⟨(-12), rfl, congrArg (fun z_ : Int => some (Value.int (ei_ z_))) hx_, rR_sm (sm_rfl m) hR⟩
                    · refine pw_steps 1 (s' := (64, [some (.ref 47), some (.int (ei_ (a))), some (.int (ei_ (b))), some (.int (ei_ (5)))], [.int (ei_ (5))], m)) rfl ?_
                      refine pw_ifF rfl (by decide) (show ¬ (5 ≤ 0) by decide) ?_
                      refine pw_steps 1 (s' := (68, [some (.ref 47), some (.int (ei_ (a))), some (.int (ei_ (b))), some (.int (ei_ (5)))], [.int (ei_ (5))], m)) rfl ?_
                      refine pw_callS (As := [.int (ei_ (5))]) (st := []) rfl (by decide) rfl rfl (Nat.le_of_ble_eq_true rfl) ?_
                      refine pw_intro (I := iX9_above) (T := tX9_above) rfl rfl rfl ?_
                      refine pw_steps 2 (s' := (2, [some (.int (ei_ (5)))], [.int (ei_ (3)), .int (ei_ (5))], m)) rfl ?_
                      refine pw_cmpT rfl (by decide) (by decide) (show ¬ 5 = 3 by decide) ?_
                      refine pw_steps 2 (s' := (11, [some (.int (ei_ (5)))], [.int (ei_ (4)), .int (ei_ (5))], m)) rfl ?_
                      refine pw_cmpT rfl (by decide) (by decide) (show ¬ 5 = 4 by decide) ?_
                      refine pw_steps 2 (s' := (20, [some (.int (ei_ (5)))], [.int (ei_ (5)), .int (ei_ (5))], m)) rfl ?_
                      refine pw_cmpF rfl (by decide) (by decide) (show ¬ (¬ 5 = 5) by decide) ?_
                      refine pw_steps 2 (s' := (38, [some (.int (ei_ (5)))], [.int (ei_ (3))], m)) rfl ?_
                      refine pw_iret rfl rfl rfl ?_
                      refine pw_steps 4 (s' := (60, [some (.ref 47), some (.int (ei_ (a))), some (.int (ei_ (b))), some (.int (ei_ (3)))], [.int (ei_ (b)), .int (ei_ (3))], m)) rfl ?_
                      refine pw_cmp rfl (by decide) q1 (fun (h144 : 3 = b) => ?_) (fun (h144 : ¬ (3 = b)) => ?_)
                      · refine pw_steps 2 (s' := (77, [some (.ref 47), some (.int (ei_ (a))), some (.int (ei_ (b))), some (.int (ei_ (3)))], [.int (ei_ (b)), .int (ei_ (3))], m)) rfl ?_
                        refine pw_cmpF rfl (by decide) q1 (show ¬ (¬ 3 = b) by omega) ?_
                        refine pw_steps 4 (s' := (86, [some (.ref 47), some (.int (ei_ (a))), some (.int (ei_ (b))), some (.int (ei_ (3)))], [.int (ei_ (a)), .ref 68, .ref 47], m)) rfl ?_
                        refine pw_ild rfl rfl (by omega) (fun x145 (hx145 : x145 = vi_ m 68 a) rx145 sx145 => ?_)
                        replace hx145 : x145 = x44 := hx145.trans h68_
                        subst x145
                        refine pw_call (As := [.int (ei_ (x44))]) (st := []) (k := 47) rfl rfl rfl rfl rfl (Nat.le_of_ble_eq_true rfl) ?_
                        refine pw_intro (I := iX9_kindOf) (T := tX9_kindOf) rfl rfl rfl ?_
                        refine pw_steps 3 (s' := (5, [some (.ref 47), some (.int (ei_ (x44)))], [.int (ei_ (x44)), .ref 66], m)) rfl ?_
                        refine pw_ildE (x := x117) rfl rfl (by omega) hx117 ?_
                        refine pw_iret rfl rfl rfl ?_
                        refine pw_steps 1 (s' := (95, [some (.ref 47), some (.int (ei_ (a))), some (.int (ei_ (b))), some (.int (ei_ (3)))], [.int (ei_ (x117))], m)) rfl ?_
                        refine pw_iret rfl rfl rfl ?_
                        have hx_ : (x117 : Int) = (-12) := by omega
                        exact ⟨(-12), rfl, congrArg (fun z_ : Int => some (Value.int (ei_ z_))) hx_, rR_sm (sm_rfl m) hR⟩
                      · refine pw_steps 1 (s' := (64, [some (.ref 47), some (.int (ei_ (a))), some (.int (ei_ (b))), some (.int (ei_ (3)))], [.int (ei_ (3))], m)) rfl ?_
                        refine pw_ifF rfl (by decide) (show ¬ (3 ≤ 0) by decide) ?_
                        refine pw_steps 1 (s' := (68, [some (.ref 47), some (.int (ei_ (a))), some (.int (ei_ (b))), some (.int (ei_ (3)))], [.int (ei_ (3))], m)) rfl ?_
                        refine pw_callS (As := [.int (ei_ (3))]) (st := []) rfl (by decide) rfl rfl (Nat.le_of_ble_eq_true rfl) ?_
                        refine pw_intro (I := iX9_above) (T := tX9_above) rfl rfl rfl ?_
                        refine pw_steps 2 (s' := (2, [some (.int (ei_ (3)))], [.int (ei_ (3)), .int (ei_ (3))], m)) rfl ?_
                        refine pw_cmpF rfl (by decide) (by decide) (show ¬ (¬ 3 = 3) by decide) ?_
                        refine pw_steps 2 (s' := (38, [some (.int (ei_ (3)))], [.int (ei_ (2))], m)) rfl ?_
                        refine pw_iret rfl rfl rfl ?_
                        refine pw_steps 4 (s' := (60, [some (.ref 47), some (.int (ei_ (a))), some (.int (ei_ (b))), some (.int (ei_ (2)))], [.int (ei_ (b)), .int (ei_ (2))], m)) rfl ?_
                        refine pw_cmp rfl (by decide) q1 (fun (h146 : 2 = b) => ?_) (fun (h146 : ¬ (2 = b)) => ?_)
                        · refine pw_steps 2 (s' := (77, [some (.ref 47), some (.int (ei_ (a))), some (.int (ei_ (b))), some (.int (ei_ (2)))], [.int (ei_ (b)), .int (ei_ (2))], m)) rfl ?_
                          refine pw_cmpF rfl (by decide) q1 (show ¬ (¬ 2 = b) by omega) ?_
                          refine pw_steps 4 (s' := (86, [some (.ref 47), some (.int (ei_ (a))), some (.int (ei_ (b))), some (.int (ei_ (2)))], [.int (ei_ (a)), .ref 68, .ref 47], m)) rfl ?_
                          refine pw_ild rfl rfl (by omega) (fun x147 (hx147 : x147 = vi_ m 68 a) rx147 sx147 => ?_)
                          replace hx147 : x147 = x44 := hx147.trans h68_
                          subst x147
                          refine pw_call (As := [.int (ei_ (x44))]) (st := []) (k := 47) rfl rfl rfl rfl rfl (Nat.le_of_ble_eq_true rfl) ?_
                          refine pw_intro (I := iX9_kindOf) (T := tX9_kindOf) rfl rfl rfl ?_
                          refine pw_steps 3 (s' := (5, [some (.ref 47), some (.int (ei_ (x44)))], [.int (ei_ (x44)), .ref 66], m)) rfl ?_
                          refine pw_ildE (x := x117) rfl rfl (by omega) hx117 ?_
                          refine pw_iret rfl rfl rfl ?_
                          refine pw_steps 1 (s' := (95, [some (.ref 47), some (.int (ei_ (a))), some (.int (ei_ (b))), some (.int (ei_ (2)))], [.int (ei_ (x117))], m)) rfl ?_
                          refine pw_iret rfl rfl rfl ?_
                          have hx_ : (x117 : Int) = (-12) := by omega
                          exact ⟨(-12), rfl, congrArg (fun z_ : Int => some (Value.int (ei_ z_))) hx_, rR_sm (sm_rfl m) hR⟩
                        · refine pw_steps 1 (s' := (64, [some (.ref 47), some (.int (ei_ (a))), some (.int (ei_ (b))), some (.int (ei_ (2)))], [.int (ei_ (2))], m)) rfl ?_
                          refine pw_ifF rfl (by decide) (show ¬ (2 ≤ 0) by decide) ?_
                          refine pw_steps 1 (s' := (68, [some (.ref 47), some (.int (ei_ (a))), some (.int (ei_ (b))), some (.int (ei_ (2)))], [.int (ei_ (2))], m)) rfl ?_
                          refine pw_callS (As := [.int (ei_ (2))]) (st := []) rfl (by decide) rfl rfl (Nat.le_of_ble_eq_true rfl) ?_
                          refine pw_intro (I := iX9_above) (T := tX9_above) rfl rfl rfl ?_
                          refine pw_steps 2 (s' := (2, [some (.int (ei_ (2)))], [.int (ei_ (3)), .int (ei_ (2))], m)) rfl ?_
                          refine pw_cmpT rfl (by decide) (by decide) (show ¬ 2 = 3 by decide) ?_
                          refine pw_steps 2 (s' := (11, [some (.int (ei_ (2)))], [.int (ei_ (4)), .int (ei_ (2))], m)) rfl ?_
                          refine pw_cmpT rfl (by decide) (by decide) (show ¬ 2 = 4 by decide) ?_
                          refine pw_steps 2 (s' := (20, [some (.int (ei_ (2)))], [.int (ei_ (5)), .int (ei_ (2))], m)) rfl ?_
                          refine pw_cmpT rfl (by decide) (by decide) (show ¬ 2 = 5 by decide) ?_
                          refine pw_steps 2 (s' := (30, [some (.int (ei_ (2)))], [.int (ei_ (7)), .int (ei_ (2))], m)) rfl ?_
                          refine pw_cmpT rfl (by decide) (by decide) (show ¬ 2 = 7 by decide) ?_
                          refine pw_steps 1 (s' := (38, [some (.int (ei_ (2)))], [.int (ei_ (0))], m)) rfl ?_
                          refine pw_iret rfl rfl rfl ?_
                          refine pw_steps 4 (s' := (60, [some (.ref 47), some (.int (ei_ (a))), some (.int (ei_ (b))), some (.int (ei_ (0)))], [.int (ei_ (b)), .int (ei_ (0))], m)) rfl ?_
                          refine pw_cmp rfl (by decide) q1 (fun (h148 : 0 = b) => ?_) (fun (h148 : ¬ (0 = b)) => ?_)
                          · refine pw_steps 2 (s' := (77, [some (.ref 47), some (.int (ei_ (a))), some (.int (ei_ (b))), some (.int (ei_ (0)))], [.int (ei_ (b)), .int (ei_ (0))], m)) rfl ?_
                            refine pw_cmpF rfl (by decide) q1 (show ¬ (¬ 0 = b) by omega) ?_
                            refine pw_steps 4 (s' := (86, [some (.ref 47), some (.int (ei_ (a))), some (.int (ei_ (b))), some (.int (ei_ (0)))], [.int (ei_ (a)), .ref 68, .ref 47], m)) rfl ?_
                            refine pw_ild rfl rfl (by omega) (fun x149 (hx149 : x149 = vi_ m 68 a) rx149 sx149 => ?_)
                            replace hx149 : x149 = x44 := hx149.trans h68_
                            subst x149
                            refine pw_call (As := [.int (ei_ (x44))]) (st := []) (k := 47) rfl rfl rfl rfl rfl (Nat.le_of_ble_eq_true rfl) ?_
                            refine pw_intro (I := iX9_kindOf) (T := tX9_kindOf) rfl rfl rfl ?_
                            refine pw_steps 3 (s' := (5, [some (.ref 47), some (.int (ei_ (x44)))], [.int (ei_ (x44)), .ref 66], m)) rfl ?_
                            refine pw_ildE (x := x117) rfl rfl (by omega) hx117 ?_
                            refine pw_iret rfl rfl rfl ?_
                            refine pw_steps 1 (s' := (95, [some (.ref 47), some (.int (ei_ (a))), some (.int (ei_ (b))), some (.int (ei_ (0)))], [.int (ei_ (x117))], m)) rfl ?_
                            refine pw_iret rfl rfl rfl ?_
                            have hx_ : (x117 : Int) = (-12) := by omega
                            exact ⟨(-12), rfl, congrArg (fun z_ : Int => some (Value.int (ei_ z_))) hx_, rR_sm (sm_rfl m) hR⟩
                          · refine pw_steps 1 (s' := (64, [some (.ref 47), some (.int (ei_ (a))), some (.int (ei_ (b))), some (.int (ei_ (0)))], [.int (ei_ (0))], m)) rfl ?_
                            refine pw_ifT rfl (by decide) (show 0 ≤ 0 by decide) ?_
                            refine pw_steps 2 (s' := (77, [some (.ref 47), some (.int (ei_ (a))), some (.int (ei_ (b))), some (.int (ei_ (0)))], [.int (ei_ (b)), .int (ei_ (0))], m)) rfl ?_
                            refine pw_cmpT rfl (by decide) q1 (show ¬ 0 = b by omega) ?_
                            refine pw_steps 1 (s' := (95, [some (.ref 47), some (.int (ei_ (a))), some (.int (ei_ (b))), some (.int (ei_ (0)))], [.int (ei_ ((-12)))], m)) rfl ?_
                            refine pw_iret rfl rfl rfl ?_
                            have hx_ : ((-12) : Int) = (-12) := by rfl
                            exact ⟨(-12), rfl, congrArg (fun z_ : Int => some (Value.int (ei_ z_))) hx_, rR_sm (sm_rfl m) hR⟩
                  · rw [h119]
                    refine pw_steps 2 (s' := (60, [some (.ref 47), some (.int (ei_ (a))), some (.int (ei_ (b))), some (.int (ei_ (6)))], [.int (ei_ (b)), .int (ei_ (6))], m)) rfl ?_
                    refine pw_cmp rfl (by decide) q1 (fun (h150 : 6 = b) => ?_) (fun (h150 : ¬ (6 = b)) => ?_)
                    · refine pw_steps 2 (s' := (77, [some (.ref 47), some (.int (ei_ (a))), some (.int (ei_ (b))), some (.int (ei_ (6)))], [.int (ei_ (b)), .int (ei_ (6))], m)) rfl ?_
                      refine pw_cmpF rfl (by decide) q1 (show ¬ (¬ 6 = b) by omega) ?_
                      refine pw_steps 4 (s' := (86, [some (.ref 47), some (.int (ei_ (a))), some (.int (ei_ (b))), some (.int (ei_ (6)))], [.int (ei_ (a)), .ref 68, .ref 47], m)) rfl ?_
                      refine pw_ild rfl rfl (by omega) (fun x151 (hx151 : x151 = vi_ m 68 a) rx151 sx151 => ?_)
                      replace hx151 : x151 = x44 := hx151.trans h68_
                      subst x151
                      refine pw_call (As := [.int (ei_ (x44))]) (st := []) (k := 47) rfl rfl rfl rfl rfl (Nat.le_of_ble_eq_true rfl) ?_
                      refine pw_intro (I := iX9_kindOf) (T := tX9_kindOf) rfl rfl rfl ?_
                      refine pw_steps 3 (s' := (5, [some (.ref 47), some (.int (ei_ (x44)))], [.int (ei_ (x44)), .ref 66], m)) rfl ?_
                      refine pw_ildE (x := x117) rfl rfl (by omega) hx117 ?_
                      refine pw_iret rfl rfl rfl ?_
                      refine pw_steps 1 (s' := (95, [some (.ref 47), some (.int (ei_ (a))), some (.int (ei_ (b))), some (.int (ei_ (6)))], [.int (ei_ (x117))], m)) rfl ?_
                      refine pw_iret rfl rfl rfl ?_
                      have hx_ : (x117 : Int) = (-12) := by omega
                      exact ⟨(-12), rfl, congrArg (fun z_ : Int => some (Value.int (ei_ z_))) hx_, rR_sm (sm_rfl m) hR⟩
                    · refine pw_steps 1 (s' := (64, [some (.ref 47), some (.int (ei_ (a))), some (.int (ei_ (b))), some (.int (ei_ (6)))], [.int (ei_ (6))], m)) rfl ?_
                      refine pw_ifF rfl (by decide) (show ¬ (6 ≤ 0) by decide) ?_
                      refine pw_steps 1 (s' := (68, [some (.ref 47), some (.int (ei_ (a))), some (.int (ei_ (b))), some (.int (ei_ (6)))], [.int (ei_ (6))], m)) rfl ?_
                      refine pw_callS (As := [.int (ei_ (6))]) (st := []) rfl (by decide) rfl rfl (Nat.le_of_ble_eq_true rfl) ?_
                      refine pw_intro (I := iX9_above) (T := tX9_above) rfl rfl rfl ?_
                      refine pw_steps 2 (s' := (2, [some (.int (ei_ (6)))], [.int (ei_ (3)), .int (ei_ (6))], m)) rfl ?_
                      refine pw_cmpT rfl (by decide) (by decide) (show ¬ 6 = 3 by decide) ?_
                      refine pw_steps 2 (s' := (11, [some (.int (ei_ (6)))], [.int (ei_ (4)), .int (ei_ (6))], m)) rfl ?_
                      refine pw_cmpT rfl (by decide) (by decide) (show ¬ 6 = 4 by decide) ?_
                      refine pw_steps 2 (s' := (20, [some (.int (ei_ (6)))], [.int (ei_ (5)), .int (ei_ (6))], m)) rfl ?_
                      refine pw_cmpT rfl (by decide) (by decide) (show ¬ 6 = 5 by decide) ?_
                      refine pw_steps 2 (s' := (30, [some (.int (ei_ (6)))], [.int (ei_ (7)), .int (ei_ (6))], m)) rfl ?_
                      refine pw_cmpT rfl (by decide) (by decide) (show ¬ 6 = 7 by decide) ?_
                      refine pw_steps 1 (s' := (38, [some (.int (ei_ (6)))], [.int (ei_ (0))], m)) rfl ?_
                      refine pw_iret rfl rfl rfl ?_
                      refine pw_steps 4 (s' := (60, [some (.ref 47), some (.int (ei_ (a))), some (.int (ei_ (b))), some (.int (ei_ (0)))], [.int (ei_ (b)), .int (ei_ (0))], m)) rfl ?_
                      refine pw_cmp rfl (by decide) q1 (fun (h152 : 0 = b) => ?_) (fun (h152 : ¬ (0 = b)) => ?_)
                      · refine pw_steps 2 (s' := (77, [some (.ref 47), some (.int (ei_ (a))), some (.int (ei_ (b))), some (.int (ei_ (0)))], [.int (ei_ (b)), .int (ei_ (0))], m)) rfl ?_
                        refine pw_cmpF rfl (by decide) q1 (show ¬ (¬ 0 = b) by omega) ?_
                        refine pw_steps 4 (s' := (86, [some (.ref 47), some (.int (ei_ (a))), some (.int (ei_ (b))), some (.int (ei_ (0)))], [.int (ei_ (a)), .ref 68, .ref 47], m)) rfl ?_
                        refine pw_ild rfl rfl (by omega) (fun x153 (hx153 : x153 = vi_ m 68 a) rx153 sx153 => ?_)
                        replace hx153 : x153 = x44 := hx153.trans h68_
                        subst x153
                        refine pw_call (As := [.int (ei_ (x44))]) (st := []) (k := 47) rfl rfl rfl rfl rfl (Nat.le_of_ble_eq_true rfl) ?_
                        refine pw_intro (I := iX9_kindOf) (T := tX9_kindOf) rfl rfl rfl ?_
                        refine pw_steps 3 (s' := (5, [some (.ref 47), some (.int (ei_ (x44)))], [.int (ei_ (x44)), .ref 66], m)) rfl ?_
                        refine pw_ildE (x := x117) rfl rfl (by omega) hx117 ?_
                        refine pw_iret rfl rfl rfl ?_
                        refine pw_steps 1 (s' := (95, [some (.ref 47), some (.int (ei_ (a))), some (.int (ei_ (b))), some (.int (ei_ (0)))], [.int (ei_ (x117))], m)) rfl ?_
                        refine pw_iret rfl rfl rfl ?_
                        have hx_ : (x117 : Int) = (-12) := by omega
                        exact ⟨(-12), rfl, congrArg (fun z_ : Int => some (Value.int (ei_ z_))) hx_, rR_sm (sm_rfl m) hR⟩
                      · refine pw_steps 1 (s' := (64, [some (.ref 47), some (.int (ei_ (a))), some (.int (ei_ (b))), some (.int (ei_ (0)))], [.int (ei_ (0))], m)) rfl ?_
                        refine pw_ifT rfl (by decide) (show 0 ≤ 0 by decide) ?_
                        refine pw_steps 2 (s' := (77, [some (.ref 47), some (.int (ei_ (a))), some (.int (ei_ (b))), some (.int (ei_ (0)))], [.int (ei_ (b)), .int (ei_ (0))], m)) rfl ?_
                        refine pw_cmpT rfl (by decide) q1 (show ¬ 0 = b by omega) ?_
                        refine pw_steps 1 (s' := (95, [some (.ref 47), some (.int (ei_ (a))), some (.int (ei_ (b))), some (.int (ei_ (0)))], [.int (ei_ ((-12)))], m)) rfl ?_
                        refine pw_iret rfl rfl rfl ?_
                        have hx_ : ((-12) : Int) = (-12) := by rfl
                        exact ⟨(-12), rfl, congrArg (fun z_ : Int => some (Value.int (ei_ z_))) hx_, rR_sm (sm_rfl m) hR⟩
                  · rw [h119]
                    refine pw_steps 2 (s' := (60, [some (.ref 47), some (.int (ei_ (a))), some (.int (ei_ (b))), some (.int (ei_ (7)))], [.int (ei_ (b)), .int (ei_ (7))], m)) rfl ?_
                    refine pw_cmp rfl (by decide) q1 (fun (h154 : 7 = b) => ?_) (fun (h154 : ¬ (7 = b)) => ?_)
                    · refine pw_steps 2 (s' := (77, [some (.ref 47), some (.int (ei_ (a))), some (.int (ei_ (b))), some (.int (ei_ (7)))], [.int (ei_ (b)), .int (ei_ (7))], m)) rfl ?_
                      refine pw_cmpF rfl (by decide) q1 (show ¬ (¬ 7 = b) by omega) ?_
                      refine pw_steps 4 (s' := (86, [some (.ref 47), some (.int (ei_ (a))), some (.int (ei_ (b))), some (.int (ei_ (7)))], [.int (ei_ (a)), .ref 68, .ref 47], m)) rfl ?_
                      refine pw_ild rfl rfl (by omega) (fun x155 (hx155 : x155 = vi_ m 68 a) rx155 sx155 => ?_)
                      replace hx155 : x155 = x44 := hx155.trans h68_
                      subst x155
                      refine pw_call (As := [.int (ei_ (x44))]) (st := []) (k := 47) rfl rfl rfl rfl rfl (Nat.le_of_ble_eq_true rfl) ?_
                      refine pw_intro (I := iX9_kindOf) (T := tX9_kindOf) rfl rfl rfl ?_
                      refine pw_steps 3 (s' := (5, [some (.ref 47), some (.int (ei_ (x44)))], [.int (ei_ (x44)), .ref 66], m)) rfl ?_
                      refine pw_ildE (x := x117) rfl rfl (by omega) hx117 ?_
                      refine pw_iret rfl rfl rfl ?_
                      refine pw_steps 1 (s' := (95, [some (.ref 47), some (.int (ei_ (a))), some (.int (ei_ (b))), some (.int (ei_ (7)))], [.int (ei_ (x117))], m)) rfl ?_
                      refine pw_iret rfl rfl rfl ?_
                      have hx_ : (x117 : Int) = (-12) := by omega
                      exact ⟨(-12), rfl, congrArg (fun z_ : Int => some (Value.int (ei_ z_))) hx_, rR_sm (sm_rfl m) hR⟩
                    · refine pw_steps 1 (s' := (64, [some (.ref 47), some (.int (ei_ (a))), some (.int (ei_ (b))), some (.int (ei_ (7)))], [.int (ei_ (7))], m)) rfl ?_
                      refine pw_ifF rfl (by decide) (show ¬ (7 ≤ 0) by decide) ?_
                      refine pw_steps 1 (s' := (68, [some (.ref 47), some (.int (ei_ (a))), some (.int (ei_ (b))), some (.int (ei_ (7)))], [.int (ei_ (7))], m)) rfl ?_
                      refine pw_callS (As := [.int (ei_ (7))]) (st := []) rfl (by decide) rfl rfl (Nat.le_of_ble_eq_true rfl) ?_
                      refine pw_intro (I := iX9_above) (T := tX9_above) rfl rfl rfl ?_
                      refine pw_steps 2 (s' := (2, [some (.int (ei_ (7)))], [.int (ei_ (3)), .int (ei_ (7))], m)) rfl ?_
                      refine pw_cmpT rfl (by decide) (by decide) (show ¬ 7 = 3 by decide) ?_
                      refine pw_steps 2 (s' := (11, [some (.int (ei_ (7)))], [.int (ei_ (4)), .int (ei_ (7))], m)) rfl ?_
                      refine pw_cmpT rfl (by decide) (by decide) (show ¬ 7 = 4 by decide) ?_
                      refine pw_steps 2 (s' := (20, [some (.int (ei_ (7)))], [.int (ei_ (5)), .int (ei_ (7))], m)) rfl ?_
                      refine pw_cmpT rfl (by decide) (by decide) (show ¬ 7 = 5 by decide) ?_
                      refine pw_steps 2 (s' := (30, [some (.int (ei_ (7)))], [.int (ei_ (7)), .int (ei_ (7))], m)) rfl ?_
                      refine pw_cmpF rfl (by decide) (by decide) (show ¬ (¬ 7 = 7) by decide) ?_
                      refine pw_steps 2 (s' := (38, [some (.int (ei_ (7)))], [.int (ei_ (4))], m)) rfl ?_
                      refine pw_iret rfl rfl rfl ?_
                      refine pw_steps 4 (s' := (60, [some (.ref 47), some (.int (ei_ (a))), some (.int (ei_ (b))), some (.int (ei_ (4)))], [.int (ei_ (b)), .int (ei_ (4))], m)) rfl ?_
                      refine pw_cmp rfl (by decide) q1 (fun (h156 : 4 = b) => ?_) (fun (h156 : ¬ (4 = b)) => ?_)
                      · refine pw_steps 2 (s' := (77, [some (.ref 47), some (.int (ei_ (a))), some (.int (ei_ (b))), some (.int (ei_ (4)))], [.int (ei_ (b)), .int (ei_ (4))], m)) rfl ?_
                        refine pw_cmpF rfl (by decide) q1 (show ¬ (¬ 4 = b) by omega) ?_
                        refine pw_steps 4 (s' := (86, [some (.ref 47), some (.int (ei_ (a))), some (.int (ei_ (b))), some (.int (ei_ (4)))], [.int (ei_ (a)), .ref 68, .ref 47], m)) rfl ?_
                        refine pw_ild rfl rfl (by omega) (fun x157 (hx157 : x157 = vi_ m 68 a) rx157 sx157 => ?_)
                        replace hx157 : x157 = x44 := hx157.trans h68_
                        subst x157
                        refine pw_call (As := [.int (ei_ (x44))]) (st := []) (k := 47) rfl rfl rfl rfl rfl (Nat.le_of_ble_eq_true rfl) ?_
                        refine pw_intro (I := iX9_kindOf) (T := tX9_kindOf) rfl rfl rfl ?_
                        refine pw_steps 3 (s' := (5, [some (.ref 47), some (.int (ei_ (x44)))], [.int (ei_ (x44)), .ref 66], m)) rfl ?_
                        refine pw_ildE (x := x117) rfl rfl (by omega) hx117 ?_
                        refine pw_iret rfl rfl rfl ?_
                        refine pw_steps 1 (s' := (95, [some (.ref 47), some (.int (ei_ (a))), some (.int (ei_ (b))), some (.int (ei_ (4)))], [.int (ei_ (x117))], m)) rfl ?_
                        refine pw_iret rfl rfl rfl ?_
                        have hx_ : (x117 : Int) = (-12) := by omega
                        exact ⟨(-12), rfl, congrArg (fun z_ : Int => some (Value.int (ei_ z_))) hx_, rR_sm (sm_rfl m) hR⟩
                      · refine pw_steps 1 (s' := (64, [some (.ref 47), some (.int (ei_ (a))), some (.int (ei_ (b))), some (.int (ei_ (4)))], [.int (ei_ (4))], m)) rfl ?_
                        refine pw_ifF rfl (by decide) (show ¬ (4 ≤ 0) by decide) ?_
                        refine pw_steps 1 (s' := (68, [some (.ref 47), some (.int (ei_ (a))), some (.int (ei_ (b))), some (.int (ei_ (4)))], [.int (ei_ (4))], m)) rfl ?_
                        refine pw_callS (As := [.int (ei_ (4))]) (st := []) rfl (by decide) rfl rfl (Nat.le_of_ble_eq_true rfl) ?_
                        refine pw_intro (I := iX9_above) (T := tX9_above) rfl rfl rfl ?_
                        refine pw_steps 2 (s' := (2, [some (.int (ei_ (4)))], [.int (ei_ (3)), .int (ei_ (4))], m)) rfl ?_
                        refine pw_cmpT rfl (by decide) (by decide) (show ¬ 4 = 3 by decide) ?_
                        refine pw_steps 2 (s' := (11, [some (.int (ei_ (4)))], [.int (ei_ (4)), .int (ei_ (4))], m)) rfl ?_
                        refine pw_cmpF rfl (by decide) (by decide) (show ¬ (¬ 4 = 4) by decide) ?_
                        refine pw_steps 2 (s' := (38, [some (.int (ei_ (4)))], [.int (ei_ (1))], m)) rfl ?_
                        refine pw_iret rfl rfl rfl ?_
                        refine pw_steps 4 (s' := (60, [some (.ref 47), some (.int (ei_ (a))), some (.int (ei_ (b))), some (.int (ei_ (1)))], [.int (ei_ (b)), .int (ei_ (1))], m)) rfl ?_
                        refine pw_cmp rfl (by decide) q1 (fun (h158 : 1 = b) => ?_) (fun (h158 : ¬ (1 = b)) => ?_)
                        · refine pw_steps 2 (s' := (77, [some (.ref 47), some (.int (ei_ (a))), some (.int (ei_ (b))), some (.int (ei_ (1)))], [.int (ei_ (b)), .int (ei_ (1))], m)) rfl ?_
                          refine pw_cmpF rfl (by decide) q1 (show ¬ (¬ 1 = b) by omega) ?_
                          refine pw_steps 4 (s' := (86, [some (.ref 47), some (.int (ei_ (a))), some (.int (ei_ (b))), some (.int (ei_ (1)))], [.int (ei_ (a)), .ref 68, .ref 47], m)) rfl ?_
                          refine pw_ild rfl rfl (by omega) (fun x159 (hx159 : x159 = vi_ m 68 a) rx159 sx159 => ?_)
                          replace hx159 : x159 = x44 := hx159.trans h68_
                          subst x159
                          refine pw_call (As := [.int (ei_ (x44))]) (st := []) (k := 47) rfl rfl rfl rfl rfl (Nat.le_of_ble_eq_true rfl) ?_
                          refine pw_intro (I := iX9_kindOf) (T := tX9_kindOf) rfl rfl rfl ?_
                          refine pw_steps 3 (s' := (5, [some (.ref 47), some (.int (ei_ (x44)))], [.int (ei_ (x44)), .ref 66], m)) rfl ?_
                          refine pw_ildE (x := x117) rfl rfl (by omega) hx117 ?_
                          refine pw_iret rfl rfl rfl ?_
                          refine pw_steps 1 (s' := (95, [some (.ref 47), some (.int (ei_ (a))), some (.int (ei_ (b))), some (.int (ei_ (1)))], [.int (ei_ (x117))], m)) rfl ?_
                          refine pw_iret rfl rfl rfl ?_
                          have hx_ : (x117 : Int) = (-12) := by omega
                          exact ⟨(-12), rfl, congrArg (fun z_ : Int => some (Value.int (ei_ z_))) hx_, rR_sm (sm_rfl m) hR⟩
                        · refine pw_steps 1 (s' := (64, [some (.ref 47), some (.int (ei_ (a))), some (.int (ei_ (b))), some (.int (ei_ (1)))], [.int (ei_ (1))], m)) rfl ?_
                          refine pw_ifF rfl (by decide) (show ¬ (1 ≤ 0) by decide) ?_
                          refine pw_steps 1 (s' := (68, [some (.ref 47), some (.int (ei_ (a))), some (.int (ei_ (b))), some (.int (ei_ (1)))], [.int (ei_ (1))], m)) rfl ?_
                          refine pw_callS (As := [.int (ei_ (1))]) (st := []) rfl (by decide) rfl rfl (Nat.le_of_ble_eq_true rfl) ?_
                          refine pw_intro (I := iX9_above) (T := tX9_above) rfl rfl rfl ?_
                          refine pw_steps 2 (s' := (2, [some (.int (ei_ (1)))], [.int (ei_ (3)), .int (ei_ (1))], m)) rfl ?_
                          refine pw_cmpT rfl (by decide) (by decide) (show ¬ 1 = 3 by decide) ?_
                          refine pw_steps 2 (s' := (11, [some (.int (ei_ (1)))], [.int (ei_ (4)), .int (ei_ (1))], m)) rfl ?_
                          refine pw_cmpT rfl (by decide) (by decide) (show ¬ 1 = 4 by decide) ?_
                          refine pw_steps 2 (s' := (20, [some (.int (ei_ (1)))], [.int (ei_ (5)), .int (ei_ (1))], m)) rfl ?_
                          refine pw_cmpT rfl (by decide) (by decide) (show ¬ 1 = 5 by decide) ?_
                          refine pw_steps 2 (s' := (30, [some (.int (ei_ (1)))], [.int (ei_ (7)), .int (ei_ (1))], m)) rfl ?_
                          refine pw_cmpT rfl (by decide) (by decide) (show ¬ 1 = 7 by decide) ?_
                          refine pw_steps 1 (s' := (38, [some (.int (ei_ (1)))], [.int (ei_ (0))], m)) rfl ?_
                          refine pw_iret rfl rfl rfl ?_
                          refine pw_steps 4 (s' := (60, [some (.ref 47), some (.int (ei_ (a))), some (.int (ei_ (b))), some (.int (ei_ (0)))], [.int (ei_ (b)), .int (ei_ (0))], m)) rfl ?_
                          refine pw_cmp rfl (by decide) q1 (fun (h160 : 0 = b) => ?_) (fun (h160 : ¬ (0 = b)) => ?_)
                          · refine pw_steps 2 (s' := (77, [some (.ref 47), some (.int (ei_ (a))), some (.int (ei_ (b))), some (.int (ei_ (0)))], [.int (ei_ (b)), .int (ei_ (0))], m)) rfl ?_
                            refine pw_cmpF rfl (by decide) q1 (show ¬ (¬ 0 = b) by omega) ?_
                            refine pw_steps 4 (s' := (86, [some (.ref 47), some (.int (ei_ (a))), some (.int (ei_ (b))), some (.int (ei_ (0)))], [.int (ei_ (a)), .ref 68, .ref 47], m)) rfl ?_
                            refine pw_ild rfl rfl (by omega) (fun x161 (hx161 : x161 = vi_ m 68 a) rx161 sx161 => ?_)
                            replace hx161 : x161 = x44 := hx161.trans h68_
                            subst x161
                            refine pw_call (As := [.int (ei_ (x44))]) (st := []) (k := 47) rfl rfl rfl rfl rfl (Nat.le_of_ble_eq_true rfl) ?_
                            refine pw_intro (I := iX9_kindOf) (T := tX9_kindOf) rfl rfl rfl ?_
                            refine pw_steps 3 (s' := (5, [some (.ref 47), some (.int (ei_ (x44)))], [.int (ei_ (x44)), .ref 66], m)) rfl ?_
                            refine pw_ildE (x := x117) rfl rfl (by omega) hx117 ?_
                            refine pw_iret rfl rfl rfl ?_
                            refine pw_steps 1 (s' := (95, [some (.ref 47), some (.int (ei_ (a))), some (.int (ei_ (b))), some (.int (ei_ (0)))], [.int (ei_ (x117))], m)) rfl ?_
                            refine pw_iret rfl rfl rfl ?_
                            have hx_ : (x117 : Int) = (-12) := by omega
                            exact ⟨(-12), rfl, congrArg (fun z_ : Int => some (Value.int (ei_ z_))) hx_, rR_sm (sm_rfl m) hR⟩
                          · refine pw_steps 1 (s' := (64, [some (.ref 47), some (.int (ei_ (a))), some (.int (ei_ (b))), some (.int (ei_ (0)))], [.int (ei_ (0))], m)) rfl ?_
                            refine pw_ifT rfl (by decide) (show 0 ≤ 0 by decide) ?_
                            refine pw_steps 2 (s' := (77, [some (.ref 47), some (.int (ei_ (a))), some (.int (ei_ (b))), some (.int (ei_ (0)))], [.int (ei_ (b)), .int (ei_ (0))], m)) rfl ?_
                            refine pw_cmpT rfl (by decide) q1 (show ¬ 0 = b by omega) ?_
                            refine pw_steps 1 (s' := (95, [some (.ref 47), some (.int (ei_ (a))), some (.int (ei_ (b))), some (.int (ei_ (0)))], [.int (ei_ ((-12)))], m)) rfl ?_
                            refine pw_iret rfl rfl rfl ?_
                            have hx_ : ((-12) : Int) = (-12) := by rfl
                            exact ⟨(-12), rfl, congrArg (fun z_ : Int => some (Value.int (ei_ z_))) hx_, rR_sm (sm_rfl m) hR⟩
                · exact False.elim (by omega)
                · exact False.elim (by omega)
              · exact False.elim (by omega)
              · exact False.elim (by omega)
          · refine pw_steps 2 (s' := (24, [some (.ref 0), some (.int (ei_ (a))), some (.int (ei_ (b))), some (.ref ((sf_ a)))], [.ref ((sf_ a))], m)) rfl ?_
            refine pw_call (As := []) (st := []) (k := (sf_ a)) rfl rfl rfl (sf_sk (by omega)) rfl (Nat.le_of_ble_eq_true rfl) ?_
            refine pw_intro (I := iX5_isEmpty) (T := tX5_isEmpty) rfl rfl rfl ?_
            refine pw_steps 1 (s' := (1, [some (.ref ((sf_ a)))], [.ref ((sf_ a))], m)) rfl ?_
            refine pw_get rfl (sf_ok (a := a) (by omega)).1 (fun x162 (hx162 : x162 = vi_ m (sf_ a) 0) rx162 sx162 => ?_)
            refine pw_steps 1 (s' := (5, [some (.ref ((sf_ a)))], [.int (ei_ ((-1))), .int (ei_ (x162))], m)) rfl ?_
            refine pw_cmpT rfl ⟨rx162, sx162⟩ (by decide) (show ¬ x162 = (-1) by omega) ?_
            refine pw_steps 1 (s' := (13, [some (.ref ((sf_ a)))], [.int (ei_ (0))], m)) rfl ?_
            refine pw_iret rfl rfl rfl ?_
            refine pw_ifT rfl (by decide) (show 0 = 0 by decide) ?_
            refine pw_steps 1 (s' := (34, [some (.ref 0), some (.int (ei_ (a))), some (.int (ei_ (b))), some (.ref ((sf_ a)))], [.ref ((sf_ a))], m)) rfl ?_
            refine pw_call (As := []) (st := []) (k := (sf_ a)) rfl rfl rfl (sf_sk (by omega)) rfl (Nat.le_of_ble_eq_true rfl) ?_
            refine pw_intro (I := iX5_isName) (T := tX5_isName) rfl rfl rfl ?_
            refine pw_steps 1 (s' := (1, [some (.ref ((sf_ a)))], [.ref ((sf_ a))], m)) rfl ?_
            refine pw_getE (x := x162) rfl (sf_ok (a := a) (by omega)).1 hx162 ?_
            refine pw_steps 1 (s' := (6, [some (.ref ((sf_ a)))], [.int (ei_ ((-2))), .int (ei_ (x162))], m)) rfl ?_
            refine pw_cmpT rfl ⟨rx162, sx162⟩ (by decide) (show ¬ x162 = (-2) by omega) ?_
            refine pw_steps 1 (s' := (14, [some (.ref ((sf_ a)))], [.int (ei_ (0))], m)) rfl ?_
            refine pw_iret rfl rfl rfl ?_
            refine pw_ifT rfl (by decide) (show 0 = 0 by decide) ?_
            refine pw_steps 1 (s' := (57, [some (.ref 0), some (.int (ei_ (a))), some (.int (ei_ (b))), some (.ref ((sf_ a)))], [.int (ei_ ((-12)))], m)) rfl ?_
            refine pw_iret rfl rfl rfl ?_
            refine pw_intro (I := iX9_taken) (T := tX9_taken) rfl rfl rfl ?_
            refine pw_steps 1 (s' := (1, [some (.ref 47), some (.int (ei_ (a))), some (.int (ei_ (b))), none], [.int (ei_ (a))], m)) rfl ?_
            refine pw_callS (As := [.int (ei_ (a))]) (st := []) rfl (by decide) rfl rfl (Nat.le_of_ble_eq_true rfl) ?_
            refine pw_intro (I := iX9_isShelf) (T := tX9_isShelf) rfl rfl rfl ?_
            refine pw_steps 4 (s' := (6, [some (.int (ei_ (a)))], [.long (el_ (5)), .long (el_ (0)), .long ((ei_ (a)).toInt64)], m)) rfl ?_
            refine pw_cv (congrArg (fun z_ : Int64 => ((6, [some (.int (ei_ (a)))], [.long (el_ (5)), .long (el_ (0)), .long z_], m) : am_S)) (el_i2l q0 rfl)) ?_
            refine pw_callS (As := [.long (el_ (a)), .long (el_ (0)), .long (el_ (5))]) (st := []) rfl (by decide) rfl rfl (Nat.le_of_ble_eq_true rfl) ?_
            refine mt_within (by omega) (by omega) (by omega) (fun g163 g164 => ?_) (fun g165 => ?_) (fun g166 => ?_)
            · refine pw_iret rfl rfl rfl ?_
              refine pw_ifF rfl (by decide) (show ¬ (1 = 0) by decide) ?_
              refine pw_steps 4 (s' := (13, [some (.ref 47), some (.int (ei_ (a))), some (.int (ei_ (b))), none], [.long (el_ (7)), .long (el_ (0)), .long ((ei_ (b)).toInt64)], m)) rfl ?_
              refine pw_cv (congrArg (fun z_ : Int64 => ((13, [some (.ref 47), some (.int (ei_ (a))), some (.int (ei_ (b))), none], [.long (el_ (7)), .long (el_ (0)), .long z_], m) : am_S)) (el_i2l q1 rfl)) ?_
              refine pw_callS (As := [.long (el_ (b)), .long (el_ (0)), .long (el_ (7))]) (st := []) rfl (by decide) rfl rfl (Nat.le_of_ble_eq_true rfl) ?_
              refine mt_within (by omega) (by omega) (by omega) (fun g167 g168 => ?_) (fun g169 => ?_) (fun g170 => ?_)
              · refine pw_ifT rfl (by decide) (show ¬ 1 = 0 by decide) ?_
                refine pw_steps 3 (s' := (26, [some (.ref 47), some (.int (ei_ (a))), some (.int (ei_ (b))), none], [.int (ei_ (a)), .ref 68], m)) rfl ?_
                refine pw_ild rfl rfl (by omega) (fun x171 (hx171 : x171 = vi_ m 68 a) rx171 sx171 => ?_)
                refine pw_ifT rfl ⟨rx171, sx171⟩ (show 0 ≤ x171 by omega) ?_
                refine pw_steps 3 (s' := (38, [some (.ref 47), some (.int (ei_ (a))), some (.int (ei_ (b))), none], [.int (ei_ (a)), .ref 68], m)) rfl ?_
                refine pw_ildE (x := x171) rfl rfl (by omega) hx171 ?_
                refine pw_steps 1 (s' := (41, [some (.ref 47), some (.int (ei_ (a))), some (.int (ei_ (b))), none], [.int (ei_ (50)), .int (ei_ (x171))], m)) rfl ?_
                refine pw_cmpF rfl ⟨rx171, sx171⟩ (by decide) (show ¬ (x171 < 50) by omega) ?_
                refine pw_steps 1 (s' := (46, [some (.ref 47), some (.int (ei_ (a))), some (.int (ei_ (b))), none], [.int (ei_ ((-12)))], m)) rfl ?_
                refine pw_iret rfl rfl rfl ?_
                have hx_ : ((-12) : Int) = (-12) := by rfl
                exact ⟨(-12), rfl, congrArg (fun z_ : Int => some (Value.int (ei_ z_))) hx_, rR_sm (sm_rfl m) hR⟩
              · exact False.elim (by omega)
              · exact False.elim (by omega)
            · exact False.elim (by omega)
            · exact False.elim (by omega)

