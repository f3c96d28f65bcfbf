
/-! ===== operations that change something ===== -/
theorem vi_w {m : am_M} {k : Nat} {j v : Int} : vi_ (wi_ m k j v) k j = wr_ v := by
  simp only [vi_, wi_, am_ui, if_true, upd]
  rfl
theorem rS_ge {P : Nat → Nat → Bool} {m m1 : am_M} (h : sm_ P m m1) (e68 : ∀ j, P 68 j = false) (e69 : ∀ j, P 69 j = false) (e29 : vi_ m 29 2 ≤ vi_ m1 29 2) (es : ∀ d, 0 ≤ d → d < 6 → P (sf_ d) 0 = false ∧ P (sf_ d) 1 = false ∧ P (sf_ d) 2 = false) (k : rS_ m) : rS_ m1 := by
  intro d h1 h2
  have t := k d h1 h2
  obtain ⟨s0, s1, s2⟩ := es d h1 h2
  unfold rs_ at t ⊢
  rw [sm_f h (k := 68) e68, sm_f h (k := 69) e69, sm_v h (k := sf_ d) (j := 0) s0, sm_v h (k := sf_ d) (j := 1) s1, sm_v h (k := sf_ d) (j := 2) s2, sm_l h, sm_l h]
  obtain ⟨t1, t2, t3⟩ := t
  refine ⟨t1, t2, ?_⟩
  rcases t3 with t3 | ⟨a1, a2, a3, a4, a5⟩ | t3
  · exact Or.inl t3
  · exact Or.inr (Or.inl ⟨a1, a2, a3, by omega, a5⟩)
  · exact Or.inr (Or.inr t3)
theorem rA_body {m : am_M} {x y a : Int} (h : rA_ m) (hx : x = vi_ m 29 2) (hy : y = vi_ m 29 2) (hn : x < 50) (ha : 0 ≤ a ∧ a ≤ 7) : rA_ (wi_ (wi_ (wi_ (wi_ m 30 x a) 29 2 (x + 1)) 66 y a) 47 35 (y + 1)) := by
  obtain ⟨h1, h2, h3, h4, h5, h6⟩ := h
  refine ⟨?_, ?_, ?_, ?_, ?_, ?_⟩
  · simp (disch := omega) only [vi_up, vi_ne, if_true]; omega
  · simp (disch := omega) only [vi_up, vi_ne, if_true]; omega
  · simp (disch := omega) only [vi_up, vi_ne, if_true]
    intro j a_ b_
    simp (disch := omega) only [vi_up, vi_ne, if_true]
    by_cases e : j = x
    · rw [if_pos (by omega), if_pos e]; omega
    · rw [if_neg (by omega), if_neg e]; exact h3 j a_ (by omega)
  · simp (disch := omega) only [vi_up, vi_ne, if_true]; simpa using h4
  · simp (disch := omega) only [vi_up, vi_ne, if_true]; simpa using h5
  · simp (disch := omega) only [vi_up, vi_ne, if_true]; simpa using h6
theorem rT_feed {m : am_M} {x y a : Int} (h : rT_ m) (hx : x = vi_ m 11 1) (hy : y = vi_ m 11 1) (hn : x < 120) (ha : 0 ≤ a ∧ a ≤ 255) : rT_ (wi_ (wi_ (wi_ (wi_ m 12 x a) 11 1 (x + 1)) 54 y a) 47 10 (y + 1)) := by
  obtain ⟨h1, h2, h3⟩ := h
  refine ⟨?_, ?_, ?_⟩
  · simp (disch := omega) only [vi_up, vi_ne, if_true]; omega
  · simp (disch := omega) only [vi_up, vi_ne, if_true]; omega
  · simp (disch := omega) only [vi_up, vi_ne, if_true]
    intro j a_ b_
    simp (disch := omega) only [vi_up, vi_ne, if_true]
    by_cases e : j = x
    · rw [if_pos (by omega), if_pos e]; omega
    · rw [if_neg (by omega), if_neg e]; exact h3 j a_ (by omega)
theorem rD_lend {m : am_M} {x y a b : Int} (hp : rP_ m) (h : rD_ m) (hx : x = vi_ m 3 4) (hy : y = vi_ m 47 27) (ha : 0 ≤ a ∧ a < vi_ m 1 1) (hb : 0 ≤ b ∧ b < vi_ m 1 1) : rD_ (wi_ (wi_ (wi_ (wi_ m 4 a b) 3 4 (x + 1)) 52 a b) 47 27 (y + 1)) := by
  obtain ⟨h1, h2, h3, h4, h5, h6, h7⟩ := h
  have hP := hp.1
  have e1 : vi_ (wi_ (wi_ (wi_ (wi_ m 4 a b) 3 4 (x + 1)) 52 a b) 47 27 (y + 1)) 1 1 = vi_ m 1 1 := by
    simp (disch := omega) only [vi_ne]
  refine ⟨?_, ?_, ?_, ?_, ?_, ?_, ?_⟩
  · intro j a_ b_
    rw [e1]
    simp (disch := omega) only [vi_up, vi_ne]
    have t := h1 j a_ b_
    by_cases e : j = a
    · rw [if_pos e]; omega
    · rw [if_neg e]; exact t
  · intro j a_ b_
    rw [e1]
    simp (disch := omega) only [vi_ne]
    exact h2 j a_ b_
  · intro j a_ b_
    rw [e1] at b_
    simp (disch := omega) only [vi_up, vi_ne]
    have t := h3 j a_ b_
    by_cases e : j = a
    · rw [if_pos e, if_pos e]; exact ⟨rfl, t.2⟩
    · rw [if_neg e, if_neg e]; exact t
  · intro j a_ b_
    simp (disch := omega) only [vi_ne]
    exact h4 j a_ b_
  · show vi_ m 47 26 = vi_ m 3 3
    exact h5
  · show (ei_ (y + 1)).toInt = (ei_ (x + 1)).toInt
    rw [hx, hy, h6]
  · show vi_ m 47 28 = vi_ m 3 5
    exact h7
theorem rD_owe {m : am_M} {i j s t : Int} (h : rD_ m) (hi : 0 ≤ i ∧ i < 64) (hj : j = i) (hs : 0 ≤ s ∧ s ≤ 9999) (ht : t = s) : rD_ (wi_ (wi_ m 6 i s) 61 j t) := by
  subst hj ht
  obtain ⟨h1, h2, h3, h4, h5⟩ := h
  refine ⟨h1, h2, h3, ?_, h5⟩
  intro k a_ b_
  simp (disch := omega) only [vi_up, vi_ne]
  have t := h4 k a_ b_
  by_cases e : k = j
  · rw [if_pos e]; omega
  · simp only [if_neg e]; exact t

def pBod (k j : Nat) : Bool := k == 30 || (k == 29 && j == 2) || k == 66 || (k == 47 && j == 35)
set_option maxHeartbeats 4000000 in
set_option maxRecDepth 20000 in
theorem op_body {q : am_X} {d : Nat} {m : am_M} {a : Int} (q0 : -2147483648 ≤ a ∧ a < 2147483648) (hR : rR_ m) : pw_C q (d + 60) 132 [.ref 0, .int (ei_ (a))] m (fun r1 m1 => pw_C q (d + 60) 244 [.ref 47, .int (ei_ (a))] m1 (fun r2 m2 => ∃ x : Int, r1 = some (.int (ei_ x)) ∧ r2 = some (.int (ei_ x)) ∧ rR_ m2)) := by
  obtain ⟨hp, hd, hi, ht, hl, hz, hc, ha, hs⟩ := id hR
  obtain ⟨hP1, hP2, hP3, hP4⟩ := id hp
  have hmw := mW_of hp hd
  have hmf := mF_of hp hd
  obtain ⟨ha1, ha2, ha3, ha4, ha5, ha6⟩ := id ha
  refine pw_intro (I := iX8_body) (T := tX8_body) rfl rfl rfl ?_
  refine pw_steps 1 (s' := (1, [some (.ref 0), some (.int (ei_ (a)))], [.int (ei_ (a))], m)) rfl ?_
  refine pw_callS (As := [.int (ei_ (a))]) (st := []) rfl (by decide) rfl rfl (Nat.le_of_ble_eq_true rfl) ?_
  refine pw_intro (I := iX0_isKind) (T := tX0_isKind) rfl rfl rfl ?_
  refine pw_steps 1 (s' := (1, [some (.int (ei_ (a)))], [.int (ei_ (a))], m)) rfl ?_
  refine pw_if rfl q0 (fun (h1 : a < 0) => ?_) (fun (h1 : ¬ (a < 0)) => ?_)
  · refine pw_steps 1 (s' := (15, [some (.int (ei_ (a)))], [.int (ei_ (0))], m)) rfl ?_
    refine pw_iret rfl rfl rfl ?_
    refine pw_ifF rfl (by decide) (show ¬ (¬ 0 = 0) by decide) ?_
    refine pw_steps 1 (s' := (8, [some (.ref 0), some (.int (ei_ (a)))], [.int (ei_ ((-1)))], m)) rfl ?_
    refine pw_iret rfl rfl rfl ?_
    refine pw_intro (I := iX9_body) (T := tX9_body) rfl rfl rfl ?_
    refine pw_steps 4 (s' := (6, [some (.ref 47), some (.int (ei_ (a)))], [.long (el_ (7)), .long (el_ (0)), .long ((ei_ (a)).toInt64)], m)) rfl ?_
    refine pw_cv (congrArg (fun z_ : Int64 => ((6, [some (.ref 47), some (.int (ei_ (a)))], [.long (el_ (7)), .long (el_ (0)), .long z_], m) : am_S)) (el_i2l q0 rfl)) ?_
    refine pw_callS (As := [.long (el_ (a)), .long (el_ (0)), .long (el_ (7))]) (st := []) rfl (by decide) rfl rfl (Nat.le_of_ble_eq_true rfl) ?_
    refine mt_within (by omega) (by omega) (by omega) (fun g2 g3 => ?_) (fun g4 => ?_) (fun g5 => ?_)
    · exact False.elim (by omega)
    · refine pw_ifF rfl (by decide) (show ¬ (¬ 0 = 0) by decide) ?_
      refine pw_steps 1 (s' := (13, [some (.ref 47), some (.int (ei_ (a)))], [.int (ei_ ((-1)))], m)) rfl ?_
      refine pw_iret rfl rfl rfl ?_
      exact ⟨(-1), rfl, rfl, hR⟩
    · exact False.elim (by omega)
  · refine pw_steps 2 (s' := (7, [some (.int (ei_ (a)))], [.int (ei_ (8)), .int (ei_ (a))], m)) rfl ?_
    refine pw_cmp rfl q0 (by decide) (fun (h6 : 8 ≤ a) => ?_) (fun (h6 : ¬ (8 ≤ a)) => ?_)
    · refine pw_steps 1 (s' := (15, [some (.int (ei_ (a)))], [.int (ei_ (0))], m)) rfl ?_
      refine pw_iret rfl rfl rfl ?_
      refine pw_ifF rfl (by decide) (show ¬ (¬ 0 = 0) by decide) ?_
      refine pw_steps 1 (s' := (8, [some (.ref 0), some (.int (ei_ (a)))], [.int (ei_ ((-1)))], m)) rfl ?_
      refine pw_iret rfl rfl rfl ?_
      refine pw_intro (I := iX9_body) (T := tX9_body) rfl rfl rfl ?_
      refine pw_steps 4 (s' := (6, [some (.ref 47), some (.int (ei_ (a)))], [.long (el_ (7)), .long (el_ (0)), .long ((ei_ (a)).toInt64)], m)) rfl ?_
      refine pw_cv (congrArg (fun z_ : Int64 => ((6, [some (.ref 47), some (.int (ei_ (a)))], [.long (el_ (7)), .long (el_ (0)), .long z_], m) : am_S)) (el_i2l q0 rfl)) ?_
      refine pw_callS (As := [.long (el_ (a)), .long (el_ (0)), .long (el_ (7))]) (st := []) rfl (by decide) rfl rfl (Nat.le_of_ble_eq_true rfl) ?_
      refine mt_within (by omega) (by omega) (by omega) (fun g7 g8 => ?_) (fun g9 => ?_) (fun g10 => ?_)
      · exact False.elim (by omega)
      · exact False.elim (by omega)
      · refine pw_ifF rfl (by decide) (show ¬ (¬ 0 = 0) by decide) ?_
        refine pw_steps 1 (s' := (13, [some (.ref 47), some (.int (ei_ (a)))], [.int (ei_ ((-1)))], m)) rfl ?_
        refine pw_iret rfl rfl rfl ?_
        exact ⟨(-1), rfl, rfl, hR⟩
    · refine pw_steps 2 (s' := (15, [some (.int (ei_ (a)))], [.int (ei_ (1))], m)) rfl ?_
      refine pw_iret rfl rfl rfl ?_
      refine pw_ifT rfl (by decide) (show ¬ 1 = 0 by decide) ?_
      refine pw_steps 2 (s' := (13, [some (.ref 0), some (.int (ei_ (a)))], [.ref 29], m)) rfl ?_
      refine pw_call (As := []) (st := []) (k := 29) rfl rfl rfl rfl rfl (Nat.le_of_ble_eq_true rfl) ?_
      refine pw_intro (I := iX0_isFull) (T := tX0_isFull) rfl rfl rfl ?_
      refine pw_steps 1 (s' := (1, [some (.ref 29)], [.ref 29], m)) rfl ?_
      refine pw_get rfl rfl (fun x11 (hx11 : x11 = vi_ m 29 2) rx11 sx11 => ?_)
      refine pw_steps 1 (s' := (6, [some (.ref 29)], [.int (ei_ (50)), .int (ei_ (x11))], m)) rfl ?_
      refine pw_cmp rfl ⟨rx11, sx11⟩ (by decide) (fun (h12 : x11 < 50) => ?_) (fun (h12 : ¬ (x11 < 50)) => ?_)
      · refine pw_steps 1 (s' := (14, [some (.ref 29)], [.int (ei_ (0))], m)) rfl ?_
        refine pw_iret rfl rfl rfl ?_
        refine pw_ifT rfl (by decide) (show 0 = 0 by decide) ?_
        refine pw_steps 3 (s' := (29, [some (.ref 0), some (.int (ei_ (a)))], [.int (ei_ (a)), .ref 29], m)) rfl ?_
        refine pw_call (As := [.int (ei_ (a))]) (st := []) (k := 29) rfl rfl rfl rfl rfl (Nat.le_of_ble_eq_true rfl) ?_
        refine pw_intro (I := iX0_add) (T := tX0_add) rfl rfl rfl ?_
        refine pw_steps 1 (s' := (1, [some (.ref 29), some (.int (ei_ (a)))], [.ref 29], m)) rfl ?_
        refine pw_getE (x := x11) rfl rfl hx11 ?_
        refine pw_steps 1 (s' := (6, [some (.ref 29), some (.int (ei_ (a)))], [.int (ei_ (50)), .int (ei_ (x11))], m)) rfl ?_
        refine pw_cmpF rfl ⟨rx11, sx11⟩ (by decide) (show ¬ (50 ≤ x11) by omega) ?_
        refine pw_steps 3 (s' := (14, [some (.ref 29), some (.int (ei_ (a)))], [.ref 29, .ref 30], m)) rfl ?_
        refine pw_getE (x := x11) rfl rfl hx11 ?_
        refine pw_steps 1 (s' := (18, [some (.ref 29), some (.int (ei_ (a)))], [.int (ei_ (a)), .int (ei_ (x11)), .ref 30], m)) rfl ?_
        refine pw_ist rfl rfl (by omega) ?_
        refine pw_steps 2 (s' := (21, [some (.ref 29), some (.int (ei_ (a)))], [.ref 29, .ref 29], wi_ m 30 (x11) (a))) rfl ?_
        refine pw_getE (x := x11) rfl rfl hx11 ?_
        refine pw_steps 2 (s' := (26, [some (.ref 29), some (.int (ei_ (a)))], [.int ((ei_ (x11)) + (ei_ (1))), .ref 29], wi_ m 30 (x11) (a))) rfl ?_
        refine pw_cv (congrArg (fun z_ : Int32 => ((26, [some (.ref 29), some (.int (ei_ (a)))], [.int z_, .ref 29], wi_ m 30 (x11) (a)) : am_S)) (ei_add rfl rfl)) ?_
        refine pw_put (v := (x11 + 1)) rfl rfl (Or.inl rfl) ?_
        refine pw_cv (s' := (29, [some (.ref 29), some (.int (ei_ (a)))], [], wi_ (wi_ m 30 (x11) (a)) 29 (2) ((x11 + 1)))) rfl ?_
        refine pw_steps 4 (s' := (35, [some (.ref 29), some (.int (ei_ (a)))], [.int ((ei_ ((x11 + 1))) - (ei_ (1)))], wi_ (wi_ m 30 (x11) (a)) 29 (2) ((x11 + 1)))) rfl ?_
        refine pw_cv (congrArg (fun z_ : Int32 => ((35, [some (.ref 29), some (.int (ei_ (a)))], [.int z_], wi_ (wi_ m 30 (x11) (a)) 29 (2) ((x11 + 1))) : am_S)) (ei_sub rfl rfl)) ?_
        refine pw_iret rfl rfl rfl ?_
        refine pw_iret rfl rfl rfl ?_
        refine pw_intro (I := iX9_body) (T := tX9_body) rfl rfl rfl ?_
        refine pw_steps 4 (s' := (6, [some (.ref 47), some (.int (ei_ (a)))], [.long (el_ (7)), .long (el_ (0)), .long ((ei_ (a)).toInt64)], wi_ (wi_ m 30 (x11) (a)) 29 (2) ((x11 + 1)))) rfl ?_
        refine pw_cv (congrArg (fun z_ : Int64 => ((6, [some (.ref 47), some (.int (ei_ (a)))], [.long (el_ (7)), .long (el_ (0)), .long z_], wi_ (wi_ m 30 (x11) (a)) 29 (2) ((x11 + 1))) : am_S)) (el_i2l q0 rfl)) ?_
        refine pw_callS (As := [.long (el_ (a)), .long (el_ (0)), .long (el_ (7))]) (st := []) rfl (by decide) rfl rfl (Nat.le_of_ble_eq_true rfl) ?_
        refine mt_within (by omega) (by omega) (by omega) (fun g13 g14 => ?_) (fun g15 => ?_) (fun g16 => ?_)
        · refine pw_ifT rfl (by decide) (show ¬ 1 = 0 by decide) ?_
          refine pw_steps 1 (s' := (15, [some (.ref 47), some (.int (ei_ (a)))], [.ref 47], wi_ (wi_ m 30 (x11) (a)) 29 (2) ((x11 + 1)))) rfl ?_
          refine pw_get rfl rfl (fun x17 (hx17 : x17 = vi_ m 47 35) rx17 sx17 => ?_)
          refine pw_steps 1 (s' := (20, [some (.ref 47), some (.int (ei_ (a)))], [.int (ei_ (50)), .int (ei_ (x17))], wi_ (wi_ m 30 (x11) (a)) 29 (2) ((x11 + 1)))) rfl ?_
          refine pw_cmpT rfl ⟨rx17, sx17⟩ (by decide) (show ¬ x17 = 50 by omega) ?_
          refine pw_steps 3 (s' := (31, [some (.ref 47), some (.int (ei_ (a)))], [.ref 47, .ref 66], wi_ (wi_ m 30 (x11) (a)) 29 (2) ((x11 + 1)))) rfl ?_
          refine pw_getE (x := x17) rfl rfl hx17 ?_
          refine pw_steps 1 (s' := (35, [some (.ref 47), some (.int (ei_ (a)))], [.int (ei_ (a)), .int (ei_ (x17)), .ref 66], wi_ (wi_ m 30 (x11) (a)) 29 (2) ((x11 + 1)))) rfl ?_
          refine pw_ist rfl rfl (by omega) ?_
          refine pw_steps 2 (s' := (38, [some (.ref 47), some (.int (ei_ (a)))], [.ref 47, .ref 47], wi_ (wi_ (wi_ m 30 (x11) (a)) 29 (2) ((x11 + 1))) 66 (x17) (a))) rfl ?_
          refine pw_getE (x := x17) rfl rfl hx17 ?_
          refine pw_steps 2 (s' := (43, [some (.ref 47), some (.int (ei_ (a)))], [.int ((ei_ (x17)) + (ei_ (1))), .ref 47], wi_ (wi_ (wi_ m 30 (x11) (a)) 29 (2) ((x11 + 1))) 66 (x17) (a))) rfl ?_
          refine pw_cv (congrArg (fun z_ : Int32 => ((43, [some (.ref 47), some (.int (ei_ (a)))], [.int z_, .ref 47], wi_ (wi_ (wi_ m 30 (x11) (a)) 29 (2) ((x11 + 1))) 66 (x17) (a)) : am_S)) (ei_add rfl rfl)) ?_
          refine pw_put (v := (x17 + 1)) rfl rfl (Or.inl rfl) ?_
          refine pw_cv (s' := (46, [some (.ref 47), some (.int (ei_ (a)))], [], wi_ (wi_ (wi_ (wi_ m 30 (x11) (a)) 29 (2) ((x11 + 1))) 66 (x17) (a)) 47 (35) ((x17 + 1)))) rfl ?_
          refine pw_steps 4 (s' := (52, [some (.ref 47), some (.int (ei_ (a)))], [.int ((ei_ ((x17 + 1))) - (ei_ (1)))], wi_ (wi_ (wi_ (wi_ m 30 (x11) (a)) 29 (2) ((x11 + 1))) 66 (x17) (a)) 47 (35) ((x17 + 1)))) rfl ?_
          refine pw_cv (congrArg (fun z_ : Int32 => ((52, [some (.ref 47), some (.int (ei_ (a)))], [.int z_], wi_ (wi_ (wi_ (wi_ m 30 (x11) (a)) 29 (2) ((x11 + 1))) 66 (x17) (a)) 47 (35) ((x17 + 1))) : am_S)) (ei_sub rfl rfl)) ?_
          refine pw_iret rfl rfl rfl ?_
          have hsm_ : sm_ pBod m (wi_ (wi_ (wi_ (wi_ m 30 (x11) (a)) 29 (2) ((x11 + 1))) 66 (x17) (a)) 47 (35) ((x17 + 1))) := (sm_w (sm_w (sm_w (sm_w (sm_rfl m) (fun _ h_ => by rw [h_]; rfl)) (fun _ h_ => by rw [h_]; rfl)) (fun _ h_ => by rw [h_]; rfl)) (fun _ h_ => by rw [h_]; rfl))
          have hx_ : (((x17 + 1) - 1) : Int) = ((x11 + 1) - 1) := by omega
          exact ⟨((x11 + 1) - 1), rfl, congrArg (fun z_ : Int => some (Value.int (ei_ z_))) hx_, ⟨rP_fr hsm_ rfl rfl (fun _ => rfl) (fun _ => rfl) hp, rD_fr hsm_ rfl (fun _ => rfl) (fun _ => rfl) (fun _ => rfl) (fun _ => rfl) (fun _ => rfl) (fun _ => rfl) rfl rfl rfl rfl rfl rfl hd, rI_fr hsm_ rfl rfl rfl rfl (fun _ => rfl) (fun _ => rfl) (fun _ => rfl) (fun _ => rfl) (fun _ => rfl) (fun _ => rfl) (fun _ => rfl) rfl rfl rfl hi, rT_fr hsm_ rfl rfl (fun _ => rfl) (fun _ => rfl) ht, rL_fr hsm_ rfl rfl (fun _ => rfl) (fun _ => rfl) hl, rZ_fr hsm_ rfl hz, rC_fr hsm_ rfl rfl rfl rfl (fun _ => rfl) (fun _ => rfl) (fun _ => rfl) (fun _ => rfl) (fun _ => rfl) (fun _ => rfl) (fun _ => rfl) rfl hc, rA_body ha hx11 (by omega) (by omega) (by omega), rS_ge hsm_ (fun _ => rfl) (fun _ => rfl) (by rw [show vi_ (wi_ (wi_ (wi_ (wi_ m 30 (x11) (a)) 29 (2) ((x11 + 1))) 66 (x17) (a)) 47 (35) ((x17 + 1))) 29 2 = x11 + 1 from ei_i (by omega)]; omega) (fun d_ a_ b_ => by rcases sf_six ⟨a_, b_⟩ with h_ | h_ | h_ | h_ | h_ | h_ <;> subst h_ <;> exact ⟨rfl, rfl, rfl⟩) hs⟩⟩
        · exact False.elim (by omega)
        · exact False.elim (by omega)
      · refine pw_steps 2 (s' := (14, [some (.ref 29)], [.int (ei_ (1))], m)) rfl ?_
        refine pw_iret rfl rfl rfl ?_
        refine pw_ifF rfl (by decide) (show ¬ (1 = 0) by decide) ?_
        refine pw_steps 2 (s' := (32, [some (.ref 0), some (.int (ei_ (a)))], [.int (ei_ ((-3)))], m)) rfl ?_
        refine pw_iret rfl rfl rfl ?_
        refine pw_intro (I := iX9_body) (T := tX9_body) rfl rfl rfl ?_
        refine pw_steps 4 (s' := (6, [some (.ref 47), some (.int (ei_ (a)))], [.long (el_ (7)), .long (el_ (0)), .long ((ei_ (a)).toInt64)], m)) rfl ?_
        refine pw_cv (congrArg (fun z_ : Int64 => ((6, [some (.ref 47), some (.int (ei_ (a)))], [.long (el_ (7)), .long (el_ (0)), .long z_], m) : am_S)) (el_i2l q0 rfl)) ?_
        refine pw_callS (As := [.long (el_ (a)), .long (el_ (0)), .long (el_ (7))]) (st := []) rfl (by decide) rfl rfl (Nat.le_of_ble_eq_true rfl) ?_
        refine mt_within (by omega) (by omega) (by omega) (fun g18 g19 => ?_) (fun g20 => ?_) (fun g21 => ?_)
        · refine pw_ifT rfl (by decide) (show ¬ 1 = 0 by decide) ?_
          refine pw_steps 1 (s' := (15, [some (.ref 47), some (.int (ei_ (a)))], [.ref 47], m)) rfl ?_
          refine pw_get rfl rfl (fun x22 (hx22 : x22 = vi_ m 47 35) rx22 sx22 => ?_)
          refine pw_steps 1 (s' := (20, [some (.ref 47), some (.int (ei_ (a)))], [.int (ei_ (50)), .int (ei_ (x22))], m)) rfl ?_
          refine pw_cmpF rfl ⟨rx22, sx22⟩ (by decide) (show ¬ (¬ x22 = 50) by omega) ?_
          refine pw_steps 1 (s' := (25, [some (.ref 47), some (.int (ei_ (a)))], [.int (ei_ ((-3)))], m)) rfl ?_
          refine pw_iret rfl rfl rfl ?_
          exact ⟨(-3), rfl, rfl, hR⟩
        · exact False.elim (by omega)
        · exact False.elim (by omega)

def pFee (k j : Nat) : Bool := k == 12 || (k == 11 && j == 1) || k == 54 || (k == 47 && j == 10)
set_option maxHeartbeats 4000000 in
set_option maxRecDepth 20000 in
theorem op_feed {q : am_X} {d : Nat} {m : am_M} {a : Int} (q0 : -2147483648 ≤ a ∧ a < 2147483648) (hR : rR_ m) : pw_C q (d + 60) 25 [.ref 0, .int (ei_ (a))] m (fun r1 m1 => pw_C q (d + 60) 189 [.ref 47, .int (ei_ (a))] m1 (fun r2 m2 => ∃ x : Int, r1 = some (.int (ei_ x)) ∧ r2 = some (.int (ei_ x)) ∧ rR_ m2)) := by
  obtain ⟨hp, hd, hi, ht, hl, hz, hc, ha, hs⟩ := id hR
  obtain ⟨hP1, hP2, hP3, hP4⟩ := id hp
  have hmw := mW_of hp hd
  have hmf := mF_of hp hd
  obtain ⟨ht1, ht2, ht3⟩ := id ht
  refine pw_intro (I := iX8_feed) (T := tX8_feed) rfl rfl rfl ?_
  refine pw_steps 1 (s' := (1, [some (.ref 0), some (.int (ei_ (a)))], [.int (ei_ (a))], m)) rfl ?_
  refine pw_if rfl q0 (fun (h1 : a < 0) => ?_) (fun (h1 : ¬ (a < 0)) => ?_)
  · refine pw_steps 1 (s' := (12, [some (.ref 0), some (.int (ei_ (a)))], [.int (ei_ ((-1)))], m)) rfl ?_
    refine pw_iret rfl rfl rfl ?_
    refine pw_intro (I := iX9_feed) (T := tX9_feed) rfl rfl rfl ?_
    refine pw_steps 4 (s' := (6, [some (.ref 47), some (.int (ei_ (a)))], [.long (el_ (255)), .long (el_ (0)), .long ((ei_ (a)).toInt64)], m)) rfl ?_
    refine pw_cv (congrArg (fun z_ : Int64 => ((6, [some (.ref 47), some (.int (ei_ (a)))], [.long (el_ (255)), .long (el_ (0)), .long z_], m) : am_S)) (el_i2l q0 rfl)) ?_
    refine pw_callS (As := [.long (el_ (a)), .long (el_ (0)), .long (el_ (255))]) (st := []) rfl (by decide) rfl rfl (Nat.le_of_ble_eq_true rfl) ?_
    refine mt_within (by omega) (by omega) (by omega) (fun g2 g3 => ?_) (fun g4 => ?_) (fun g5 => ?_)
    · exact False.elim (by omega)
    · refine pw_ifF rfl (by decide) (show ¬ (¬ 0 = 0) by decide) ?_
      refine pw_steps 1 (s' := (13, [some (.ref 47), some (.int (ei_ (a)))], [.int (ei_ ((-1)))], m)) rfl ?_
      refine pw_iret rfl rfl rfl ?_
      exact ⟨(-1), rfl, rfl, hR⟩
    · exact False.elim (by omega)
  · refine pw_steps 2 (s' := (8, [some (.ref 0), some (.int (ei_ (a)))], [.int (ei_ (255)), .int (ei_ (a))], m)) rfl ?_
    refine pw_cmp rfl q0 (by decide) (fun (h6 : a ≤ 255) => ?_) (fun (h6 : ¬ (a ≤ 255)) => ?_)
    · refine pw_steps 2 (s' := (17, [some (.ref 0), some (.int (ei_ (a)))], [.ref 11], m)) rfl ?_
      refine pw_call (As := []) (st := []) (k := 11) rfl rfl rfl rfl rfl (Nat.le_of_ble_eq_true rfl) ?_
      refine pw_intro (I := iX6_isFull) (T := tX6_isFull) rfl rfl rfl ?_
      refine pw_steps 1 (s' := (1, [some (.ref 11)], [.ref 11], m)) rfl ?_
      refine pw_get rfl rfl (fun x7 (hx7 : x7 = vi_ m 11 1) rx7 sx7 => ?_)
      refine pw_steps 1 (s' := (6, [some (.ref 11)], [.int (ei_ (120)), .int (ei_ (x7))], m)) rfl ?_
      refine pw_cmp rfl ⟨rx7, sx7⟩ (by decide) (fun (h8 : x7 < 120) => ?_) (fun (h8 : ¬ (x7 < 120)) => ?_)
      · refine pw_steps 1 (s' := (14, [some (.ref 11)], [.int (ei_ (0))], m)) rfl ?_
        refine pw_iret rfl rfl rfl ?_
        refine pw_ifT rfl (by decide) (show 0 = 0 by decide) ?_
        refine pw_steps 3 (s' := (33, [some (.ref 0), some (.int (ei_ (a)))], [.int (ei_ (a)), .ref 11], m)) rfl ?_
        refine pw_call (As := [.int (ei_ (a))]) (st := []) (k := 11) rfl rfl rfl rfl rfl (Nat.le_of_ble_eq_true rfl) ?_
        refine pw_intro (I := iX6_add) (T := tX6_add) rfl rfl rfl ?_
        refine pw_steps 1 (s' := (1, [some (.ref 11), some (.int (ei_ (a)))], [.ref 11], m)) rfl ?_
        refine pw_getE (x := x7) rfl rfl hx7 ?_
        refine pw_steps 1 (s' := (6, [some (.ref 11), some (.int (ei_ (a)))], [.int (ei_ (120)), .int (ei_ (x7))], m)) rfl ?_
        refine pw_cmpF rfl ⟨rx7, sx7⟩ (by decide) (show ¬ (120 ≤ x7) by omega) ?_
        refine pw_steps 3 (s' := (14, [some (.ref 11), some (.int (ei_ (a)))], [.ref 11, .ref 12], m)) rfl ?_
        refine pw_getE (x := x7) rfl rfl hx7 ?_
        refine pw_steps 1 (s' := (18, [some (.ref 11), some (.int (ei_ (a)))], [.int (ei_ (a)), .int (ei_ (x7)), .ref 12], m)) rfl ?_
        refine pw_ist rfl rfl (by omega) ?_
        refine pw_steps 2 (s' := (21, [some (.ref 11), some (.int (ei_ (a)))], [.ref 11, .ref 11], wi_ m 12 (x7) (a))) rfl ?_
        refine pw_getE (x := x7) rfl rfl hx7 ?_
        refine pw_steps 2 (s' := (26, [some (.ref 11), some (.int (ei_ (a)))], [.int ((ei_ (x7)) + (ei_ (1))), .ref 11], wi_ m 12 (x7) (a))) rfl ?_
        refine pw_cv (congrArg (fun z_ : Int32 => ((26, [some (.ref 11), some (.int (ei_ (a)))], [.int z_, .ref 11], wi_ m 12 (x7) (a)) : am_S)) (ei_add rfl rfl)) ?_
        refine pw_put (v := (x7 + 1)) rfl rfl (Or.inl rfl) ?_
        refine pw_cv (s' := (29, [some (.ref 11), some (.int (ei_ (a)))], [], wi_ (wi_ m 12 (x7) (a)) 11 (1) ((x7 + 1)))) rfl ?_
        refine pw_steps 2 (s' := (33, [some (.ref 11), some (.int (ei_ (a)))], [.int (ei_ ((x7 + 1)))], wi_ (wi_ m 12 (x7) (a)) 11 (1) ((x7 + 1)))) rfl ?_
        refine pw_iret rfl rfl rfl ?_
        refine pw_iret rfl rfl rfl ?_
        refine pw_intro (I := iX9_feed) (T := tX9_feed) rfl rfl rfl ?_
        refine pw_steps 4 (s' := (6, [some (.ref 47), some (.int (ei_ (a)))], [.long (el_ (255)), .long (el_ (0)), .long ((ei_ (a)).toInt64)], wi_ (wi_ m 12 (x7) (a)) 11 (1) ((x7 + 1)))) rfl ?_
        refine pw_cv (congrArg (fun z_ : Int64 => ((6, [some (.ref 47), some (.int (ei_ (a)))], [.long (el_ (255)), .long (el_ (0)), .long z_], wi_ (wi_ m 12 (x7) (a)) 11 (1) ((x7 + 1))) : am_S)) (el_i2l q0 rfl)) ?_
        refine pw_callS (As := [.long (el_ (a)), .long (el_ (0)), .long (el_ (255))]) (st := []) rfl (by decide) rfl rfl (Nat.le_of_ble_eq_true rfl) ?_
        refine mt_within (by omega) (by omega) (by omega) (fun g9 g10 => ?_) (fun g11 => ?_) (fun g12 => ?_)
        · refine pw_ifT rfl (by decide) (show ¬ 1 = 0 by decide) ?_
          refine pw_steps 1 (s' := (15, [some (.ref 47), some (.int (ei_ (a)))], [.ref 47], wi_ (wi_ m 12 (x7) (a)) 11 (1) ((x7 + 1)))) rfl ?_
          refine pw_get rfl rfl (fun x13 (hx13 : x13 = vi_ m 47 10) rx13 sx13 => ?_)
          refine pw_steps 1 (s' := (20, [some (.ref 47), some (.int (ei_ (a)))], [.int (ei_ (120)), .int (ei_ (x13))], wi_ (wi_ m 12 (x7) (a)) 11 (1) ((x7 + 1)))) rfl ?_
          refine pw_cmpT rfl ⟨rx13, sx13⟩ (by decide) (show ¬ x13 = 120 by omega) ?_
          refine pw_steps 3 (s' := (31, [some (.ref 47), some (.int (ei_ (a)))], [.ref 47, .ref 54], wi_ (wi_ m 12 (x7) (a)) 11 (1) ((x7 + 1)))) rfl ?_
          refine pw_getE (x := x13) rfl rfl hx13 ?_
          refine pw_steps 1 (s' := (35, [some (.ref 47), some (.int (ei_ (a)))], [.int (ei_ (a)), .int (ei_ (x13)), .ref 54], wi_ (wi_ m 12 (x7) (a)) 11 (1) ((x7 + 1)))) rfl ?_
          refine pw_ist rfl rfl (by omega) ?_
          refine pw_steps 2 (s' := (38, [some (.ref 47), some (.int (ei_ (a)))], [.ref 47, .ref 47], wi_ (wi_ (wi_ m 12 (x7) (a)) 11 (1) ((x7 + 1))) 54 (x13) (a))) rfl ?_
          refine pw_getE (x := x13) rfl rfl hx13 ?_
          refine pw_steps 2 (s' := (43, [some (.ref 47), some (.int (ei_ (a)))], [.int ((ei_ (x13)) + (ei_ (1))), .ref 47], wi_ (wi_ (wi_ m 12 (x7) (a)) 11 (1) ((x7 + 1))) 54 (x13) (a))) rfl ?_
          refine pw_cv (congrArg (fun z_ : Int32 => ((43, [some (.ref 47), some (.int (ei_ (a)))], [.int z_, .ref 47], wi_ (wi_ (wi_ m 12 (x7) (a)) 11 (1) ((x7 + 1))) 54 (x13) (a)) : am_S)) (ei_add rfl rfl)) ?_
          refine pw_put (v := (x13 + 1)) rfl rfl (Or.inl rfl) ?_
          refine pw_cv (s' := (46, [some (.ref 47), some (.int (ei_ (a)))], [], wi_ (wi_ (wi_ (wi_ m 12 (x7) (a)) 11 (1) ((x7 + 1))) 54 (x13) (a)) 47 (10) ((x13 + 1)))) rfl ?_
          refine pw_steps 2 (s' := (50, [some (.ref 47), some (.int (ei_ (a)))], [.int (ei_ ((x13 + 1)))], wi_ (wi_ (wi_ (wi_ m 12 (x7) (a)) 11 (1) ((x7 + 1))) 54 (x13) (a)) 47 (10) ((x13 + 1)))) rfl ?_
          refine pw_iret rfl rfl rfl ?_
          have hsm_ : sm_ pFee m (wi_ (wi_ (wi_ (wi_ m 12 (x7) (a)) 11 (1) ((x7 + 1))) 54 (x13) (a)) 47 (10) ((x13 + 1))) := (sm_w (sm_w (sm_w (sm_w (sm_rfl m) (fun _ h_ => by rw [h_]; rfl)) (fun _ h_ => by rw [h_]; rfl)) (fun _ h_ => by rw [h_]; rfl)) (fun _ h_ => by rw [h_]; rfl))
          have hx_ : ((x13 + 1) : Int) = (x7 + 1) := by omega
          exact ⟨(x7 + 1), rfl, congrArg (fun z_ : Int => some (Value.int (ei_ z_))) hx_, ⟨rP_fr hsm_ rfl rfl (fun _ => rfl) (fun _ => rfl) hp, rD_fr hsm_ rfl (fun _ => rfl) (fun _ => rfl) (fun _ => rfl) (fun _ => rfl) (fun _ => rfl) (fun _ => rfl) rfl rfl rfl rfl rfl rfl hd, rI_fr hsm_ rfl rfl rfl rfl (fun _ => rfl) (fun _ => rfl) (fun _ => rfl) (fun _ => rfl) (fun _ => rfl) (fun _ => rfl) (fun _ => rfl) rfl rfl rfl hi, rT_feed ht hx7 (by omega) (by omega) (by omega), rL_fr hsm_ rfl rfl (fun _ => rfl) (fun _ => rfl) hl, rZ_fr hsm_ rfl hz, rC_fr hsm_ rfl rfl rfl rfl (fun _ => rfl) (fun _ => rfl) (fun _ => rfl) (fun _ => rfl) (fun _ => rfl) (fun _ => rfl) (fun _ => rfl) rfl hc, rA_fr hsm_ rfl rfl (fun _ => rfl) (fun _ => rfl) rfl rfl (fun _ => rfl) (fun _ => rfl) ha, rS_fr hsm_ (fun _ => rfl) (fun _ => rfl) rfl (fun d_ a_ b_ => by rcases sf_six ⟨a_, b_⟩ with h_ | h_ | h_ | h_ | h_ | h_ <;> subst h_ <;> exact ⟨rfl, rfl, rfl⟩) hs⟩⟩
        · exact False.elim (by omega)
        · exact False.elim (by omega)
      · refine pw_steps 2 (s' := (14, [some (.ref 11)], [.int (ei_ (1))], m)) rfl ?_
        refine pw_iret rfl rfl rfl ?_
        refine pw_ifF rfl (by decide) (show ¬ (1 = 0) by decide) ?_
        refine pw_steps 2 (s' := (36, [some (.ref 0), some (.int (ei_ (a)))], [.int (ei_ ((-3)))], m)) rfl ?_
        refine pw_iret rfl rfl rfl ?_
        refine pw_intro (I := iX9_feed) (T := tX9_feed) rfl rfl rfl ?_
        refine pw_steps 4 (s' := (6, [some (.ref 47), some (.int (ei_ (a)))], [.long (el_ (255)), .long (el_ (0)), .long ((ei_ (a)).toInt64)], m)) rfl ?_
        refine pw_cv (congrArg (fun z_ : Int64 => ((6, [some (.ref 47), some (.int (ei_ (a)))], [.long (el_ (255)), .long (el_ (0)), .long z_], m) : am_S)) (el_i2l q0 rfl)) ?_
        refine pw_callS (As := [.long (el_ (a)), .long (el_ (0)), .long (el_ (255))]) (st := []) rfl (by decide) rfl rfl (Nat.le_of_ble_eq_true rfl) ?_
        refine mt_within (by omega) (by omega) (by omega) (fun g14 g15 => ?_) (fun g16 => ?_) (fun g17 => ?_)
        · refine pw_ifT rfl (by decide) (show ¬ 1 = 0 by decide) ?_
          refine pw_steps 1 (s' := (15, [some (.ref 47), some (.int (ei_ (a)))], [.ref 47], m)) rfl ?_
          refine pw_get rfl rfl (fun x18 (hx18 : x18 = vi_ m 47 10) rx18 sx18 => ?_)
          refine pw_steps 1 (s' := (20, [some (.ref 47), some (.int (ei_ (a)))], [.int (ei_ (120)), .int (ei_ (x18))], m)) rfl ?_
          refine pw_cmpF rfl ⟨rx18, sx18⟩ (by decide) (show ¬ (¬ x18 = 120) by omega) ?_
          refine pw_steps 1 (s' := (25, [some (.ref 47), some (.int (ei_ (a)))], [.int (ei_ ((-3)))], m)) rfl ?_
          refine pw_iret rfl rfl rfl ?_
          exact ⟨(-3), rfl, rfl, hR⟩
        · exact False.elim (by omega)
        · exact False.elim (by omega)
    · refine pw_steps 1 (s' := (12, [some (.ref 0), some (.int (ei_ (a)))], [.int (ei_ ((-1)))], m)) rfl ?_
      refine pw_iret rfl rfl rfl ?_
      refine pw_intro (I := iX9_feed) (T := tX9_feed) rfl rfl rfl ?_
      refine pw_steps 4 (s' := (6, [some (.ref 47), some (.int (ei_ (a)))], [.long (el_ (255)), .long (el_ (0)), .long ((ei_ (a)).toInt64)], m)) rfl ?_
      refine pw_cv (congrArg (fun z_ : Int64 => ((6, [some (.ref 47), some (.int (ei_ (a)))], [.long (el_ (255)), .long (el_ (0)), .long z_], m) : am_S)) (el_i2l q0 rfl)) ?_
      refine pw_callS (As := [.long (el_ (a)), .long (el_ (0)), .long (el_ (255))]) (st := []) rfl (by decide) rfl rfl (Nat.le_of_ble_eq_true rfl) ?_
      refine mt_within (by omega) (by omega) (by omega) (fun g19 g20 => ?_) (fun g21 => ?_) (fun g22 => ?_)
      · exact False.elim (by omega)
      · exact False.elim (by omega)
      · refine pw_ifF rfl (by decide) (show ¬ (¬ 0 = 0) by decide) ?_
        refine pw_steps 1 (s' := (13, [some (.ref 47), some (.int (ei_ (a)))], [.int (ei_ ((-1)))], m)) rfl ?_
        refine pw_iret rfl rfl rfl ?_
        exact ⟨(-1), rfl, rfl, hR⟩

def pLen (k j : Nat) : Bool := k == 4 || (k == 3 && j == 4) || k == 52 || (k == 47 && j == 27)
set_option maxHeartbeats 4000000 in
set_option maxRecDepth 20000 in
theorem op_lend {q : am_X} {d : Nat} {m : am_M} {a : Int} {b : Int} (q0 : -2147483648 ≤ a ∧ a < 2147483648) (q1 : -2147483648 ≤ b ∧ b < 2147483648) (hR : rR_ m) : pw_C q (d + 60) 111 [.ref 0, .int (ei_ (a)), .int (ei_ (b))] m (fun r1 m1 => pw_C q (d + 60) 238 [.ref 47, .int (ei_ (a)), .int (ei_ (b))] m1 (fun r2 m2 => ∃ x : Int, r1 = some (.int (ei_ x)) ∧ r2 = some (.int (ei_ x)) ∧ rR_ m2)) := by
  obtain ⟨hp, hd, hi, ht, hl, hz, hc, ha, hs⟩ := id hR
  obtain ⟨hP1, hP2, hP3, hP4⟩ := id hp
  have hmw := mW_of hp hd
  have hmf := mF_of hp hd
  refine pw_intro (I := iX8_lend) (T := tX8_lend) rfl rfl rfl ?_
  refine pw_steps 3 (s' := (5, [some (.ref 0), some (.int (ei_ (a))), some (.int (ei_ (b))), none], [.int (ei_ (a)), .ref 1], m)) rfl ?_
  refine pw_call (As := [.int (ei_ (a))]) (st := []) (k := 1) rfl rfl rfl rfl rfl (Nat.le_of_ble_eq_true rfl) ?_
  refine pw_intro (I := iX3_has) (T := tX3_has) rfl rfl rfl ?_
  refine pw_steps 1 (s' := (1, [some (.ref 1), some (.int (ei_ (a)))], [.int (ei_ (a))], m)) rfl ?_
  refine pw_if rfl q0 (fun (h1 : a < 0) => ?_) (fun (h1 : ¬ (a < 0)) => ?_)
  · refine pw_steps 1 (s' := (17, [some (.ref 1), some (.int (ei_ (a)))], [.int (ei_ (0))], m)) rfl ?_
    refine pw_iret rfl rfl rfl ?_
    refine pw_ifT rfl (by decide) (show 0 = 0 by decide) ?_
    refine pw_steps 1 (s' := (23, [some (.ref 0), some (.int (ei_ (a))), some (.int (ei_ (b))), none], [.int (ei_ ((-1)))], m)) rfl ?_
    refine pw_iret rfl rfl rfl ?_
    refine pw_intro (I := iX9_lend) (T := tX9_lend) rfl rfl rfl ?_
    refine pw_steps 3 (s' := (3, [some (.ref 47), some (.int (ei_ (a))), some (.int (ei_ (b))), none], [.long ((ei_ (a)).toInt64), .ref 47], m)) rfl ?_
    refine pw_cv (congrArg (fun z_ : Int64 => ((3, [some (.ref 47), some (.int (ei_ (a))), some (.int (ei_ (b))), none], [.long z_, .ref 47], m) : am_S)) (el_i2l q0 rfl)) ?_
    refine pw_call (As := [.long (el_ (a))]) (st := []) (k := 47) rfl rfl rfl rfl rfl (Nat.le_of_ble_eq_true rfl) ?_
    refine pw_intro (I := iX9_isOne) (T := tX9_isOne) rfl rfl rfl ?_
    refine pw_steps 3 (s' := (3, [some (.ref 47), some (.long (el_ (a))), none], [.ref 47, .long (el_ (0)), .long (el_ (a))], m)) rfl ?_
    refine pw_get rfl rfl (fun x2 (hx2 : x2 = vi_ m 47 6) rx2 sx2 => ?_)
    refine pw_steps 3 (s' := (9, [some (.ref 47), some (.long (el_ (a))), none], [.long (((ei_ (x2)) - (ei_ (1))).toInt64), .long (el_ (0)), .long (el_ (a))], m)) rfl ?_
    refine pw_cv (congrArg (fun z_ : Int64 => ((9, [some (.ref 47), some (.long (el_ (a))), none], [.long z_, .long (el_ (0)), .long (el_ (a))], m) : am_S)) (el_i2l (by omega) (ei_sub rfl rfl))) ?_
    refine pw_callS (As := [.long (el_ (a)), .long (el_ (0)), .long (el_ ((x2 - 1)))]) (st := []) rfl (by decide) rfl rfl (Nat.le_of_ble_eq_true rfl) ?_
    refine mt_within (by omega) (by omega) (by omega) (fun g3 g4 => ?_) (fun g5 => ?_) (fun g6 => ?_)
    · exact False.elim (by omega)
    · refine pw_iret rfl rfl rfl ?_
      refine pw_ifT rfl (by decide) (show 0 = 0 by decide) ?_
      refine pw_steps 1 (s' := (19, [some (.ref 47), some (.int (ei_ (a))), some (.int (ei_ (b))), none], [.int (ei_ ((-1)))], m)) rfl ?_
      refine pw_iret rfl rfl rfl ?_
      exact ⟨(-1), rfl, rfl, hR⟩
    · exact False.elim (by omega)
  · refine pw_steps 2 (s' := (6, [some (.ref 1), some (.int (ei_ (a)))], [.ref 1, .int (ei_ (a))], m)) rfl ?_
    refine pw_get rfl rfl (fun x7 (hx7 : x7 = vi_ m 1 1) rx7 sx7 => ?_)
    refine pw_cmp rfl q0 ⟨rx7, sx7⟩ (fun (h8 : x7 ≤ a) => ?_) (fun (h8 : ¬ (x7 ≤ a)) => ?_)
    · refine pw_steps 1 (s' := (17, [some (.ref 1), some (.int (ei_ (a)))], [.int (ei_ (0))], m)) rfl ?_
      refine pw_iret rfl rfl rfl ?_
      refine pw_ifT rfl (by decide) (show 0 = 0 by decide) ?_
      refine pw_steps 1 (s' := (23, [some (.ref 0), some (.int (ei_ (a))), some (.int (ei_ (b))), none], [.int (ei_ ((-1)))], m)) rfl ?_
      refine pw_iret rfl rfl rfl ?_
      refine pw_intro (I := iX9_lend) (T := tX9_lend) rfl rfl rfl ?_
      refine pw_steps 3 (s' := (3, [some (.ref 47), some (.int (ei_ (a))), some (.int (ei_ (b))), none], [.long ((ei_ (a)).toInt64), .ref 47], m)) rfl ?_
      refine pw_cv (congrArg (fun z_ : Int64 => ((3, [some (.ref 47), some (.int (ei_ (a))), some (.int (ei_ (b))), none], [.long z_, .ref 47], m) : am_S)) (el_i2l q0 rfl)) ?_
      refine pw_call (As := [.long (el_ (a))]) (st := []) (k := 47) rfl rfl rfl rfl rfl (Nat.le_of_ble_eq_true rfl) ?_
      refine pw_intro (I := iX9_isOne) (T := tX9_isOne) rfl rfl rfl ?_
      refine pw_steps 3 (s' := (3, [some (.ref 47), some (.long (el_ (a))), none], [.ref 47, .long (el_ (0)), .long (el_ (a))], m)) rfl ?_
      refine pw_get rfl rfl (fun x9 (hx9 : x9 = vi_ m 47 6) rx9 sx9 => ?_)
      refine pw_steps 3 (s' := (9, [some (.ref 47), some (.long (el_ (a))), none], [.long (((ei_ (x9)) - (ei_ (1))).toInt64), .long (el_ (0)), .long (el_ (a))], m)) rfl ?_
      refine pw_cv (congrArg (fun z_ : Int64 => ((9, [some (.ref 47), some (.long (el_ (a))), none], [.long z_, .long (el_ (0)), .long (el_ (a))], m) : am_S)) (el_i2l (by omega) (ei_sub rfl rfl))) ?_
      refine pw_callS (As := [.long (el_ (a)), .long (el_ (0)), .long (el_ ((x9 - 1)))]) (st := []) rfl (by decide) rfl rfl (Nat.le_of_ble_eq_true rfl) ?_
      refine mt_within (by omega) (by omega) (by omega) (fun g10 g11 => ?_) (fun g12 => ?_) (fun g13 => ?_)
      · exact False.elim (by omega)
      · exact False.elim (by omega)
      · refine pw_iret rfl rfl rfl ?_
        refine pw_ifT rfl (by decide) (show 0 = 0 by decide) ?_
        refine pw_steps 1 (s' := (19, [some (.ref 47), some (.int (ei_ (a))), some (.int (ei_ (b))), none], [.int (ei_ ((-1)))], m)) rfl ?_
        refine pw_iret rfl rfl rfl ?_
        exact ⟨(-1), rfl, rfl, hR⟩
    · refine pw_steps 2 (s' := (17, [some (.ref 1), some (.int (ei_ (a)))], [.int (ei_ (1))], m)) rfl ?_
      refine pw_iret rfl rfl rfl ?_
      refine pw_ifF rfl (by decide) (show ¬ (1 = 0) by decide) ?_
      refine pw_steps 3 (s' := (16, [some (.ref 0), some (.int (ei_ (a))), some (.int (ei_ (b))), none], [.int (ei_ (b)), .ref 1], m)) rfl ?_
      refine pw_call (As := [.int (ei_ (b))]) (st := []) (k := 1) rfl rfl rfl rfl rfl (Nat.le_of_ble_eq_true rfl) ?_
      refine pw_intro (I := iX3_has) (T := tX3_has) rfl rfl rfl ?_
      refine pw_steps 1 (s' := (1, [some (.ref 1), some (.int (ei_ (b)))], [.int (ei_ (b))], m)) rfl ?_
      refine pw_if rfl q1 (fun (h14 : b < 0) => ?_) (fun (h14 : ¬ (b < 0)) => ?_)
      · refine pw_steps 1 (s' := (17, [some (.ref 1), some (.int (ei_ (b)))], [.int (ei_ (0))], m)) rfl ?_
        refine pw_iret rfl rfl rfl ?_
        refine pw_ifF rfl (by decide) (show ¬ (¬ 0 = 0) by decide) ?_
        refine pw_steps 1 (s' := (23, [some (.ref 0), some (.int (ei_ (a))), some (.int (ei_ (b))), none], [.int (ei_ ((-1)))], m)) rfl ?_
        refine pw_iret rfl rfl rfl ?_
        refine pw_intro (I := iX9_lend) (T := tX9_lend) rfl rfl rfl ?_
        refine pw_steps 3 (s' := (3, [some (.ref 47), some (.int (ei_ (a))), some (.int (ei_ (b))), none], [.long ((ei_ (a)).toInt64), .ref 47], m)) rfl ?_
        refine pw_cv (congrArg (fun z_ : Int64 => ((3, [some (.ref 47), some (.int (ei_ (a))), some (.int (ei_ (b))), none], [.long z_, .ref 47], m) : am_S)) (el_i2l q0 rfl)) ?_
        refine pw_call (As := [.long (el_ (a))]) (st := []) (k := 47) rfl rfl rfl rfl rfl (Nat.le_of_ble_eq_true rfl) ?_
        refine pw_intro (I := iX9_isOne) (T := tX9_isOne) rfl rfl rfl ?_
        refine pw_steps 3 (s' := (3, [some (.ref 47), some (.long (el_ (a))), none], [.ref 47, .long (el_ (0)), .long (el_ (a))], m)) rfl ?_
        refine pw_get rfl rfl (fun x15 (hx15 : x15 = vi_ m 47 6) rx15 sx15 => ?_)
        refine pw_steps 3 (s' := (9, [some (.ref 47), some (.long (el_ (a))), none], [.long (((ei_ (x15)) - (ei_ (1))).toInt64), .long (el_ (0)), .long (el_ (a))], m)) rfl ?_
        refine pw_cv (congrArg (fun z_ : Int64 => ((9, [some (.ref 47), some (.long (el_ (a))), none], [.long z_, .long (el_ (0)), .long (el_ (a))], m) : am_S)) (el_i2l (by omega) (ei_sub rfl rfl))) ?_
        refine pw_callS (As := [.long (el_ (a)), .long (el_ (0)), .long (el_ ((x15 - 1)))]) (st := []) rfl (by decide) rfl rfl (Nat.le_of_ble_eq_true rfl) ?_
        refine mt_within (by omega) (by omega) (by omega) (fun g16 g17 => ?_) (fun g18 => ?_) (fun g19 => ?_)
        · refine pw_iret rfl rfl rfl ?_
          refine pw_ifF rfl (by decide) (show ¬ (1 = 0) by decide) ?_
          refine pw_steps 3 (s' := (12, [some (.ref 47), some (.int (ei_ (a))), some (.int (ei_ (b))), none], [.long ((ei_ (b)).toInt64), .ref 47], m)) rfl ?_
          refine pw_cv (congrArg (fun z_ : Int64 => ((12, [some (.ref 47), some (.int (ei_ (a))), some (.int (ei_ (b))), none], [.long z_, .ref 47], m) : am_S)) (el_i2l q1 rfl)) ?_
          refine pw_call (As := [.long (el_ (b))]) (st := []) (k := 47) rfl rfl rfl rfl rfl (Nat.le_of_ble_eq_true rfl) ?_
          refine pw_intro (I := iX9_isOne) (T := tX9_isOne) rfl rfl rfl ?_
          refine pw_steps 3 (s' := (3, [some (.ref 47), some (.long (el_ (b))), none], [.ref 47, .long (el_ (0)), .long (el_ (b))], m)) rfl ?_
          refine pw_getE (x := x15) rfl rfl hx15 ?_
          refine pw_steps 3 (s' := (9, [some (.ref 47), some (.long (el_ (b))), none], [.long (((ei_ (x15)) - (ei_ (1))).toInt64), .long (el_ (0)), .long (el_ (b))], m)) rfl ?_
          refine pw_cv (congrArg (fun z_ : Int64 => ((9, [some (.ref 47), some (.long (el_ (b))), none], [.long z_, .long (el_ (0)), .long (el_ (b))], m) : am_S)) (el_i2l (by omega) (ei_sub rfl rfl))) ?_
          refine pw_callS (As := [.long (el_ (b)), .long (el_ (0)), .long (el_ ((x15 - 1)))]) (st := []) rfl (by decide) rfl rfl (Nat.le_of_ble_eq_true rfl) ?_
          refine mt_within (by omega) (by omega) (by omega) (fun g20 g21 => ?_) (fun g22 => ?_) (fun g23 => ?_)
          · exact False.elim (by omega)
          · refine pw_iret rfl rfl rfl ?_
            refine pw_ifF rfl (by decide) (show ¬ (¬ 0 = 0) by decide) ?_
            refine pw_steps 1 (s' := (19, [some (.ref 47), some (.int (ei_ (a))), some (.int (ei_ (b))), none], [.int (ei_ ((-1)))], m)) rfl ?_
            refine pw_iret rfl rfl rfl ?_
            exact ⟨(-1), rfl, rfl, hR⟩
          · exact False.elim (by omega)
        · exact False.elim (by omega)
        · exact False.elim (by omega)
      · refine pw_steps 2 (s' := (6, [some (.ref 1), some (.int (ei_ (b)))], [.ref 1, .int (ei_ (b))], m)) rfl ?_
        refine pw_getE (x := x7) rfl rfl hx7 ?_
        refine pw_cmp rfl q1 ⟨rx7, sx7⟩ (fun (h24 : x7 ≤ b) => ?_) (fun (h24 : ¬ (x7 ≤ b)) => ?_)
        · refine pw_steps 1 (s' := (17, [some (.ref 1), some (.int (ei_ (b)))], [.int (ei_ (0))], m)) rfl ?_
          refine pw_iret rfl rfl rfl ?_
          refine pw_ifF rfl (by decide) (show ¬ (¬ 0 = 0) by decide) ?_
          refine pw_steps 1 (s' := (23, [some (.ref 0), some (.int (ei_ (a))), some (.int (ei_ (b))), none], [.int (ei_ ((-1)))], m)) rfl ?_
          refine pw_iret rfl rfl rfl ?_
          refine pw_intro (I := iX9_lend) (T := tX9_lend) rfl rfl rfl ?_
          refine pw_steps 3 (s' := (3, [some (.ref 47), some (.int (ei_ (a))), some (.int (ei_ (b))), none], [.long ((ei_ (a)).toInt64), .ref 47], m)) rfl ?_
          refine pw_cv (congrArg (fun z_ : Int64 => ((3, [some (.ref 47), some (.int (ei_ (a))), some (.int (ei_ (b))), none], [.long z_, .ref 47], m) : am_S)) (el_i2l q0 rfl)) ?_
          refine pw_call (As := [.long (el_ (a))]) (st := []) (k := 47) rfl rfl rfl rfl rfl (Nat.le_of_ble_eq_true rfl) ?_
          refine pw_intro (I := iX9_isOne) (T := tX9_isOne) rfl rfl rfl ?_
          refine pw_steps 3 (s' := (3, [some (.ref 47), some (.long (el_ (a))), none], [.ref 47, .long (el_ (0)), .long (el_ (a))], m)) rfl ?_
          refine pw_get rfl rfl (fun x25 (hx25 : x25 = vi_ m 47 6) rx25 sx25 => ?_)
          refine pw_steps 3 (s' := (9, [some (.ref 47), some (.long (el_ (a))), none], [.long (((ei_ (x25)) - (ei_ (1))).toInt64), .long (el_ (0)), .long (el_ (a))], m)) rfl ?_
          refine pw_cv (congrArg (fun z_ : Int64 => ((9, [some (.ref 47), some (.long (el_ (a))), none], [.long z_, .long (el_ (0)), .long (el_ (a))], m) : am_S)) (el_i2l (by omega) (ei_sub rfl rfl))) ?_
          refine pw_callS (As := [.long (el_ (a)), .long (el_ (0)), .long (el_ ((x25 - 1)))]) (st := []) rfl (by decide) rfl rfl (Nat.le_of_ble_eq_true rfl) ?_
          refine mt_within (by omega) (by omega) (by omega) (fun g26 g27 => ?_) (fun g28 => ?_) (fun g29 => ?_)
          · refine pw_iret rfl rfl rfl ?_
            refine pw_ifF rfl (by decide) (show ¬ (1 = 0) by decide) ?_
            refine pw_steps 3 (s' := (12, [some (.ref 47), some (.int (ei_ (a))), some (.int (ei_ (b))), none], [.long ((ei_ (b)).toInt64), .ref 47], m)) rfl ?_
            refine pw_cv (congrArg (fun z_ : Int64 => ((12, [some (.ref 47), some (.int (ei_ (a))), some (.int (ei_ (b))), none], [.long z_, .ref 47], m) : am_S)) (el_i2l q1 rfl)) ?_
            refine pw_call (As := [.long (el_ (b))]) (st := []) (k := 47) rfl rfl rfl rfl rfl (Nat.le_of_ble_eq_true rfl) ?_
            refine pw_intro (I := iX9_isOne) (T := tX9_isOne) rfl rfl rfl ?_
            refine pw_steps 3 (s' := (3, [some (.ref 47), some (.long (el_ (b))), none], [.ref 47, .long (el_ (0)), .long (el_ (b))], m)) rfl ?_
            refine pw_getE (x := x25) rfl rfl hx25 ?_
            refine pw_steps 3 (s' := (9, [some (.ref 47), some (.long (el_ (b))), none], [.long (((ei_ (x25)) - (ei_ (1))).toInt64), .long (el_ (0)), .long (el_ (b))], m)) rfl ?_
            refine pw_cv (congrArg (fun z_ : Int64 => ((9, [some (.ref 47), some (.long (el_ (b))), none], [.long z_, .long (el_ (0)), .long (el_ (b))], m) : am_S)) (el_i2l (by omega) (ei_sub rfl rfl))) ?_
            refine pw_callS (As := [.long (el_ (b)), .long (el_ (0)), .long (el_ ((x25 - 1)))]) (st := []) rfl (by decide) rfl rfl (Nat.le_of_ble_eq_true rfl) ?_
            refine mt_within (by omega) (by omega) (by omega) (fun g30 g31 => ?_) (fun g32 => ?_) (fun g33 => ?_)
            · exact False.elim (by omega)
            · exact False.elim (by omega)
            · refine pw_iret rfl rfl rfl ?_
              refine pw_ifF rfl (by decide) (show ¬ (¬ 0 = 0) by decide) ?_
              refine pw_steps 1 (s' := (19, [some (.ref 47), some (.int (ei_ (a))), some (.int (ei_ (b))), none], [.int (ei_ ((-1)))], m)) rfl ?_
              refine pw_iret rfl rfl rfl ?_
              exact ⟨(-1), rfl, rfl, hR⟩
          · exact False.elim (by omega)
          · exact False.elim (by omega)
        · refine pw_steps 2 (s' := (17, [some (.ref 1), some (.int (ei_ (b)))], [.int (ei_ (1))], m)) rfl ?_
          refine pw_iret rfl rfl rfl ?_
          refine pw_ifT rfl (by decide) (show ¬ 1 = 0 by decide) ?_
          refine pw_steps 3 (s' := (29, [some (.ref 0), some (.int (ei_ (a))), some (.int (ei_ (b))), none], [.int (ei_ (a)), .ref 3], m)) rfl ?_
          refine pw_call (As := [.int (ei_ (a))]) (st := []) (k := 3) rfl rfl rfl rfl rfl (Nat.le_of_ble_eq_true rfl) ?_
          refine cw_wearer2 ((sm_rfl m)) (by omega) (fun x34 g35 g36 => ?_)
          refine pw_steps 3 (s' := (35, [some (.ref 0), some (.int (ei_ (a))), some (.int (ei_ (b))), some (.int (ei_ (x34)))], [.int (ei_ (b)), .int (ei_ (x34))], m)) rfl ?_
          refine pw_cmp rfl (by omega) q1 (fun (h37 : ¬ x34 = b) => ?_) (fun (h37 : ¬ ¬ x34 = b) => ?_)
          · refine pw_steps 2 (s' := (42, [some (.ref 0), some (.int (ei_ (a))), some (.int (ei_ (b))), some (.int (ei_ (x34)))], [.int (ei_ (b)), .ref 0], m)) rfl ?_
            refine pw_call (As := [.int (ei_ (b))]) (st := []) (k := 0) rfl rfl rfl rfl rfl (Nat.le_of_ble_eq_true rfl) ?_
            refine pw_intro (I := iX8_mayWearMore) (T := tX8_mayWearMore) rfl rfl rfl ?_
            refine pw_steps 3 (s' := (5, [some (.ref 0), some (.int (ei_ (b)))], [.int (ei_ (b)), .ref 3], m)) rfl ?_
            refine pw_call (As := [.int (ei_ (b))]) (st := []) (k := 3) rfl rfl rfl rfl rfl (Nat.le_of_ble_eq_true rfl) ?_
            refine cw_worn ((sm_rfl m)) (by omega) (fun x38 g39 g40 => ?_)
            refine pw_steps 4 (s' := (14, [some (.ref 0), some (.int (ei_ (b)))], [.int (ei_ (2)), .int (ei_ (b)), .ref 1, .int (ei_ (x38))], m)) rfl ?_
            refine pw_call (As := [.int (ei_ (b)), .int (ei_ (2))]) (st := [.int (ei_ (x38))]) (k := 1) rfl rfl rfl rfl rfl (Nat.le_of_ble_eq_true rfl) ?_
            refine cw_told2 (hp) ((sm_rfl m)) (by omega) (fun x41 g42 g43 => ?_)
            refine pw_cmp rfl (by omega) (by omega) (fun (h44 : x41 ≤ x38) => ?_) (fun (h44 : ¬ (x41 ≤ x38)) => ?_)
            · refine pw_steps 1 (s' := (25, [some (.ref 0), some (.int (ei_ (b)))], [.int (ei_ (0))], m)) rfl ?_
              refine pw_iret rfl rfl rfl ?_
              refine pw_ifF rfl (by decide) (show ¬ (¬ 0 = 0) by decide) ?_
              refine pw_steps 1 (s' := (50, [some (.ref 0), some (.int (ei_ (a))), some (.int (ei_ (b))), some (.int (ei_ (x34)))], [.int (ei_ ((-5)))], m)) rfl ?_
              refine pw_iret rfl rfl rfl ?_
              refine pw_intro (I := iX9_lend) (T := tX9_lend) rfl rfl rfl ?_
              refine pw_steps 3 (s' := (3, [some (.ref 47), some (.int (ei_ (a))), some (.int (ei_ (b))), none], [.long ((ei_ (a)).toInt64), .ref 47], m)) rfl ?_
              refine pw_cv (congrArg (fun z_ : Int64 => ((3, [some (.ref 47), some (.int (ei_ (a))), some (.int (ei_ (b))), none], [.long z_, .ref 47], m) : am_S)) (el_i2l q0 rfl)) ?_
              refine pw_call (As := [.long (el_ (a))]) (st := []) (k := 47) rfl rfl rfl rfl rfl (Nat.le_of_ble_eq_true rfl) ?_
              refine pw_intro (I := iX9_isOne) (T := tX9_isOne) rfl rfl rfl ?_
              refine pw_steps 3 (s' := (3, [some (.ref 47), some (.long (el_ (a))), none], [.ref 47, .long (el_ (0)), .long (el_ (a))], m)) rfl ?_
              refine pw_get rfl rfl (fun x45 (hx45 : x45 = vi_ m 47 6) rx45 sx45 => ?_)
              refine pw_steps 3 (s' := (9, [some (.ref 47), some (.long (el_ (a))), none], [.long (((ei_ (x45)) - (ei_ (1))).toInt64), .long (el_ (0)), .long (el_ (a))], m)) rfl ?_
              refine pw_cv (congrArg (fun z_ : Int64 => ((9, [some (.ref 47), some (.long (el_ (a))), none], [.long z_, .long (el_ (0)), .long (el_ (a))], m) : am_S)) (el_i2l (by omega) (ei_sub rfl rfl))) ?_
              refine pw_callS (As := [.long (el_ (a)), .long (el_ (0)), .long (el_ ((x45 - 1)))]) (st := []) rfl (by decide) rfl rfl (Nat.le_of_ble_eq_true rfl) ?_
              refine mt_within (by omega) (by omega) (by omega) (fun g46 g47 => ?_) (fun g48 => ?_) (fun g49 => ?_)
              · refine pw_iret rfl rfl rfl ?_
                refine pw_ifF rfl (by decide) (show ¬ (1 = 0) by decide) ?_
                refine pw_steps 3 (s' := (12, [some (.ref 47), some (.int (ei_ (a))), some (.int (ei_ (b))), none], [.long ((ei_ (b)).toInt64), .ref 47], m)) rfl ?_
                refine pw_cv (congrArg (fun z_ : Int64 => ((12, [some (.ref 47), some (.int (ei_ (a))), some (.int (ei_ (b))), none], [.long z_, .ref 47], m) : am_S)) (el_i2l q1 rfl)) ?_
                refine pw_call (As := [.long (el_ (b))]) (st := []) (k := 47) rfl rfl rfl rfl rfl (Nat.le_of_ble_eq_true rfl) ?_
                refine pw_intro (I := iX9_isOne) (T := tX9_isOne) rfl rfl rfl ?_
                refine pw_steps 3 (s' := (3, [some (.ref 47), some (.long (el_ (b))), none], [.ref 47, .long (el_ (0)), .long (el_ (b))], m)) rfl ?_
                refine pw_getE (x := x45) rfl rfl hx45 ?_
                refine pw_steps 3 (s' := (9, [some (.ref 47), some (.long (el_ (b))), none], [.long (((ei_ (x45)) - (ei_ (1))).toInt64), .long (el_ (0)), .long (el_ (b))], m)) rfl ?_
                refine pw_cv (congrArg (fun z_ : Int64 => ((9, [some (.ref 47), some (.long (el_ (b))), none], [.long z_, .long (el_ (0)), .long (el_ (b))], m) : am_S)) (el_i2l (by omega) (ei_sub rfl rfl))) ?_
                refine pw_callS (As := [.long (el_ (b)), .long (el_ (0)), .long (el_ ((x45 - 1)))]) (st := []) rfl (by decide) rfl rfl (Nat.le_of_ble_eq_true rfl) ?_
                refine mt_within (by omega) (by omega) (by omega) (fun g50 g51 => ?_) (fun g52 => ?_) (fun g53 => ?_)
                · refine pw_iret rfl rfl rfl ?_
                  refine pw_ifT rfl (by decide) (show ¬ 1 = 0 by decide) ?_
                  refine pw_steps 3 (s' := (25, [some (.ref 47), some (.int (ei_ (a))), some (.int (ei_ (b))), none], [.int (ei_ (a)), .ref 52], m)) rfl ?_
                  refine pw_ild rfl rfl (by omega) (fun x54 (hx54 : x54 = vi_ m 52 a) rx54 sx54 => ?_)
                  have b55 := hmw a (by omega) (by omega)
                  have b55b := (hd.2.2.1 a (by omega) (by omega)).1
                  refine pw_steps 3 (s' := (29, [some (.ref 47), some (.int (ei_ (a))), some (.int (ei_ (b))), some (.int (ei_ (x54)))], [.int (ei_ (b)), .int (ei_ (x54))], m)) rfl ?_
                  refine pw_cmpT rfl ⟨rx54, sx54⟩ q1 (show ¬ x54 = b by omega) ?_
                  refine pw_steps 2 (s' := (36, [some (.ref 47), some (.int (ei_ (a))), some (.int (ei_ (b))), some (.int (ei_ (x54)))], [.int (ei_ (b)), .ref 47], m)) rfl ?_
                  refine pw_call (As := [.int (ei_ (b))]) (st := []) (k := 47) rfl rfl rfl rfl rfl (Nat.le_of_ble_eq_true rfl) ?_
                  refine mw_many (rP_fr (P := pLen) (sm_rfl m) rfl rfl (fun _ => rfl) (fun _ => rfl) hp) (sm_rfl _) (by omega) (fun x56 g57 g58 => ?_)
                  replace g57 : x56 = cn_ (vi_ m 52) b (vi_ m 1 1).toNat := g57
                  rw [cn_mc hp hd (v := b) ⟨by omega, by omega⟩] at g57
                  refine pw_steps 3 (s' := (42, [some (.ref 47), some (.int (ei_ (a))), some (.int (ei_ (b))), some (.int (ei_ (x54)))], [.int (ei_ (2)), .int (ei_ (b)), .ref 47, .int (ei_ (x56))], m)) rfl ?_
                  refine pw_call (As := [.int (ei_ (b)), .int (ei_ (2))]) (st := [.int (ei_ (x56))]) (k := 47) rfl rfl rfl rfl rfl (Nat.le_of_ble_eq_true rfl) ?_
                  refine pw_intro (I := iX9_ofOne) (T := tX9_ofOne) rfl rfl rfl ?_
                  refine pw_steps 7 (s' := (10, [some (.ref 47), some (.int (ei_ (b))), some (.int (ei_ (2)))], [.int (((ei_ (8)) * (ei_ (2))) + (ei_ (b))), .ref 48], m)) rfl ?_
                  refine pw_cv (congrArg (fun z_ : Int32 => ((10, [some (.ref 47), some (.int (ei_ (b))), some (.int (ei_ (2)))], [.int z_, .ref 48], m) : am_S)) (ei_add (ei_mul rfl rfl) rfl)) ?_
                  refine pw_ild rfl rfl (by omega) (fun x59 (hx59 : x59 = vi_ m 48 (16 + b)) rx59 sx59 => ?_)
                  have ox59 := hx59
                  have b60 := hP3 (16 + b) (by omega) (by omega)
                  rw [b60.2.2] at hx59
                  try rw [Int.zero_add] at hx59 b60
                  refine pw_iret rfl rfl rfl ?_
                  refine pw_cmpF rfl (by omega) ⟨rx59, sx59⟩ (show ¬ (x56 < x59) by omega) ?_
                  refine pw_steps 1 (s' := (50, [some (.ref 47), some (.int (ei_ (a))), some (.int (ei_ (b))), some (.int (ei_ (x54)))], [.int (ei_ ((-5)))], m)) rfl ?_
                  refine pw_iret rfl rfl rfl ?_
                  exact ⟨(-5), rfl, rfl, hR⟩
                · exact False.elim (by omega)
                · exact False.elim (by omega)
              · exact False.elim (by omega)
              · exact False.elim (by omega)
            · refine pw_steps 2 (s' := (25, [some (.ref 0), some (.int (ei_ (b)))], [.int (ei_ (1))], m)) rfl ?_
              refine pw_iret rfl rfl rfl ?_
              refine pw_ifT rfl (by decide) (show ¬ 1 = 0 by decide) ?_
              refine pw_steps 4 (s' := (57, [some (.ref 0), some (.int (ei_ (a))), some (.int (ei_ (b))), some (.int (ei_ (x34)))], [.int (ei_ (b)), .int (ei_ (a)), .ref 3], m)) rfl ?_
              refine pw_call (As := [.int (ei_ (a)), .int (ei_ (b))]) (st := []) (k := 3) rfl rfl rfl rfl rfl (Nat.le_of_ble_eq_true rfl) ?_
              refine pw_intro (I := iX2_lendTo) (T := tX2_lendTo) rfl rfl rfl ?_
              refine pw_steps 1 (s' := (1, [some (.ref 3), some (.int (ei_ (a))), some (.int (ei_ (b)))], [.int (ei_ (a))], m)) rfl ?_
              refine pw_callS (As := [.int (ei_ (a))]) (st := []) rfl (by decide) rfl rfl (Nat.le_of_ble_eq_true rfl) ?_
              refine pw_intro (I := iX2_isIn) (T := tX2_isIn) rfl rfl rfl ?_
              refine pw_steps 1 (s' := (1, [some (.int (ei_ (a)))], [.int (ei_ (a))], m)) rfl ?_
              refine pw_ifF rfl q0 (show ¬ (a < 0) by omega) ?_
              refine pw_steps 2 (s' := (7, [some (.int (ei_ (a)))], [.int (ei_ (8)), .int (ei_ (a))], m)) rfl ?_
              refine pw_cmpF rfl q0 (by decide) (show ¬ (8 ≤ a) by omega) ?_
              refine pw_steps 2 (s' := (15, [some (.int (ei_ (a)))], [.int (ei_ (1))], m)) rfl ?_
              refine pw_iret rfl rfl rfl ?_
              refine pw_ifF rfl (by decide) (show ¬ (1 = 0) by decide) ?_
              refine pw_steps 1 (s' := (8, [some (.ref 3), some (.int (ei_ (a))), some (.int (ei_ (b)))], [.int (ei_ (b))], m)) rfl ?_
              refine pw_callS (As := [.int (ei_ (b))]) (st := []) rfl (by decide) rfl rfl (Nat.le_of_ble_eq_true rfl) ?_
              refine pw_intro (I := iX2_isIn) (T := tX2_isIn) rfl rfl rfl ?_
              refine pw_steps 1 (s' := (1, [some (.int (ei_ (b)))], [.int (ei_ (b))], m)) rfl ?_
              refine pw_ifF rfl q1 (show ¬ (b < 0) by omega) ?_
              refine pw_steps 2 (s' := (7, [some (.int (ei_ (b)))], [.int (ei_ (8)), .int (ei_ (b))], m)) rfl ?_
              refine pw_cmpF rfl q1 (by decide) (show ¬ (8 ≤ b) by omega) ?_
              refine pw_steps 2 (s' := (15, [some (.int (ei_ (b)))], [.int (ei_ (1))], m)) rfl ?_
              refine pw_iret rfl rfl rfl ?_
              refine pw_ifF rfl (by decide) (show ¬ (1 = 0) by decide) ?_
              refine pw_steps 4 (s' := (20, [some (.ref 3), some (.int (ei_ (a))), some (.int (ei_ (b)))], [.int (ei_ (b)), .int (ei_ (a)), .ref 4], m)) rfl ?_
              refine pw_ist rfl rfl (by omega) ?_
              refine pw_steps 2 (s' := (23, [some (.ref 3), some (.int (ei_ (a))), some (.int (ei_ (b)))], [.ref 3, .ref 3], wi_ m 4 (a) (b))) rfl ?_
              refine pw_get rfl rfl (fun x61 (hx61 : x61 = vi_ m 3 4) rx61 sx61 => ?_)
              refine pw_steps 2 (s' := (28, [some (.ref 3), some (.int (ei_ (a))), some (.int (ei_ (b)))], [.int ((ei_ (x61)) + (ei_ (1))), .ref 3], wi_ m 4 (a) (b))) rfl ?_
              refine pw_cv (congrArg (fun z_ : Int32 => ((28, [some (.ref 3), some (.int (ei_ (a))), some (.int (ei_ (b)))], [.int z_, .ref 3], wi_ m 4 (a) (b)) : am_S)) (ei_add rfl rfl)) ?_
              refine pw_put (v := (x61 + 1)) rfl rfl (Or.inl rfl) ?_
              refine pw_cv (s' := (31, [some (.ref 3), some (.int (ei_ (a))), some (.int (ei_ (b)))], [], wi_ (wi_ m 4 (a) (b)) 3 (4) ((x61 + 1)))) rfl ?_
              refine pw_vret rfl rfl ?_
              refine pw_steps 1 (s' := (61, [some (.ref 0), some (.int (ei_ (a))), some (.int (ei_ (b))), some (.int (ei_ (x34)))], [.int (ei_ (x34))], wi_ (wi_ m 4 (a) (b)) 3 (4) ((x61 + 1)))) rfl ?_
              refine pw_iret rfl rfl rfl ?_
              refine pw_intro (I := iX9_lend) (T := tX9_lend) rfl rfl rfl ?_
              refine pw_steps 3 (s' := (3, [some (.ref 47), some (.int (ei_ (a))), some (.int (ei_ (b))), none], [.long ((ei_ (a)).toInt64), .ref 47], wi_ (wi_ m 4 (a) (b)) 3 (4) ((x61 + 1)))) rfl ?_
              refine pw_cv (congrArg (fun z_ : Int64 => ((3, [some (.ref 47), some (.int (ei_ (a))), some (.int (ei_ (b))), none], [.long z_, .ref 47], wi_ (wi_ m 4 (a) (b)) 3 (4) ((x61 + 1))) : am_S)) (el_i2l q0 rfl)) ?_
              refine pw_call (As := [.long (el_ (a))]) (st := []) (k := 47) rfl rfl rfl rfl rfl (Nat.le_of_ble_eq_true rfl) ?_
              refine pw_intro (I := iX9_isOne) (T := tX9_isOne) rfl rfl rfl ?_
              refine pw_steps 3 (s' := (3, [some (.ref 47), some (.long (el_ (a))), none], [.ref 47, .long (el_ (0)), .long (el_ (a))], wi_ (wi_ m 4 (a) (b)) 3 (4) ((x61 + 1)))) rfl ?_
              refine pw_get rfl rfl (fun x62 (hx62 : x62 = vi_ m 47 6) rx62 sx62 => ?_)
              refine pw_steps 3 (s' := (9, [some (.ref 47), some (.long (el_ (a))), none], [.long (((ei_ (x62)) - (ei_ (1))).toInt64), .long (el_ (0)), .long (el_ (a))], wi_ (wi_ m 4 (a) (b)) 3 (4) ((x61 + 1)))) rfl ?_
              refine pw_cv (congrArg (fun z_ : Int64 => ((9, [some (.ref 47), some (.long (el_ (a))), none], [.long z_, .long (el_ (0)), .long (el_ (a))], wi_ (wi_ m 4 (a) (b)) 3 (4) ((x61 + 1))) : am_S)) (el_i2l (by omega) (ei_sub rfl rfl))) ?_
              refine pw_callS (As := [.long (el_ (a)), .long (el_ (0)), .long (el_ ((x62 - 1)))]) (st := []) rfl (by decide) rfl rfl (Nat.le_of_ble_eq_true rfl) ?_
              refine mt_within (by omega) (by omega) (by omega) (fun g63 g64 => ?_) (fun g65 => ?_) (fun g66 => ?_)
              · refine pw_iret rfl rfl rfl ?_
                refine pw_ifF rfl (by decide) (show ¬ (1 = 0) by decide) ?_
                refine pw_steps 3 (s' := (12, [some (.ref 47), some (.int (ei_ (a))), some (.int (ei_ (b))), none], [.long ((ei_ (b)).toInt64), .ref 47], wi_ (wi_ m 4 (a) (b)) 3 (4) ((x61 + 1)))) rfl ?_
                refine pw_cv (congrArg (fun z_ : Int64 => ((12, [some (.ref 47), some (.int (ei_ (a))), some (.int (ei_ (b))), none], [.long z_, .ref 47], wi_ (wi_ m 4 (a) (b)) 3 (4) ((x61 + 1))) : am_S)) (el_i2l q1 rfl)) ?_
                refine pw_call (As := [.long (el_ (b))]) (st := []) (k := 47) rfl rfl rfl rfl rfl (Nat.le_of_ble_eq_true rfl) ?_
                refine pw_intro (I := iX9_isOne) (T := tX9_isOne) rfl rfl rfl ?_
                refine pw_steps 3 (s' := (3, [some (.ref 47), some (.long (el_ (b))), none], [.ref 47, .long (el_ (0)), .long (el_ (b))], wi_ (wi_ m 4 (a) (b)) 3 (4) ((x61 + 1)))) rfl ?_
                refine pw_getE (x := x62) rfl rfl hx62 ?_
                refine pw_steps 3 (s' := (9, [some (.ref 47), some (.long (el_ (b))), none], [.long (((ei_ (x62)) - (ei_ (1))).toInt64), .long (el_ (0)), .long (el_ (b))], wi_ (wi_ m 4 (a) (b)) 3 (4) ((x61 + 1)))) rfl ?_
                refine pw_cv (congrArg (fun z_ : Int64 => ((9, [some (.ref 47), some (.long (el_ (b))), none], [.long z_, .long (el_ (0)), .long (el_ (b))], wi_ (wi_ m 4 (a) (b)) 3 (4) ((x61 + 1))) : am_S)) (el_i2l (by omega) (ei_sub rfl rfl))) ?_
                refine pw_callS (As := [.long (el_ (b)), .long (el_ (0)), .long (el_ ((x62 - 1)))]) (st := []) rfl (by decide) rfl rfl (Nat.le_of_ble_eq_true rfl) ?_
                refine mt_within (by omega) (by omega) (by omega) (fun g67 g68 => ?_) (fun g69 => ?_) (fun g70 => ?_)
                · refine pw_iret rfl rfl rfl ?_
                  refine pw_ifT rfl (by decide) (show ¬ 1 = 0 by decide) ?_
                  refine pw_steps 3 (s' := (25, [some (.ref 47), some (.int (ei_ (a))), some (.int (ei_ (b))), none], [.int (ei_ (a)), .ref 52], wi_ (wi_ m 4 (a) (b)) 3 (4) ((x61 + 1)))) rfl ?_
                  refine pw_ild rfl rfl (by omega) (fun x71 (hx71 : x71 = vi_ m 52 a) rx71 sx71 => ?_)
                  have b72 := hmw a (by omega) (by omega)
                  have b72b := (hd.2.2.1 a (by omega) (by omega)).1
                  refine pw_steps 3 (s' := (29, [some (.ref 47), some (.int (ei_ (a))), some (.int (ei_ (b))), some (.int (ei_ (x71)))], [.int (ei_ (b)), .int (ei_ (x71))], wi_ (wi_ m 4 (a) (b)) 3 (4) ((x61 + 1)))) rfl ?_
                  refine pw_cmpT rfl ⟨rx71, sx71⟩ q1 (show ¬ x71 = b by omega) ?_
                  refine pw_steps 2 (s' := (36, [some (.ref 47), some (.int (ei_ (a))), some (.int (ei_ (b))), some (.int (ei_ (x71)))], [.int (ei_ (b)), .ref 47], wi_ (wi_ m 4 (a) (b)) 3 (4) ((x61 + 1)))) rfl ?_
                  refine pw_call (As := [.int (ei_ (b))]) (st := []) (k := 47) rfl rfl rfl rfl rfl (Nat.le_of_ble_eq_true rfl) ?_
                  refine mw_many (rP_fr (P := pLen) (sm_w (sm_w (sm_rfl m) (fun _ h_ => by rw [h_]; rfl)) (fun _ h_ => by rw [h_]; rfl)) rfl rfl (fun _ => rfl) (fun _ => rfl) hp) (sm_rfl _) (by omega) (fun x73 g74 g75 => ?_)
                  replace g74 : x73 = cn_ (vi_ m 52) b (vi_ m 1 1).toNat := g74
                  rw [cn_mc hp hd (v := b) ⟨by omega, by omega⟩] at g74
                  refine pw_steps 3 (s' := (42, [some (.ref 47), some (.int (ei_ (a))), some (.int (ei_ (b))), some (.int (ei_ (x71)))], [.int (ei_ (2)), .int (ei_ (b)), .ref 47, .int (ei_ (x73))], wi_ (wi_ m 4 (a) (b)) 3 (4) ((x61 + 1)))) rfl ?_
                  refine pw_call (As := [.int (ei_ (b)), .int (ei_ (2))]) (st := [.int (ei_ (x73))]) (k := 47) rfl rfl rfl rfl rfl (Nat.le_of_ble_eq_true rfl) ?_
                  refine pw_intro (I := iX9_ofOne) (T := tX9_ofOne) rfl rfl rfl ?_
                  refine pw_steps 7 (s' := (10, [some (.ref 47), some (.int (ei_ (b))), some (.int (ei_ (2)))], [.int (((ei_ (8)) * (ei_ (2))) + (ei_ (b))), .ref 48], wi_ (wi_ m 4 (a) (b)) 3 (4) ((x61 + 1)))) rfl ?_
                  refine pw_cv (congrArg (fun z_ : Int32 => ((10, [some (.ref 47), some (.int (ei_ (b))), some (.int (ei_ (2)))], [.int z_, .ref 48], wi_ (wi_ m 4 (a) (b)) 3 (4) ((x61 + 1))) : am_S)) (ei_add (ei_mul rfl rfl) rfl)) ?_
                  refine pw_ild rfl rfl (by omega) (fun x76 (hx76 : x76 = vi_ m 48 (16 + b)) rx76 sx76 => ?_)
                  have ox76 := hx76
                  have b77 := hP3 (16 + b) (by omega) (by omega)
                  rw [b77.2.2] at hx76
                  try rw [Int.zero_add] at hx76 b77
                  refine pw_iret rfl rfl rfl ?_
                  refine pw_cmpT rfl (by omega) ⟨rx76, sx76⟩ (show x73 < x76 by omega) ?_
                  refine pw_steps 4 (s' := (57, [some (.ref 47), some (.int (ei_ (a))), some (.int (ei_ (b))), some (.int (ei_ (x71)))], [.int (ei_ (b)), .int (ei_ (a)), .ref 52], wi_ (wi_ m 4 (a) (b)) 3 (4) ((x61 + 1)))) rfl ?_
                  refine pw_ist rfl rfl (by omega) ?_
                  refine pw_steps 2 (s' := (60, [some (.ref 47), some (.int (ei_ (a))), some (.int (ei_ (b))), some (.int (ei_ (x71)))], [.ref 47, .ref 47], wi_ (wi_ (wi_ m 4 (a) (b)) 3 (4) ((x61 + 1))) 52 (a) (b))) rfl ?_
                  refine pw_get rfl rfl (fun x78 (hx78 : x78 = vi_ m 47 27) rx78 sx78 => ?_)
                  refine pw_steps 2 (s' := (65, [some (.ref 47), some (.int (ei_ (a))), some (.int (ei_ (b))), some (.int (ei_ (x71)))], [.int ((ei_ (x78)) + (ei_ (1))), .ref 47], wi_ (wi_ (wi_ m 4 (a) (b)) 3 (4) ((x61 + 1))) 52 (a) (b))) rfl ?_
                  refine pw_cv (congrArg (fun z_ : Int32 => ((65, [some (.ref 47), some (.int (ei_ (a))), some (.int (ei_ (b))), some (.int (ei_ (x71)))], [.int z_, .ref 47], wi_ (wi_ (wi_ m 4 (a) (b)) 3 (4) ((x61 + 1))) 52 (a) (b)) : am_S)) (ei_add rfl rfl)) ?_
                  refine pw_put (v := (x78 + 1)) rfl rfl (Or.inl rfl) ?_
                  refine pw_cv (s' := (68, [some (.ref 47), some (.int (ei_ (a))), some (.int (ei_ (b))), some (.int (ei_ (x71)))], [], wi_ (wi_ (wi_ (wi_ m 4 (a) (b)) 3 (4) ((x61 + 1))) 52 (a) (b)) 47 (27) ((x78 + 1)))) rfl ?_
                  refine pw_steps 1 (s' := (69, [some (.ref 47), some (.int (ei_ (a))), some (.int (ei_ (b))), some (.int (ei_ (x71)))], [.int (ei_ (x71))], wi_ (wi_ (wi_ (wi_ m 4 (a) (b)) 3 (4) ((x61 + 1))) 52 (a) (b)) 47 (27) ((x78 + 1)))) rfl ?_
                  refine pw_iret rfl rfl rfl ?_
                  have hsm_ : sm_ pLen m (wi_ (wi_ (wi_ (wi_ m 4 (a) (b)) 3 (4) ((x61 + 1))) 52 (a) (b)) 47 (27) ((x78 + 1))) := (sm_w (sm_w (sm_w (sm_w (sm_rfl m) (fun _ h_ => by rw [h_]; rfl)) (fun _ h_ => by rw [h_]; rfl)) (fun _ h_ => by rw [h_]; rfl)) (fun _ h_ => by rw [h_]; rfl))
                  have hx_ : (x71 : Int) = x34 := by omega
                  exact ⟨x34, rfl, congrArg (fun z_ : Int => some (Value.int (ei_ z_))) hx_, ⟨rP_fr hsm_ rfl rfl (fun _ => rfl) (fun _ => rfl) hp, rD_lend hp hd hx61 hx78 ⟨by omega, by omega⟩ ⟨by omega, by omega⟩, rI_fr hsm_ rfl rfl rfl rfl (fun _ => rfl) (fun _ => rfl) (fun _ => rfl) (fun _ => rfl) (fun _ => rfl) (fun _ => rfl) (fun _ => rfl) rfl rfl rfl hi, rT_fr hsm_ rfl rfl (fun _ => rfl) (fun _ => rfl) ht, rL_fr hsm_ rfl rfl (fun _ => rfl) (fun _ => rfl) hl, rZ_fr hsm_ rfl hz, rC_fr hsm_ rfl rfl rfl rfl (fun _ => rfl) (fun _ => rfl) (fun _ => rfl) (fun _ => rfl) (fun _ => rfl) (fun _ => rfl) (fun _ => rfl) rfl hc, rA_fr hsm_ rfl rfl (fun _ => rfl) (fun _ => rfl) rfl rfl (fun _ => rfl) (fun _ => rfl) ha, rS_fr hsm_ (fun _ => rfl) (fun _ => rfl) rfl (fun d_ a_ b_ => by rcases sf_six ⟨a_, b_⟩ with h_ | h_ | h_ | h_ | h_ | h_ <;> subst h_ <;> exact ⟨rfl, rfl, rfl⟩) hs⟩⟩
                · exact False.elim (by omega)
                · exact False.elim (by omega)
              · exact False.elim (by omega)
              · exact False.elim (by omega)
          · refine pw_steps 1 (s' := (39, [some (.ref 0), some (.int (ei_ (a))), some (.int (ei_ (b))), some (.int (ei_ (x34)))], [.int (ei_ (x34))], m)) rfl ?_
            refine pw_iret rfl rfl rfl ?_
            refine pw_intro (I := iX9_lend) (T := tX9_lend) rfl rfl rfl ?_
            refine pw_steps 3 (s' := (3, [some (.ref 47), some (.int (ei_ (a))), some (.int (ei_ (b))), none], [.long ((ei_ (a)).toInt64), .ref 47], m)) rfl ?_
            refine pw_cv (congrArg (fun z_ : Int64 => ((3, [some (.ref 47), some (.int (ei_ (a))), some (.int (ei_ (b))), none], [.long z_, .ref 47], m) : am_S)) (el_i2l q0 rfl)) ?_
            refine pw_call (As := [.long (el_ (a))]) (st := []) (k := 47) rfl rfl rfl rfl rfl (Nat.le_of_ble_eq_true rfl) ?_
            refine pw_intro (I := iX9_isOne) (T := tX9_isOne) rfl rfl rfl ?_
            refine pw_steps 3 (s' := (3, [some (.ref 47), some (.long (el_ (a))), none], [.ref 47, .long (el_ (0)), .long (el_ (a))], m)) rfl ?_
            refine pw_get rfl rfl (fun x79 (hx79 : x79 = vi_ m 47 6) rx79 sx79 => ?_)
            refine pw_steps 3 (s' := (9, [some (.ref 47), some (.long (el_ (a))), none], [.long (((ei_ (x79)) - (ei_ (1))).toInt64), .long (el_ (0)), .long (el_ (a))], m)) rfl ?_
            refine pw_cv (congrArg (fun z_ : Int64 => ((9, [some (.ref 47), some (.long (el_ (a))), none], [.long z_, .long (el_ (0)), .long (el_ (a))], m) : am_S)) (el_i2l (by omega) (ei_sub rfl rfl))) ?_
            refine pw_callS (As := [.long (el_ (a)), .long (el_ (0)), .long (el_ ((x79 - 1)))]) (st := []) rfl (by decide) rfl rfl (Nat.le_of_ble_eq_true rfl) ?_
            refine mt_within (by omega) (by omega) (by omega) (fun g80 g81 => ?_) (fun g82 => ?_) (fun g83 => ?_)
            · refine pw_iret rfl rfl rfl ?_
              refine pw_ifF rfl (by decide) (show ¬ (1 = 0) by decide) ?_
              refine pw_steps 3 (s' := (12, [some (.ref 47), some (.int (ei_ (a))), some (.int (ei_ (b))), none], [.long ((ei_ (b)).toInt64), .ref 47], m)) rfl ?_
              refine pw_cv (congrArg (fun z_ : Int64 => ((12, [some (.ref 47), some (.int (ei_ (a))), some (.int (ei_ (b))), none], [.long z_, .ref 47], m) : am_S)) (el_i2l q1 rfl)) ?_
              refine pw_call (As := [.long (el_ (b))]) (st := []) (k := 47) rfl rfl rfl rfl rfl (Nat.le_of_ble_eq_true rfl) ?_
              refine pw_intro (I := iX9_isOne) (T := tX9_isOne) rfl rfl rfl ?_
              refine pw_steps 3 (s' := (3, [some (.ref 47), some (.long (el_ (b))), none], [.ref 47, .long (el_ (0)), .long (el_ (b))], m)) rfl ?_
              refine pw_getE (x := x79) rfl rfl hx79 ?_
              refine pw_steps 3 (s' := (9, [some (.ref 47), some (.long (el_ (b))), none], [.long (((ei_ (x79)) - (ei_ (1))).toInt64), .long (el_ (0)), .long (el_ (b))], m)) rfl ?_
              refine pw_cv (congrArg (fun z_ : Int64 => ((9, [some (.ref 47), some (.long (el_ (b))), none], [.long z_, .long (el_ (0)), .long (el_ (b))], m) : am_S)) (el_i2l (by omega) (ei_sub rfl rfl))) ?_
              refine pw_callS (As := [.long (el_ (b)), .long (el_ (0)), .long (el_ ((x79 - 1)))]) (st := []) rfl (by decide) rfl rfl (Nat.le_of_ble_eq_true rfl) ?_
              refine mt_within (by omega) (by omega) (by omega) (fun g84 g85 => ?_) (fun g86 => ?_) (fun g87 => ?_)
              · refine pw_iret rfl rfl rfl ?_
                refine pw_ifT rfl (by decide) (show ¬ 1 = 0 by decide) ?_
                refine pw_steps 3 (s' := (25, [some (.ref 47), some (.int (ei_ (a))), some (.int (ei_ (b))), none], [.int (ei_ (a)), .ref 52], m)) rfl ?_
                refine pw_ild rfl rfl (by omega) (fun x88 (hx88 : x88 = vi_ m 52 a) rx88 sx88 => ?_)
                have b89 := hmw a (by omega) (by omega)
                have b89b := (hd.2.2.1 a (by omega) (by omega)).1
                refine pw_steps 3 (s' := (29, [some (.ref 47), some (.int (ei_ (a))), some (.int (ei_ (b))), some (.int (ei_ (x88)))], [.int (ei_ (b)), .int (ei_ (x88))], m)) rfl ?_
                refine pw_cmpF rfl ⟨rx88, sx88⟩ q1 (show ¬ (¬ x88 = b) by omega) ?_
                refine pw_steps 1 (s' := (33, [some (.ref 47), some (.int (ei_ (a))), some (.int (ei_ (b))), some (.int (ei_ (x88)))], [.int (ei_ (x88))], m)) rfl ?_
                refine pw_iret rfl rfl rfl ?_
                have hx_ : (x88 : Int) = x34 := by omega
                exact ⟨x34, rfl, congrArg (fun z_ : Int => some (Value.int (ei_ z_))) hx_, hR⟩
              · exact False.elim (by omega)
              · exact False.elim (by omega)
            · exact False.elim (by omega)
            · exact False.elim (by omega)

def pOwe (k j : Nat) : Bool := k == 6 || k == 61
set_option maxHeartbeats 4000000 in
set_option maxRecDepth 20000 in
theorem op_owe {q : am_X} {d : Nat} {m : am_M} {a : Int} {b : Int} (q0 : -2147483648 ≤ a ∧ a < 2147483648) (q1 : -2147483648 ≤ b ∧ b < 2147483648) (hR : rR_ m) : pw_C q (d + 60) 92 [.ref 0, .int (ei_ (a)), .int (ei_ (b))] m (fun r1 m1 => pw_C q (d + 60) 229 [.ref 47, .int (ei_ (a)), .int (ei_ (b))] m1 (fun r2 m2 => ∃ x : Int, r1 = some (.int (ei_ x)) ∧ r2 = some (.int (ei_ x)) ∧ rR_ m2)) := by
  obtain ⟨hp, hd, hi, ht, hl, hz, hc, ha, hs⟩ := id hR
  obtain ⟨hP1, hP2, hP3, hP4⟩ := id hp
  have hmw := mW_of hp hd
  have hmf := mF_of hp hd
  refine pw_intro (I := iX8_owe) (T := tX8_owe) rfl rfl rfl ?_
  refine pw_steps 1 (s' := (1, [some (.ref 0), some (.int (ei_ (a))), some (.int (ei_ (b))), none, none, none], [.int (ei_ (a))], m)) rfl ?_
  refine pw_if rfl q0 (fun (h1 : a < 0) => ?_) (fun (h1 : ¬ (a < 0)) => ?_)
  · refine pw_steps 1 (s' := (17, [some (.ref 0), some (.int (ei_ (a))), some (.int (ei_ (b))), none, none, none], [.int (ei_ ((-1)))], m)) rfl ?_
    refine pw_iret rfl rfl rfl ?_
    refine pw_intro (I := iX9_owe) (T := tX9_owe) rfl rfl rfl ?_
    refine pw_steps 1 (s' := (1, [some (.ref 47), some (.int (ei_ (a))), some (.int (ei_ (b))), none], [.int (ei_ (a))], m)) rfl ?_
    refine pw_ifT rfl q0 (show a < 0 by omega) ?_
    refine pw_steps 1 (s' := (54, [some (.ref 47), some (.int (ei_ (a))), some (.int (ei_ (b))), none], [.int (ei_ ((-1)))], m)) rfl ?_
    refine pw_iret rfl rfl rfl ?_
    exact ⟨(-1), rfl, rfl, hR⟩
  · refine pw_steps 2 (s' := (7, [some (.ref 0), some (.int (ei_ (a))), some (.int (ei_ (b))), none, none, none], [.int (ei_ ((-99))), .int (ei_ (b))], m)) rfl ?_
    refine pw_cmp rfl q1 (by decide) (fun (h2 : b < (-99)) => ?_) (fun (h2 : ¬ (b < (-99))) => ?_)
    · refine pw_steps 1 (s' := (17, [some (.ref 0), some (.int (ei_ (a))), some (.int (ei_ (b))), none, none, none], [.int (ei_ ((-1)))], m)) rfl ?_
      refine pw_iret rfl rfl rfl ?_
      refine pw_intro (I := iX9_owe) (T := tX9_owe) rfl rfl rfl ?_
      refine pw_steps 1 (s' := (1, [some (.ref 47), some (.int (ei_ (a))), some (.int (ei_ (b))), none], [.int (ei_ (a))], m)) rfl ?_
      refine pw_ifF rfl q0 (show ¬ (a < 0) by omega) ?_
      refine pw_steps 3 (s' := (8, [some (.ref 47), some (.int (ei_ (a))), some (.int (ei_ (b))), none], [.int (ei_ (10)), .int (ei_ (a)), .ref 47], m)) rfl ?_
      refine pw_divN rfl (by omega) (by omega) ?_
      refine pw_steps 1 (s' := (10, [some (.ref 47), some (.int (ei_ (a))), some (.int (ei_ (b))), none], [.long ((ei_ ((a / 10))).toInt64), .ref 47], m)) rfl ?_
      refine pw_cv (congrArg (fun z_ : Int64 => ((10, [some (.ref 47), some (.int (ei_ (a))), some (.int (ei_ (b))), none], [.long z_, .ref 47], m) : am_S)) (el_i2l (by omega) rfl)) ?_
      refine pw_call (As := [.long (el_ ((a / 10)))]) (st := []) (k := 47) rfl rfl rfl rfl rfl (Nat.le_of_ble_eq_true rfl) ?_
      refine pw_intro (I := iX9_isOne) (T := tX9_isOne) rfl rfl rfl ?_
      refine pw_steps 3 (s' := (3, [some (.ref 47), some (.long (el_ ((a / 10)))), none], [.ref 47, .long (el_ (0)), .long (el_ ((a / 10)))], m)) rfl ?_
      refine pw_get rfl rfl (fun x3 (hx3 : x3 = vi_ m 47 6) rx3 sx3 => ?_)
      refine pw_steps 3 (s' := (9, [some (.ref 47), some (.long (el_ ((a / 10)))), none], [.long (((ei_ (x3)) - (ei_ (1))).toInt64), .long (el_ (0)), .long (el_ ((a / 10)))], m)) rfl ?_
      refine pw_cv (congrArg (fun z_ : Int64 => ((9, [some (.ref 47), some (.long (el_ ((a / 10)))), none], [.long z_, .long (el_ (0)), .long (el_ ((a / 10)))], m) : am_S)) (el_i2l (by omega) (ei_sub rfl rfl))) ?_
      refine pw_callS (As := [.long (el_ ((a / 10))), .long (el_ (0)), .long (el_ ((x3 - 1)))]) (st := []) rfl (by decide) rfl rfl (Nat.le_of_ble_eq_true rfl) ?_
      refine mt_within (by omega) (by omega) (by omega) (fun g4 g5 => ?_) (fun g6 => ?_) (fun g7 => ?_)
      · refine pw_iret rfl rfl rfl ?_
        refine pw_ifF rfl (by decide) (show ¬ (1 = 0) by decide) ?_
        refine pw_steps 3 (s' := (20, [some (.ref 47), some (.int (ei_ (a))), some (.int (ei_ (b))), none], [.int (ei_ (10)), .int (ei_ (a)), .ref 47], m)) rfl ?_
        refine pw_remN rfl (by omega) (by omega) ?_
        refine pw_steps 1 (s' := (22, [some (.ref 47), some (.int (ei_ (a))), some (.int (ei_ (b))), none], [.long ((ei_ ((a % 10))).toInt64), .ref 47], m)) rfl ?_
        refine pw_cv (congrArg (fun z_ : Int64 => ((22, [some (.ref 47), some (.int (ei_ (a))), some (.int (ei_ (b))), none], [.long z_, .ref 47], m) : am_S)) (el_i2l (by omega) rfl)) ?_
        refine pw_call (As := [.long (el_ ((a % 10)))]) (st := []) (k := 47) rfl rfl rfl rfl rfl (Nat.le_of_ble_eq_true rfl) ?_
        refine pw_intro (I := iX9_isOne) (T := tX9_isOne) rfl rfl rfl ?_
        refine pw_steps 3 (s' := (3, [some (.ref 47), some (.long (el_ ((a % 10)))), none], [.ref 47, .long (el_ (0)), .long (el_ ((a % 10)))], m)) rfl ?_
        refine pw_getE (x := x3) rfl rfl hx3 ?_
        refine pw_steps 3 (s' := (9, [some (.ref 47), some (.long (el_ ((a % 10)))), none], [.long (((ei_ (x3)) - (ei_ (1))).toInt64), .long (el_ (0)), .long (el_ ((a % 10)))], m)) rfl ?_
        refine pw_cv (congrArg (fun z_ : Int64 => ((9, [some (.ref 47), some (.long (el_ ((a % 10)))), none], [.long z_, .long (el_ (0)), .long (el_ ((a % 10)))], m) : am_S)) (el_i2l (by omega) (ei_sub rfl rfl))) ?_
        refine pw_callS (As := [.long (el_ ((a % 10))), .long (el_ (0)), .long (el_ ((x3 - 1)))]) (st := []) rfl (by decide) rfl rfl (Nat.le_of_ble_eq_true rfl) ?_
        refine mt_within (by omega) (by omega) (by omega) (fun g8 g9 => ?_) (fun g10 => ?_) (fun g11 => ?_)
        · refine pw_iret rfl rfl rfl ?_
          refine pw_ifF rfl (by decide) (show ¬ (1 = 0) by decide) ?_
          refine pw_steps 2 (s' := (31, [some (.ref 47), some (.int (ei_ (a))), some (.int (ei_ (b))), none], [.int (ei_ (10)), .int (ei_ (a))], m)) rfl ?_
          refine pw_divN rfl (by omega) (by omega) ?_
          refine pw_steps 2 (s' := (35, [some (.ref 47), some (.int (ei_ (a))), some (.int (ei_ (b))), none], [.int (ei_ (10)), .int (ei_ (a)), .int (ei_ ((a / 10)))], m)) rfl ?_
          refine pw_remN rfl (by omega) (by omega) ?_
          refine pw_cmp rfl (by omega) (by omega) (fun (h12 : (a / 10) = (a % 10)) => ?_) (fun (h12 : ¬ ((a / 10) = (a % 10))) => ?_)
          · refine pw_steps 1 (s' := (54, [some (.ref 47), some (.int (ei_ (a))), some (.int (ei_ (b))), none], [.int (ei_ ((-1)))], m)) rfl ?_
            refine pw_iret rfl rfl rfl ?_
            exact ⟨(-1), rfl, rfl, hR⟩
          · refine pw_steps 4 (s' := (47, [some (.ref 47), some (.int (ei_ (a))), some (.int (ei_ (b))), none], [.long (el_ (99)), .long (el_ ((-99))), .long ((ei_ (b)).toInt64)], m)) rfl ?_
            refine pw_cv (congrArg (fun z_ : Int64 => ((47, [some (.ref 47), some (.int (ei_ (a))), some (.int (ei_ (b))), none], [.long (el_ (99)), .long (el_ ((-99))), .long z_], m) : am_S)) (el_i2l q1 rfl)) ?_
            refine pw_callS (As := [.long (el_ (b)), .long (el_ ((-99))), .long (el_ (99))]) (st := []) rfl (by decide) rfl rfl (Nat.le_of_ble_eq_true rfl) ?_
            refine mt_within (by omega) (by omega) (by omega) (fun g13 g14 => ?_) (fun g15 => ?_) (fun g16 => ?_)
            · exact False.elim (by omega)
            · refine pw_ifF rfl (by decide) (show ¬ (¬ 0 = 0) by decide) ?_
              refine pw_steps 1 (s' := (54, [some (.ref 47), some (.int (ei_ (a))), some (.int (ei_ (b))), none], [.int (ei_ ((-1)))], m)) rfl ?_
              refine pw_iret rfl rfl rfl ?_
              exact ⟨(-1), rfl, rfl, hR⟩
            · exact False.elim (by omega)
        · exact False.elim (by omega)
        · refine pw_iret rfl rfl rfl ?_
          refine pw_ifT rfl (by decide) (show 0 = 0 by decide) ?_
          refine pw_steps 1 (s' := (54, [some (.ref 47), some (.int (ei_ (a))), some (.int (ei_ (b))), none], [.int (ei_ ((-1)))], m)) rfl ?_
          refine pw_iret rfl rfl rfl ?_
          exact ⟨(-1), rfl, rfl, hR⟩
      · exact False.elim (by omega)
      · refine pw_iret rfl rfl rfl ?_
        refine pw_ifT rfl (by decide) (show 0 = 0 by decide) ?_
        refine pw_steps 1 (s' := (54, [some (.ref 47), some (.int (ei_ (a))), some (.int (ei_ (b))), none], [.int (ei_ ((-1)))], m)) rfl ?_
        refine pw_iret rfl rfl rfl ?_
        exact ⟨(-1), rfl, rfl, hR⟩
    · refine pw_steps 2 (s' := (13, [some (.ref 0), some (.int (ei_ (a))), some (.int (ei_ (b))), none, none, none], [.int (ei_ (99)), .int (ei_ (b))], m)) rfl ?_
      refine pw_cmp rfl q1 (by decide) (fun (h17 : b ≤ 99) => ?_) (fun (h17 : ¬ (b ≤ 99)) => ?_)
      · refine pw_steps 2 (s' := (21, [some (.ref 0), some (.int (ei_ (a))), some (.int (ei_ (b))), none, none, none], [.int (ei_ (10)), .int (ei_ (a))], m)) rfl ?_
        refine pw_divN rfl (by omega) (by omega) ?_
        refine pw_steps 3 (s' := (26, [some (.ref 0), some (.int (ei_ (a))), some (.int (ei_ (b))), some (.int (ei_ ((a / 10)))), none, none], [.int (ei_ (10)), .int (ei_ (a))], m)) rfl ?_
        refine pw_remN rfl (by omega) (by omega) ?_
        refine pw_steps 4 (s' := (34, [some (.ref 0), some (.int (ei_ (a))), some (.int (ei_ (b))), some (.int (ei_ ((a / 10)))), some (.int (ei_ ((a % 10)))), none], [.int (ei_ ((a / 10))), .ref 1], m)) rfl ?_
        refine pw_call (As := [.int (ei_ ((a / 10)))]) (st := []) (k := 1) rfl rfl rfl rfl rfl (Nat.le_of_ble_eq_true rfl) ?_
        refine pw_intro (I := iX3_has) (T := tX3_has) rfl rfl rfl ?_
        refine pw_steps 1 (s' := (1, [some (.ref 1), some (.int (ei_ ((a / 10))))], [.int (ei_ ((a / 10)))], m)) rfl ?_
        refine pw_ifF rfl (by omega) (show ¬ ((a / 10) < 0) by omega) ?_
        refine pw_steps 2 (s' := (6, [some (.ref 1), some (.int (ei_ ((a / 10))))], [.ref 1, .int (ei_ ((a / 10)))], m)) rfl ?_
        refine pw_get rfl rfl (fun x18 (hx18 : x18 = vi_ m 1 1) rx18 sx18 => ?_)
        refine pw_cmp rfl (by omega) ⟨rx18, sx18⟩ (fun (h19 : x18 ≤ (a / 10)) => ?_) (fun (h19 : ¬ (x18 ≤ (a / 10))) => ?_)
        · refine pw_steps 1 (s' := (17, [some (.ref 1), some (.int (ei_ ((a / 10))))], [.int (ei_ (0))], m)) rfl ?_
          refine pw_iret rfl rfl rfl ?_
          refine pw_ifT rfl (by decide) (show 0 = 0 by decide) ?_
          refine pw_steps 1 (s' := (59, [some (.ref 0), some (.int (ei_ (a))), some (.int (ei_ (b))), some (.int (ei_ ((a / 10)))), some (.int (ei_ ((a % 10)))), none], [.int (ei_ ((-1)))], m)) rfl ?_
          refine pw_iret rfl rfl rfl ?_
          refine pw_intro (I := iX9_owe) (T := tX9_owe) rfl rfl rfl ?_
          refine pw_steps 1 (s' := (1, [some (.ref 47), some (.int (ei_ (a))), some (.int (ei_ (b))), none], [.int (ei_ (a))], m)) rfl ?_
          refine pw_ifF rfl q0 (show ¬ (a < 0) by omega) ?_
          refine pw_steps 3 (s' := (8, [some (.ref 47), some (.int (ei_ (a))), some (.int (ei_ (b))), none], [.int (ei_ (10)), .int (ei_ (a)), .ref 47], m)) rfl ?_
          refine pw_divN rfl (by omega) (by omega) ?_
          refine pw_steps 1 (s' := (10, [some (.ref 47), some (.int (ei_ (a))), some (.int (ei_ (b))), none], [.long ((ei_ ((a / 10))).toInt64), .ref 47], m)) rfl ?_
          refine pw_cv (congrArg (fun z_ : Int64 => ((10, [some (.ref 47), some (.int (ei_ (a))), some (.int (ei_ (b))), none], [.long z_, .ref 47], m) : am_S)) (el_i2l (by omega) rfl)) ?_
          refine pw_call (As := [.long (el_ ((a / 10)))]) (st := []) (k := 47) rfl rfl rfl rfl rfl (Nat.le_of_ble_eq_true rfl) ?_
          refine pw_intro (I := iX9_isOne) (T := tX9_isOne) rfl rfl rfl ?_
          refine pw_steps 3 (s' := (3, [some (.ref 47), some (.long (el_ ((a / 10)))), none], [.ref 47, .long (el_ (0)), .long (el_ ((a / 10)))], m)) rfl ?_
          refine pw_get rfl rfl (fun x20 (hx20 : x20 = vi_ m 47 6) rx20 sx20 => ?_)
          refine pw_steps 3 (s' := (9, [some (.ref 47), some (.long (el_ ((a / 10)))), none], [.long (((ei_ (x20)) - (ei_ (1))).toInt64), .long (el_ (0)), .long (el_ ((a / 10)))], m)) rfl ?_
          refine pw_cv (congrArg (fun z_ : Int64 => ((9, [some (.ref 47), some (.long (el_ ((a / 10)))), none], [.long z_, .long (el_ (0)), .long (el_ ((a / 10)))], m) : am_S)) (el_i2l (by omega) (ei_sub rfl rfl))) ?_
          refine pw_callS (As := [.long (el_ ((a / 10))), .long (el_ (0)), .long (el_ ((x20 - 1)))]) (st := []) rfl (by decide) rfl rfl (Nat.le_of_ble_eq_true rfl) ?_
          refine mt_within (by omega) (by omega) (by omega) (fun g21 g22 => ?_) (fun g23 => ?_) (fun g24 => ?_)
          · exact False.elim (by omega)
          · exact False.elim (by omega)
          · refine pw_iret rfl rfl rfl ?_
            refine pw_ifT rfl (by decide) (show 0 = 0 by decide) ?_
            refine pw_steps 1 (s' := (54, [some (.ref 47), some (.int (ei_ (a))), some (.int (ei_ (b))), none], [.int (ei_ ((-1)))], m)) rfl ?_
            refine pw_iret rfl rfl rfl ?_
            exact ⟨(-1), rfl, rfl, hR⟩
        · refine pw_steps 2 (s' := (17, [some (.ref 1), some (.int (ei_ ((a / 10))))], [.int (ei_ (1))], m)) rfl ?_
          refine pw_iret rfl rfl rfl ?_
          refine pw_ifF rfl (by decide) (show ¬ (1 = 0) by decide) ?_
          refine pw_steps 3 (s' := (46, [some (.ref 0), some (.int (ei_ (a))), some (.int (ei_ (b))), some (.int (ei_ ((a / 10)))), some (.int (ei_ ((a % 10)))), none], [.int (ei_ ((a % 10))), .ref 1], m)) rfl ?_
          refine pw_call (As := [.int (ei_ ((a % 10)))]) (st := []) (k := 1) rfl rfl rfl rfl rfl (Nat.le_of_ble_eq_true rfl) ?_
          refine pw_intro (I := iX3_has) (T := tX3_has) rfl rfl rfl ?_
          refine pw_steps 1 (s' := (1, [some (.ref 1), some (.int (ei_ ((a % 10))))], [.int (ei_ ((a % 10)))], m)) rfl ?_
          refine pw_ifF rfl (by omega) (show ¬ ((a % 10) < 0) by omega) ?_
          refine pw_steps 2 (s' := (6, [some (.ref 1), some (.int (ei_ ((a % 10))))], [.ref 1, .int (ei_ ((a % 10)))], m)) rfl ?_
          refine pw_getE (x := x18) rfl rfl hx18 ?_
          refine pw_cmp rfl (by omega) ⟨rx18, sx18⟩ (fun (h25 : x18 ≤ (a % 10)) => ?_) (fun (h25 : ¬ (x18 ≤ (a % 10))) => ?_)
          · refine pw_steps 1 (s' := (17, [some (.ref 1), some (.int (ei_ ((a % 10))))], [.int (ei_ (0))], m)) rfl ?_
            refine pw_iret rfl rfl rfl ?_
            refine pw_ifT rfl (by decide) (show 0 = 0 by decide) ?_
            refine pw_steps 1 (s' := (59, [some (.ref 0), some (.int (ei_ (a))), some (.int (ei_ (b))), some (.int (ei_ ((a / 10)))), some (.int (ei_ ((a % 10)))), none], [.int (ei_ ((-1)))], m)) rfl ?_
            refine pw_iret rfl rfl rfl ?_
            refine pw_intro (I := iX9_owe) (T := tX9_owe) rfl rfl rfl ?_
            refine pw_steps 1 (s' := (1, [some (.ref 47), some (.int (ei_ (a))), some (.int (ei_ (b))), none], [.int (ei_ (a))], m)) rfl ?_
            refine pw_ifF rfl q0 (show ¬ (a < 0) by omega) ?_
            refine pw_steps 3 (s' := (8, [some (.ref 47), some (.int (ei_ (a))), some (.int (ei_ (b))), none], [.int (ei_ (10)), .int (ei_ (a)), .ref 47], m)) rfl ?_
            refine pw_divN rfl (by omega) (by omega) ?_
            refine pw_steps 1 (s' := (10, [some (.ref 47), some (.int (ei_ (a))), some (.int (ei_ (b))), none], [.long ((ei_ ((a / 10))).toInt64), .ref 47], m)) rfl ?_
            refine pw_cv (congrArg (fun z_ : Int64 => ((10, [some (.ref 47), some (.int (ei_ (a))), some (.int (ei_ (b))), none], [.long z_, .ref 47], m) : am_S)) (el_i2l (by omega) rfl)) ?_
            refine pw_call (As := [.long (el_ ((a / 10)))]) (st := []) (k := 47) rfl rfl rfl rfl rfl (Nat.le_of_ble_eq_true rfl) ?_
            refine pw_intro (I := iX9_isOne) (T := tX9_isOne) rfl rfl rfl ?_
            refine pw_steps 3 (s' := (3, [some (.ref 47), some (.long (el_ ((a / 10)))), none], [.ref 47, .long (el_ (0)), .long (el_ ((a / 10)))], m)) rfl ?_
            refine pw_get rfl rfl (fun x26 (hx26 : x26 = vi_ m 47 6) rx26 sx26 => ?_)
            refine pw_steps 3 (s' := (9, [some (.ref 47), some (.long (el_ ((a / 10)))), none], [.long (((ei_ (x26)) - (ei_ (1))).toInt64), .long (el_ (0)), .long (el_ ((a / 10)))], m)) rfl ?_
            refine pw_cv (congrArg (fun z_ : Int64 => ((9, [some (.ref 47), some (.long (el_ ((a / 10)))), none], [.long z_, .long (el_ (0)), .long (el_ ((a / 10)))], m) : am_S)) (el_i2l (by omega) (ei_sub rfl rfl))) ?_
            refine pw_callS (As := [.long (el_ ((a / 10))), .long (el_ (0)), .long (el_ ((x26 - 1)))]) (st := []) rfl (by decide) rfl rfl (Nat.le_of_ble_eq_true rfl) ?_
            refine mt_within (by omega) (by omega) (by omega) (fun g27 g28 => ?_) (fun g29 => ?_) (fun g30 => ?_)
            · refine pw_iret rfl rfl rfl ?_
              refine pw_ifF rfl (by decide) (show ¬ (1 = 0) by decide) ?_
              refine pw_steps 3 (s' := (20, [some (.ref 47), some (.int (ei_ (a))), some (.int (ei_ (b))), none], [.int (ei_ (10)), .int (ei_ (a)), .ref 47], m)) rfl ?_
              refine pw_remN rfl (by omega) (by omega) ?_
              refine pw_steps 1 (s' := (22, [some (.ref 47), some (.int (ei_ (a))), some (.int (ei_ (b))), none], [.long ((ei_ ((a % 10))).toInt64), .ref 47], m)) rfl ?_
              refine pw_cv (congrArg (fun z_ : Int64 => ((22, [some (.ref 47), some (.int (ei_ (a))), some (.int (ei_ (b))), none], [.long z_, .ref 47], m) : am_S)) (el_i2l (by omega) rfl)) ?_
              refine pw_call (As := [.long (el_ ((a % 10)))]) (st := []) (k := 47) rfl rfl rfl rfl rfl (Nat.le_of_ble_eq_true rfl) ?_
              refine pw_intro (I := iX9_isOne) (T := tX9_isOne) rfl rfl rfl ?_
              refine pw_steps 3 (s' := (3, [some (.ref 47), some (.long (el_ ((a % 10)))), none], [.ref 47, .long (el_ (0)), .long (el_ ((a % 10)))], m)) rfl ?_
              refine pw_getE (x := x26) rfl rfl hx26 ?_
              refine pw_steps 3 (s' := (9, [some (.ref 47), some (.long (el_ ((a % 10)))), none], [.long (((ei_ (x26)) - (ei_ (1))).toInt64), .long (el_ (0)), .long (el_ ((a % 10)))], m)) rfl ?_
              refine pw_cv (congrArg (fun z_ : Int64 => ((9, [some (.ref 47), some (.long (el_ ((a % 10)))), none], [.long z_, .long (el_ (0)), .long (el_ ((a % 10)))], m) : am_S)) (el_i2l (by omega) (ei_sub rfl rfl))) ?_
              refine pw_callS (As := [.long (el_ ((a % 10))), .long (el_ (0)), .long (el_ ((x26 - 1)))]) (st := []) rfl (by decide) rfl rfl (Nat.le_of_ble_eq_true rfl) ?_
              refine mt_within (by omega) (by omega) (by omega) (fun g31 g32 => ?_) (fun g33 => ?_) (fun g34 => ?_)
              · exact False.elim (by omega)
              · exact False.elim (by omega)
              · refine pw_iret rfl rfl rfl ?_
                refine pw_ifT rfl (by decide) (show 0 = 0 by decide) ?_
                refine pw_steps 1 (s' := (54, [some (.ref 47), some (.int (ei_ (a))), some (.int (ei_ (b))), none], [.int (ei_ ((-1)))], m)) rfl ?_
                refine pw_iret rfl rfl rfl ?_
                exact ⟨(-1), rfl, rfl, hR⟩
            · exact False.elim (by omega)
            · exact False.elim (by omega)
          · refine pw_steps 2 (s' := (17, [some (.ref 1), some (.int (ei_ ((a % 10))))], [.int (ei_ (1))], m)) rfl ?_
            refine pw_iret rfl rfl rfl ?_
            refine pw_ifF rfl (by decide) (show ¬ (1 = 0) by decide) ?_
            refine pw_steps 2 (s' := (55, [some (.ref 0), some (.int (ei_ (a))), some (.int (ei_ (b))), some (.int (ei_ ((a / 10)))), some (.int (ei_ ((a % 10)))), none], [.int (ei_ ((a % 10))), .int (ei_ ((a / 10)))], m)) rfl ?_
            refine pw_cmp rfl (by omega) (by omega) (fun (h35 : ¬ (a / 10) = (a % 10)) => ?_) (fun (h35 : ¬ ¬ (a / 10) = (a % 10)) => ?_)
            · refine pw_steps 4 (s' := (67, [some (.ref 0), some (.int (ei_ (a))), some (.int (ei_ (b))), some (.int (ei_ ((a / 10)))), some (.int (ei_ ((a % 10)))), none], [.int (ei_ ((a % 10))), .int (ei_ ((a / 10))), .ref 3], m)) rfl ?_
              refine pw_call (As := [.int (ei_ ((a / 10))), .int (ei_ ((a % 10)))]) (st := []) (k := 3) rfl rfl rfl rfl rfl (Nat.le_of_ble_eq_true rfl) ?_
              refine pw_intro (I := iX2_debtOf) (T := tX2_debtOf) rfl rfl rfl ?_
              refine pw_steps 1 (s' := (1, [some (.ref 3), some (.int (ei_ ((a / 10)))), some (.int (ei_ ((a % 10))))], [.int (ei_ ((a / 10)))], m)) rfl ?_
              refine pw_callS (As := [.int (ei_ ((a / 10)))]) (st := []) rfl (by decide) rfl rfl (Nat.le_of_ble_eq_true rfl) ?_
              refine pw_intro (I := iX2_isIn) (T := tX2_isIn) rfl rfl rfl ?_
              refine pw_steps 1 (s' := (1, [some (.int (ei_ ((a / 10))))], [.int (ei_ ((a / 10)))], m)) rfl ?_
              refine pw_ifF rfl (by omega) (show ¬ ((a / 10) < 0) by omega) ?_
              refine pw_steps 2 (s' := (7, [some (.int (ei_ ((a / 10))))], [.int (ei_ (8)), .int (ei_ ((a / 10)))], m)) rfl ?_
              refine pw_cmpF rfl (by omega) (by decide) (show ¬ (8 ≤ (a / 10)) by omega) ?_
              refine pw_steps 2 (s' := (15, [some (.int (ei_ ((a / 10))))], [.int (ei_ (1))], m)) rfl ?_
              refine pw_iret rfl rfl rfl ?_
              refine pw_ifF rfl (by decide) (show ¬ (1 = 0) by decide) ?_
              refine pw_steps 1 (s' := (8, [some (.ref 3), some (.int (ei_ ((a / 10)))), some (.int (ei_ ((a % 10))))], [.int (ei_ ((a % 10)))], m)) rfl ?_
              refine pw_callS (As := [.int (ei_ ((a % 10)))]) (st := []) rfl (by decide) rfl rfl (Nat.le_of_ble_eq_true rfl) ?_
              refine pw_intro (I := iX2_isIn) (T := tX2_isIn) rfl rfl rfl ?_
              refine pw_steps 1 (s' := (1, [some (.int (ei_ ((a % 10))))], [.int (ei_ ((a % 10)))], m)) rfl ?_
              refine pw_ifF rfl (by omega) (show ¬ ((a % 10) < 0) by omega) ?_
              refine pw_steps 2 (s' := (7, [some (.int (ei_ ((a % 10))))], [.int (ei_ (8)), .int (ei_ ((a % 10)))], m)) rfl ?_
              refine pw_cmpF rfl (by omega) (by decide) (show ¬ (8 ≤ (a % 10)) by omega) ?_
              refine pw_steps 2 (s' := (15, [some (.int (ei_ ((a % 10))))], [.int (ei_ (1))], m)) rfl ?_
              refine pw_iret rfl rfl rfl ?_
              refine pw_ifF rfl (by decide) (show ¬ (1 = 0) by decide) ?_
              refine pw_steps 7 (s' := (24, [some (.ref 3), some (.int (ei_ ((a / 10)))), some (.int (ei_ ((a % 10))))], [.int (((ei_ ((a / 10))) * (ei_ (8))) + (ei_ ((a % 10)))), .ref 6], m)) rfl ?_
              refine pw_cv (congrArg (fun z_ : Int32 => ((24, [some (.ref 3), some (.int (ei_ ((a / 10)))), some (.int (ei_ ((a % 10))))], [.int z_, .ref 6], m) : am_S)) (ei_add (ei_mul rfl rfl) rfl)) ?_
              refine pw_ild rfl rfl (by omega) (fun x36 (hx36 : x36 = vi_ m 6 (((a / 10) * 8) + (a % 10))) rx36 sx36 => ?_)
              have b37 := hd.2.2.2.1 (((a / 10) * 8) + (a % 10)) (by omega) (by omega)
              refine pw_steps 1 (s' := (29, [some (.ref 3), some (.int (ei_ ((a / 10)))), some (.int (ei_ ((a % 10))))], [.int (ei_ (x36))], m)) rfl ?_
              refine pw_iret rfl rfl rfl ?_
              refine pw_steps 4 (s' := (76, [some (.ref 0), some (.int (ei_ (a))), some (.int (ei_ (b))), some (.int (ei_ ((a / 10)))), some (.int (ei_ ((a % 10)))), some (.int ((ei_ (x36)) + (ei_ (b))))], [.int ((ei_ (x36)) + (ei_ (b)))], m)) rfl ?_
              refine pw_cv (congrArg (fun z_ : Int32 => ((76, [some (.ref 0), some (.int (ei_ (a))), some (.int (ei_ (b))), some (.int (ei_ ((a / 10)))), some (.int (ei_ ((a % 10)))), some (.int z_)], [.int z_], m) : am_S)) (ei_add rfl rfl)) ?_
              refine pw_if rfl (by omega) (fun (h38 : (x36 + b) < 0) => ?_) (fun (h38 : ¬ ((x36 + b) < 0)) => ?_)
              · refine pw_steps 1 (s' := (89, [some (.ref 0), some (.int (ei_ (a))), some (.int (ei_ (b))), some (.int (ei_ ((a / 10)))), some (.int (ei_ ((a % 10)))), some (.int (ei_ ((x36 + b))))], [.int (ei_ ((-5)))], m)) rfl ?_
                refine pw_iret rfl rfl rfl ?_
                refine pw_intro (I := iX9_owe) (T := tX9_owe) rfl rfl rfl ?_
                refine pw_steps 1 (s' := (1, [some (.ref 47), some (.int (ei_ (a))), some (.int (ei_ (b))), none], [.int (ei_ (a))], m)) rfl ?_
                refine pw_ifF rfl q0 (show ¬ (a < 0) by omega) ?_
                refine pw_steps 3 (s' := (8, [some (.ref 47), some (.int (ei_ (a))), some (.int (ei_ (b))), none], [.int (ei_ (10)), .int (ei_ (a)), .ref 47], m)) rfl ?_
                refine pw_divN rfl (by omega) (by omega) ?_
                refine pw_steps 1 (s' := (10, [some (.ref 47), some (.int (ei_ (a))), some (.int (ei_ (b))), none], [.long ((ei_ ((a / 10))).toInt64), .ref 47], m)) rfl ?_
                refine pw_cv (congrArg (fun z_ : Int64 => ((10, [some (.ref 47), some (.int (ei_ (a))), some (.int (ei_ (b))), none], [.long z_, .ref 47], m) : am_S)) (el_i2l (by omega) rfl)) ?_
                refine pw_call (As := [.long (el_ ((a / 10)))]) (st := []) (k := 47) rfl rfl rfl rfl rfl (Nat.le_of_ble_eq_true rfl) ?_
                refine pw_intro (I := iX9_isOne) (T := tX9_isOne) rfl rfl rfl ?_
                refine pw_steps 3 (s' := (3, [some (.ref 47), some (.long (el_ ((a / 10)))), none], [.ref 47, .long (el_ (0)), .long (el_ ((a / 10)))], m)) rfl ?_
                refine pw_get rfl rfl (fun x39 (hx39 : x39 = vi_ m 47 6) rx39 sx39 => ?_)
                refine pw_steps 3 (s' := (9, [some (.ref 47), some (.long (el_ ((a / 10)))), none], [.long (((ei_ (x39)) - (ei_ (1))).toInt64), .long (el_ (0)), .long (el_ ((a / 10)))], m)) rfl ?_
                refine pw_cv (congrArg (fun z_ : Int64 => ((9, [some (.ref 47), some (.long (el_ ((a / 10)))), none], [.long z_, .long (el_ (0)), .long (el_ ((a / 10)))], m) : am_S)) (el_i2l (by omega) (ei_sub rfl rfl))) ?_
                refine pw_callS (As := [.long (el_ ((a / 10))), .long (el_ (0)), .long (el_ ((x39 - 1)))]) (st := []) rfl (by decide) rfl rfl (Nat.le_of_ble_eq_true rfl) ?_
                refine mt_within (by omega) (by omega) (by omega) (fun g40 g41 => ?_) (fun g42 => ?_) (fun g43 => ?_)
                · refine pw_iret rfl rfl rfl ?_
                  refine pw_ifF rfl (by decide) (show ¬ (1 = 0) by decide) ?_
                  refine pw_steps 3 (s' := (20, [some (.ref 47), some (.int (ei_ (a))), some (.int (ei_ (b))), none], [.int (ei_ (10)), .int (ei_ (a)), .ref 47], m)) rfl ?_
                  refine pw_remN rfl (by omega) (by omega) ?_
                  refine pw_steps 1 (s' := (22, [some (.ref 47), some (.int (ei_ (a))), some (.int (ei_ (b))), none], [.long ((ei_ ((a % 10))).toInt64), .ref 47], m)) rfl ?_
                  refine pw_cv (congrArg (fun z_ : Int64 => ((22, [some (.ref 47), some (.int (ei_ (a))), some (.int (ei_ (b))), none], [.long z_, .ref 47], m) : am_S)) (el_i2l (by omega) rfl)) ?_
                  refine pw_call (As := [.long (el_ ((a % 10)))]) (st := []) (k := 47) rfl rfl rfl rfl rfl (Nat.le_of_ble_eq_true rfl) ?_
                  refine pw_intro (I := iX9_isOne) (T := tX9_isOne) rfl rfl rfl ?_
                  refine pw_steps 3 (s' := (3, [some (.ref 47), some (.long (el_ ((a % 10)))), none], [.ref 47, .long (el_ (0)), .long (el_ ((a % 10)))], m)) rfl ?_
                  refine pw_getE (x := x39) rfl rfl hx39 ?_
                  refine pw_steps 3 (s' := (9, [some (.ref 47), some (.long (el_ ((a % 10)))), none], [.long (((ei_ (x39)) - (ei_ (1))).toInt64), .long (el_ (0)), .long (el_ ((a % 10)))], m)) rfl ?_
                  refine pw_cv (congrArg (fun z_ : Int64 => ((9, [some (.ref 47), some (.long (el_ ((a % 10)))), none], [.long z_, .long (el_ (0)), .long (el_ ((a % 10)))], m) : am_S)) (el_i2l (by omega) (ei_sub rfl rfl))) ?_
                  refine pw_callS (As := [.long (el_ ((a % 10))), .long (el_ (0)), .long (el_ ((x39 - 1)))]) (st := []) rfl (by decide) rfl rfl (Nat.le_of_ble_eq_true rfl) ?_
                  refine mt_within (by omega) (by omega) (by omega) (fun g44 g45 => ?_) (fun g46 => ?_) (fun g47 => ?_)
                  · refine pw_iret rfl rfl rfl ?_
                    refine pw_ifF rfl (by decide) (show ¬ (1 = 0) by decide) ?_
                    refine pw_steps 2 (s' := (31, [some (.ref 47), some (.int (ei_ (a))), some (.int (ei_ (b))), none], [.int (ei_ (10)), .int (ei_ (a))], m)) rfl ?_
                    refine pw_divN rfl (by omega) (by omega) ?_
                    refine pw_steps 2 (s' := (35, [some (.ref 47), some (.int (ei_ (a))), some (.int (ei_ (b))), none], [.int (ei_ (10)), .int (ei_ (a)), .int (ei_ ((a / 10)))], m)) rfl ?_
                    refine pw_remN rfl (by omega) (by omega) ?_
                    refine pw_cmpF rfl (by omega) (by omega) (show ¬ ((a / 10) = (a % 10)) by omega) ?_
                    refine pw_steps 4 (s' := (47, [some (.ref 47), some (.int (ei_ (a))), some (.int (ei_ (b))), none], [.long (el_ (99)), .long (el_ ((-99))), .long ((ei_ (b)).toInt64)], m)) rfl ?_
                    refine pw_cv (congrArg (fun z_ : Int64 => ((47, [some (.ref 47), some (.int (ei_ (a))), some (.int (ei_ (b))), none], [.long (el_ (99)), .long (el_ ((-99))), .long z_], m) : am_S)) (el_i2l q1 rfl)) ?_
                    refine pw_callS (As := [.long (el_ (b)), .long (el_ ((-99))), .long (el_ (99))]) (st := []) rfl (by decide) rfl rfl (Nat.le_of_ble_eq_true rfl) ?_
                    refine mt_within (by omega) (by omega) (by omega) (fun g48 g49 => ?_) (fun g50 => ?_) (fun g51 => ?_)
                    · refine pw_ifT rfl (by decide) (show ¬ 1 = 0 by decide) ?_
                      refine pw_steps 3 (s' := (60, [some (.ref 47), some (.int (ei_ (a))), some (.int (ei_ (b))), none], [.int (ei_ (10)), .int (ei_ (a)), .int (ei_ (8))], m)) rfl ?_
                      refine pw_divN rfl (by omega) (by omega) ?_
                      refine pw_steps 3 (s' := (65, [some (.ref 47), some (.int (ei_ (a))), some (.int (ei_ (b))), none], [.int (ei_ (10)), .int (ei_ (a)), .int ((ei_ (8)) * (ei_ ((a / 10))))], m)) rfl ?_
                      refine pw_cv (congrArg (fun z_ : Int32 => ((65, [some (.ref 47), some (.int (ei_ (a))), some (.int (ei_ (b))), none], [.int (ei_ (10)), .int (ei_ (a)), .int z_], m) : am_S)) (ei_mul rfl rfl)) ?_
                      refine pw_remN rfl (by omega) (by omega) ?_
                      refine pw_steps 5 (s' := (73, [some (.ref 47), some (.int (ei_ (a))), some (.int (ei_ (b))), some (.int ((ei_ ((8 * (a / 10)))) + (ei_ ((a % 10)))))], [.int ((ei_ ((8 * (a / 10)))) + (ei_ ((a % 10)))), .ref 61], m)) rfl ?_
                      refine pw_cv (congrArg (fun z_ : Int32 => ((73, [some (.ref 47), some (.int (ei_ (a))), some (.int (ei_ (b))), some (.int z_)], [.int z_, .ref 61], m) : am_S)) (ei_add rfl rfl)) ?_
                      refine pw_ild rfl rfl (by omega) (fun x52 (hx52 : x52 = vi_ m 61 ((8 * (a / 10)) + (a % 10))) rx52 sx52 => ?_)
                      have ox52 := hx52
                      have b53 := hd.2.2.2.1 ((8 * (a / 10)) + (a % 10)) (by omega) (by omega)
                      rw [b53.1, show ((8 * (a / 10)) + (a % 10)) = (((a / 10) * 8) + (a % 10)) from by omega] at hx52
                      refine pw_steps 5 (s' := (81, [some (.ref 47), some (.int (ei_ (a))), some (.int (ei_ (b))), some (.int (ei_ (((8 * (a / 10)) + (a % 10)))))], [.long (el_ (9999)), .long (el_ (0)), .long (((ei_ (x52)) + (ei_ (b))).toInt64)], m)) rfl ?_
                      refine pw_cv (congrArg (fun z_ : Int64 => ((81, [some (.ref 47), some (.int (ei_ (a))), some (.int (ei_ (b))), some (.int (ei_ (((8 * (a / 10)) + (a % 10)))))], [.long (el_ (9999)), .long (el_ (0)), .long z_], m) : am_S)) (el_i2l (by omega) (ei_add rfl rfl))) ?_
                      refine pw_callS (As := [.long (el_ ((x52 + b))), .long (el_ (0)), .long (el_ (9999))]) (st := []) rfl (by decide) rfl rfl (Nat.le_of_ble_eq_true rfl) ?_
                      refine mt_within (by omega) (by omega) (by omega) (fun g54 g55 => ?_) (fun g56 => ?_) (fun g57 => ?_)
                      · exact False.elim (by omega)
                      · refine pw_ifF rfl (by decide) (show ¬ (¬ 0 = 0) by decide) ?_
                        refine pw_steps 1 (s' := (89, [some (.ref 47), some (.int (ei_ (a))), some (.int (ei_ (b))), some (.int (ei_ (((8 * (a / 10)) + (a % 10)))))], [.int (ei_ ((-5)))], m)) rfl ?_
                        refine pw_iret rfl rfl rfl ?_
                        exact ⟨(-5), rfl, rfl, hR⟩
                      · exact False.elim (by omega)
                    · exact False.elim (by omega)
                    · exact False.elim (by omega)
                  · exact False.elim (by omega)
                  · exact False.elim (by omega)
                · exact False.elim (by omega)
                · exact False.elim (by omega)
              · refine pw_steps 2 (s' := (84, [some (.ref 0), some (.int (ei_ (a))), some (.int (ei_ (b))), some (.int (ei_ ((a / 10)))), some (.int (ei_ ((a % 10)))), some (.int (ei_ ((x36 + b))))], [.int (ei_ (9999)), .int (ei_ ((x36 + b)))], m)) rfl ?_
                refine pw_cmp rfl (by omega) (by decide) (fun (h58 : (x36 + b) ≤ 9999) => ?_) (fun (h58 : ¬ ((x36 + b) ≤ 9999)) => ?_)
                · refine pw_steps 5 (s' := (99, [some (.ref 0), some (.int (ei_ (a))), some (.int (ei_ (b))), some (.int (ei_ ((a / 10)))), some (.int (ei_ ((a % 10)))), some (.int (ei_ ((x36 + b))))], [.int (ei_ ((x36 + b))), .int (ei_ ((a % 10))), .int (ei_ ((a / 10))), .ref 3], m)) rfl ?_
                  refine pw_call (As := [.int (ei_ ((a / 10))), .int (ei_ ((a % 10))), .int (ei_ ((x36 + b)))]) (st := []) (k := 3) rfl rfl rfl rfl rfl (Nat.le_of_ble_eq_true rfl) ?_
                  refine pw_intro (I := iX2_setDebt) (T := tX2_setDebt) rfl rfl rfl ?_
                  refine pw_steps 1 (s' := (1, [some (.ref 3), some (.int (ei_ ((a / 10)))), some (.int (ei_ ((a % 10)))), some (.int (ei_ ((x36 + b))))], [.int (ei_ ((a / 10)))], m)) rfl ?_
                  refine pw_callS (As := [.int (ei_ ((a / 10)))]) (st := []) rfl (by decide) rfl rfl (Nat.le_of_ble_eq_true rfl) ?_
                  refine pw_intro (I := iX2_isIn) (T := tX2_isIn) rfl rfl rfl ?_
                  refine pw_steps 1 (s' := (1, [some (.int (ei_ ((a / 10))))], [.int (ei_ ((a / 10)))], m)) rfl ?_
                  refine pw_ifF rfl (by omega) (show ¬ ((a / 10) < 0) by omega) ?_
                  refine pw_steps 2 (s' := (7, [some (.int (ei_ ((a / 10))))], [.int (ei_ (8)), .int (ei_ ((a / 10)))], m)) rfl ?_
                  refine pw_cmpF rfl (by omega) (by decide) (show ¬ (8 ≤ (a / 10)) by omega) ?_
                  refine pw_steps 2 (s' := (15, [some (.int (ei_ ((a / 10))))], [.int (ei_ (1))], m)) rfl ?_
                  refine pw_iret rfl rfl rfl ?_
                  refine pw_ifF rfl (by decide) (show ¬ (1 = 0) by decide) ?_
                  refine pw_steps 1 (s' := (8, [some (.ref 3), some (.int (ei_ ((a / 10)))), some (.int (ei_ ((a % 10)))), some (.int (ei_ ((x36 + b))))], [.int (ei_ ((a % 10)))], m)) rfl ?_
                  refine pw_callS (As := [.int (ei_ ((a % 10)))]) (st := []) rfl (by decide) rfl rfl (Nat.le_of_ble_eq_true rfl) ?_
                  refine pw_intro (I := iX2_isIn) (T := tX2_isIn) rfl rfl rfl ?_
                  refine pw_steps 1 (s' := (1, [some (.int (ei_ ((a % 10))))], [.int (ei_ ((a % 10)))], m)) rfl ?_
                  refine pw_ifF rfl (by omega) (show ¬ ((a % 10) < 0) by omega) ?_
                  refine pw_steps 2 (s' := (7, [some (.int (ei_ ((a % 10))))], [.int (ei_ (8)), .int (ei_ ((a % 10)))], m)) rfl ?_
                  refine pw_cmpF rfl (by omega) (by decide) (show ¬ (8 ≤ (a % 10)) by omega) ?_
                  refine pw_steps 2 (s' := (15, [some (.int (ei_ ((a % 10))))], [.int (ei_ (1))], m)) rfl ?_
                  refine pw_iret rfl rfl rfl ?_
                  refine pw_ifF rfl (by decide) (show ¬ (1 = 0) by decide) ?_
                  refine pw_steps 8 (s' := (25, [some (.ref 3), some (.int (ei_ ((a / 10)))), some (.int (ei_ ((a % 10)))), some (.int (ei_ ((x36 + b))))], [.int (ei_ ((x36 + b))), .int (((ei_ ((a / 10))) * (ei_ (8))) + (ei_ ((a % 10)))), .ref 6], m)) rfl ?_
                  refine pw_cv (congrArg (fun z_ : Int32 => ((25, [some (.ref 3), some (.int (ei_ ((a / 10)))), some (.int (ei_ ((a % 10)))), some (.int (ei_ ((x36 + b))))], [.int (ei_ ((x36 + b))), .int z_, .ref 6], m) : am_S)) (ei_add (ei_mul rfl rfl) rfl)) ?_
                  refine pw_ist rfl rfl (by omega) ?_
                  refine pw_vret rfl rfl ?_
                  refine pw_steps 1 (s' := (104, [some (.ref 0), some (.int (ei_ (a))), some (.int (ei_ (b))), some (.int (ei_ ((a / 10)))), some (.int (ei_ ((a % 10)))), some (.int (ei_ ((x36 + b))))], [.int (ei_ ((x36 + b)))], wi_ m 6 ((((a / 10) * 8) + (a % 10))) ((x36 + b)))) rfl ?_
                  refine pw_iret rfl rfl rfl ?_
                  refine pw_intro (I := iX9_owe) (T := tX9_owe) rfl rfl rfl ?_
                  refine pw_steps 1 (s' := (1, [some (.ref 47), some (.int (ei_ (a))), some (.int (ei_ (b))), none], [.int (ei_ (a))], wi_ m 6 ((((a / 10) * 8) + (a % 10))) ((x36 + b)))) rfl ?_
                  refine pw_ifF rfl q0 (show ¬ (a < 0) by omega) ?_
                  refine pw_steps 3 (s' := (8, [some (.ref 47), some (.int (ei_ (a))), some (.int (ei_ (b))), none], [.int (ei_ (10)), .int (ei_ (a)), .ref 47], wi_ m 6 ((((a / 10) * 8) + (a % 10))) ((x36 + b)))) rfl ?_
                  refine pw_divN rfl (by omega) (by omega) ?_
                  refine pw_steps 1 (s' := (10, [some (.ref 47), some (.int (ei_ (a))), some (.int (ei_ (b))), none], [.long ((ei_ ((a / 10))).toInt64), .ref 47], wi_ m 6 ((((a / 10) * 8) + (a % 10))) ((x36 + b)))) rfl ?_
                  refine pw_cv (congrArg (fun z_ : Int64 => ((10, [some (.ref 47), some (.int (ei_ (a))), some (.int (ei_ (b))), none], [.long z_, .ref 47], wi_ m 6 ((((a / 10) * 8) + (a % 10))) ((x36 + b))) : am_S)) (el_i2l (by omega) rfl)) ?_
                  refine pw_call (As := [.long (el_ ((a / 10)))]) (st := []) (k := 47) rfl rfl rfl rfl rfl (Nat.le_of_ble_eq_true rfl) ?_
                  refine pw_intro (I := iX9_isOne) (T := tX9_isOne) rfl rfl rfl ?_
                  refine pw_steps 3 (s' := (3, [some (.ref 47), some (.long (el_ ((a / 10)))), none], [.ref 47, .long (el_ (0)), .long (el_ ((a / 10)))], wi_ m 6 ((((a / 10) * 8) + (a % 10))) ((x36 + b)))) rfl ?_
                  refine pw_get rfl rfl (fun x59 (hx59 : x59 = vi_ m 47 6) rx59 sx59 => ?_)
                  refine pw_steps 3 (s' := (9, [some (.ref 47), some (.long (el_ ((a / 10)))), none], [.long (((ei_ (x59)) - (ei_ (1))).toInt64), .long (el_ (0)), .long (el_ ((a / 10)))], wi_ m 6 ((((a / 10) * 8) + (a % 10))) ((x36 + b)))) rfl ?_
                  refine pw_cv (congrArg (fun z_ : Int64 => ((9, [some (.ref 47), some (.long (el_ ((a / 10)))), none], [.long z_, .long (el_ (0)), .long (el_ ((a / 10)))], wi_ m 6 ((((a / 10) * 8) + (a % 10))) ((x36 + b))) : am_S)) (el_i2l (by omega) (ei_sub rfl rfl))) ?_
                  refine pw_callS (As := [.long (el_ ((a / 10))), .long (el_ (0)), .long (el_ ((x59 - 1)))]) (st := []) rfl (by decide) rfl rfl (Nat.le_of_ble_eq_true rfl) ?_
                  refine mt_within (by omega) (by omega) (by omega) (fun g60 g61 => ?_) (fun g62 => ?_) (fun g63 => ?_)
                  · refine pw_iret rfl rfl rfl ?_
                    refine pw_ifF rfl (by decide) (show ¬ (1 = 0) by decide) ?_
                    refine pw_steps 3 (s' := (20, [some (.ref 47), some (.int (ei_ (a))), some (.int (ei_ (b))), none], [.int (ei_ (10)), .int (ei_ (a)), .ref 47], wi_ m 6 ((((a / 10) * 8) + (a % 10))) ((x36 + b)))) rfl ?_
                    refine pw_remN rfl (by omega) (by omega) ?_
                    refine pw_steps 1 (s' := (22, [some (.ref 47), some (.int (ei_ (a))), some (.int (ei_ (b))), none], [.long ((ei_ ((a % 10))).toInt64), .ref 47], wi_ m 6 ((((a / 10) * 8) + (a % 10))) ((x36 + b)))) rfl ?_
                    refine pw_cv (congrArg (fun z_ : Int64 => ((22, [some (.ref 47), some (.int (ei_ (a))), some (.int (ei_ (b))), none], [.long z_, .ref 47], wi_ m 6 ((((a / 10) * 8) + (a % 10))) ((x36 + b))) : am_S)) (el_i2l (by omega) rfl)) ?_
                    refine pw_call (As := [.long (el_ ((a % 10)))]) (st := []) (k := 47) rfl rfl rfl rfl rfl (Nat.le_of_ble_eq_true rfl) ?_
                    refine pw_intro (I := iX9_isOne) (T := tX9_isOne) rfl rfl rfl ?_
                    refine pw_steps 3 (s' := (3, [some (.ref 47), some (.long (el_ ((a % 10)))), none], [.ref 47, .long (el_ (0)), .long (el_ ((a % 10)))], wi_ m 6 ((((a / 10) * 8) + (a % 10))) ((x36 + b)))) rfl ?_
                    refine pw_getE (x := x59) rfl rfl hx59 ?_
                    refine pw_steps 3 (s' := (9, [some (.ref 47), some (.long (el_ ((a % 10)))), none], [.long (((ei_ (x59)) - (ei_ (1))).toInt64), .long (el_ (0)), .long (el_ ((a % 10)))], wi_ m 6 ((((a / 10) * 8) + (a % 10))) ((x36 + b)))) rfl ?_
                    refine pw_cv (congrArg (fun z_ : Int64 => ((9, [some (.ref 47), some (.long (el_ ((a % 10)))), none], [.long z_, .long (el_ (0)), .long (el_ ((a % 10)))], wi_ m 6 ((((a / 10) * 8) + (a % 10))) ((x36 + b))) : am_S)) (el_i2l (by omega) (ei_sub rfl rfl))) ?_
                    refine pw_callS (As := [.long (el_ ((a % 10))), .long (el_ (0)), .long (el_ ((x59 - 1)))]) (st := []) rfl (by decide) rfl rfl (Nat.le_of_ble_eq_true rfl) ?_
                    refine mt_within (by omega) (by omega) (by omega) (fun g64 g65 => ?_) (fun g66 => ?_) (fun g67 => ?_)
                    · refine pw_iret rfl rfl rfl ?_
                      refine pw_ifF rfl (by decide) (show ¬ (1 = 0) by decide) ?_
                      refine pw_steps 2 (s' := (31, [some (.ref 47), some (.int (ei_ (a))), some (.int (ei_ (b))), none], [.int (ei_ (10)), .int (ei_ (a))], wi_ m 6 ((((a / 10) * 8) + (a % 10))) ((x36 + b)))) rfl ?_
                      refine pw_divN rfl (by omega) (by omega) ?_
                      refine pw_steps 2 (s' := (35, [some (.ref 47), some (.int (ei_ (a))), some (.int (ei_ (b))), none], [.int (ei_ (10)), .int (ei_ (a)), .int (ei_ ((a / 10)))], wi_ m 6 ((((a / 10) * 8) + (a % 10))) ((x36 + b)))) rfl ?_
                      refine pw_remN rfl (by omega) (by omega) ?_
                      refine pw_cmpF rfl (by omega) (by omega) (show ¬ ((a / 10) = (a % 10)) by omega) ?_
                      refine pw_steps 4 (s' := (47, [some (.ref 47), some (.int (ei_ (a))), some (.int (ei_ (b))), none], [.long (el_ (99)), .long (el_ ((-99))), .long ((ei_ (b)).toInt64)], wi_ m 6 ((((a / 10) * 8) + (a % 10))) ((x36 + b)))) rfl ?_
                      refine pw_cv (congrArg (fun z_ : Int64 => ((47, [some (.ref 47), some (.int (ei_ (a))), some (.int (ei_ (b))), none], [.long (el_ (99)), .long (el_ ((-99))), .long z_], wi_ m 6 ((((a / 10) * 8) + (a % 10))) ((x36 + b))) : am_S)) (el_i2l q1 rfl)) ?_
                      refine pw_callS (As := [.long (el_ (b)), .long (el_ ((-99))), .long (el_ (99))]) (st := []) rfl (by decide) rfl rfl (Nat.le_of_ble_eq_true rfl) ?_
                      refine mt_within (by omega) (by omega) (by omega) (fun g68 g69 => ?_) (fun g70 => ?_) (fun g71 => ?_)
                      · refine pw_ifT rfl (by decide) (show ¬ 1 = 0 by decide) ?_
                        refine pw_steps 3 (s' := (60, [some (.ref 47), some (.int (ei_ (a))), some (.int (ei_ (b))), none], [.int (ei_ (10)), .int (ei_ (a)), .int (ei_ (8))], wi_ m 6 ((((a / 10) * 8) + (a % 10))) ((x36 + b)))) rfl ?_
                        refine pw_divN rfl (by omega) (by omega) ?_
                        refine pw_steps 3 (s' := (65, [some (.ref 47), some (.int (ei_ (a))), some (.int (ei_ (b))), none], [.int (ei_ (10)), .int (ei_ (a)), .int ((ei_ (8)) * (ei_ ((a / 10))))], wi_ m 6 ((((a / 10) * 8) + (a % 10))) ((x36 + b)))) rfl ?_
                        refine pw_cv (congrArg (fun z_ : Int32 => ((65, [some (.ref 47), some (.int (ei_ (a))), some (.int (ei_ (b))), none], [.int (ei_ (10)), .int (ei_ (a)), .int z_], wi_ m 6 ((((a / 10) * 8) + (a % 10))) ((x36 + b))) : am_S)) (ei_mul rfl rfl)) ?_
                        refine pw_remN rfl (by omega) (by omega) ?_
                        refine pw_steps 5 (s' := (73, [some (.ref 47), some (.int (ei_ (a))), some (.int (ei_ (b))), some (.int ((ei_ ((8 * (a / 10)))) + (ei_ ((a % 10)))))], [.int ((ei_ ((8 * (a / 10)))) + (ei_ ((a % 10)))), .ref 61], wi_ m 6 ((((a / 10) * 8) + (a % 10))) ((x36 + b)))) rfl ?_
                        refine pw_cv (congrArg (fun z_ : Int32 => ((73, [some (.ref 47), some (.int (ei_ (a))), some (.int (ei_ (b))), some (.int z_)], [.int z_, .ref 61], wi_ m 6 ((((a / 10) * 8) + (a % 10))) ((x36 + b))) : am_S)) (ei_add rfl rfl)) ?_
                        refine pw_ild rfl rfl (by omega) (fun x72 (hx72 : x72 = vi_ m 61 ((8 * (a / 10)) + (a % 10))) rx72 sx72 => ?_)
                        have ox72 := hx72
                        have b73 := hd.2.2.2.1 ((8 * (a / 10)) + (a % 10)) (by omega) (by omega)
                        rw [b73.1, show ((8 * (a / 10)) + (a % 10)) = (((a / 10) * 8) + (a % 10)) from by omega] at hx72
                        refine pw_steps 5 (s' := (81, [some (.ref 47), some (.int (ei_ (a))), some (.int (ei_ (b))), some (.int (ei_ (((8 * (a / 10)) + (a % 10)))))], [.long (el_ (9999)), .long (el_ (0)), .long (((ei_ (x72)) + (ei_ (b))).toInt64)], wi_ m 6 ((((a / 10) * 8) + (a % 10))) ((x36 + b)))) rfl ?_
                        refine pw_cv (congrArg (fun z_ : Int64 => ((81, [some (.ref 47), some (.int (ei_ (a))), some (.int (ei_ (b))), some (.int (ei_ (((8 * (a / 10)) + (a % 10)))))], [.long (el_ (9999)), .long (el_ (0)), .long z_], wi_ m 6 ((((a / 10) * 8) + (a % 10))) ((x36 + b))) : am_S)) (el_i2l (by omega) (ei_add rfl rfl))) ?_
                        refine pw_callS (As := [.long (el_ ((x72 + b))), .long (el_ (0)), .long (el_ (9999))]) (st := []) rfl (by decide) rfl rfl (Nat.le_of_ble_eq_true rfl) ?_
                        refine mt_within (by omega) (by omega) (by omega) (fun g74 g75 => ?_) (fun g76 => ?_) (fun g77 => ?_)
                        · refine pw_ifT rfl (by decide) (show ¬ 1 = 0 by decide) ?_
                          refine pw_steps 4 (s' := (96, [some (.ref 47), some (.int (ei_ (a))), some (.int (ei_ (b))), some (.int (ei_ (((8 * (a / 10)) + (a % 10)))))], [.int (ei_ (((8 * (a / 10)) + (a % 10)))), .ref 61, .int (ei_ (((8 * (a / 10)) + (a % 10)))), .ref 61], wi_ m 6 ((((a / 10) * 8) + (a % 10))) ((x36 + b)))) rfl ?_
                          refine pw_ildE (x := x72) rfl rfl (by omega) ox72 ?_
                          refine pw_steps 2 (s' := (99, [some (.ref 47), some (.int (ei_ (a))), some (.int (ei_ (b))), some (.int (ei_ (((8 * (a / 10)) + (a % 10)))))], [.int ((ei_ (x72)) + (ei_ (b))), .int (ei_ (((8 * (a / 10)) + (a % 10)))), .ref 61], wi_ m 6 ((((a / 10) * 8) + (a % 10))) ((x36 + b)))) rfl ?_
                          refine pw_cv (congrArg (fun z_ : Int32 => ((99, [some (.ref 47), some (.int (ei_ (a))), some (.int (ei_ (b))), some (.int (ei_ (((8 * (a / 10)) + (a % 10)))))], [.int z_, .int (ei_ (((8 * (a / 10)) + (a % 10)))), .ref 61], wi_ m 6 ((((a / 10) * 8) + (a % 10))) ((x36 + b))) : am_S)) (ei_add rfl rfl)) ?_
                          refine pw_ist rfl rfl (by omega) ?_
                          refine pw_steps 3 (s' := (105, [some (.ref 47), some (.int (ei_ (a))), some (.int (ei_ (b))), some (.int (ei_ (((8 * (a / 10)) + (a % 10)))))], [.int (ei_ (((8 * (a / 10)) + (a % 10)))), .ref 61], wi_ (wi_ m 6 ((((a / 10) * 8) + (a % 10))) ((x36 + b))) 61 (((8 * (a / 10)) + (a % 10))) ((x72 + b)))) rfl ?_
                          refine pw_ildE (x := (x72 + b)) rfl rfl (by omega) (vi_eq (by omega)).symm ?_
                          refine pw_iret rfl rfl rfl ?_
                          have hsm_ : sm_ pOwe m (wi_ (wi_ m 6 ((((a / 10) * 8) + (a % 10))) ((x36 + b))) 61 (((8 * (a / 10)) + (a % 10))) ((x72 + b))) := (sm_w (sm_w (sm_rfl m) (fun _ h_ => by rw [h_]; rfl)) (fun _ h_ => by rw [h_]; rfl))
                          have hx_ : ((x72 + b) : Int) = (x36 + b) := by omega
                          exact ⟨(x36 + b), rfl, congrArg (fun z_ : Int => some (Value.int (ei_ z_))) hx_, ⟨rP_fr hsm_ rfl rfl (fun _ => rfl) (fun _ => rfl) hp, rD_owe hd (by omega) (by omega) (by omega) (by omega), rI_fr hsm_ rfl rfl rfl rfl (fun _ => rfl) (fun _ => rfl) (fun _ => rfl) (fun _ => rfl) (fun _ => rfl) (fun _ => rfl) (fun _ => rfl) rfl rfl rfl hi, rT_fr hsm_ rfl rfl (fun _ => rfl) (fun _ => rfl) ht, rL_fr hsm_ rfl rfl (fun _ => rfl) (fun _ => rfl) hl, rZ_fr hsm_ rfl hz, rC_fr hsm_ rfl rfl rfl rfl (fun _ => rfl) (fun _ => rfl) (fun _ => rfl) (fun _ => rfl) (fun _ => rfl) (fun _ => rfl) (fun _ => rfl) rfl hc, rA_fr hsm_ rfl rfl (fun _ => rfl) (fun _ => rfl) rfl rfl (fun _ => rfl) (fun _ => rfl) ha, rS_fr hsm_ (fun _ => rfl) (fun _ => rfl) rfl (fun d_ a_ b_ => by rcases sf_six ⟨a_, b_⟩ with h_ | h_ | h_ | h_ | h_ | h_ <;> subst h_ <;> exact ⟨rfl, rfl, rfl⟩) hs⟩⟩
                        · exact False.elim (by omega)
                        · exact False.elim (by omega)
                      · exact False.elim (by omega)
                      · exact False.elim (by omega)
                    · exact False.elim (by omega)
                    · exact False.elim (by omega)
                  · exact False.elim (by omega)
                  · exact False.elim (by omega)
                · refine pw_steps 1 (s' := (89, [some (.ref 0), some (.int (ei_ (a))), some (.int (ei_ (b))), some (.int (ei_ ((a / 10)))), some (.int (ei_ ((a % 10)))), some (.int (ei_ ((x36 + b))))], [.int (ei_ ((-5)))], m)) rfl ?_
                  refine pw_iret rfl rfl rfl ?_
                  refine pw_intro (I := iX9_owe) (T := tX9_owe) rfl rfl rfl ?_
                  refine pw_steps 1 (s' := (1, [some (.ref 47), some (.int (ei_ (a))), some (.int (ei_ (b))), none], [.int (ei_ (a))], m)) rfl ?_
                  refine pw_ifF rfl q0 (show ¬ (a < 0) by omega) ?_
                  refine pw_steps 3 (s' := (8, [some (.ref 47), some (.int (ei_ (a))), some (.int (ei_ (b))), none], [.int (ei_ (10)), .int (ei_ (a)), .ref 47], m)) rfl ?_
                  refine pw_divN rfl (by omega) (by omega) ?_
                  refine pw_steps 1 (s' := (10, [some (.ref 47), some (.int (ei_ (a))), some (.int (ei_ (b))), none], [.long ((ei_ ((a / 10))).toInt64), .ref 47], m)) rfl ?_
                  refine pw_cv (congrArg (fun z_ : Int64 => ((10, [some (.ref 47), some (.int (ei_ (a))), some (.int (ei_ (b))), none], [.long z_, .ref 47], m) : am_S)) (el_i2l (by omega) rfl)) ?_
                  refine pw_call (As := [.long (el_ ((a / 10)))]) (st := []) (k := 47) rfl rfl rfl rfl rfl (Nat.le_of_ble_eq_true rfl) ?_
                  refine pw_intro (I := iX9_isOne) (T := tX9_isOne) rfl rfl rfl ?_
                  refine pw_steps 3 (s' := (3, [some (.ref 47), some (.long (el_ ((a / 10)))), none], [.ref 47, .long (el_ (0)), .long (el_ ((a / 10)))], m)) rfl ?_
                  refine pw_get rfl rfl (fun x78 (hx78 : x78 = vi_ m 47 6) rx78 sx78 => ?_)
                  refine pw_steps 3 (s' := (9, [some (.ref 47), some (.long (el_ ((a / 10)))), none], [.long (((ei_ (x78)) - (ei_ (1))).toInt64), .long (el_ (0)), .long (el_ ((a / 10)))], m)) rfl ?_
                  refine pw_cv (congrArg (fun z_ : Int64 => ((9, [some (.ref 47), some (.long (el_ ((a / 10)))), none], [.long z_, .long (el_ (0)), .long (el_ ((a / 10)))], m) : am_S)) (el_i2l (by omega) (ei_sub rfl rfl))) ?_
                  refine pw_callS (As := [.long (el_ ((a / 10))), .long (el_ (0)), .long (el_ ((x78 - 1)))]) (st := []) rfl (by decide) rfl rfl (Nat.le_of_ble_eq_true rfl) ?_
                  refine mt_within (by omega) (by omega) (by omega) (fun g79 g80 => ?_) (fun g81 => ?_) (fun g82 => ?_)
                  · refine pw_iret rfl rfl rfl ?_
                    refine pw_ifF rfl (by decide) (show ¬ (1 = 0) by decide) ?_
                    refine pw_steps 3 (s' := (20, [some (.ref 47), some (.int (ei_ (a))), some (.int (ei_ (b))), none], [.int (ei_ (10)), .int (ei_ (a)), .ref 47], m)) rfl ?_
                    refine pw_remN rfl (by omega) (by omega) ?_
                    refine pw_steps 1 (s' := (22, [some (.ref 47), some (.int (ei_ (a))), some (.int (ei_ (b))), none], [.long ((ei_ ((a % 10))).toInt64), .ref 47], m)) rfl ?_
                    refine pw_cv (congrArg (fun z_ : Int64 => ((22, [some (.ref 47), some (.int (ei_ (a))), some (.int (ei_ (b))), none], [.long z_, .ref 47], m) : am_S)) (el_i2l (by omega) rfl)) ?_
                    refine pw_call (As := [.long (el_ ((a % 10)))]) (st := []) (k := 47) rfl rfl rfl rfl rfl (Nat.le_of_ble_eq_true rfl) ?_
                    refine pw_intro (I := iX9_isOne) (T := tX9_isOne) rfl rfl rfl ?_
                    refine pw_steps 3 (s' := (3, [some (.ref 47), some (.long (el_ ((a % 10)))), none], [.ref 47, .long (el_ (0)), .long (el_ ((a % 10)))], m)) rfl ?_
                    refine pw_getE (x := x78) rfl rfl hx78 ?_
                    refine pw_steps 3 (s' := (9, [some (.ref 47), some (.long (el_ ((a % 10)))), none], [.long (((ei_ (x78)) - (ei_ (1))).toInt64), .long (el_ (0)), .long (el_ ((a % 10)))], m)) rfl ?_
                    refine pw_cv (congrArg (fun z_ : Int64 => ((9, [some (.ref 47), some (.long (el_ ((a % 10)))), none], [.long z_, .long (el_ (0)), .long (el_ ((a % 10)))], m) : am_S)) (el_i2l (by omega) (ei_sub rfl rfl))) ?_
                    refine pw_callS (As := [.long (el_ ((a % 10))), .long (el_ (0)), .long (el_ ((x78 - 1)))]) (st := []) rfl (by decide) rfl rfl (Nat.le_of_ble_eq_true rfl) ?_
                    refine mt_within (by omega) (by omega) (by omega) (fun g83 g84 => ?_) (fun g85 => ?_) (fun g86 => ?_)
                    · refine pw_iret rfl rfl rfl ?_
                      refine pw_ifF rfl (by decide) (show ¬ (1 = 0) by decide) ?_
                      refine pw_steps 2 (s' := (31, [some (.ref 47), some (.int (ei_ (a))), some (.int (ei_ (b))), none], [.int (ei_ (10)), .int (ei_ (a))], m)) rfl ?_
                      refine pw_divN rfl (by omega) (by omega) ?_
                      refine pw_steps 2 (s' := (35, [some (.ref 47), some (.int (ei_ (a))), some (.int (ei_ (b))), none], [.int (ei_ (10)), .int (ei_ (a)), .int (ei_ ((a / 10)))], m)) rfl ?_
                      refine pw_remN rfl (by omega) (by omega) ?_
                      refine pw_cmpF rfl (by omega) (by omega) (show ¬ ((a / 10) = (a % 10)) by omega) ?_
                      refine pw_steps 4 (s' := (47, [some (.ref 47), some (.int (ei_ (a))), some (.int (ei_ (b))), none], [.long (el_ (99)), .long (el_ ((-99))), .long ((ei_ (b)).toInt64)], m)) rfl ?_
                      refine pw_cv (congrArg (fun z_ : Int64 => ((47, [some (.ref 47), some (.int (ei_ (a))), some (.int (ei_ (b))), none], [.long (el_ (99)), .long (el_ ((-99))), .long z_], m) : am_S)) (el_i2l q1 rfl)) ?_
                      refine pw_callS (As := [.long (el_ (b)), .long (el_ ((-99))), .long (el_ (99))]) (st := []) rfl (by decide) rfl rfl (Nat.le_of_ble_eq_true rfl) ?_
                      refine mt_within (by omega) (by omega) (by omega) (fun g87 g88 => ?_) (fun g89 => ?_) (fun g90 => ?_)
                      · refine pw_ifT rfl (by decide) (show ¬ 1 = 0 by decide) ?_
                        refine pw_steps 3 (s' := (60, [some (.ref 47), some (.int (ei_ (a))), some (.int (ei_ (b))), none], [.int (ei_ (10)), .int (ei_ (a)), .int (ei_ (8))], m)) rfl ?_
                        refine pw_divN rfl (by omega) (by omega) ?_
                        refine pw_steps 3 (s' := (65, [some (.ref 47), some (.int (ei_ (a))), some (.int (ei_ (b))), none], [.int (ei_ (10)), .int (ei_ (a)), .int ((ei_ (8)) * (ei_ ((a / 10))))], m)) rfl ?_
                        refine pw_cv (congrArg (fun z_ : Int32 => ((65, [some (.ref 47), some (.int (ei_ (a))), some (.int (ei_ (b))), none], [.int (ei_ (10)), .int (ei_ (a)), .int z_], m) : am_S)) (ei_mul rfl rfl)) ?_
                        refine pw_remN rfl (by omega) (by omega) ?_
                        refine pw_steps 5 (s' := (73, [some (.ref 47), some (.int (ei_ (a))), some (.int (ei_ (b))), some (.int ((ei_ ((8 * (a / 10)))) + (ei_ ((a % 10)))))], [.int ((ei_ ((8 * (a / 10)))) + (ei_ ((a % 10)))), .ref 61], m)) rfl ?_
                        refine pw_cv (congrArg (fun z_ : Int32 => ((73, [some (.ref 47), some (.int (ei_ (a))), some (.int (ei_ (b))), some (.int z_)], [.int z_, .ref 61], m) : am_S)) (ei_add rfl rfl)) ?_
                        refine pw_ild rfl rfl (by omega) (fun x91 (hx91 : x91 = vi_ m 61 ((8 * (a / 10)) + (a % 10))) rx91 sx91 => ?_)
                        have ox91 := hx91
                        have b92 := hd.2.2.2.1 ((8 * (a / 10)) + (a % 10)) (by omega) (by omega)
                        rw [b92.1, show ((8 * (a / 10)) + (a % 10)) = (((a / 10) * 8) + (a % 10)) from by omega] at hx91
                        refine pw_steps 5 (s' := (81, [some (.ref 47), some (.int (ei_ (a))), some (.int (ei_ (b))), some (.int (ei_ (((8 * (a / 10)) + (a % 10)))))], [.long (el_ (9999)), .long (el_ (0)), .long (((ei_ (x91)) + (ei_ (b))).toInt64)], m)) rfl ?_
                        refine pw_cv (congrArg (fun z_ : Int64 => ((81, [some (.ref 47), some (.int (ei_ (a))), some (.int (ei_ (b))), some (.int (ei_ (((8 * (a / 10)) + (a % 10)))))], [.long (el_ (9999)), .long (el_ (0)), .long z_], m) : am_S)) (el_i2l (by omega) (ei_add rfl rfl))) ?_
                        refine pw_callS (As := [.long (el_ ((x91 + b))), .long (el_ (0)), .long (el_ (9999))]) (st := []) rfl (by decide) rfl rfl (Nat.le_of_ble_eq_true rfl) ?_
                        refine mt_within (by omega) (by omega) (by omega) (fun g93 g94 => ?_) (fun g95 => ?_) (fun g96 => ?_)
                        · exact False.elim (by omega)
                        · exact False.elim (by omega)
                        · refine pw_ifF rfl (by decide) (show ¬ (¬ 0 = 0) by decide) ?_
                          refine pw_steps 1 (s' := (89, [some (.ref 47), some (.int (ei_ (a))), some (.int (ei_ (b))), some (.int (ei_ (((8 * (a / 10)) + (a % 10)))))], [.int (ei_ ((-5)))], m)) rfl ?_
                          refine pw_iret rfl rfl rfl ?_
                          exact ⟨(-5), rfl, rfl, hR⟩
                      · exact False.elim (by omega)
                      · exact False.elim (by omega)
                    · exact False.elim (by omega)
                    · exact False.elim (by omega)
                  · exact False.elim (by omega)
                  · exact False.elim (by omega)
            · refine pw_steps 1 (s' := (59, [some (.ref 0), some (.int (ei_ (a))), some (.int (ei_ (b))), some (.int (ei_ ((a / 10)))), some (.int (ei_ ((a % 10)))), none], [.int (ei_ ((-1)))], m)) rfl ?_
              refine pw_iret rfl rfl rfl ?_
              refine pw_intro (I := iX9_owe) (T := tX9_owe) rfl rfl rfl ?_
              refine pw_steps 1 (s' := (1, [some (.ref 47), some (.int (ei_ (a))), some (.int (ei_ (b))), none], [.int (ei_ (a))], m)) rfl ?_
              refine pw_ifF rfl q0 (show ¬ (a < 0) by omega) ?_
              refine pw_steps 3 (s' := (8, [some (.ref 47), some (.int (ei_ (a))), some (.int (ei_ (b))), none], [.int (ei_ (10)), .int (ei_ (a)), .ref 47], m)) rfl ?_
              refine pw_divN rfl (by omega) (by omega) ?_
              refine pw_steps 1 (s' := (10, [some (.ref 47), some (.int (ei_ (a))), some (.int (ei_ (b))), none], [.long ((ei_ ((a / 10))).toInt64), .ref 47], m)) rfl ?_
              refine pw_cv (congrArg (fun z_ : Int64 => ((10, [some (.ref 47), some (.int (ei_ (a))), some (.int (ei_ (b))), none], [.long z_, .ref 47], m) : am_S)) (el_i2l (by omega) rfl)) ?_
              refine pw_call (As := [.long (el_ ((a / 10)))]) (st := []) (k := 47) rfl rfl rfl rfl rfl (Nat.le_of_ble_eq_true rfl) ?_
              refine pw_intro (I := iX9_isOne) (T := tX9_isOne) rfl rfl rfl ?_
              refine pw_steps 3 (s' := (3, [some (.ref 47), some (.long (el_ ((a / 10)))), none], [.ref 47, .long (el_ (0)), .long (el_ ((a / 10)))], m)) rfl ?_
              refine pw_get rfl rfl (fun x97 (hx97 : x97 = vi_ m 47 6) rx97 sx97 => ?_)
              refine pw_steps 3 (s' := (9, [some (.ref 47), some (.long (el_ ((a / 10)))), none], [.long (((ei_ (x97)) - (ei_ (1))).toInt64), .long (el_ (0)), .long (el_ ((a / 10)))], m)) rfl ?_
              refine pw_cv (congrArg (fun z_ : Int64 => ((9, [some (.ref 47), some (.long (el_ ((a / 10)))), none], [.long z_, .long (el_ (0)), .long (el_ ((a / 10)))], m) : am_S)) (el_i2l (by omega) (ei_sub rfl rfl))) ?_
              refine pw_callS (As := [.long (el_ ((a / 10))), .long (el_ (0)), .long (el_ ((x97 - 1)))]) (st := []) rfl (by decide) rfl rfl (Nat.le_of_ble_eq_true rfl) ?_
              refine mt_within (by omega) (by omega) (by omega) (fun g98 g99 => ?_) (fun g100 => ?_) (fun g101 => ?_)
              · refine pw_iret rfl rfl rfl ?_
                refine pw_ifF rfl (by decide) (show ¬ (1 = 0) by decide) ?_
                refine pw_steps 3 (s' := (20, [some (.ref 47), some (.int (ei_ (a))), some (.int (ei_ (b))), none], [.int (ei_ (10)), .int (ei_ (a)), .ref 47], m)) rfl ?_
                refine pw_remN rfl (by omega) (by omega) ?_
                refine pw_steps 1 (s' := (22, [some (.ref 47), some (.int (ei_ (a))), some (.int (ei_ (b))), none], [.long ((ei_ ((a % 10))).toInt64), .ref 47], m)) rfl ?_
                refine pw_cv (congrArg (fun z_ : Int64 => ((22, [some (.ref 47), some (.int (ei_ (a))), some (.int (ei_ (b))), none], [.long z_, .ref 47], m) : am_S)) (el_i2l (by omega) rfl)) ?_
                refine pw_call (As := [.long (el_ ((a % 10)))]) (st := []) (k := 47) rfl rfl rfl rfl rfl (Nat.le_of_ble_eq_true rfl) ?_
                refine pw_intro (I := iX9_isOne) (T := tX9_isOne) rfl rfl rfl ?_
                refine pw_steps 3 (s' := (3, [some (.ref 47), some (.long (el_ ((a % 10)))), none], [.ref 47, .long (el_ (0)), .long (el_ ((a % 10)))], m)) rfl ?_
                refine pw_getE (x := x97) rfl rfl hx97 ?_
                refine pw_steps 3 (s' := (9, [some (.ref 47), some (.long (el_ ((a % 10)))), none], [.long (((ei_ (x97)) - (ei_ (1))).toInt64), .long (el_ (0)), .long (el_ ((a % 10)))], m)) rfl ?_
                refine pw_cv (congrArg (fun z_ : Int64 => ((9, [some (.ref 47), some (.long (el_ ((a % 10)))), none], [.long z_, .long (el_ (0)), .long (el_ ((a % 10)))], m) : am_S)) (el_i2l (by omega) (ei_sub rfl rfl))) ?_
                refine pw_callS (As := [.long (el_ ((a % 10))), .long (el_ (0)), .long (el_ ((x97 - 1)))]) (st := []) rfl (by decide) rfl rfl (Nat.le_of_ble_eq_true rfl) ?_
                refine mt_within (by omega) (by omega) (by omega) (fun g102 g103 => ?_) (fun g104 => ?_) (fun g105 => ?_)
                · refine pw_iret rfl rfl rfl ?_
                  refine pw_ifF rfl (by decide) (show ¬ (1 = 0) by decide) ?_
                  refine pw_steps 2 (s' := (31, [some (.ref 47), some (.int (ei_ (a))), some (.int (ei_ (b))), none], [.int (ei_ (10)), .int (ei_ (a))], m)) rfl ?_
                  refine pw_divN rfl (by omega) (by omega) ?_
                  refine pw_steps 2 (s' := (35, [some (.ref 47), some (.int (ei_ (a))), some (.int (ei_ (b))), none], [.int (ei_ (10)), .int (ei_ (a)), .int (ei_ ((a / 10)))], m)) rfl ?_
                  refine pw_remN rfl (by omega) (by omega) ?_
                  refine pw_cmpT rfl (by omega) (by omega) (show (a / 10) = (a % 10) by omega) ?_
                  refine pw_steps 1 (s' := (54, [some (.ref 47), some (.int (ei_ (a))), some (.int (ei_ (b))), none], [.int (ei_ ((-1)))], m)) rfl ?_
                  refine pw_iret rfl rfl rfl ?_
                  exact ⟨(-1), rfl, rfl, hR⟩
                · exact False.elim (by omega)
                · exact False.elim (by omega)
              · exact False.elim (by omega)
              · exact False.elim (by omega)
      · refine pw_steps 1 (s' := (17, [some (.ref 0), some (.int (ei_ (a))), some (.int (ei_ (b))), none, none, none], [.int (ei_ ((-1)))], m)) rfl ?_
        refine pw_iret rfl rfl rfl ?_
        refine pw_intro (I := iX9_owe) (T := tX9_owe) rfl rfl rfl ?_
        refine pw_steps 1 (s' := (1, [some (.ref 47), some (.int (ei_ (a))), some (.int (ei_ (b))), none], [.int (ei_ (a))], m)) rfl ?_
        refine pw_ifF rfl q0 (show ¬ (a < 0) by omega) ?_
        refine pw_steps 3 (s' := (8, [some (.ref 47), some (.int (ei_ (a))), some (.int (ei_ (b))), none], [.int (ei_ (10)), .int (ei_ (a)), .ref 47], m)) rfl ?_
        refine pw_divN rfl (by omega) (by omega) ?_
        refine pw_steps 1 (s' := (10, [some (.ref 47), some (.int (ei_ (a))), some (.int (ei_ (b))), none], [.long ((ei_ ((a / 10))).toInt64), .ref 47], m)) rfl ?_
        refine pw_cv (congrArg (fun z_ : Int64 => ((10, [some (.ref 47), some (.int (ei_ (a))), some (.int (ei_ (b))), none], [.long z_, .ref 47], m) : am_S)) (el_i2l (by omega) rfl)) ?_
        refine pw_call (As := [.long (el_ ((a / 10)))]) (st := []) (k := 47) rfl rfl rfl rfl rfl (Nat.le_of_ble_eq_true rfl) ?_
        refine pw_intro (I := iX9_isOne) (T := tX9_isOne) rfl rfl rfl ?_
        refine pw_steps 3 (s' := (3, [some (.ref 47), some (.long (el_ ((a / 10)))), none], [.ref 47, .long (el_ (0)), .long (el_ ((a / 10)))], m)) rfl ?_
        refine pw_get rfl rfl (fun x106 (hx106 : x106 = vi_ m 47 6) rx106 sx106 => ?_)
        refine pw_steps 3 (s' := (9, [some (.ref 47), some (.long (el_ ((a / 10)))), none], [.long (((ei_ (x106)) - (ei_ (1))).toInt64), .long (el_ (0)), .long (el_ ((a / 10)))], m)) rfl ?_
        refine pw_cv (congrArg (fun z_ : Int64 => ((9, [some (.ref 47), some (.long (el_ ((a / 10)))), none], [.long z_, .long (el_ (0)), .long (el_ ((a / 10)))], m) : am_S)) (el_i2l (by omega) (ei_sub rfl rfl))) ?_
        refine pw_callS (As := [.long (el_ ((a / 10))), .long (el_ (0)), .long (el_ ((x106 - 1)))]) (st := []) rfl (by decide) rfl rfl (Nat.le_of_ble_eq_true rfl) ?_
        refine mt_within (by omega) (by omega) (by omega) (fun g107 g108 => ?_) (fun g109 => ?_) (fun g110 => ?_)
        · refine pw_iret rfl rfl rfl ?_
          refine pw_ifF rfl (by decide) (show ¬ (1 = 0) by decide) ?_
          refine pw_steps 3 (s' := (20, [some (.ref 47), some (.int (ei_ (a))), some (.int (ei_ (b))), none], [.int (ei_ (10)), .int (ei_ (a)), .ref 47], m)) rfl ?_
          refine pw_remN rfl (by omega) (by omega) ?_
          refine pw_steps 1 (s' := (22, [some (.ref 47), some (.int (ei_ (a))), some (.int (ei_ (b))), none], [.long ((ei_ ((a % 10))).toInt64), .ref 47], m)) rfl ?_
          refine pw_cv (congrArg (fun z_ : Int64 => ((22, [some (.ref 47), some (.int (ei_ (a))), some (.int (ei_ (b))), none], [.long z_, .ref 47], m) : am_S)) (el_i2l (by omega) rfl)) ?_
          refine pw_call (As := [.long (el_ ((a % 10)))]) (st := []) (k := 47) rfl rfl rfl rfl rfl (Nat.le_of_ble_eq_true rfl) ?_
          refine pw_intro (I := iX9_isOne) (T := tX9_isOne) rfl rfl rfl ?_
          refine pw_steps 3 (s' := (3, [some (.ref 47), some (.long (el_ ((a % 10)))), none], [.ref 47, .long (el_ (0)), .long (el_ ((a % 10)))], m)) rfl ?_
          refine pw_getE (x := x106) rfl rfl hx106 ?_
          refine pw_steps 3 (s' := (9, [some (.ref 47), some (.long (el_ ((a % 10)))), none], [.long (((ei_ (x106)) - (ei_ (1))).toInt64), .long (el_ (0)), .long (el_ ((a % 10)))], m)) rfl ?_
          refine pw_cv (congrArg (fun z_ : Int64 => ((9, [some (.ref 47), some (.long (el_ ((a % 10)))), none], [.long z_, .long (el_ (0)), .long (el_ ((a % 10)))], m) : am_S)) (el_i2l (by omega) (ei_sub rfl rfl))) ?_
          refine pw_callS (As := [.long (el_ ((a % 10))), .long (el_ (0)), .long (el_ ((x106 - 1)))]) (st := []) rfl (by decide) rfl rfl (Nat.le_of_ble_eq_true rfl) ?_
          refine mt_within (by omega) (by omega) (by omega) (fun g111 g112 => ?_) (fun g113 => ?_) (fun g114 => ?_)
          · refine pw_iret rfl rfl rfl ?_
            refine pw_ifF rfl (by decide) (show ¬ (1 = 0) by decide) ?_
            refine pw_steps 2 (s' := (31, [some (.ref 47), some (.int (ei_ (a))), some (.int (ei_ (b))), none], [.int (ei_ (10)), .int (ei_ (a))], m)) rfl ?_
            refine pw_divN rfl (by omega) (by omega) ?_
            refine pw_steps 2 (s' := (35, [some (.ref 47), some (.int (ei_ (a))), some (.int (ei_ (b))), none], [.int (ei_ (10)), .int (ei_ (a)), .int (ei_ ((a / 10)))], m)) rfl ?_
            refine pw_remN rfl (by omega) (by omega) ?_
            refine pw_cmp rfl (by omega) (by omega) (fun (h115 : (a / 10) = (a % 10)) => ?_) (fun (h115 : ¬ ((a / 10) = (a % 10))) => ?_)
            · refine pw_steps 1 (s' := (54, [some (.ref 47), some (.int (ei_ (a))), some (.int (ei_ (b))), none], [.int (ei_ ((-1)))], m)) rfl ?_
              refine pw_iret rfl rfl rfl ?_
              exact ⟨(-1), rfl, rfl, hR⟩
            · refine pw_steps 4 (s' := (47, [some (.ref 47), some (.int (ei_ (a))), some (.int (ei_ (b))), none], [.long (el_ (99)), .long (el_ ((-99))), .long ((ei_ (b)).toInt64)], m)) rfl ?_
              refine pw_cv (congrArg (fun z_ : Int64 => ((47, [some (.ref 47), some (.int (ei_ (a))), some (.int (ei_ (b))), none], [.long (el_ (99)), .long (el_ ((-99))), .long z_], m) : am_S)) (el_i2l q1 rfl)) ?_
              refine pw_callS (As := [.long (el_ (b)), .long (el_ ((-99))), .long (el_ (99))]) (st := []) rfl (by decide) rfl rfl (Nat.le_of_ble_eq_true rfl) ?_
              refine mt_within (by omega) (by omega) (by omega) (fun g116 g117 => ?_) (fun g118 => ?_) (fun g119 => ?_)
              · exact False.elim (by omega)
              · exact False.elim (by omega)
              · refine pw_ifF rfl (by decide) (show ¬ (¬ 0 = 0) by decide) ?_
                refine pw_steps 1 (s' := (54, [some (.ref 47), some (.int (ei_ (a))), some (.int (ei_ (b))), none], [.int (ei_ ((-1)))], m)) rfl ?_
                refine pw_iret rfl rfl rfl ?_
                exact ⟨(-1), rfl, rfl, hR⟩
          · exact False.elim (by omega)
          · refine pw_iret rfl rfl rfl ?_
            refine pw_ifT rfl (by decide) (show 0 = 0 by decide) ?_
            refine pw_steps 1 (s' := (54, [some (.ref 47), some (.int (ei_ (a))), some (.int (ei_ (b))), none], [.int (ei_ ((-1)))], m)) rfl ?_
            refine pw_iret rfl rfl rfl ?_
            exact ⟨(-1), rfl, rfl, hR⟩
        · exact False.elim (by omega)
        · refine pw_iret rfl rfl rfl ?_
          refine pw_ifT rfl (by decide) (show 0 = 0 by decide) ?_
          refine pw_steps 1 (s' := (54, [some (.ref 47), some (.int (ei_ (a))), some (.int (ei_ (b))), none], [.int (ei_ ((-1)))], m)) rfl ?_
          refine pw_iret rfl rfl rfl ?_
          exact ⟨(-1), rfl, rfl, hR⟩

