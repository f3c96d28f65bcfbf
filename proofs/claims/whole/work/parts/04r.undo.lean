
/-! ===== undo, redo ===== -/
theorem rP_up {m m2 : am_M} {pl v : Int} (hp : rP_ m) (h1 : vi_ m2 1 1 = vi_ m 1 1) (h47 : vi_ m2 47 6 = vi_ m 47 6) (h2 : ∀ j, 0 ≤ j → vi_ m2 2 j = if j = pl then v else vi_ m 2 j) (h48 : ∀ j, 0 ≤ j → vi_ m2 48 j = if j = pl then v else vi_ m 48 j) (hv : 0 ≤ v ∧ v ≤ 9) (hh : ∀ j, vi_ m 1 1 ≤ j → j < 8 → ¬ pl = 24 + j) : rP_ m2 := by
  obtain ⟨p1, p2, p3, p4⟩ := hp
  refine ⟨by rw [h1]; exact p1, by rw [h1, h47]; exact p2, fun j a b => ?_, fun j a b => ?_⟩
  · rw [h2 j a, h48 j a]
    by_cases e : j = pl
    · rw [if_pos e, if_pos e]; exact ⟨hv.1, hv.2, rfl⟩
    · rw [if_neg e, if_neg e]; exact p3 j a b
  · rw [h1] at a
    rw [h2 _ (by omega), if_neg (fun e => hh j a b e.symm)]
    exact p4 j a b
theorem rC_dn {P : Nat → Nat → Bool} {m m2 : am_M} {d : Int} (h : sm_ P m m2) (hc : rC_ m) (e1 : P 1 1 = false) (e2 : P 47 4 = false) (e3 : P 24 5 = false) (e25 : ∀ j, P 25 j = false) (e26 : ∀ j, P 26 j = false) (e27 : ∀ j, P 27 j = false) (e28 : ∀ j, P 28 j = false) (e49 : ∀ j, P 49 j = false) (e50 : ∀ j, P 50 j = false) (e51 : ∀ j, P 51 j = false) (h1 : vi_ m2 24 4 = d) (h2 : vi_ m2 47 5 = d) (hd : 0 ≤ d ∧ d ≤ vi_ m 24 5) : rC_ m2 := by
  obtain ⟨c1, c2, c3, c4⟩ := hc
  unfold rC_
  rw [h1, h2, sm_v h (k := 47) (j := 4) e2, sm_v h (k := 24) (j := 5) e3, sm_v h (k := 1) (j := 1) e1, sm_f h e25, sm_f h e26, sm_f h e27, sm_f h e28, sm_f h e49, sm_f h e50, sm_f h e51]
  exact ⟨rfl, c2, ⟨hd.1, hd.2, c3.2.2⟩, c4⟩

set_option maxHeartbeats 4000000 in
set_option maxRecDepth 20000 in
theorem cw_tell {q : am_X} {d : Nat} {m : am_M} {Q : Option Value → am_M → Prop} {number : Int} {what : Int} {v : Int} {P : Int} (p0 : vi_ m 1 1 = P) (p1 : 0 ≤ P ∧ P ≤ 8) (p2 : (0 ≤ what ∧ what ≤ 3 ∧ 0 ≤ number ∧ number < P) ∨ (4 ≤ what ∧ what ≤ 5 ∧ number = 0)) (p3 : -2147483648 ≤ v ∧ v < 2147483648) (p4 : -2147483648 ≤ number ∧ number < 2147483648) (p5 : -2147483648 ≤ what ∧ what < 2147483648) (k0 : ∀ (pl : Int), ((0 ≤ what ∧ what ≤ 3 ∧ pl = 8 * what + number) ∨ (4 ≤ what ∧ what ≤ 5 ∧ pl = 28 + what)) → Q none (wi_ m 2 (pl) (v))) : pw_C q (d + 4) 4 [.ref 1, .int (ei_ (number)), .int (ei_ (what)), .int (ei_ (v))] m Q := by
  refine pw_intro (I := iX3_tell) (T := tX3_tell) rfl rfl rfl ?_
  rcases p2 with hv_ | hv_
  · refine pw_steps 3 (s' := (3, [some (.ref 1), some (.int (ei_ (number))), some (.int (ei_ (what))), some (.int (ei_ (v)))], [.int (ei_ (what)), .int (ei_ (number)), .ref 1], m)) rfl ?_
    refine pw_call (As := [.int (ei_ (number)), .int (ei_ (what))]) (st := []) (k := 1) rfl rfl rfl rfl rfl (Nat.le_of_ble_eq_true rfl) ?_
    refine pw_intro (I := iX3_tells) (T := tX3_tells) rfl rfl rfl ?_
    refine pw_steps 1 (s' := (1, [some (.ref 1), some (.int (ei_ (number))), some (.int (ei_ (what)))], [.int (ei_ (what))], m)) rfl ?_
    refine pw_ifF rfl p5 (show ¬ (what < 0) by omega) ?_
    refine pw_steps 2 (s' := (6, [some (.ref 1), some (.int (ei_ (number))), some (.int (ei_ (what)))], [.int (ei_ (5)), .int (ei_ (what))], m)) rfl ?_
    refine pw_cmpT rfl p5 (by decide) (show what ≤ 5 by omega) ?_
    refine pw_steps 2 (s' := (13, [some (.ref 1), some (.int (ei_ (number))), some (.int (ei_ (what)))], [.int (ei_ (4)), .int (ei_ (what))], m)) rfl ?_
    refine pw_cmpF rfl p5 (by decide) (show ¬ (4 ≤ what) by omega) ?_
    refine pw_steps 2 (s' := (18, [some (.ref 1), some (.int (ei_ (number))), some (.int (ei_ (what)))], [.int (ei_ (number)), .ref 1], m)) rfl ?_
    refine pw_call (As := [.int (ei_ (number))]) (st := []) (k := 1) rfl rfl rfl rfl rfl (Nat.le_of_ble_eq_true rfl) ?_
    refine pw_intro (I := iX3_has) (T := tX3_has) rfl rfl rfl ?_
    refine pw_steps 1 (s' := (1, [some (.ref 1), some (.int (ei_ (number)))], [.int (ei_ (number))], m)) rfl ?_
    refine pw_ifF rfl p4 (show ¬ (number < 0) by omega) ?_
    refine pw_steps 2 (s' := (6, [some (.ref 1), some (.int (ei_ (number)))], [.ref 1, .int (ei_ (number))], m)) rfl ?_
    refine pw_get rfl rfl (fun x1 (hx1 : x1 = vi_ m 1 1) rx1 sx1 => ?_)
    replace hx1 : x1 = P := hx1.trans p0
    subst x1
    refine pw_cmpF rfl p4 ⟨rx1, sx1⟩ (show ¬ (P ≤ number) by omega) ?_
    refine pw_steps 2 (s' := (17, [some (.ref 1), some (.int (ei_ (number)))], [.int (ei_ (1))], m)) rfl ?_
    refine pw_iret rfl rfl rfl ?_
    refine pw_steps 1 (s' := (33, [some (.ref 1), some (.int (ei_ (number))), some (.int (ei_ (what)))], [.int (ei_ (1))], m)) rfl ?_
    refine pw_iret rfl rfl rfl ?_
    refine pw_ifF rfl (by decide) (show ¬ (1 = 0) by decide) ?_
    refine pw_steps 4 (s' := (15, [some (.ref 1), some (.int (ei_ (number))), some (.int (ei_ (what))), some (.int (ei_ (v)))], [.int (ei_ (what)), .int (ei_ (number)), .ref 2], m)) rfl ?_
    refine pw_callS (As := [.int (ei_ (number)), .int (ei_ (what))]) (st := [.ref 2]) rfl (by decide) rfl rfl (Nat.le_of_ble_eq_true rfl) ?_
    refine pw_intro (I := iX3_placeOf) (T := tX3_placeOf) rfl rfl rfl ?_
    refine pw_steps 2 (s' := (2, [some (.int (ei_ (number))), some (.int (ei_ (what)))], [.int (ei_ (4)), .int (ei_ (what))], m)) rfl ?_
    refine pw_cmpF rfl p5 (by decide) (show ¬ (4 ≤ what) by omega) ?_
    refine pw_steps 6 (s' := (20, [some (.int (ei_ (number))), some (.int (ei_ (what)))], [.int (((ei_ (what)) * (ei_ (8))) + (ei_ (number)))], m)) rfl ?_
    refine pw_cv (congrArg (fun z_ : Int32 => ((20, [some (.int (ei_ (number))), some (.int (ei_ (what)))], [.int z_], m) : am_S)) (ei_add (ei_mul rfl rfl) rfl)) ?_
    refine pw_iret rfl rfl rfl ?_
    refine pw_steps 1 (s' := (19, [some (.ref 1), some (.int (ei_ (number))), some (.int (ei_ (what))), some (.int (ei_ (v)))], [.int (ei_ (v)), .int (ei_ (((what * 8) + number))), .ref 2], m)) rfl ?_
    refine pw_ist rfl rfl (by omega) ?_
    refine pw_vret rfl rfl ?_
    exact k0 ((what * 8) + number) (by omega)
  · refine pw_steps 3 (s' := (3, [some (.ref 1), some (.int (ei_ (number))), some (.int (ei_ (what))), some (.int (ei_ (v)))], [.int (ei_ (what)), .int (ei_ (number)), .ref 1], m)) rfl ?_
    refine pw_call (As := [.int (ei_ (number)), .int (ei_ (what))]) (st := []) (k := 1) rfl rfl rfl rfl rfl (Nat.le_of_ble_eq_true rfl) ?_
    refine pw_intro (I := iX3_tells) (T := tX3_tells) rfl rfl rfl ?_
    refine pw_steps 1 (s' := (1, [some (.ref 1), some (.int (ei_ (number))), some (.int (ei_ (what)))], [.int (ei_ (what))], m)) rfl ?_
    refine pw_ifF rfl p5 (show ¬ (what < 0) by omega) ?_
    refine pw_steps 2 (s' := (6, [some (.ref 1), some (.int (ei_ (number))), some (.int (ei_ (what)))], [.int (ei_ (5)), .int (ei_ (what))], m)) rfl ?_
    refine pw_cmpT rfl p5 (by decide) (show what ≤ 5 by omega) ?_
    refine pw_steps 2 (s' := (13, [some (.ref 1), some (.int (ei_ (number))), some (.int (ei_ (what)))], [.int (ei_ (4)), .int (ei_ (what))], m)) rfl ?_
    refine pw_cmpT rfl p5 (by decide) (show 4 ≤ what by omega) ?_
    refine pw_steps 1 (s' := (25, [some (.ref 1), some (.int (ei_ (number))), some (.int (ei_ (what)))], [.int (ei_ (number))], m)) rfl ?_
    refine pw_ifF rfl p4 (show ¬ (¬ number = 0) by omega) ?_
    refine pw_steps 2 (s' := (33, [some (.ref 1), some (.int (ei_ (number))), some (.int (ei_ (what)))], [.int (ei_ (1))], m)) rfl ?_
    refine pw_iret rfl rfl rfl ?_
    refine pw_ifF rfl (by decide) (show ¬ (1 = 0) by decide) ?_
    refine pw_steps 4 (s' := (15, [some (.ref 1), some (.int (ei_ (number))), some (.int (ei_ (what))), some (.int (ei_ (v)))], [.int (ei_ (what)), .int (ei_ (number)), .ref 2], m)) rfl ?_
    refine pw_callS (As := [.int (ei_ (number)), .int (ei_ (what))]) (st := [.ref 2]) rfl (by decide) rfl rfl (Nat.le_of_ble_eq_true rfl) ?_
    refine pw_intro (I := iX3_placeOf) (T := tX3_placeOf) rfl rfl rfl ?_
    refine pw_steps 2 (s' := (2, [some (.int (ei_ (number))), some (.int (ei_ (what)))], [.int (ei_ (4)), .int (ei_ (what))], m)) rfl ?_
    refine pw_cmpT rfl p5 (by decide) (show 4 ≤ what by omega) ?_
    refine pw_steps 5 (s' := (20, [some (.int (ei_ (number))), some (.int (ei_ (what)))], [.int (((ei_ (32)) + (ei_ (what))) - (ei_ (4)))], m)) rfl ?_
    refine pw_cv (congrArg (fun z_ : Int32 => ((20, [some (.int (ei_ (number))), some (.int (ei_ (what)))], [.int z_], m) : am_S)) (ei_sub (ei_add rfl rfl) rfl)) ?_
    refine pw_iret rfl rfl rfl ?_
    refine pw_steps 1 (s' := (19, [some (.ref 1), some (.int (ei_ (number))), some (.int (ei_ (what))), some (.int (ei_ (v)))], [.int (ei_ (v)), .int (ei_ (((32 + what) - 4))), .ref 2], m)) rfl ?_
    refine pw_ist rfl rfl (by omega) ?_
    refine pw_vret rfl rfl ?_
    exact k0 ((32 + what) - 4) (by omega)

def pUnd (k j : Nat) : Bool := (k == 24 && j == 4) || k == 2 || (k == 47 && j == 5) || k == 48
set_option maxHeartbeats 4000000 in
set_option maxRecDepth 20000 in
theorem op_undo {q : am_X} {d : Nat} {m : am_M}   (hR : rR_ m) : pw_C q (d + 60) 126 [.ref 0] m (fun r1 m1 => pw_C q (d + 60) 173 [.ref 47] m1 (fun r2 m2 => ∃ x : Int, r1 = some (.int (ei_ x)) ∧ r2 = some (.int (ei_ x)) ∧ rR_ m2)) := by
  obtain ⟨hp, hd, hi, ht, hl, hz, hc, ha, hs⟩ := id hR
  obtain ⟨hP1, hP2, hP3, hP4⟩ := id hp
  have hmw := mW_of hp hd
  have hmf := mF_of hp hd
  obtain ⟨hc1, hc2, hc3, hc4⟩ := id hc
  refine pw_intro (I := iX8_undo) (T := tX8_undo) rfl rfl rfl ?_
  refine pw_steps 2 (s' := (4, [some (.ref 0)], [.ref 24], m)) rfl ?_
  refine pw_call (As := []) (st := []) (k := 24) rfl rfl rfl rfl rfl (Nat.le_of_ble_eq_true rfl) ?_
  refine pw_intro (I := iX1_mayGoBack) (T := tX1_mayGoBack) rfl rfl rfl ?_
  refine pw_steps 1 (s' := (1, [some (.ref 24)], [.ref 24], m)) rfl ?_
  refine pw_get rfl rfl (fun x1 (hx1 : x1 = vi_ m 24 4) rx1 sx1 => ?_)
  refine pw_iret rfl rfl rfl ?_
  refine pw_if rfl ⟨rx1, sx1⟩ (fun (h2 : ¬ x1 = 0) => ?_) (fun (h2 : ¬ ¬ x1 = 0) => ?_)
  · refine pw_steps 4 (s' := (23, [some (.ref 0)], [.ref 1, .ref 24], m)) rfl ?_
    refine pw_call (As := [.ref 1]) (st := []) (k := 24) rfl rfl rfl rfl rfl (Nat.le_of_ble_eq_true rfl) ?_
    refine pw_intro (I := iX1_goBack) (T := tX1_goBack) rfl rfl rfl ?_
    refine pw_steps 1 (s' := (1, [some (.ref 24), some (.ref 1)], [.ref 24], m)) rfl ?_
    refine pw_getE (x := x1) rfl rfl hx1 ?_
    refine pw_ifF rfl ⟨rx1, sx1⟩ (show ¬ (x1 ≤ 0) by omega) ?_
    refine pw_steps 2 (s' := (9, [some (.ref 24), some (.ref 1)], [.ref 24, .ref 24], m)) rfl ?_
    refine pw_getE (x := x1) rfl rfl hx1 ?_
    refine pw_steps 2 (s' := (14, [some (.ref 24), some (.ref 1)], [.int ((ei_ (x1)) - (ei_ (1))), .ref 24], m)) rfl ?_
    refine pw_cv (congrArg (fun z_ : Int32 => ((14, [some (.ref 24), some (.ref 1)], [.int z_, .ref 24], m) : am_S)) (ei_sub rfl rfl)) ?_
    refine pw_put (v := (x1 - 1)) rfl rfl (Or.inl rfl) ?_
    refine pw_cv (s' := (17, [some (.ref 24), some (.ref 1)], [], wi_ m 24 (4) ((x1 - 1)))) rfl ?_
    refine pw_steps 5 (s' := (26, [some (.ref 24), some (.ref 1)], [.int (ei_ ((x1 - 1))), .ref 25, .ref 1], wi_ m 24 (4) ((x1 - 1)))) rfl ?_
    refine pw_ild rfl rfl (by omega) (fun x3 (hx3 : x3 = vi_ m 25 (x1 - 1)) rx3 sx3 => ?_)
    have b4 := hc4 (x1 - 1) (by omega) (by omega)
    refine pw_steps 4 (s' := (35, [some (.ref 24), some (.ref 1)], [.int (ei_ ((x1 - 1))), .ref 26, .int (ei_ (x3)), .ref 1], wi_ m 24 (4) ((x1 - 1)))) rfl ?_
    refine pw_ild rfl rfl (by omega) (fun x5 (hx5 : x5 = vi_ m 26 (x1 - 1)) rx5 sx5 => ?_)
    have b6 := hc4 (x1 - 1) (by omega) (by omega)
    refine pw_steps 4 (s' := (44, [some (.ref 24), some (.ref 1)], [.int (ei_ ((x1 - 1))), .ref 27, .int (ei_ (x5)), .int (ei_ (x3)), .ref 1], wi_ m 24 (4) ((x1 - 1)))) rfl ?_
    refine pw_ild rfl rfl (by omega) (fun x7 (hx7 : x7 = vi_ m 27 (x1 - 1)) rx7 sx7 => ?_)
    have b8 := hc4 (x1 - 1) (by omega) (by omega)
    refine pw_call (As := [.int (ei_ (x3)), .int (ei_ (x5)), .int (ei_ (x7))]) (st := []) (k := 1) rfl rfl rfl rfl rfl (Nat.le_of_ble_eq_true rfl) ?_
    refine cw_tell (P := (vi_ m 1 1)) (rfl) (by omega) (by omega) (by omega) (by omega) (by omega) (fun pl9 g10 => ?_)
    refine pw_steps 2 (s' := (52, [some (.ref 24), some (.ref 1)], [.int (ei_ ((x1 - 1)))], wi_ (wi_ m 24 (4) ((x1 - 1))) 2 (pl9) (x7))) rfl ?_
    refine pw_iret rfl rfl rfl ?_
    refine pw_iret rfl rfl rfl ?_
    refine pw_intro (I := iX9_undo) (T := tX9_undo) rfl rfl rfl ?_
    refine pw_steps 1 (s' := (1, [some (.ref 47)], [.ref 47], wi_ (wi_ m 24 (4) ((x1 - 1))) 2 (pl9) (x7))) rfl ?_
    refine pw_get rfl rfl (fun x11 (hx11 : x11 = vi_ m 47 5) rx11 sx11 => ?_)
    replace hx11 : x11 = vi_ m 24 4 := hx11.trans hc1
    replace hx11 : x11 = x1 := hx11.trans hx1.symm
    subst x11
    refine pw_ifT rfl ⟨rx1, sx1⟩ (show ¬ x1 = 0 by omega) ?_
    refine pw_steps 2 (s' := (12, [some (.ref 47)], [.ref 47, .ref 47], wi_ (wi_ m 24 (4) ((x1 - 1))) 2 (pl9) (x7))) rfl ?_
    refine pw_get rfl rfl (fun x12 (hx12 : x12 = vi_ m 47 5) rx12 sx12 => ?_)
    replace hx12 : x12 = vi_ m 24 4 := hx12.trans hc1
    replace hx12 : x12 = x1 := hx12.trans hx1.symm
    subst x12
    refine pw_steps 2 (s' := (17, [some (.ref 47)], [.int ((ei_ (x1)) - (ei_ (1))), .ref 47], wi_ (wi_ m 24 (4) ((x1 - 1))) 2 (pl9) (x7))) rfl ?_
    refine pw_cv (congrArg (fun z_ : Int32 => ((17, [some (.ref 47)], [.int z_, .ref 47], wi_ (wi_ m 24 (4) ((x1 - 1))) 2 (pl9) (x7)) : am_S)) (ei_sub rfl rfl)) ?_
    refine pw_put (v := (x1 - 1)) rfl rfl (Or.inl rfl) ?_
    refine pw_cv (s' := (20, [some (.ref 47)], [], wi_ (wi_ (wi_ m 24 (4) ((x1 - 1))) 2 (pl9) (x7)) 47 (5) ((x1 - 1)))) rfl ?_
    refine pw_steps 6 (s' := (32, [some (.ref 47)], [.int (ei_ ((x1 - 1))), .ref 49, .ref 48], wi_ (wi_ (wi_ m 24 (4) ((x1 - 1))) 2 (pl9) (x7)) 47 (5) ((x1 - 1)))) rfl ?_
    refine pw_ild rfl rfl (by omega) (fun x13 (hx13 : x13 = vi_ m 49 (x1 - 1)) rx13 sx13 => ?_)
    have b14 := hc4 (x1 - 1) (by omega) (by omega)
    refine pw_steps 4 (s' := (41, [some (.ref 47)], [.int (ei_ ((x1 - 1))), .ref 50, .int (ei_ (x13)), .ref 48], wi_ (wi_ (wi_ m 24 (4) ((x1 - 1))) 2 (pl9) (x7)) 47 (5) ((x1 - 1)))) rfl ?_
    refine pw_ild rfl rfl (by omega) (fun x15 (hx15 : x15 = vi_ m 50 (x1 - 1)) rx15 sx15 => ?_)
    have b16 := hc4 (x1 - 1) (by omega) (by omega)
    refine pw_ist rfl rfl (by omega) ?_
    refine pw_steps 2 (s' := (47, [some (.ref 47)], [.int (ei_ ((x1 - 1)))], wi_ (wi_ (wi_ (wi_ m 24 (4) ((x1 - 1))) 2 (pl9) (x7)) 47 (5) ((x1 - 1))) 48 (x13) (x15))) rfl ?_
    refine pw_iret rfl rfl rfl ?_
    have hsm_ : sm_ pUnd m (wi_ (wi_ (wi_ (wi_ m 24 (4) ((x1 - 1))) 2 (pl9) (x7)) 47 (5) ((x1 - 1))) 48 (x13) (x15)) := (sm_w (sm_w (sm_w (sm_w (sm_rfl m) (fun _ h_ => by rw [h_]; rfl)) (fun _ h_ => by rw [h_]; rfl)) (fun _ h_ => by rw [h_]; rfl)) (fun _ h_ => by rw [h_]; rfl))
    have hpl_ : x13 = pl9 := by omega
    have hvv_ : x15 = x7 := by omega
    have hP_ : rP_ (wi_ (wi_ (wi_ (wi_ m 24 (4) ((x1 - 1))) 2 (pl9) (x7)) 47 (5) ((x1 - 1))) 48 (x13) (x15)) := by
      refine rP_up (pl := pl9) (v := x7) hp rfl rfl (fun j a_ => ?_) (fun j a_ => ?_) (by omega) (fun j a_ b_ => by omega)
      · simp (disch := omega) only [vi_up, vi_ne]
      · simp (disch := omega) only [vi_up, vi_ne]; rw [hpl_, hvv_]
    have hC_ : rC_ (wi_ (wi_ (wi_ (wi_ m 24 (4) ((x1 - 1))) 2 (pl9) (x7)) 47 (5) ((x1 - 1))) 48 (x13) (x15)) := rC_dn (d := (x1 - 1)) hsm_ hc rfl rfl rfl (fun _ => rfl) (fun _ => rfl) (fun _ => rfl) (fun _ => rfl) (fun _ => rfl) (fun _ => rfl) (fun _ => rfl) (ei_i (by omega)) (((ei_i (by omega))).trans (by omega)) (by omega)
    exact ⟨(x1 - 1), rfl, rfl, ⟨hP_, rD_fr hsm_ rfl (fun _ => rfl) (fun _ => rfl) (fun _ => rfl) (fun _ => rfl) (fun _ => rfl) (fun _ => rfl) rfl rfl rfl rfl rfl rfl hd, rI_fr hsm_ rfl rfl rfl rfl (fun _ => rfl) (fun _ => rfl) (fun _ => rfl) (fun _ => rfl) (fun _ => rfl) (fun _ => rfl) (fun _ => rfl) rfl rfl rfl hi, rT_fr hsm_ rfl rfl (fun _ => rfl) (fun _ => rfl) ht, rL_fr hsm_ rfl rfl (fun _ => rfl) (fun _ => rfl) hl, rZ_fr hsm_ rfl hz, hC_, rA_fr hsm_ rfl rfl (fun _ => rfl) (fun _ => rfl) rfl rfl (fun _ => rfl) (fun _ => rfl) ha, rS_fr hsm_ (fun _ => rfl) (fun _ => rfl) rfl (fun d_ a_ b_ => by rcases sf_six ⟨a_, b_⟩ with h_ | h_ | h_ | h_ | h_ | h_ <;> subst h_ <;> exact ⟨rfl, rfl, rfl⟩) hs⟩⟩
  · refine pw_steps 2 (s' := (26, [some (.ref 0)], [.int (ei_ ((-5)))], m)) rfl ?_
    refine pw_iret rfl rfl rfl ?_
    refine pw_intro (I := iX9_undo) (T := tX9_undo) rfl rfl rfl ?_
    refine pw_steps 1 (s' := (1, [some (.ref 47)], [.ref 47], m)) rfl ?_
    refine pw_get rfl rfl (fun x17 (hx17 : x17 = vi_ m 47 5) rx17 sx17 => ?_)
    replace hx17 : x17 = vi_ m 24 4 := hx17.trans hc1
    replace hx17 : x17 = x1 := hx17.trans hx1.symm
    subst x17
    refine pw_ifF rfl ⟨rx1, sx1⟩ (show ¬ (¬ x1 = 0) by omega) ?_
    refine pw_steps 1 (s' := (9, [some (.ref 47)], [.int (ei_ ((-5)))], m)) rfl ?_
    refine pw_iret rfl rfl rfl ?_
    exact ⟨(-5), rfl, rfl, hR⟩

set_option maxHeartbeats 4000000 in
set_option maxRecDepth 20000 in
theorem op_redo {q : am_X} {d : Nat} {m : am_M}   (hR : rR_ m) : pw_C q (d + 60) 129 [.ref 0] m (fun r1 m1 => pw_C q (d + 60) 174 [.ref 47] m1 (fun r2 m2 => ∃ x : Int, r1 = some (.int (ei_ x)) ∧ r2 = some (.int (ei_ x)) ∧ rR_ m2)) := by
  obtain ⟨hp, hd, hi, ht, hl, hz, hc, ha, hs⟩ := id hR
  obtain ⟨hP1, hP2, hP3, hP4⟩ := id hp
  have hmw := mW_of hp hd
  have hmf := mF_of hp hd
  obtain ⟨hc1, hc2, hc3, hc4⟩ := id hc
  refine pw_intro (I := iX8_redo) (T := tX8_redo) rfl rfl rfl ?_
  refine pw_steps 2 (s' := (4, [some (.ref 0)], [.ref 24], m)) rfl ?_
  refine pw_call (As := []) (st := []) (k := 24) rfl rfl rfl rfl rfl (Nat.le_of_ble_eq_true rfl) ?_
  refine pw_intro (I := iX1_mayGoOn) (T := tX1_mayGoOn) rfl rfl rfl ?_
  refine pw_steps 1 (s' := (1, [some (.ref 24)], [.ref 24], m)) rfl ?_
  refine pw_get rfl rfl (fun x1 (hx1 : x1 = vi_ m 24 5) rx1 sx1 => ?_)
  refine pw_steps 1 (s' := (5, [some (.ref 24)], [.ref 24, .int (ei_ (x1))], m)) rfl ?_
  refine pw_get rfl rfl (fun x2 (hx2 : x2 = vi_ m 24 4) rx2 sx2 => ?_)
  refine pw_steps 1 (s' := (9, [some (.ref 24)], [.int ((ei_ (x1)) - (ei_ (x2)))], m)) rfl ?_
  refine pw_cv (congrArg (fun z_ : Int32 => ((9, [some (.ref 24)], [.int z_], m) : am_S)) (ei_sub rfl rfl)) ?_
  refine pw_iret rfl rfl rfl ?_
  refine pw_if rfl (by omega) (fun (h3 : ¬ (x1 - x2) = 0) => ?_) (fun (h3 : ¬ ¬ (x1 - x2) = 0) => ?_)
  · refine pw_steps 4 (s' := (23, [some (.ref 0)], [.ref 1, .ref 24], m)) rfl ?_
    refine pw_call (As := [.ref 1]) (st := []) (k := 24) rfl rfl rfl rfl rfl (Nat.le_of_ble_eq_true rfl) ?_
    refine pw_intro (I := iX1_goOn) (T := tX1_goOn) rfl rfl rfl ?_
    refine pw_steps 1 (s' := (1, [some (.ref 24), some (.ref 1)], [.ref 24], m)) rfl ?_
    refine pw_getE (x := x2) rfl rfl hx2 ?_
    refine pw_steps 1 (s' := (5, [some (.ref 24), some (.ref 1)], [.ref 24, .int (ei_ (x2))], m)) rfl ?_
    refine pw_getE (x := x1) rfl rfl hx1 ?_
    refine pw_cmpF rfl ⟨rx2, sx2⟩ ⟨rx1, sx1⟩ (show ¬ (x1 ≤ x2) by omega) ?_
    refine pw_steps 4 (s' := (17, [some (.ref 24), some (.ref 1)], [.ref 24, .ref 25, .ref 1], m)) rfl ?_
    refine pw_getE (x := x2) rfl rfl hx2 ?_
    refine pw_ild rfl rfl (by omega) (fun x4 (hx4 : x4 = vi_ m 25 x2) rx4 sx4 => ?_)
    have b5 := hc4 x2 (by omega) (by omega)
    refine pw_steps 3 (s' := (26, [some (.ref 24), some (.ref 1)], [.ref 24, .ref 26, .int (ei_ (x4)), .ref 1], m)) rfl ?_
    refine pw_getE (x := x2) rfl rfl hx2 ?_
    refine pw_ild rfl rfl (by omega) (fun x6 (hx6 : x6 = vi_ m 26 x2) rx6 sx6 => ?_)
    have b7 := hc4 x2 (by omega) (by omega)
    refine pw_steps 3 (s' := (35, [some (.ref 24), some (.ref 1)], [.ref 24, .ref 28, .int (ei_ (x6)), .int (ei_ (x4)), .ref 1], m)) rfl ?_
    refine pw_getE (x := x2) rfl rfl hx2 ?_
    refine pw_ild rfl rfl (by omega) (fun x8 (hx8 : x8 = vi_ m 28 x2) rx8 sx8 => ?_)
    have b9 := hc4 x2 (by omega) (by omega)
    refine pw_call (As := [.int (ei_ (x4)), .int (ei_ (x6)), .int (ei_ (x8))]) (st := []) (k := 1) rfl rfl rfl rfl rfl (Nat.le_of_ble_eq_true rfl) ?_
    refine cw_tell (P := (vi_ m 1 1)) (rfl) (by omega) (by omega) (by omega) (by omega) (by omega) (fun pl10 g11 => ?_)
    refine pw_steps 2 (s' := (44, [some (.ref 24), some (.ref 1)], [.ref 24, .ref 24], wi_ m 2 (pl10) (x8))) rfl ?_
    refine pw_getE (x := x2) rfl rfl hx2 ?_
    refine pw_steps 2 (s' := (49, [some (.ref 24), some (.ref 1)], [.int ((ei_ (x2)) + (ei_ (1))), .ref 24], wi_ m 2 (pl10) (x8))) rfl ?_
    refine pw_cv (congrArg (fun z_ : Int32 => ((49, [some (.ref 24), some (.ref 1)], [.int z_, .ref 24], wi_ m 2 (pl10) (x8)) : am_S)) (ei_add rfl rfl)) ?_
    refine pw_put (v := (x2 + 1)) rfl rfl (Or.inl rfl) ?_
    refine pw_cv (s' := (52, [some (.ref 24), some (.ref 1)], [], wi_ (wi_ m 2 (pl10) (x8)) 24 (4) ((x2 + 1)))) rfl ?_
    refine pw_steps 1 (s' := (53, [some (.ref 24), some (.ref 1)], [.ref 24], wi_ (wi_ m 2 (pl10) (x8)) 24 (4) ((x2 + 1)))) rfl ?_
    refine pw_getE (x := x1) rfl rfl hx1 ?_
    refine pw_steps 3 (s' := (61, [some (.ref 24), some (.ref 1)], [.int ((ei_ (x1)) - (ei_ ((x2 + 1))))], wi_ (wi_ m 2 (pl10) (x8)) 24 (4) ((x2 + 1)))) rfl ?_
    refine pw_cv (congrArg (fun z_ : Int32 => ((61, [some (.ref 24), some (.ref 1)], [.int z_], wi_ (wi_ m 2 (pl10) (x8)) 24 (4) ((x2 + 1))) : am_S)) (ei_sub rfl rfl)) ?_
    refine pw_iret rfl rfl rfl ?_
    refine pw_iret rfl rfl rfl ?_
    refine pw_intro (I := iX9_redo) (T := tX9_redo) rfl rfl rfl ?_
    refine pw_steps 1 (s' := (1, [some (.ref 47)], [.ref 47], wi_ (wi_ m 2 (pl10) (x8)) 24 (4) ((x2 + 1)))) rfl ?_
    refine pw_get rfl rfl (fun x12 (hx12 : x12 = vi_ m 47 5) rx12 sx12 => ?_)
    replace hx12 : x12 = vi_ m 24 4 := hx12.trans hc1
    replace hx12 : x12 = x2 := hx12.trans hx2.symm
    subst x12
    refine pw_steps 1 (s' := (5, [some (.ref 47)], [.ref 47, .int (ei_ (x2))], wi_ (wi_ m 2 (pl10) (x8)) 24 (4) ((x2 + 1)))) rfl ?_
    refine pw_get rfl rfl (fun x13 (hx13 : x13 = vi_ m 47 4) rx13 sx13 => ?_)
    replace hx13 : x13 = vi_ m 24 5 := hx13.trans hc2
    replace hx13 : x13 = x1 := hx13.trans hx1.symm
    subst x13
    refine pw_cmpT rfl ⟨rx2, sx2⟩ ⟨rx1, sx1⟩ (show ¬ x2 = x1 by omega) ?_
    refine pw_steps 5 (s' := (23, [some (.ref 47)], [.ref 47, .ref 49, .ref 48], wi_ (wi_ m 2 (pl10) (x8)) 24 (4) ((x2 + 1)))) rfl ?_
    refine pw_get rfl rfl (fun x14 (hx14 : x14 = vi_ m 47 5) rx14 sx14 => ?_)
    replace hx14 : x14 = vi_ m 24 4 := hx14.trans hc1
    replace hx14 : x14 = x2 := hx14.trans hx2.symm
    subst x14
    refine pw_ild rfl rfl (by omega) (fun x15 (hx15 : x15 = vi_ m 49 x2) rx15 sx15 => ?_)
    have b16 := hc4 x2 (by omega) (by omega)
    refine pw_steps 3 (s' := (32, [some (.ref 47)], [.ref 47, .ref 51, .int (ei_ (x15)), .ref 48], wi_ (wi_ m 2 (pl10) (x8)) 24 (4) ((x2 + 1)))) rfl ?_
    refine pw_get rfl rfl (fun x17 (hx17 : x17 = vi_ m 47 5) rx17 sx17 => ?_)
    replace hx17 : x17 = vi_ m 24 4 := hx17.trans hc1
    replace hx17 : x17 = x2 := hx17.trans hx2.symm
    subst x17
    refine pw_ild rfl rfl (by omega) (fun x18 (hx18 : x18 = vi_ m 51 x2) rx18 sx18 => ?_)
    have b19 := hc4 x2 (by omega) (by omega)
    refine pw_ist rfl rfl (by omega) ?_
    refine pw_steps 2 (s' := (39, [some (.ref 47)], [.ref 47, .ref 47], wi_ (wi_ (wi_ m 2 (pl10) (x8)) 24 (4) ((x2 + 1))) 48 (x15) (x18))) rfl ?_
    refine pw_get rfl rfl (fun x20 (hx20 : x20 = vi_ m 47 5) rx20 sx20 => ?_)
    replace hx20 : x20 = vi_ m 24 4 := hx20.trans hc1
    replace hx20 : x20 = x2 := hx20.trans hx2.symm
    subst x20
    refine pw_steps 2 (s' := (44, [some (.ref 47)], [.int ((ei_ (x2)) + (ei_ (1))), .ref 47], wi_ (wi_ (wi_ m 2 (pl10) (x8)) 24 (4) ((x2 + 1))) 48 (x15) (x18))) rfl ?_
    refine pw_cv (congrArg (fun z_ : Int32 => ((44, [some (.ref 47)], [.int z_, .ref 47], wi_ (wi_ (wi_ m 2 (pl10) (x8)) 24 (4) ((x2 + 1))) 48 (x15) (x18)) : am_S)) (ei_add rfl rfl)) ?_
    refine pw_put (v := (x2 + 1)) rfl rfl (Or.inl rfl) ?_
    refine pw_cv (s' := (47, [some (.ref 47)], [], wi_ (wi_ (wi_ (wi_ m 2 (pl10) (x8)) 24 (4) ((x2 + 1))) 48 (x15) (x18)) 47 (5) ((x2 + 1)))) rfl ?_
    refine pw_steps 1 (s' := (48, [some (.ref 47)], [.ref 47], wi_ (wi_ (wi_ (wi_ m 2 (pl10) (x8)) 24 (4) ((x2 + 1))) 48 (x15) (x18)) 47 (5) ((x2 + 1)))) rfl ?_
    refine pw_get rfl rfl (fun x21 (hx21 : x21 = vi_ m 47 4) rx21 sx21 => ?_)
    replace hx21 : x21 = vi_ m 24 5 := hx21.trans hc2
    replace hx21 : x21 = x1 := hx21.trans hx1.symm
    subst x21
    refine pw_steps 3 (s' := (56, [some (.ref 47)], [.int ((ei_ (x1)) - (ei_ ((x2 + 1))))], wi_ (wi_ (wi_ (wi_ m 2 (pl10) (x8)) 24 (4) ((x2 + 1))) 48 (x15) (x18)) 47 (5) ((x2 + 1)))) rfl ?_
    refine pw_cv (congrArg (fun z_ : Int32 => ((56, [some (.ref 47)], [.int z_], wi_ (wi_ (wi_ (wi_ m 2 (pl10) (x8)) 24 (4) ((x2 + 1))) 48 (x15) (x18)) 47 (5) ((x2 + 1))) : am_S)) (ei_sub rfl rfl)) ?_
    refine pw_iret rfl rfl rfl ?_
    have hsm_ : sm_ pUnd m (wi_ (wi_ (wi_ (wi_ m 2 (pl10) (x8)) 24 (4) ((x2 + 1))) 48 (x15) (x18)) 47 (5) ((x2 + 1))) := (sm_w (sm_w (sm_w (sm_w (sm_rfl m) (fun _ h_ => by rw [h_]; rfl)) (fun _ h_ => by rw [h_]; rfl)) (fun _ h_ => by rw [h_]; rfl)) (fun _ h_ => by rw [h_]; rfl))
    have hpl_ : x15 = pl10 := by omega
    have hvv_ : x18 = x8 := by omega
    have hP_ : rP_ (wi_ (wi_ (wi_ (wi_ m 2 (pl10) (x8)) 24 (4) ((x2 + 1))) 48 (x15) (x18)) 47 (5) ((x2 + 1))) := by
      refine rP_up (pl := pl10) (v := x8) hp rfl rfl (fun j a_ => ?_) (fun j a_ => ?_) (by omega) (fun j a_ b_ => by omega)
      · simp (disch := omega) only [vi_up, vi_ne]
      · simp (disch := omega) only [vi_up, vi_ne]; rw [hpl_, hvv_]
    have hC_ : rC_ (wi_ (wi_ (wi_ (wi_ m 2 (pl10) (x8)) 24 (4) ((x2 + 1))) 48 (x15) (x18)) 47 (5) ((x2 + 1))) := rC_dn (d := (x2 + 1)) hsm_ hc rfl rfl rfl (fun _ => rfl) (fun _ => rfl) (fun _ => rfl) (fun _ => rfl) (fun _ => rfl) (fun _ => rfl) (fun _ => rfl) (ei_i (by omega)) (((ei_i (by omega))).trans (by omega)) (by omega)
    exact ⟨(x1 - (x2 + 1)), rfl, rfl, ⟨hP_, rD_fr hsm_ rfl (fun _ => rfl) (fun _ => rfl) (fun _ => rfl) (fun _ => rfl) (fun _ => rfl) (fun _ => rfl) rfl rfl rfl rfl rfl rfl hd, rI_fr hsm_ rfl rfl rfl rfl (fun _ => rfl) (fun _ => rfl) (fun _ => rfl) (fun _ => rfl) (fun _ => rfl) (fun _ => rfl) (fun _ => rfl) rfl rfl rfl hi, rT_fr hsm_ rfl rfl (fun _ => rfl) (fun _ => rfl) ht, rL_fr hsm_ rfl rfl (fun _ => rfl) (fun _ => rfl) hl, rZ_fr hsm_ rfl hz, hC_, rA_fr hsm_ rfl rfl (fun _ => rfl) (fun _ => rfl) rfl rfl (fun _ => rfl) (fun _ => rfl) ha, rS_fr hsm_ (fun _ => rfl) (fun _ => rfl) rfl (fun d_ a_ b_ => by rcases sf_six ⟨a_, b_⟩ with h_ | h_ | h_ | h_ | h_ | h_ <;> subst h_ <;> exact ⟨rfl, rfl, rfl⟩) hs⟩⟩
  · refine pw_steps 2 (s' := (26, [some (.ref 0)], [.int (ei_ ((-5)))], m)) rfl ?_
    refine pw_iret rfl rfl rfl ?_
    refine pw_intro (I := iX9_redo) (T := tX9_redo) rfl rfl rfl ?_
    refine pw_steps 1 (s' := (1, [some (.ref 47)], [.ref 47], m)) rfl ?_
    refine pw_get rfl rfl (fun x22 (hx22 : x22 = vi_ m 47 5) rx22 sx22 => ?_)
    replace hx22 : x22 = vi_ m 24 4 := hx22.trans hc1
    replace hx22 : x22 = x2 := hx22.trans hx2.symm
    subst x22
    refine pw_steps 1 (s' := (5, [some (.ref 47)], [.ref 47, .int (ei_ (x2))], m)) rfl ?_
    refine pw_get rfl rfl (fun x23 (hx23 : x23 = vi_ m 47 4) rx23 sx23 => ?_)
    replace hx23 : x23 = vi_ m 24 5 := hx23.trans hc2
    replace hx23 : x23 = x1 := hx23.trans hx1.symm
    subst x23
    refine pw_cmpF rfl ⟨rx2, sx2⟩ ⟨rx1, sx1⟩ (show ¬ (¬ x2 = x1) by omega) ?_
    refine pw_steps 1 (s' := (13, [some (.ref 47)], [.int (ei_ ((-5)))], m)) rfl ?_
    refine pw_iret rfl rfl rfl ?_
    exact ⟨(-5), rfl, rfl, hR⟩

