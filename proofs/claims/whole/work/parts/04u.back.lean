/-! ===== back ===== -/
def pMk (k j : Nat) : Bool := k == 52 || k == 53 || k == 61 || (k == 47 && j == 26) || (k == 47 && j == 27) || (k == 47 && j == 28)
set_option maxHeartbeats 4000000 in
set_option maxRecDepth 20000 in
theorem ms_back {q : am_X} {d : Nat} {m : am_M} {Q : Option Value → am_M → Prop}   (p0 : 0 ≤ vi_ m 47 6 ∧ vi_ m 47 6 ≤ 8) (p1 : (0 ≤ vi_ m 47 30 ∧ vi_ m 47 30 ≤ 8) ∨ vi_ m 47 29 = 0) (k0 : ∀ (x : Int) (m1 : am_M), (¬ vi_ m 47 29 = 0) → (x = vi_ m 65 0) → (sm_ pMk m m1) → (∀ j, 0 ≤ j → j < vi_ m 47 6 → vi_ m1 52 j = if j < vi_ m 47 30 then vi_ m 62 j else j) → (∀ j, 0 ≤ j → j < vi_ m 47 6 → vi_ m1 53 j = if j < vi_ m 47 30 then vi_ m 63 j else 100) → (∀ j, 0 ≤ j → j < 64 → vi_ m1 61 j = vi_ m 64 j) → (vi_ m1 47 26 = vi_ m 65 0) → (vi_ m1 47 27 = vi_ m 65 1) → (vi_ m1 47 28 = vi_ m 65 2) → Q (some (.int (ei_ (x)))) m1) (k1 : (vi_ m 47 29 = 0) → Q (some (.int (ei_ ((-5))))) m) : pw_C q (d + 2) 243 [.ref 47] m Q := by
  refine pw_intro (I := iX9_back) (T := tX9_back) rfl rfl rfl ?_
  refine pw_steps 1 (s' := (1, [some (.ref 47), none], [.ref 47], m)) rfl ?_
  refine pw_get rfl rfl (fun x1 (hx1 : x1 = vi_ m 47 29) rx1 sx1 => ?_)
  refine pw_if rfl ⟨rx1, sx1⟩ (fun (h2 : ¬ x1 = 0) => ?_) (fun (h2 : ¬ ¬ x1 = 0) => ?_)
  · have h30_ : 0 ≤ vi_ m 47 30 ∧ vi_ m 47 30 ≤ 8 := by omega
    refine pw_steps 2 (s' := (12, [some (.ref 47), some (.int (ei_ (0)))], [], m)) rfl ?_
    have L5 : ∀ (n3 : Nat) (k : Int) (m1 : am_M), (vi_ m 47 6 - k).toNat = n3 → (0 ≤ k ∧ k ≤ vi_ m 47 6) → (sm_ pMk m m1) → (∀ j, 0 ≤ j → j < k → vi_ m1 52 j = if j < vi_ m 47 30 then vi_ m 62 j else j) → (∀ j, 0 ≤ j → j < k → vi_ m1 53 j = if j < vi_ m 47 30 then vi_ m 63 j else 100) → pw_V q (d + 1) iX9_back.2.2.2.1 tX9_back Q (12, [some (.ref 47), some (.int (ei_ (k)))], [], m1) := by
      intro n3
      induction n3 using Nat.strongRecOn with
      | _ n3 ih4 =>
        intro k m1 hm_n3 v6 hs h52 h53
        refine pw_steps 2 (s' := (14, [some (.ref 47), some (.int (ei_ (k)))], [.ref 47, .int (ei_ (k))], m1)) rfl ?_
        refine pw_get rfl rfl (fun x7 (hx7 : x7 = vi_ m1 47 6) rx7 sx7 => ?_)
        have ox7 := hx7
        replace hx7 : x7 = vi_ m 47 6 := hx7.trans (sm_v hs rfl)
        refine pw_cmp rfl (by omega) ⟨rx7, sx7⟩ (fun (h8 : x7 ≤ k) => ?_) (fun (h8 : ¬ (x7 ≤ k)) => ?_)
        · refine pw_steps 2 (s' := (77, [some (.ref 47), some (.int (ei_ (0)))], [], m1)) rfl ?_
          have L11 : ∀ (n9 : Nat) (k2 : Int) (m1 : am_M), (64 - k2).toNat = n9 → (0 ≤ k2 ∧ k2 ≤ 64) → (sm_ pMk m m1) → (∀ j, 0 ≤ j → j < vi_ m 47 6 → vi_ m1 52 j = if j < vi_ m 47 30 then vi_ m 62 j else j) → (∀ j, 0 ≤ j → j < vi_ m 47 6 → vi_ m1 53 j = if j < vi_ m 47 30 then vi_ m 63 j else 100) → (∀ j, 0 ≤ j → j < k2 → vi_ m1 61 j = vi_ m 64 j) → pw_V q (d + 1) iX9_back.2.2.2.1 tX9_back Q (77, [some (.ref 47), some (.int (ei_ (k2)))], [], m1) := by
            intro n9
            induction n9 using Nat.strongRecOn with
            | _ n9 ih10 =>
              intro k2 m1 hm_n9 v12 hs h52 h53 h61
              refine pw_steps 2 (s' := (80, [some (.ref 47), some (.int (ei_ (k2)))], [.int (ei_ (64)), .int (ei_ (k2))], m1)) rfl ?_
              refine pw_cmp rfl (by omega) (by decide) (fun (h13 : 64 ≤ k2) => ?_) (fun (h13 : ¬ (64 ≤ k2)) => ?_)
              · refine pw_steps 4 (s' := (107, [some (.ref 47), some (.int (ei_ (k2)))], [.int (ei_ (0)), .ref 65, .ref 47], m1)) rfl ?_
                refine pw_ild rfl rfl (by omega) (fun x14 (hx14 : x14 = vi_ m1 65 0) rx14 sx14 => ?_)
                have ox14 := hx14
                replace hx14 : x14 = vi_ m 65 0 := hx14.trans (sm_v hs rfl)
                refine pw_put (v := x14) rfl rfl (Or.inl rfl) ?_
                refine pw_cv (s' := (111, [some (.ref 47), some (.int (ei_ (k2)))], [], wi_ m1 47 (26) (x14))) rfl ?_
                refine pw_steps 4 (s' := (117, [some (.ref 47), some (.int (ei_ (k2)))], [.int (ei_ (1)), .ref 65, .ref 47], wi_ m1 47 (26) (x14))) rfl ?_
                refine pw_ild rfl rfl (by omega) (fun x15 (hx15 : x15 = vi_ m1 65 1) rx15 sx15 => ?_)
                have ox15 := hx15
                replace hx15 : x15 = vi_ m 65 1 := hx15.trans (sm_v hs rfl)
                refine pw_put (v := x15) rfl rfl (Or.inl rfl) ?_
                refine pw_cv (s' := (121, [some (.ref 47), some (.int (ei_ (k2)))], [], wi_ (wi_ m1 47 (26) (x14)) 47 (27) (x15))) rfl ?_
                refine pw_steps 4 (s' := (127, [some (.ref 47), some (.int (ei_ (k2)))], [.int (ei_ (2)), .ref 65, .ref 47], wi_ (wi_ m1 47 (26) (x14)) 47 (27) (x15))) rfl ?_
                refine pw_ild rfl rfl (by omega) (fun x16 (hx16 : x16 = vi_ m1 65 2) rx16 sx16 => ?_)
                have ox16 := hx16
                replace hx16 : x16 = vi_ m 65 2 := hx16.trans (sm_v hs rfl)
                refine pw_put (v := x16) rfl rfl (Or.inl rfl) ?_
                refine pw_cv (s' := (131, [some (.ref 47), some (.int (ei_ (k2)))], [], wi_ (wi_ (wi_ m1 47 (26) (x14)) 47 (27) (x15)) 47 (28) (x16))) rfl ?_
                refine pw_steps 2 (s' := (135, [some (.ref 47), some (.int (ei_ (k2)))], [.int (ei_ (x14))], wi_ (wi_ (wi_ m1 47 (26) (x14)) 47 (27) (x15)) 47 (28) (x16))) rfl ?_
                refine pw_iret rfl rfl rfl ?_
                exact k0 x14 (wi_ (wi_ (wi_ m1 47 (26) (x14)) 47 (27) (x15)) 47 (28) (x16)) (by omega) (by exact hx14) ((sm_w (sm_w (sm_w hs (fun _ h_ => by rw [h_]; rfl)) (fun _ h_ => by rw [h_]; rfl)) (fun _ h_ => by rw [h_]; rfl))) (by intro j a_ b_; simp (disch := omega) only [vi_ne]; exact h52 j a_ (by omega)) (by intro j a_ b_; simp (disch := omega) only [vi_ne]; exact h53 j a_ (by omega)) (by intro j a_ b_; simp (disch := omega) only [vi_ne]; exact h61 j a_ (by omega)) (by have e_ : vi_ (wi_ (wi_ (wi_ m1 47 (26) (x14)) 47 (27) (x15)) 47 (28) (x16)) 47 26 = x14 := (ei_i (by omega)); omega) (by have e_ : vi_ (wi_ (wi_ (wi_ m1 47 (26) (x14)) 47 (27) (x15)) 47 (28) (x16)) 47 27 = x15 := (ei_i (by omega)); omega) (by have e_ : vi_ (wi_ (wi_ (wi_ m1 47 (26) (x14)) 47 (27) (x15)) 47 (28) (x16)) 47 28 = x16 := (ei_i (by omega)); omega)
              · refine pw_steps 6 (s' := (93, [some (.ref 47), some (.int (ei_ (k2)))], [.int (ei_ (k2)), .ref 64, .int (ei_ (k2)), .ref 61], m1)) rfl ?_
                refine pw_ild rfl rfl (by omega) (fun x17 (hx17 : x17 = vi_ m1 64 k2) rx17 sx17 => ?_)
                have ox17 := hx17
                replace hx17 : x17 = vi_ m 64 k2 := hx17.trans (sm_v hs rfl)
                refine pw_ist rfl rfl (by omega) ?_
                refine pw_steps 2 (s' := (77, [some (.ref 47), some (.int ((ei_ (k2)) + (ei_ (1))))], [], wi_ m1 61 (k2) (x17))) rfl ?_
                refine pw_cv (congrArg (fun z_ : Int32 => ((77, [some (.ref 47), some (.int z_)], [], wi_ m1 61 (k2) (x17)) : am_S)) (ei_add rfl rfl)) ?_
                exact ih10 _ (by omega) (k2 + 1) (wi_ m1 61 (k2) (x17)) rfl (by omega) ((sm_w hs (fun _ h_ => by rw [h_]; rfl))) (by intro j a_ b_; simp (disch := omega) only [vi_ne]; exact h52 j a_ b_) (by intro j a_ b_; simp (disch := omega) only [vi_ne]; exact h53 j a_ b_) (by intro j a_ b_; simp (disch := omega) only [vi_up, vi_ne]; by_cases e_ : j = k2; (rw [if_pos e_, e_, hx17]); (rw [if_neg e_]; exact h61 j a_ (by omega)))
          exact L11 _ 0 m1 rfl (by omega) (hs) (by intro j a_ b_; exact h52 j a_ (by omega)) (by intro j a_ b_; exact h53 j a_ (by omega)) (by intro j a_ b_; omega)
        · refine pw_steps 5 (s' := (27, [some (.ref 47), some (.int (ei_ (k)))], [.ref 47, .int (ei_ (k)), .int (ei_ (k)), .ref 52], m1)) rfl ?_
          refine pw_get rfl rfl (fun x18 (hx18 : x18 = vi_ m1 47 30) rx18 sx18 => ?_)
          have ox18 := hx18
          replace hx18 : x18 = vi_ m 47 30 := hx18.trans (sm_v hs rfl)
          refine pw_cmp rfl (by omega) ⟨rx18, sx18⟩ (fun (h19 : x18 ≤ k) => ?_) (fun (h19 : ¬ (x18 ≤ k)) => ?_)
          · refine pw_steps 1 (s' := (43, [some (.ref 47), some (.int (ei_ (k)))], [.int (ei_ (k)), .int (ei_ (k)), .ref 52], m1)) rfl ?_
            refine pw_ist rfl rfl (by omega) ?_
            refine pw_steps 5 (s' := (51, [some (.ref 47), some (.int (ei_ (k)))], [.ref 47, .int (ei_ (k)), .int (ei_ (k)), .ref 53], wi_ m1 52 (k) (k))) rfl ?_
            refine pw_getE (x := x18) rfl rfl ox18 ?_
            refine pw_cmpT rfl (by omega) ⟨rx18, sx18⟩ (show x18 ≤ k by omega) ?_
            refine pw_steps 1 (s' := (68, [some (.ref 47), some (.int (ei_ (k)))], [.int (ei_ (100)), .int (ei_ (k)), .ref 53], wi_ m1 52 (k) (k))) rfl ?_
            refine pw_ist rfl rfl (by omega) ?_
            refine pw_steps 2 (s' := (12, [some (.ref 47), some (.int ((ei_ (k)) + (ei_ (1))))], [], wi_ (wi_ m1 52 (k) (k)) 53 (k) (100))) rfl ?_
            refine pw_cv (congrArg (fun z_ : Int32 => ((12, [some (.ref 47), some (.int z_)], [], wi_ (wi_ m1 52 (k) (k)) 53 (k) (100)) : am_S)) (ei_add rfl rfl)) ?_
            exact ih4 _ (by omega) (k + 1) (wi_ (wi_ m1 52 (k) (k)) 53 (k) (100)) rfl (by omega) ((sm_w (sm_w hs (fun _ h_ => by rw [h_]; rfl)) (fun _ h_ => by rw [h_]; rfl))) (by intro j a_ b_; simp (disch := omega) only [vi_up, vi_ne]; by_cases e_ : j = k; (rw [if_pos e_, e_]; first | (rw [if_pos (by omega)]; omega) | (rw [if_neg (by omega)])); (rw [if_neg e_]; exact h52 j a_ (by omega))) (by intro j a_ b_; simp (disch := omega) only [vi_up, vi_ne]; by_cases e_ : j = k; (rw [if_pos e_, e_]; first | (rw [if_pos (by omega)]; omega) | (rw [if_neg (by omega)])); (rw [if_neg e_]; exact h53 j a_ (by omega)))
          · refine pw_steps 3 (s' := (38, [some (.ref 47), some (.int (ei_ (k)))], [.int (ei_ (k)), .ref 62, .int (ei_ (k)), .ref 52], m1)) rfl ?_
            refine pw_ild rfl rfl (by omega) (fun x20 (hx20 : x20 = vi_ m1 62 k) rx20 sx20 => ?_)
            have ox20 := hx20
            replace hx20 : x20 = vi_ m 62 k := hx20.trans (sm_v hs rfl)
            refine pw_steps 1 (s' := (43, [some (.ref 47), some (.int (ei_ (k)))], [.int (ei_ (x20)), .int (ei_ (k)), .ref 52], m1)) rfl ?_
            refine pw_ist rfl rfl (by omega) ?_
            refine pw_steps 5 (s' := (51, [some (.ref 47), some (.int (ei_ (k)))], [.ref 47, .int (ei_ (k)), .int (ei_ (k)), .ref 53], wi_ m1 52 (k) (x20))) rfl ?_
            refine pw_getE (x := x18) rfl rfl ox18 ?_
            refine pw_cmpF rfl (by omega) ⟨rx18, sx18⟩ (show ¬ (x18 ≤ k) by omega) ?_
            refine pw_steps 3 (s' := (62, [some (.ref 47), some (.int (ei_ (k)))], [.int (ei_ (k)), .ref 63, .int (ei_ (k)), .ref 53], wi_ m1 52 (k) (x20))) rfl ?_
            refine pw_ild rfl rfl (by omega) (fun x21 (hx21 : x21 = vi_ m1 63 k) rx21 sx21 => ?_)
            have ox21 := hx21
            replace hx21 : x21 = vi_ m 63 k := hx21.trans (sm_v hs rfl)
            refine pw_steps 1 (s' := (68, [some (.ref 47), some (.int (ei_ (k)))], [.int (ei_ (x21)), .int (ei_ (k)), .ref 53], wi_ m1 52 (k) (x20))) rfl ?_
            refine pw_ist rfl rfl (by omega) ?_
            refine pw_steps 2 (s' := (12, [some (.ref 47), some (.int ((ei_ (k)) + (ei_ (1))))], [], wi_ (wi_ m1 52 (k) (x20)) 53 (k) (x21))) rfl ?_
            refine pw_cv (congrArg (fun z_ : Int32 => ((12, [some (.ref 47), some (.int z_)], [], wi_ (wi_ m1 52 (k) (x20)) 53 (k) (x21)) : am_S)) (ei_add rfl rfl)) ?_
            exact ih4 _ (by omega) (k + 1) (wi_ (wi_ m1 52 (k) (x20)) 53 (k) (x21)) rfl (by omega) ((sm_w (sm_w hs (fun _ h_ => by rw [h_]; rfl)) (fun _ h_ => by rw [h_]; rfl))) (by intro j a_ b_; simp (disch := omega) only [vi_up, vi_ne]; by_cases e_ : j = k; (rw [if_pos e_, e_]; first | (rw [if_pos (by omega)]; omega) | (rw [if_neg (by omega)])); (rw [if_neg e_]; exact h52 j a_ (by omega))) (by intro j a_ b_; simp (disch := omega) only [vi_up, vi_ne]; by_cases e_ : j = k; (rw [if_pos e_, e_]; first | (rw [if_pos (by omega)]; omega) | (rw [if_neg (by omega)])); (rw [if_neg e_]; exact h53 j a_ (by omega)))
    exact L5 _ 0 m rfl (by omega) ((sm_rfl m)) (by intro j a_ b_; omega) (by intro j a_ b_; omega)
  · refine pw_steps 1 (s' := (9, [some (.ref 47), none], [.int (ei_ ((-5)))], m)) rfl ?_
    refine pw_iret rfl rfl rfl ?_
    exact k1 (by omega)

set_option maxHeartbeats 4000000 in
set_option maxRecDepth 20000 in
theorem ci_back {q : am_X} {d : Nat} {m : am_M} {Q : Option Value → am_M → Prop}    (k0 : ∀ (x : Int) (m1 : am_M), (¬ vi_ m 0 3 = 0) → (x = vi_ m 7 3) → (sm_ pCb m m1) → (∀ j, 0 ≤ j → j < 8 → vi_ m1 4 j = vi_ m 8 j) → (∀ j, 0 ≤ j → j < 8 → vi_ m1 5 j = vi_ m 9 j) → (∀ j, 0 ≤ j → j < 64 → vi_ m1 6 j = vi_ m 10 j) → (vi_ m1 3 3 = vi_ m 7 3) → (vi_ m1 3 4 = vi_ m 7 4) → (vi_ m1 3 5 = vi_ m 7 5) → Q (some (.int (ei_ (x)))) m1) (k1 : (vi_ m 0 3 = 0) → Q (some (.int (ei_ ((-5))))) m) : pw_C q (d + 6) 125 [.ref 0] m Q := by
  refine pw_intro (I := iX8_back) (T := tX8_back) rfl rfl rfl ?_
  refine pw_steps 1 (s' := (1, [some (.ref 0)], [.ref 0], m)) rfl ?_
  refine pw_get rfl rfl (fun x1 (hx1 : x1 = vi_ m 0 3) rx1 sx1 => ?_)
  refine pw_if rfl ⟨rx1, sx1⟩ (fun (h2 : ¬ x1 = 0) => ?_) (fun (h2 : ¬ ¬ x1 = 0) => ?_)
  · refine pw_steps 4 (s' := (18, [some (.ref 0)], [.ref 7, .ref 3], m)) rfl ?_
    refine pw_call (As := [.ref 7]) (st := []) (k := 3) rfl rfl rfl rfl rfl (Nat.le_of_ble_eq_true rfl) ?_
    refine cs_cpB  (fun m13 g4 g5 g6 g7 g8 g9 g10 => ?_)
    refine pw_steps 2 (s' := (25, [some (.ref 0)], [.ref 3], m13)) rfl ?_
    refine pw_call (As := []) (st := []) (k := 3) rfl rfl rfl rfl rfl (Nat.le_of_ble_eq_true rfl) ?_
    refine pw_intro (I := iX2_days) (T := tX2_days) rfl rfl rfl ?_
    refine pw_steps 1 (s' := (1, [some (.ref 3)], [.ref 3], m13)) rfl ?_
    refine pw_get rfl rfl (fun x11 (hx11 : x11 = vi_ m13 3 3) rx11 sx11 => ?_)
    have ox11 := hx11
    replace hx11 : x11 = vi_ m 7 3 := hx11.trans g8
    refine pw_iret rfl rfl rfl ?_
    refine pw_iret rfl rfl rfl ?_
    exact k0 x11 m13 (by omega) (by omega) (g4) (by exact g5) (by exact g6) (by exact g7) (by exact g8) (by exact g9) (by exact g10)
  · refine pw_steps 1 (s' := (9, [some (.ref 0)], [.int (ei_ ((-5)))], m)) rfl ?_
    refine pw_iret rfl rfl rfl ?_
    exact k1 (by omega)

def pBk (k j : Nat) : Bool := k == 4 || k == 5 || k == 6 || (k == 3 && j == 3) || (k == 3 && j == 4) || (k == 3 && j == 5) || k == 52 || k == 53 || k == 61 || (k == 47 && j == 26) || (k == 47 && j == 27) || (k == 47 && j == 28)
theorem pCb_Bk : ∀ k j, pBk k j = false → pCb k j = false := by
  intro k j h
  simp only [pCb, pBk, Bool.or_eq_false_iff, Bool.and_eq_false_iff, beq_eq_false_iff_ne, decide_eq_false_iff_not] at h ⊢
  omega

theorem pMk_Bk : ∀ k j, pBk k j = false → pMk k j = false := by
  intro k j h
  simp only [pMk, pBk, Bool.or_eq_false_iff, Bool.and_eq_false_iff, beq_eq_false_iff_ne, decide_eq_false_iff_not] at h ⊢
  omega


theorem rD_back {m m2 : am_M} (hp : rP_ m) (hi : rI_ m) (h0 : vi_ m 0 3 = 1) (f1 : vi_ m2 1 1 = vi_ m 1 1) (c4 : ∀ j, 0 ≤ j → j < 8 → vi_ m2 4 j = vi_ m 8 j) (c5 : ∀ j, 0 ≤ j → j < 8 → vi_ m2 5 j = vi_ m 9 j) (c6 : ∀ j, 0 ≤ j → j < 64 → vi_ m2 6 j = vi_ m 10 j) (c33 : vi_ m2 3 3 = vi_ m 7 3) (c34 : vi_ m2 3 4 = vi_ m 7 4) (c35 : vi_ m2 3 5 = vi_ m 7 5) (g52 : ∀ j, 0 ≤ j → j < vi_ m 1 1 → vi_ m2 52 j = if j < vi_ m 47 30 then vi_ m 62 j else j) (g53 : ∀ j, 0 ≤ j → j < vi_ m 1 1 → vi_ m2 53 j = if j < vi_ m 47 30 then vi_ m 63 j else 100) (g61 : ∀ j, 0 ≤ j → j < 64 → vi_ m2 61 j = vi_ m 64 j) (g26 : vi_ m2 47 26 = vi_ m 65 0) (g27 : vi_ m2 47 27 = vi_ m 65 1) (g28 : vi_ m2 47 28 = vi_ m 65 2) : rD_ m2 := by
  obtain ⟨p1, p2, p3, p4⟩ := hp
  obtain ⟨i1, i2, i3, i4, i5, i6⟩ := hi.2.2 h0
  refine ⟨fun j a b => ?_, fun j a b => ?_, fun j a b => ?_, fun j a b => ?_, ?_, ?_, ?_⟩
  · rw [c4 j a b, f1]
    have t := i2 j a b
    refine ⟨t.1, t.2.1, fun h => ?_, fun h => t.2.2.2 (by omega)⟩
    by_cases c : j < vi_ m 47 30
    · have := (t.2.2.1 c).1; omega
    · rw [t.2.2.2 (by omega)]; exact h
  · rw [c5 j a b, f1]
    have t := i3 j a b
    exact ⟨t.1, t.2.1, fun h => t.2.2.2 (by omega)⟩
  · rw [f1] at b
    have t := i2 j a (by omega)
    have t2 := i3 j a (by omega)
    rw [c4 j a (by omega), c5 j a (by omega), g52 j a b, g53 j a b]
    by_cases c : j < vi_ m 47 30
    · rw [if_pos c, if_pos c]; exact ⟨(t.2.2.1 c).2, t2.2.2.1 c⟩
    · rw [if_neg c, if_neg c, t.2.2.2 (by omega), t2.2.2.2 (by omega)]; exact ⟨rfl, rfl⟩
  · rw [c6 j a b, g61 j a b]; exact i4 j a b
  · rw [g26, c33]; exact i5
  · rw [g27, c34]; exact i6.1
  · rw [g28, c35]; exact i6.2
theorem op_back {q : am_X} {d : Nat} {m : am_M} (hR : rR_ m) : pw_C q (d + 60) 125 [.ref 0] m (fun r1 m1 => pw_C q (d + 60) 243 [.ref 47] m1 (fun r2 m2 => ∃ x : Int, r1 = some (.int (ei_ x)) ∧ r2 = some (.int (ei_ x)) ∧ rR_ m2)) := by
  obtain ⟨hp, hd, hi, ht, hl, hz, hc, ha, hs⟩ := id hR
  refine ci_back (fun x m1 v1 e1 s1 c4 c5 c6 c33 c34 c35 => ?_) (fun v1 => ?_)
  · have h0 : vi_ m 0 3 = 1 := by rcases hi.2.1 with h | h; exact absurd h v1; exact h
    have i1 := (hi.2.2 h0).1
    have hP := hp.1
    have w6 := sm_v s1 (k := 47) (j := 6) rfl
    have w30 := sm_v s1 (k := 47) (j := 30) rfl
    refine ms_back (by rw [w6, hp.2.1]; exact hP) (Or.inl (by rw [w30]; omega)) (fun y m2 v2 e2 s2 g52 g53 g61 g26 g27 g28 => ?_) (fun v2 => ?_)
    · have hsm : sm_ pBk m m2 := sm_tr (sm_le s1 pCb_Bk) (sm_le s2 pMk_Bk)
      have hD : rD_ m2 := rD_back hp hi h0 ((sm_v s2 (k := 1) (j := 1) rfl).trans (sm_v s1 (k := 1) (j := 1) rfl)) (fun j a b => (sm_v s2 (k := 4) (j := j) rfl).trans (c4 j a b)) (fun j a b => (sm_v s2 (k := 5) (j := j) rfl).trans (c5 j a b)) (fun j a b => (sm_v s2 (k := 6) (j := j) rfl).trans (c6 j a b)) ((sm_v s2 (k := 3) (j := 3) rfl).trans c33) ((sm_v s2 (k := 3) (j := 4) rfl).trans c34) ((sm_v s2 (k := 3) (j := 5) rfl).trans c35) (fun j a b => by rw [g52 j a (by rw [w6, hp.2.1]; exact b), w30, sm_v s1 (k := 62) (j := j) rfl]) (fun j a b => by rw [g53 j a (by rw [w6, hp.2.1]; exact b), w30, sm_v s1 (k := 63) (j := j) rfl]) (fun j a b => (g61 j a b).trans (sm_v s1 (k := 64) (j := j) rfl)) (g26.trans (sm_v s1 (k := 65) (j := 0) rfl)) (g27.trans (sm_v s1 (k := 65) (j := 1) rfl)) (g28.trans (sm_v s1 (k := 65) (j := 2) rfl))
      have hx : y = x := by rw [e2, e1, sm_v s1 (k := 65) (j := 0) rfl]; exact (hi.2.2 h0).2.2.2.2.1
      exact ⟨x, rfl, congrArg (fun z_ : Int => some (Value.int (ei_ z_))) hx, ⟨rP_fr hsm rfl rfl (fun _ => rfl) (fun _ => rfl) hp, hD, rI_fr hsm rfl rfl rfl rfl (fun _ => rfl) (fun _ => rfl) (fun _ => rfl) (fun _ => rfl) (fun _ => rfl) (fun _ => rfl) (fun _ => rfl) rfl rfl rfl hi, rT_fr hsm rfl rfl (fun _ => rfl) (fun _ => rfl) ht, rL_fr hsm rfl rfl (fun _ => rfl) (fun _ => rfl) hl, rZ_fr hsm rfl hz, rC_fr hsm rfl rfl rfl rfl (fun _ => rfl) (fun _ => rfl) (fun _ => rfl) (fun _ => rfl) (fun _ => rfl) (fun _ => rfl) (fun _ => rfl) rfl hc, rA_fr hsm rfl rfl (fun _ => rfl) (fun _ => rfl) rfl rfl (fun _ => rfl) (fun _ => rfl) ha, rS_fr hsm (fun _ => rfl) (fun _ => rfl) rfl (fun d_ a_ b_ => by rcases sf_six ⟨a_, b_⟩ with h_ | h_ | h_ | h_ | h_ | h_ <;> subst h_ <;> exact ⟨rfl, rfl, rfl⟩) hs⟩⟩
    · exact absurd (by rw [sm_v s1 (k := 47) (j := 29) rfl, hi.1, h0] at v2; exact v2) (by decide)
  · have h30 : vi_ m 47 29 = 0 := by rw [hi.1]; exact v1
    refine ms_back (by rw [hp.2.1]; exact hp.1) (Or.inr h30) (fun y m2 v2 e2 s2 g52 g53 g61 g26 g27 g28 => absurd h30 v2) (fun v2 => ?_)
    exact ⟨-5, rfl, rfl, hR⟩

