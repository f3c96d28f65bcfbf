/-! ===== image, back ===== -/
def pC8 (k _j : Nat) : Bool := k == 8
def pC9 (k _j : Nat) : Bool := k == 9
def pC10 (k _j : Nat) : Bool := k == 10
def pC4 (k _j : Nat) : Bool := k == 4
def pC5 (k _j : Nat) : Bool := k == 5
def pC6 (k _j : Nat) : Bool := k == 6
def pCi (k j : Nat) : Bool := k == 8 || k == 9 || k == 10 || (k == 7 && j == 3) || (k == 7 && j == 4) || (k == 7 && j == 5)
def pCb (k j : Nat) : Bool := k == 4 || k == 5 || k == 6 || (k == 3 && j == 3) || (k == 3 && j == 4) || (k == 3 && j == 5)
theorem pC8_Ci : ∀ k j, pCi k j = false → pC8 k j = false := by
  intro k j h
  simp only [pC8, pCi, Bool.or_eq_false_iff, Bool.and_eq_false_iff, beq_eq_false_iff_ne, decide_eq_false_iff_not] at h ⊢
  omega

theorem pC9_Ci : ∀ k j, pCi k j = false → pC9 k j = false := by
  intro k j h
  simp only [pC9, pCi, Bool.or_eq_false_iff, Bool.and_eq_false_iff, beq_eq_false_iff_ne, decide_eq_false_iff_not] at h ⊢
  omega

theorem pC10_Ci : ∀ k j, pCi k j = false → pC10 k j = false := by
  intro k j h
  simp only [pC10, pCi, Bool.or_eq_false_iff, Bool.and_eq_false_iff, beq_eq_false_iff_ne, decide_eq_false_iff_not] at h ⊢
  omega

theorem pC4_Cb : ∀ k j, pCb k j = false → pC4 k j = false := by
  intro k j h
  simp only [pC4, pCb, Bool.or_eq_false_iff, Bool.and_eq_false_iff, beq_eq_false_iff_ne, decide_eq_false_iff_not] at h ⊢
  omega

theorem pC5_Cb : ∀ k j, pCb k j = false → pC5 k j = false := by
  intro k j h
  simp only [pC5, pCb, Bool.or_eq_false_iff, Bool.and_eq_false_iff, beq_eq_false_iff_ne, decide_eq_false_iff_not] at h ⊢
  omega

theorem pC6_Cb : ∀ k j, pCb k j = false → pC6 k j = false := by
  intro k j h
  simp only [pC6, pCb, Bool.or_eq_false_iff, Bool.and_eq_false_iff, beq_eq_false_iff_ne, decide_eq_false_iff_not] at h ⊢
  omega

set_option maxHeartbeats 4000000 in
set_option maxRecDepth 20000 in
theorem cs_cpI {q : am_X} {d : Nat} {m : am_M} {Q : Option Value → am_M → Prop}    (k0 : ∀ (m1 : am_M), (sm_ pCi m m1) → (∀ j, 0 ≤ j → j < 8 → vi_ m1 8 j = vi_ m 4 j) → (∀ j, 0 ≤ j → j < 8 → vi_ m1 9 j = vi_ m 5 j) → (∀ j, 0 ≤ j → j < 64 → vi_ m1 10 j = vi_ m 6 j) → (vi_ m1 7 3 = vi_ m 3 3) → (vi_ m1 7 4 = vi_ m 3 4) → (vi_ m1 7 5 = vi_ m 3 5) → Q none m1) : pw_C q (d + 1) 124 [.ref 7, .ref 3] m Q := by
  refine pw_intro (I := iX2_copyFrom) (T := tX2_copyFrom) rfl rfl rfl ?_
  refine pw_steps 7 (s' := (12, [some (.ref 7), some (.ref 3)], [.int (ei_ (8)), .int (ei_ (0)), .ref 8, .int (ei_ (0)), .ref 4], m)) rfl ?_
  refine pw_cpy rfl (Nat.le_of_ble_eq_true rfl) rfl rfl (by omega) ?_
  generalize hcp_m1 : cp_ m 4 8 0 0 8 = m1
  have g2 : sm_ pC8 m m1 := by rw [← hcp_m1]; exact sm_cp (fun _ => rfl)
  have fm1 : ∀ j, 0 ≤ j → j < 8 → vi_ m1 8 j = vi_ m 4 j := by intro j a_ b_; rw [← hcp_m1]; exact (vi_cp a_ (by omega)).trans (if_pos b_)
  refine pw_steps 7 (s' := (27, [some (.ref 7), some (.ref 3)], [.int (ei_ (8)), .int (ei_ (0)), .ref 9, .int (ei_ (0)), .ref 5], m1)) rfl ?_
  refine pw_cpy rfl (Nat.le_of_ble_eq_true rfl) rfl rfl (by omega) ?_
  generalize hcp_m3 : cp_ m1 5 9 0 0 8 = m3
  have g4 : sm_ pC9 m1 m3 := by rw [← hcp_m3]; exact sm_cp (fun _ => rfl)
  have fm3 : ∀ j, 0 ≤ j → j < 8 → vi_ m3 9 j = vi_ m1 5 j := by intro j a_ b_; rw [← hcp_m3]; exact (vi_cp a_ (by omega)).trans (if_pos b_)
  refine pw_steps 7 (s' := (42, [some (.ref 7), some (.ref 3)], [.int (ei_ (64)), .int (ei_ (0)), .ref 10, .int (ei_ (0)), .ref 6], m3)) rfl ?_
  refine pw_cpy rfl (Nat.le_of_ble_eq_true rfl) rfl rfl (by omega) ?_
  generalize hcp_m5 : cp_ m3 6 10 0 0 64 = m5
  have g6 : sm_ pC10 m3 m5 := by rw [← hcp_m5]; exact sm_cp (fun _ => rfl)
  have fm5 : ∀ j, 0 ≤ j → j < 64 → vi_ m5 10 j = vi_ m3 6 j := by intro j a_ b_; rw [← hcp_m5]; exact (vi_cp a_ (by omega)).trans (if_pos b_)
  refine pw_steps 2 (s' := (47, [some (.ref 7), some (.ref 3)], [.ref 3, .ref 7], m5)) rfl ?_
  refine pw_get rfl rfl (fun x7 (hx7 : x7 = vi_ m5 3 3) rx7 sx7 => ?_)
  have ox7 := hx7
  replace hx7 : x7 = vi_ m3 3 3 := hx7.trans (sm_v g6 rfl)
  replace hx7 : x7 = vi_ m1 3 3 := hx7.trans (sm_v g4 rfl)
  replace hx7 : x7 = vi_ m 3 3 := hx7.trans (sm_v g2 rfl)
  refine pw_put (v := x7) rfl rfl (Or.inl rfl) ?_
  refine pw_cv (s' := (53, [some (.ref 7), some (.ref 3)], [], wi_ m5 7 (3) (x7))) rfl ?_
  refine pw_steps 2 (s' := (55, [some (.ref 7), some (.ref 3)], [.ref 3, .ref 7], wi_ m5 7 (3) (x7))) rfl ?_
  refine pw_get rfl rfl (fun x8 (hx8 : x8 = vi_ m5 3 4) rx8 sx8 => ?_)
  have ox8 := hx8
  replace hx8 : x8 = vi_ m3 3 4 := hx8.trans (sm_v g6 rfl)
  replace hx8 : x8 = vi_ m1 3 4 := hx8.trans (sm_v g4 rfl)
  replace hx8 : x8 = vi_ m 3 4 := hx8.trans (sm_v g2 rfl)
  refine pw_put (v := x8) rfl rfl (Or.inl rfl) ?_
  refine pw_cv (s' := (61, [some (.ref 7), some (.ref 3)], [], wi_ (wi_ m5 7 (3) (x7)) 7 (4) (x8))) rfl ?_
  refine pw_steps 2 (s' := (63, [some (.ref 7), some (.ref 3)], [.ref 3, .ref 7], wi_ (wi_ m5 7 (3) (x7)) 7 (4) (x8))) rfl ?_
  refine pw_get rfl rfl (fun x9 (hx9 : x9 = vi_ m5 3 5) rx9 sx9 => ?_)
  have ox9 := hx9
  replace hx9 : x9 = vi_ m3 3 5 := hx9.trans (sm_v g6 rfl)
  replace hx9 : x9 = vi_ m1 3 5 := hx9.trans (sm_v g4 rfl)
  replace hx9 : x9 = vi_ m 3 5 := hx9.trans (sm_v g2 rfl)
  refine pw_put (v := x9) rfl rfl (Or.inl rfl) ?_
  refine pw_cv (s' := (69, [some (.ref 7), some (.ref 3)], [], wi_ (wi_ (wi_ m5 7 (3) (x7)) 7 (4) (x8)) 7 (5) (x9))) rfl ?_
  refine pw_vret rfl rfl ?_
  exact k0 (wi_ (wi_ (wi_ m5 7 (3) (x7)) 7 (4) (x8)) 7 (5) (x9)) ((sm_w (sm_w (sm_w (sm_tr (sm_tr (sm_le g2 pC8_Ci) (sm_le g4 pC9_Ci)) (sm_le g6 pC10_Ci)) (fun _ h_ => by rw [h_]; rfl)) (fun _ h_ => by rw [h_]; rfl)) (fun _ h_ => by rw [h_]; rfl))) (by intro j a_ b_; exact ((sm_v g6 (k := 8) (j := j) rfl).trans ((sm_v g4 (k := 8) (j := j) rfl).trans (fm1 j a_ b_)))) (by intro j a_ b_; exact (((sm_v g6 (k := 9) (j := j) rfl).trans (fm3 j a_ b_)).trans (sm_v g2 (k := 5) (j := j) rfl))) (by intro j a_ b_; exact (((fm5 j a_ b_).trans (sm_v g4 (k := 6) (j := j) rfl)).trans (sm_v g2 (k := 6) (j := j) rfl))) (by have e_ : vi_ (wi_ (wi_ (wi_ m5 7 (3) (x7)) 7 (4) (x8)) 7 (5) (x9)) 7 3 = x7 := (ei_i (by omega)); omega) (by have e_ : vi_ (wi_ (wi_ (wi_ m5 7 (3) (x7)) 7 (4) (x8)) 7 (5) (x9)) 7 4 = x8 := (ei_i (by omega)); omega) (by have e_ : vi_ (wi_ (wi_ (wi_ m5 7 (3) (x7)) 7 (4) (x8)) 7 (5) (x9)) 7 5 = x9 := (ei_i (by omega)); omega)

set_option maxHeartbeats 4000000 in
set_option maxRecDepth 20000 in
theorem cs_cpB {q : am_X} {d : Nat} {m : am_M} {Q : Option Value → am_M → Prop}    (k0 : ∀ (m1 : am_M), (sm_ pCb m m1) → (∀ j, 0 ≤ j → j < 8 → vi_ m1 4 j = vi_ m 8 j) → (∀ j, 0 ≤ j → j < 8 → vi_ m1 5 j = vi_ m 9 j) → (∀ j, 0 ≤ j → j < 64 → vi_ m1 6 j = vi_ m 10 j) → (vi_ m1 3 3 = vi_ m 7 3) → (vi_ m1 3 4 = vi_ m 7 4) → (vi_ m1 3 5 = vi_ m 7 5) → Q none m1) : pw_C q (d + 1) 124 [.ref 3, .ref 7] m Q := by
  refine pw_intro (I := iX2_copyFrom) (T := tX2_copyFrom) rfl rfl rfl ?_
  refine pw_steps 7 (s' := (12, [some (.ref 3), some (.ref 7)], [.int (ei_ (8)), .int (ei_ (0)), .ref 4, .int (ei_ (0)), .ref 8], m)) rfl ?_
  refine pw_cpy rfl (Nat.le_of_ble_eq_true rfl) rfl rfl (by omega) ?_
  generalize hcp_m1 : cp_ m 8 4 0 0 8 = m1
  have g2 : sm_ pC4 m m1 := by rw [← hcp_m1]; exact sm_cp (fun _ => rfl)
  have fm1 : ∀ j, 0 ≤ j → j < 8 → vi_ m1 4 j = vi_ m 8 j := by intro j a_ b_; rw [← hcp_m1]; exact (vi_cp a_ (by omega)).trans (if_pos b_)
  refine pw_steps 7 (s' := (27, [some (.ref 3), some (.ref 7)], [.int (ei_ (8)), .int (ei_ (0)), .ref 5, .int (ei_ (0)), .ref 9], m1)) rfl ?_
  refine pw_cpy rfl (Nat.le_of_ble_eq_true rfl) rfl rfl (by omega) ?_
  generalize hcp_m3 : cp_ m1 9 5 0 0 8 = m3
  have g4 : sm_ pC5 m1 m3 := by rw [← hcp_m3]; exact sm_cp (fun _ => rfl)
  have fm3 : ∀ j, 0 ≤ j → j < 8 → vi_ m3 5 j = vi_ m1 9 j := by intro j a_ b_; rw [← hcp_m3]; exact (vi_cp a_ (by omega)).trans (if_pos b_)
  refine pw_steps 7 (s' := (42, [some (.ref 3), some (.ref 7)], [.int (ei_ (64)), .int (ei_ (0)), .ref 6, .int (ei_ (0)), .ref 10], m3)) rfl ?_
  refine pw_cpy rfl (Nat.le_of_ble_eq_true rfl) rfl rfl (by omega) ?_
  generalize hcp_m5 : cp_ m3 10 6 0 0 64 = m5
  have g6 : sm_ pC6 m3 m5 := by rw [← hcp_m5]; exact sm_cp (fun _ => rfl)
  have fm5 : ∀ j, 0 ≤ j → j < 64 → vi_ m5 6 j = vi_ m3 10 j := by intro j a_ b_; rw [← hcp_m5]; exact (vi_cp a_ (by omega)).trans (if_pos b_)
  refine pw_steps 2 (s' := (47, [some (.ref 3), some (.ref 7)], [.ref 7, .ref 3], m5)) rfl ?_
  refine pw_get rfl rfl (fun x7 (hx7 : x7 = vi_ m5 7 3) rx7 sx7 => ?_)
  have ox7 := hx7
  replace hx7 : x7 = vi_ m3 7 3 := hx7.trans (sm_v g6 rfl)
  replace hx7 : x7 = vi_ m1 7 3 := hx7.trans (sm_v g4 rfl)
  replace hx7 : x7 = vi_ m 7 3 := hx7.trans (sm_v g2 rfl)
  refine pw_put (v := x7) rfl rfl (Or.inl rfl) ?_
  refine pw_cv (s' := (53, [some (.ref 3), some (.ref 7)], [], wi_ m5 3 (3) (x7))) rfl ?_
  refine pw_steps 2 (s' := (55, [some (.ref 3), some (.ref 7)], [.ref 7, .ref 3], wi_ m5 3 (3) (x7))) rfl ?_
  refine pw_get rfl rfl (fun x8 (hx8 : x8 = vi_ m5 7 4) rx8 sx8 => ?_)
  have ox8 := hx8
  replace hx8 : x8 = vi_ m3 7 4 := hx8.trans (sm_v g6 rfl)
  replace hx8 : x8 = vi_ m1 7 4 := hx8.trans (sm_v g4 rfl)
  replace hx8 : x8 = vi_ m 7 4 := hx8.trans (sm_v g2 rfl)
  refine pw_put (v := x8) rfl rfl (Or.inl rfl) ?_
  refine pw_cv (s' := (61, [some (.ref 3), some (.ref 7)], [], wi_ (wi_ m5 3 (3) (x7)) 3 (4) (x8))) rfl ?_
  refine pw_steps 2 (s' := (63, [some (.ref 3), some (.ref 7)], [.ref 7, .ref 3], wi_ (wi_ m5 3 (3) (x7)) 3 (4) (x8))) rfl ?_
  refine pw_get rfl rfl (fun x9 (hx9 : x9 = vi_ m5 7 5) rx9 sx9 => ?_)
  have ox9 := hx9
  replace hx9 : x9 = vi_ m3 7 5 := hx9.trans (sm_v g6 rfl)
  replace hx9 : x9 = vi_ m1 7 5 := hx9.trans (sm_v g4 rfl)
  replace hx9 : x9 = vi_ m 7 5 := hx9.trans (sm_v g2 rfl)
  refine pw_put (v := x9) rfl rfl (Or.inl rfl) ?_
  refine pw_cv (s' := (69, [some (.ref 3), some (.ref 7)], [], wi_ (wi_ (wi_ m5 3 (3) (x7)) 3 (4) (x8)) 3 (5) (x9))) rfl ?_
  refine pw_vret rfl rfl ?_
  exact k0 (wi_ (wi_ (wi_ m5 3 (3) (x7)) 3 (4) (x8)) 3 (5) (x9)) ((sm_w (sm_w (sm_w (sm_tr (sm_tr (sm_le g2 pC4_Cb) (sm_le g4 pC5_Cb)) (sm_le g6 pC6_Cb)) (fun _ h_ => by rw [h_]; rfl)) (fun _ h_ => by rw [h_]; rfl)) (fun _ h_ => by rw [h_]; rfl))) (by intro j a_ b_; exact ((sm_v g6 (k := 4) (j := j) rfl).trans ((sm_v g4 (k := 4) (j := j) rfl).trans (fm1 j a_ b_)))) (by intro j a_ b_; exact (((sm_v g6 (k := 5) (j := j) rfl).trans (fm3 j a_ b_)).trans (sm_v g2 (k := 9) (j := j) rfl))) (by intro j a_ b_; exact (((fm5 j a_ b_).trans (sm_v g4 (k := 10) (j := j) rfl)).trans (sm_v g2 (k := 10) (j := j) rfl))) (by have e_ : vi_ (wi_ (wi_ (wi_ m5 3 (3) (x7)) 3 (4) (x8)) 3 (5) (x9)) 3 3 = x7 := (ei_i (by omega)); omega) (by have e_ : vi_ (wi_ (wi_ (wi_ m5 3 (3) (x7)) 3 (4) (x8)) 3 (5) (x9)) 3 4 = x8 := (ei_i (by omega)); omega) (by have e_ : vi_ (wi_ (wi_ (wi_ m5 3 (3) (x7)) 3 (4) (x8)) 3 (5) (x9)) 3 5 = x9 := (ei_i (by omega)); omega)

def pMi (k j : Nat) : Bool := k == 62 || k == 63 || k == 64 || k == 65 || (k == 47 && j == 29) || (k == 47 && j == 30)
set_option maxHeartbeats 4000000 in
set_option maxRecDepth 20000 in
theorem ms_image {q : am_X} {d : Nat} {m : am_M} {Q : Option Value → am_M → Prop}    (k0 : ∀ (x : Int) (m1 : am_M), (x = vi_ m 47 26) → (sm_ pMi m m1) → (vi_ m1 47 29 = 1) → (vi_ m1 47 30 = vi_ m 47 6) → (∀ j, 0 ≤ j → j < 8 → vi_ m1 62 j = vi_ m 52 j) → (∀ j, 0 ≤ j → j < 8 → vi_ m1 63 j = vi_ m 53 j) → (∀ j, 0 ≤ j → j < 64 → vi_ m1 64 j = vi_ m 61 j) → (∀ j, 0 ≤ j → j < 3 → vi_ m1 65 j = vi_ m 47 (26 + j)) → Q (some (.int (ei_ (x)))) m1) : pw_C q (d + 4) 242 [.ref 47] m Q := by
  refine pw_intro (I := iX9_image) (T := tX9_image) rfl rfl rfl ?_
  refine pw_steps 2 (s' := (2, [some (.ref 47), none], [.int (ei_ (1)), .ref 47], m)) rfl ?_
  refine pw_put (v := 1) rfl rfl (Or.inr (by omega)) ?_
  refine pw_cv (s' := (5, [some (.ref 47), none], [], wi_ m 47 (29) (1))) rfl ?_
  refine pw_steps 2 (s' := (7, [some (.ref 47), none], [.ref 47, .ref 47], wi_ m 47 (29) (1))) rfl ?_
  refine pw_get rfl rfl (fun x1 (hx1 : x1 = vi_ m 47 6) rx1 sx1 => ?_)
  refine pw_put (v := x1) rfl rfl (Or.inl rfl) ?_
  refine pw_cv (s' := (13, [some (.ref 47), none], [], wi_ (wi_ m 47 (29) (1)) 47 (30) (x1))) rfl ?_
  refine pw_steps 2 (s' := (15, [some (.ref 47), some (.int (ei_ (0)))], [], wi_ (wi_ m 47 (29) (1)) 47 (30) (x1))) rfl ?_
  have L4 : ∀ (n2 : Nat) (k : Int) (m1 : am_M), (8 - k).toNat = n2 → (0 ≤ k ∧ k ≤ 8) → (sm_ pMi m m1) → (vi_ m1 47 29 = 1) → (vi_ m1 47 30 = vi_ m 47 6) → (∀ j, 0 ≤ j → j < k → vi_ m1 62 j = vi_ m 52 j) → (∀ j, 0 ≤ j → j < k → vi_ m1 63 j = vi_ m 53 j) → pw_V q (d + 3) iX9_image.2.2.2.1 tX9_image Q (15, [some (.ref 47), some (.int (ei_ (k)))], [], m1) := by
    intro n2
    induction n2 using Nat.strongRecOn with
    | _ n2 ih3 =>
      intro k m1 hm_n2 v5 hs v6 v7 h62 h63
      refine pw_steps 2 (s' := (18, [some (.ref 47), some (.int (ei_ (k)))], [.int (ei_ (8)), .int (ei_ (k))], m1)) rfl ?_
      refine pw_cmp rfl (by omega) (by decide) (fun (h8 : 8 ≤ k) => ?_) (fun (h8 : ¬ (8 ≤ k)) => ?_)
      · refine pw_steps 2 (s' := (53, [some (.ref 47), some (.int (ei_ (0)))], [], m1)) rfl ?_
        have L11 : ∀ (n9 : Nat) (k2 : Int) (m1 : am_M), (64 - k2).toNat = n9 → (0 ≤ k2 ∧ k2 ≤ 64) → (sm_ pMi m m1) → (vi_ m1 47 29 = 1) → (vi_ m1 47 30 = vi_ m 47 6) → (∀ j, 0 ≤ j → j < 8 → vi_ m1 62 j = vi_ m 52 j) → (∀ j, 0 ≤ j → j < 8 → vi_ m1 63 j = vi_ m 53 j) → (∀ j, 0 ≤ j → j < k2 → vi_ m1 64 j = vi_ m 61 j) → pw_V q (d + 3) iX9_image.2.2.2.1 tX9_image Q (53, [some (.ref 47), some (.int (ei_ (k2)))], [], m1) := by
          intro n9
          induction n9 using Nat.strongRecOn with
          | _ n9 ih10 =>
            intro k2 m1 hm_n9 v12 hs v13 v14 h62 h63 h64
            refine pw_steps 2 (s' := (56, [some (.ref 47), some (.int (ei_ (k2)))], [.int (ei_ (64)), .int (ei_ (k2))], m1)) rfl ?_
            refine pw_cmp rfl (by omega) (by decide) (fun (h15 : 64 ≤ k2) => ?_) (fun (h15 : ¬ (64 ≤ k2)) => ?_)
            · refine pw_steps 2 (s' := (79, [some (.ref 47), some (.int (ei_ (0)))], [], m1)) rfl ?_
              have L18 : ∀ (n16 : Nat) (k3 : Int) (m1 : am_M), (3 - k3).toNat = n16 → (0 ≤ k3 ∧ k3 ≤ 3) → (sm_ pMi m m1) → (vi_ m1 47 29 = 1) → (vi_ m1 47 30 = vi_ m 47 6) → (∀ j, 0 ≤ j → j < 8 → vi_ m1 62 j = vi_ m 52 j) → (∀ j, 0 ≤ j → j < 8 → vi_ m1 63 j = vi_ m 53 j) → (∀ j, 0 ≤ j → j < 64 → vi_ m1 64 j = vi_ m 61 j) → (∀ j, 0 ≤ j → j < k3 → vi_ m1 65 j = vi_ m 47 (26 + j)) → pw_V q (d + 3) iX9_image.2.2.2.1 tX9_image Q (79, [some (.ref 47), some (.int (ei_ (k3)))], [], m1) := by
                intro n16
                induction n16 using Nat.strongRecOn with
                | _ n16 ih17 =>
                  intro k3 m1 hm_n16 v19 hs v20 v21 h62 h63 h64 h65
                  refine pw_steps 2 (s' := (81, [some (.ref 47), some (.int (ei_ (k3)))], [.int (ei_ (3)), .int (ei_ (k3))], m1)) rfl ?_
                  refine pw_cmp rfl (by omega) (by decide) (fun (h22 : 3 ≤ k3) => ?_) (fun (h22 : ¬ (3 ≤ k3)) => ?_)
                  · refine pw_steps 1 (s' := (102, [some (.ref 47), some (.int (ei_ (k3)))], [.ref 47], m1)) rfl ?_
                    refine pw_get rfl rfl (fun x23 (hx23 : x23 = vi_ m1 47 26) rx23 sx23 => ?_)
                    have ox23 := hx23
                    replace hx23 : x23 = vi_ m 47 26 := hx23.trans (sm_v hs rfl)
                    refine pw_iret rfl rfl rfl ?_
                    exact k0 x23 m1 (by exact hx23) (by exact hs) (v20) (v21) (by exact h62) (by exact h63) (by exact h64) (by intro j a_ b_; exact h65 j a_ (by omega))
                  · refine pw_steps 5 (s' := (91, [some (.ref 47), some (.int (ei_ (k3)))], [.int (ei_ (k3)), .ref 47, .int (ei_ (k3)), .ref 65], m1)) rfl ?_
                    refine pw_call (As := [.int (ei_ (k3))]) (st := [.int (ei_ (k3)), .ref 65]) (k := 47) rfl rfl rfl rfl rfl (Nat.le_of_ble_eq_true rfl) ?_
                    refine pw_intro (I := iX9_led) (T := tX9_led) rfl rfl rfl ?_
                    refine pw_steps 1 (s' := (1, [some (.ref 47), some (.int (ei_ (k3)))], [.int (ei_ (k3))], m1)) rfl ?_
                    rcases (show k3 = 0 ∨ k3 = 1 ∨ k3 = 2 by omega) with h24 | h24 | h24
                    · refine pw_tab 0 32 rfl (by omega) (by omega) (by omega) rfl ?_
                      refine pw_steps 1 (s' := (33, [some (.ref 47), some (.int (ei_ (k3)))], [.ref 47], m1)) rfl ?_
                      refine pw_get rfl rfl (fun x25 (hx25 : x25 = vi_ m1 47 26) rx25 sx25 => ?_)
                      have ox25 := hx25
                      replace hx25 : x25 = vi_ m 47 26 := hx25.trans (sm_v hs rfl)
                      refine pw_iret rfl rfl rfl ?_
                      refine pw_ist rfl rfl (by omega) ?_
                      refine pw_steps 2 (s' := (79, [some (.ref 47), some (.int ((ei_ (k3)) + (ei_ (1))))], [], wi_ m1 65 (k3) (x25))) rfl ?_
                      refine pw_cv (congrArg (fun z_ : Int32 => ((79, [some (.ref 47), some (.int z_)], [], wi_ m1 65 (k3) (x25)) : am_S)) (ei_add rfl rfl)) ?_
                      exact ih17 _ (by omega) (k3 + 1) (wi_ m1 65 (k3) (x25)) rfl (by omega) ((sm_w hs (fun _ h_ => by rw [h_]; rfl))) (v20) (by have e_ : vi_ (wi_ m1 65 (k3) (x25)) 47 30 = vi_ m 47 6 := v21; omega) (by intro j a_ b_; simp (disch := omega) only [vi_ne]; exact h62 j a_ b_) (by intro j a_ b_; simp (disch := omega) only [vi_ne]; exact h63 j a_ b_) (by intro j a_ b_; simp (disch := omega) only [vi_ne]; exact h64 j a_ b_) (by intro j a_ b_; simp (disch := omega) only [vi_up, vi_ne]; by_cases e_ : j = k3; (rw [if_pos e_, e_, hx25]; exact congrArg _ (by omega)); (rw [if_neg e_]; exact h65 j a_ (by omega)))
                    · refine pw_tab 1 37 rfl (by omega) (by omega) (by omega) rfl ?_
                      refine pw_steps 1 (s' := (38, [some (.ref 47), some (.int (ei_ (k3)))], [.ref 47], m1)) rfl ?_
                      refine pw_get rfl rfl (fun x26 (hx26 : x26 = vi_ m1 47 27) rx26 sx26 => ?_)
                      have ox26 := hx26
                      replace hx26 : x26 = vi_ m 47 27 := hx26.trans (sm_v hs rfl)
                      refine pw_iret rfl rfl rfl ?_
                      refine pw_ist rfl rfl (by omega) ?_
                      refine pw_steps 2 (s' := (79, [some (.ref 47), some (.int ((ei_ (k3)) + (ei_ (1))))], [], wi_ m1 65 (k3) (x26))) rfl ?_
                      refine pw_cv (congrArg (fun z_ : Int32 => ((79, [some (.ref 47), some (.int z_)], [], wi_ m1 65 (k3) (x26)) : am_S)) (ei_add rfl rfl)) ?_
                      exact ih17 _ (by omega) (k3 + 1) (wi_ m1 65 (k3) (x26)) rfl (by omega) ((sm_w hs (fun _ h_ => by rw [h_]; rfl))) (v20) (by have e_ : vi_ (wi_ m1 65 (k3) (x26)) 47 30 = vi_ m 47 6 := v21; omega) (by intro j a_ b_; simp (disch := omega) only [vi_ne]; exact h62 j a_ b_) (by intro j a_ b_; simp (disch := omega) only [vi_ne]; exact h63 j a_ b_) (by intro j a_ b_; simp (disch := omega) only [vi_ne]; exact h64 j a_ b_) (by intro j a_ b_; simp (disch := omega) only [vi_up, vi_ne]; by_cases e_ : j = k3; (rw [if_pos e_, e_, hx26]; exact congrArg _ (by omega)); (rw [if_neg e_]; exact h65 j a_ (by omega)))
                    · refine pw_tab 2 42 rfl (by omega) (by omega) (by omega) rfl ?_
                      refine pw_steps 1 (s' := (43, [some (.ref 47), some (.int (ei_ (k3)))], [.ref 47], m1)) rfl ?_
                      refine pw_get rfl rfl (fun x27 (hx27 : x27 = vi_ m1 47 28) rx27 sx27 => ?_)
                      have ox27 := hx27
                      replace hx27 : x27 = vi_ m 47 28 := hx27.trans (sm_v hs rfl)
                      refine pw_iret rfl rfl rfl ?_
                      refine pw_ist rfl rfl (by omega) ?_
                      refine pw_steps 2 (s' := (79, [some (.ref 47), some (.int ((ei_ (k3)) + (ei_ (1))))], [], wi_ m1 65 (k3) (x27))) rfl ?_
                      refine pw_cv (congrArg (fun z_ : Int32 => ((79, [some (.ref 47), some (.int z_)], [], wi_ m1 65 (k3) (x27)) : am_S)) (ei_add rfl rfl)) ?_
                      exact ih17 _ (by omega) (k3 + 1) (wi_ m1 65 (k3) (x27)) rfl (by omega) ((sm_w hs (fun _ h_ => by rw [h_]; rfl))) (v20) (by have e_ : vi_ (wi_ m1 65 (k3) (x27)) 47 30 = vi_ m 47 6 := v21; omega) (by intro j a_ b_; simp (disch := omega) only [vi_ne]; exact h62 j a_ b_) (by intro j a_ b_; simp (disch := omega) only [vi_ne]; exact h63 j a_ b_) (by intro j a_ b_; simp (disch := omega) only [vi_ne]; exact h64 j a_ b_) (by intro j a_ b_; simp (disch := omega) only [vi_up, vi_ne]; by_cases e_ : j = k3; (rw [if_pos e_, e_, hx27]; exact congrArg _ (by omega)); (rw [if_neg e_]; exact h65 j a_ (by omega)))
              exact L18 _ 0 m1 rfl (by omega) (hs) (v13) (by have e_ : vi_ m1 47 30 = vi_ m 47 6 := v14; omega) (by intro j a_ b_; exact h62 j a_ (by omega)) (by intro j a_ b_; exact h63 j a_ (by omega)) (by intro j a_ b_; exact h64 j a_ (by omega)) (by intro j a_ b_; omega)
            · refine pw_steps 6 (s' := (69, [some (.ref 47), some (.int (ei_ (k2)))], [.int (ei_ (k2)), .ref 61, .int (ei_ (k2)), .ref 64], m1)) rfl ?_
              refine pw_ild rfl rfl (by omega) (fun x28 (hx28 : x28 = vi_ m1 61 k2) rx28 sx28 => ?_)
              have ox28 := hx28
              replace hx28 : x28 = vi_ m 61 k2 := hx28.trans (sm_v hs rfl)
              refine pw_ist rfl rfl (by omega) ?_
              refine pw_steps 2 (s' := (53, [some (.ref 47), some (.int ((ei_ (k2)) + (ei_ (1))))], [], wi_ m1 64 (k2) (x28))) rfl ?_
              refine pw_cv (congrArg (fun z_ : Int32 => ((53, [some (.ref 47), some (.int z_)], [], wi_ m1 64 (k2) (x28)) : am_S)) (ei_add rfl rfl)) ?_
              exact ih10 _ (by omega) (k2 + 1) (wi_ m1 64 (k2) (x28)) rfl (by omega) ((sm_w hs (fun _ h_ => by rw [h_]; rfl))) (v13) (by have e_ : vi_ (wi_ m1 64 (k2) (x28)) 47 30 = vi_ m 47 6 := v14; omega) (by intro j a_ b_; simp (disch := omega) only [vi_ne]; exact h62 j a_ b_) (by intro j a_ b_; simp (disch := omega) only [vi_ne]; exact h63 j a_ b_) (by intro j a_ b_; simp (disch := omega) only [vi_up, vi_ne]; by_cases e_ : j = k2; (rw [if_pos e_, e_, hx28]); (rw [if_neg e_]; exact h64 j a_ (by omega)))
        exact L11 _ 0 m1 rfl (by omega) (hs) (v6) (by have e_ : vi_ m1 47 30 = vi_ m 47 6 := v7; omega) (by intro j a_ b_; exact h62 j a_ (by omega)) (by intro j a_ b_; exact h63 j a_ (by omega)) (by intro j a_ b_; omega)
      · refine pw_steps 6 (s' := (31, [some (.ref 47), some (.int (ei_ (k)))], [.int (ei_ (k)), .ref 52, .int (ei_ (k)), .ref 62], m1)) rfl ?_
        refine pw_ild rfl rfl (by omega) (fun x29 (hx29 : x29 = vi_ m1 52 k) rx29 sx29 => ?_)
        have ox29 := hx29
        replace hx29 : x29 = vi_ m 52 k := hx29.trans (sm_v hs rfl)
        refine pw_ist rfl rfl (by omega) ?_
        refine pw_steps 6 (s' := (43, [some (.ref 47), some (.int (ei_ (k)))], [.int (ei_ (k)), .ref 53, .int (ei_ (k)), .ref 63], wi_ m1 62 (k) (x29))) rfl ?_
        refine pw_ild rfl rfl (by omega) (fun x30 (hx30 : x30 = vi_ m1 53 k) rx30 sx30 => ?_)
        have ox30 := hx30
        replace hx30 : x30 = vi_ m 53 k := hx30.trans (sm_v hs rfl)
        refine pw_ist rfl rfl (by omega) ?_
        refine pw_steps 2 (s' := (15, [some (.ref 47), some (.int ((ei_ (k)) + (ei_ (1))))], [], wi_ (wi_ m1 62 (k) (x29)) 63 (k) (x30))) rfl ?_
        refine pw_cv (congrArg (fun z_ : Int32 => ((15, [some (.ref 47), some (.int z_)], [], wi_ (wi_ m1 62 (k) (x29)) 63 (k) (x30)) : am_S)) (ei_add rfl rfl)) ?_
        exact ih3 _ (by omega) (k + 1) (wi_ (wi_ m1 62 (k) (x29)) 63 (k) (x30)) rfl (by omega) ((sm_w (sm_w hs (fun _ h_ => by rw [h_]; rfl)) (fun _ h_ => by rw [h_]; rfl))) (v6) (by have e_ : vi_ (wi_ (wi_ m1 62 (k) (x29)) 63 (k) (x30)) 47 30 = vi_ m 47 6 := v7; omega) (by intro j a_ b_; simp (disch := omega) only [vi_up, vi_ne]; by_cases e_ : j = k; (rw [if_pos e_, e_, hx29]); (rw [if_neg e_]; exact h62 j a_ (by omega))) (by intro j a_ b_; simp (disch := omega) only [vi_up, vi_ne]; by_cases e_ : j = k; (rw [if_pos e_, e_, hx30]); (rw [if_neg e_]; exact h63 j a_ (by omega)))
  exact L4 _ 0 (wi_ (wi_ m 47 (29) (1)) 47 (30) (x1)) rfl (by omega) ((sm_w (sm_w (sm_rfl m) (fun _ h_ => by rw [h_]; rfl)) (fun _ h_ => by rw [h_]; rfl))) ((ei_i (by omega))) (by have e_ : vi_ (wi_ (wi_ m 47 (29) (1)) 47 (30) (x1)) 47 30 = x1 := (ei_i (by omega)); omega) (by intro j a_ b_; omega) (by intro j a_ b_; omega)


theorem rI_img {m m2 : am_M} (hp : rP_ m) (hd : rD_ m) (f1 : vi_ m2 1 1 = vi_ m 1 1) (c8 : ∀ j, 0 ≤ j → j < 8 → vi_ m2 8 j = vi_ m 4 j) (c9 : ∀ j, 0 ≤ j → j < 8 → vi_ m2 9 j = vi_ m 5 j) (c10 : ∀ j, 0 ≤ j → j < 64 → vi_ m2 10 j = vi_ m 6 j) (c3 : vi_ m2 7 3 = vi_ m 3 3) (c4 : vi_ m2 7 4 = vi_ m 3 4) (c5 : vi_ m2 7 5 = vi_ m 3 5) (c0 : vi_ m2 0 3 = 1) (g29 : vi_ m2 47 29 = 1) (g30 : vi_ m2 47 30 = vi_ m 47 6) (g62 : ∀ j, 0 ≤ j → j < 8 → vi_ m2 62 j = vi_ m 52 j) (g63 : ∀ j, 0 ≤ j → j < 8 → vi_ m2 63 j = vi_ m 53 j) (g64 : ∀ j, 0 ≤ j → j < 64 → vi_ m2 64 j = vi_ m 61 j) (g65 : ∀ j, 0 ≤ j → j < 3 → vi_ m2 65 j = vi_ m 47 (26 + j)) : rI_ m2 := by
  obtain ⟨p1, p2, p3, p4⟩ := hp
  obtain ⟨d1, d2, d3, d4, d5, d6, d7⟩ := hd
  refine ⟨by rw [g29, c0], Or.inr c0, fun _ => ⟨by rw [g30, f1]; omega, fun j a b => ?_, fun j a b => ?_, fun j a b => ?_, ?_, ?_, ?_⟩⟩
  · rw [c8 j a b, g30, p2, g62 j a b]
    have t := d1 j a b
    refine ⟨t.1, t.2.1, fun h => ⟨t.2.2.1 h, (d3 j a h).1⟩, t.2.2.2⟩
  · rw [c9 j a b, g30, p2, g63 j a b]
    have t := d2 j a b
    exact ⟨t.1, t.2.1, fun h => (d3 j a h).2, t.2.2⟩
  · rw [c10 j a b, g64 j a b]; exact d4 j a b
  · rw [g65 0 (by decide) (by decide), c3]; exact d5
  · rw [g65 1 (by decide) (by decide), c4]; exact d6
  · rw [g65 2 (by decide) (by decide), c5]; exact d7

def pIm (k j : Nat) : Bool := k == 8 || k == 9 || k == 10 || (k == 7 && j == 3) || (k == 7 && j == 4) || (k == 7 && j == 5) || (k == 0 && j == 3) || k == 62 || k == 63 || k == 64 || k == 65 || (k == 47 && j == 29) || (k == 47 && j == 30)
theorem pCi_Im : ∀ k j, pIm k j = false → pCi k j = false := by
  intro k j h
  simp only [pCi, pIm, Bool.or_eq_false_iff, Bool.and_eq_false_iff, beq_eq_false_iff_ne, decide_eq_false_iff_not] at h ⊢
  omega

theorem pMi_Im : ∀ k j, pIm k j = false → pMi k j = false := by
  intro k j h
  simp only [pMi, pIm, Bool.or_eq_false_iff, Bool.and_eq_false_iff, beq_eq_false_iff_ne, decide_eq_false_iff_not] at h ⊢
  omega

def pCj (k j : Nat) : Bool := k == 8 || k == 9 || k == 10 || (k == 7 && j == 3) || (k == 7 && j == 4) || (k == 7 && j == 5) || (k == 0 && j == 3)
theorem pCi_Cj : ∀ k j, pCj k j = false → pCi k j = false := by
  intro k j h
  simp only [pCi, pCj, Bool.or_eq_false_iff, Bool.and_eq_false_iff, beq_eq_false_iff_ne, decide_eq_false_iff_not] at h ⊢
  omega

theorem pCj_Im : ∀ k j, pIm k j = false → pCj k j = false := by
  intro k j h
  simp only [pCj, pIm, Bool.or_eq_false_iff, Bool.and_eq_false_iff, beq_eq_false_iff_ne, decide_eq_false_iff_not] at h ⊢
  omega

set_option maxHeartbeats 4000000 in
set_option maxRecDepth 20000 in
theorem ci_image {q : am_X} {d : Nat} {m : am_M} {Q : Option Value → am_M → Prop}    (k0 : ∀ (x : Int) (m1 : am_M), (x = vi_ m 3 3) → (sm_ pCj m m1) → (∀ j, 0 ≤ j → j < 8 → vi_ m1 8 j = vi_ m 4 j) → (∀ j, 0 ≤ j → j < 8 → vi_ m1 9 j = vi_ m 5 j) → (∀ j, 0 ≤ j → j < 64 → vi_ m1 10 j = vi_ m 6 j) → (vi_ m1 7 3 = vi_ m 3 3) → (vi_ m1 7 4 = vi_ m 3 4) → (vi_ m1 7 5 = vi_ m 3 5) → (vi_ m1 0 3 = 1) → Q (some (.int (ei_ (x)))) m1) : pw_C q (d + 6) 123 [.ref 0] m Q := by
  refine pw_intro (I := iX8_image) (T := tX8_image) rfl rfl rfl ?_
  refine pw_steps 4 (s' := (8, [some (.ref 0)], [.ref 3, .ref 7], m)) rfl ?_
  refine pw_call (As := [.ref 3]) (st := []) (k := 7) rfl rfl rfl rfl rfl (Nat.le_of_ble_eq_true rfl) ?_
  refine cs_cpI  (fun m11 g2 g3 g4 g5 g6 g7 g8 => ?_)
  refine pw_steps 2 (s' := (13, [some (.ref 0)], [.int (ei_ (1)), .ref 0], m11)) rfl ?_
  refine pw_put (v := 1) rfl rfl (Or.inr (by omega)) ?_
  refine pw_cv (s' := (16, [some (.ref 0)], [], wi_ m11 0 (3) (1))) rfl ?_
  refine pw_steps 2 (s' := (20, [some (.ref 0)], [.ref 3], wi_ m11 0 (3) (1))) rfl ?_
  refine pw_call (As := []) (st := []) (k := 3) rfl rfl rfl rfl rfl (Nat.le_of_ble_eq_true rfl) ?_
  refine pw_intro (I := iX2_days) (T := tX2_days) rfl rfl rfl ?_
  refine pw_steps 1 (s' := (1, [some (.ref 3)], [.ref 3], wi_ m11 0 (3) (1))) rfl ?_
  refine pw_get rfl rfl (fun x9 (hx9 : x9 = vi_ m11 3 3) rx9 sx9 => ?_)
  have ox9 := hx9
  replace hx9 : x9 = vi_ m 3 3 := hx9.trans (sm_v g2 rfl)
  refine pw_iret rfl rfl rfl ?_
  refine pw_iret rfl rfl rfl ?_
  exact k0 x9 (wi_ m11 0 (3) (1)) (by exact hx9) ((sm_w (sm_le g2 pCi_Cj) (fun _ h_ => by rw [h_]; rfl))) (by intro j a_ b_; rw [vi_ne (by decide)]; exact g3 j a_ b_) (by intro j a_ b_; rw [vi_ne (by decide)]; exact g4 j a_ b_) (by intro j a_ b_; rw [vi_ne (by decide)]; exact g5 j a_ b_) (by exact g6) (by exact g7) (by exact g8) ((ei_i (by omega)))


def p03 (k j : Nat) : Bool := k == 0 && j == 3
theorem op_image {q : am_X} {d : Nat} {m : am_M} (hR : rR_ m) : pw_C q (d + 60) 123 [.ref 0] m (fun r1 m1 => pw_C q (d + 60) 242 [.ref 47] m1 (fun r2 m2 => ∃ x : Int, r1 = some (.int (ei_ x)) ∧ r2 = some (.int (ei_ x)) ∧ rR_ m2)) := by
  obtain ⟨hp, hd, hi, ht, hl, hz, hcc, ha, hS⟩ := id hR
  refine ci_image (fun x m1 e1 s1 c8 c9 c10 c3 c4 c5 c0 => ?_)
  refine ms_image (fun y m2 e2 s2 g29 g30 g62 g63 g64 g65 => ?_)
  have hsm : sm_ pIm m m2 := sm_tr (sm_le s1 pCj_Im) (sm_le s2 pMi_Im)
  have hI : rI_ m2 := rI_img hp hd ((sm_v s2 (k := 1) (j := 1) rfl).trans (sm_v s1 (k := 1) (j := 1) rfl)) (fun j a b => (sm_v s2 (k := 8) (j := j) rfl).trans (c8 j a b)) (fun j a b => (sm_v s2 (k := 9) (j := j) rfl).trans (c9 j a b)) (fun j a b => (sm_v s2 (k := 10) (j := j) rfl).trans (c10 j a b)) ((sm_v s2 (k := 7) (j := 3) rfl).trans c3) ((sm_v s2 (k := 7) (j := 4) rfl).trans c4) ((sm_v s2 (k := 7) (j := 5) rfl).trans c5) ((sm_v s2 (k := 0) (j := 3) rfl).trans c0) g29 (g30.trans (sm_v s1 (k := 47) (j := 6) rfl)) (fun j a b => (g62 j a b).trans (sm_v s1 (k := 52) (j := j) rfl)) (fun j a b => (g63 j a b).trans (sm_v s1 (k := 53) (j := j) rfl)) (fun j a b => (g64 j a b).trans (sm_v s1 (k := 61) (j := j) rfl)) (fun j a b => (g65 j a b).trans (sm_v s1 (k := 47) (j := 26 + j) (by simp only [pCj, Bool.or_eq_false_iff, Bool.and_eq_false_iff]; simp)))
  have hx : y = x := by rw [e2, e1, sm_v s1 (k := 47) (j := 26) rfl, hd.2.2.2.2.1]
  exact ⟨x, rfl, congrArg (fun z_ : Int => some (Value.int (ei_ z_))) hx, ⟨rP_fr hsm rfl rfl (fun _ => rfl) (fun _ => rfl) hp, rD_fr hsm rfl (fun _ => rfl) (fun _ => rfl) (fun _ => rfl) (fun _ => rfl) (fun _ => rfl) (fun _ => rfl) rfl rfl rfl rfl rfl rfl hd, hI, rT_fr hsm rfl rfl (fun _ => rfl) (fun _ => rfl) ht, rL_fr hsm rfl rfl (fun _ => rfl) (fun _ => rfl) hl, rZ_fr hsm rfl hz, rC_fr hsm rfl rfl rfl rfl (fun _ => rfl) (fun _ => rfl) (fun _ => rfl) (fun _ => rfl) (fun _ => rfl) (fun _ => rfl) (fun _ => rfl) rfl hcc, rA_fr hsm rfl rfl (fun _ => rfl) (fun _ => rfl) rfl rfl (fun _ => rfl) (fun _ => rfl) ha, rS_fr hsm (fun _ => rfl) (fun _ => rfl) rfl (fun d_ a_ b_ => by rcases sf_six ⟨a_, b_⟩ with h_ | h_ | h_ | h_ | h_ | h_ <;> subst h_ <;> exact ⟨rfl, rfl, rfl⟩) hS⟩⟩

