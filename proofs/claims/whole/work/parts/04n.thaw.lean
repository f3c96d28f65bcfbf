
/-! ===== thaw, pass, image, back ===== -/
def pBh (k j : Nat) : Bool := k == 4 || (k == 3 && j == 5)
def pMh (k j : Nat) : Bool := k == 52 || (k == 47 && j == 28)

def p4 (k _j : Nat) : Bool := k == 4
def p52 (k _j : Nat) : Bool := k == 52
theorem p4_Bh : ∀ k j, pBh k j = false → p4 k j = false := by
  intro k j h
  simp only [p4, pBh, Bool.or_eq_false_iff, Bool.and_eq_false_iff, beq_eq_false_iff_ne, decide_eq_false_iff_not] at h ⊢
  omega

theorem p52_Mh : ∀ k j, pMh k j = false → p52 k j = false := by
  intro k j h
  simp only [p52, pMh, Bool.or_eq_false_iff, Bool.and_eq_false_iff, beq_eq_false_iff_ne, decide_eq_false_iff_not] at h ⊢
  omega

set_option maxHeartbeats 4000000 in
set_option maxRecDepth 20000 in
theorem cs_home {q : am_X} {d : Nat} {m : am_M} {Q : Option Value → am_M → Prop}    (k0 : ∀ (m1 : am_M), (sm_ pBh m m1) → (∀ j, 0 ≤ j → j < 8 → vi_ m1 4 j = j) → (vi_ m1 3 5 = wr_ (vi_ m 3 5 + 1)) → Q none m1) : pw_C q (d + 1) 117 [.ref 3] m Q := by
  refine pw_intro (I := iX2_bringHome) (T := tX2_bringHome) rfl rfl rfl ?_
  refine pw_steps 2 (s' := (2, [some (.ref 3), some (.int (ei_ (0)))], [], m)) rfl ?_
  have L3 : ∀ (n1 : Nat) (k : Int) (m1 : am_M), (8 - k).toNat = n1 → (0 ≤ k ∧ k ≤ 8) → (sm_ p4 m m1) → (∀ j, 0 ≤ j → j < k → vi_ m1 4 j = j) → pw_V q (d) iX2_bringHome.2.2.2.1 tX2_bringHome Q (2, [some (.ref 3), some (.int (ei_ (k)))], [], m1) := by
    intro n1
    induction n1 using Nat.strongRecOn with
    | _ n1 ih2 =>
      intro k m1 hm_n1 v4 hs hv
      refine pw_steps 2 (s' := (5, [some (.ref 3), some (.int (ei_ (k)))], [.int (ei_ (8)), .int (ei_ (k))], m1)) rfl ?_
      refine pw_cmp rfl (by omega) (by decide) (fun (h5 : 8 ≤ k) => ?_) (fun (h5 : ¬ (8 ≤ k)) => ?_)
      · refine pw_steps 2 (s' := (23, [some (.ref 3), some (.int (ei_ (k)))], [.ref 3, .ref 3], m1)) rfl ?_
        refine pw_get rfl rfl (fun x6 (hx6 : x6 = vi_ m1 3 5) rx6 sx6 => ?_)
        have ox6 := hx6
        replace hx6 : x6 = vi_ m 3 5 := hx6.trans (sm_v hs rfl)
        refine pw_steps 2 (s' := (28, [some (.ref 3), some (.int (ei_ (k)))], [.int ((ei_ (x6)) + (ei_ (1))), .ref 3], m1)) rfl ?_
        refine pw_cv (congrArg (fun z_ : Int32 => ((28, [some (.ref 3), some (.int (ei_ (k)))], [.int z_, .ref 3], m1) : am_S)) (ei_add rfl rfl)) ?_
        refine pw_put (v := (x6 + 1)) rfl rfl (Or.inl rfl) ?_
        refine pw_cv (s' := (31, [some (.ref 3), some (.int (ei_ (k)))], [], wi_ m1 3 (5) ((x6 + 1)))) rfl ?_
        refine pw_vret rfl rfl ?_
        exact k0 (wi_ m1 3 (5) ((x6 + 1))) ((sm_w (sm_le hs p4_Bh) (fun _ h_ => by rw [h_]; rfl))) (by intro j a_ b_; rw [vi_ne (by decide)]; exact hv j a_ (by omega)) (by rw [vi_w, hx6])
      · refine pw_steps 4 (s' := (14, [some (.ref 3), some (.int (ei_ (k)))], [.int (ei_ (k)), .int (ei_ (k)), .ref 4], m1)) rfl ?_
        refine pw_ist rfl rfl (by omega) ?_
        refine pw_steps 2 (s' := (2, [some (.ref 3), some (.int ((ei_ (k)) + (ei_ (1))))], [], wi_ m1 4 (k) (k))) rfl ?_
        refine pw_cv (congrArg (fun z_ : Int32 => ((2, [some (.ref 3), some (.int z_)], [], wi_ m1 4 (k) (k)) : am_S)) (ei_add rfl rfl)) ?_
        exact ih2 _ (by omega) (k + 1) (wi_ m1 4 (k) (k)) rfl (by omega) ((sm_w hs (fun _ h_ => by rw [h_]; rfl))) (by intro j a_ b_; rw [vi_up (by omega) (by omega) a_]; by_cases e_ : j = k; (rw [if_pos e_, e_]); (rw [if_neg e_]; exact hv j a_ (by omega)))
  exact L3 _ 0 m rfl (by omega) (by exact sm_rfl m) (by intro j a_ b_; omega)

set_option maxHeartbeats 4000000 in
set_option maxRecDepth 20000 in
theorem ms_thaw {q : am_X} {d : Nat} {m : am_M} {Q : Option Value → am_M → Prop} {m0 : am_M}  (p0 : rP_ m0) (p1 : sm_ pSc m0 m) (k0 : ∀ (x : Int) (m1 : am_M), (x = mx_ (mh_ (vi_ m0 52)) (vi_ m0 1 1).toNat) → (sm_ pMh m m1) → (∀ j, 0 ≤ j → j < vi_ m0 1 1 → vi_ m1 52 j = j) → (vi_ m1 47 28 = wr_ (vi_ m0 47 28 + 1)) → Q (some (.int (ei_ (x)))) m1) : pw_C q (d + 6) 240 [.ref 47] m Q := by
  obtain ⟨hP1, hP2, hP3, hP4⟩ := id p0
  refine pw_intro (I := iX9_thaw) (T := tX9_thaw) rfl rfl rfl ?_
  refine pw_steps 1 (s' := (1, [some (.ref 47), none, none], [.ref 47], m)) rfl ?_
  refine pw_call (As := []) (st := []) (k := 47) rfl rfl rfl rfl rfl (Nat.le_of_ble_eq_true rfl) ?_
  refine mw_minutes (p0) (p1) (fun x1 g2 g3 => ?_)
  refine pw_steps 3 (s' := (7, [some (.ref 47), some (.int (ei_ (x1))), some (.int (ei_ (0)))], [], m)) rfl ?_
  have L6 : ∀ (n4 : Nat) (k : Int) (m1 : am_M), (vi_ m0 1 1 - k).toNat = n4 → (0 ≤ k ∧ k ≤ vi_ m0 1 1) → (sm_ p52 m m1) → (∀ j, 0 ≤ j → j < k → vi_ m1 52 j = j) → pw_V q (d + 5) iX9_thaw.2.2.2.1 tX9_thaw Q (7, [some (.ref 47), some (.int (ei_ (x1))), some (.int (ei_ (k)))], [], m1) := by
    intro n4
    induction n4 using Nat.strongRecOn with
    | _ n4 ih5 =>
      intro k m1 hm_n4 v7 hs hv
      refine pw_steps 2 (s' := (9, [some (.ref 47), some (.int (ei_ (x1))), some (.int (ei_ (k)))], [.ref 47, .int (ei_ (k))], m1)) rfl ?_
      refine pw_get rfl rfl (fun x8 (hx8 : x8 = vi_ m1 47 6) rx8 sx8 => ?_)
      have ox8 := hx8
      replace hx8 : x8 = vi_ m 47 6 := hx8.trans (sm_v hs rfl)
      replace hx8 : x8 = vi_ m0 47 6 := hx8.trans (sm_v p1 rfl)
      refine pw_cmp rfl (by omega) ⟨rx8, sx8⟩ (fun (h9 : x8 ≤ k) => ?_) (fun (h9 : ¬ (x8 ≤ k)) => ?_)
      · refine pw_steps 2 (s' := (30, [some (.ref 47), some (.int (ei_ (x1))), some (.int (ei_ (k)))], [.ref 47, .ref 47], m1)) rfl ?_
        refine pw_get rfl rfl (fun x10 (hx10 : x10 = vi_ m1 47 28) rx10 sx10 => ?_)
        have ox10 := hx10
        replace hx10 : x10 = vi_ m 47 28 := hx10.trans (sm_v hs rfl)
        replace hx10 : x10 = vi_ m0 47 28 := hx10.trans (sm_v p1 rfl)
        refine pw_steps 2 (s' := (35, [some (.ref 47), some (.int (ei_ (x1))), some (.int (ei_ (k)))], [.int ((ei_ (x10)) + (ei_ (1))), .ref 47], m1)) rfl ?_
        refine pw_cv (congrArg (fun z_ : Int32 => ((35, [some (.ref 47), some (.int (ei_ (x1))), some (.int (ei_ (k)))], [.int z_, .ref 47], m1) : am_S)) (ei_add rfl rfl)) ?_
        refine pw_put (v := (x10 + 1)) rfl rfl (Or.inl rfl) ?_
        refine pw_cv (s' := (38, [some (.ref 47), some (.int (ei_ (x1))), some (.int (ei_ (k)))], [], wi_ m1 47 (28) ((x10 + 1)))) rfl ?_
        refine pw_steps 1 (s' := (39, [some (.ref 47), some (.int (ei_ (x1))), some (.int (ei_ (k)))], [.int (ei_ (x1))], wi_ m1 47 (28) ((x10 + 1)))) rfl ?_
        refine pw_iret rfl rfl rfl ?_
        exact k0 x1 (wi_ m1 47 (28) ((x10 + 1))) (by exact g2) ((sm_w (sm_le hs p52_Mh) (fun _ h_ => by rw [h_]; rfl))) (by intro j a_ b_; rw [vi_ne (by decide)]; exact hv j a_ (by omega)) (by rw [vi_w, hx10])
      · refine pw_steps 4 (s' := (21, [some (.ref 47), some (.int (ei_ (x1))), some (.int (ei_ (k)))], [.int (ei_ (k)), .int (ei_ (k)), .ref 52], m1)) rfl ?_
        refine pw_ist rfl rfl (by omega) ?_
        refine pw_steps 2 (s' := (7, [some (.ref 47), some (.int (ei_ (x1))), some (.int ((ei_ (k)) + (ei_ (1))))], [], wi_ m1 52 (k) (k))) rfl ?_
        refine pw_cv (congrArg (fun z_ : Int32 => ((7, [some (.ref 47), some (.int (ei_ (x1))), some (.int z_)], [], wi_ m1 52 (k) (k)) : am_S)) (ei_add rfl rfl)) ?_
        exact ih5 _ (by omega) (k + 1) (wi_ m1 52 (k) (k)) rfl (by omega) ((sm_w hs (fun _ h_ => by rw [h_]; rfl))) (by intro j a_ b_; rw [vi_up (by omega) (by omega) a_]; by_cases e_ : j = k; (rw [if_pos e_, e_]); (rw [if_neg e_]; exact hv j a_ (by omega)))
  exact L6 _ 0 m rfl (by omega) (by exact sm_rfl m) (by intro j a_ b_; omega)


theorem rD_thaw {P : Nat → Nat → Bool} {m m2 : am_M} (h : sm_ P m m2) (e1 : P 1 1 = false) (e5 : ∀ j, P 5 j = false) (e53 : ∀ j, P 53 j = false) (e61 : ∀ j, P 61 j = false) (e6 : ∀ j, P 6 j = false) (a1 : P 3 3 = false) (a2 : P 3 4 = false) (a3 : P 47 26 = false) (a4 : P 47 27 = false) (hp : rP_ m) (hd : rD_ m) (h4 : ∀ j, 0 ≤ j → j < 8 → vi_ m2 4 j = j) (h52 : ∀ j, 0 ≤ j → j < vi_ m 1 1 → vi_ m2 52 j = j) (hc : vi_ m2 47 28 = vi_ m2 3 5) : rD_ m2 := by
  obtain ⟨d1, d2, d3, d4, d5, d6, d7⟩ := hd
  have hP := hp.1
  have f1 := sm_v h (k := 1) (j := 1) e1
  have f5 := sm_f h (k := 5) e5
  have f53 := sm_f h (k := 53) e53
  have f61 := sm_f h (k := 61) e61
  have f6 := sm_f h (k := 6) e6
  refine ⟨?_, ?_, ?_, ?_, ?_, ?_, hc⟩
  · intro j a b; rw [h4 j a b, f1]; omega
  · intro j a b; rw [f5, f1]; exact d2 j a b
  · intro j a b; rw [f1] at b; rw [h4 j a (by omega), h52 j a b, f53, f5]; exact ⟨rfl, (d3 j a b).2⟩
  · rw [f61, f6]; exact d4
  · rw [sm_v h (k := 47) (j := 26) a3, sm_v h (k := 3) (j := 3) a1]; exact d5
  · rw [sm_v h (k := 47) (j := 27) a4, sm_v h (k := 3) (j := 4) a2]; exact d6

def pThw (k j : Nat) : Bool := k == 4 || (k == 3 && j == 5) || k == 52 || (k == 47 && j == 28)
theorem pBh_Thw : ∀ k j, pThw k j = false → pBh k j = false := by
  intro k j h
  simp only [pBh, pThw, Bool.or_eq_false_iff, Bool.and_eq_false_iff, beq_eq_false_iff_ne, decide_eq_false_iff_not] at h ⊢
  omega

theorem pMh_Thw : ∀ k j, pThw k j = false → pMh k j = false := by
  intro k j h
  simp only [pMh, pThw, Bool.or_eq_false_iff, Bool.and_eq_false_iff, beq_eq_false_iff_ne, decide_eq_false_iff_not] at h ⊢
  omega

set_option maxHeartbeats 4000000 in
set_option maxRecDepth 20000 in
theorem op_thaw {q : am_X} {d : Nat} {m : am_M}   (hR : rR_ m) : pw_C q (d + 60) 116 [.ref 0] m (fun r1 m1 => pw_C q (d + 60) 240 [.ref 47] m1 (fun r2 m2 => ∃ x : Int, r1 = some (.int (ei_ x)) ∧ r2 = some (.int (ei_ x)) ∧ rR_ m2)) := by
  obtain ⟨hp, hd, hi, ht, hl, hz, hc, ha, hs⟩ := id hR
  obtain ⟨hP1, hP2, hP3, hP4⟩ := id hp
  have hmw := mW_of hp hd
  have hmf := mF_of hp hd
  refine pw_intro (I := iX8_thaw) (T := tX8_thaw) rfl rfl rfl ?_
  refine pw_steps 1 (s' := (1, [some (.ref 0), none], [.ref 0], m)) rfl ?_
  refine pw_call (As := []) (st := []) (k := 0) rfl rfl rfl rfl rfl (Nat.le_of_ble_eq_true rfl) ?_
  refine cw_minutes (hp) ((sm_rfl m)) (fun x1 g2 g3 => ?_)
  refine pw_steps 3 (s' := (9, [some (.ref 0), some (.int (ei_ (x1)))], [.ref 3], m)) rfl ?_
  refine pw_call (As := []) (st := []) (k := 3) rfl rfl rfl rfl rfl (Nat.le_of_ble_eq_true rfl) ?_
  refine cs_home  (fun m14 g5 g6 g7 => ?_)
  refine pw_steps 1 (s' := (13, [some (.ref 0), some (.int (ei_ (x1)))], [.int (ei_ (x1))], m14)) rfl ?_
  refine pw_iret rfl rfl rfl ?_
  refine ms_thaw (rP_fr g5 rfl rfl (fun _ => rfl) (fun _ => rfl) hp) (sm_rfl _) (fun x8 m19 g10 g11 g12 g13 => ?_)
  have hsm_ : sm_ pThw m m19 := (sm_tr (sm_le g5 pBh_Thw) (sm_le g11 pMh_Thw))
  have h4_ : ∀ j, 0 ≤ j → j < 8 → vi_ m19 4 j = j := fun j a_ b_ => (sm_v g11 (k := 4) (j := j) rfl).trans (g6 j a_ b_)
  have hc_ : vi_ m19 47 28 = vi_ m19 3 5 := by rw [g13, sm_v g11 (k := 3) (j := 5) rfl, g7, sm_v g5 (k := 47) (j := 28) rfl, hd.2.2.2.2.2.2]
  have h52_ : ∀ j, 0 ≤ j → j < vi_ m 1 1 → vi_ m19 52 j = j := fun j a_ b_ => g12 j a_ (by rw [sm_v g5 (k := 1) (j := 1) rfl]; exact b_)
  have hx_ : (x8 : Int) = x1 := by rw [g10, g2, sm_f g5 (k := 52) (fun _ => rfl), sm_v g5 (k := 1) (j := 1) rfl]; exact mx_mc hp hd
  exact ⟨x1, rfl, congrArg (fun z_ : Int => some (Value.int (ei_ z_))) hx_, ⟨rP_fr hsm_ rfl rfl (fun _ => rfl) (fun _ => rfl) hp, rD_thaw hsm_ rfl (fun _ => rfl) (fun _ => rfl) (fun _ => rfl) (fun _ => rfl) rfl rfl rfl rfl hp hd h4_ h52_ hc_, rI_fr hsm_ rfl rfl rfl rfl (fun _ => rfl) (fun _ => rfl) (fun _ => rfl) (fun _ => rfl) (fun _ => rfl) (fun _ => rfl) (fun _ => rfl) rfl rfl rfl hi, rT_fr hsm_ rfl rfl (fun _ => rfl) (fun _ => rfl) ht, rL_fr hsm_ rfl rfl (fun _ => rfl) (fun _ => rfl) hl, rZ_fr hsm_ rfl hz, rC_fr hsm_ rfl rfl rfl rfl (fun _ => rfl) (fun _ => rfl) (fun _ => rfl) (fun _ => rfl) (fun _ => rfl) (fun _ => rfl) (fun _ => rfl) rfl hc, rA_fr hsm_ rfl rfl (fun _ => rfl) (fun _ => rfl) rfl rfl (fun _ => rfl) (fun _ => rfl) ha, rS_fr hsm_ (fun _ => rfl) (fun _ => rfl) rfl (fun d_ a_ b_ => by rcases sf_six ⟨a_, b_⟩ with h_ | h_ | h_ | h_ | h_ | h_ <;> subst h_ <;> exact ⟨rfl, rfl, rfl⟩) hs⟩⟩

