
/-! ===== pass ===== -/
def pPs (k j : Nat) : Bool := pSc k j || k == 5 || (k == 3 && j == 3)
def pPm (k j : Nat) : Bool := pGo k j || k == 53 || (k == 47 && j == 26)
def p53 (k _j : Nat) : Bool := k == 53
theorem pSc_Ps : ∀ k j, pPs k j = false → pSc k j = false := by
  intro k j h; simp only [pPs, Bool.or_eq_false_iff] at h; exact h.1.1
theorem pGo_Pm : ∀ k j, pPm k j = false → pGo k j = false := by
  intro k j h; simp only [pPm, Bool.or_eq_false_iff] at h; exact h.1.1
theorem p53_Pm : ∀ k j, pPm k j = false → p53 k j = false := by
  intro k j h; simp only [pPm, Bool.or_eq_false_iff] at h; exact h.1.2
theorem rn_cg {m m1 : am_M} (h1 : vi_ m1 4 = vi_ m 4) (h2 : vi_ m1 14 3 = vi_ m 14 3) (h3 : vi_ m1 15 = vi_ m 15) (h4 : vi_ m1 2 = vi_ m 2) (a : Int) : rn_ m1 a = rn_ m a := by
  simp only [rn_, h1, h4, rt_cg h2 h3 h4]
theorem bn_cg {m m1 : am_M} (h1 : vi_ m1 52 = vi_ m 52) (h2 : vi_ m1 14 3 = vi_ m 14 3) (h3 : vi_ m1 15 = vi_ m 15) (h4 : vi_ m1 2 = vi_ m 2) (h5 : vi_ m1 1 1 = vi_ m 1 1) (a c : Int) : bn_ m1 a c = bn_ m a c := by
  simp only [bn_, h1, h5, rt_cg h2 h3 h4]

set_option maxHeartbeats 4000000 in
set_option maxRecDepth 20000 in
theorem cs_pass {q : am_X} {d : Nat} {m : am_M} {Q : Option Value → am_M → Prop} {a : Int}  (p0 : rP_ m) (p1 : rD_ m) (p2 : rZ_ m) (p3 : -2147483648 ≤ a ∧ a < 2147483648) (k0 : ∀ (x : Int) (m1 : am_M), (1 ≤ a ∧ a ≤ 99) → (x = su_ (fun j => lf_ (vi_ m 5 j) (rn_ m j) a) (vi_ m 1 1).toNat) → (sm_ pPs m m1) → (∀ j, 0 ≤ j → j < vi_ m 1 1 → vi_ m1 5 j = lf_ (vi_ m 5 j) (rn_ m j) a) → (∀ j, vi_ m 1 1 ≤ j → j < 8 → vi_ m1 5 j = vi_ m 5 j) → (vi_ m1 3 3 = wr_ (vi_ m 3 3 + a)) → Q (some (.int (ei_ (x)))) m1) (k1 : (¬ (1 ≤ a ∧ a ≤ 99)) → Q (some (.int (ei_ ((-1))))) m) : pw_C q (d + 9) 113 [.ref 0, .int (ei_ (a))] m Q := by
  obtain ⟨hP1, hP2, hP3, hP4⟩ := id p0
  refine pw_intro (I := iX8_pass) (T := tX8_pass) rfl rfl rfl ?_
  refine pw_steps 2 (s' := (2, [some (.ref 0), some (.int (ei_ (a))), none, none, none], [.int (ei_ (1)), .int (ei_ (a))], m)) rfl ?_
  refine pw_cmp rfl p3 (by decide) (fun (h1 : a < 1) => ?_) (fun (h1 : ¬ (a < 1)) => ?_)
  · refine pw_steps 1 (s' := (12, [some (.ref 0), some (.int (ei_ (a))), none, none, none], [.int (ei_ ((-1)))], m)) rfl ?_
    refine pw_iret rfl rfl rfl ?_
    exact k1 (by omega)
  · refine pw_steps 2 (s' := (8, [some (.ref 0), some (.int (ei_ (a))), none, none, none], [.int (ei_ (99)), .int (ei_ (a))], m)) rfl ?_
    refine pw_cmp rfl p3 (by decide) (fun (h2 : a ≤ 99) => ?_) (fun (h2 : ¬ (a ≤ 99)) => ?_)
    · refine pw_steps 4 (s' := (17, [some (.ref 0), some (.int (ei_ (a))), some (.int (ei_ (0))), some (.int (ei_ (0))), none], [], m)) rfl ?_
      have L6 : ∀ (n4 : Nat) (s : Int) (k : Int) (u3 : Option Value) (m1 : am_M), (vi_ m 1 1 - k).toNat = n4 → (0 ≤ k ∧ k ≤ vi_ m 1 1 ∧ 0 ≤ s ∧ s ≤ 999 * k) → (sm_ pPs m m1) → (∀ j, 0 ≤ j → j < k → vi_ m1 5 j = lf_ (vi_ m 5 j) (rn_ m j) a) → (∀ j, k ≤ j → j < 8 → vi_ m1 5 j = vi_ m 5 j) → (s = su_ (fun j => lf_ (vi_ m 5 j) (rn_ m j) a) k.toNat) → (vi_ m1 3 3 = vi_ m 3 3) → pw_V q (d + 8) iX8_pass.2.2.2.1 tX8_pass Q (17, [some (.ref 0), some (.int (ei_ (a))), some (.int (ei_ (s))), some (.int (ei_ (k))), u3], [], m1) := by
        intro n4
        induction n4 using Nat.strongRecOn with
        | _ n4 ih5 =>
          intro s k u3 m1 hm_n4 v7 hs hv hw hu h33
          have hp1_ := rP_fr (P := pPs) hs rfl rfl (fun _ => rfl) (fun _ => rfl) p0
          have hz1_ := rZ_fr (P := pPs) hs rfl p2
          have hw1_ := rW_fr (P := pPs) hs rfl (fun _ => rfl) p1.1
          have hrn_ : ∀ j, rn_ m1 j = rn_ m j := fun j => rn_cg (sm_f hs (k := 4) (fun _ => rfl)) (sm_v hs (k := 14) (j := 3) rfl) (sm_f hs (k := 15) (fun _ => rfl)) (sm_f hs (k := 2) (fun _ => rfl)) j
          have hF1_ : rF_ m1 := by
            intro j a_ b_
            have t1_ := p1.2.1 j a_ b_; have t2_ := rn_b m j; have t3_ := lf_b (l := vi_ m 5 j) (r := rn_ m j) (n := a) t1_.1 t2_.1 (by omega); have t4_ := sm_v hs (k := 1) (j := 1) rfl
            by_cases c_ : j < k
            · rw [hv j a_ c_]; omega
            · rw [hw j (by omega) b_]; omega
          refine pw_steps 3 (s' := (22, [some (.ref 0), some (.int (ei_ (a))), some (.int (ei_ (s))), some (.int (ei_ (k))), u3], [.ref 1, .int (ei_ (k))], m1)) rfl ?_
          refine pw_call (As := []) (st := [.int (ei_ (k))]) (k := 1) rfl rfl rfl rfl rfl (Nat.le_of_ble_eq_true rfl) ?_
          refine pw_intro (I := iX3_size) (T := tX3_size) rfl rfl rfl ?_
          refine pw_steps 1 (s' := (1, [some (.ref 1)], [.ref 1], m1)) rfl ?_
          refine pw_get rfl rfl (fun x8 (hx8 : x8 = vi_ m1 1 1) rx8 sx8 => ?_)
          have ox8 := hx8
          replace hx8 : x8 = vi_ m 1 1 := hx8.trans (sm_v hs rfl)
          refine pw_iret rfl rfl rfl ?_
          refine pw_cmp rfl (by omega) ⟨rx8, sx8⟩ (fun (h9 : x8 ≤ k) => ?_) (fun (h9 : ¬ (x8 ≤ k)) => ?_)
          · refine pw_steps 3 (s' := (62, [some (.ref 0), some (.int (ei_ (a))), some (.int (ei_ (s))), some (.int (ei_ (k))), u3], [.int (ei_ (a)), .ref 3], m1)) rfl ?_
            refine pw_call (As := [.int (ei_ (a))]) (st := []) (k := 3) rfl rfl rfl rfl rfl (Nat.le_of_ble_eq_true rfl) ?_
            refine pw_intro (I := iX2_addDays) (T := tX2_addDays) rfl rfl rfl ?_
            refine pw_steps 2 (s' := (2, [some (.ref 3), some (.int (ei_ (a)))], [.ref 3, .ref 3], m1)) rfl ?_
            refine pw_get rfl rfl (fun x10 (hx10 : x10 = vi_ m1 3 3) rx10 sx10 => ?_)
            have ox10 := hx10
            replace hx10 : x10 = vi_ m 3 3 := hx10.trans h33
            refine pw_steps 2 (s' := (7, [some (.ref 3), some (.int (ei_ (a)))], [.int ((ei_ (x10)) + (ei_ (a))), .ref 3], m1)) rfl ?_
            refine pw_cv (congrArg (fun z_ : Int32 => ((7, [some (.ref 3), some (.int (ei_ (a)))], [.int z_, .ref 3], m1) : am_S)) (ei_add rfl rfl)) ?_
            refine pw_put (v := (x10 + a)) rfl rfl (Or.inl rfl) ?_
            refine pw_cv (s' := (10, [some (.ref 3), some (.int (ei_ (a)))], [], wi_ m1 3 (3) ((x10 + a)))) rfl ?_
            refine pw_vret rfl rfl ?_
            refine pw_steps 1 (s' := (66, [some (.ref 0), some (.int (ei_ (a))), some (.int (ei_ (s))), some (.int (ei_ (k))), u3], [.int (ei_ (s))], wi_ m1 3 (3) ((x10 + a)))) rfl ?_
            refine pw_iret rfl rfl rfl ?_
            exact k0 s (wi_ m1 3 (3) ((x10 + a))) (by omega) (by rw [← show k = vi_ m 1 1 by omega]; exact hu) ((sm_w hs (fun _ h_ => by rw [h_]; rfl))) (by intro j a_ b_; rw [vi_ne (by decide)]; exact hv j a_ (by omega)) (by intro j a_ b_; rw [vi_ne (by decide)]; exact hw j (by omega) b_) (by rw [vi_w, hx10])
          · refine pw_steps 3 (s' := (31, [some (.ref 0), some (.int (ei_ (a))), some (.int (ei_ (s))), some (.int (ei_ (k))), u3], [.int (ei_ (a)), .int (ei_ (k)), .ref 0], m1)) rfl ?_
            refine pw_call (As := [.int (ei_ (k)), .int (ei_ (a))]) (st := []) (k := 0) rfl rfl rfl rfl rfl (Nat.le_of_ble_eq_true rfl) ?_
            refine cw_leftAfter (hp1_) (hz1_) ((sm_rfl m1)) (hw1_) (hF1_) (by omega) (by omega) (fun x11 m112 g13 g14 g15 => ?_)
            rw [hw k (by omega) (by omega), hrn_ k] at g13
            refine pw_steps 5 (s' := (43, [some (.ref 0), some (.int (ei_ (a))), some (.int (ei_ (s))), some (.int (ei_ (k))), some (.int (ei_ (x11)))], [.int (ei_ (x11)), .int (ei_ (k)), .ref 3], m112)) rfl ?_
            refine pw_call (As := [.int (ei_ (k)), .int (ei_ (x11))]) (st := []) (k := 3) rfl rfl rfl rfl rfl (Nat.le_of_ble_eq_true rfl) ?_
            refine pw_intro (I := iX2_setLeft) (T := tX2_setLeft) rfl rfl rfl ?_
            refine pw_steps 1 (s' := (1, [some (.ref 3), some (.int (ei_ (k))), some (.int (ei_ (x11)))], [.int (ei_ (k))], m112)) rfl ?_
            refine pw_callS (As := [.int (ei_ (k))]) (st := []) rfl (by decide) rfl rfl (Nat.le_of_ble_eq_true rfl) ?_
            refine pw_intro (I := iX2_isIn) (T := tX2_isIn) rfl rfl rfl ?_
            refine pw_steps 1 (s' := (1, [some (.int (ei_ (k)))], [.int (ei_ (k))], m112)) rfl ?_
            refine pw_ifF rfl (by omega) (show ¬ (k < 0) by omega) ?_
            refine pw_steps 2 (s' := (7, [some (.int (ei_ (k)))], [.int (ei_ (8)), .int (ei_ (k))], m112)) rfl ?_
            refine pw_cmpF rfl (by omega) (by decide) (show ¬ (8 ≤ k) by omega) ?_
            refine pw_steps 2 (s' := (15, [some (.int (ei_ (k)))], [.int (ei_ (1))], m112)) rfl ?_
            refine pw_iret rfl rfl rfl ?_
            refine pw_ifF rfl (by decide) (show ¬ (1 = 0) by decide) ?_
            refine pw_steps 4 (s' := (13, [some (.ref 3), some (.int (ei_ (k))), some (.int (ei_ (x11)))], [.int (ei_ (x11)), .int (ei_ (k)), .ref 5], m112)) rfl ?_
            refine pw_ist rfl rfl (by omega) ?_
            refine pw_vret rfl rfl ?_
            refine pw_steps 6 (s' := (17, [some (.ref 0), some (.int (ei_ (a))), some (.int ((ei_ (s)) + (ei_ (x11)))), some (.int ((ei_ (k)) + (ei_ (1)))), some (.int (ei_ (x11)))], [], wi_ m112 5 (k) (x11))) rfl ?_
            refine pw_cv (congrArg (fun z_ : Int32 => ((17, [some (.ref 0), some (.int (ei_ (a))), some (.int z_), some (.int ((ei_ (k)) + (ei_ (1)))), some (.int (ei_ (x11)))], [], wi_ m112 5 (k) (x11)) : am_S)) (ei_add rfl rfl)) ?_
            refine pw_cv (congrArg (fun z_ : Int32 => ((17, [some (.ref 0), some (.int (ei_ (a))), some (.int (ei_ ((s + x11)))), some (.int z_), some (.int (ei_ (x11)))], [], wi_ m112 5 (k) (x11)) : am_S)) (ei_add rfl rfl)) ?_
            exact ih5 _ (by omega) (s + x11) (k + 1) (some (.int (ei_ (x11)))) (wi_ m112 5 (k) (x11)) rfl (by omega) ((sm_w (sm_tr hs (sm_le g14 pSc_Ps)) (fun _ h_ => by rw [h_]; rfl))) (by intro j a_ b_; rw [vi_up (by omega) (by omega) a_]; by_cases e_ : j = k; (rw [if_pos e_, e_]; exact g13); (rw [if_neg e_, sm_v g14 rfl]; exact hv j a_ (by omega))) (by intro j a_ b_; rw [vi_up (by omega) (by omega) (by omega), if_neg (by omega), sm_v g14 rfl]; exact hw j (by omega) b_) (by rw [su_s (by omega), ← hu, g13]) (((sm_v g14 rfl).trans h33))
      exact L6 _ 0 0 none m rfl (by omega) (by exact sm_rfl m) (by intro j a_ b_; omega) (by intro j a_ b_; rfl) (by rfl) (by rfl)
    · refine pw_steps 1 (s' := (12, [some (.ref 0), some (.int (ei_ (a))), none, none, none], [.int (ei_ ((-1)))], m)) rfl ?_
      refine pw_iret rfl rfl rfl ?_
      exact k1 (by omega)


theorem md_all2 {q : am_X} {d : Nat} {m0 m : am_M} {Q : Option Value → am_M → Prop} (p0 : rP_ m0) (p1 : sm_ pPm m0 m) (p2 : ∀ j, 0 ≤ j → j < vi_ m0 1 1 → 0 ≤ vi_ m 57 j ∧ vi_ m 57 j ≤ 999) (k0 : ∀ x : Int, x = su_ (vi_ m 57) (vi_ m0 1 1).toNat → (0 ≤ x ∧ x ≤ 8000) → Q (some (.int (ei_ x))) m) : pw_C q (d + 2) 212 [.ref 47] m Q := by
  have e1 : vi_ m 1 1 = vi_ m0 1 1 := sm_v p1 rfl
  refine md_all (m0 := m) (rP_fr p1 rfl rfl (fun _ => rfl) (fun _ => rfl) p0) (sm_rfl m) (fun j a b => p2 j a (by omega)) (fun x h1 h2 => k0 x (by rw [← e1]; exact h1) h2)

set_option maxHeartbeats 4000000 in
set_option maxRecDepth 20000 in
theorem ms_pass {q : am_X} {d : Nat} {m : am_M} {Q : Option Value → am_M → Prop} {a : Int}  (p0 : rP_ m) (p1 : mW_ m) (p2 : rL_ m) (p3 : mF_ m) (p4 : -2147483648 ≤ a ∧ a < 2147483648) (k0 : ∀ (x : Int) (m1 : am_M), (1 ≤ a ∧ a ≤ 99) → (x = su_ (fun j => lf_ (vi_ m 53 j) (bn_ m j (vi_ m 2 32)) a) (vi_ m 1 1).toNat) → (sm_ pPm m m1) → (∀ j, 0 ≤ j → j < vi_ m 1 1 → vi_ m1 53 j = lf_ (vi_ m 53 j) (bn_ m j (vi_ m 2 32)) a) → (vi_ m1 47 26 = wr_ (vi_ m 47 26 + a)) → Q (some (.int (ei_ (x)))) m1) (k1 : (¬ (1 ≤ a ∧ a ≤ 99)) → Q (some (.int (ei_ ((-1))))) m) : pw_C q (d + 60) 239 [.ref 47, .int (ei_ (a))] m Q := by
  obtain ⟨hP1, hP2, hP3, hP4⟩ := id p0
  refine pw_intro (I := iX9_pass) (T := tX9_pass) rfl rfl rfl ?_
  refine pw_steps 4 (s' := (6, [some (.ref 47), some (.int (ei_ (a))), none], [.long (el_ (99)), .long (el_ (1)), .long ((ei_ (a)).toInt64)], m)) rfl ?_
  refine pw_cv (congrArg (fun z_ : Int64 => ((6, [some (.ref 47), some (.int (ei_ (a))), none], [.long (el_ (99)), .long (el_ (1)), .long z_], m) : am_S)) (el_i2l p4 rfl)) ?_
  refine pw_callS (As := [.long (el_ (a)), .long (el_ (1)), .long (el_ (99))]) (st := []) rfl (by decide) rfl rfl (Nat.le_of_ble_eq_true rfl) ?_
  refine mt_within (by omega) (by omega) (by omega) (fun g1 g2 => ?_) (fun g3 => ?_) (fun g4 => ?_)
  · refine pw_ifT rfl (by decide) (show ¬ 1 = 0 by decide) ?_
    refine pw_steps 2 (s' := (16, [some (.ref 47), some (.int (ei_ (a))), none], [.int (ei_ (a)), .ref 47], m)) rfl ?_
    refine pw_call (As := [.int (ei_ (a))]) (st := []) (k := 47) rfl rfl rfl rfl rfl (Nat.le_of_ble_eq_true rfl) ?_
    refine md_goes (p0) (p1) ((sm_rfl m)) (p2) (p3) (by omega) (fun m15 g6 g7 => ?_)
    refine pw_steps 2 (s' := (21, [some (.ref 47), some (.int (ei_ (a))), some (.int (ei_ (0)))], [], m15)) rfl ?_
    have L10 : ∀ (n8 : Nat) (k : Int) (m1 : am_M), (vi_ m 1 1 - k).toNat = n8 → (0 ≤ k ∧ k ≤ vi_ m 1 1) → (sm_ p53 m15 m1) → (∀ j, 0 ≤ j → j < k → vi_ m1 53 j = lf_ (vi_ m 53 j) (bn_ m j (vi_ m 2 32)) a) → pw_V q (d + 59) iX9_pass.2.2.2.1 tX9_pass Q (21, [some (.ref 47), some (.int (ei_ (a))), some (.int (ei_ (k)))], [], m1) := by
      intro n8
      induction n8 using Nat.strongRecOn with
      | _ n8 ih9 =>
        intro k m1 hm_n8 v11 hs hv
        refine pw_steps 2 (s' := (23, [some (.ref 47), some (.int (ei_ (a))), some (.int (ei_ (k)))], [.ref 47, .int (ei_ (k))], m1)) rfl ?_
        refine pw_get rfl rfl (fun x12 (hx12 : x12 = vi_ m1 47 6) rx12 sx12 => ?_)
        have ox12 := hx12
        replace hx12 : x12 = vi_ m15 47 6 := hx12.trans (sm_v hs rfl)
        replace hx12 : x12 = vi_ m 47 6 := hx12.trans (sm_v g6 rfl)
        refine pw_cmp rfl (by omega) ⟨rx12, sx12⟩ (fun (h13 : x12 ≤ k) => ?_) (fun (h13 : ¬ (x12 ≤ k)) => ?_)
        · refine pw_steps 2 (s' := (49, [some (.ref 47), some (.int (ei_ (a))), some (.int (ei_ (k)))], [.ref 47, .ref 47], m1)) rfl ?_
          refine pw_get rfl rfl (fun x14 (hx14 : x14 = vi_ m1 47 26) rx14 sx14 => ?_)
          have ox14 := hx14
          replace hx14 : x14 = vi_ m15 47 26 := hx14.trans (sm_v hs rfl)
          replace hx14 : x14 = vi_ m 47 26 := hx14.trans (sm_v g6 rfl)
          refine pw_steps 2 (s' := (54, [some (.ref 47), some (.int (ei_ (a))), some (.int (ei_ (k)))], [.int ((ei_ (x14)) + (ei_ (a))), .ref 47], m1)) rfl ?_
          refine pw_cv (congrArg (fun z_ : Int32 => ((54, [some (.ref 47), some (.int (ei_ (a))), some (.int (ei_ (k)))], [.int z_, .ref 47], m1) : am_S)) (ei_add rfl rfl)) ?_
          refine pw_put (v := (x14 + a)) rfl rfl (Or.inl rfl) ?_
          refine pw_cv (s' := (57, [some (.ref 47), some (.int (ei_ (a))), some (.int (ei_ (k)))], [], wi_ m1 47 (26) ((x14 + a)))) rfl ?_
          refine pw_steps 1 (s' := (58, [some (.ref 47), some (.int (ei_ (a))), some (.int (ei_ (k)))], [.ref 47], wi_ m1 47 (26) ((x14 + a)))) rfl ?_
          refine pw_call (As := []) (st := []) (k := 47) rfl rfl rfl rfl rfl (Nat.le_of_ble_eq_true rfl) ?_
          refine md_all2 (p0) ((sm_w (sm_tr (sm_le g6 pGo_Pm) (sm_le hs p53_Pm)) (fun _ h_ => by rw [h_]; rfl))) (fun j a_ b_ => by rw [vi_ne (by decide), sm_f hs (k := 57) (fun _ => rfl), g7 j a_ b_]; have h1_ := p3 j a_ b_; have h3_ := lf_b (l := vi_ m 53 j) (r := bn_ m j (vi_ m 2 32)) (n := a) h1_.1 (bn_b m j _).1 (by omega); omega) (fun x15 g16 g17 => ?_)
          refine pw_iret rfl rfl rfl ?_
          exact k0 x15 (wi_ m1 47 (26) ((x14 + a))) (by omega) (by rw [g16]; exact su_cg _ (fun j a_ b_ => by rw [vi_ne (by decide), sm_f hs (k := 57) (fun _ => rfl)]; exact g7 j a_ (by omega))) ((sm_w (sm_tr (sm_le g6 pGo_Pm) (sm_le hs p53_Pm)) (fun _ h_ => by rw [h_]; rfl))) (by intro j a_ b_; rw [vi_ne (by decide)]; exact hv j a_ (by omega)) (by rw [vi_w, hx14])
        · refine pw_steps 6 (s' := (39, [some (.ref 47), some (.int (ei_ (a))), some (.int (ei_ (k)))], [.int (ei_ (k)), .ref 57, .int (ei_ (k)), .ref 53], m1)) rfl ?_
          refine pw_ild rfl rfl (by omega) (fun x18 (hx18 : x18 = vi_ m1 57 k) rx18 sx18 => ?_)
          have ox18 := hx18
          replace hx18 : x18 = vi_ m15 57 k := hx18.trans (sm_v hs rfl)
          refine pw_ist rfl rfl (by omega) ?_
          refine pw_steps 2 (s' := (21, [some (.ref 47), some (.int (ei_ (a))), some (.int ((ei_ (k)) + (ei_ (1))))], [], wi_ m1 53 (k) (x18))) rfl ?_
          refine pw_cv (congrArg (fun z_ : Int32 => ((21, [some (.ref 47), some (.int (ei_ (a))), some (.int z_)], [], wi_ m1 53 (k) (x18)) : am_S)) (ei_add rfl rfl)) ?_
          exact ih9 _ (by omega) (k + 1) (wi_ m1 53 (k) (x18)) rfl (by omega) ((sm_w hs (fun _ h_ => by rw [h_]; rfl))) (by intro j a_ b_; rw [vi_up (by omega) (by omega) a_]; by_cases e_ : j = k; (rw [if_pos e_, e_, hx18]; exact g7 k (by omega) (by omega)); (rw [if_neg e_]; exact hv j a_ (by omega)))
    exact L10 _ 0 m15 rfl (by omega) (by exact sm_rfl _) (by intro j a_ b_; omega)
  · refine pw_ifF rfl (by decide) (show ¬ (¬ 0 = 0) by decide) ?_
    refine pw_steps 1 (s' := (13, [some (.ref 47), some (.int (ei_ (a))), none], [.int (ei_ ((-1)))], m)) rfl ?_
    refine pw_iret rfl rfl rfl ?_
    exact k1 (by omega)
  · refine pw_ifF rfl (by decide) (show ¬ (¬ 0 = 0) by decide) ?_
    refine pw_steps 1 (s' := (13, [some (.ref 47), some (.int (ei_ (a))), none], [.int (ei_ ((-1)))], m)) rfl ?_
    refine pw_iret rfl rfl rfl ?_
    exact k1 (by omega)

def pPas (k j : Nat) : Bool := k == 5 || (k == 3 && j == 3) || k == 16 || k == 17 || k == 18 || k == 19 || k == 20 || k == 21 || k == 22 || k == 23 || k == 45 || k == 46 || k == 53 || (k == 47 && j == 26) || k == 56 || k == 57 || k == 58 || k == 59 || k == 60 || (k == 47 && j == 13) || (k == 47 && j == 14) || (k == 47 && j == 15) || (k == 47 && j == 16) || (k == 47 && j == 17) || (k == 47 && j == 22) || (k == 47 && j == 23)

theorem pPs_Pas : ∀ k j, pPas k j = false → pPs k j = false := by
  intro k j h
  simp only [pPas, pPs, pSc, Bool.or_eq_false_iff, Bool.and_eq_false_iff, beq_eq_false_iff_ne, decide_eq_false_iff_not] at h ⊢
  omega
theorem pPm_Pas : ∀ k j, pPas k j = false → pPm k j = false := by
  intro k j h
  simp only [pPas, pPm, pGo, Bool.or_eq_false_iff, Bool.and_eq_false_iff, beq_eq_false_iff_ne, decide_eq_false_iff_not] at h ⊢
  omega
theorem rD_pass {m m1 m2 : am_M} {a : Int} (hp : rP_ m) (hd : rD_ m) (ha : 1 ≤ a ∧ a ≤ 99) (s1 : sm_ pPs m m1) (s2 : sm_ pPm m1 m2) (c1 : ∀ j, 0 ≤ j → j < vi_ m 1 1 → vi_ m1 5 j = lf_ (vi_ m 5 j) (rn_ m j) a) (c2 : ∀ j, vi_ m 1 1 ≤ j → j < 8 → vi_ m1 5 j = vi_ m 5 j) (c3 : vi_ m1 3 3 = wr_ (vi_ m 3 3 + a)) (e1 : ∀ j, 0 ≤ j → j < vi_ m1 1 1 → vi_ m2 53 j = lf_ (vi_ m1 53 j) (bn_ m1 j (vi_ m1 2 32)) a) (e2 : vi_ m2 47 26 = wr_ (vi_ m1 47 26 + a)) : rD_ m2 := by
  obtain ⟨d1, d2, d3, d4, d5, d6, d7⟩ := id hd
  have hP := hp.1
  have f1 := sm_v s1 (k := 1) (j := 1) rfl
  have hb : ∀ j, bn_ m1 j (vi_ m1 2 32) = bn_ m j (vi_ m 2 32) := fun j => by
    rw [sm_f s1 (k := 2) (fun _ => rfl)]
    exact bn_cg (sm_f s1 (k := 52) (fun _ => rfl)) (sm_v s1 (k := 14) (j := 3) rfl) (sm_f s1 (k := 15) (fun _ => rfl)) (sm_f s1 (k := 2) (fun _ => rfl)) f1 j _
  have g53 := sm_f s1 (k := 53) (fun _ => rfl)
  have g1 := sm_v s2 (k := 1) (j := 1) rfl
  have g5 := sm_f s2 (k := 5) (fun _ => rfl)
  have g4 : vi_ m2 4 = vi_ m 4 := (sm_f s2 (k := 4) (fun _ => rfl)).trans (sm_f s1 (k := 4) (fun _ => rfl))
  have g52 : vi_ m2 52 = vi_ m 52 := (sm_f s2 (k := 52) (fun _ => rfl)).trans (sm_f s1 (k := 52) (fun _ => rfl))
  have g61 : vi_ m2 61 = vi_ m 61 := (sm_f s2 (k := 61) (fun _ => rfl)).trans (sm_f s1 (k := 61) (fun _ => rfl))
  have g6 : vi_ m2 6 = vi_ m 6 := (sm_f s2 (k := 6) (fun _ => rfl)).trans (sm_f s1 (k := 6) (fun _ => rfl))
  have hl : ∀ j, 0 ≤ j → j < vi_ m 1 1 → 0 ≤ lf_ (vi_ m 5 j) (rn_ m j) a ∧ lf_ (vi_ m 5 j) (rn_ m j) a ≤ 999 := fun j a_ b_ => by
    have t1 := d2 j a_ (by omega)
    have t3 := lf_b (l := vi_ m 5 j) (r := rn_ m j) (n := a) t1.1 (rn_b m j).1 (by omega)
    omega
  refine ⟨?_, ?_, ?_, ?_, ?_, ?_, ?_⟩
  · intro j a_ b_; rw [g4, g1, f1]; exact d1 j a_ b_
  · intro j a_ b_
    rw [g5, g1, f1]
    by_cases c : j < vi_ m 1 1
    · rw [c1 j a_ c]; have := hl j a_ c; omega
    · rw [c2 j (by omega) b_]; exact d2 j a_ b_
  · intro j a_ b_
    rw [g1, f1] at b_
    rw [g52, g4, g5, e1 j a_ (by omega), c1 j a_ b_, g53, hb, lf_mc hp hd ⟨a_, b_⟩]
    exact ⟨(d3 j a_ b_).1, rfl⟩
  · rw [g61, g6]; exact d4
  · rw [e2, sm_v s1 (k := 47) (j := 26) rfl, sm_v s2 (k := 3) (j := 3) rfl, c3, d5]
  · rw [sm_v s2 (k := 47) (j := 27) rfl, sm_v s1 (k := 47) (j := 27) rfl, sm_v s2 (k := 3) (j := 4) rfl, sm_v s1 (k := 3) (j := 4) rfl]; exact d6
  · rw [sm_v s2 (k := 47) (j := 28) rfl, sm_v s1 (k := 47) (j := 28) rfl, sm_v s2 (k := 3) (j := 5) rfl, sm_v s1 (k := 3) (j := 5) rfl]; exact d7
theorem op_pass {q : am_X} {d : Nat} {m : am_M} {a : Int} (q0 : -2147483648 ≤ a ∧ a < 2147483648) (hR : rR_ m) : pw_C q (d + 60) 113 [.ref 0, .int (ei_ a)] m (fun r1 m1 => pw_C q (d + 60) 239 [.ref 47, .int (ei_ a)] m1 (fun r2 m2 => ∃ x : Int, r1 = some (.int (ei_ x)) ∧ r2 = some (.int (ei_ x)) ∧ rR_ m2)) := by
  obtain ⟨hp, hd, hi, ht, hl, hz, hc, ha, hs⟩ := id hR
  refine cs_pass hp hd hz q0 (fun x m1 v1 e1 s1 c1 c2 c3 => ?_) (fun v1 => ?_)
  · refine ms_pass (rP_fr s1 rfl rfl (fun _ => rfl) (fun _ => rfl) hp) (mW_sm s1 rfl (fun _ => rfl) (mW_of hp hd)) (rL_fr s1 rfl rfl (fun _ => rfl) (fun _ => rfl) hl) ?_ q0 (fun y m2 v2 e2 s2 g1 g2 => ?_) (fun v2 => absurd v1 v2)
    · intro j a_ b_
      rw [sm_f s1 (k := 53) (fun _ => rfl)]
      exact mF_of hp hd j a_ (by rw [← sm_v s1 (k := 1) (j := 1) rfl]; exact b_)
    · have hsm : sm_ pPas m m2 := sm_tr (sm_le s1 pPs_Pas) (sm_le s2 pPm_Pas)
      have f1 := sm_v s1 (k := 1) (j := 1) rfl
      have hx : y = x := by
        rw [e2, e1, f1]
        refine su_cg _ (fun j a_ b_ => ?_)
        rw [sm_f s1 (k := 53) (fun _ => rfl), sm_f s1 (k := 2) (fun _ => rfl), bn_cg (sm_f s1 (k := 52) (fun _ => rfl)) (sm_v s1 (k := 14) (j := 3) rfl) (sm_f s1 (k := 15) (fun _ => rfl)) (sm_f s1 (k := 2) (fun _ => rfl)) f1, lf_mc hp hd ⟨a_, by omega⟩]
      exact ⟨x, rfl, congrArg (fun z_ : Int => some (Value.int (ei_ z_))) hx, ⟨rP_fr hsm rfl rfl (fun _ => rfl) (fun _ => rfl) hp, rD_pass hp hd v1 s1 s2 c1 c2 c3 g1 g2, rI_fr hsm rfl rfl rfl rfl (fun _ => rfl) (fun _ => rfl) (fun _ => rfl) (fun _ => rfl) (fun _ => rfl) (fun _ => rfl) (fun _ => rfl) rfl rfl rfl hi, rT_fr hsm rfl rfl (fun _ => rfl) (fun _ => rfl) ht, rL_fr hsm rfl rfl (fun _ => rfl) (fun _ => rfl) hl, rZ_fr hsm rfl hz, rC_fr hsm rfl rfl rfl rfl (fun _ => rfl) (fun _ => rfl) (fun _ => rfl) (fun _ => rfl) (fun _ => rfl) (fun _ => rfl) (fun _ => rfl) rfl hc, rA_fr hsm rfl rfl (fun _ => rfl) (fun _ => rfl) rfl rfl (fun _ => rfl) (fun _ => rfl) ha, rS_fr hsm (fun _ => rfl) (fun _ => rfl) rfl (fun d_ a_ b_ => by rcases sf_six ⟨a_, b_⟩ with h_ | h_ | h_ | h_ | h_ | h_ <;> subst h_ <;> exact ⟨rfl, rfl, rfl⟩) hs⟩⟩
  · refine ms_pass hp (mW_of hp hd) hl (mF_of hp hd) q0 (fun y m2 v2 e2 s2 g1 g2 => absurd v2 v1) (fun v2 => ?_)
    exact ⟨-1, rfl, rfl, hR⟩

