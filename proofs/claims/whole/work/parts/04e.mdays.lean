
def p57 (k _j : Nat) : Bool := k == 57
theorem p57_Go : ∀ k j, pGo k j = false → p57 k j = false := by
  intro k j h
  simp only [pGo, p57, Bool.or_eq_false_iff] at h ⊢
  exact h.1.2
theorem p57_Sc : ∀ k j, pSc k j = false → p57 k j = false := fun k j h => p57_Go k j (pGo_Sc k j h)
/-- how much is left, of the model -/
def mF_ (m : am_M) : Prop := ∀ j, 0 ≤ j → j < vi_ m 1 1 → 0 ≤ vi_ m 53 j ∧ vi_ m 53 j ≤ 999
/-- the cold now -/
def cd_ (m : am_M) : Int := vi_ m 2 32
theorem bn_r {m0 m : am_M} {P : Nat → Nat → Bool} {k j v x : Int} (h : sm_ P m0 m) (hv : v = max 0 (x - bn_ m0 j k)) (hx : 0 ≤ x ∧ x ≤ 999) : 0 ≤ v ∧ v ≤ 999 := by
  have := bn_b m0 j k; omega

set_option maxHeartbeats 4000000 in
set_option maxRecDepth 20000 in
theorem md_begins {q : am_X} {d : Nat} {m : am_M} {Q : Option Value → am_M → Prop} {m0 : am_M}  (p0 : rP_ m0) (p1 : sm_ pSc m0 m) (k0 : ∀ (m1 : am_M), (sm_ p57 m m1) → (∀ j, 0 ≤ j → j < vi_ m0 1 1 → vi_ m1 57 j = vi_ m0 53 j) → Q none m1) : pw_C q (d + 1) 207 [.ref 47] m Q := by
  obtain ⟨hP1, hP2, hP3, hP4⟩ := id p0
  refine pw_intro (I := iX9_begins1) (T := tX9_begins1) rfl rfl rfl ?_
  refine pw_steps 2 (s' := (2, [some (.ref 47), some (.int (ei_ (0)))], [], m)) rfl ?_
  have L3 : ∀ (n1 : Nat) (k : Int) (m1 : am_M), (vi_ m0 1 1 - k).toNat = n1 → (0 ≤ k ∧ k ≤ vi_ m0 1 1) → (sm_ p57 m m1) → (∀ j, 0 ≤ j → j < k → vi_ m1 57 j = vi_ m0 53 j) → pw_V q (d) iX9_begins1.2.2.2.1 tX9_begins1 Q (2, [some (.ref 47), some (.int (ei_ (k)))], [], m1) := by
    intro n1
    induction n1 using Nat.strongRecOn with
    | _ n1 ih2 =>
      intro k m1 hm_n1 v4 hs hv
      refine pw_steps 2 (s' := (4, [some (.ref 47), some (.int (ei_ (k)))], [.ref 47, .int (ei_ (k))], m1)) rfl ?_
      refine pw_get rfl rfl (fun x5 (hx5 : x5 = vi_ m1 47 6) rx5 sx5 => ?_)
      have ox5 := hx5
      replace hx5 : x5 = vi_ m 47 6 := hx5.trans (sm_v hs rfl)
      replace hx5 : x5 = vi_ m0 47 6 := hx5.trans (sm_v p1 rfl)
      refine pw_cmp rfl (by omega) ⟨rx5, sx5⟩ (fun (h6 : x5 ≤ k) => ?_) (fun (h6 : ¬ (x5 ≤ k)) => ?_)
      · refine pw_vret rfl rfl ?_
        exact k0 m1 (hs) (by intro j a_ b_; exact hv j a_ (by omega))
      · refine pw_steps 6 (s' := (20, [some (.ref 47), some (.int (ei_ (k)))], [.int (ei_ (k)), .ref 53, .int (ei_ (k)), .ref 57], m1)) rfl ?_
        refine pw_ild rfl rfl (by omega) (fun x7 (hx7 : x7 = vi_ m1 53 k) rx7 sx7 => ?_)
        have ox7 := hx7
        replace hx7 : x7 = vi_ m 53 k := hx7.trans (sm_v hs rfl)
        replace hx7 : x7 = vi_ m0 53 k := hx7.trans (sm_v p1 rfl)
        refine pw_ist rfl rfl (by omega) ?_
        refine pw_steps 2 (s' := (2, [some (.ref 47), some (.int ((ei_ (k)) + (ei_ (1))))], [], wi_ m1 57 (k) (x7))) rfl ?_
        refine pw_cv (congrArg (fun z_ : Int32 => ((2, [some (.ref 47), some (.int z_)], [], wi_ m1 57 (k) (x7)) : am_S)) (ei_add rfl rfl)) ?_
        exact ih2 _ (by omega) (k + 1) (wi_ m1 57 (k) (x7)) rfl (by omega) ((sm_w hs (fun _ h_ => by rw [h_]; rfl))) (by intro j a_ b_; rw [vi_up (by omega) (by omega) a_]; by_cases e_ : j = k; (rw [if_pos e_, e_]; exact hx7); (rw [if_neg e_]; exact hv j a_ (by omega)))
  exact L3 _ 0 m rfl (by omega) (by exact sm_rfl m) (by intro j a_ b_; omega)

set_option maxHeartbeats 4000000 in
set_option maxRecDepth 20000 in
theorem md_day {q : am_X} {d : Nat} {m : am_M} {Q : Option Value → am_M → Prop} {m0 : am_M} {cold : Int}  (p0 : rP_ m0) (p1 : mW_ m0) (p2 : sm_ pSc m0 m) (p3 : rL_ m0) (p4 : 0 ≤ cold ∧ cold ≤ 9) (p5 : ∀ j, 0 ≤ j → j < vi_ m0 1 1 → 0 ≤ vi_ m 57 j ∧ vi_ m 57 j ≤ 999) (k0 : ∀ (m1 : am_M), (sm_ pGo m m1) → (∀ j, 0 ≤ j → j < vi_ m0 1 1 → vi_ m1 57 j = max 0 (vi_ m 57 j - bn_ m0 j cold)) → Q none m1) : pw_C q (d + 52) 208 [.ref 47, .int (ei_ (cold))] m Q := by
  obtain ⟨hP1, hP2, hP3, hP4⟩ := id p0
  refine pw_intro (I := iX9_day) (T := tX9_day) rfl rfl rfl ?_
  refine pw_steps 2 (s' := (2, [some (.ref 47), some (.int (ei_ (cold))), some (.int (ei_ (0))), none], [], m)) rfl ?_
  have L4 : ∀ (n2 : Nat) (k : Int) (u1 : Option Value) (m1 : am_M), (vi_ m0 1 1 - k).toNat = n2 → (0 ≤ k ∧ k ≤ vi_ m0 1 1) → (sm_ pGo m m1) → (∀ j, 0 ≤ j → j < k → vi_ m1 57 j = max 0 (vi_ m 57 j - bn_ m0 j cold)) → (∀ j, k ≤ j → j < vi_ m0 1 1 → vi_ m1 57 j = vi_ m 57 j) → pw_V q (d + 51) iX9_day.2.2.2.1 tX9_day Q (2, [some (.ref 47), some (.int (ei_ (cold))), some (.int (ei_ (k))), u1], [], m1) := by
    intro n2
    induction n2 using Nat.strongRecOn with
    | _ n2 ih3 =>
      intro k u1 m1 hm_n2 v5 hs hv hw
      refine pw_steps 2 (s' := (4, [some (.ref 47), some (.int (ei_ (cold))), some (.int (ei_ (k))), u1], [.ref 47, .int (ei_ (k))], m1)) rfl ?_
      refine pw_get rfl rfl (fun x6 (hx6 : x6 = vi_ m1 47 6) rx6 sx6 => ?_)
      have ox6 := hx6
      replace hx6 : x6 = vi_ m 47 6 := hx6.trans (sm_v hs rfl)
      replace hx6 : x6 = vi_ m0 47 6 := hx6.trans (sm_v p2 rfl)
      refine pw_cmp rfl (by omega) ⟨rx6, sx6⟩ (fun (h7 : x6 ≤ k) => ?_) (fun (h7 : ¬ (x6 ≤ k)) => ?_)
      · refine pw_vret rfl rfl ?_
        exact k0 m1 (hs) (by intro j a_ b_; exact hv j a_ (by omega))
      · refine pw_steps 3 (s' := (15, [some (.ref 47), some (.int (ei_ (cold))), some (.int (ei_ (k))), u1], [.int (ei_ (k)), .ref 57], m1)) rfl ?_
        refine pw_ild rfl rfl (by omega) (fun x8 (hx8 : x8 = vi_ m1 57 k) rx8 sx8 => ?_)
        have b9 := hw k (by omega) (by omega)
        have b9b := p5 k (by omega) (by omega)
        refine pw_steps 3 (s' := (19, [some (.ref 47), some (.int (ei_ (cold))), some (.int (ei_ (k))), u1], [.int (ei_ (cold)), .int (ei_ (k)), .ref 47, .int (ei_ (x8))], m1)) rfl ?_
        refine pw_call (As := [.int (ei_ (k)), .int (ei_ (cold))]) (st := [.int (ei_ (x8))]) (k := 47) rfl rfl rfl rfl rfl (Nat.le_of_ble_eq_true rfl) ?_
        refine mb_burns (p0) (p1) ((sm_tr p2 (sm_le hs pGo_Sc))) (by omega) (p4) (p3) (fun x10 m111 g12 g13 g14 => ?_)
        refine pw_steps 6 (s' := (30, [some (.ref 47), some (.int (ei_ (cold))), some (.int (ei_ (k))), some (.int ((ei_ (x8)) - (ei_ (x10))))], [.int ((ei_ (x8)) - (ei_ (x10))), .int (ei_ (k)), .ref 57], m111)) rfl ?_
        refine pw_cv (congrArg (fun z_ : Int32 => ((30, [some (.ref 47), some (.int (ei_ (cold))), some (.int (ei_ (k))), some (.int z_)], [.int z_, .int (ei_ (k)), .ref 57], m111) : am_S)) (ei_sub rfl rfl)) ?_
        refine pw_if rfl (by omega) (fun (h15 : 0 ≤ (x8 - x10)) => ?_) (fun (h15 : ¬ (0 ≤ (x8 - x10))) => ?_)
        · refine pw_steps 1 (s' := (38, [some (.ref 47), some (.int (ei_ (cold))), some (.int (ei_ (k))), some (.int (ei_ ((x8 - x10))))], [.int (ei_ ((x8 - x10))), .int (ei_ (k)), .ref 57], m111)) rfl ?_
          refine pw_ist rfl rfl (by omega) ?_
          refine pw_steps 2 (s' := (2, [some (.ref 47), some (.int (ei_ (cold))), some (.int ((ei_ (k)) + (ei_ (1)))), some (.int (ei_ ((x8 - x10))))], [], wi_ m111 57 (k) ((x8 - x10)))) rfl ?_
          refine pw_cv (congrArg (fun z_ : Int32 => ((2, [some (.ref 47), some (.int (ei_ (cold))), some (.int z_), some (.int (ei_ ((x8 - x10))))], [], wi_ m111 57 (k) ((x8 - x10))) : am_S)) (ei_add rfl rfl)) ?_
          exact ih3 _ (by omega) (k + 1) (some (.int (ei_ ((x8 - x10))))) (wi_ m111 57 (k) ((x8 - x10))) rfl (by omega) ((sm_w (sm_tr hs (sm_le g12 pPr_Go)) (fun _ h_ => by rw [h_]; rfl))) (by intro j a_ b_; rw [vi_up (by omega) (by omega) a_]; by_cases e_ : j = k; (rw [if_pos e_, e_, ← g13]; have h1_ := hw k (by omega) (by omega); omega); (rw [if_neg e_, sm_v g12 rfl]; exact hv j a_ (by omega))) (by intro j a_ b_; rw [vi_up (by omega) (by omega) (by omega), if_neg (by omega), sm_v g12 rfl]; exact hw j (by omega) b_)
        · refine pw_steps 2 (s' := (38, [some (.ref 47), some (.int (ei_ (cold))), some (.int (ei_ (k))), some (.int (ei_ ((x8 - x10))))], [.int (ei_ (0)), .int (ei_ (k)), .ref 57], m111)) rfl ?_
          refine pw_ist rfl rfl (by omega) ?_
          refine pw_steps 2 (s' := (2, [some (.ref 47), some (.int (ei_ (cold))), some (.int ((ei_ (k)) + (ei_ (1)))), some (.int (ei_ ((x8 - x10))))], [], wi_ m111 57 (k) (0))) rfl ?_
          refine pw_cv (congrArg (fun z_ : Int32 => ((2, [some (.ref 47), some (.int (ei_ (cold))), some (.int z_), some (.int (ei_ ((x8 - x10))))], [], wi_ m111 57 (k) (0)) : am_S)) (ei_add rfl rfl)) ?_
          exact ih3 _ (by omega) (k + 1) (some (.int (ei_ ((x8 - x10))))) (wi_ m111 57 (k) (0)) rfl (by omega) ((sm_w (sm_tr hs (sm_le g12 pPr_Go)) (fun _ h_ => by rw [h_]; rfl))) (by intro j a_ b_; rw [vi_up (by omega) (by omega) a_]; by_cases e_ : j = k; (rw [if_pos e_, e_, ← g13]; have h1_ := hw k (by omega) (by omega); omega); (rw [if_neg e_, sm_v g12 rfl]; exact hv j a_ (by omega))) (by intro j a_ b_; rw [vi_up (by omega) (by omega) (by omega), if_neg (by omega), sm_v g12 rfl]; exact hw j (by omega) b_)
  exact L4 _ 0 none m rfl (by omega) (by exact sm_rfl m) (by intro j a_ b_; omega) (by intro j a_ b_; rfl)

set_option maxHeartbeats 4000000 in
set_option maxRecDepth 20000 in
theorem md_goes {q : am_X} {d : Nat} {m : am_M} {Q : Option Value → am_M → Prop} {m0 : am_M} {n : Int}  (p0 : rP_ m0) (p1 : mW_ m0) (p2 : sm_ pSc m0 m) (p3 : rL_ m0) (p4 : mF_ m0) (p5 : 0 ≤ n ∧ n ≤ 99) (k0 : ∀ (m1 : am_M), (sm_ pGo m m1) → (∀ j, 0 ≤ j → j < vi_ m0 1 1 → vi_ m1 57 j = lf_ (vi_ m0 53 j) (bn_ m0 j (vi_ m0 2 32)) n) → Q none m1) : pw_C q (d + 53) 206 [.ref 47, .int (ei_ (n))] m Q := by
  obtain ⟨hP1, hP2, hP3, hP4⟩ := id p0
  refine pw_intro (I := iX9_goes) (T := tX9_goes) rfl rfl rfl ?_
  refine pw_steps 1 (s' := (1, [some (.ref 47), some (.int (ei_ (n))), none], [.ref 47], m)) rfl ?_
  refine pw_call (As := []) (st := []) (k := 47) rfl rfl rfl rfl rfl (Nat.le_of_ble_eq_true rfl) ?_
  refine md_begins (p0) (p2) (fun m11 g2 g3 => ?_)
  refine pw_steps 2 (s' := (6, [some (.ref 47), some (.int (ei_ (n))), some (.int (ei_ (0)))], [], m11)) rfl ?_
  have L6 : ∀ (n4 : Nat) (i : Int) (m1 : am_M), (n - i).toNat = n4 → (0 ≤ i ∧ i ≤ n) → (sm_ pGo m m1) → (∀ j, 0 ≤ j → j < vi_ m0 1 1 → vi_ m1 57 j = lf_ (vi_ m0 53 j) (bn_ m0 j (vi_ m0 2 32)) i) → pw_V q (d + 52) iX9_goes.2.2.2.1 tX9_goes Q (6, [some (.ref 47), some (.int (ei_ (n))), some (.int (ei_ (i)))], [], m1) := by
    intro n4
    induction n4 using Nat.strongRecOn with
    | _ n4 ih5 =>
      intro i m1 hm_n4 v7 hs hv
      refine pw_steps 2 (s' := (8, [some (.ref 47), some (.int (ei_ (n))), some (.int (ei_ (i)))], [.int (ei_ (n)), .int (ei_ (i))], m1)) rfl ?_
      refine pw_cmp rfl (by omega) (by omega) (fun (h8 : n ≤ i) => ?_) (fun (h8 : ¬ (n ≤ i)) => ?_)
      · refine pw_vret rfl rfl ?_
        exact k0 m1 (hs) (by intro j a_ b_; rw [hv j a_ b_, show n = i by omega])
      · refine pw_steps 4 (s' := (18, [some (.ref 47), some (.int (ei_ (n))), some (.int (ei_ (i)))], [.int (ei_ (32)), .ref 48, .ref 47], m1)) rfl ?_
        refine pw_ild rfl rfl (by omega) (fun x9 (hx9 : x9 = vi_ m1 48 32) rx9 sx9 => ?_)
        have ox9 := hx9
        replace hx9 : x9 = vi_ m 48 32 := hx9.trans (sm_v hs rfl)
        replace hx9 : x9 = vi_ m0 48 32 := hx9.trans (sm_v p2 rfl)
        have b10 := hP3 32 (by omega) (by omega)
        rw [b10.2.2] at hx9
        refine pw_call (As := [.int (ei_ (x9))]) (st := []) (k := 47) rfl rfl rfl rfl rfl (Nat.le_of_ble_eq_true rfl) ?_
        refine md_day (p0) (p1) ((sm_tr p2 (sm_le hs pGo_Sc))) (p3) (by omega) (fun j a_ b_ => by rw [hv j a_ b_]; have h1_ := p4 j a_ b_; have h2_ := bn_b m0 j (vi_ m0 2 32); have h3_ := lf_b (l := vi_ m0 53 j) (r := bn_ m0 j (vi_ m0 2 32)) (n := i) h1_.1 h2_.1 (by omega); omega) (fun m111 g12 g13 => ?_)
        refine pw_steps 2 (s' := (6, [some (.ref 47), some (.int (ei_ (n))), some (.int ((ei_ (i)) + (ei_ (1))))], [], m111)) rfl ?_
        refine pw_cv (congrArg (fun z_ : Int32 => ((6, [some (.ref 47), some (.int (ei_ (n))), some (.int z_)], [], m111) : am_S)) (ei_add rfl rfl)) ?_
        exact ih5 _ (by omega) (i + 1) m111 rfl (by omega) ((sm_tr hs g12)) (by intro j a_ b_; rw [g13 j a_ b_, hv j a_ b_, lf_s (bn_b _ _ _).1, hx9])
  exact L6 _ 0 m11 rfl (by omega) ((sm_le g2 p57_Go)) (by intro j a_ b_; rw [g3 j a_ b_, lf_0 (p4 j a_ b_).1])

set_option maxHeartbeats 4000000 in
set_option maxRecDepth 20000 in
theorem md_less {q : am_X} {d : Nat} {m : am_M} {Q : Option Value → am_M → Prop} {m0 : am_M} {name : Int} {bound : Int}  (p0 : rP_ m0) (p1 : mW_ m0) (p2 : sm_ pSc m0 m) (p3 : rL_ m0) (p4 : mF_ m0) (p5 : 0 ≤ name ∧ name < vi_ m0 1 1) (p6 : 0 ≤ bound ∧ bound ≤ 99) (k0 : ∀ (x : Int) (m1 : am_M), (fs_ (fun j => lf_ (vi_ m0 53 name) (bn_ m0 name (vi_ m0 2 32)) j < bound) x) → (sm_ pGo m m1) → (-2 ≤ x ∧ x ≤ 99) → Q (some (.int (ei_ (x)))) m1) : pw_C q (d + 53) 214 [.ref 47, .int (ei_ (name)), .int (ei_ (bound))] m Q := by
  obtain ⟨hP1, hP2, hP3, hP4⟩ := id p0
  refine pw_intro (I := iX9_lessThan) (T := tX9_lessThan) rfl rfl rfl ?_
  refine pw_steps 1 (s' := (1, [some (.ref 47), some (.int (ei_ (name))), some (.int (ei_ (bound))), none], [.ref 47], m)) rfl ?_
  refine pw_call (As := []) (st := []) (k := 47) rfl rfl rfl rfl rfl (Nat.le_of_ble_eq_true rfl) ?_
  refine md_begins (p0) (p2) (fun m11 g2 g3 => ?_)
  refine pw_steps 2 (s' := (6, [some (.ref 47), some (.int (ei_ (name))), some (.int (ei_ (bound))), some (.int (ei_ (0)))], [], m11)) rfl ?_
  have L6 : ∀ (n4 : Nat) (i : Int) (m1 : am_M), (100 - i).toNat = n4 → (0 ≤ i ∧ i ≤ 100) → (sm_ pGo m m1) → (∀ j, 0 ≤ j → j < vi_ m0 1 1 → vi_ m1 57 j = lf_ (vi_ m0 53 j) (bn_ m0 j (vi_ m0 2 32)) i) → (∀ j, 0 ≤ j → j < i → ¬ lf_ (vi_ m0 53 name) (bn_ m0 name (vi_ m0 2 32)) j < bound) → pw_V q (d + 52) iX9_lessThan.2.2.2.1 tX9_lessThan Q (6, [some (.ref 47), some (.int (ei_ (name))), some (.int (ei_ (bound))), some (.int (ei_ (i)))], [], m1) := by
    intro n4
    induction n4 using Nat.strongRecOn with
    | _ n4 ih5 =>
      intro i m1 hm_n4 v7 hs hv hw
      refine pw_steps 2 (s' := (9, [some (.ref 47), some (.int (ei_ (name))), some (.int (ei_ (bound))), some (.int (ei_ (i)))], [.int (ei_ (99)), .int (ei_ (i))], m1)) rfl ?_
      refine pw_cmp rfl (by omega) (by decide) (fun (h8 : 99 < i) => ?_) (fun (h8 : ¬ (99 < i)) => ?_)
      · refine pw_steps 1 (s' := (43, [some (.ref 47), some (.int (ei_ (name))), some (.int (ei_ (bound))), some (.int (ei_ (i)))], [.int (ei_ ((-2)))], m1)) rfl ?_
        refine pw_iret rfl rfl rfl ?_
        exact k0 (-2) m1 (by exact Or.inr ⟨rfl, fun j a_ b_ => hw j a_ (by omega)⟩) (hs) (by omega)
      · refine pw_steps 3 (s' := (17, [some (.ref 47), some (.int (ei_ (name))), some (.int (ei_ (bound))), some (.int (ei_ (i)))], [.int (ei_ (name)), .ref 57], m1)) rfl ?_
        refine pw_ild rfl rfl (by omega) (fun x9 (hx9 : x9 = vi_ m1 57 name) rx9 sx9 => ?_)
        refine pw_steps 1 (s' := (19, [some (.ref 47), some (.int (ei_ (name))), some (.int (ei_ (bound))), some (.int (ei_ (i)))], [.int (ei_ (bound)), .int (ei_ (x9))], m1)) rfl ?_
        refine pw_cmp rfl ⟨rx9, sx9⟩ (by omega) (fun (h10 : bound ≤ x9) => ?_) (fun (h10 : ¬ (bound ≤ x9)) => ?_)
        · refine pw_steps 4 (s' := (31, [some (.ref 47), some (.int (ei_ (name))), some (.int (ei_ (bound))), some (.int (ei_ (i)))], [.int (ei_ (32)), .ref 48, .ref 47], m1)) rfl ?_
          refine pw_ild rfl rfl (by omega) (fun x11 (hx11 : x11 = vi_ m1 48 32) rx11 sx11 => ?_)
          have ox11 := hx11
          replace hx11 : x11 = vi_ m 48 32 := hx11.trans (sm_v hs rfl)
          replace hx11 : x11 = vi_ m0 48 32 := hx11.trans (sm_v p2 rfl)
          have b12 := hP3 32 (by omega) (by omega)
          rw [b12.2.2] at hx11
          refine pw_call (As := [.int (ei_ (x11))]) (st := []) (k := 47) rfl rfl rfl rfl rfl (Nat.le_of_ble_eq_true rfl) ?_
          refine md_day (p0) (p1) ((sm_tr p2 (sm_le hs pGo_Sc))) (p3) (by omega) (fun j a_ b_ => by rw [hv j a_ b_]; have h1_ := p4 j a_ b_; have h2_ := bn_b m0 j (vi_ m0 2 32); have h3_ := lf_b (l := vi_ m0 53 j) (r := bn_ m0 j (vi_ m0 2 32)) (n := i) h1_.1 h2_.1 (by omega); omega) (fun m113 g14 g15 => ?_)
          refine pw_steps 2 (s' := (6, [some (.ref 47), some (.int (ei_ (name))), some (.int (ei_ (bound))), some (.int ((ei_ (i)) + (ei_ (1))))], [], m113)) rfl ?_
          refine pw_cv (congrArg (fun z_ : Int32 => ((6, [some (.ref 47), some (.int (ei_ (name))), some (.int (ei_ (bound))), some (.int z_)], [], m113) : am_S)) (ei_add rfl rfl)) ?_
          exact ih5 _ (by omega) (i + 1) m113 rfl (by omega) ((sm_tr hs g14)) (by intro j a_ b_; rw [g15 j a_ b_, hv j a_ b_, lf_s (bn_b _ _ _).1, hx11]) (by intro j a_ b_; by_cases e_ : j = i; (rw [e_]; have h1_ := hv name (by omega) (by omega); rw [← h1_, ← hx9]; omega); (exact hw j a_ (by omega)))
        · refine pw_steps 1 (s' := (23, [some (.ref 47), some (.int (ei_ (name))), some (.int (ei_ (bound))), some (.int (ei_ (i)))], [.int (ei_ (i))], m1)) rfl ?_
          refine pw_iret rfl rfl rfl ?_
          exact k0 i m1 (by have h1_ := hv name (by omega) (by omega); exact Or.inl ⟨by omega, by omega, by show lf_ (vi_ m0 53 name) (bn_ m0 name (vi_ m0 2 32)) i < bound; rw [← h1_, ← hx9]; omega, hw⟩) (hs) (by omega)
  exact L6 _ 0 m11 rfl (by omega) ((sm_le g2 p57_Go)) (by intro j a_ b_; rw [g3 j a_ b_, lf_0 (p4 j a_ b_).1]) (by intro j a_ b_; omega)

set_option maxHeartbeats 4000000 in
set_option maxRecDepth 20000 in
theorem md_cracked {q : am_X} {d : Nat} {m : am_M} {Q : Option Value → am_M → Prop} {m0 : am_M}  (p0 : rP_ m0) (p1 : sm_ pSc m0 m) (k0 : ∀ (x : Int), (x = su_ (fun j => if vi_ m 57 j < 10 * vi_ m0 2 j then 1 else 0) (vi_ m0 1 1).toNat) → (0 ≤ x ∧ x ≤ 8) → Q (some (.int (ei_ (x)))) m) : pw_C q (d + 2) 210 [.ref 47] m Q := by
  obtain ⟨hP1, hP2, hP3, hP4⟩ := id p0
  refine pw_intro (I := iX9_crackedMany) (T := tX9_crackedMany) rfl rfl rfl ?_
  refine pw_steps 4 (s' := (4, [some (.ref 47), some (.int (ei_ (0))), some (.int (ei_ (0)))], [], m)) rfl ?_
  have L3 : ∀ (n1 : Nat) (w : Int) (k : Int), (vi_ m0 1 1 - k).toNat = n1 → (0 ≤ k ∧ k ≤ vi_ m0 1 1) → (0 ≤ w ∧ w ≤ k) → (w = su_ (fun j => if vi_ m 57 j < 10 * vi_ m0 2 j then 1 else 0) k.toNat) → pw_V q (d + 1) iX9_crackedMany.2.2.2.1 tX9_crackedMany Q (4, [some (.ref 47), some (.int (ei_ (w))), some (.int (ei_ (k)))], [], m) := by
    intro n1
    induction n1 using Nat.strongRecOn with
    | _ n1 ih2 =>
      intro w k hm_n1 v4 v5 hw
      refine pw_steps 2 (s' := (6, [some (.ref 47), some (.int (ei_ (w))), some (.int (ei_ (k)))], [.ref 47, .int (ei_ (k))], m)) rfl ?_
      refine pw_get rfl rfl (fun x6 (hx6 : x6 = vi_ m 47 6) rx6 sx6 => ?_)
      have ox6 := hx6
      replace hx6 : x6 = vi_ m0 47 6 := hx6.trans (sm_v p1 rfl)
      refine pw_cmp rfl (by omega) ⟨rx6, sx6⟩ (fun (h7 : x6 ≤ k) => ?_) (fun (h7 : ¬ (x6 ≤ k)) => ?_)
      · refine pw_steps 1 (s' := (45, [some (.ref 47), some (.int (ei_ (w))), some (.int (ei_ (k)))], [.int (ei_ (w))], m)) rfl ?_
        refine pw_iret rfl rfl rfl ?_
        exact k0 w (by rw [← show k = vi_ m0 1 1 by omega]; exact hw) (by omega)
      · refine pw_steps 4 (s' := (18, [some (.ref 47), some (.int (ei_ (w))), some (.int (ei_ (k)))], [.int (ei_ (k)), .ref 57, .int (ei_ (w))], m)) rfl ?_
        refine pw_ild rfl rfl (by omega) (fun x8 (hx8 : x8 = vi_ m 57 k) rx8 sx8 => ?_)
        refine pw_steps 4 (s' := (24, [some (.ref 47), some (.int (ei_ (w))), some (.int (ei_ (k)))], [.int (ei_ (0)), .int (ei_ (k)), .ref 47, .int (ei_ (10)), .int (ei_ (x8)), .int (ei_ (w))], m)) rfl ?_
        refine pw_call (As := [.int (ei_ (k)), .int (ei_ (0))]) (st := [.int (ei_ (10)), .int (ei_ (x8)), .int (ei_ (w))]) (k := 47) rfl rfl rfl rfl rfl (Nat.le_of_ble_eq_true rfl) ?_
        refine pw_intro (I := iX9_ofOne) (T := tX9_ofOne) rfl rfl rfl ?_
        refine pw_steps 7 (s' := (10, [some (.ref 47), some (.int (ei_ (k))), some (.int (ei_ (0)))], [.int (((ei_ (8)) * (ei_ (0))) + (ei_ (k))), .ref 48], m)) rfl ?_
        refine pw_cv (congrArg (fun z_ : Int32 => ((10, [some (.ref 47), some (.int (ei_ (k))), some (.int (ei_ (0)))], [.int z_, .ref 48], m) : am_S)) (ei_add (ei_mul rfl rfl) rfl)) ?_
        refine pw_ild rfl rfl (by omega) (fun x9 (hx9 : x9 = vi_ m 48 (0 + k)) rx9 sx9 => ?_)
        have ox9 := hx9
        replace hx9 : x9 = vi_ m0 48 (0 + k) := hx9.trans (sm_v p1 rfl)
        have b10 := hP3 (0 + k) (by omega) (by omega)
        rw [b10.2.2] at hx9
        refine pw_iret rfl rfl rfl ?_
        refine pw_steps 1 (s' := (28, [some (.ref 47), some (.int (ei_ (w))), some (.int (ei_ (k)))], [.int ((ei_ (10)) * (ei_ (x9))), .int (ei_ (x8)), .int (ei_ (w))], m)) rfl ?_
        refine pw_cv (congrArg (fun z_ : Int32 => ((28, [some (.ref 47), some (.int (ei_ (w))), some (.int (ei_ (k)))], [.int z_, .int (ei_ (x8)), .int (ei_ (w))], m) : am_S)) (ei_mul rfl rfl)) ?_
        refine pw_cmp rfl ⟨rx8, sx8⟩ (by omega) (fun (h11 : (10 * x9) ≤ x8) => ?_) (fun (h11 : ¬ ((10 * x9) ≤ x8)) => ?_)
        · refine pw_steps 5 (s' := (4, [some (.ref 47), some (.int ((ei_ (w)) + (ei_ (0)))), some (.int ((ei_ (k)) + (ei_ (1))))], [], m)) rfl ?_
          refine pw_cv (congrArg (fun z_ : Int32 => ((4, [some (.ref 47), some (.int z_), some (.int ((ei_ (k)) + (ei_ (1))))], [], m) : am_S)) (ei_add rfl rfl)) ?_
          refine pw_cv (congrArg (fun z_ : Int32 => ((4, [some (.ref 47), some (.int (ei_ ((w + 0)))), some (.int z_)], [], m) : am_S)) (ei_add rfl rfl)) ?_
          exact ih2 _ (by omega) (w + 0) (k + 1) rfl (by omega) (by omega) (by rw [su_s (by omega), ← hw]; simp only [Int.zero_add] at *; first | (rw [if_pos (by omega)]; done) | (rw [if_neg (by omega)]; done) | (rw [if_neg (by omega)]; omega))
        · refine pw_steps 6 (s' := (4, [some (.ref 47), some (.int ((ei_ (w)) + (ei_ (1)))), some (.int ((ei_ (k)) + (ei_ (1))))], [], m)) rfl ?_
          refine pw_cv (congrArg (fun z_ : Int32 => ((4, [some (.ref 47), some (.int z_), some (.int ((ei_ (k)) + (ei_ (1))))], [], m) : am_S)) (ei_add rfl rfl)) ?_
          refine pw_cv (congrArg (fun z_ : Int32 => ((4, [some (.ref 47), some (.int (ei_ ((w + 1)))), some (.int z_)], [], m) : am_S)) (ei_add rfl rfl)) ?_
          exact ih2 _ (by omega) (w + 1) (k + 1) rfl (by omega) (by omega) (by rw [su_s (by omega), ← hw]; simp only [Int.zero_add] at *; first | (rw [if_pos (by omega)]; done) | (rw [if_neg (by omega)]; done) | (rw [if_neg (by omega)]; omega))
  exact L3 _ 0 0 rfl (by omega) (by omega) (by rfl)

set_option maxHeartbeats 4000000 in
set_option maxRecDepth 20000 in
theorem md_burnt {q : am_X} {d : Nat} {m : am_M} {Q : Option Value → am_M → Prop} {m0 : am_M}  (p0 : rP_ m0) (p1 : sm_ pSc m0 m) (k0 : ∀ (x : Int), (x = cn_ (vi_ m 57) 0 (vi_ m0 1 1).toNat) → (0 ≤ x ∧ x ≤ 8) → Q (some (.int (ei_ (x)))) m) : pw_C q (d + 2) 211 [.ref 47] m Q := by
  obtain ⟨hP1, hP2, hP3, hP4⟩ := id p0
  refine pw_intro (I := iX9_burntMany) (T := tX9_burntMany) rfl rfl rfl ?_
  refine pw_steps 4 (s' := (4, [some (.ref 47), some (.int (ei_ (0))), some (.int (ei_ (0)))], [], m)) rfl ?_
  have L3 : ∀ (n1 : Nat) (w : Int) (k : Int), (vi_ m0 1 1 - k).toNat = n1 → (0 ≤ k ∧ k ≤ vi_ m0 1 1) → (0 ≤ w ∧ w ≤ k) → (w = cn_ (vi_ m 57) 0 k.toNat) → pw_V q (d + 1) iX9_burntMany.2.2.2.1 tX9_burntMany Q (4, [some (.ref 47), some (.int (ei_ (w))), some (.int (ei_ (k)))], [], m) := by
    intro n1
    induction n1 using Nat.strongRecOn with
    | _ n1 ih2 =>
      intro w k hm_n1 v4 v5 hw
      refine pw_steps 2 (s' := (6, [some (.ref 47), some (.int (ei_ (w))), some (.int (ei_ (k)))], [.ref 47, .int (ei_ (k))], m)) rfl ?_
      refine pw_get rfl rfl (fun x6 (hx6 : x6 = vi_ m 47 6) rx6 sx6 => ?_)
      have ox6 := hx6
      replace hx6 : x6 = vi_ m0 47 6 := hx6.trans (sm_v p1 rfl)
      refine pw_cmp rfl (by omega) ⟨rx6, sx6⟩ (fun (h7 : x6 ≤ k) => ?_) (fun (h7 : ¬ (x6 ≤ k)) => ?_)
      · refine pw_steps 1 (s' := (36, [some (.ref 47), some (.int (ei_ (w))), some (.int (ei_ (k)))], [.int (ei_ (w))], m)) rfl ?_
        refine pw_iret rfl rfl rfl ?_
        exact k0 w (by rw [← show k = vi_ m0 1 1 by omega]; exact hw) (by omega)
      · refine pw_steps 4 (s' := (18, [some (.ref 47), some (.int (ei_ (w))), some (.int (ei_ (k)))], [.int (ei_ (k)), .ref 57, .int (ei_ (w))], m)) rfl ?_
        refine pw_ild rfl rfl (by omega) (fun x8 (hx8 : x8 = vi_ m 57 k) rx8 sx8 => ?_)
        refine pw_if rfl ⟨rx8, sx8⟩ (fun (h9 : ¬ x8 = 0) => ?_) (fun (h9 : ¬ ¬ x8 = 0) => ?_)
        · refine pw_steps 5 (s' := (4, [some (.ref 47), some (.int ((ei_ (w)) + (ei_ (0)))), some (.int ((ei_ (k)) + (ei_ (1))))], [], m)) rfl ?_
          refine pw_cv (congrArg (fun z_ : Int32 => ((4, [some (.ref 47), some (.int z_), some (.int ((ei_ (k)) + (ei_ (1))))], [], m) : am_S)) (ei_add rfl rfl)) ?_
          refine pw_cv (congrArg (fun z_ : Int32 => ((4, [some (.ref 47), some (.int (ei_ ((w + 0)))), some (.int z_)], [], m) : am_S)) (ei_add rfl rfl)) ?_
          exact ih2 _ (by omega) (w + 0) (k + 1) rfl (by omega) (by omega) (by rw [cn_s (by omega), ← hw]; first | (rw [if_pos (by omega)]; done) | (rw [if_neg (by omega)]; done))
        · refine pw_steps 6 (s' := (4, [some (.ref 47), some (.int ((ei_ (w)) + (ei_ (1)))), some (.int ((ei_ (k)) + (ei_ (1))))], [], m)) rfl ?_
          refine pw_cv (congrArg (fun z_ : Int32 => ((4, [some (.ref 47), some (.int z_), some (.int ((ei_ (k)) + (ei_ (1))))], [], m) : am_S)) (ei_add rfl rfl)) ?_
          refine pw_cv (congrArg (fun z_ : Int32 => ((4, [some (.ref 47), some (.int (ei_ ((w + 1)))), some (.int z_)], [], m) : am_S)) (ei_add rfl rfl)) ?_
          exact ih2 _ (by omega) (w + 1) (k + 1) rfl (by omega) (by omega) (by rw [cn_s (by omega), ← hw]; first | (rw [if_pos (by omega)]; done) | (rw [if_neg (by omega)]; done))
  exact L3 _ 0 0 rfl (by omega) (by omega) (by rfl)

set_option maxHeartbeats 4000000 in
set_option maxRecDepth 20000 in
theorem md_all {q : am_X} {d : Nat} {m : am_M} {Q : Option Value → am_M → Prop} {m0 : am_M}  (p0 : rP_ m0) (p1 : sm_ pSc m0 m) (p2 : ∀ j, 0 ≤ j → j < vi_ m0 1 1 → 0 ≤ vi_ m 57 j ∧ vi_ m 57 j ≤ 999) (k0 : ∀ (x : Int), (x = su_ (vi_ m 57) (vi_ m0 1 1).toNat) → (0 ≤ x ∧ x ≤ 8000) → Q (some (.int (ei_ (x)))) m) : pw_C q (d + 2) 212 [.ref 47] m Q := by
  obtain ⟨hP1, hP2, hP3, hP4⟩ := id p0
  refine pw_intro (I := iX9_leftAll) (T := tX9_leftAll) rfl rfl rfl ?_
  refine pw_steps 4 (s' := (4, [some (.ref 47), some (.int (ei_ (0))), some (.int (ei_ (0)))], [], m)) rfl ?_
  have L3 : ∀ (n1 : Nat) (w : Int) (k : Int), (vi_ m0 1 1 - k).toNat = n1 → (0 ≤ k ∧ k ≤ vi_ m0 1 1) → (0 ≤ w ∧ w ≤ 999 * k) → (w = su_ (vi_ m 57) k.toNat) → pw_V q (d + 1) iX9_leftAll.2.2.2.1 tX9_leftAll Q (4, [some (.ref 47), some (.int (ei_ (w))), some (.int (ei_ (k)))], [], m) := by
    intro n1
    induction n1 using Nat.strongRecOn with
    | _ n1 ih2 =>
      intro w k hm_n1 v4 v5 hw
      refine pw_steps 2 (s' := (6, [some (.ref 47), some (.int (ei_ (w))), some (.int (ei_ (k)))], [.ref 47, .int (ei_ (k))], m)) rfl ?_
      refine pw_get rfl rfl (fun x6 (hx6 : x6 = vi_ m 47 6) rx6 sx6 => ?_)
      have ox6 := hx6
      replace hx6 : x6 = vi_ m0 47 6 := hx6.trans (sm_v p1 rfl)
      refine pw_cmp rfl (by omega) ⟨rx6, sx6⟩ (fun (h7 : x6 ≤ k) => ?_) (fun (h7 : ¬ (x6 ≤ k)) => ?_)
      · refine pw_steps 1 (s' := (28, [some (.ref 47), some (.int (ei_ (w))), some (.int (ei_ (k)))], [.int (ei_ (w))], m)) rfl ?_
        refine pw_iret rfl rfl rfl ?_
        exact k0 w (by rw [← show k = vi_ m0 1 1 by omega]; exact hw) (by omega)
      · refine pw_steps 4 (s' := (18, [some (.ref 47), some (.int (ei_ (w))), some (.int (ei_ (k)))], [.int (ei_ (k)), .ref 57, .int (ei_ (w))], m)) rfl ?_
        refine pw_ild rfl rfl (by omega) (fun x8 (hx8 : x8 = vi_ m 57 k) rx8 sx8 => ?_)
        have b9 := p2 k (by omega) (by omega)
        refine pw_steps 4 (s' := (4, [some (.ref 47), some (.int ((ei_ (w)) + (ei_ (x8)))), some (.int ((ei_ (k)) + (ei_ (1))))], [], m)) rfl ?_
        refine pw_cv (congrArg (fun z_ : Int32 => ((4, [some (.ref 47), some (.int z_), some (.int ((ei_ (k)) + (ei_ (1))))], [], m) : am_S)) (ei_add rfl rfl)) ?_
        refine pw_cv (congrArg (fun z_ : Int32 => ((4, [some (.ref 47), some (.int (ei_ ((w + x8)))), some (.int z_)], [], m) : am_S)) (ei_add rfl rfl)) ?_
        exact ih2 _ (by omega) (w + x8) (k + 1) rfl (by omega) (by omega) (by rw [su_s (by omega), ← hw, ← hx8])
  exact L3 _ 0 0 rfl (by omega) (by omega) (by rfl)

