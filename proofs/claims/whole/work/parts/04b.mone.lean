
def pAt (k j : Nat) : Bool := k == 47 && j == 14
theorem pAt_Md : ∀ k j, pMd k j = false → pAt k j = false := by
  intro k j h
  simp only [pMd, pAt, Bool.and_eq_false_iff, Bool.or_eq_false_iff] at h ⊢
  exact h.imp id (fun g => g.1.1)
theorem mt_at {B : Int → Int} {n : Int} {m m1 : am_M} (h : sm_ pAt m m1) (k : mt_ B n m) : mt_ B n m1 := mt_sm (sm_le h pAt_Md) k


theorem mz_dg {B : Int → Int} {n p pp a k : Int} (h : 0 ≤ a ∧ ((k = 0 ∧ a = 0 ∧ pp = p) ∨ ((p < n ∧ 48 ≤ B p ∧ B p ≤ 57) ∧ ((k = 1 ∧ a ≤ 9) ∨ (k = 2 ∧ a ≤ 99) ∨ (k = 3 ∧ a ≤ 999) ∨ (k = 4 ∧ a ≤ 9999))))) (hk : k < 4) (hp : pp < n) (hb : 48 ≤ B pp ∧ B pp ≤ 57) : 0 ≤ 10 * a + B pp - 48 ∧ ((k + 1 = 0 ∧ 10 * a + B pp - 48 = 0 ∧ pp + 1 = p) ∨ ((p < n ∧ 48 ≤ B p ∧ B p ≤ 57) ∧ ((k + 1 = 1 ∧ 10 * a + B pp - 48 ≤ 9) ∨ (k + 1 = 2 ∧ 10 * a + B pp - 48 ≤ 99) ∨ (k + 1 = 3 ∧ 10 * a + B pp - 48 ≤ 999) ∨ (k + 1 = 4 ∧ 10 * a + B pp - 48 ≤ 9999)))) := by
  refine ⟨by omega, Or.inr ⟨?_, by omega⟩⟩
  rcases h.2 with ⟨h1, h2, h3⟩ | ⟨h1, h2⟩
  · rw [← h3]; exact ⟨hp, hb⟩
  · exact h1

set_option maxHeartbeats 4000000 in
set_option maxRecDepth 20000 in
theorem mz_one {q : am_X} {B : Int → Int} {n : Int} {f : Nat} (hM0 : ∀ {o p : Int} {d : Nat} {m : am_M} {Q : Option Value → am_M → Prop}, (0 ≤ o ∧ o ≤ 6) → (6 * (6 - o) + 9 ≤ (d : Int)) → (0 ≤ p ∧ p ≤ n) → (7 * (n - p) + 6 ≤ ((f : Nat) : Int)) → mt_ B n m → vi_ m 47 14 = p → vi_ m 47 16 = -1 → vi_ m 47 17 = o → (∀ (p1 : Int) (z1 : List Int) (x : Int) (m1 : am_M), ps_ B n (f) 0 o p = (1, p1, z1) → sm_ pMd m m1 → vi_ m1 47 14 = p1 → vi_ m1 47 16 = -1 → vi_ m1 47 17 = o → ex_ (vi_ m 56) z1 x → (-2147483648 ≤ x ∧ x < 2147483648) → Q (some (.int (ei_ x))) m1) → (∀ (p1 : Int) (z1 : List Int) (x : Int) (m1 : am_M), ps_ B n (f) 0 o p = (0, p1, z1) → sm_ pMd m m1 → vi_ m1 47 14 = p1 → vi_ m1 47 16 = p1 → (-2147483648 ≤ x ∧ x < 2147483648) → Q (some (.int (ei_ x))) m1) → pw_C q d 192 [.ref 47] m Q) (hM5 : ∀ {o p : Int} {d : Nat} {m : am_M} {Q : Option Value → am_M → Prop}, (0 ≤ o ∧ o ≤ 6) → (6 * (6 - o) + 4 ≤ (d : Int)) → (0 ≤ p ∧ p ≤ n) → (7 * (n - p) + 1 ≤ ((f : Nat) : Int)) → mt_ B n m → vi_ m 47 14 = p → vi_ m 47 16 = -1 → vi_ m 47 17 = o → (∀ (p1 : Int) (z1 : List Int) (x : Int) (m1 : am_M), ps_ B n (f) 5 o p = (1, p1, z1) → sm_ pMd m m1 → vi_ m1 47 14 = p1 → vi_ m1 47 16 = -1 → vi_ m1 47 17 = o → ex_ (vi_ m 56) z1 x → (-2147483648 ≤ x ∧ x < 2147483648) → Q (some (.int (ei_ x))) m1) → (∀ (p1 : Int) (z1 : List Int) (x : Int) (m1 : am_M), ps_ B n (f) 5 o p = (0, p1, z1) → sm_ pMd m m1 → vi_ m1 47 14 = p1 → vi_ m1 47 16 = p1 → (-2147483648 ≤ x ∧ x < 2147483648) → Q (some (.int (ei_ x))) m1) → pw_C q d 197 [.ref 47] m Q) : ∀ {o p : Int} {d : Nat} {m : am_M} {Q : Option Value → am_M → Prop}, (0 ≤ o ∧ o ≤ 6) → (6 * (6 - o) + 4 ≤ (d : Int)) → (0 ≤ p ∧ p ≤ n) → (7 * (n - p) + 1 ≤ ((f + 1 : Nat) : Int)) → mt_ B n m → vi_ m 47 14 = p → vi_ m 47 16 = -1 → vi_ m 47 17 = o → (∀ (p1 : Int) (z1 : List Int) (x : Int) (m1 : am_M), ps_ B n (f + 1) 5 o p = (1, p1, z1) → sm_ pMd m m1 → vi_ m1 47 14 = p1 → vi_ m1 47 16 = -1 → vi_ m1 47 17 = o → ex_ (vi_ m 56) z1 x → (-2147483648 ≤ x ∧ x < 2147483648) → Q (some (.int (ei_ x))) m1) → (∀ (p1 : Int) (z1 : List Int) (x : Int) (m1 : am_M), ps_ B n (f + 1) 5 o p = (0, p1, z1) → sm_ pMd m m1 → vi_ m1 47 14 = p1 → vi_ m1 47 16 = p1 → (-2147483648 ≤ x ∧ x < 2147483648) → Q (some (.int (ei_ x))) m1) → pw_C q d 197 [.ref 47] m Q := by
  intro o p d m Q p0 pd p1 pf p2 p3 p4 p5 k1 k2
  obtain ⟨hn1, hn2, hn3, hn4, hn5, hn6⟩ := id p2
  obtain ⟨d1, rfl⟩ : ∃ d1, d = d1 + 4 := ⟨d - 4, by omega⟩
  refine pw_intro (I := iX9_one) (T := tX9_one) rfl rfl rfl ?_
  refine pw_steps 1 (s' := (1, [some (.ref 47), none, none, none, none], [.ref 47], m)) rfl ?_
  refine pw_get rfl rfl (fun x1 (hx1 : x1 = vi_ m 47 16) rx1 sx1 => ?_)
  replace hx1 : x1 = (-1) := hx1.trans p4
  subst x1
  refine pw_ifT rfl (by decide) (show (-1) < 0 by decide) ?_
  refine pw_steps 1 (s' := (10, [some (.ref 47), none, none, none, none], [.ref 47], m)) rfl ?_
  refine pw_call (As := []) (st := []) (k := 47) rfl rfl rfl rfl rfl (Nat.le_of_ble_eq_true rfl) ?_
  refine mt_byte (p := p) (p2) (by omega) (p3) (fun g2 g3 => ?_) (fun g4 => ?_)
  · refine pw_steps 3 (s' := (17, [some (.ref 47), some (.int (ei_ ((B p)))), none, none, none], [.int (ei_ (33)), .int (ei_ ((B p)))], m)) rfl ?_
    refine pw_cmp rfl (by omega) (by decide) (fun (h5 : (B p) = 33) => ?_) (fun (h5 : ¬ ((B p) = 33)) => ?_)
    · refine pw_steps 1 (s' := (33, [some (.ref 47), some (.int (ei_ ((B p)))), none, none, none], [.ref 47], m)) rfl ?_
      refine pw_get rfl rfl (fun x6 (hx6 : x6 = vi_ m 47 17) rx6 sx6 => ?_)
      replace hx6 : x6 = o := hx6.trans p5
      subst x6
      refine pw_steps 1 (s' := (38, [some (.ref 47), some (.int (ei_ ((B p)))), none, none, none], [.int (ei_ (6)), .int (ei_ (o))], m)) rfl ?_
      refine pw_cmp rfl ⟨rx6, sx6⟩ (by decide) (fun (h7 : ¬ o = 6) => ?_) (fun (h7 : ¬ ¬ o = 6) => ?_)
      · refine pw_steps 2 (s' := (48, [some (.ref 47), some (.int (ei_ ((B p)))), none, none, none], [.ref 47, .ref 47], m)) rfl ?_
        refine pw_get rfl rfl (fun x8 (hx8 : x8 = vi_ m 47 17) rx8 sx8 => ?_)
        replace hx8 : x8 = o := hx8.trans p5
        subst x8
        refine pw_steps 2 (s' := (53, [some (.ref 47), some (.int (ei_ ((B p)))), none, none, none], [.int ((ei_ (o)) + (ei_ (1))), .ref 47], m)) rfl ?_
        refine pw_cv (congrArg (fun z_ : Int32 => ((53, [some (.ref 47), some (.int (ei_ ((B p)))), none, none, none], [.int z_, .ref 47], m) : am_S)) (ei_add rfl rfl)) ?_
        refine pw_put (v := (o + 1)) rfl rfl (Or.inl rfl) ?_
        refine pw_cv (s' := (56, [some (.ref 47), some (.int (ei_ ((B p)))), none, none, none], [], wi_ m 47 (17) ((o + 1)))) rfl ?_
        refine pw_steps 2 (s' := (58, [some (.ref 47), some (.int (ei_ ((B p)))), none, none, none], [.ref 47, .ref 47], wi_ m 47 (17) ((o + 1)))) rfl ?_
        refine pw_get rfl rfl (fun x9 (hx9 : x9 = vi_ m 47 14) rx9 sx9 => ?_)
        replace hx9 : x9 = p := hx9.trans p3
        subst x9
        refine pw_steps 2 (s' := (63, [some (.ref 47), some (.int (ei_ ((B p)))), none, none, none], [.int ((ei_ (p)) + (ei_ (1))), .ref 47], wi_ m 47 (17) ((o + 1)))) rfl ?_
        refine pw_cv (congrArg (fun z_ : Int32 => ((63, [some (.ref 47), some (.int (ei_ ((B p)))), none, none, none], [.int z_, .ref 47], wi_ m 47 (17) ((o + 1))) : am_S)) (ei_add rfl rfl)) ?_
        refine pw_put (v := (p + 1)) rfl rfl (Or.inl rfl) ?_
        refine pw_cv (s' := (66, [some (.ref 47), some (.int (ei_ ((B p)))), none, none, none], [], wi_ (wi_ m 47 (17) ((o + 1))) 47 (14) ((p + 1)))) rfl ?_
        refine pw_steps 2 (s' := (69, [some (.ref 47), some (.int (ei_ ((B p)))), none, none, none], [.int (ei_ (40)), .int (ei_ ((B p)))], wi_ (wi_ m 47 (17) ((o + 1))) 47 (14) ((p + 1)))) rfl ?_
        refine pw_cmpT rfl (by omega) (by decide) (show ¬ (B p) = 40 by omega) ?_
        refine pw_steps 1 (s' := (80, [some (.ref 47), some (.int (ei_ ((B p)))), none, none, none], [.ref 47], wi_ (wi_ m 47 (17) ((o + 1))) 47 (14) ((p + 1)))) rfl ?_
        refine pw_call (As := []) (st := []) (k := 47) rfl rfl rfl rfl rfl (Nat.le_of_ble_eq_true rfl) ?_
        refine hM5 (p := (p + 1)) (o := (o + 1)) (by omega) (by omega) (by omega) (by omega) (p2) ((ei_i (by omega))) (p4) ((ei_i (by omega))) (fun p110 z111 x12 m113 g14 g15 g16 g17 g18 g19 g20 => ?_) (fun p121 z122 x23 m124 g25 g26 g27 g28 g29 => ?_)
        · have t30 : mt_ B n m113 := mt_sm g15 p2
          obtain ⟨b31a, b31b, b31c, b31d⟩ := ps_e g14 (by omega)
          replace g19 := ex_cg (sm_f (P := pMd) (sm_w (sm_w (sm_rfl m) (fun _ h_ => by rw [h_]; rfl)) (fun _ h_ => by rw [h_]; rfl)) (fun _ => rfl)) g19
          refine pw_steps 3 (s' := (87, [some (.ref 47), some (.int (ei_ ((B p)))), some (.int (ei_ (x12))), none, none], [.int (ei_ (40)), .int (ei_ ((B p)))], m113)) rfl ?_
          refine pw_cmpT rfl (by omega) (by decide) (show ¬ (B p) = 40 by omega) ?_
          refine pw_steps 2 (s' := (106, [some (.ref 47), some (.int (ei_ ((B p)))), some (.int (ei_ (x12))), none, none], [.ref 47, .ref 47], m113)) rfl ?_
          refine pw_get rfl rfl (fun x32 (hx32 : x32 = vi_ m113 47 17) rx32 sx32 => ?_)
          replace hx32 : x32 = (o + 1) := hx32.trans g18
          subst x32
          refine pw_steps 2 (s' := (111, [some (.ref 47), some (.int (ei_ ((B p)))), some (.int (ei_ (x12))), none, none], [.int ((ei_ ((o + 1))) - (ei_ (1))), .ref 47], m113)) rfl ?_
          refine pw_cv (congrArg (fun z_ : Int32 => ((111, [some (.ref 47), some (.int (ei_ ((B p)))), some (.int (ei_ (x12))), none, none], [.int z_, .ref 47], m113) : am_S)) (ei_sub rfl rfl)) ?_
          refine pw_put (v := ((o + 1) - 1)) rfl rfl (Or.inl rfl) ?_
          refine pw_cv (s' := (114, [some (.ref 47), some (.int (ei_ ((B p)))), some (.int (ei_ (x12))), none, none], [], wi_ m113 47 (17) (((o + 1) - 1)))) rfl ?_
          refine pw_steps 2 (s' := (117, [some (.ref 47), some (.int (ei_ ((B p)))), some (.int (ei_ (x12))), none, none], [.int (ei_ (40)), .int (ei_ ((B p)))], wi_ m113 47 (17) (((o + 1) - 1)))) rfl ?_
          refine pw_cmpT rfl (by omega) (by decide) (show ¬ (B p) = 40 by omega) ?_
          refine pw_steps 2 (s' := (127, [some (.ref 47), some (.int (ei_ ((B p)))), some (.int (ei_ (x12))), none, none], [.int (ei_ (45)), .int (ei_ ((B p)))], wi_ m113 47 (17) (((o + 1) - 1)))) rfl ?_
          refine pw_cmpT rfl (by omega) (by decide) (show ¬ (B p) = 45 by omega) ?_
          refine pw_steps 1 (s' := (136, [some (.ref 47), some (.int (ei_ ((B p)))), some (.int (ei_ (x12))), none, none], [.int (ei_ (x12))], wi_ m113 47 (17) (((o + 1) - 1)))) rfl ?_
          refine pw_if rfl g20 (fun (h33 : ¬ x12 = 0) => ?_) (fun (h33 : ¬ ¬ x12 = 0) => ?_)
          · refine pw_steps 1 (s' := (144, [some (.ref 47), some (.int (ei_ ((B p)))), some (.int (ei_ (x12))), none, none], [.int (ei_ (0))], wi_ m113 47 (17) (((o + 1) - 1)))) rfl ?_
            refine pw_iret rfl rfl rfl ?_
            exact k1 _ _ 0 _ ((ps_trn (by omega) (by omega) (by omega) g14).trans (if_pos rfl)) (sm_w (sm_tr (sm_w (sm_w (sm_rfl m) (fun _ h_ => by rw [h_]; rfl)) (fun _ h_ => by rw [h_]; rfl)) g15) (fun _ h_ => by rw [h_]; rfl)) ((g16).trans (by omega)) ((g17).trans (by omega)) (((ei_i (by omega))).trans (by omega)) (ex_trn g19 (by split <;> omega) (by rw [if_pos (by omega)]; unfold tn_; omega)) (by omega)
          · refine pw_steps 2 (s' := (144, [some (.ref 47), some (.int (ei_ ((B p)))), some (.int (ei_ (x12))), none, none], [.int (ei_ (1))], wi_ m113 47 (17) (((o + 1) - 1)))) rfl ?_
            refine pw_iret rfl rfl rfl ?_
            exact k1 _ _ 1 _ ((ps_trn (by omega) (by omega) (by omega) g14).trans (if_pos rfl)) (sm_w (sm_tr (sm_w (sm_w (sm_rfl m) (fun _ h_ => by rw [h_]; rfl)) (fun _ h_ => by rw [h_]; rfl)) g15) (fun _ h_ => by rw [h_]; rfl)) ((g16).trans (by omega)) ((g17).trans (by omega)) (((ei_i (by omega))).trans (by omega)) (ex_trn g19 (by split <;> omega) (by rw [if_pos (by omega)]; unfold tn_; omega)) (by omega)
        · have t34 : mt_ B n m124 := mt_sm g26 p2
          obtain ⟨b35a, b35b, b35c, b35d⟩ := ps_e g25 (by omega)
          refine pw_steps 3 (s' := (87, [some (.ref 47), some (.int (ei_ ((B p)))), some (.int (ei_ (x23))), none, none], [.int (ei_ (40)), .int (ei_ ((B p)))], m124)) rfl ?_
          refine pw_cmpT rfl (by omega) (by decide) (show ¬ (B p) = 40 by omega) ?_
          refine pw_steps 2 (s' := (106, [some (.ref 47), some (.int (ei_ ((B p)))), some (.int (ei_ (x23))), none, none], [.ref 47, .ref 47], m124)) rfl ?_
          refine pw_get rfl rfl (fun x36 (hx36 : x36 = vi_ m124 47 17) rx36 sx36 => ?_)
          refine pw_steps 2 (s' := (111, [some (.ref 47), some (.int (ei_ ((B p)))), some (.int (ei_ (x23))), none, none], [.int ((ei_ (x36)) - (ei_ (1))), .ref 47], m124)) rfl ?_
          refine pw_cv (congrArg (fun z_ : Int32 => ((111, [some (.ref 47), some (.int (ei_ ((B p)))), some (.int (ei_ (x23))), none, none], [.int z_, .ref 47], m124) : am_S)) (ei_sub rfl rfl)) ?_
          refine pw_put (v := (x36 - 1)) rfl rfl (Or.inl rfl) ?_
          refine pw_cv (s' := (114, [some (.ref 47), some (.int (ei_ ((B p)))), some (.int (ei_ (x23))), none, none], [], wi_ m124 47 (17) ((x36 - 1)))) rfl ?_
          refine pw_steps 2 (s' := (117, [some (.ref 47), some (.int (ei_ ((B p)))), some (.int (ei_ (x23))), none, none], [.int (ei_ (40)), .int (ei_ ((B p)))], wi_ m124 47 (17) ((x36 - 1)))) rfl ?_
          refine pw_cmpT rfl (by omega) (by decide) (show ¬ (B p) = 40 by omega) ?_
          refine pw_steps 2 (s' := (127, [some (.ref 47), some (.int (ei_ ((B p)))), some (.int (ei_ (x23))), none, none], [.int (ei_ (45)), .int (ei_ ((B p)))], wi_ m124 47 (17) ((x36 - 1)))) rfl ?_
          refine pw_cmpT rfl (by omega) (by decide) (show ¬ (B p) = 45 by omega) ?_
          refine pw_steps 1 (s' := (136, [some (.ref 47), some (.int (ei_ ((B p)))), some (.int (ei_ (x23))), none, none], [.int (ei_ (x23))], wi_ m124 47 (17) ((x36 - 1)))) rfl ?_
          refine pw_if rfl g29 (fun (h37 : ¬ x23 = 0) => ?_) (fun (h37 : ¬ ¬ x23 = 0) => ?_)
          · refine pw_steps 1 (s' := (144, [some (.ref 47), some (.int (ei_ ((B p)))), some (.int (ei_ (x23))), none, none], [.int (ei_ (0))], wi_ m124 47 (17) ((x36 - 1)))) rfl ?_
            refine pw_iret rfl rfl rfl ?_
            exact k2 _ _ 0 _ ((ps_trn (by omega) (by omega) (by omega) g25).trans (if_neg (by decide))) (sm_w (sm_tr (sm_w (sm_w (sm_rfl m) (fun _ h_ => by rw [h_]; rfl)) (fun _ h_ => by rw [h_]; rfl)) g26) (fun _ h_ => by rw [h_]; rfl)) ((g27).trans (by omega)) ((g28).trans (by omega)) (by omega)
          · refine pw_steps 2 (s' := (144, [some (.ref 47), some (.int (ei_ ((B p)))), some (.int (ei_ (x23))), none, none], [.int (ei_ (1))], wi_ m124 47 (17) ((x36 - 1)))) rfl ?_
            refine pw_iret rfl rfl rfl ?_
            exact k2 _ _ 1 _ ((ps_trn (by omega) (by omega) (by omega) g25).trans (if_neg (by decide))) (sm_w (sm_tr (sm_w (sm_w (sm_rfl m) (fun _ h_ => by rw [h_]; rfl)) (fun _ h_ => by rw [h_]; rfl)) g26) (fun _ h_ => by rw [h_]; rfl)) ((g27).trans (by omega)) ((g28).trans (by omega)) (by omega)
      · refine pw_steps 1 (s' := (42, [some (.ref 47), some (.int (ei_ ((B p)))), none, none, none], [.ref 47], m)) rfl ?_
        refine pw_call (As := []) (st := []) (k := 47) rfl rfl rfl rfl rfl (Nat.le_of_ble_eq_true rfl) ?_
        refine pw_intro (I := iX9_wrong) (T := tX9_wrong) rfl rfl rfl ?_
        refine pw_steps 2 (s' := (2, [some (.ref 47)], [.ref 47, .ref 47], m)) rfl ?_
        refine pw_get rfl rfl (fun x38 (hx38 : x38 = vi_ m 47 16) rx38 sx38 => ?_)
        replace hx38 : x38 = (-1) := hx38.trans p4
        subst x38
        refine pw_ifF rfl (by decide) (show ¬ (0 ≤ (-1)) by decide) ?_
        refine pw_steps 1 (s' := (9, [some (.ref 47)], [.ref 47, .ref 47], m)) rfl ?_
        refine pw_get rfl rfl (fun x39 (hx39 : x39 = vi_ m 47 14) rx39 sx39 => ?_)
        replace hx39 : x39 = p := hx39.trans p3
        subst x39
        refine pw_steps 1 (s' := (19, [some (.ref 47)], [.int (ei_ (p)), .ref 47], m)) rfl ?_
        refine pw_put (v := p) rfl rfl (Or.inl rfl) ?_
        refine pw_cv (s' := (22, [some (.ref 47)], [], wi_ m 47 (16) (p))) rfl ?_
        refine pw_steps 1 (s' := (23, [some (.ref 47)], [.int (ei_ (0))], wi_ m 47 (16) (p))) rfl ?_
        refine pw_iret rfl rfl rfl ?_
        refine pw_iret rfl rfl rfl ?_
        exact k2 p [] 0 _ (ps_bad (by omega) (by rw [kn_op (by omega)]; omega) (by omega)) (sm_w (sm_rfl m) (fun _ h_ => by rw [h_]; rfl)) ((p3).trans (by omega)) (((ei_i (by omega))).trans (by omega)) (by decide)
    · refine pw_steps 2 (s' := (23, [some (.ref 47), some (.int (ei_ ((B p)))), none, none, none], [.int (ei_ (45)), .int (ei_ ((B p)))], m)) rfl ?_
      refine pw_cmp rfl (by omega) (by decide) (fun (h40 : (B p) = 45) => ?_) (fun (h40 : ¬ ((B p) = 45)) => ?_)
      · refine pw_steps 1 (s' := (33, [some (.ref 47), some (.int (ei_ ((B p)))), none, none, none], [.ref 47], m)) rfl ?_
        refine pw_get rfl rfl (fun x41 (hx41 : x41 = vi_ m 47 17) rx41 sx41 => ?_)
        replace hx41 : x41 = o := hx41.trans p5
        subst x41
        refine pw_steps 1 (s' := (38, [some (.ref 47), some (.int (ei_ ((B p)))), none, none, none], [.int (ei_ (6)), .int (ei_ (o))], m)) rfl ?_
        refine pw_cmp rfl ⟨rx41, sx41⟩ (by decide) (fun (h42 : ¬ o = 6) => ?_) (fun (h42 : ¬ ¬ o = 6) => ?_)
        · refine pw_steps 2 (s' := (48, [some (.ref 47), some (.int (ei_ ((B p)))), none, none, none], [.ref 47, .ref 47], m)) rfl ?_
          refine pw_get rfl rfl (fun x43 (hx43 : x43 = vi_ m 47 17) rx43 sx43 => ?_)
          replace hx43 : x43 = o := hx43.trans p5
          subst x43
          refine pw_steps 2 (s' := (53, [some (.ref 47), some (.int (ei_ ((B p)))), none, none, none], [.int ((ei_ (o)) + (ei_ (1))), .ref 47], m)) rfl ?_
          refine pw_cv (congrArg (fun z_ : Int32 => ((53, [some (.ref 47), some (.int (ei_ ((B p)))), none, none, none], [.int z_, .ref 47], m) : am_S)) (ei_add rfl rfl)) ?_
          refine pw_put (v := (o + 1)) rfl rfl (Or.inl rfl) ?_
          refine pw_cv (s' := (56, [some (.ref 47), some (.int (ei_ ((B p)))), none, none, none], [], wi_ m 47 (17) ((o + 1)))) rfl ?_
          refine pw_steps 2 (s' := (58, [some (.ref 47), some (.int (ei_ ((B p)))), none, none, none], [.ref 47, .ref 47], wi_ m 47 (17) ((o + 1)))) rfl ?_
          refine pw_get rfl rfl (fun x44 (hx44 : x44 = vi_ m 47 14) rx44 sx44 => ?_)
          replace hx44 : x44 = p := hx44.trans p3
          subst x44
          refine pw_steps 2 (s' := (63, [some (.ref 47), some (.int (ei_ ((B p)))), none, none, none], [.int ((ei_ (p)) + (ei_ (1))), .ref 47], wi_ m 47 (17) ((o + 1)))) rfl ?_
          refine pw_cv (congrArg (fun z_ : Int32 => ((63, [some (.ref 47), some (.int (ei_ ((B p)))), none, none, none], [.int z_, .ref 47], wi_ m 47 (17) ((o + 1))) : am_S)) (ei_add rfl rfl)) ?_
          refine pw_put (v := (p + 1)) rfl rfl (Or.inl rfl) ?_
          refine pw_cv (s' := (66, [some (.ref 47), some (.int (ei_ ((B p)))), none, none, none], [], wi_ (wi_ m 47 (17) ((o + 1))) 47 (14) ((p + 1)))) rfl ?_
          refine pw_steps 2 (s' := (69, [some (.ref 47), some (.int (ei_ ((B p)))), none, none, none], [.int (ei_ (40)), .int (ei_ ((B p)))], wi_ (wi_ m 47 (17) ((o + 1))) 47 (14) ((p + 1)))) rfl ?_
          refine pw_cmpT rfl (by omega) (by decide) (show ¬ (B p) = 40 by omega) ?_
          refine pw_steps 1 (s' := (80, [some (.ref 47), some (.int (ei_ ((B p)))), none, none, none], [.ref 47], wi_ (wi_ m 47 (17) ((o + 1))) 47 (14) ((p + 1)))) rfl ?_
          refine pw_call (As := []) (st := []) (k := 47) rfl rfl rfl rfl rfl (Nat.le_of_ble_eq_true rfl) ?_
          refine hM5 (p := (p + 1)) (o := (o + 1)) (by omega) (by omega) (by omega) (by omega) (p2) ((ei_i (by omega))) (p4) ((ei_i (by omega))) (fun p145 z146 x47 m148 g49 g50 g51 g52 g53 g54 g55 => ?_) (fun p156 z157 x58 m159 g60 g61 g62 g63 g64 => ?_)
          · have t65 : mt_ B n m148 := mt_sm g50 p2
            obtain ⟨b66a, b66b, b66c, b66d⟩ := ps_e g49 (by omega)
            replace g54 := ex_cg (sm_f (P := pMd) (sm_w (sm_w (sm_rfl m) (fun _ h_ => by rw [h_]; rfl)) (fun _ h_ => by rw [h_]; rfl)) (fun _ => rfl)) g54
            refine pw_steps 3 (s' := (87, [some (.ref 47), some (.int (ei_ ((B p)))), some (.int (ei_ (x47))), none, none], [.int (ei_ (40)), .int (ei_ ((B p)))], m148)) rfl ?_
            refine pw_cmpT rfl (by omega) (by decide) (show ¬ (B p) = 40 by omega) ?_
            refine pw_steps 2 (s' := (106, [some (.ref 47), some (.int (ei_ ((B p)))), some (.int (ei_ (x47))), none, none], [.ref 47, .ref 47], m148)) rfl ?_
            refine pw_get rfl rfl (fun x67 (hx67 : x67 = vi_ m148 47 17) rx67 sx67 => ?_)
            replace hx67 : x67 = (o + 1) := hx67.trans g53
            subst x67
            refine pw_steps 2 (s' := (111, [some (.ref 47), some (.int (ei_ ((B p)))), some (.int (ei_ (x47))), none, none], [.int ((ei_ ((o + 1))) - (ei_ (1))), .ref 47], m148)) rfl ?_
            refine pw_cv (congrArg (fun z_ : Int32 => ((111, [some (.ref 47), some (.int (ei_ ((B p)))), some (.int (ei_ (x47))), none, none], [.int z_, .ref 47], m148) : am_S)) (ei_sub rfl rfl)) ?_
            refine pw_put (v := ((o + 1) - 1)) rfl rfl (Or.inl rfl) ?_
            refine pw_cv (s' := (114, [some (.ref 47), some (.int (ei_ ((B p)))), some (.int (ei_ (x47))), none, none], [], wi_ m148 47 (17) (((o + 1) - 1)))) rfl ?_
            refine pw_steps 2 (s' := (117, [some (.ref 47), some (.int (ei_ ((B p)))), some (.int (ei_ (x47))), none, none], [.int (ei_ (40)), .int (ei_ ((B p)))], wi_ m148 47 (17) (((o + 1) - 1)))) rfl ?_
            refine pw_cmpT rfl (by omega) (by decide) (show ¬ (B p) = 40 by omega) ?_
            refine pw_steps 2 (s' := (127, [some (.ref 47), some (.int (ei_ ((B p)))), some (.int (ei_ (x47))), none, none], [.int (ei_ (45)), .int (ei_ ((B p)))], wi_ m148 47 (17) (((o + 1) - 1)))) rfl ?_
            refine pw_cmpF rfl (by omega) (by decide) (show ¬ (¬ (B p) = 45) by omega) ?_
            refine pw_steps 3 (s' := (144, [some (.ref 47), some (.int (ei_ ((B p)))), some (.int (ei_ (x47))), none, none], [.int (-(ei_ (x47)))], wi_ m148 47 (17) (((o + 1) - 1)))) rfl ?_
            refine pw_cv (congrArg (fun z_ : Int32 => ((144, [some (.ref 47), some (.int (ei_ ((B p)))), some (.int (ei_ (x47))), none, none], [.int z_], wi_ m148 47 (17) (((o + 1) - 1))) : am_S)) (ei_neg rfl)) ?_
            refine pw_iret rfl rfl rfl ?_
            rw [← ei_wr (-x47)]
            exact k1 _ _ (wr_ (-x47)) _ ((ps_trn (by omega) (by omega) (by omega) g49).trans (if_pos rfl)) (sm_w (sm_tr (sm_w (sm_w (sm_rfl m) (fun _ h_ => by rw [h_]; rfl)) (fun _ h_ => by rw [h_]; rfl)) g50) (fun _ h_ => by rw [h_]; rfl)) ((g51).trans (by omega)) ((g52).trans (by omega)) (((ei_i (by omega))).trans (by omega)) (ex_trn g54 (by split <;> omega) (by rw [if_neg (by omega)]; unfold tn_; omega)) (wr_r _)
          · have t68 : mt_ B n m159 := mt_sm g61 p2
            obtain ⟨b69a, b69b, b69c, b69d⟩ := ps_e g60 (by omega)
            refine pw_steps 3 (s' := (87, [some (.ref 47), some (.int (ei_ ((B p)))), some (.int (ei_ (x58))), none, none], [.int (ei_ (40)), .int (ei_ ((B p)))], m159)) rfl ?_
            refine pw_cmpT rfl (by omega) (by decide) (show ¬ (B p) = 40 by omega) ?_
            refine pw_steps 2 (s' := (106, [some (.ref 47), some (.int (ei_ ((B p)))), some (.int (ei_ (x58))), none, none], [.ref 47, .ref 47], m159)) rfl ?_
            refine pw_get rfl rfl (fun x70 (hx70 : x70 = vi_ m159 47 17) rx70 sx70 => ?_)
            refine pw_steps 2 (s' := (111, [some (.ref 47), some (.int (ei_ ((B p)))), some (.int (ei_ (x58))), none, none], [.int ((ei_ (x70)) - (ei_ (1))), .ref 47], m159)) rfl ?_
            refine pw_cv (congrArg (fun z_ : Int32 => ((111, [some (.ref 47), some (.int (ei_ ((B p)))), some (.int (ei_ (x58))), none, none], [.int z_, .ref 47], m159) : am_S)) (ei_sub rfl rfl)) ?_
            refine pw_put (v := (x70 - 1)) rfl rfl (Or.inl rfl) ?_
            refine pw_cv (s' := (114, [some (.ref 47), some (.int (ei_ ((B p)))), some (.int (ei_ (x58))), none, none], [], wi_ m159 47 (17) ((x70 - 1)))) rfl ?_
            refine pw_steps 2 (s' := (117, [some (.ref 47), some (.int (ei_ ((B p)))), some (.int (ei_ (x58))), none, none], [.int (ei_ (40)), .int (ei_ ((B p)))], wi_ m159 47 (17) ((x70 - 1)))) rfl ?_
            refine pw_cmpT rfl (by omega) (by decide) (show ¬ (B p) = 40 by omega) ?_
            refine pw_steps 2 (s' := (127, [some (.ref 47), some (.int (ei_ ((B p)))), some (.int (ei_ (x58))), none, none], [.int (ei_ (45)), .int (ei_ ((B p)))], wi_ m159 47 (17) ((x70 - 1)))) rfl ?_
            refine pw_cmpF rfl (by omega) (by decide) (show ¬ (¬ (B p) = 45) by omega) ?_
            refine pw_steps 3 (s' := (144, [some (.ref 47), some (.int (ei_ ((B p)))), some (.int (ei_ (x58))), none, none], [.int (-(ei_ (x58)))], wi_ m159 47 (17) ((x70 - 1)))) rfl ?_
            refine pw_cv (congrArg (fun z_ : Int32 => ((144, [some (.ref 47), some (.int (ei_ ((B p)))), some (.int (ei_ (x58))), none, none], [.int z_], wi_ m159 47 (17) ((x70 - 1))) : am_S)) (ei_neg rfl)) ?_
            refine pw_iret rfl rfl rfl ?_
            rw [← ei_wr (-x58)]
            exact k2 _ _ (wr_ (-x58)) _ ((ps_trn (by omega) (by omega) (by omega) g60).trans (if_neg (by decide))) (sm_w (sm_tr (sm_w (sm_w (sm_rfl m) (fun _ h_ => by rw [h_]; rfl)) (fun _ h_ => by rw [h_]; rfl)) g61) (fun _ h_ => by rw [h_]; rfl)) ((g62).trans (by omega)) ((g63).trans (by omega)) (wr_r _)
        · refine pw_steps 1 (s' := (42, [some (.ref 47), some (.int (ei_ ((B p)))), none, none, none], [.ref 47], m)) rfl ?_
          refine pw_call (As := []) (st := []) (k := 47) rfl rfl rfl rfl rfl (Nat.le_of_ble_eq_true rfl) ?_
          refine pw_intro (I := iX9_wrong) (T := tX9_wrong) rfl rfl rfl ?_
          refine pw_steps 2 (s' := (2, [some (.ref 47)], [.ref 47, .ref 47], m)) rfl ?_
          refine pw_get rfl rfl (fun x71 (hx71 : x71 = vi_ m 47 16) rx71 sx71 => ?_)
          replace hx71 : x71 = (-1) := hx71.trans p4
          subst x71
          refine pw_ifF rfl (by decide) (show ¬ (0 ≤ (-1)) by decide) ?_
          refine pw_steps 1 (s' := (9, [some (.ref 47)], [.ref 47, .ref 47], m)) rfl ?_
          refine pw_get rfl rfl (fun x72 (hx72 : x72 = vi_ m 47 14) rx72 sx72 => ?_)
          replace hx72 : x72 = p := hx72.trans p3
          subst x72
          refine pw_steps 1 (s' := (19, [some (.ref 47)], [.int (ei_ (p)), .ref 47], m)) rfl ?_
          refine pw_put (v := p) rfl rfl (Or.inl rfl) ?_
          refine pw_cv (s' := (22, [some (.ref 47)], [], wi_ m 47 (16) (p))) rfl ?_
          refine pw_steps 1 (s' := (23, [some (.ref 47)], [.int (ei_ (0))], wi_ m 47 (16) (p))) rfl ?_
          refine pw_iret rfl rfl rfl ?_
          refine pw_iret rfl rfl rfl ?_
          exact k2 p [] 0 _ (ps_bad (by omega) (by rw [kn_op (by omega)]; omega) (by omega)) (sm_w (sm_rfl m) (fun _ h_ => by rw [h_]; rfl)) ((p3).trans (by omega)) (((ei_i (by omega))).trans (by omega)) (by decide)
      · refine pw_steps 2 (s' := (29, [some (.ref 47), some (.int (ei_ ((B p)))), none, none, none], [.int (ei_ (40)), .int (ei_ ((B p)))], m)) rfl ?_
        refine pw_cmp rfl (by omega) (by decide) (fun (h73 : ¬ (B p) = 40) => ?_) (fun (h73 : ¬ ¬ (B p) = 40) => ?_)
        · refine pw_steps 1 (s' := (146, [some (.ref 47), some (.int (ei_ ((B p)))), none, none, none], [.int (ei_ ((B p)))], m)) rfl ?_
          refine pw_callS (As := [.int (ei_ ((B p)))]) (st := []) rfl (by decide) rfl rfl (Nat.le_of_ble_eq_true rfl) ?_
          refine mt_nameOf (by omega) (fun x74 g75 g76 => ?_)
          refine pw_steps 2 (s' := (151, [some (.ref 47), some (.int (ei_ ((B p)))), some (.int (ei_ (x74))), none, none], [.int (ei_ (x74))], m)) rfl ?_
          refine pw_if rfl (by omega) (fun (h77 : x74 < 0) => ?_) (fun (h77 : ¬ (x74 < 0)) => ?_)
          · refine pw_steps 4 (s' := (176, [some (.ref 47), some (.int (ei_ ((B p)))), some (.int (ei_ (x74))), some (.int (ei_ (0))), some (.int (ei_ (0)))], [], m)) rfl ?_
            have L80 : ∀ (n78 : Nat) (a : Int) (k : Int) (m1 : am_M) (pp : Int), (4 - k).toNat = n78 → (0 ≤ k ∧ k ≤ 4) → (p ≤ pp ∧ pp ≤ n) → (0 ≤ a ∧ ((k = 0 ∧ a = 0 ∧ pp = p) ∨ ((p < n ∧ 48 ≤ B p ∧ B p ≤ 57) ∧ ((k = 1 ∧ a ≤ 9) ∨ (k = 2 ∧ a ≤ 99) ∨ (k = 3 ∧ a ≤ 999) ∨ (k = 4 ∧ a ≤ 9999))))) → (sm_ pAt m m1) → (vi_ m1 47 14 = pp) → (dg_ B n (4 - k).toNat pp a = dg_ B n 4 p 0) → pw_V q (d1 + 3) iX9_one.2.2.2.1 tX9_one Q (176, [some (.ref 47), some (.int (ei_ ((B p)))), some (.int (ei_ (x74))), some (.int (ei_ (a))), some (.int (ei_ (k)))], [], m1) := by
              intro n78
              induction n78 using Nat.strongRecOn with
              | _ n78 ih79 =>
                intro a k m1 pp hm_n78 v81 v82 v83 hs v84 hdg
                have tq := mt_at hs p2
                have t85 : mt_ B n m1 := mt_at hs p2
                refine pw_steps 2 (s' := (179, [some (.ref 47), some (.int (ei_ ((B p)))), some (.int (ei_ (x74))), some (.int (ei_ (a))), some (.int (ei_ (k)))], [.int (ei_ (4)), .int (ei_ (k))], m1)) rfl ?_
                refine pw_cmp rfl (by omega) (by decide) (fun (h86 : 4 ≤ k) => ?_) (fun (h86 : ¬ (4 ≤ k)) => ?_)
                · refine pw_steps 1 (s' := (231, [some (.ref 47), some (.int (ei_ ((B p)))), some (.int (ei_ (x74))), some (.int (ei_ (a))), some (.int (ei_ (k)))], [.int (ei_ (k))], m1)) rfl ?_
                  refine pw_ifT rfl (by omega) (show ¬ k = 0 by omega) ?_
                  refine pw_steps 1 (s' := (242, [some (.ref 47), some (.int (ei_ ((B p)))), some (.int (ei_ (x74))), some (.int (ei_ (a))), some (.int (ei_ (k)))], [.int (ei_ (a))], m1)) rfl ?_
                  refine pw_iret rfl rfl rfl ?_
                  have he_ := dg_e hdg (by omega)
                  exact k1 _ _ a _ (ps_num (by omega)) (sm_le hs pAt_Md) ((v84).trans he_.1) ((((sm_v hs rfl).trans p4)).trans (by omega)) ((((sm_v hs rfl).trans p5)).trans (by omega)) (ex_num (by omega) (by omega)) (by omega)
                · refine pw_steps 1 (s' := (183, [some (.ref 47), some (.int (ei_ ((B p)))), some (.int (ei_ (x74))), some (.int (ei_ (a))), some (.int (ei_ (k)))], [.ref 47], m1)) rfl ?_
                  refine pw_call (As := []) (st := []) (k := 47) rfl rfl rfl rfl rfl (Nat.le_of_ble_eq_true rfl) ?_
                  refine mt_byte (p := pp) (t85) (by omega) (v84) (fun g87 g88 => ?_) (fun g89 => ?_)
                  · refine pw_steps 1 (s' := (188, [some (.ref 47), some (.int (ei_ ((B p)))), some (.int (ei_ (x74))), some (.int (ei_ (a))), some (.int (ei_ (k)))], [.int (ei_ (48)), .int (ei_ ((B pp)))], m1)) rfl ?_
                    refine pw_cmp rfl (by omega) (by decide) (fun (h90 : (B pp) < 48) => ?_) (fun (h90 : ¬ ((B pp) < 48)) => ?_)
                    · refine pw_steps 1 (s' := (231, [some (.ref 47), some (.int (ei_ ((B p)))), some (.int (ei_ (x74))), some (.int (ei_ (a))), some (.int (ei_ (k)))], [.int (ei_ (k))], m1)) rfl ?_
                      refine pw_if rfl (by omega) (fun (h91 : ¬ k = 0) => ?_) (fun (h91 : ¬ ¬ k = 0) => ?_)
                      · refine pw_steps 1 (s' := (242, [some (.ref 47), some (.int (ei_ ((B p)))), some (.int (ei_ (x74))), some (.int (ei_ (a))), some (.int (ei_ (k)))], [.int (ei_ (a))], m1)) rfl ?_
                        refine pw_iret rfl rfl rfl ?_
                        have he_ := dg_e hdg (by omega)
                        exact k1 _ _ a _ (ps_num (by omega)) (sm_le hs pAt_Md) ((v84).trans he_.1) ((((sm_v hs rfl).trans p4)).trans (by omega)) ((((sm_v hs rfl).trans p5)).trans (by omega)) (ex_num (by omega) (by omega)) (by omega)
                      · refine pw_steps 1 (s' := (235, [some (.ref 47), some (.int (ei_ ((B p)))), some (.int (ei_ (x74))), some (.int (ei_ (a))), some (.int (ei_ (k)))], [.ref 47], m1)) rfl ?_
                        refine pw_call (As := []) (st := []) (k := 47) rfl rfl rfl rfl rfl (Nat.le_of_ble_eq_true rfl) ?_
                        refine pw_intro (I := iX9_wrong) (T := tX9_wrong) rfl rfl rfl ?_
                        refine pw_steps 2 (s' := (2, [some (.ref 47)], [.ref 47, .ref 47], m1)) rfl ?_
                        refine pw_get rfl rfl (fun x92 (hx92 : x92 = vi_ m1 47 16) rx92 sx92 => ?_)
                        replace hx92 : x92 = vi_ m 47 16 := hx92.trans (sm_v hs rfl)
                        replace hx92 : x92 = (-1) := hx92.trans p4
                        subst x92
                        refine pw_ifF rfl (by decide) (show ¬ (0 ≤ (-1)) by decide) ?_
                        refine pw_steps 1 (s' := (9, [some (.ref 47)], [.ref 47, .ref 47], m1)) rfl ?_
                        refine pw_get rfl rfl (fun x93 (hx93 : x93 = vi_ m1 47 14) rx93 sx93 => ?_)
                        replace hx93 : x93 = pp := hx93.trans v84
                        subst x93
                        refine pw_steps 1 (s' := (19, [some (.ref 47)], [.int (ei_ (pp)), .ref 47], m1)) rfl ?_
                        refine pw_put (v := pp) rfl rfl (Or.inl rfl) ?_
                        refine pw_cv (s' := (22, [some (.ref 47)], [], wi_ m1 47 (16) (pp))) rfl ?_
                        refine pw_steps 1 (s' := (23, [some (.ref 47)], [.int (ei_ (0))], wi_ m1 47 (16) (pp))) rfl ?_
                        refine pw_iret rfl rfl rfl ?_
                        refine pw_steps 1 (s' := (242, [some (.ref 47), some (.int (ei_ ((B p)))), some (.int (ei_ (x74))), some (.int (ei_ (a))), some (.int (ei_ (k)))], [.int (ei_ (0))], wi_ m1 47 (16) (pp))) rfl ?_
                        refine pw_iret rfl rfl rfl ?_
                        have hB_ : B pp = B p := by rw [show pp = p by omega]
                        exact k2 p [] 0 _ (ps_bad (by omega) (by omega) (by omega)) (sm_w (sm_le hs pAt_Md) (fun _ h_ => by rw [h_]; rfl)) ((v84).trans (by omega)) (((ei_i (by omega))).trans (by omega)) (by decide)
                    · refine pw_steps 1 (s' := (192, [some (.ref 47), some (.int (ei_ ((B p)))), some (.int (ei_ (x74))), some (.int (ei_ (a))), some (.int (ei_ (k)))], [.ref 47], m1)) rfl ?_
                      refine pw_call (As := []) (st := []) (k := 47) rfl rfl rfl rfl rfl (Nat.le_of_ble_eq_true rfl) ?_
                      refine mt_byte (p := pp) (t85) (by omega) (v84) (fun g94 g95 => ?_) (fun g96 => ?_)
                      · refine pw_steps 1 (s' := (197, [some (.ref 47), some (.int (ei_ ((B p)))), some (.int (ei_ (x74))), some (.int (ei_ (a))), some (.int (ei_ (k)))], [.int (ei_ (57)), .int (ei_ ((B pp)))], m1)) rfl ?_
                        refine pw_cmp rfl (by omega) (by decide) (fun (h97 : 57 < (B pp)) => ?_) (fun (h97 : ¬ (57 < (B pp))) => ?_)
                        · refine pw_steps 1 (s' := (231, [some (.ref 47), some (.int (ei_ ((B p)))), some (.int (ei_ (x74))), some (.int (ei_ (a))), some (.int (ei_ (k)))], [.int (ei_ (k))], m1)) rfl ?_
                          refine pw_if rfl (by omega) (fun (h98 : ¬ k = 0) => ?_) (fun (h98 : ¬ ¬ k = 0) => ?_)
                          · refine pw_steps 1 (s' := (242, [some (.ref 47), some (.int (ei_ ((B p)))), some (.int (ei_ (x74))), some (.int (ei_ (a))), some (.int (ei_ (k)))], [.int (ei_ (a))], m1)) rfl ?_
                            refine pw_iret rfl rfl rfl ?_
                            have he_ := dg_e hdg (by omega)
                            exact k1 _ _ a _ (ps_num (by omega)) (sm_le hs pAt_Md) ((v84).trans he_.1) ((((sm_v hs rfl).trans p4)).trans (by omega)) ((((sm_v hs rfl).trans p5)).trans (by omega)) (ex_num (by omega) (by omega)) (by omega)
                          · refine pw_steps 1 (s' := (235, [some (.ref 47), some (.int (ei_ ((B p)))), some (.int (ei_ (x74))), some (.int (ei_ (a))), some (.int (ei_ (k)))], [.ref 47], m1)) rfl ?_
                            refine pw_call (As := []) (st := []) (k := 47) rfl rfl rfl rfl rfl (Nat.le_of_ble_eq_true rfl) ?_
                            refine pw_intro (I := iX9_wrong) (T := tX9_wrong) rfl rfl rfl ?_
                            refine pw_steps 2 (s' := (2, [some (.ref 47)], [.ref 47, .ref 47], m1)) rfl ?_
                            refine pw_get rfl rfl (fun x99 (hx99 : x99 = vi_ m1 47 16) rx99 sx99 => ?_)
                            replace hx99 : x99 = vi_ m 47 16 := hx99.trans (sm_v hs rfl)
                            replace hx99 : x99 = (-1) := hx99.trans p4
                            subst x99
                            refine pw_ifF rfl (by decide) (show ¬ (0 ≤ (-1)) by decide) ?_
                            refine pw_steps 1 (s' := (9, [some (.ref 47)], [.ref 47, .ref 47], m1)) rfl ?_
                            refine pw_get rfl rfl (fun x100 (hx100 : x100 = vi_ m1 47 14) rx100 sx100 => ?_)
                            replace hx100 : x100 = pp := hx100.trans v84
                            subst x100
                            refine pw_steps 1 (s' := (19, [some (.ref 47)], [.int (ei_ (pp)), .ref 47], m1)) rfl ?_
                            refine pw_put (v := pp) rfl rfl (Or.inl rfl) ?_
                            refine pw_cv (s' := (22, [some (.ref 47)], [], wi_ m1 47 (16) (pp))) rfl ?_
                            refine pw_steps 1 (s' := (23, [some (.ref 47)], [.int (ei_ (0))], wi_ m1 47 (16) (pp))) rfl ?_
                            refine pw_iret rfl rfl rfl ?_
                            refine pw_steps 1 (s' := (242, [some (.ref 47), some (.int (ei_ ((B p)))), some (.int (ei_ (x74))), some (.int (ei_ (a))), some (.int (ei_ (k)))], [.int (ei_ (0))], wi_ m1 47 (16) (pp))) rfl ?_
                            refine pw_iret rfl rfl rfl ?_
                            have hB_ : B pp = B p := by rw [show pp = p by omega]
                            exact k2 p [] 0 _ (ps_bad (by omega) (by omega) (by omega)) (sm_w (sm_le hs pAt_Md) (fun _ h_ => by rw [h_]; rfl)) ((v84).trans (by omega)) (((ei_i (by omega))).trans (by omega)) (by decide)
                        · refine pw_steps 4 (s' := (205, [some (.ref 47), some (.int (ei_ ((B p)))), some (.int (ei_ (x74))), some (.int (ei_ (a))), some (.int (ei_ (k)))], [.ref 47, .int ((ei_ (10)) * (ei_ (a)))], m1)) rfl ?_
                          refine pw_cv (congrArg (fun z_ : Int32 => ((205, [some (.ref 47), some (.int (ei_ ((B p)))), some (.int (ei_ (x74))), some (.int (ei_ (a))), some (.int (ei_ (k)))], [.ref 47, .int z_], m1) : am_S)) (ei_mul rfl rfl)) ?_
                          refine pw_call (As := []) (st := [.int (ei_ ((10 * a)))]) (k := 47) rfl rfl rfl rfl rfl (Nat.le_of_ble_eq_true rfl) ?_
                          refine mt_byte (p := pp) (t85) (by omega) (v84) (fun g101 g102 => ?_) (fun g103 => ?_)
                          · refine pw_steps 7 (s' := (218, [some (.ref 47), some (.int (ei_ ((B p)))), some (.int (ei_ (x74))), some (.int (((ei_ ((10 * a))) + (ei_ ((B pp)))) - (ei_ (48)))), some (.int ((ei_ (k)) + (ei_ (1))))], [.ref 47, .ref 47], m1)) rfl ?_
                            refine pw_cv (congrArg (fun z_ : Int32 => ((218, [some (.ref 47), some (.int (ei_ ((B p)))), some (.int (ei_ (x74))), some (.int z_), some (.int ((ei_ (k)) + (ei_ (1))))], [.ref 47, .ref 47], m1) : am_S)) (ei_sub (ei_add rfl rfl) rfl)) ?_
                            refine pw_cv (congrArg (fun z_ : Int32 => ((218, [some (.ref 47), some (.int (ei_ ((B p)))), some (.int (ei_ (x74))), some (.int (ei_ ((((10 * a) + (B pp)) - 48)))), some (.int z_)], [.ref 47, .ref 47], m1) : am_S)) (ei_add rfl rfl)) ?_
                            refine pw_get rfl rfl (fun x104 (hx104 : x104 = vi_ m1 47 14) rx104 sx104 => ?_)
                            replace hx104 : x104 = pp := hx104.trans v84
                            subst x104
                            refine pw_steps 2 (s' := (223, [some (.ref 47), some (.int (ei_ ((B p)))), some (.int (ei_ (x74))), some (.int (ei_ ((((10 * a) + (B pp)) - 48)))), some (.int (ei_ ((k + 1))))], [.int ((ei_ (pp)) + (ei_ (1))), .ref 47], m1)) rfl ?_
                            refine pw_cv (congrArg (fun z_ : Int32 => ((223, [some (.ref 47), some (.int (ei_ ((B p)))), some (.int (ei_ (x74))), some (.int (ei_ ((((10 * a) + (B pp)) - 48)))), some (.int (ei_ ((k + 1))))], [.int z_, .ref 47], m1) : am_S)) (ei_add rfl rfl)) ?_
                            refine pw_put (v := (pp + 1)) rfl rfl (Or.inl rfl) ?_
                            refine pw_cv (s' := (226, [some (.ref 47), some (.int (ei_ ((B p)))), some (.int (ei_ (x74))), some (.int (ei_ ((((10 * a) + (B pp)) - 48)))), some (.int (ei_ ((k + 1))))], [], wi_ m1 47 (14) ((pp + 1)))) rfl ?_
                            refine pw_steps 1 (s' := (176, [some (.ref 47), some (.int (ei_ ((B p)))), some (.int (ei_ (x74))), some (.int (ei_ ((((10 * a) + (B pp)) - 48)))), some (.int (ei_ ((k + 1))))], [], wi_ m1 47 (14) ((pp + 1)))) rfl ?_
                            exact ih79 _ (by omega) (((10 * a) + (B pp)) - 48) (k + 1) (wi_ m1 47 (14) ((pp + 1))) (pp + 1) rfl (by omega) (by omega) (by exact mz_dg (by assumption) (by omega) (by omega) (by omega)) ((sm_w hs (fun _ h_ => by rw [h_]; rfl))) ((ei_i (by omega))) (by rw [← hdg, show 10 * a + B pp - 48 = a * 10 + B pp - 48 by omega]; exact dg_s (by omega) (by omega))
                          · exact False.elim (by omega)
                      · exact False.elim (by omega)
                  · refine pw_steps 1 (s' := (188, [some (.ref 47), some (.int (ei_ ((B p)))), some (.int (ei_ (x74))), some (.int (ei_ (a))), some (.int (ei_ (k)))], [.int (ei_ (48)), .int (ei_ (0))], m1)) rfl ?_
                    refine pw_cmpT rfl (by decide) (by decide) (show 0 < 48 by decide) ?_
                    refine pw_steps 1 (s' := (231, [some (.ref 47), some (.int (ei_ ((B p)))), some (.int (ei_ (x74))), some (.int (ei_ (a))), some (.int (ei_ (k)))], [.int (ei_ (k))], m1)) rfl ?_
                    refine pw_if rfl (by omega) (fun (h105 : ¬ k = 0) => ?_) (fun (h105 : ¬ ¬ k = 0) => ?_)
                    · refine pw_steps 1 (s' := (242, [some (.ref 47), some (.int (ei_ ((B p)))), some (.int (ei_ (x74))), some (.int (ei_ (a))), some (.int (ei_ (k)))], [.int (ei_ (a))], m1)) rfl ?_
                      refine pw_iret rfl rfl rfl ?_
                      have he_ := dg_e hdg (by omega)
                      exact k1 _ _ a _ (ps_num (by omega)) (sm_le hs pAt_Md) ((v84).trans he_.1) ((((sm_v hs rfl).trans p4)).trans (by omega)) ((((sm_v hs rfl).trans p5)).trans (by omega)) (ex_num (by omega) (by omega)) (by omega)
                    · refine pw_steps 1 (s' := (235, [some (.ref 47), some (.int (ei_ ((B p)))), some (.int (ei_ (x74))), some (.int (ei_ (a))), some (.int (ei_ (k)))], [.ref 47], m1)) rfl ?_
                      refine pw_call (As := []) (st := []) (k := 47) rfl rfl rfl rfl rfl (Nat.le_of_ble_eq_true rfl) ?_
                      refine pw_intro (I := iX9_wrong) (T := tX9_wrong) rfl rfl rfl ?_
                      refine pw_steps 2 (s' := (2, [some (.ref 47)], [.ref 47, .ref 47], m1)) rfl ?_
                      refine pw_get rfl rfl (fun x106 (hx106 : x106 = vi_ m1 47 16) rx106 sx106 => ?_)
                      replace hx106 : x106 = vi_ m 47 16 := hx106.trans (sm_v hs rfl)
                      replace hx106 : x106 = (-1) := hx106.trans p4
                      subst x106
                      refine pw_ifF rfl (by decide) (show ¬ (0 ≤ (-1)) by decide) ?_
                      refine pw_steps 1 (s' := (9, [some (.ref 47)], [.ref 47, .ref 47], m1)) rfl ?_
                      refine pw_get rfl rfl (fun x107 (hx107 : x107 = vi_ m1 47 14) rx107 sx107 => ?_)
                      replace hx107 : x107 = pp := hx107.trans v84
                      subst x107
                      refine pw_steps 1 (s' := (19, [some (.ref 47)], [.int (ei_ (pp)), .ref 47], m1)) rfl ?_
                      refine pw_put (v := pp) rfl rfl (Or.inl rfl) ?_
                      refine pw_cv (s' := (22, [some (.ref 47)], [], wi_ m1 47 (16) (pp))) rfl ?_
                      refine pw_steps 1 (s' := (23, [some (.ref 47)], [.int (ei_ (0))], wi_ m1 47 (16) (pp))) rfl ?_
                      refine pw_iret rfl rfl rfl ?_
                      refine pw_steps 1 (s' := (242, [some (.ref 47), some (.int (ei_ ((B p)))), some (.int (ei_ (x74))), some (.int (ei_ (a))), some (.int (ei_ (k)))], [.int (ei_ (0))], wi_ m1 47 (16) (pp))) rfl ?_
                      refine pw_iret rfl rfl rfl ?_
                      have hB_ : B pp = B p := by rw [show pp = p by omega]
                      exact k2 p [] 0 _ (ps_bad (by omega) (by omega) (by omega)) (sm_w (sm_le hs pAt_Md) (fun _ h_ => by rw [h_]; rfl)) ((v84).trans (by omega)) (((ei_i (by omega))).trans (by omega)) (by decide)
            exact L80 _ 0 0 m p rfl (by omega) (by omega) (by omega) (by exact sm_rfl m) (by exact p3) (by rfl)
          · refine pw_steps 2 (s' := (156, [some (.ref 47), some (.int (ei_ ((B p)))), some (.int (ei_ (x74))), none, none], [.ref 47, .ref 47], m)) rfl ?_
            refine pw_get rfl rfl (fun x108 (hx108 : x108 = vi_ m 47 14) rx108 sx108 => ?_)
            replace hx108 : x108 = p := hx108.trans p3
            subst x108
            refine pw_steps 2 (s' := (161, [some (.ref 47), some (.int (ei_ ((B p)))), some (.int (ei_ (x74))), none, none], [.int ((ei_ (p)) + (ei_ (1))), .ref 47], m)) rfl ?_
            refine pw_cv (congrArg (fun z_ : Int32 => ((161, [some (.ref 47), some (.int (ei_ ((B p)))), some (.int (ei_ (x74))), none, none], [.int z_, .ref 47], m) : am_S)) (ei_add rfl rfl)) ?_
            refine pw_put (v := (p + 1)) rfl rfl (Or.inl rfl) ?_
            refine pw_cv (s' := (164, [some (.ref 47), some (.int (ei_ ((B p)))), some (.int (ei_ (x74))), none, none], [], wi_ m 47 (14) ((p + 1)))) rfl ?_
            refine pw_steps 3 (s' := (169, [some (.ref 47), some (.int (ei_ ((B p)))), some (.int (ei_ (x74))), none, none], [.int (ei_ (x74)), .ref 56], wi_ m 47 (14) ((p + 1)))) rfl ?_
            refine pw_ild rfl rfl (by omega) (fun x109 (hx109 : x109 = vi_ m 56 x74) rx109 sx109 => ?_)
            refine pw_iret rfl rfl rfl ?_
            have hd_ : 0 ≤ kn_ (B p) → ¬ (48 ≤ B p ∧ B p ≤ 57) := by unfold kn_; omega
            exact k1 (p + 1) _ x109 _ (ps_nam (by omega) (by omega)) (sm_w (sm_rfl m) (fun _ h_ => by rw [h_]; rfl)) (((ei_i (by omega))).trans (by omega)) ((p4).trans (by omega)) ((p5).trans (by omega)) (by rw [← g75]; exact ex_nam (by omega) hx109) ⟨rx109, sx109⟩
        · refine pw_steps 1 (s' := (33, [some (.ref 47), some (.int (ei_ ((B p)))), none, none, none], [.ref 47], m)) rfl ?_
          refine pw_get rfl rfl (fun x110 (hx110 : x110 = vi_ m 47 17) rx110 sx110 => ?_)
          replace hx110 : x110 = o := hx110.trans p5
          subst x110
          refine pw_steps 1 (s' := (38, [some (.ref 47), some (.int (ei_ ((B p)))), none, none, none], [.int (ei_ (6)), .int (ei_ (o))], m)) rfl ?_
          refine pw_cmp rfl ⟨rx110, sx110⟩ (by decide) (fun (h111 : ¬ o = 6) => ?_) (fun (h111 : ¬ ¬ o = 6) => ?_)
          · refine pw_steps 2 (s' := (48, [some (.ref 47), some (.int (ei_ ((B p)))), none, none, none], [.ref 47, .ref 47], m)) rfl ?_
            refine pw_get rfl rfl (fun x112 (hx112 : x112 = vi_ m 47 17) rx112 sx112 => ?_)
            replace hx112 : x112 = o := hx112.trans p5
            subst x112
            refine pw_steps 2 (s' := (53, [some (.ref 47), some (.int (ei_ ((B p)))), none, none, none], [.int ((ei_ (o)) + (ei_ (1))), .ref 47], m)) rfl ?_
            refine pw_cv (congrArg (fun z_ : Int32 => ((53, [some (.ref 47), some (.int (ei_ ((B p)))), none, none, none], [.int z_, .ref 47], m) : am_S)) (ei_add rfl rfl)) ?_
            refine pw_put (v := (o + 1)) rfl rfl (Or.inl rfl) ?_
            refine pw_cv (s' := (56, [some (.ref 47), some (.int (ei_ ((B p)))), none, none, none], [], wi_ m 47 (17) ((o + 1)))) rfl ?_
            refine pw_steps 2 (s' := (58, [some (.ref 47), some (.int (ei_ ((B p)))), none, none, none], [.ref 47, .ref 47], wi_ m 47 (17) ((o + 1)))) rfl ?_
            refine pw_get rfl rfl (fun x113 (hx113 : x113 = vi_ m 47 14) rx113 sx113 => ?_)
            replace hx113 : x113 = p := hx113.trans p3
            subst x113
            refine pw_steps 2 (s' := (63, [some (.ref 47), some (.int (ei_ ((B p)))), none, none, none], [.int ((ei_ (p)) + (ei_ (1))), .ref 47], wi_ m 47 (17) ((o + 1)))) rfl ?_
            refine pw_cv (congrArg (fun z_ : Int32 => ((63, [some (.ref 47), some (.int (ei_ ((B p)))), none, none, none], [.int z_, .ref 47], wi_ m 47 (17) ((o + 1))) : am_S)) (ei_add rfl rfl)) ?_
            refine pw_put (v := (p + 1)) rfl rfl (Or.inl rfl) ?_
            refine pw_cv (s' := (66, [some (.ref 47), some (.int (ei_ ((B p)))), none, none, none], [], wi_ (wi_ m 47 (17) ((o + 1))) 47 (14) ((p + 1)))) rfl ?_
            refine pw_steps 2 (s' := (69, [some (.ref 47), some (.int (ei_ ((B p)))), none, none, none], [.int (ei_ (40)), .int (ei_ ((B p)))], wi_ (wi_ m 47 (17) ((o + 1))) 47 (14) ((p + 1)))) rfl ?_
            refine pw_cmpF rfl (by omega) (by decide) (show ¬ (¬ (B p) = 40) by omega) ?_
            refine pw_steps 1 (s' := (73, [some (.ref 47), some (.int (ei_ ((B p)))), none, none, none], [.ref 47], wi_ (wi_ m 47 (17) ((o + 1))) 47 (14) ((p + 1)))) rfl ?_
            refine pw_call (As := []) (st := []) (k := 47) rfl rfl rfl rfl rfl (Nat.le_of_ble_eq_true rfl) ?_
            refine hM0 (p := (p + 1)) (o := (o + 1)) (by omega) (by omega) (by omega) (by omega) (p2) ((ei_i (by omega))) (p4) ((ei_i (by omega))) (fun p1114 z1115 x116 m1117 g118 g119 g120 g121 g122 g123 g124 => ?_) (fun p1125 z1126 x127 m1128 g129 g130 g131 g132 g133 => ?_)
            · have t134 : mt_ B n m1117 := mt_sm g119 p2
              obtain ⟨b135a, b135b, b135c, b135d⟩ := ps_e g118 (by omega)
              replace g123 := ex_cg (sm_f (P := pMd) (sm_w (sm_w (sm_rfl m) (fun _ h_ => by rw [h_]; rfl)) (fun _ h_ => by rw [h_]; rfl)) (fun _ => rfl)) g123
              refine pw_steps 4 (s' := (87, [some (.ref 47), some (.int (ei_ ((B p)))), some (.int (ei_ (x116))), none, none], [.int (ei_ (40)), .int (ei_ ((B p)))], m1117)) rfl ?_
              refine pw_cmpF rfl (by omega) (by decide) (show ¬ (¬ (B p) = 40) by omega) ?_
              refine pw_steps 2 (s' := (93, [some (.ref 47), some (.int (ei_ ((B p)))), some (.int (ei_ (x116))), none, none], [.int (ei_ (41)), .ref 47], m1117)) rfl ?_
              refine pw_call (As := [.int (ei_ (41))]) (st := []) (k := 47) rfl rfl rfl rfl rfl (Nat.le_of_ble_eq_true rfl) ?_
              refine mt_takes (p := p1114) (t134) (by omega) (g120) (g121) (by omega) (fun g136 g137 => ?_) (fun g138 => ?_)
              · refine pw_ifT rfl (by decide) (show ¬ 1 = 0 by decide) ?_
                refine pw_steps 2 (s' := (106, [some (.ref 47), some (.int (ei_ ((B p)))), some (.int (ei_ (x116))), none, none], [.ref 47, .ref 47], wi_ m1117 47 (14) ((p1114 + 1)))) rfl ?_
                refine pw_get rfl rfl (fun x139 (hx139 : x139 = vi_ m1117 47 17) rx139 sx139 => ?_)
                replace hx139 : x139 = (o + 1) := hx139.trans g122
                subst x139
                refine pw_steps 2 (s' := (111, [some (.ref 47), some (.int (ei_ ((B p)))), some (.int (ei_ (x116))), none, none], [.int ((ei_ ((o + 1))) - (ei_ (1))), .ref 47], wi_ m1117 47 (14) ((p1114 + 1)))) rfl ?_
                refine pw_cv (congrArg (fun z_ : Int32 => ((111, [some (.ref 47), some (.int (ei_ ((B p)))), some (.int (ei_ (x116))), none, none], [.int z_, .ref 47], wi_ m1117 47 (14) ((p1114 + 1))) : am_S)) (ei_sub rfl rfl)) ?_
                refine pw_put (v := ((o + 1) - 1)) rfl rfl (Or.inl rfl) ?_
                refine pw_cv (s' := (114, [some (.ref 47), some (.int (ei_ ((B p)))), some (.int (ei_ (x116))), none, none], [], wi_ (wi_ m1117 47 (14) ((p1114 + 1))) 47 (17) (((o + 1) - 1)))) rfl ?_
                refine pw_steps 2 (s' := (117, [some (.ref 47), some (.int (ei_ ((B p)))), some (.int (ei_ (x116))), none, none], [.int (ei_ (40)), .int (ei_ ((B p)))], wi_ (wi_ m1117 47 (14) ((p1114 + 1))) 47 (17) (((o + 1) - 1)))) rfl ?_
                refine pw_cmpF rfl (by omega) (by decide) (show ¬ (¬ (B p) = 40) by omega) ?_
                refine pw_steps 2 (s' := (144, [some (.ref 47), some (.int (ei_ ((B p)))), some (.int (ei_ (x116))), none, none], [.int (ei_ (x116))], wi_ (wi_ m1117 47 (14) ((p1114 + 1))) 47 (17) (((o + 1) - 1)))) rfl ?_
                refine pw_iret rfl rfl rfl ?_
                exact k1 _ _ _ _ ((ps_par (by omega) (by omega) (by omega) g118).trans (if_pos (by omega))) (sm_w (sm_w (sm_tr (sm_w (sm_w (sm_rfl m) (fun _ h_ => by rw [h_]; rfl)) (fun _ h_ => by rw [h_]; rfl)) g119) (fun _ h_ => by rw [h_]; rfl)) (fun _ h_ => by rw [h_]; rfl)) (((ei_i (by omega))).trans (by omega)) ((g121).trans (by omega)) (((ei_i (by omega))).trans (by omega)) g123 g124
              · refine pw_ifF rfl (by decide) (show ¬ (¬ 0 = 0) by decide) ?_
                refine pw_steps 1 (s' := (100, [some (.ref 47), some (.int (ei_ ((B p)))), some (.int (ei_ (x116))), none, none], [.ref 47], m1117)) rfl ?_
                refine pw_call (As := []) (st := []) (k := 47) rfl rfl rfl rfl rfl (Nat.le_of_ble_eq_true rfl) ?_
                refine pw_intro (I := iX9_wrong) (T := tX9_wrong) rfl rfl rfl ?_
                refine pw_steps 2 (s' := (2, [some (.ref 47)], [.ref 47, .ref 47], m1117)) rfl ?_
                refine pw_get rfl rfl (fun x140 (hx140 : x140 = vi_ m1117 47 16) rx140 sx140 => ?_)
                replace hx140 : x140 = (-1) := hx140.trans g121
                subst x140
                refine pw_ifF rfl (by decide) (show ¬ (0 ≤ (-1)) by decide) ?_
                refine pw_steps 1 (s' := (9, [some (.ref 47)], [.ref 47, .ref 47], m1117)) rfl ?_
                refine pw_get rfl rfl (fun x141 (hx141 : x141 = vi_ m1117 47 14) rx141 sx141 => ?_)
                replace hx141 : x141 = p1114 := hx141.trans g120
                subst x141
                refine pw_steps 1 (s' := (19, [some (.ref 47)], [.int (ei_ (p1114)), .ref 47], m1117)) rfl ?_
                refine pw_put (v := p1114) rfl rfl (Or.inl rfl) ?_
                refine pw_cv (s' := (22, [some (.ref 47)], [], wi_ m1117 47 (16) (p1114))) rfl ?_
                refine pw_steps 1 (s' := (23, [some (.ref 47)], [.int (ei_ (0))], wi_ m1117 47 (16) (p1114))) rfl ?_
                refine pw_iret rfl rfl rfl ?_
                refine pw_iret rfl rfl rfl ?_
                exact k2 _ _ 0 _ ((ps_par (by omega) (by omega) (by omega) g118).trans (if_neg (by omega))) (sm_w (sm_tr (sm_w (sm_w (sm_rfl m) (fun _ h_ => by rw [h_]; rfl)) (fun _ h_ => by rw [h_]; rfl)) g119) (fun _ h_ => by rw [h_]; rfl)) ((g120).trans (by omega)) (((ei_i (by omega))).trans (by omega)) (by decide)
            · have t142 : mt_ B n m1128 := mt_sm g130 p2
              obtain ⟨b143a, b143b, b143c, b143d⟩ := ps_e g129 (by omega)
              refine pw_steps 4 (s' := (87, [some (.ref 47), some (.int (ei_ ((B p)))), some (.int (ei_ (x127))), none, none], [.int (ei_ (40)), .int (ei_ ((B p)))], m1128)) rfl ?_
              refine pw_cmpF rfl (by omega) (by decide) (show ¬ (¬ (B p) = 40) by omega) ?_
              refine pw_steps 2 (s' := (93, [some (.ref 47), some (.int (ei_ ((B p)))), some (.int (ei_ (x127))), none, none], [.int (ei_ (41)), .ref 47], m1128)) rfl ?_
              refine pw_call (As := [.int (ei_ (41))]) (st := []) (k := 47) rfl rfl rfl rfl rfl (Nat.le_of_ble_eq_true rfl) ?_
              refine mt_takeF (e := p1125) (g132) (by omega) ?_
              refine pw_ifF rfl (by decide) (show ¬ (¬ 0 = 0) by decide) ?_
              refine pw_steps 1 (s' := (100, [some (.ref 47), some (.int (ei_ ((B p)))), some (.int (ei_ (x127))), none, none], [.ref 47], m1128)) rfl ?_
              refine pw_call (As := []) (st := []) (k := 47) rfl rfl rfl rfl rfl (Nat.le_of_ble_eq_true rfl) ?_
              refine pw_intro (I := iX9_wrong) (T := tX9_wrong) rfl rfl rfl ?_
              refine pw_steps 2 (s' := (2, [some (.ref 47)], [.ref 47, .ref 47], m1128)) rfl ?_
              refine pw_get rfl rfl (fun x144 (hx144 : x144 = vi_ m1128 47 16) rx144 sx144 => ?_)
              replace hx144 : x144 = p1125 := hx144.trans g132
              subst x144
              refine pw_ifT rfl ⟨rx144, sx144⟩ (show 0 ≤ p1125 by omega) ?_
              refine pw_steps 1 (s' := (16, [some (.ref 47)], [.ref 47, .ref 47], m1128)) rfl ?_
              refine pw_get rfl rfl (fun x145 (hx145 : x145 = vi_ m1128 47 16) rx145 sx145 => ?_)
              replace hx145 : x145 = p1125 := hx145.trans g132
              subst x145
              refine pw_put (v := p1125) rfl rfl (Or.inl rfl) ?_
              refine pw_cv (s' := (22, [some (.ref 47)], [], wi_ m1128 47 (16) (p1125))) rfl ?_
              refine pw_steps 1 (s' := (23, [some (.ref 47)], [.int (ei_ (0))], wi_ m1128 47 (16) (p1125))) rfl ?_
              refine pw_iret rfl rfl rfl ?_
              refine pw_iret rfl rfl rfl ?_
              exact k2 _ _ 0 _ ((ps_par (by omega) (by omega) (by omega) g129).trans (if_neg (by omega))) (sm_w (sm_tr (sm_w (sm_w (sm_rfl m) (fun _ h_ => by rw [h_]; rfl)) (fun _ h_ => by rw [h_]; rfl)) g130) (fun _ h_ => by rw [h_]; rfl)) ((g131).trans (by omega)) (((ei_i (by omega))).trans (by omega)) (by decide)
          · refine pw_steps 1 (s' := (42, [some (.ref 47), some (.int (ei_ ((B p)))), none, none, none], [.ref 47], m)) rfl ?_
            refine pw_call (As := []) (st := []) (k := 47) rfl rfl rfl rfl rfl (Nat.le_of_ble_eq_true rfl) ?_
            refine pw_intro (I := iX9_wrong) (T := tX9_wrong) rfl rfl rfl ?_
            refine pw_steps 2 (s' := (2, [some (.ref 47)], [.ref 47, .ref 47], m)) rfl ?_
            refine pw_get rfl rfl (fun x146 (hx146 : x146 = vi_ m 47 16) rx146 sx146 => ?_)
            replace hx146 : x146 = (-1) := hx146.trans p4
            subst x146
            refine pw_ifF rfl (by decide) (show ¬ (0 ≤ (-1)) by decide) ?_
            refine pw_steps 1 (s' := (9, [some (.ref 47)], [.ref 47, .ref 47], m)) rfl ?_
            refine pw_get rfl rfl (fun x147 (hx147 : x147 = vi_ m 47 14) rx147 sx147 => ?_)
            replace hx147 : x147 = p := hx147.trans p3
            subst x147
            refine pw_steps 1 (s' := (19, [some (.ref 47)], [.int (ei_ (p)), .ref 47], m)) rfl ?_
            refine pw_put (v := p) rfl rfl (Or.inl rfl) ?_
            refine pw_cv (s' := (22, [some (.ref 47)], [], wi_ m 47 (16) (p))) rfl ?_
            refine pw_steps 1 (s' := (23, [some (.ref 47)], [.int (ei_ (0))], wi_ m 47 (16) (p))) rfl ?_
            refine pw_iret rfl rfl rfl ?_
            refine pw_iret rfl rfl rfl ?_
            exact k2 p [] 0 _ (ps_bad (by omega) (by rw [kn_op (by omega)]; omega) (by omega)) (sm_w (sm_rfl m) (fun _ h_ => by rw [h_]; rfl)) ((p3).trans (by omega)) (((ei_i (by omega))).trans (by omega)) (by decide)
  · refine pw_steps 3 (s' := (17, [some (.ref 47), some (.int (ei_ (0))), none, none, none], [.int (ei_ (33)), .int (ei_ (0))], m)) rfl ?_
    refine pw_cmpF rfl (by decide) (by decide) (show ¬ (0 = 33) by decide) ?_
    refine pw_steps 2 (s' := (23, [some (.ref 47), some (.int (ei_ (0))), none, none, none], [.int (ei_ (45)), .int (ei_ (0))], m)) rfl ?_
    refine pw_cmpF rfl (by decide) (by decide) (show ¬ (0 = 45) by decide) ?_
    refine pw_steps 2 (s' := (29, [some (.ref 47), some (.int (ei_ (0))), none, none, none], [.int (ei_ (40)), .int (ei_ (0))], m)) rfl ?_
    refine pw_cmpT rfl (by decide) (by decide) (show ¬ 0 = 40 by decide) ?_
    refine pw_steps 1 (s' := (146, [some (.ref 47), some (.int (ei_ (0))), none, none, none], [.int (ei_ (0))], m)) rfl ?_
    refine pw_callS (As := [.int (ei_ (0))]) (st := []) rfl (by decide) rfl rfl (Nat.le_of_ble_eq_true rfl) ?_
    refine mt_nameOf (by omega) (fun x148 g149 g150 => ?_)
    have hk_ : kn_ 0 = -1 := rfl
    refine pw_steps 2 (s' := (151, [some (.ref 47), some (.int (ei_ (0))), some (.int (ei_ (x148))), none, none], [.int (ei_ (x148))], m)) rfl ?_
    refine pw_ifT rfl (by omega) (show x148 < 0 by omega) ?_
    refine pw_steps 4 (s' := (176, [some (.ref 47), some (.int (ei_ (0))), some (.int (ei_ (x148))), some (.int (ei_ (0))), some (.int (ei_ (0)))], [], m)) rfl ?_
    have L153 : ∀ (n151 : Nat) (a : Int) (k : Int) (m1 : am_M) (pp : Int), (4 - k).toNat = n151 → (0 ≤ k ∧ k ≤ 4) → (p ≤ pp ∧ pp ≤ n) → (0 ≤ a ∧ ((k = 0 ∧ a = 0 ∧ pp = p) ∨ ((p < n ∧ 48 ≤ B p ∧ B p ≤ 57) ∧ ((k = 1 ∧ a ≤ 9) ∨ (k = 2 ∧ a ≤ 99) ∨ (k = 3 ∧ a ≤ 999) ∨ (k = 4 ∧ a ≤ 9999))))) → (sm_ pAt m m1) → (vi_ m1 47 14 = pp) → (dg_ B n (4 - k).toNat pp a = dg_ B n 4 p 0) → pw_V q (d1 + 3) iX9_one.2.2.2.1 tX9_one Q (176, [some (.ref 47), some (.int (ei_ (0))), some (.int (ei_ (x148))), some (.int (ei_ (a))), some (.int (ei_ (k)))], [], m1) := by
      intro n151
      induction n151 using Nat.strongRecOn with
      | _ n151 ih152 =>
        intro a k m1 pp hm_n151 v154 v155 v156 hs v157 hdg
        have tq := mt_at hs p2
        have t158 : mt_ B n m1 := mt_at hs p2
        refine pw_steps 2 (s' := (179, [some (.ref 47), some (.int (ei_ (0))), some (.int (ei_ (x148))), some (.int (ei_ (a))), some (.int (ei_ (k)))], [.int (ei_ (4)), .int (ei_ (k))], m1)) rfl ?_
        refine pw_cmp rfl (by omega) (by decide) (fun (h159 : 4 ≤ k) => ?_) (fun (h159 : ¬ (4 ≤ k)) => ?_)
        · refine pw_steps 1 (s' := (231, [some (.ref 47), some (.int (ei_ (0))), some (.int (ei_ (x148))), some (.int (ei_ (a))), some (.int (ei_ (k)))], [.int (ei_ (k))], m1)) rfl ?_
          refine pw_ifT rfl (by omega) (show ¬ k = 0 by omega) ?_
          refine pw_steps 1 (s' := (242, [some (.ref 47), some (.int (ei_ (0))), some (.int (ei_ (x148))), some (.int (ei_ (a))), some (.int (ei_ (k)))], [.int (ei_ (a))], m1)) rfl ?_
          refine pw_iret rfl rfl rfl ?_
          have he_ := dg_e hdg (by omega)
          exact k1 _ _ a _ (ps_num (by omega)) (sm_le hs pAt_Md) ((v157).trans he_.1) ((((sm_v hs rfl).trans p4)).trans (by omega)) ((((sm_v hs rfl).trans p5)).trans (by omega)) (ex_num (by omega) (by omega)) (by omega)
        · refine pw_steps 1 (s' := (183, [some (.ref 47), some (.int (ei_ (0))), some (.int (ei_ (x148))), some (.int (ei_ (a))), some (.int (ei_ (k)))], [.ref 47], m1)) rfl ?_
          refine pw_call (As := []) (st := []) (k := 47) rfl rfl rfl rfl rfl (Nat.le_of_ble_eq_true rfl) ?_
          refine mt_byte (p := pp) (t158) (by omega) (v157) (fun g160 g161 => ?_) (fun g162 => ?_)
          · exact False.elim (by omega)
          · refine pw_steps 1 (s' := (188, [some (.ref 47), some (.int (ei_ (0))), some (.int (ei_ (x148))), some (.int (ei_ (a))), some (.int (ei_ (k)))], [.int (ei_ (48)), .int (ei_ (0))], m1)) rfl ?_
            refine pw_cmpT rfl (by decide) (by decide) (show 0 < 48 by decide) ?_
            refine pw_steps 1 (s' := (231, [some (.ref 47), some (.int (ei_ (0))), some (.int (ei_ (x148))), some (.int (ei_ (a))), some (.int (ei_ (k)))], [.int (ei_ (k))], m1)) rfl ?_
            refine pw_if rfl (by omega) (fun (h163 : ¬ k = 0) => ?_) (fun (h163 : ¬ ¬ k = 0) => ?_)
            · refine pw_steps 1 (s' := (242, [some (.ref 47), some (.int (ei_ (0))), some (.int (ei_ (x148))), some (.int (ei_ (a))), some (.int (ei_ (k)))], [.int (ei_ (a))], m1)) rfl ?_
              refine pw_iret rfl rfl rfl ?_
              have he_ := dg_e hdg (by omega)
              exact k1 _ _ a _ (ps_num (by omega)) (sm_le hs pAt_Md) ((v157).trans he_.1) ((((sm_v hs rfl).trans p4)).trans (by omega)) ((((sm_v hs rfl).trans p5)).trans (by omega)) (ex_num (by omega) (by omega)) (by omega)
            · refine pw_steps 1 (s' := (235, [some (.ref 47), some (.int (ei_ (0))), some (.int (ei_ (x148))), some (.int (ei_ (a))), some (.int (ei_ (k)))], [.ref 47], m1)) rfl ?_
              refine pw_call (As := []) (st := []) (k := 47) rfl rfl rfl rfl rfl (Nat.le_of_ble_eq_true rfl) ?_
              refine pw_intro (I := iX9_wrong) (T := tX9_wrong) rfl rfl rfl ?_
              refine pw_steps 2 (s' := (2, [some (.ref 47)], [.ref 47, .ref 47], m1)) rfl ?_
              refine pw_get rfl rfl (fun x164 (hx164 : x164 = vi_ m1 47 16) rx164 sx164 => ?_)
              replace hx164 : x164 = vi_ m 47 16 := hx164.trans (sm_v hs rfl)
              replace hx164 : x164 = (-1) := hx164.trans p4
              subst x164
              refine pw_ifF rfl (by decide) (show ¬ (0 ≤ (-1)) by decide) ?_
              refine pw_steps 1 (s' := (9, [some (.ref 47)], [.ref 47, .ref 47], m1)) rfl ?_
              refine pw_get rfl rfl (fun x165 (hx165 : x165 = vi_ m1 47 14) rx165 sx165 => ?_)
              replace hx165 : x165 = pp := hx165.trans v157
              subst x165
              refine pw_steps 1 (s' := (19, [some (.ref 47)], [.int (ei_ (pp)), .ref 47], m1)) rfl ?_
              refine pw_put (v := pp) rfl rfl (Or.inl rfl) ?_
              refine pw_cv (s' := (22, [some (.ref 47)], [], wi_ m1 47 (16) (pp))) rfl ?_
              refine pw_steps 1 (s' := (23, [some (.ref 47)], [.int (ei_ (0))], wi_ m1 47 (16) (pp))) rfl ?_
              refine pw_iret rfl rfl rfl ?_
              refine pw_steps 1 (s' := (242, [some (.ref 47), some (.int (ei_ (0))), some (.int (ei_ (x148))), some (.int (ei_ (a))), some (.int (ei_ (k)))], [.int (ei_ (0))], wi_ m1 47 (16) (pp))) rfl ?_
              refine pw_iret rfl rfl rfl ?_
              have hB_ : B pp = B p := by rw [show pp = p by omega]
              exact k2 p [] 0 _ (ps_bad (by omega) (by omega) (by omega)) (sm_w (sm_le hs pAt_Md) (fun _ h_ => by rw [h_]; rfl)) ((v157).trans (by omega)) (((ei_i (by omega))).trans (by omega)) (by decide)
    exact L153 _ 0 0 m p rfl (by omega) (by omega) (by omega) (by exact sm_rfl m) (by exact p3) (by rfl)

theorem mz_all {q : am_X} {B : Int → Int} {n : Int} (hn : 0 ≤ n) : ∀ f : Nat, (∀ {o p : Int} {d : Nat} {m : am_M} {Q : Option Value → am_M → Prop}, (0 ≤ o ∧ o ≤ 6) → (6 * (6 - o) + 9 ≤ (d : Int)) → (0 ≤ p ∧ p ≤ n) → (7 * (n - p) + 6 ≤ ((f : Nat) : Int)) → mt_ B n m → vi_ m 47 14 = p → vi_ m 47 16 = -1 → vi_ m 47 17 = o → (∀ (p1 : Int) (z1 : List Int) (x : Int) (m1 : am_M), ps_ B n (f) 0 o p = (1, p1, z1) → sm_ pMd m m1 → vi_ m1 47 14 = p1 → vi_ m1 47 16 = -1 → vi_ m1 47 17 = o → ex_ (vi_ m 56) z1 x → (-2147483648 ≤ x ∧ x < 2147483648) → Q (some (.int (ei_ x))) m1) → (∀ (p1 : Int) (z1 : List Int) (x : Int) (m1 : am_M), ps_ B n (f) 0 o p = (0, p1, z1) → sm_ pMd m m1 → vi_ m1 47 14 = p1 → vi_ m1 47 16 = p1 → (-2147483648 ≤ x ∧ x < 2147483648) → Q (some (.int (ei_ x))) m1) → pw_C q d 192 [.ref 47] m Q) ∧ (∀ {o p : Int} {d : Nat} {m : am_M} {Q : Option Value → am_M → Prop}, (0 ≤ o ∧ o ≤ 6) → (6 * (6 - o) + 8 ≤ (d : Int)) → (0 ≤ p ∧ p ≤ n) → (7 * (n - p) + 5 ≤ ((f : Nat) : Int)) → mt_ B n m → vi_ m 47 14 = p → vi_ m 47 16 = -1 → vi_ m 47 17 = o → (∀ (p1 : Int) (z1 : List Int) (x : Int) (m1 : am_M), ps_ B n (f) 1 o p = (1, p1, z1) → sm_ pMd m m1 → vi_ m1 47 14 = p1 → vi_ m1 47 16 = -1 → vi_ m1 47 17 = o → ex_ (vi_ m 56) z1 x → (-2147483648 ≤ x ∧ x < 2147483648) → Q (some (.int (ei_ x))) m1) → (∀ (p1 : Int) (z1 : List Int) (x : Int) (m1 : am_M), ps_ B n (f) 1 o p = (0, p1, z1) → sm_ pMd m m1 → vi_ m1 47 14 = p1 → vi_ m1 47 16 = p1 → (-2147483648 ≤ x ∧ x < 2147483648) → Q (some (.int (ei_ x))) m1) → pw_C q d 193 [.ref 47] m Q) ∧ (∀ {o p : Int} {d : Nat} {m : am_M} {Q : Option Value → am_M → Prop}, (0 ≤ o ∧ o ≤ 6) → (6 * (6 - o) + 7 ≤ (d : Int)) → (0 ≤ p ∧ p ≤ n) → (7 * (n - p) + 4 ≤ ((f : Nat) : Int)) → mt_ B n m → vi_ m 47 14 = p → vi_ m 47 16 = -1 → vi_ m 47 17 = o → (∀ (p1 : Int) (z1 : List Int) (x : Int) (m1 : am_M), ps_ B n (f) 2 o p = (1, p1, z1) → sm_ pMd m m1 → vi_ m1 47 14 = p1 → vi_ m1 47 16 = -1 → vi_ m1 47 17 = o → ex_ (vi_ m 56) z1 x → (-2147483648 ≤ x ∧ x < 2147483648) → Q (some (.int (ei_ x))) m1) → (∀ (p1 : Int) (z1 : List Int) (x : Int) (m1 : am_M), ps_ B n (f) 2 o p = (0, p1, z1) → sm_ pMd m m1 → vi_ m1 47 14 = p1 → vi_ m1 47 16 = p1 → (-2147483648 ≤ x ∧ x < 2147483648) → Q (some (.int (ei_ x))) m1) → pw_C q d 194 [.ref 47] m Q) ∧ (∀ {o p : Int} {d : Nat} {m : am_M} {Q : Option Value → am_M → Prop}, (0 ≤ o ∧ o ≤ 6) → (6 * (6 - o) + 6 ≤ (d : Int)) → (0 ≤ p ∧ p ≤ n) → (7 * (n - p) + 3 ≤ ((f : Nat) : Int)) → mt_ B n m → vi_ m 47 14 = p → vi_ m 47 16 = -1 → vi_ m 47 17 = o → (∀ (p1 : Int) (z1 : List Int) (x : Int) (m1 : am_M), ps_ B n (f) 3 o p = (1, p1, z1) → sm_ pMd m m1 → vi_ m1 47 14 = p1 → vi_ m1 47 16 = -1 → vi_ m1 47 17 = o → ex_ (vi_ m 56) z1 x → (-2147483648 ≤ x ∧ x < 2147483648) → Q (some (.int (ei_ x))) m1) → (∀ (p1 : Int) (z1 : List Int) (x : Int) (m1 : am_M), ps_ B n (f) 3 o p = (0, p1, z1) → sm_ pMd m m1 → vi_ m1 47 14 = p1 → vi_ m1 47 16 = p1 → (-2147483648 ≤ x ∧ x < 2147483648) → Q (some (.int (ei_ x))) m1) → pw_C q d 195 [.ref 47] m Q) ∧ (∀ {o p : Int} {d : Nat} {m : am_M} {Q : Option Value → am_M → Prop}, (0 ≤ o ∧ o ≤ 6) → (6 * (6 - o) + 5 ≤ (d : Int)) → (0 ≤ p ∧ p ≤ n) → (7 * (n - p) + 2 ≤ ((f : Nat) : Int)) → mt_ B n m → vi_ m 47 14 = p → vi_ m 47 16 = -1 → vi_ m 47 17 = o → (∀ (p1 : Int) (z1 : List Int) (x : Int) (m1 : am_M), ps_ B n (f) 4 o p = (1, p1, z1) → sm_ pMd m m1 → vi_ m1 47 14 = p1 → vi_ m1 47 16 = -1 → vi_ m1 47 17 = o → ex_ (vi_ m 56) z1 x → (-2147483648 ≤ x ∧ x < 2147483648) → Q (some (.int (ei_ x))) m1) → (∀ (p1 : Int) (z1 : List Int) (x : Int) (m1 : am_M), ps_ B n (f) 4 o p = (0, p1, z1) → sm_ pMd m m1 → vi_ m1 47 14 = p1 → vi_ m1 47 16 = p1 → (-2147483648 ≤ x ∧ x < 2147483648) → Q (some (.int (ei_ x))) m1) → pw_C q d 196 [.ref 47] m Q) ∧ (∀ {o p : Int} {d : Nat} {m : am_M} {Q : Option Value → am_M → Prop}, (0 ≤ o ∧ o ≤ 6) → (6 * (6 - o) + 4 ≤ (d : Int)) → (0 ≤ p ∧ p ≤ n) → (7 * (n - p) + 1 ≤ ((f : Nat) : Int)) → mt_ B n m → vi_ m 47 14 = p → vi_ m 47 16 = -1 → vi_ m 47 17 = o → (∀ (p1 : Int) (z1 : List Int) (x : Int) (m1 : am_M), ps_ B n (f) 5 o p = (1, p1, z1) → sm_ pMd m m1 → vi_ m1 47 14 = p1 → vi_ m1 47 16 = -1 → vi_ m1 47 17 = o → ex_ (vi_ m 56) z1 x → (-2147483648 ≤ x ∧ x < 2147483648) → Q (some (.int (ei_ x))) m1) → (∀ (p1 : Int) (z1 : List Int) (x : Int) (m1 : am_M), ps_ B n (f) 5 o p = (0, p1, z1) → sm_ pMd m m1 → vi_ m1 47 14 = p1 → vi_ m1 47 16 = p1 → (-2147483648 ≤ x ∧ x < 2147483648) → Q (some (.int (ei_ x))) m1) → pw_C q d 197 [.ref 47] m Q) ∧ (∀ {o p v : Int} {u2 : Option Value} {d : Nat} {m : am_M} {Q : Option Value → am_M → Prop}, (0 ≤ o ∧ o ≤ 6) → (6 * (6 - o) + 8 ≤ (d : Int)) → (0 ≤ p ∧ p ≤ n) → (7 * (n - p) + 1 ≤ ((f : Nat) : Int)) → mt_ B n m → vi_ m 47 14 = p → vi_ m 47 16 = -1 → vi_ m 47 17 = o → (-2147483648 ≤ v ∧ v < 2147483648) → (∀ (p1 : Int) (z1 : List Int) (x : Int) (m1 : am_M), ps_ B n (f) (10 + 0) o p = (1, p1, z1) → sm_ pMd m m1 → vi_ m1 47 14 = p1 → vi_ m1 47 16 = -1 → vi_ m1 47 17 = o → ey_ (vi_ m 56) z1 v x → (-2147483648 ≤ x ∧ x < 2147483648) → Q (some (.int (ei_ x))) m1) → (∀ (p1 : Int) (z1 : List Int) (x : Int) (m1 : am_M), ps_ B n (f) (10 + 0) o p = (0, p1, z1) → sm_ pMd m m1 → vi_ m1 47 14 = p1 → vi_ m1 47 16 = p1 → (-2147483648 ≤ x ∧ x < 2147483648) → Q (some (.int (ei_ x))) m1) → pw_V q d iX9_either.2.2.2.1 tX9_either Q (5, [some (.ref 47), some (.int (ei_ v)), u2], [], m)) ∧ (∀ {o p v : Int} {u2 : Option Value} {d : Nat} {m : am_M} {Q : Option Value → am_M → Prop}, (0 ≤ o ∧ o ≤ 6) → (6 * (6 - o) + 7 ≤ (d : Int)) → (0 ≤ p ∧ p ≤ n) → (7 * (n - p) + 1 ≤ ((f : Nat) : Int)) → mt_ B n m → vi_ m 47 14 = p → vi_ m 47 16 = -1 → vi_ m 47 17 = o → (-2147483648 ≤ v ∧ v < 2147483648) → (∀ (p1 : Int) (z1 : List Int) (x : Int) (m1 : am_M), ps_ B n (f) (10 + 1) o p = (1, p1, z1) → sm_ pMd m m1 → vi_ m1 47 14 = p1 → vi_ m1 47 16 = -1 → vi_ m1 47 17 = o → ey_ (vi_ m 56) z1 v x → (-2147483648 ≤ x ∧ x < 2147483648) → Q (some (.int (ei_ x))) m1) → (∀ (p1 : Int) (z1 : List Int) (x : Int) (m1 : am_M), ps_ B n (f) (10 + 1) o p = (0, p1, z1) → sm_ pMd m m1 → vi_ m1 47 14 = p1 → vi_ m1 47 16 = p1 → (-2147483648 ≤ x ∧ x < 2147483648) → Q (some (.int (ei_ x))) m1) → pw_V q d iX9_both.2.2.2.1 tX9_both Q (5, [some (.ref 47), some (.int (ei_ v)), u2], [], m)) ∧ (∀ {o p v : Int} {u2 : Option Value} {u3 : Option Value} {d : Nat} {m : am_M} {Q : Option Value → am_M → Prop}, (0 ≤ o ∧ o ≤ 6) → (6 * (6 - o) + 6 ≤ (d : Int)) → (0 ≤ p ∧ p ≤ n) → (7 * (n - p) + 1 ≤ ((f : Nat) : Int)) → mt_ B n m → vi_ m 47 14 = p → vi_ m 47 16 = -1 → vi_ m 47 17 = o → (-2147483648 ≤ v ∧ v < 2147483648) → (∀ (p1 : Int) (z1 : List Int) (x : Int) (m1 : am_M), ps_ B n (f) (10 + 2) o p = (1, p1, z1) → sm_ pMd m m1 → vi_ m1 47 14 = p1 → vi_ m1 47 16 = -1 → vi_ m1 47 17 = o → ey_ (vi_ m 56) z1 v x → (-2147483648 ≤ x ∧ x < 2147483648) → Q (some (.int (ei_ x))) m1) → (∀ (p1 : Int) (z1 : List Int) (x : Int) (m1 : am_M), ps_ B n (f) (10 + 2) o p = (0, p1, z1) → sm_ pMd m m1 → vi_ m1 47 14 = p1 → vi_ m1 47 16 = p1 → (-2147483648 ≤ x ∧ x < 2147483648) → Q (some (.int (ei_ x))) m1) → pw_V q d iX9_compared.2.2.2.1 tX9_compared Q (5, [some (.ref 47), some (.int (ei_ v)), u2, u3], [], m)) ∧ (∀ {o p v : Int} {u2 : Option Value} {u3 : Option Value} {d : Nat} {m : am_M} {Q : Option Value → am_M → Prop}, (0 ≤ o ∧ o ≤ 6) → (6 * (6 - o) + 5 ≤ (d : Int)) → (0 ≤ p ∧ p ≤ n) → (7 * (n - p) + 1 ≤ ((f : Nat) : Int)) → mt_ B n m → vi_ m 47 14 = p → vi_ m 47 16 = -1 → vi_ m 47 17 = o → (-2147483648 ≤ v ∧ v < 2147483648) → (∀ (p1 : Int) (z1 : List Int) (x : Int) (m1 : am_M), ps_ B n (f) (10 + 3) o p = (1, p1, z1) → sm_ pMd m m1 → vi_ m1 47 14 = p1 → vi_ m1 47 16 = -1 → vi_ m1 47 17 = o → ey_ (vi_ m 56) z1 v x → (-2147483648 ≤ x ∧ x < 2147483648) → Q (some (.int (ei_ x))) m1) → (∀ (p1 : Int) (z1 : List Int) (x : Int) (m1 : am_M), ps_ B n (f) (10 + 3) o p = (0, p1, z1) → sm_ pMd m m1 → vi_ m1 47 14 = p1 → vi_ m1 47 16 = p1 → (-2147483648 ≤ x ∧ x < 2147483648) → Q (some (.int (ei_ x))) m1) → pw_V q d iX9_sums.2.2.2.1 tX9_sums Q (5, [some (.ref 47), some (.int (ei_ v)), u2, u3], [], m)) ∧ (∀ {o p v c : Int} {u3 : Option Value} {d : Nat} {m : am_M} {Q : Option Value → am_M → Prop}, (0 ≤ o ∧ o ≤ 6) → (6 * (6 - o) + 4 ≤ (d : Int)) → (0 ≤ p ∧ p ≤ n) → (7 * (n - p) + 1 ≤ ((f : Nat) : Int)) → mt_ B n m → vi_ m 47 14 = p → vi_ m 47 16 = -1 → vi_ m 47 17 = o → (-2147483648 ≤ v ∧ v < 2147483648) → ((p < n ∧ c = B p) ∨ (p = n ∧ c = 0)) → (∀ (p1 : Int) (z1 : List Int) (x : Int) (m1 : am_M), ps_ B n (f) (10 + 4) o p = (1, p1, z1) → sm_ pMd m m1 → vi_ m1 47 14 = p1 → vi_ m1 47 16 = -1 → vi_ m1 47 17 = o → ey_ (vi_ m 56) z1 v x → (-2147483648 ≤ x ∧ x < 2147483648) → Q (some (.int (ei_ x))) m1) → (∀ (p1 : Int) (z1 : List Int) (x : Int) (m1 : am_M), ps_ B n (f) (10 + 4) o p = (0, p1, z1) → sm_ pMd m m1 → vi_ m1 47 14 = p1 → vi_ m1 47 16 = p1 → (-2147483648 ≤ x ∧ x < 2147483648) → Q (some (.int (ei_ x))) m1) → pw_V q d iX9_product.2.2.2.1 tX9_product Q (10, [some (.ref 47), some (.int (ei_ v)), some (.int (ei_ c)), u3], [], m)) := by
  intro f
  induction f with
  | zero =>
    refine ⟨?_, ?_, ?_, ?_, ?_, ?_, ?_, ?_, ?_, ?_, ?_⟩
    · intro o p d m Q _ _ p1 pf; exact absurd pf (by omega)
    · intro o p d m Q _ _ p1 pf; exact absurd pf (by omega)
    · intro o p d m Q _ _ p1 pf; exact absurd pf (by omega)
    · intro o p d m Q _ _ p1 pf; exact absurd pf (by omega)
    · intro o p d m Q _ _ p1 pf; exact absurd pf (by omega)
    · intro o p d m Q _ _ p1 pf; exact absurd pf (by omega)
    · intro o p v u2 d m Q _ _ p1 pf; exact absurd pf (by omega)
    · intro o p v u2 d m Q _ _ p1 pf; exact absurd pf (by omega)
    · intro o p v u2 u3 d m Q _ _ p1 pf; exact absurd pf (by omega)
    · intro o p v u2 u3 d m Q _ _ p1 pf; exact absurd pf (by omega)
    · intro o p v c u3 d m Q _ _ p1 pf; exact absurd pf (by omega)
  | succ f ih =>
    obtain ⟨a0, a1, a2, a3, a4, a5, b0, b1, b2, b3, b4⟩ := ih
    exact ⟨mz_l0 a1 b0, mz_l1 a2 b1, mz_l2 a3 b2, mz_l3 a4 b3, mz_l4 a5 b4, mz_one a0 a5, mz_b0 a1 b0, mz_b1 a2 b1, mz_b2 a3 b2, mz_b3 a4 b3, mz_b4 a5 b4⟩

