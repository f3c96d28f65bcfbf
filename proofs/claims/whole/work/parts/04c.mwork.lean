
theorem pMd_Rd : ∀ k j, pRd k j = false → pMd k j = false := by
  intro k j h
  simp only [pMd, pRd, Bool.and_eq_false_iff, Bool.or_eq_false_iff, decide_eq_false_iff_not, beq_eq_false_iff_ne] at h ⊢
  rcases h with h | h
  · exact Or.inl h
  · exact Or.inr (by omega)
/-- what the lines z ahead have given: nothing yet (0), or gs -/
def wg_ (v : Int → Int) (z : List Int) (gv gs : Int) : Prop := (gv = 0 ∧ gs = 0 ∧ ∀ r, xq_ v (z ++ r) [] = xq_ v r []) ∨ (gv = 1 ∧ ∀ r, xq_ v (z ++ r) [] = gs)
theorem wg_nil {v : Int → Int} : wg_ v [] 0 0 := Or.inl ⟨rfl, rfl, fun _ => rfl⟩
theorem wg_one {v : Int → Int} {z z1 : List Int} {gv gs x : Int} (h : wg_ v z gv gs) (e : ex_ v z1 x) : wg_ v (z ++ (z1 ++ [59])) 1 (if gv = 0 then x else gs) := by
  refine Or.inr ⟨rfl, fun r => ?_⟩
  rcases h with ⟨h1, h2, h3⟩ | ⟨h1, h2⟩
  · rw [if_pos h1, List.append_assoc, h3, List.append_assoc, e]
    show xq_ v (59 :: r) [x] = x
    simp only [xq_]
    rw [if_neg (by omega), if_pos trivial]
    rfl
  · rw [if_neg (by omega), List.append_assoc, h2]
theorem wg_chc {v : Int → Int} {z z1 z2 : List Int} {gv gs x y : Int} (h : wg_ v z gv gs) (e : ex_ v z1 x) (g : ex_ v z2 y) : wg_ v (z ++ ((z1 ++ z2) ++ [63])) (if x = 0 then gv else 1) (if x = 0 then gs else if gv = 0 then y else gs) := by
  have key : ∀ r, xq_ v (((z1 ++ z2) ++ [63]) ++ r) [] = if x = 0 then xq_ v r [] else y := by
    intro r
    rw [List.append_assoc, List.append_assoc, e, g]
    show xq_ v (63 :: r) [y, x] = _
    simp only [xq_]
    rw [if_neg (by omega), if_neg (by omega), if_neg (by omega), if_pos trivial]
  rcases h with ⟨h1, h2, h3⟩ | ⟨h1, h2⟩
  · by_cases hx : x = 0
    · rw [if_pos hx, if_pos hx]
      refine Or.inl ⟨h1, h2, fun r => ?_⟩
      rw [List.append_assoc, h3, key, if_pos hx]
    · rw [if_neg hx, if_neg hx, if_pos h1]
      refine Or.inr ⟨rfl, fun r => ?_⟩
      rw [List.append_assoc, h3, key, if_neg hx]
  · refine Or.inr ⟨by split <;> omega, fun r => ?_⟩
    rw [List.append_assoc, h2]
    split
    · rfl
    · rw [if_neg (by omega)]
theorem wg_cg {v : Int → Int} {z : List Int} {a b a' b' : Int} (h : wg_ v z a b) (ha : a' = a) (hb : b' = b) : wg_ v z a' b' := by rw [ha, hb]; exact h
theorem wg_end {v : Int → Int} {z : List Int} {gv gs : Int} (h : wg_ v z gv gs) : gs = xq_ v z [] := by
  rcases h with ⟨h1, h2, h3⟩ | ⟨h1, h2⟩
  · have := h3 []; rw [List.append_nil] at this; rw [this, h2]; rfl
  · have := h2 []; rw [List.append_nil] at this; rw [this]
/-- the lines from p on, behind z -/
def wx_ (B : Int → Int) (n : Int) (X : Int × Int × List Int) (k p : Int) (z : List Int) : Prop := X = ((pg_ B n 900 (121 - k).toNat p).1, (pg_ B n 900 (121 - k).toNat p).2.1, z ++ (pg_ B n 900 (121 - k).toNat p).2.2)
theorem wx_s {B : Int → Int} {n : Int} {X : Int × Int × List Int} {k p p1 : Int} {z z1 : List Int} (h : wx_ B n X k p z) (hk : k ≤ 120) (e : ln_ B n 900 p = (1, p1, z1)) (c : p1 < n ∧ B p1 = 59) : wx_ B n X (k + 1) (p1 + 1) (z ++ z1) := by
  unfold wx_ at h ⊢
  rw [h, show (121 - k).toNat = (121 - (k + 1)).toNat + 1 by omega]
  simp only [pg_, e, pk_]
  rw [if_pos ⟨trivial, c.1, c.2⟩]
  simp only [List.append_assoc]
theorem wx_e {B : Int → Int} {n : Int} {X : Int × Int × List Int} {k p g p1 : Int} {z z1 : List Int} (h : wx_ B n X k p z) (hk : k ≤ 120) (e : ln_ B n 900 p = (g, p1, z1)) (c : ¬ (g = 1 ∧ p1 < n ∧ B p1 = 59)) : X = (g, p1, z ++ z1) := by
  unfold wx_ at h
  rw [h, show (121 - k).toNat = (121 - (k + 1)).toNat + 1 by omega]
  simp only [pg_, e, pk_]
  rw [if_neg c]

theorem mt_lv0 {q : am_X} {d : Nat} {B : Int → Int} {n p : Int} {m : am_M} {Q : Option Value → am_M → Prop} (p0 : mt_ B n m) (p1 : 0 ≤ p ∧ p ≤ n) (p2 : vi_ m 47 14 = p) (p3 : vi_ m 47 16 = -1) (p4 : vi_ m 47 17 = 0) (k1 : (∀ (p1 : Int) (z1 : List Int) (x : Int) (m1 : am_M), ps_ B n 900 0 0 p = (1, p1, z1) → sm_ pMd m m1 → vi_ m1 47 14 = p1 → vi_ m1 47 16 = -1 → vi_ m1 47 17 = 0 → ex_ (vi_ m 56) z1 x → (-2147483648 ≤ x ∧ x < 2147483648) → Q (some (.int (ei_ x))) m1)) (k2 : (∀ (p1 : Int) (z1 : List Int) (x : Int) (m1 : am_M), ps_ B n 900 0 0 p = (0, p1, z1) → sm_ pMd m m1 → vi_ m1 47 14 = p1 → vi_ m1 47 16 = p1 → (-2147483648 ≤ x ∧ x < 2147483648) → Q (some (.int (ei_ x))) m1)) : pw_C q (d + 45) 192 [.ref 47] m Q := by
  have hn := p0.2.2.2.2
  exact (mz_all (q := q) (B := B) hn.1 900).1 (o := 0) (by omega) (by omega) p1 (by omega) p0 p2 p3 p4 k1 k2


theorem mt_mk {B : Int → Int} {n a : Int} {m : am_M} (h : a = -1 ∧ (∀ j, 0 ≤ j → j < n → vi_ m 54 j = B j) ∨ a = 0 ∧ (∀ j, 0 ≤ j → j < n → vi_ m 55 j = B j)) (hB : ∀ j, 0 ≤ j → j < n → 0 ≤ B j ∧ B j ≤ 255) (hn : 0 ≤ n ∧ n ≤ 120) : mt_ B n (wi_ (wi_ (wi_ (wi_ (wi_ m 47 13 a) 47 14 0) 47 15 n) 47 16 (-1)) 47 17 0) := by
  have e1 : vi_ (wi_ (wi_ (wi_ (wi_ (wi_ m 47 13 a) 47 14 0) 47 15 n) 47 16 (-1)) 47 17 0) 47 15 = n := (ei_i (by omega) : (ei_ n).toInt = n)
  have e2 : vi_ (wi_ (wi_ (wi_ (wi_ (wi_ m 47 13 a) 47 14 0) 47 15 n) 47 16 (-1)) 47 17 0) 47 13 = a := (ei_i (by omega) : (ei_ a).toInt = a)
  have e3 : vi_ (wi_ (wi_ (wi_ (wi_ (wi_ m 47 13 a) 47 14 0) 47 15 n) 47 16 (-1)) 47 17 0) 54 = vi_ m 54 := by
    simp only [vi_nef (show (54 : Nat) ≠ 47 by decide)]
  have e4 : vi_ (wi_ (wi_ (wi_ (wi_ (wi_ m 47 13 a) 47 14 0) 47 15 n) 47 16 (-1)) 47 17 0) 55 = vi_ m 55 := by
    simp only [vi_nef (show (55 : Nat) ≠ 47 by decide)]
  refine ⟨e1, ?_, ?_, hB, hn⟩
  · rw [e2, e3]; intro h1; rcases h with h | h
    · exact h.2
    · omega
  · rw [e2, e4]; intro h1; rcases h with h | h
    · omega
    · exact h

set_option maxHeartbeats 4000000 in
set_option maxRecDepth 20000 in
theorem mt_workOut {q : am_X} {d : Nat} {m : am_M} {Q : Option Value → am_M → Prop} {a : Int} {n : Int} {B : Int → Int} (p0 : a = -1 ∧ (∀ j, 0 ≤ j → j < n → vi_ m 54 j = B j) ∨ a = 0 ∧ (∀ j, 0 ≤ j → j < n → vi_ m 55 j = B j)) (p1 : ∀ j, 0 ≤ j → j < n → 0 ≤ B j ∧ B j ≤ 255) (p2 : 0 ≤ n ∧ n ≤ 120) (k0 : ∀ (x : Int) (m1 : am_M), ((pg_ B n 900 121 0).1 = 1 ∧ (pg_ B n 900 121 0).2.1 = n) → (sm_ pRd m m1) → (vi_ m1 47 16 = (-1)) → (x = xq_ (vi_ m 56) (pg_ B n 900 121 0).2.2 []) → (-2147483648 ≤ x ∧ x < 2147483648) → Q (some (.int (ei_ (x)))) m1) (k1 : ∀ (x : Int) (m1 : am_M), (¬ ((pg_ B n 900 121 0).1 = 1 ∧ (pg_ B n 900 121 0).2.1 = n)) → (sm_ pRd m m1) → (vi_ m1 47 16 = (pg_ B n 900 121 0).2.1) → (0 ≤ (pg_ B n 900 121 0).2.1 ∧ (pg_ B n 900 121 0).2.1 ≤ 120) → (-2147483648 ≤ x ∧ x < 2147483648) → Q (some (.int (ei_ (x)))) m1) : pw_C q (d + 48) 191 [.ref 47, .int (ei_ (a)), .int (ei_ (n))] m Q := by
  have hmt : mt_ B n (wi_ (wi_ (wi_ (wi_ (wi_ m 47 13 a) 47 14 0) 47 15 n) 47 16 (-1)) 47 17 0) := mt_mk p0 p1 p2
  refine pw_intro (I := iX9_workOut) (T := tX9_workOut) rfl rfl rfl ?_
  refine pw_steps 2 (s' := (2, [some (.ref 47), some (.int (ei_ (a))), some (.int (ei_ (n))), none, none, none, none, none], [.int (ei_ (a)), .ref 47], m)) rfl ?_
  refine pw_put (v := a) rfl rfl (Or.inl rfl) ?_
  refine pw_cv (s' := (5, [some (.ref 47), some (.int (ei_ (a))), some (.int (ei_ (n))), none, none, none, none, none], [], wi_ m 47 (13) (a))) rfl ?_
  refine pw_steps 2 (s' := (7, [some (.ref 47), some (.int (ei_ (a))), some (.int (ei_ (n))), none, none, none, none, none], [.int (ei_ (0)), .ref 47], wi_ m 47 (13) (a))) rfl ?_
  refine pw_put (v := 0) rfl rfl (Or.inl rfl) ?_
  refine pw_cv (s' := (10, [some (.ref 47), some (.int (ei_ (a))), some (.int (ei_ (n))), none, none, none, none, none], [], wi_ (wi_ m 47 (13) (a)) 47 (14) (0))) rfl ?_
  refine pw_steps 2 (s' := (12, [some (.ref 47), some (.int (ei_ (a))), some (.int (ei_ (n))), none, none, none, none, none], [.int (ei_ (n)), .ref 47], wi_ (wi_ m 47 (13) (a)) 47 (14) (0))) rfl ?_
  refine pw_put (v := n) rfl rfl (Or.inl rfl) ?_
  refine pw_cv (s' := (15, [some (.ref 47), some (.int (ei_ (a))), some (.int (ei_ (n))), none, none, none, none, none], [], wi_ (wi_ (wi_ m 47 (13) (a)) 47 (14) (0)) 47 (15) (n))) rfl ?_
  refine pw_steps 2 (s' := (17, [some (.ref 47), some (.int (ei_ (a))), some (.int (ei_ (n))), none, none, none, none, none], [.int (ei_ ((-1))), .ref 47], wi_ (wi_ (wi_ m 47 (13) (a)) 47 (14) (0)) 47 (15) (n))) rfl ?_
  refine pw_put (v := (-1)) rfl rfl (Or.inl rfl) ?_
  refine pw_cv (s' := (20, [some (.ref 47), some (.int (ei_ (a))), some (.int (ei_ (n))), none, none, none, none, none], [], wi_ (wi_ (wi_ (wi_ m 47 (13) (a)) 47 (14) (0)) 47 (15) (n)) 47 (16) ((-1)))) rfl ?_
  refine pw_steps 2 (s' := (22, [some (.ref 47), some (.int (ei_ (a))), some (.int (ei_ (n))), none, none, none, none, none], [.int (ei_ (0)), .ref 47], wi_ (wi_ (wi_ (wi_ m 47 (13) (a)) 47 (14) (0)) 47 (15) (n)) 47 (16) ((-1)))) rfl ?_
  refine pw_put (v := 0) rfl rfl (Or.inl rfl) ?_
  refine pw_cv (s' := (25, [some (.ref 47), some (.int (ei_ (a))), some (.int (ei_ (n))), none, none, none, none, none], [], wi_ (wi_ (wi_ (wi_ (wi_ m 47 (13) (a)) 47 (14) (0)) 47 (15) (n)) 47 (16) ((-1))) 47 (17) (0))) rfl ?_
  refine pw_steps 6 (s' := (33, [some (.ref 47), some (.int (ei_ (a))), some (.int (ei_ (n))), some (.int (ei_ (0))), some (.int (ei_ (0))), some (.int (ei_ (1))), none, none], [], wi_ (wi_ (wi_ (wi_ (wi_ m 47 (13) (a)) 47 (14) (0)) 47 (15) (n)) 47 (16) ((-1))) 47 (17) (0))) rfl ?_
  have L5 : ∀ (n3 : Nat) (gv : Int) (gs : Int) (u1 : Option Value) (u2 : Option Value) (m1 : am_M) (kk : Int) (pp : Int) (zz : List Int), (122 - kk).toNat = n3 → (0 ≤ kk ∧ kk ≤ pp ∧ pp ≤ n ∧ 0 ≤ gv ∧ gv ≤ 1) → (sm_ pRd m m1) → (mt_ B n m1) → (vi_ m1 47 14 = pp) → (vi_ m1 47 16 = (-1)) → (vi_ m1 47 17 = 0) → (-2147483648 ≤ gs ∧ gs < 2147483648) → (wx_ B n (pg_ B n 900 121 0) kk pp zz) → (wg_ (vi_ m 56) zz gv gs) → pw_V q (d + 47) iX9_workOut.2.2.2.1 tX9_workOut Q (33, [some (.ref 47), some (.int (ei_ (a))), some (.int (ei_ (n))), some (.int (ei_ (gv))), some (.int (ei_ (gs))), some (.int (ei_ (1))), u1, u2], [], m1) := by
    intro n3
    induction n3 using Nat.strongRecOn with
    | _ n3 ih4 =>
      intro gv gs u1 u2 m1 kk pp zz hm_n3 v6 hs hmt1 v7 v8 v9 v10 hX hw
      refine pw_steps 1 (s' := (35, [some (.ref 47), some (.int (ei_ (a))), some (.int (ei_ (n))), some (.int (ei_ (gv))), some (.int (ei_ (gs))), some (.int (ei_ (1))), u1, u2], [.int (ei_ (1))], m1)) rfl ?_
      refine pw_ifF rfl (by decide) (show ¬ (1 = 0) by decide) ?_
      have he15 := hmt1.1
      refine pw_steps 1 (s' := (39, [some (.ref 47), some (.int (ei_ (a))), some (.int (ei_ (n))), some (.int (ei_ (gv))), some (.int (ei_ (gs))), some (.int (ei_ (1))), u1, u2], [.ref 47], m1)) rfl ?_
      refine pw_call (As := []) (st := []) (k := 47) rfl rfl rfl rfl rfl (Nat.le_of_ble_eq_true rfl) ?_
      refine mt_lv0 (p := pp) (hmt1) (by omega) (v7) (v8) (v9) (fun p111 z112 x13 m114 g15 g16 g17 g18 g19 g20 g21 => ?_) (fun p122 z123 x24 m125 g26 g27 g28 g29 g30 => ?_)
      · have t31 : mt_ B n m114 := mt_sm g16 hmt1
        obtain ⟨b32a, b32b, b32c, b32d⟩ := ps_e g15 (by omega)
        replace g20 := ex_cg (sm_f (P := pRd) hs (fun _ => rfl)) g20
        refine pw_steps 5 (s' := (50, [some (.ref 47), some (.int (ei_ (a))), some (.int (ei_ (n))), some (.int (ei_ (gv))), some (.int (ei_ (gs))), some (.int (ei_ (1))), some (.int (ei_ (x13))), some (.int (ei_ (1)))], [.int (ei_ (63)), .ref 47], m114)) rfl ?_
        refine pw_call (As := [.int (ei_ (63))]) (st := []) (k := 47) rfl rfl rfl rfl rfl (Nat.le_of_ble_eq_true rfl) ?_
        refine mt_takes (p := p111) (t31) (by omega) (g17) (g18) (by omega) (fun g33 g34 => ?_) (fun g35 => ?_)
        · refine pw_ifF rfl (by decide) (show ¬ (1 = 0) by decide) ?_
          refine pw_steps 1 (s' := (58, [some (.ref 47), some (.int (ei_ (a))), some (.int (ei_ (n))), some (.int (ei_ (gv))), some (.int (ei_ (gs))), some (.int (ei_ (1))), some (.int (ei_ (x13))), some (.int (ei_ (1)))], [.int (ei_ (x13))], wi_ m114 47 (14) ((p111 + 1)))) rfl ?_
          refine pw_if rfl g21 (fun (h36 : x13 = 0) => ?_) (fun (h36 : ¬ (x13 = 0)) => ?_)
          · refine pw_steps 3 (s' := (69, [some (.ref 47), some (.int (ei_ (a))), some (.int (ei_ (n))), some (.int (ei_ (gv))), some (.int (ei_ (gs))), some (.int (ei_ (1))), some (.int (ei_ (x13))), some (.int (ei_ (0)))], [.ref 47], wi_ m114 47 (14) ((p111 + 1)))) rfl ?_
            refine pw_call (As := []) (st := []) (k := 47) rfl rfl rfl rfl rfl (Nat.le_of_ble_eq_true rfl) ?_
            refine mt_lv0 (p := (p111 + 1)) (t31) (by omega) ((ei_i (by omega))) (g18) (g19) (fun p137 z138 x39 m140 g41 g42 g43 g44 g45 g46 g47 => ?_) (fun p148 z149 x50 m151 g52 g53 g54 g55 g56 => ?_)
            · have t57 : mt_ B n m140 := mt_sm g42 t31
              obtain ⟨b58a, b58b, b58c, b58d⟩ := ps_e g41 (by omega)
              replace g46 := ex_cg (sm_f (P := pRd) (sm_w (sm_tr hs (sm_le g16 pMd_Rd)) (fun _ h_ => by rw [h_]; rfl)) (fun _ => rfl)) g46
              refine pw_steps 2 (s' := (75, [some (.ref 47), some (.int (ei_ (a))), some (.int (ei_ (n))), some (.int (ei_ (gv))), some (.int (ei_ (gs))), some (.int (ei_ (1))), some (.int (ei_ (x39))), some (.int (ei_ (0)))], [.ref 47], m140)) rfl ?_
              refine pw_get rfl rfl (fun x59 (hx59 : x59 = vi_ m140 47 16) rx59 sx59 => ?_)
              replace hx59 : x59 = (-1) := hx59.trans g44
              subst x59
              refine pw_ifF rfl (by decide) (show ¬ (0 ≤ (-1)) by decide) ?_
              refine pw_steps 1 (s' := (83, [some (.ref 47), some (.int (ei_ (a))), some (.int (ei_ (n))), some (.int (ei_ (gv))), some (.int (ei_ (gs))), some (.int (ei_ (1))), some (.int (ei_ (x39))), some (.int (ei_ (0)))], [.int (ei_ (0))], m140)) rfl ?_
              refine pw_ifT rfl (by decide) (show 0 = 0 by decide) ?_
              refine pw_steps 2 (s' := (99, [some (.ref 47), some (.int (ei_ (a))), some (.int (ei_ (n))), some (.int (ei_ (gv))), some (.int (ei_ (gs))), some (.int (ei_ (1))), some (.int (ei_ (x39))), some (.int (ei_ (0)))], [.int (ei_ (59)), .ref 47], m140)) rfl ?_
              refine pw_call (As := [.int (ei_ (59))]) (st := []) (k := 47) rfl rfl rfl rfl rfl (Nat.le_of_ble_eq_true rfl) ?_
              refine mt_takes (p := p137) (t57) (by omega) (g43) (g44) (by omega) (fun g60 g61 => ?_) (fun g62 => ?_)
              · refine pw_steps 2 (s' := (33, [some (.ref 47), some (.int (ei_ (a))), some (.int (ei_ (n))), some (.int (ei_ (gv))), some (.int (ei_ (gs))), some (.int (ei_ (1))), some (.int (ei_ (x39))), some (.int (ei_ (0)))], [], wi_ m140 47 (14) ((p137 + 1)))) rfl ?_
                exact ih4 _ (by omega) gv gs (some (.int (ei_ (x39)))) (some (.int (ei_ (0)))) (wi_ m140 47 (14) ((p137 + 1))) (kk + 1) (p137 + 1) (zz ++ ((z112 ++ z138) ++ [63])) rfl (by omega) ((sm_w (sm_tr (sm_w (sm_tr hs (sm_le g16 pMd_Rd)) (fun _ h_ => by rw [h_]; rfl)) (sm_le g42 pMd_Rd)) (fun _ h_ => by rw [h_]; rfl))) (t57) ((ei_i (by omega))) (g44) (g45) (by omega) (by exact wx_s hX (by omega) ((ln_2 g15 (by omega) g41).trans (if_pos rfl)) (by omega)) (by exact wg_cg (wg_chc hw g20 g46) (by omega) (by omega))
              · refine pw_steps 3 (s' := (35, [some (.ref 47), some (.int (ei_ (a))), some (.int (ei_ (n))), some (.int (ei_ (gv))), some (.int (ei_ (gs))), some (.int (ei_ (0))), some (.int (ei_ (x39))), some (.int (ei_ (0)))], [.int (ei_ (0))], m140)) rfl ?_
                refine pw_ifT rfl (by decide) (show 0 = 0 by decide) ?_
                refine pw_steps 1 (s' := (108, [some (.ref 47), some (.int (ei_ (a))), some (.int (ei_ (n))), some (.int (ei_ (gv))), some (.int (ei_ (gs))), some (.int (ei_ (0))), some (.int (ei_ (x39))), some (.int (ei_ (0)))], [.ref 47], m140)) rfl ?_
                refine pw_get rfl rfl (fun x63 (hx63 : x63 = vi_ m140 47 16) rx63 sx63 => ?_)
                replace hx63 : x63 = (-1) := hx63.trans g44
                subst x63
                refine pw_ifF rfl (by decide) (show ¬ (0 ≤ (-1)) by decide) ?_
                refine pw_steps 1 (s' := (115, [some (.ref 47), some (.int (ei_ (a))), some (.int (ei_ (n))), some (.int (ei_ (gv))), some (.int (ei_ (gs))), some (.int (ei_ (0))), some (.int (ei_ (x39))), some (.int (ei_ (0)))], [.ref 47], m140)) rfl ?_
                refine pw_get rfl rfl (fun x64 (hx64 : x64 = vi_ m140 47 14) rx64 sx64 => ?_)
                replace hx64 : x64 = p137 := hx64.trans g43
                subst x64
                refine pw_steps 1 (s' := (119, [some (.ref 47), some (.int (ei_ (a))), some (.int (ei_ (n))), some (.int (ei_ (gv))), some (.int (ei_ (gs))), some (.int (ei_ (0))), some (.int (ei_ (x39))), some (.int (ei_ (0)))], [.ref 47, .int (ei_ (p137))], m140)) rfl ?_
                refine pw_get rfl rfl (fun x65 (hx65 : x65 = vi_ m140 47 15) rx65 sx65 => ?_)
                replace hx65 : x65 = vi_ m114 47 15 := hx65.trans (sm_v g42 rfl)
                replace hx65 : x65 = vi_ m1 47 15 := hx65.trans (sm_v g16 rfl)
                replace hx65 : x65 = n := hx65.trans he15
                subst x65
                refine pw_cmp rfl ⟨rx64, sx64⟩ ⟨rx65, sx65⟩ (fun (h66 : n ≤ p137) => ?_) (fun (h66 : ¬ (n ≤ p137)) => ?_)
                · refine pw_steps 1 (s' := (132, [some (.ref 47), some (.int (ei_ (a))), some (.int (ei_ (n))), some (.int (ei_ (gv))), some (.int (ei_ (gs))), some (.int (ei_ (0))), some (.int (ei_ (x39))), some (.int (ei_ (0)))], [.int (ei_ (gs))], m140)) rfl ?_
                  refine pw_iret rfl rfl rfl ?_
                  have hE_ := wx_e hX (by omega) ((ln_2 g15 (by omega) g41).trans (if_pos rfl)) (by omega)
                  have hl_ : wg_ (vi_ m 56) (zz ++ ((z112 ++ z138) ++ [63])) gv gs := by exact wg_cg (wg_chc hw g20 g46) (by omega) (by omega)
                  exact k0 gs _ (by rw [hE_]; exact ⟨rfl, by show p137 = n; omega⟩) (sm_tr (sm_w (sm_tr hs (sm_le g16 pMd_Rd)) (fun _ h_ => by rw [h_]; rfl)) (sm_le g42 pMd_Rd)) g44 (by rw [hE_]; exact wg_end hl_) (by omega)
                · refine pw_steps 1 (s' := (126, [some (.ref 47), some (.int (ei_ (a))), some (.int (ei_ (n))), some (.int (ei_ (gv))), some (.int (ei_ (gs))), some (.int (ei_ (0))), some (.int (ei_ (x39))), some (.int (ei_ (0)))], [.ref 47], m140)) rfl ?_
                  refine pw_call (As := []) (st := []) (k := 47) rfl rfl rfl rfl rfl (Nat.le_of_ble_eq_true rfl) ?_
                  refine pw_intro (I := iX9_wrong) (T := tX9_wrong) rfl rfl rfl ?_
                  refine pw_steps 2 (s' := (2, [some (.ref 47)], [.ref 47, .ref 47], m140)) rfl ?_
                  refine pw_get rfl rfl (fun x67 (hx67 : x67 = vi_ m140 47 16) rx67 sx67 => ?_)
                  replace hx67 : x67 = (-1) := hx67.trans g44
                  subst x67
                  refine pw_ifF rfl (by decide) (show ¬ (0 ≤ (-1)) by decide) ?_
                  refine pw_steps 1 (s' := (9, [some (.ref 47)], [.ref 47, .ref 47], m140)) rfl ?_
                  refine pw_get rfl rfl (fun x68 (hx68 : x68 = vi_ m140 47 14) rx68 sx68 => ?_)
                  replace hx68 : x68 = p137 := hx68.trans g43
                  subst x68
                  refine pw_steps 1 (s' := (19, [some (.ref 47)], [.int (ei_ (p137)), .ref 47], m140)) rfl ?_
                  refine pw_put (v := p137) rfl rfl (Or.inl rfl) ?_
                  refine pw_cv (s' := (22, [some (.ref 47)], [], wi_ m140 47 (16) (p137))) rfl ?_
                  refine pw_steps 1 (s' := (23, [some (.ref 47)], [.int (ei_ (0))], wi_ m140 47 (16) (p137))) rfl ?_
                  refine pw_iret rfl rfl rfl ?_
                  refine pw_iret rfl rfl rfl ?_
                  have hE_ := wx_e hX (by omega) ((ln_2 g15 (by omega) g41).trans (if_pos rfl)) (by omega)
                  exact k1 0 _ (by rw [hE_]; show ¬ ((1 : Int) = 1 ∧ p137 = n); omega) (sm_w (sm_tr (sm_w (sm_tr hs (sm_le g16 pMd_Rd)) (fun _ h_ => by rw [h_]; rfl)) (sm_le g42 pMd_Rd)) (fun _ h_ => by rw [h_]; rfl)) (by rw [hE_]; exact (ei_i (by omega))) (by rw [hE_]; show 0 ≤ p137 ∧ p137 ≤ 120; omega) (by decide)
            · have t69 : mt_ B n m151 := mt_sm g53 t31
              obtain ⟨b70a, b70b, b70c, b70d⟩ := ps_e g52 (by omega)
              refine pw_steps 2 (s' := (75, [some (.ref 47), some (.int (ei_ (a))), some (.int (ei_ (n))), some (.int (ei_ (gv))), some (.int (ei_ (gs))), some (.int (ei_ (1))), some (.int (ei_ (x50))), some (.int (ei_ (0)))], [.ref 47], m151)) rfl ?_
              refine pw_get rfl rfl (fun x71 (hx71 : x71 = vi_ m151 47 16) rx71 sx71 => ?_)
              replace hx71 : x71 = p148 := hx71.trans g55
              subst x71
              refine pw_ifT rfl ⟨rx71, sx71⟩ (show 0 ≤ p148 by omega) ?_
              refine pw_steps 2 (s' := (99, [some (.ref 47), some (.int (ei_ (a))), some (.int (ei_ (n))), some (.int (ei_ (gv))), some (.int (ei_ (gs))), some (.int (ei_ (1))), some (.int (ei_ (x50))), some (.int (ei_ (0)))], [.int (ei_ (59)), .ref 47], m151)) rfl ?_
              refine pw_call (As := [.int (ei_ (59))]) (st := []) (k := 47) rfl rfl rfl rfl rfl (Nat.le_of_ble_eq_true rfl) ?_
              refine mt_takeF (e := p148) (g55) (by omega) ?_
              refine pw_steps 3 (s' := (35, [some (.ref 47), some (.int (ei_ (a))), some (.int (ei_ (n))), some (.int (ei_ (gv))), some (.int (ei_ (gs))), some (.int (ei_ (0))), some (.int (ei_ (x50))), some (.int (ei_ (0)))], [.int (ei_ (0))], m151)) rfl ?_
              refine pw_ifT rfl (by decide) (show 0 = 0 by decide) ?_
              refine pw_steps 1 (s' := (108, [some (.ref 47), some (.int (ei_ (a))), some (.int (ei_ (n))), some (.int (ei_ (gv))), some (.int (ei_ (gs))), some (.int (ei_ (0))), some (.int (ei_ (x50))), some (.int (ei_ (0)))], [.ref 47], m151)) rfl ?_
              refine pw_get rfl rfl (fun x72 (hx72 : x72 = vi_ m151 47 16) rx72 sx72 => ?_)
              replace hx72 : x72 = p148 := hx72.trans g55
              subst x72
              refine pw_ifT rfl ⟨rx71, sx71⟩ (show 0 ≤ p148 by omega) ?_
              refine pw_steps 1 (s' := (132, [some (.ref 47), some (.int (ei_ (a))), some (.int (ei_ (n))), some (.int (ei_ (gv))), some (.int (ei_ (gs))), some (.int (ei_ (0))), some (.int (ei_ (x50))), some (.int (ei_ (0)))], [.int (ei_ (gs))], m151)) rfl ?_
              refine pw_iret rfl rfl rfl ?_
              have hE_ := wx_e hX (by omega) ((ln_2 g15 (by omega) g52).trans (if_neg (by decide))) (by omega)
              exact k1 gs _ (by rw [hE_]; show ¬ ((0 : Int) = 1 ∧ p148 = n); omega) (sm_tr (sm_w (sm_tr hs (sm_le g16 pMd_Rd)) (fun _ h_ => by rw [h_]; rfl)) (sm_le g53 pMd_Rd)) (by rw [hE_]; exact g55) (by rw [hE_]; show 0 ≤ p148 ∧ p148 ≤ 120; omega) (by omega)
          · refine pw_steps 4 (s' := (69, [some (.ref 47), some (.int (ei_ (a))), some (.int (ei_ (n))), some (.int (ei_ (gv))), some (.int (ei_ (gs))), some (.int (ei_ (1))), some (.int (ei_ (x13))), some (.int (ei_ (1)))], [.ref 47], wi_ m114 47 (14) ((p111 + 1)))) rfl ?_
            refine pw_call (As := []) (st := []) (k := 47) rfl rfl rfl rfl rfl (Nat.le_of_ble_eq_true rfl) ?_
            refine mt_lv0 (p := (p111 + 1)) (t31) (by omega) ((ei_i (by omega))) (g18) (g19) (fun p173 z174 x75 m176 g77 g78 g79 g80 g81 g82 g83 => ?_) (fun p184 z185 x86 m187 g88 g89 g90 g91 g92 => ?_)
            · have t93 : mt_ B n m176 := mt_sm g78 t31
              obtain ⟨b94a, b94b, b94c, b94d⟩ := ps_e g77 (by omega)
              replace g82 := ex_cg (sm_f (P := pRd) (sm_w (sm_tr hs (sm_le g16 pMd_Rd)) (fun _ h_ => by rw [h_]; rfl)) (fun _ => rfl)) g82
              refine pw_steps 2 (s' := (75, [some (.ref 47), some (.int (ei_ (a))), some (.int (ei_ (n))), some (.int (ei_ (gv))), some (.int (ei_ (gs))), some (.int (ei_ (1))), some (.int (ei_ (x75))), some (.int (ei_ (1)))], [.ref 47], m176)) rfl ?_
              refine pw_get rfl rfl (fun x95 (hx95 : x95 = vi_ m176 47 16) rx95 sx95 => ?_)
              replace hx95 : x95 = (-1) := hx95.trans g80
              subst x95
              refine pw_ifF rfl (by decide) (show ¬ (0 ≤ (-1)) by decide) ?_
              refine pw_steps 1 (s' := (83, [some (.ref 47), some (.int (ei_ (a))), some (.int (ei_ (n))), some (.int (ei_ (gv))), some (.int (ei_ (gs))), some (.int (ei_ (1))), some (.int (ei_ (x75))), some (.int (ei_ (1)))], [.int (ei_ (1))], m176)) rfl ?_
              refine pw_ifF rfl (by decide) (show ¬ (1 = 0) by decide) ?_
              refine pw_steps 1 (s' := (87, [some (.ref 47), some (.int (ei_ (a))), some (.int (ei_ (n))), some (.int (ei_ (gv))), some (.int (ei_ (gs))), some (.int (ei_ (1))), some (.int (ei_ (x75))), some (.int (ei_ (1)))], [.int (ei_ (gv))], m176)) rfl ?_
              refine pw_if rfl (by omega) (fun (h96 : ¬ gv = 0) => ?_) (fun (h96 : ¬ ¬ gv = 0) => ?_)
              · refine pw_steps 2 (s' := (99, [some (.ref 47), some (.int (ei_ (a))), some (.int (ei_ (n))), some (.int (ei_ (gv))), some (.int (ei_ (gs))), some (.int (ei_ (1))), some (.int (ei_ (x75))), some (.int (ei_ (1)))], [.int (ei_ (59)), .ref 47], m176)) rfl ?_
                refine pw_call (As := [.int (ei_ (59))]) (st := []) (k := 47) rfl rfl rfl rfl rfl (Nat.le_of_ble_eq_true rfl) ?_
                refine mt_takes (p := p173) (t93) (by omega) (g79) (g80) (by omega) (fun g97 g98 => ?_) (fun g99 => ?_)
                · refine pw_steps 2 (s' := (33, [some (.ref 47), some (.int (ei_ (a))), some (.int (ei_ (n))), some (.int (ei_ (gv))), some (.int (ei_ (gs))), some (.int (ei_ (1))), some (.int (ei_ (x75))), some (.int (ei_ (1)))], [], wi_ m176 47 (14) ((p173 + 1)))) rfl ?_
                  exact ih4 _ (by omega) gv gs (some (.int (ei_ (x75)))) (some (.int (ei_ (1)))) (wi_ m176 47 (14) ((p173 + 1))) (kk + 1) (p173 + 1) (zz ++ ((z112 ++ z174) ++ [63])) rfl (by omega) ((sm_w (sm_tr (sm_w (sm_tr hs (sm_le g16 pMd_Rd)) (fun _ h_ => by rw [h_]; rfl)) (sm_le g78 pMd_Rd)) (fun _ h_ => by rw [h_]; rfl))) (t93) ((ei_i (by omega))) (g80) (g81) (by omega) (by exact wx_s hX (by omega) ((ln_2 g15 (by omega) g77).trans (if_pos rfl)) (by omega)) (by exact wg_cg (wg_chc hw g20 g82) (by omega) (by omega))
                · refine pw_steps 3 (s' := (35, [some (.ref 47), some (.int (ei_ (a))), some (.int (ei_ (n))), some (.int (ei_ (gv))), some (.int (ei_ (gs))), some (.int (ei_ (0))), some (.int (ei_ (x75))), some (.int (ei_ (1)))], [.int (ei_ (0))], m176)) rfl ?_
                  refine pw_ifT rfl (by decide) (show 0 = 0 by decide) ?_
                  refine pw_steps 1 (s' := (108, [some (.ref 47), some (.int (ei_ (a))), some (.int (ei_ (n))), some (.int (ei_ (gv))), some (.int (ei_ (gs))), some (.int (ei_ (0))), some (.int (ei_ (x75))), some (.int (ei_ (1)))], [.ref 47], m176)) rfl ?_
                  refine pw_get rfl rfl (fun x100 (hx100 : x100 = vi_ m176 47 16) rx100 sx100 => ?_)
                  replace hx100 : x100 = (-1) := hx100.trans g80
                  subst x100
                  refine pw_ifF rfl (by decide) (show ¬ (0 ≤ (-1)) by decide) ?_
                  refine pw_steps 1 (s' := (115, [some (.ref 47), some (.int (ei_ (a))), some (.int (ei_ (n))), some (.int (ei_ (gv))), some (.int (ei_ (gs))), some (.int (ei_ (0))), some (.int (ei_ (x75))), some (.int (ei_ (1)))], [.ref 47], m176)) rfl ?_
                  refine pw_get rfl rfl (fun x101 (hx101 : x101 = vi_ m176 47 14) rx101 sx101 => ?_)
                  replace hx101 : x101 = p173 := hx101.trans g79
                  subst x101
                  refine pw_steps 1 (s' := (119, [some (.ref 47), some (.int (ei_ (a))), some (.int (ei_ (n))), some (.int (ei_ (gv))), some (.int (ei_ (gs))), some (.int (ei_ (0))), some (.int (ei_ (x75))), some (.int (ei_ (1)))], [.ref 47, .int (ei_ (p173))], m176)) rfl ?_
                  refine pw_get rfl rfl (fun x102 (hx102 : x102 = vi_ m176 47 15) rx102 sx102 => ?_)
                  replace hx102 : x102 = vi_ m114 47 15 := hx102.trans (sm_v g78 rfl)
                  replace hx102 : x102 = vi_ m1 47 15 := hx102.trans (sm_v g16 rfl)
                  replace hx102 : x102 = n := hx102.trans he15
                  subst x102
                  refine pw_cmp rfl ⟨rx101, sx101⟩ ⟨rx102, sx102⟩ (fun (h103 : n ≤ p173) => ?_) (fun (h103 : ¬ (n ≤ p173)) => ?_)
                  · refine pw_steps 1 (s' := (132, [some (.ref 47), some (.int (ei_ (a))), some (.int (ei_ (n))), some (.int (ei_ (gv))), some (.int (ei_ (gs))), some (.int (ei_ (0))), some (.int (ei_ (x75))), some (.int (ei_ (1)))], [.int (ei_ (gs))], m176)) rfl ?_
                    refine pw_iret rfl rfl rfl ?_
                    have hE_ := wx_e hX (by omega) ((ln_2 g15 (by omega) g77).trans (if_pos rfl)) (by omega)
                    have hl_ : wg_ (vi_ m 56) (zz ++ ((z112 ++ z174) ++ [63])) gv gs := by exact wg_cg (wg_chc hw g20 g82) (by omega) (by omega)
                    exact k0 gs _ (by rw [hE_]; exact ⟨rfl, by show p173 = n; omega⟩) (sm_tr (sm_w (sm_tr hs (sm_le g16 pMd_Rd)) (fun _ h_ => by rw [h_]; rfl)) (sm_le g78 pMd_Rd)) g80 (by rw [hE_]; exact wg_end hl_) (by omega)
                  · refine pw_steps 1 (s' := (126, [some (.ref 47), some (.int (ei_ (a))), some (.int (ei_ (n))), some (.int (ei_ (gv))), some (.int (ei_ (gs))), some (.int (ei_ (0))), some (.int (ei_ (x75))), some (.int (ei_ (1)))], [.ref 47], m176)) rfl ?_
                    refine pw_call (As := []) (st := []) (k := 47) rfl rfl rfl rfl rfl (Nat.le_of_ble_eq_true rfl) ?_
                    refine pw_intro (I := iX9_wrong) (T := tX9_wrong) rfl rfl rfl ?_
                    refine pw_steps 2 (s' := (2, [some (.ref 47)], [.ref 47, .ref 47], m176)) rfl ?_
                    refine pw_get rfl rfl (fun x104 (hx104 : x104 = vi_ m176 47 16) rx104 sx104 => ?_)
                    replace hx104 : x104 = (-1) := hx104.trans g80
                    subst x104
                    refine pw_ifF rfl (by decide) (show ¬ (0 ≤ (-1)) by decide) ?_
                    refine pw_steps 1 (s' := (9, [some (.ref 47)], [.ref 47, .ref 47], m176)) rfl ?_
                    refine pw_get rfl rfl (fun x105 (hx105 : x105 = vi_ m176 47 14) rx105 sx105 => ?_)
                    replace hx105 : x105 = p173 := hx105.trans g79
                    subst x105
                    refine pw_steps 1 (s' := (19, [some (.ref 47)], [.int (ei_ (p173)), .ref 47], m176)) rfl ?_
                    refine pw_put (v := p173) rfl rfl (Or.inl rfl) ?_
                    refine pw_cv (s' := (22, [some (.ref 47)], [], wi_ m176 47 (16) (p173))) rfl ?_
                    refine pw_steps 1 (s' := (23, [some (.ref 47)], [.int (ei_ (0))], wi_ m176 47 (16) (p173))) rfl ?_
                    refine pw_iret rfl rfl rfl ?_
                    refine pw_iret rfl rfl rfl ?_
                    have hE_ := wx_e hX (by omega) ((ln_2 g15 (by omega) g77).trans (if_pos rfl)) (by omega)
                    exact k1 0 _ (by rw [hE_]; show ¬ ((1 : Int) = 1 ∧ p173 = n); omega) (sm_w (sm_tr (sm_w (sm_tr hs (sm_le g16 pMd_Rd)) (fun _ h_ => by rw [h_]; rfl)) (sm_le g78 pMd_Rd)) (fun _ h_ => by rw [h_]; rfl)) (by rw [hE_]; exact (ei_i (by omega))) (by rw [hE_]; show 0 ≤ p173 ∧ p173 ≤ 120; omega) (by decide)
              · refine pw_steps 6 (s' := (99, [some (.ref 47), some (.int (ei_ (a))), some (.int (ei_ (n))), some (.int (ei_ (1))), some (.int (ei_ (x75))), some (.int (ei_ (1))), some (.int (ei_ (x75))), some (.int (ei_ (1)))], [.int (ei_ (59)), .ref 47], m176)) rfl ?_
                refine pw_call (As := [.int (ei_ (59))]) (st := []) (k := 47) rfl rfl rfl rfl rfl (Nat.le_of_ble_eq_true rfl) ?_
                refine mt_takes (p := p173) (t93) (by omega) (g79) (g80) (by omega) (fun g106 g107 => ?_) (fun g108 => ?_)
                · refine pw_steps 2 (s' := (33, [some (.ref 47), some (.int (ei_ (a))), some (.int (ei_ (n))), some (.int (ei_ (1))), some (.int (ei_ (x75))), some (.int (ei_ (1))), some (.int (ei_ (x75))), some (.int (ei_ (1)))], [], wi_ m176 47 (14) ((p173 + 1)))) rfl ?_
                  exact ih4 _ (by omega) 1 x75 (some (.int (ei_ (x75)))) (some (.int (ei_ (1)))) (wi_ m176 47 (14) ((p173 + 1))) (kk + 1) (p173 + 1) (zz ++ ((z112 ++ z174) ++ [63])) rfl (by omega) ((sm_w (sm_tr (sm_w (sm_tr hs (sm_le g16 pMd_Rd)) (fun _ h_ => by rw [h_]; rfl)) (sm_le g78 pMd_Rd)) (fun _ h_ => by rw [h_]; rfl))) (t93) ((ei_i (by omega))) (g80) (g81) (by omega) (by exact wx_s hX (by omega) ((ln_2 g15 (by omega) g77).trans (if_pos rfl)) (by omega)) (by exact wg_cg (wg_chc hw g20 g82) (by omega) (by omega))
                · refine pw_steps 3 (s' := (35, [some (.ref 47), some (.int (ei_ (a))), some (.int (ei_ (n))), some (.int (ei_ (1))), some (.int (ei_ (x75))), some (.int (ei_ (0))), some (.int (ei_ (x75))), some (.int (ei_ (1)))], [.int (ei_ (0))], m176)) rfl ?_
                  refine pw_ifT rfl (by decide) (show 0 = 0 by decide) ?_
                  refine pw_steps 1 (s' := (108, [some (.ref 47), some (.int (ei_ (a))), some (.int (ei_ (n))), some (.int (ei_ (1))), some (.int (ei_ (x75))), some (.int (ei_ (0))), some (.int (ei_ (x75))), some (.int (ei_ (1)))], [.ref 47], m176)) rfl ?_
                  refine pw_get rfl rfl (fun x109 (hx109 : x109 = vi_ m176 47 16) rx109 sx109 => ?_)
                  replace hx109 : x109 = (-1) := hx109.trans g80
                  subst x109
                  refine pw_ifF rfl (by decide) (show ¬ (0 ≤ (-1)) by decide) ?_
                  refine pw_steps 1 (s' := (115, [some (.ref 47), some (.int (ei_ (a))), some (.int (ei_ (n))), some (.int (ei_ (1))), some (.int (ei_ (x75))), some (.int (ei_ (0))), some (.int (ei_ (x75))), some (.int (ei_ (1)))], [.ref 47], m176)) rfl ?_
                  refine pw_get rfl rfl (fun x110 (hx110 : x110 = vi_ m176 47 14) rx110 sx110 => ?_)
                  replace hx110 : x110 = p173 := hx110.trans g79
                  subst x110
                  refine pw_steps 1 (s' := (119, [some (.ref 47), some (.int (ei_ (a))), some (.int (ei_ (n))), some (.int (ei_ (1))), some (.int (ei_ (x75))), some (.int (ei_ (0))), some (.int (ei_ (x75))), some (.int (ei_ (1)))], [.ref 47, .int (ei_ (p173))], m176)) rfl ?_
                  refine pw_get rfl rfl (fun x111 (hx111 : x111 = vi_ m176 47 15) rx111 sx111 => ?_)
                  replace hx111 : x111 = vi_ m114 47 15 := hx111.trans (sm_v g78 rfl)
                  replace hx111 : x111 = vi_ m1 47 15 := hx111.trans (sm_v g16 rfl)
                  replace hx111 : x111 = n := hx111.trans he15
                  subst x111
                  refine pw_cmp rfl ⟨rx110, sx110⟩ ⟨rx111, sx111⟩ (fun (h112 : n ≤ p173) => ?_) (fun (h112 : ¬ (n ≤ p173)) => ?_)
                  · refine pw_steps 1 (s' := (132, [some (.ref 47), some (.int (ei_ (a))), some (.int (ei_ (n))), some (.int (ei_ (1))), some (.int (ei_ (x75))), some (.int (ei_ (0))), some (.int (ei_ (x75))), some (.int (ei_ (1)))], [.int (ei_ (x75))], m176)) rfl ?_
                    refine pw_iret rfl rfl rfl ?_
                    have hE_ := wx_e hX (by omega) ((ln_2 g15 (by omega) g77).trans (if_pos rfl)) (by omega)
                    have hl_ : wg_ (vi_ m 56) (zz ++ ((z112 ++ z174) ++ [63])) 1 x75 := by exact wg_cg (wg_chc hw g20 g82) (by omega) (by omega)
                    exact k0 x75 _ (by rw [hE_]; exact ⟨rfl, by show p173 = n; omega⟩) (sm_tr (sm_w (sm_tr hs (sm_le g16 pMd_Rd)) (fun _ h_ => by rw [h_]; rfl)) (sm_le g78 pMd_Rd)) g80 (by rw [hE_]; exact wg_end hl_) g83
                  · refine pw_steps 1 (s' := (126, [some (.ref 47), some (.int (ei_ (a))), some (.int (ei_ (n))), some (.int (ei_ (1))), some (.int (ei_ (x75))), some (.int (ei_ (0))), some (.int (ei_ (x75))), some (.int (ei_ (1)))], [.ref 47], m176)) rfl ?_
                    refine pw_call (As := []) (st := []) (k := 47) rfl rfl rfl rfl rfl (Nat.le_of_ble_eq_true rfl) ?_
                    refine pw_intro (I := iX9_wrong) (T := tX9_wrong) rfl rfl rfl ?_
                    refine pw_steps 2 (s' := (2, [some (.ref 47)], [.ref 47, .ref 47], m176)) rfl ?_
                    refine pw_get rfl rfl (fun x113 (hx113 : x113 = vi_ m176 47 16) rx113 sx113 => ?_)
                    replace hx113 : x113 = (-1) := hx113.trans g80
                    subst x113
                    refine pw_ifF rfl (by decide) (show ¬ (0 ≤ (-1)) by decide) ?_
                    refine pw_steps 1 (s' := (9, [some (.ref 47)], [.ref 47, .ref 47], m176)) rfl ?_
                    refine pw_get rfl rfl (fun x114 (hx114 : x114 = vi_ m176 47 14) rx114 sx114 => ?_)
                    replace hx114 : x114 = p173 := hx114.trans g79
                    subst x114
                    refine pw_steps 1 (s' := (19, [some (.ref 47)], [.int (ei_ (p173)), .ref 47], m176)) rfl ?_
                    refine pw_put (v := p173) rfl rfl (Or.inl rfl) ?_
                    refine pw_cv (s' := (22, [some (.ref 47)], [], wi_ m176 47 (16) (p173))) rfl ?_
                    refine pw_steps 1 (s' := (23, [some (.ref 47)], [.int (ei_ (0))], wi_ m176 47 (16) (p173))) rfl ?_
                    refine pw_iret rfl rfl rfl ?_
                    refine pw_iret rfl rfl rfl ?_
                    have hE_ := wx_e hX (by omega) ((ln_2 g15 (by omega) g77).trans (if_pos rfl)) (by omega)
                    exact k1 0 _ (by rw [hE_]; show ¬ ((1 : Int) = 1 ∧ p173 = n); omega) (sm_w (sm_tr (sm_w (sm_tr hs (sm_le g16 pMd_Rd)) (fun _ h_ => by rw [h_]; rfl)) (sm_le g78 pMd_Rd)) (fun _ h_ => by rw [h_]; rfl)) (by rw [hE_]; exact (ei_i (by omega))) (by rw [hE_]; show 0 ≤ p173 ∧ p173 ≤ 120; omega) (by decide)
            · have t115 : mt_ B n m187 := mt_sm g89 t31
              obtain ⟨b116a, b116b, b116c, b116d⟩ := ps_e g88 (by omega)
              refine pw_steps 2 (s' := (75, [some (.ref 47), some (.int (ei_ (a))), some (.int (ei_ (n))), some (.int (ei_ (gv))), some (.int (ei_ (gs))), some (.int (ei_ (1))), some (.int (ei_ (x86))), some (.int (ei_ (1)))], [.ref 47], m187)) rfl ?_
              refine pw_get rfl rfl (fun x117 (hx117 : x117 = vi_ m187 47 16) rx117 sx117 => ?_)
              replace hx117 : x117 = p184 := hx117.trans g91
              subst x117
              refine pw_ifT rfl ⟨rx117, sx117⟩ (show 0 ≤ p184 by omega) ?_
              refine pw_steps 2 (s' := (99, [some (.ref 47), some (.int (ei_ (a))), some (.int (ei_ (n))), some (.int (ei_ (gv))), some (.int (ei_ (gs))), some (.int (ei_ (1))), some (.int (ei_ (x86))), some (.int (ei_ (1)))], [.int (ei_ (59)), .ref 47], m187)) rfl ?_
              refine pw_call (As := [.int (ei_ (59))]) (st := []) (k := 47) rfl rfl rfl rfl rfl (Nat.le_of_ble_eq_true rfl) ?_
              refine mt_takeF (e := p184) (g91) (by omega) ?_
              refine pw_steps 3 (s' := (35, [some (.ref 47), some (.int (ei_ (a))), some (.int (ei_ (n))), some (.int (ei_ (gv))), some (.int (ei_ (gs))), some (.int (ei_ (0))), some (.int (ei_ (x86))), some (.int (ei_ (1)))], [.int (ei_ (0))], m187)) rfl ?_
              refine pw_ifT rfl (by decide) (show 0 = 0 by decide) ?_
              refine pw_steps 1 (s' := (108, [some (.ref 47), some (.int (ei_ (a))), some (.int (ei_ (n))), some (.int (ei_ (gv))), some (.int (ei_ (gs))), some (.int (ei_ (0))), some (.int (ei_ (x86))), some (.int (ei_ (1)))], [.ref 47], m187)) rfl ?_
              refine pw_get rfl rfl (fun x118 (hx118 : x118 = vi_ m187 47 16) rx118 sx118 => ?_)
              replace hx118 : x118 = p184 := hx118.trans g91
              subst x118
              refine pw_ifT rfl ⟨rx117, sx117⟩ (show 0 ≤ p184 by omega) ?_
              refine pw_steps 1 (s' := (132, [some (.ref 47), some (.int (ei_ (a))), some (.int (ei_ (n))), some (.int (ei_ (gv))), some (.int (ei_ (gs))), some (.int (ei_ (0))), some (.int (ei_ (x86))), some (.int (ei_ (1)))], [.int (ei_ (gs))], m187)) rfl ?_
              refine pw_iret rfl rfl rfl ?_
              have hE_ := wx_e hX (by omega) ((ln_2 g15 (by omega) g88).trans (if_neg (by decide))) (by omega)
              exact k1 gs _ (by rw [hE_]; show ¬ ((0 : Int) = 1 ∧ p184 = n); omega) (sm_tr (sm_w (sm_tr hs (sm_le g16 pMd_Rd)) (fun _ h_ => by rw [h_]; rfl)) (sm_le g89 pMd_Rd)) (by rw [hE_]; exact g91) (by rw [hE_]; show 0 ≤ p184 ∧ p184 ≤ 120; omega) (by omega)
        · refine pw_ifT rfl (by decide) (show 0 = 0 by decide) ?_
          refine pw_steps 1 (s' := (75, [some (.ref 47), some (.int (ei_ (a))), some (.int (ei_ (n))), some (.int (ei_ (gv))), some (.int (ei_ (gs))), some (.int (ei_ (1))), some (.int (ei_ (x13))), some (.int (ei_ (1)))], [.ref 47], m114)) rfl ?_
          refine pw_get rfl rfl (fun x119 (hx119 : x119 = vi_ m114 47 16) rx119 sx119 => ?_)
          replace hx119 : x119 = (-1) := hx119.trans g18
          subst x119
          refine pw_ifF rfl (by decide) (show ¬ (0 ≤ (-1)) by decide) ?_
          refine pw_steps 1 (s' := (83, [some (.ref 47), some (.int (ei_ (a))), some (.int (ei_ (n))), some (.int (ei_ (gv))), some (.int (ei_ (gs))), some (.int (ei_ (1))), some (.int (ei_ (x13))), some (.int (ei_ (1)))], [.int (ei_ (1))], m114)) rfl ?_
          refine pw_ifF rfl (by decide) (show ¬ (1 = 0) by decide) ?_
          refine pw_steps 1 (s' := (87, [some (.ref 47), some (.int (ei_ (a))), some (.int (ei_ (n))), some (.int (ei_ (gv))), some (.int (ei_ (gs))), some (.int (ei_ (1))), some (.int (ei_ (x13))), some (.int (ei_ (1)))], [.int (ei_ (gv))], m114)) rfl ?_
          refine pw_if rfl (by omega) (fun (h120 : ¬ gv = 0) => ?_) (fun (h120 : ¬ ¬ gv = 0) => ?_)
          · refine pw_steps 2 (s' := (99, [some (.ref 47), some (.int (ei_ (a))), some (.int (ei_ (n))), some (.int (ei_ (gv))), some (.int (ei_ (gs))), some (.int (ei_ (1))), some (.int (ei_ (x13))), some (.int (ei_ (1)))], [.int (ei_ (59)), .ref 47], m114)) rfl ?_
            refine pw_call (As := [.int (ei_ (59))]) (st := []) (k := 47) rfl rfl rfl rfl rfl (Nat.le_of_ble_eq_true rfl) ?_
            refine mt_takes (p := p111) (t31) (by omega) (g17) (g18) (by omega) (fun g121 g122 => ?_) (fun g123 => ?_)
            · refine pw_steps 2 (s' := (33, [some (.ref 47), some (.int (ei_ (a))), some (.int (ei_ (n))), some (.int (ei_ (gv))), some (.int (ei_ (gs))), some (.int (ei_ (1))), some (.int (ei_ (x13))), some (.int (ei_ (1)))], [], wi_ m114 47 (14) ((p111 + 1)))) rfl ?_
              exact ih4 _ (by omega) gv gs (some (.int (ei_ (x13)))) (some (.int (ei_ (1)))) (wi_ m114 47 (14) ((p111 + 1))) (kk + 1) (p111 + 1) (zz ++ (z112 ++ [59])) rfl (by omega) ((sm_w (sm_tr hs (sm_le g16 pMd_Rd)) (fun _ h_ => by rw [h_]; rfl))) (t31) ((ei_i (by omega))) (g18) (g19) (by omega) (by exact wx_s hX (by omega) (ln_1 g15 (by omega)) (by omega)) (by exact wg_cg (wg_one hw g20) (by omega) (by omega))
            · refine pw_steps 3 (s' := (35, [some (.ref 47), some (.int (ei_ (a))), some (.int (ei_ (n))), some (.int (ei_ (gv))), some (.int (ei_ (gs))), some (.int (ei_ (0))), some (.int (ei_ (x13))), some (.int (ei_ (1)))], [.int (ei_ (0))], m114)) rfl ?_
              refine pw_ifT rfl (by decide) (show 0 = 0 by decide) ?_
              refine pw_steps 1 (s' := (108, [some (.ref 47), some (.int (ei_ (a))), some (.int (ei_ (n))), some (.int (ei_ (gv))), some (.int (ei_ (gs))), some (.int (ei_ (0))), some (.int (ei_ (x13))), some (.int (ei_ (1)))], [.ref 47], m114)) rfl ?_
              refine pw_get rfl rfl (fun x124 (hx124 : x124 = vi_ m114 47 16) rx124 sx124 => ?_)
              replace hx124 : x124 = (-1) := hx124.trans g18
              subst x124
              refine pw_ifF rfl (by decide) (show ¬ (0 ≤ (-1)) by decide) ?_
              refine pw_steps 1 (s' := (115, [some (.ref 47), some (.int (ei_ (a))), some (.int (ei_ (n))), some (.int (ei_ (gv))), some (.int (ei_ (gs))), some (.int (ei_ (0))), some (.int (ei_ (x13))), some (.int (ei_ (1)))], [.ref 47], m114)) rfl ?_
              refine pw_get rfl rfl (fun x125 (hx125 : x125 = vi_ m114 47 14) rx125 sx125 => ?_)
              replace hx125 : x125 = p111 := hx125.trans g17
              subst x125
              refine pw_steps 1 (s' := (119, [some (.ref 47), some (.int (ei_ (a))), some (.int (ei_ (n))), some (.int (ei_ (gv))), some (.int (ei_ (gs))), some (.int (ei_ (0))), some (.int (ei_ (x13))), some (.int (ei_ (1)))], [.ref 47, .int (ei_ (p111))], m114)) rfl ?_
              refine pw_get rfl rfl (fun x126 (hx126 : x126 = vi_ m114 47 15) rx126 sx126 => ?_)
              replace hx126 : x126 = vi_ m1 47 15 := hx126.trans (sm_v g16 rfl)
              replace hx126 : x126 = n := hx126.trans he15
              subst x126
              refine pw_cmp rfl ⟨rx125, sx125⟩ ⟨rx126, sx126⟩ (fun (h127 : n ≤ p111) => ?_) (fun (h127 : ¬ (n ≤ p111)) => ?_)
              · refine pw_steps 1 (s' := (132, [some (.ref 47), some (.int (ei_ (a))), some (.int (ei_ (n))), some (.int (ei_ (gv))), some (.int (ei_ (gs))), some (.int (ei_ (0))), some (.int (ei_ (x13))), some (.int (ei_ (1)))], [.int (ei_ (gs))], m114)) rfl ?_
                refine pw_iret rfl rfl rfl ?_
                have hE_ := wx_e hX (by omega) (ln_1 g15 (by omega)) (by omega)
                have hl_ : wg_ (vi_ m 56) (zz ++ (z112 ++ [59])) gv gs := by exact wg_cg (wg_one hw g20) (by omega) (by omega)
                exact k0 gs _ (by rw [hE_]; exact ⟨rfl, by show p111 = n; omega⟩) (sm_tr hs (sm_le g16 pMd_Rd)) g18 (by rw [hE_]; exact wg_end hl_) (by omega)
              · refine pw_steps 1 (s' := (126, [some (.ref 47), some (.int (ei_ (a))), some (.int (ei_ (n))), some (.int (ei_ (gv))), some (.int (ei_ (gs))), some (.int (ei_ (0))), some (.int (ei_ (x13))), some (.int (ei_ (1)))], [.ref 47], m114)) rfl ?_
                refine pw_call (As := []) (st := []) (k := 47) rfl rfl rfl rfl rfl (Nat.le_of_ble_eq_true rfl) ?_
                refine pw_intro (I := iX9_wrong) (T := tX9_wrong) rfl rfl rfl ?_
                refine pw_steps 2 (s' := (2, [some (.ref 47)], [.ref 47, .ref 47], m114)) rfl ?_
                refine pw_get rfl rfl (fun x128 (hx128 : x128 = vi_ m114 47 16) rx128 sx128 => ?_)
                replace hx128 : x128 = (-1) := hx128.trans g18
                subst x128
                refine pw_ifF rfl (by decide) (show ¬ (0 ≤ (-1)) by decide) ?_
                refine pw_steps 1 (s' := (9, [some (.ref 47)], [.ref 47, .ref 47], m114)) rfl ?_
                refine pw_get rfl rfl (fun x129 (hx129 : x129 = vi_ m114 47 14) rx129 sx129 => ?_)
                replace hx129 : x129 = p111 := hx129.trans g17
                subst x129
                refine pw_steps 1 (s' := (19, [some (.ref 47)], [.int (ei_ (p111)), .ref 47], m114)) rfl ?_
                refine pw_put (v := p111) rfl rfl (Or.inl rfl) ?_
                refine pw_cv (s' := (22, [some (.ref 47)], [], wi_ m114 47 (16) (p111))) rfl ?_
                refine pw_steps 1 (s' := (23, [some (.ref 47)], [.int (ei_ (0))], wi_ m114 47 (16) (p111))) rfl ?_
                refine pw_iret rfl rfl rfl ?_
                refine pw_iret rfl rfl rfl ?_
                have hE_ := wx_e hX (by omega) (ln_1 g15 (by omega)) (by omega)
                exact k1 0 _ (by rw [hE_]; show ¬ ((1 : Int) = 1 ∧ p111 = n); omega) (sm_w (sm_tr hs (sm_le g16 pMd_Rd)) (fun _ h_ => by rw [h_]; rfl)) (by rw [hE_]; exact (ei_i (by omega))) (by rw [hE_]; show 0 ≤ p111 ∧ p111 ≤ 120; omega) (by decide)
          · refine pw_steps 6 (s' := (99, [some (.ref 47), some (.int (ei_ (a))), some (.int (ei_ (n))), some (.int (ei_ (1))), some (.int (ei_ (x13))), some (.int (ei_ (1))), some (.int (ei_ (x13))), some (.int (ei_ (1)))], [.int (ei_ (59)), .ref 47], m114)) rfl ?_
            refine pw_call (As := [.int (ei_ (59))]) (st := []) (k := 47) rfl rfl rfl rfl rfl (Nat.le_of_ble_eq_true rfl) ?_
            refine mt_takes (p := p111) (t31) (by omega) (g17) (g18) (by omega) (fun g130 g131 => ?_) (fun g132 => ?_)
            · refine pw_steps 2 (s' := (33, [some (.ref 47), some (.int (ei_ (a))), some (.int (ei_ (n))), some (.int (ei_ (1))), some (.int (ei_ (x13))), some (.int (ei_ (1))), some (.int (ei_ (x13))), some (.int (ei_ (1)))], [], wi_ m114 47 (14) ((p111 + 1)))) rfl ?_
              exact ih4 _ (by omega) 1 x13 (some (.int (ei_ (x13)))) (some (.int (ei_ (1)))) (wi_ m114 47 (14) ((p111 + 1))) (kk + 1) (p111 + 1) (zz ++ (z112 ++ [59])) rfl (by omega) ((sm_w (sm_tr hs (sm_le g16 pMd_Rd)) (fun _ h_ => by rw [h_]; rfl))) (t31) ((ei_i (by omega))) (g18) (g19) (by omega) (by exact wx_s hX (by omega) (ln_1 g15 (by omega)) (by omega)) (by exact wg_cg (wg_one hw g20) (by omega) (by omega))
            · refine pw_steps 3 (s' := (35, [some (.ref 47), some (.int (ei_ (a))), some (.int (ei_ (n))), some (.int (ei_ (1))), some (.int (ei_ (x13))), some (.int (ei_ (0))), some (.int (ei_ (x13))), some (.int (ei_ (1)))], [.int (ei_ (0))], m114)) rfl ?_
              refine pw_ifT rfl (by decide) (show 0 = 0 by decide) ?_
              refine pw_steps 1 (s' := (108, [some (.ref 47), some (.int (ei_ (a))), some (.int (ei_ (n))), some (.int (ei_ (1))), some (.int (ei_ (x13))), some (.int (ei_ (0))), some (.int (ei_ (x13))), some (.int (ei_ (1)))], [.ref 47], m114)) rfl ?_
              refine pw_get rfl rfl (fun x133 (hx133 : x133 = vi_ m114 47 16) rx133 sx133 => ?_)
              replace hx133 : x133 = (-1) := hx133.trans g18
              subst x133
              refine pw_ifF rfl (by decide) (show ¬ (0 ≤ (-1)) by decide) ?_
              refine pw_steps 1 (s' := (115, [some (.ref 47), some (.int (ei_ (a))), some (.int (ei_ (n))), some (.int (ei_ (1))), some (.int (ei_ (x13))), some (.int (ei_ (0))), some (.int (ei_ (x13))), some (.int (ei_ (1)))], [.ref 47], m114)) rfl ?_
              refine pw_get rfl rfl (fun x134 (hx134 : x134 = vi_ m114 47 14) rx134 sx134 => ?_)
              replace hx134 : x134 = p111 := hx134.trans g17
              subst x134
              refine pw_steps 1 (s' := (119, [some (.ref 47), some (.int (ei_ (a))), some (.int (ei_ (n))), some (.int (ei_ (1))), some (.int (ei_ (x13))), some (.int (ei_ (0))), some (.int (ei_ (x13))), some (.int (ei_ (1)))], [.ref 47, .int (ei_ (p111))], m114)) rfl ?_
              refine pw_get rfl rfl (fun x135 (hx135 : x135 = vi_ m114 47 15) rx135 sx135 => ?_)
              replace hx135 : x135 = vi_ m1 47 15 := hx135.trans (sm_v g16 rfl)
              replace hx135 : x135 = n := hx135.trans he15
              subst x135
              refine pw_cmp rfl ⟨rx134, sx134⟩ ⟨rx135, sx135⟩ (fun (h136 : n ≤ p111) => ?_) (fun (h136 : ¬ (n ≤ p111)) => ?_)
              · refine pw_steps 1 (s' := (132, [some (.ref 47), some (.int (ei_ (a))), some (.int (ei_ (n))), some (.int (ei_ (1))), some (.int (ei_ (x13))), some (.int (ei_ (0))), some (.int (ei_ (x13))), some (.int (ei_ (1)))], [.int (ei_ (x13))], m114)) rfl ?_
                refine pw_iret rfl rfl rfl ?_
                have hE_ := wx_e hX (by omega) (ln_1 g15 (by omega)) (by omega)
                have hl_ : wg_ (vi_ m 56) (zz ++ (z112 ++ [59])) 1 x13 := by exact wg_cg (wg_one hw g20) (by omega) (by omega)
                exact k0 x13 _ (by rw [hE_]; exact ⟨rfl, by show p111 = n; omega⟩) (sm_tr hs (sm_le g16 pMd_Rd)) g18 (by rw [hE_]; exact wg_end hl_) g21
              · refine pw_steps 1 (s' := (126, [some (.ref 47), some (.int (ei_ (a))), some (.int (ei_ (n))), some (.int (ei_ (1))), some (.int (ei_ (x13))), some (.int (ei_ (0))), some (.int (ei_ (x13))), some (.int (ei_ (1)))], [.ref 47], m114)) rfl ?_
                refine pw_call (As := []) (st := []) (k := 47) rfl rfl rfl rfl rfl (Nat.le_of_ble_eq_true rfl) ?_
                refine pw_intro (I := iX9_wrong) (T := tX9_wrong) rfl rfl rfl ?_
                refine pw_steps 2 (s' := (2, [some (.ref 47)], [.ref 47, .ref 47], m114)) rfl ?_
                refine pw_get rfl rfl (fun x137 (hx137 : x137 = vi_ m114 47 16) rx137 sx137 => ?_)
                replace hx137 : x137 = (-1) := hx137.trans g18
                subst x137
                refine pw_ifF rfl (by decide) (show ¬ (0 ≤ (-1)) by decide) ?_
                refine pw_steps 1 (s' := (9, [some (.ref 47)], [.ref 47, .ref 47], m114)) rfl ?_
                refine pw_get rfl rfl (fun x138 (hx138 : x138 = vi_ m114 47 14) rx138 sx138 => ?_)
                replace hx138 : x138 = p111 := hx138.trans g17
                subst x138
                refine pw_steps 1 (s' := (19, [some (.ref 47)], [.int (ei_ (p111)), .ref 47], m114)) rfl ?_
                refine pw_put (v := p111) rfl rfl (Or.inl rfl) ?_
                refine pw_cv (s' := (22, [some (.ref 47)], [], wi_ m114 47 (16) (p111))) rfl ?_
                refine pw_steps 1 (s' := (23, [some (.ref 47)], [.int (ei_ (0))], wi_ m114 47 (16) (p111))) rfl ?_
                refine pw_iret rfl rfl rfl ?_
                refine pw_iret rfl rfl rfl ?_
                have hE_ := wx_e hX (by omega) (ln_1 g15 (by omega)) (by omega)
                exact k1 0 _ (by rw [hE_]; show ¬ ((1 : Int) = 1 ∧ p111 = n); omega) (sm_w (sm_tr hs (sm_le g16 pMd_Rd)) (fun _ h_ => by rw [h_]; rfl)) (by rw [hE_]; exact (ei_i (by omega))) (by rw [hE_]; show 0 ≤ p111 ∧ p111 ≤ 120; omega) (by decide)
      · have t139 : mt_ B n m125 := mt_sm g27 hmt1
        obtain ⟨b140a, b140b, b140c, b140d⟩ := ps_e g26 (by omega)
        refine pw_steps 5 (s' := (50, [some (.ref 47), some (.int (ei_ (a))), some (.int (ei_ (n))), some (.int (ei_ (gv))), some (.int (ei_ (gs))), some (.int (ei_ (1))), some (.int (ei_ (x24))), some (.int (ei_ (1)))], [.int (ei_ (63)), .ref 47], m125)) rfl ?_
        refine pw_call (As := [.int (ei_ (63))]) (st := []) (k := 47) rfl rfl rfl rfl rfl (Nat.le_of_ble_eq_true rfl) ?_
        refine mt_takeF (e := p122) (g29) (by omega) ?_
        refine pw_ifT rfl (by decide) (show 0 = 0 by decide) ?_
        refine pw_steps 1 (s' := (75, [some (.ref 47), some (.int (ei_ (a))), some (.int (ei_ (n))), some (.int (ei_ (gv))), some (.int (ei_ (gs))), some (.int (ei_ (1))), some (.int (ei_ (x24))), some (.int (ei_ (1)))], [.ref 47], m125)) rfl ?_
        refine pw_get rfl rfl (fun x141 (hx141 : x141 = vi_ m125 47 16) rx141 sx141 => ?_)
        replace hx141 : x141 = p122 := hx141.trans g29
        subst x141
        refine pw_ifT rfl ⟨rx141, sx141⟩ (show 0 ≤ p122 by omega) ?_
        refine pw_steps 2 (s' := (99, [some (.ref 47), some (.int (ei_ (a))), some (.int (ei_ (n))), some (.int (ei_ (gv))), some (.int (ei_ (gs))), some (.int (ei_ (1))), some (.int (ei_ (x24))), some (.int (ei_ (1)))], [.int (ei_ (59)), .ref 47], m125)) rfl ?_
        refine pw_call (As := [.int (ei_ (59))]) (st := []) (k := 47) rfl rfl rfl rfl rfl (Nat.le_of_ble_eq_true rfl) ?_
        refine mt_takeF (e := p122) (g29) (by omega) ?_
        refine pw_steps 3 (s' := (35, [some (.ref 47), some (.int (ei_ (a))), some (.int (ei_ (n))), some (.int (ei_ (gv))), some (.int (ei_ (gs))), some (.int (ei_ (0))), some (.int (ei_ (x24))), some (.int (ei_ (1)))], [.int (ei_ (0))], m125)) rfl ?_
        refine pw_ifT rfl (by decide) (show 0 = 0 by decide) ?_
        refine pw_steps 1 (s' := (108, [some (.ref 47), some (.int (ei_ (a))), some (.int (ei_ (n))), some (.int (ei_ (gv))), some (.int (ei_ (gs))), some (.int (ei_ (0))), some (.int (ei_ (x24))), some (.int (ei_ (1)))], [.ref 47], m125)) rfl ?_
        refine pw_get rfl rfl (fun x142 (hx142 : x142 = vi_ m125 47 16) rx142 sx142 => ?_)
        replace hx142 : x142 = p122 := hx142.trans g29
        subst x142
        refine pw_ifT rfl ⟨rx141, sx141⟩ (show 0 ≤ p122 by omega) ?_
        refine pw_steps 1 (s' := (132, [some (.ref 47), some (.int (ei_ (a))), some (.int (ei_ (n))), some (.int (ei_ (gv))), some (.int (ei_ (gs))), some (.int (ei_ (0))), some (.int (ei_ (x24))), some (.int (ei_ (1)))], [.int (ei_ (gs))], m125)) rfl ?_
        refine pw_iret rfl rfl rfl ?_
        have hE_ := wx_e hX (by omega) (ln_0 g26 (by decide)) (by omega)
        exact k1 gs _ (by rw [hE_]; show ¬ ((0 : Int) = 1 ∧ p122 = n); omega) (sm_tr hs (sm_le g27 pMd_Rd)) (by rw [hE_]; exact g29) (by rw [hE_]; show 0 ≤ p122 ∧ p122 ≤ 120; omega) (by omega)
  exact L5 _ 0 0 none none (wi_ (wi_ (wi_ (wi_ (wi_ m 47 (13) (a)) 47 (14) (0)) 47 (15) (n)) 47 (16) ((-1))) 47 (17) (0)) 0 0 ([]) rfl (by omega) ((sm_w (sm_w (sm_w (sm_w (sm_w (sm_rfl m) (fun _ h_ => by rw [h_]; rfl)) (fun _ h_ => by rw [h_]; rfl)) (fun _ h_ => by rw [h_]; rfl)) (fun _ h_ => by rw [h_]; rfl)) (fun _ h_ => by rw [h_]; rfl))) (by exact hmt) ((ei_i (by omega))) ((ei_i (by omega))) ((ei_i (by omega))) (by omega) (by exact rfl) (by exact wg_nil)

