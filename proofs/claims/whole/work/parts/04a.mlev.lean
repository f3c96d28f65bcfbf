set_option maxHeartbeats 4000000 in
set_option maxRecDepth 20000 in
theorem mz_l0 {q : am_X} {B : Int → Int} {n : Int} {f : Nat} (hM : ∀ {o p : Int} {d : Nat} {m : am_M} {Q : Option Value → am_M → Prop}, (0 ≤ o ∧ o ≤ 6) → (6 * (6 - o) + 8 ≤ (d : Int)) → (0 ≤ p ∧ p ≤ n) → (7 * (n - p) + 5 ≤ ((f : Nat) : Int)) → mt_ B n m → vi_ m 47 14 = p → vi_ m 47 16 = -1 → vi_ m 47 17 = o → (∀ (p1 : Int) (z1 : List Int) (x : Int) (m1 : am_M), ps_ B n (f) 1 o p = (1, p1, z1) → sm_ pMd m m1 → vi_ m1 47 14 = p1 → vi_ m1 47 16 = -1 → vi_ m1 47 17 = o → ex_ (vi_ m 56) z1 x → (-2147483648 ≤ x ∧ x < 2147483648) → Q (some (.int (ei_ x))) m1) → (∀ (p1 : Int) (z1 : List Int) (x : Int) (m1 : am_M), ps_ B n (f) 1 o p = (0, p1, z1) → sm_ pMd m m1 → vi_ m1 47 14 = p1 → vi_ m1 47 16 = p1 → (-2147483648 ≤ x ∧ x < 2147483648) → Q (some (.int (ei_ x))) m1) → pw_C q d 193 [.ref 47] m Q) (hB : ∀ {o p v : Int} {u2 : Option Value} {d : Nat} {m : am_M} {Q : Option Value → am_M → Prop}, (0 ≤ o ∧ o ≤ 6) → (6 * (6 - o) + 8 ≤ (d : Int)) → (0 ≤ p ∧ p ≤ n) → (7 * (n - p) + 1 ≤ ((f : Nat) : Int)) → mt_ B n m → vi_ m 47 14 = p → vi_ m 47 16 = -1 → vi_ m 47 17 = o → (-2147483648 ≤ v ∧ v < 2147483648) → (∀ (p1 : Int) (z1 : List Int) (x : Int) (m1 : am_M), ps_ B n (f) (10 + 0) o p = (1, p1, z1) → sm_ pMd m m1 → vi_ m1 47 14 = p1 → vi_ m1 47 16 = -1 → vi_ m1 47 17 = o → ey_ (vi_ m 56) z1 v x → (-2147483648 ≤ x ∧ x < 2147483648) → Q (some (.int (ei_ x))) m1) → (∀ (p1 : Int) (z1 : List Int) (x : Int) (m1 : am_M), ps_ B n (f) (10 + 0) o p = (0, p1, z1) → sm_ pMd m m1 → vi_ m1 47 14 = p1 → vi_ m1 47 16 = p1 → (-2147483648 ≤ x ∧ x < 2147483648) → Q (some (.int (ei_ x))) m1) → pw_V q d iX9_either.2.2.2.1 tX9_either Q (5, [some (.ref 47), some (.int (ei_ v)), u2], [], m)) : ∀ {o p : Int} {d : Nat} {m : am_M} {Q : Option Value → am_M → Prop}, (0 ≤ o ∧ o ≤ 6) → (6 * (6 - o) + 9 ≤ (d : Int)) → (0 ≤ p ∧ p ≤ n) → (7 * (n - p) + 6 ≤ ((f + 1 : Nat) : Int)) → mt_ B n m → vi_ m 47 14 = p → vi_ m 47 16 = -1 → vi_ m 47 17 = o → (∀ (p1 : Int) (z1 : List Int) (x : Int) (m1 : am_M), ps_ B n (f + 1) 0 o p = (1, p1, z1) → sm_ pMd m m1 → vi_ m1 47 14 = p1 → vi_ m1 47 16 = -1 → vi_ m1 47 17 = o → ex_ (vi_ m 56) z1 x → (-2147483648 ≤ x ∧ x < 2147483648) → Q (some (.int (ei_ x))) m1) → (∀ (p1 : Int) (z1 : List Int) (x : Int) (m1 : am_M), ps_ B n (f + 1) 0 o p = (0, p1, z1) → sm_ pMd m m1 → vi_ m1 47 14 = p1 → vi_ m1 47 16 = p1 → (-2147483648 ≤ x ∧ x < 2147483648) → Q (some (.int (ei_ x))) m1) → pw_C q d 192 [.ref 47] m Q := by
  intro o p d m Q p0 pd p1 pf p2 p3 p4 p5 k1 k2
  obtain ⟨hn1, hn2, hn3, hn4, hn5, hn6⟩ := id p2
  obtain ⟨d1, rfl⟩ : ∃ d1, d = d1 + 4 := ⟨d - 4, by omega⟩
  refine pw_intro (I := iX9_either) (T := tX9_either) rfl rfl rfl ?_
  refine pw_steps 1 (s' := (1, [some (.ref 47), none, none], [.ref 47], m)) rfl ?_
  refine pw_call (As := []) (st := []) (k := 47) rfl rfl rfl rfl rfl (Nat.le_of_ble_eq_true rfl) ?_
  refine hM (p := p) (o := o) (by omega) (by omega) (by omega) (by omega) (p2) (p3) (p4) (p5) (fun p11 z12 x3 m14 g5 g6 g7 g8 g9 g10 g11 => ?_) (fun p112 z113 x14 m115 g16 g17 g18 g19 g20 => ?_)
  · have t21 : mt_ B n m14 := mt_sm g6 p2
    obtain ⟨b22a, b22b, b22c, b22d⟩ := ps_e g5 (by omega)
    replace g10 := ex_cg (sm_f (P := pMd) (sm_rfl m) (fun _ => rfl)) g10
    refine pw_steps 1 (s' := (5, [some (.ref 47), some (.int (ei_ (x3))), none], [], m14)) rfl ?_
    refine hB (v := x3) (by omega) (by omega) (by omega) (by omega) t21 g7 g8 g9 g11 (fun p2 z2 x2 m2 e2 s2 a2 f2 o2 y2 r2 => ?_) (fun p2 z2 x2 m2 e2 s2 a2 f2 r2 => ?_)
    · exact k1 p2 (z12 ++ z2) x2 m2 (by rw [(ps_lev (by omega) g5).trans (if_pos rfl), e2]) (sm_tr g6 s2) a2 f2 o2 (ex_lev g10 (ey_cg (sm_f (P := pMd) g6 (fun _ => rfl)) y2)) r2
    · exact k2 p2 (z12 ++ z2) x2 m2 (by rw [(ps_lev (by omega) g5).trans (if_pos rfl), e2]) (sm_tr g6 s2) a2 f2 r2
  · have t23 : mt_ B n m115 := mt_sm g17 p2
    obtain ⟨b24a, b24b, b24c, b24d⟩ := ps_e g16 (by omega)
    refine pw_steps 1 (s' := (5, [some (.ref 47), some (.int (ei_ (x14))), none], [], m115)) rfl ?_
    refine pw_steps 2 (s' := (8, [some (.ref 47), some (.int (ei_ (x14))), none], [.int (ei_ (124)), .ref 47], m115)) rfl ?_
    refine pw_call (As := [.int (ei_ (124))]) (st := []) (k := 47) rfl rfl rfl rfl rfl (Nat.le_of_ble_eq_true rfl) ?_
    refine mt_takeF (e := p112) (g19) (by omega) ?_
    refine pw_ifT rfl (by decide) (show 0 = 0 by decide) ?_
    refine pw_steps 1 (s' := (37, [some (.ref 47), some (.int (ei_ (x14))), none], [.int (ei_ (x14))], m115)) rfl ?_
    refine pw_iret rfl rfl rfl ?_
    exact k2 _ _ x14 _ ((ps_lev (by omega) g16).trans (if_neg (by omega))) g17 g18 g19 g20

set_option maxHeartbeats 4000000 in
set_option maxRecDepth 20000 in
theorem mz_b0 {q : am_X} {B : Int → Int} {n : Int} {f : Nat} (hM : ∀ {o p : Int} {d : Nat} {m : am_M} {Q : Option Value → am_M → Prop}, (0 ≤ o ∧ o ≤ 6) → (6 * (6 - o) + 8 ≤ (d : Int)) → (0 ≤ p ∧ p ≤ n) → (7 * (n - p) + 5 ≤ ((f : Nat) : Int)) → mt_ B n m → vi_ m 47 14 = p → vi_ m 47 16 = -1 → vi_ m 47 17 = o → (∀ (p1 : Int) (z1 : List Int) (x : Int) (m1 : am_M), ps_ B n (f) 1 o p = (1, p1, z1) → sm_ pMd m m1 → vi_ m1 47 14 = p1 → vi_ m1 47 16 = -1 → vi_ m1 47 17 = o → ex_ (vi_ m 56) z1 x → (-2147483648 ≤ x ∧ x < 2147483648) → Q (some (.int (ei_ x))) m1) → (∀ (p1 : Int) (z1 : List Int) (x : Int) (m1 : am_M), ps_ B n (f) 1 o p = (0, p1, z1) → sm_ pMd m m1 → vi_ m1 47 14 = p1 → vi_ m1 47 16 = p1 → (-2147483648 ≤ x ∧ x < 2147483648) → Q (some (.int (ei_ x))) m1) → pw_C q d 193 [.ref 47] m Q) (hB : ∀ {o p v : Int} {u2 : Option Value} {d : Nat} {m : am_M} {Q : Option Value → am_M → Prop}, (0 ≤ o ∧ o ≤ 6) → (6 * (6 - o) + 8 ≤ (d : Int)) → (0 ≤ p ∧ p ≤ n) → (7 * (n - p) + 1 ≤ ((f : Nat) : Int)) → mt_ B n m → vi_ m 47 14 = p → vi_ m 47 16 = -1 → vi_ m 47 17 = o → (-2147483648 ≤ v ∧ v < 2147483648) → (∀ (p1 : Int) (z1 : List Int) (x : Int) (m1 : am_M), ps_ B n (f) (10 + 0) o p = (1, p1, z1) → sm_ pMd m m1 → vi_ m1 47 14 = p1 → vi_ m1 47 16 = -1 → vi_ m1 47 17 = o → ey_ (vi_ m 56) z1 v x → (-2147483648 ≤ x ∧ x < 2147483648) → Q (some (.int (ei_ x))) m1) → (∀ (p1 : Int) (z1 : List Int) (x : Int) (m1 : am_M), ps_ B n (f) (10 + 0) o p = (0, p1, z1) → sm_ pMd m m1 → vi_ m1 47 14 = p1 → vi_ m1 47 16 = p1 → (-2147483648 ≤ x ∧ x < 2147483648) → Q (some (.int (ei_ x))) m1) → pw_V q d iX9_either.2.2.2.1 tX9_either Q (5, [some (.ref 47), some (.int (ei_ v)), u2], [], m)) : ∀ {o p v : Int} {u2 : Option Value} {d : Nat} {m : am_M} {Q : Option Value → am_M → Prop}, (0 ≤ o ∧ o ≤ 6) → (6 * (6 - o) + 8 ≤ (d : Int)) → (0 ≤ p ∧ p ≤ n) → (7 * (n - p) + 1 ≤ ((f + 1 : Nat) : Int)) → mt_ B n m → vi_ m 47 14 = p → vi_ m 47 16 = -1 → vi_ m 47 17 = o → (-2147483648 ≤ v ∧ v < 2147483648) → (∀ (p1 : Int) (z1 : List Int) (x : Int) (m1 : am_M), ps_ B n (f + 1) (10 + 0) o p = (1, p1, z1) → sm_ pMd m m1 → vi_ m1 47 14 = p1 → vi_ m1 47 16 = -1 → vi_ m1 47 17 = o → ey_ (vi_ m 56) z1 v x → (-2147483648 ≤ x ∧ x < 2147483648) → Q (some (.int (ei_ x))) m1) → (∀ (p1 : Int) (z1 : List Int) (x : Int) (m1 : am_M), ps_ B n (f + 1) (10 + 0) o p = (0, p1, z1) → sm_ pMd m m1 → vi_ m1 47 14 = p1 → vi_ m1 47 16 = p1 → (-2147483648 ≤ x ∧ x < 2147483648) → Q (some (.int (ei_ x))) m1) → pw_V q d iX9_either.2.2.2.1 tX9_either Q (5, [some (.ref 47), some (.int (ei_ v)), u2], [], m) := by
  intro o p v u2 d m Q p0 pd p1 pf p2 p3 p4 p5 hv k1 k2
  obtain ⟨hn1, hn2, hn3, hn4, hn5, hn6⟩ := id p2
  obtain ⟨d1, rfl⟩ : ∃ d1, d = d1 + 4 := ⟨d - 4, by omega⟩
  refine pw_steps 2 (s' := (8, [some (.ref 47), some (.int (ei_ (v))), u2], [.int (ei_ (124)), .ref 47], m)) rfl ?_
  refine pw_call (As := [.int (ei_ (124))]) (st := []) (k := 47) rfl rfl rfl rfl rfl (Nat.le_of_ble_eq_true rfl) ?_
  refine mt_takes (p := p) (p2) (by omega) (p3) (p4) (by omega) (fun g1 g2 => ?_) (fun g3 => ?_)
  · refine pw_ifF rfl (by decide) (show ¬ (1 = 0) by decide) ?_
    refine pw_steps 1 (s' := (15, [some (.ref 47), some (.int (ei_ (v))), u2], [.ref 47], wi_ m 47 (14) ((p + 1)))) rfl ?_
    refine pw_call (As := []) (st := []) (k := 47) rfl rfl rfl rfl rfl (Nat.le_of_ble_eq_true rfl) ?_
    refine hM (p := (p + 1)) (o := o) (by omega) (by omega) (by omega) (by omega) (p2) ((ei_i (by omega))) (p4) (p5) (fun p14 z15 x6 m17 g8 g9 g10 g11 g12 g13 g14 => ?_) (fun p115 z116 x17 m118 g19 g20 g21 g22 g23 => ?_)
    · have t24 : mt_ B n m17 := mt_sm g9 p2
      obtain ⟨b25a, b25b, b25c, b25d⟩ := ps_e g8 (by omega)
      replace g13 := ex_cg (sm_f (P := pMd) (sm_w (sm_rfl m) (fun _ h_ => by rw [h_]; rfl)) (fun _ => rfl)) g13
      refine pw_steps 2 (s' := (20, [some (.ref 47), some (.int (ei_ (v))), some (.int (ei_ (x6)))], [.int (ei_ (v))], m17)) rfl ?_
      refine pw_if rfl hv (fun (h26 : ¬ v = 0) => ?_) (fun (h26 : ¬ ¬ v = 0) => ?_)
      · refine pw_steps 4 (s' := (5, [some (.ref 47), some (.int (ei_ (1))), some (.int (ei_ (x6)))], [], m17)) rfl ?_
        refine hB (v := 1) (by omega) (by omega) (by omega) (by omega) t24 g10 g11 g12 (by omega) (fun p2 z2 x2 m2 e2 s2 a2 f2 o2 y2 r2 => ?_) (fun p2 z2 x2 m2 e2 s2 a2 f2 r2 => ?_)
        · exact k1 p2 ((z15 ++ [B p]) ++ z2) x2 m2 (by rw [(ps_lp1 (L := 0) (by decide) ⟨by omega, by unfold lv_; omega⟩ g8).trans (if_pos rfl), if_neg (by decide), e2]) (sm_tr (sm_tr (sm_w (sm_rfl m) (fun _ h_ => by rw [h_]; rfl)) g9) s2) a2 f2 o2 (ey_stp g13 (by unfold lv_; omega) (by unfold jn_; omega) (ey_cg (sm_f (P := pMd) (sm_tr (sm_w (sm_rfl m) (fun _ h_ => by rw [h_]; rfl)) g9) (fun _ => rfl)) y2)) r2
        · exact k2 p2 ((z15 ++ [B p]) ++ z2) x2 m2 (by rw [(ps_lp1 (L := 0) (by decide) ⟨by omega, by unfold lv_; omega⟩ g8).trans (if_pos rfl), if_neg (by decide), e2]) (sm_tr (sm_tr (sm_w (sm_rfl m) (fun _ h_ => by rw [h_]; rfl)) g9) s2) a2 f2 r2
      · refine pw_steps 1 (s' := (24, [some (.ref 47), some (.int (ei_ (v))), some (.int (ei_ (x6)))], [.int (ei_ (x6))], m17)) rfl ?_
        refine pw_if rfl g14 (fun (h27 : x6 = 0) => ?_) (fun (h27 : ¬ (x6 = 0)) => ?_)
        · refine pw_steps 3 (s' := (5, [some (.ref 47), some (.int (ei_ (0))), some (.int (ei_ (x6)))], [], m17)) rfl ?_
          refine hB (v := 0) (by omega) (by omega) (by omega) (by omega) t24 g10 g11 g12 (by omega) (fun p2 z2 x2 m2 e2 s2 a2 f2 o2 y2 r2 => ?_) (fun p2 z2 x2 m2 e2 s2 a2 f2 r2 => ?_)
          · exact k1 p2 ((z15 ++ [B p]) ++ z2) x2 m2 (by rw [(ps_lp1 (L := 0) (by decide) ⟨by omega, by unfold lv_; omega⟩ g8).trans (if_pos rfl), if_neg (by decide), e2]) (sm_tr (sm_tr (sm_w (sm_rfl m) (fun _ h_ => by rw [h_]; rfl)) g9) s2) a2 f2 o2 (ey_stp g13 (by unfold lv_; omega) (by unfold jn_; omega) (ey_cg (sm_f (P := pMd) (sm_tr (sm_w (sm_rfl m) (fun _ h_ => by rw [h_]; rfl)) g9) (fun _ => rfl)) y2)) r2
          · exact k2 p2 ((z15 ++ [B p]) ++ z2) x2 m2 (by rw [(ps_lp1 (L := 0) (by decide) ⟨by omega, by unfold lv_; omega⟩ g8).trans (if_pos rfl), if_neg (by decide), e2]) (sm_tr (sm_tr (sm_w (sm_rfl m) (fun _ h_ => by rw [h_]; rfl)) g9) s2) a2 f2 r2
        · refine pw_steps 4 (s' := (5, [some (.ref 47), some (.int (ei_ (1))), some (.int (ei_ (x6)))], [], m17)) rfl ?_
          refine hB (v := 1) (by omega) (by omega) (by omega) (by omega) t24 g10 g11 g12 (by omega) (fun p2 z2 x2 m2 e2 s2 a2 f2 o2 y2 r2 => ?_) (fun p2 z2 x2 m2 e2 s2 a2 f2 r2 => ?_)
          · exact k1 p2 ((z15 ++ [B p]) ++ z2) x2 m2 (by rw [(ps_lp1 (L := 0) (by decide) ⟨by omega, by unfold lv_; omega⟩ g8).trans (if_pos rfl), if_neg (by decide), e2]) (sm_tr (sm_tr (sm_w (sm_rfl m) (fun _ h_ => by rw [h_]; rfl)) g9) s2) a2 f2 o2 (ey_stp g13 (by unfold lv_; omega) (by unfold jn_; omega) (ey_cg (sm_f (P := pMd) (sm_tr (sm_w (sm_rfl m) (fun _ h_ => by rw [h_]; rfl)) g9) (fun _ => rfl)) y2)) r2
          · exact k2 p2 ((z15 ++ [B p]) ++ z2) x2 m2 (by rw [(ps_lp1 (L := 0) (by decide) ⟨by omega, by unfold lv_; omega⟩ g8).trans (if_pos rfl), if_neg (by decide), e2]) (sm_tr (sm_tr (sm_w (sm_rfl m) (fun _ h_ => by rw [h_]; rfl)) g9) s2) a2 f2 r2
    · have t28 : mt_ B n m118 := mt_sm g20 p2
      obtain ⟨b29a, b29b, b29c, b29d⟩ := ps_e g19 (by omega)
      refine pw_steps 2 (s' := (20, [some (.ref 47), some (.int (ei_ (v))), some (.int (ei_ (x17)))], [.int (ei_ (v))], m118)) rfl ?_
      refine pw_if rfl hv (fun (h30 : ¬ v = 0) => ?_) (fun (h30 : ¬ ¬ v = 0) => ?_)
      · refine pw_steps 4 (s' := (5, [some (.ref 47), some (.int (ei_ (1))), some (.int (ei_ (x17)))], [], m118)) rfl ?_
        refine pw_steps 2 (s' := (8, [some (.ref 47), some (.int (ei_ (1))), some (.int (ei_ (x17)))], [.int (ei_ (124)), .ref 47], m118)) rfl ?_
        refine pw_call (As := [.int (ei_ (124))]) (st := []) (k := 47) rfl rfl rfl rfl rfl (Nat.le_of_ble_eq_true rfl) ?_
        refine mt_takeF (e := p115) (g22) (by omega) ?_
        refine pw_ifT rfl (by decide) (show 0 = 0 by decide) ?_
        refine pw_steps 1 (s' := (37, [some (.ref 47), some (.int (ei_ (1))), some (.int (ei_ (x17)))], [.int (ei_ (1))], m118)) rfl ?_
        refine pw_iret rfl rfl rfl ?_
        exact k2 _ _ 1 _ ((ps_lp1 (L := 0) (by decide) ⟨by omega, by unfold lv_; omega⟩ g19).trans (if_neg (by decide))) (sm_tr (sm_w (sm_rfl m) (fun _ h_ => by rw [h_]; rfl)) g20) g21 g22 (by decide)
      · refine pw_steps 1 (s' := (24, [some (.ref 47), some (.int (ei_ (v))), some (.int (ei_ (x17)))], [.int (ei_ (x17))], m118)) rfl ?_
        refine pw_if rfl g23 (fun (h31 : x17 = 0) => ?_) (fun (h31 : ¬ (x17 = 0)) => ?_)
        · refine pw_steps 3 (s' := (5, [some (.ref 47), some (.int (ei_ (0))), some (.int (ei_ (x17)))], [], m118)) rfl ?_
          refine pw_steps 2 (s' := (8, [some (.ref 47), some (.int (ei_ (0))), some (.int (ei_ (x17)))], [.int (ei_ (124)), .ref 47], m118)) rfl ?_
          refine pw_call (As := [.int (ei_ (124))]) (st := []) (k := 47) rfl rfl rfl rfl rfl (Nat.le_of_ble_eq_true rfl) ?_
          refine mt_takeF (e := p115) (g22) (by omega) ?_
          refine pw_ifT rfl (by decide) (show 0 = 0 by decide) ?_
          refine pw_steps 1 (s' := (37, [some (.ref 47), some (.int (ei_ (0))), some (.int (ei_ (x17)))], [.int (ei_ (0))], m118)) rfl ?_
          refine pw_iret rfl rfl rfl ?_
          exact k2 _ _ 0 _ ((ps_lp1 (L := 0) (by decide) ⟨by omega, by unfold lv_; omega⟩ g19).trans (if_neg (by decide))) (sm_tr (sm_w (sm_rfl m) (fun _ h_ => by rw [h_]; rfl)) g20) g21 g22 (by decide)
        · refine pw_steps 4 (s' := (5, [some (.ref 47), some (.int (ei_ (1))), some (.int (ei_ (x17)))], [], m118)) rfl ?_
          refine pw_steps 2 (s' := (8, [some (.ref 47), some (.int (ei_ (1))), some (.int (ei_ (x17)))], [.int (ei_ (124)), .ref 47], m118)) rfl ?_
          refine pw_call (As := [.int (ei_ (124))]) (st := []) (k := 47) rfl rfl rfl rfl rfl (Nat.le_of_ble_eq_true rfl) ?_
          refine mt_takeF (e := p115) (g22) (by omega) ?_
          refine pw_ifT rfl (by decide) (show 0 = 0 by decide) ?_
          refine pw_steps 1 (s' := (37, [some (.ref 47), some (.int (ei_ (1))), some (.int (ei_ (x17)))], [.int (ei_ (1))], m118)) rfl ?_
          refine pw_iret rfl rfl rfl ?_
          exact k2 _ _ 1 _ ((ps_lp1 (L := 0) (by decide) ⟨by omega, by unfold lv_; omega⟩ g19).trans (if_neg (by decide))) (sm_tr (sm_w (sm_rfl m) (fun _ h_ => by rw [h_]; rfl)) g20) g21 g22 (by decide)
  · refine pw_ifT rfl (by decide) (show 0 = 0 by decide) ?_
    refine pw_steps 1 (s' := (37, [some (.ref 47), some (.int (ei_ (v))), u2], [.int (ei_ (v))], m)) rfl ?_
    refine pw_iret rfl rfl rfl ?_
    exact k1 p [] v _ (ps_lp0 (L := 0) (by decide) (by unfold lv_; omega)) (sm_rfl _) p3 p4 p5 ey_nil hv

set_option maxHeartbeats 4000000 in
set_option maxRecDepth 20000 in
theorem mz_l1 {q : am_X} {B : Int → Int} {n : Int} {f : Nat} (hM : ∀ {o p : Int} {d : Nat} {m : am_M} {Q : Option Value → am_M → Prop}, (0 ≤ o ∧ o ≤ 6) → (6 * (6 - o) + 7 ≤ (d : Int)) → (0 ≤ p ∧ p ≤ n) → (7 * (n - p) + 4 ≤ ((f : Nat) : Int)) → mt_ B n m → vi_ m 47 14 = p → vi_ m 47 16 = -1 → vi_ m 47 17 = o → (∀ (p1 : Int) (z1 : List Int) (x : Int) (m1 : am_M), ps_ B n (f) 2 o p = (1, p1, z1) → sm_ pMd m m1 → vi_ m1 47 14 = p1 → vi_ m1 47 16 = -1 → vi_ m1 47 17 = o → ex_ (vi_ m 56) z1 x → (-2147483648 ≤ x ∧ x < 2147483648) → Q (some (.int (ei_ x))) m1) → (∀ (p1 : Int) (z1 : List Int) (x : Int) (m1 : am_M), ps_ B n (f) 2 o p = (0, p1, z1) → sm_ pMd m m1 → vi_ m1 47 14 = p1 → vi_ m1 47 16 = p1 → (-2147483648 ≤ x ∧ x < 2147483648) → Q (some (.int (ei_ x))) m1) → pw_C q d 194 [.ref 47] m Q) (hB : ∀ {o p v : Int} {u2 : Option Value} {d : Nat} {m : am_M} {Q : Option Value → am_M → Prop}, (0 ≤ o ∧ o ≤ 6) → (6 * (6 - o) + 7 ≤ (d : Int)) → (0 ≤ p ∧ p ≤ n) → (7 * (n - p) + 1 ≤ ((f : Nat) : Int)) → mt_ B n m → vi_ m 47 14 = p → vi_ m 47 16 = -1 → vi_ m 47 17 = o → (-2147483648 ≤ v ∧ v < 2147483648) → (∀ (p1 : Int) (z1 : List Int) (x : Int) (m1 : am_M), ps_ B n (f) (10 + 1) o p = (1, p1, z1) → sm_ pMd m m1 → vi_ m1 47 14 = p1 → vi_ m1 47 16 = -1 → vi_ m1 47 17 = o → ey_ (vi_ m 56) z1 v x → (-2147483648 ≤ x ∧ x < 2147483648) → Q (some (.int (ei_ x))) m1) → (∀ (p1 : Int) (z1 : List Int) (x : Int) (m1 : am_M), ps_ B n (f) (10 + 1) o p = (0, p1, z1) → sm_ pMd m m1 → vi_ m1 47 14 = p1 → vi_ m1 47 16 = p1 → (-2147483648 ≤ x ∧ x < 2147483648) → Q (some (.int (ei_ x))) m1) → pw_V q d iX9_both.2.2.2.1 tX9_both Q (5, [some (.ref 47), some (.int (ei_ v)), u2], [], m)) : ∀ {o p : Int} {d : Nat} {m : am_M} {Q : Option Value → am_M → Prop}, (0 ≤ o ∧ o ≤ 6) → (6 * (6 - o) + 8 ≤ (d : Int)) → (0 ≤ p ∧ p ≤ n) → (7 * (n - p) + 5 ≤ ((f + 1 : Nat) : Int)) → mt_ B n m → vi_ m 47 14 = p → vi_ m 47 16 = -1 → vi_ m 47 17 = o → (∀ (p1 : Int) (z1 : List Int) (x : Int) (m1 : am_M), ps_ B n (f + 1) 1 o p = (1, p1, z1) → sm_ pMd m m1 → vi_ m1 47 14 = p1 → vi_ m1 47 16 = -1 → vi_ m1 47 17 = o → ex_ (vi_ m 56) z1 x → (-2147483648 ≤ x ∧ x < 2147483648) → Q (some (.int (ei_ x))) m1) → (∀ (p1 : Int) (z1 : List Int) (x : Int) (m1 : am_M), ps_ B n (f + 1) 1 o p = (0, p1, z1) → sm_ pMd m m1 → vi_ m1 47 14 = p1 → vi_ m1 47 16 = p1 → (-2147483648 ≤ x ∧ x < 2147483648) → Q (some (.int (ei_ x))) m1) → pw_C q d 193 [.ref 47] m Q := by
  intro o p d m Q p0 pd p1 pf p2 p3 p4 p5 k1 k2
  obtain ⟨hn1, hn2, hn3, hn4, hn5, hn6⟩ := id p2
  obtain ⟨d1, rfl⟩ : ∃ d1, d = d1 + 4 := ⟨d - 4, by omega⟩
  refine pw_intro (I := iX9_both) (T := tX9_both) rfl rfl rfl ?_
  refine pw_steps 1 (s' := (1, [some (.ref 47), none, none], [.ref 47], m)) rfl ?_
  refine pw_call (As := []) (st := []) (k := 47) rfl rfl rfl rfl rfl (Nat.le_of_ble_eq_true rfl) ?_
  refine hM (p := p) (o := o) (by omega) (by omega) (by omega) (by omega) (p2) (p3) (p4) (p5) (fun p11 z12 x3 m14 g5 g6 g7 g8 g9 g10 g11 => ?_) (fun p112 z113 x14 m115 g16 g17 g18 g19 g20 => ?_)
  · have t21 : mt_ B n m14 := mt_sm g6 p2
    obtain ⟨b22a, b22b, b22c, b22d⟩ := ps_e g5 (by omega)
    replace g10 := ex_cg (sm_f (P := pMd) (sm_rfl m) (fun _ => rfl)) g10
    refine pw_steps 1 (s' := (5, [some (.ref 47), some (.int (ei_ (x3))), none], [], m14)) rfl ?_
    refine hB (v := x3) (by omega) (by omega) (by omega) (by omega) t21 g7 g8 g9 g11 (fun p2 z2 x2 m2 e2 s2 a2 f2 o2 y2 r2 => ?_) (fun p2 z2 x2 m2 e2 s2 a2 f2 r2 => ?_)
    · exact k1 p2 (z12 ++ z2) x2 m2 (by rw [(ps_lev (by omega) g5).trans (if_pos rfl), e2]) (sm_tr g6 s2) a2 f2 o2 (ex_lev g10 (ey_cg (sm_f (P := pMd) g6 (fun _ => rfl)) y2)) r2
    · exact k2 p2 (z12 ++ z2) x2 m2 (by rw [(ps_lev (by omega) g5).trans (if_pos rfl), e2]) (sm_tr g6 s2) a2 f2 r2
  · have t23 : mt_ B n m115 := mt_sm g17 p2
    obtain ⟨b24a, b24b, b24c, b24d⟩ := ps_e g16 (by omega)
    refine pw_steps 1 (s' := (5, [some (.ref 47), some (.int (ei_ (x14))), none], [], m115)) rfl ?_
    refine pw_steps 2 (s' := (8, [some (.ref 47), some (.int (ei_ (x14))), none], [.int (ei_ (38)), .ref 47], m115)) rfl ?_
    refine pw_call (As := [.int (ei_ (38))]) (st := []) (k := 47) rfl rfl rfl rfl rfl (Nat.le_of_ble_eq_true rfl) ?_
    refine mt_takeF (e := p112) (g19) (by omega) ?_
    refine pw_ifT rfl (by decide) (show 0 = 0 by decide) ?_
    refine pw_steps 1 (s' := (37, [some (.ref 47), some (.int (ei_ (x14))), none], [.int (ei_ (x14))], m115)) rfl ?_
    refine pw_iret rfl rfl rfl ?_
    exact k2 _ _ x14 _ ((ps_lev (by omega) g16).trans (if_neg (by omega))) g17 g18 g19 g20

set_option maxHeartbeats 4000000 in
set_option maxRecDepth 20000 in
theorem mz_b1 {q : am_X} {B : Int → Int} {n : Int} {f : Nat} (hM : ∀ {o p : Int} {d : Nat} {m : am_M} {Q : Option Value → am_M → Prop}, (0 ≤ o ∧ o ≤ 6) → (6 * (6 - o) + 7 ≤ (d : Int)) → (0 ≤ p ∧ p ≤ n) → (7 * (n - p) + 4 ≤ ((f : Nat) : Int)) → mt_ B n m → vi_ m 47 14 = p → vi_ m 47 16 = -1 → vi_ m 47 17 = o → (∀ (p1 : Int) (z1 : List Int) (x : Int) (m1 : am_M), ps_ B n (f) 2 o p = (1, p1, z1) → sm_ pMd m m1 → vi_ m1 47 14 = p1 → vi_ m1 47 16 = -1 → vi_ m1 47 17 = o → ex_ (vi_ m 56) z1 x → (-2147483648 ≤ x ∧ x < 2147483648) → Q (some (.int (ei_ x))) m1) → (∀ (p1 : Int) (z1 : List Int) (x : Int) (m1 : am_M), ps_ B n (f) 2 o p = (0, p1, z1) → sm_ pMd m m1 → vi_ m1 47 14 = p1 → vi_ m1 47 16 = p1 → (-2147483648 ≤ x ∧ x < 2147483648) → Q (some (.int (ei_ x))) m1) → pw_C q d 194 [.ref 47] m Q) (hB : ∀ {o p v : Int} {u2 : Option Value} {d : Nat} {m : am_M} {Q : Option Value → am_M → Prop}, (0 ≤ o ∧ o ≤ 6) → (6 * (6 - o) + 7 ≤ (d : Int)) → (0 ≤ p ∧ p ≤ n) → (7 * (n - p) + 1 ≤ ((f : Nat) : Int)) → mt_ B n m → vi_ m 47 14 = p → vi_ m 47 16 = -1 → vi_ m 47 17 = o → (-2147483648 ≤ v ∧ v < 2147483648) → (∀ (p1 : Int) (z1 : List Int) (x : Int) (m1 : am_M), ps_ B n (f) (10 + 1) o p = (1, p1, z1) → sm_ pMd m m1 → vi_ m1 47 14 = p1 → vi_ m1 47 16 = -1 → vi_ m1 47 17 = o → ey_ (vi_ m 56) z1 v x → (-2147483648 ≤ x ∧ x < 2147483648) → Q (some (.int (ei_ x))) m1) → (∀ (p1 : Int) (z1 : List Int) (x : Int) (m1 : am_M), ps_ B n (f) (10 + 1) o p = (0, p1, z1) → sm_ pMd m m1 → vi_ m1 47 14 = p1 → vi_ m1 47 16 = p1 → (-2147483648 ≤ x ∧ x < 2147483648) → Q (some (.int (ei_ x))) m1) → pw_V q d iX9_both.2.2.2.1 tX9_both Q (5, [some (.ref 47), some (.int (ei_ v)), u2], [], m)) : ∀ {o p v : Int} {u2 : Option Value} {d : Nat} {m : am_M} {Q : Option Value → am_M → Prop}, (0 ≤ o ∧ o ≤ 6) → (6 * (6 - o) + 7 ≤ (d : Int)) → (0 ≤ p ∧ p ≤ n) → (7 * (n - p) + 1 ≤ ((f + 1 : Nat) : Int)) → mt_ B n m → vi_ m 47 14 = p → vi_ m 47 16 = -1 → vi_ m 47 17 = o → (-2147483648 ≤ v ∧ v < 2147483648) → (∀ (p1 : Int) (z1 : List Int) (x : Int) (m1 : am_M), ps_ B n (f + 1) (10 + 1) o p = (1, p1, z1) → sm_ pMd m m1 → vi_ m1 47 14 = p1 → vi_ m1 47 16 = -1 → vi_ m1 47 17 = o → ey_ (vi_ m 56) z1 v x → (-2147483648 ≤ x ∧ x < 2147483648) → Q (some (.int (ei_ x))) m1) → (∀ (p1 : Int) (z1 : List Int) (x : Int) (m1 : am_M), ps_ B n (f + 1) (10 + 1) o p = (0, p1, z1) → sm_ pMd m m1 → vi_ m1 47 14 = p1 → vi_ m1 47 16 = p1 → (-2147483648 ≤ x ∧ x < 2147483648) → Q (some (.int (ei_ x))) m1) → pw_V q d iX9_both.2.2.2.1 tX9_both Q (5, [some (.ref 47), some (.int (ei_ v)), u2], [], m) := by
  intro o p v u2 d m Q p0 pd p1 pf p2 p3 p4 p5 hv k1 k2
  obtain ⟨hn1, hn2, hn3, hn4, hn5, hn6⟩ := id p2
  obtain ⟨d1, rfl⟩ : ∃ d1, d = d1 + 4 := ⟨d - 4, by omega⟩
  refine pw_steps 2 (s' := (8, [some (.ref 47), some (.int (ei_ (v))), u2], [.int (ei_ (38)), .ref 47], m)) rfl ?_
  refine pw_call (As := [.int (ei_ (38))]) (st := []) (k := 47) rfl rfl rfl rfl rfl (Nat.le_of_ble_eq_true rfl) ?_
  refine mt_takes (p := p) (p2) (by omega) (p3) (p4) (by omega) (fun g1 g2 => ?_) (fun g3 => ?_)
  · refine pw_ifF rfl (by decide) (show ¬ (1 = 0) by decide) ?_
    refine pw_steps 1 (s' := (15, [some (.ref 47), some (.int (ei_ (v))), u2], [.ref 47], wi_ m 47 (14) ((p + 1)))) rfl ?_
    refine pw_call (As := []) (st := []) (k := 47) rfl rfl rfl rfl rfl (Nat.le_of_ble_eq_true rfl) ?_
    refine hM (p := (p + 1)) (o := o) (by omega) (by omega) (by omega) (by omega) (p2) ((ei_i (by omega))) (p4) (p5) (fun p14 z15 x6 m17 g8 g9 g10 g11 g12 g13 g14 => ?_) (fun p115 z116 x17 m118 g19 g20 g21 g22 g23 => ?_)
    · have t24 : mt_ B n m17 := mt_sm g9 p2
      obtain ⟨b25a, b25b, b25c, b25d⟩ := ps_e g8 (by omega)
      replace g13 := ex_cg (sm_f (P := pMd) (sm_w (sm_rfl m) (fun _ h_ => by rw [h_]; rfl)) (fun _ => rfl)) g13
      refine pw_steps 2 (s' := (20, [some (.ref 47), some (.int (ei_ (v))), some (.int (ei_ (x6)))], [.int (ei_ (v))], m17)) rfl ?_
      refine pw_if rfl hv (fun (h26 : v = 0) => ?_) (fun (h26 : ¬ (v = 0)) => ?_)
      · refine pw_steps 3 (s' := (5, [some (.ref 47), some (.int (ei_ (0))), some (.int (ei_ (x6)))], [], m17)) rfl ?_
        refine hB (v := 0) (by omega) (by omega) (by omega) (by omega) t24 g10 g11 g12 (by omega) (fun p2 z2 x2 m2 e2 s2 a2 f2 o2 y2 r2 => ?_) (fun p2 z2 x2 m2 e2 s2 a2 f2 r2 => ?_)
        · exact k1 p2 ((z15 ++ [B p]) ++ z2) x2 m2 (by rw [(ps_lp1 (L := 1) (by decide) ⟨by omega, by unfold lv_; omega⟩ g8).trans (if_pos rfl), if_neg (by decide), e2]) (sm_tr (sm_tr (sm_w (sm_rfl m) (fun _ h_ => by rw [h_]; rfl)) g9) s2) a2 f2 o2 (ey_stp g13 (by unfold lv_; omega) (by unfold jn_; omega) (ey_cg (sm_f (P := pMd) (sm_tr (sm_w (sm_rfl m) (fun _ h_ => by rw [h_]; rfl)) g9) (fun _ => rfl)) y2)) r2
        · exact k2 p2 ((z15 ++ [B p]) ++ z2) x2 m2 (by rw [(ps_lp1 (L := 1) (by decide) ⟨by omega, by unfold lv_; omega⟩ g8).trans (if_pos rfl), if_neg (by decide), e2]) (sm_tr (sm_tr (sm_w (sm_rfl m) (fun _ h_ => by rw [h_]; rfl)) g9) s2) a2 f2 r2
      · refine pw_steps 1 (s' := (24, [some (.ref 47), some (.int (ei_ (v))), some (.int (ei_ (x6)))], [.int (ei_ (x6))], m17)) rfl ?_
        refine pw_if rfl g14 (fun (h27 : x6 = 0) => ?_) (fun (h27 : ¬ (x6 = 0)) => ?_)
        · refine pw_steps 3 (s' := (5, [some (.ref 47), some (.int (ei_ (0))), some (.int (ei_ (x6)))], [], m17)) rfl ?_
          refine hB (v := 0) (by omega) (by omega) (by omega) (by omega) t24 g10 g11 g12 (by omega) (fun p2 z2 x2 m2 e2 s2 a2 f2 o2 y2 r2 => ?_) (fun p2 z2 x2 m2 e2 s2 a2 f2 r2 => ?_)
          · exact k1 p2 ((z15 ++ [B p]) ++ z2) x2 m2 (by rw [(ps_lp1 (L := 1) (by decide) ⟨by omega, by unfold lv_; omega⟩ g8).trans (if_pos rfl), if_neg (by decide), e2]) (sm_tr (sm_tr (sm_w (sm_rfl m) (fun _ h_ => by rw [h_]; rfl)) g9) s2) a2 f2 o2 (ey_stp g13 (by unfold lv_; omega) (by unfold jn_; omega) (ey_cg (sm_f (P := pMd) (sm_tr (sm_w (sm_rfl m) (fun _ h_ => by rw [h_]; rfl)) g9) (fun _ => rfl)) y2)) r2
          · exact k2 p2 ((z15 ++ [B p]) ++ z2) x2 m2 (by rw [(ps_lp1 (L := 1) (by decide) ⟨by omega, by unfold lv_; omega⟩ g8).trans (if_pos rfl), if_neg (by decide), e2]) (sm_tr (sm_tr (sm_w (sm_rfl m) (fun _ h_ => by rw [h_]; rfl)) g9) s2) a2 f2 r2
        · refine pw_steps 4 (s' := (5, [some (.ref 47), some (.int (ei_ (1))), some (.int (ei_ (x6)))], [], m17)) rfl ?_
          refine hB (v := 1) (by omega) (by omega) (by omega) (by omega) t24 g10 g11 g12 (by omega) (fun p2 z2 x2 m2 e2 s2 a2 f2 o2 y2 r2 => ?_) (fun p2 z2 x2 m2 e2 s2 a2 f2 r2 => ?_)
          · exact k1 p2 ((z15 ++ [B p]) ++ z2) x2 m2 (by rw [(ps_lp1 (L := 1) (by decide) ⟨by omega, by unfold lv_; omega⟩ g8).trans (if_pos rfl), if_neg (by decide), e2]) (sm_tr (sm_tr (sm_w (sm_rfl m) (fun _ h_ => by rw [h_]; rfl)) g9) s2) a2 f2 o2 (ey_stp g13 (by unfold lv_; omega) (by unfold jn_; omega) (ey_cg (sm_f (P := pMd) (sm_tr (sm_w (sm_rfl m) (fun _ h_ => by rw [h_]; rfl)) g9) (fun _ => rfl)) y2)) r2
          · exact k2 p2 ((z15 ++ [B p]) ++ z2) x2 m2 (by rw [(ps_lp1 (L := 1) (by decide) ⟨by omega, by unfold lv_; omega⟩ g8).trans (if_pos rfl), if_neg (by decide), e2]) (sm_tr (sm_tr (sm_w (sm_rfl m) (fun _ h_ => by rw [h_]; rfl)) g9) s2) a2 f2 r2
    · have t28 : mt_ B n m118 := mt_sm g20 p2
      obtain ⟨b29a, b29b, b29c, b29d⟩ := ps_e g19 (by omega)
      refine pw_steps 2 (s' := (20, [some (.ref 47), some (.int (ei_ (v))), some (.int (ei_ (x17)))], [.int (ei_ (v))], m118)) rfl ?_
      refine pw_if rfl hv (fun (h30 : v = 0) => ?_) (fun (h30 : ¬ (v = 0)) => ?_)
      · refine pw_steps 3 (s' := (5, [some (.ref 47), some (.int (ei_ (0))), some (.int (ei_ (x17)))], [], m118)) rfl ?_
        refine pw_steps 2 (s' := (8, [some (.ref 47), some (.int (ei_ (0))), some (.int (ei_ (x17)))], [.int (ei_ (38)), .ref 47], m118)) rfl ?_
        refine pw_call (As := [.int (ei_ (38))]) (st := []) (k := 47) rfl rfl rfl rfl rfl (Nat.le_of_ble_eq_true rfl) ?_
        refine mt_takeF (e := p115) (g22) (by omega) ?_
        refine pw_ifT rfl (by decide) (show 0 = 0 by decide) ?_
        refine pw_steps 1 (s' := (37, [some (.ref 47), some (.int (ei_ (0))), some (.int (ei_ (x17)))], [.int (ei_ (0))], m118)) rfl ?_
        refine pw_iret rfl rfl rfl ?_
        exact k2 _ _ 0 _ ((ps_lp1 (L := 1) (by decide) ⟨by omega, by unfold lv_; omega⟩ g19).trans (if_neg (by decide))) (sm_tr (sm_w (sm_rfl m) (fun _ h_ => by rw [h_]; rfl)) g20) g21 g22 (by decide)
      · refine pw_steps 1 (s' := (24, [some (.ref 47), some (.int (ei_ (v))), some (.int (ei_ (x17)))], [.int (ei_ (x17))], m118)) rfl ?_
        refine pw_if rfl g23 (fun (h31 : x17 = 0) => ?_) (fun (h31 : ¬ (x17 = 0)) => ?_)
        · refine pw_steps 3 (s' := (5, [some (.ref 47), some (.int (ei_ (0))), some (.int (ei_ (x17)))], [], m118)) rfl ?_
          refine pw_steps 2 (s' := (8, [some (.ref 47), some (.int (ei_ (0))), some (.int (ei_ (x17)))], [.int (ei_ (38)), .ref 47], m118)) rfl ?_
          refine pw_call (As := [.int (ei_ (38))]) (st := []) (k := 47) rfl rfl rfl rfl rfl (Nat.le_of_ble_eq_true rfl) ?_
          refine mt_takeF (e := p115) (g22) (by omega) ?_
          refine pw_ifT rfl (by decide) (show 0 = 0 by decide) ?_
          refine pw_steps 1 (s' := (37, [some (.ref 47), some (.int (ei_ (0))), some (.int (ei_ (x17)))], [.int (ei_ (0))], m118)) rfl ?_
          refine pw_iret rfl rfl rfl ?_
          exact k2 _ _ 0 _ ((ps_lp1 (L := 1) (by decide) ⟨by omega, by unfold lv_; omega⟩ g19).trans (if_neg (by decide))) (sm_tr (sm_w (sm_rfl m) (fun _ h_ => by rw [h_]; rfl)) g20) g21 g22 (by decide)
        · refine pw_steps 4 (s' := (5, [some (.ref 47), some (.int (ei_ (1))), some (.int (ei_ (x17)))], [], m118)) rfl ?_
          refine pw_steps 2 (s' := (8, [some (.ref 47), some (.int (ei_ (1))), some (.int (ei_ (x17)))], [.int (ei_ (38)), .ref 47], m118)) rfl ?_
          refine pw_call (As := [.int (ei_ (38))]) (st := []) (k := 47) rfl rfl rfl rfl rfl (Nat.le_of_ble_eq_true rfl) ?_
          refine mt_takeF (e := p115) (g22) (by omega) ?_
          refine pw_ifT rfl (by decide) (show 0 = 0 by decide) ?_
          refine pw_steps 1 (s' := (37, [some (.ref 47), some (.int (ei_ (1))), some (.int (ei_ (x17)))], [.int (ei_ (1))], m118)) rfl ?_
          refine pw_iret rfl rfl rfl ?_
          exact k2 _ _ 1 _ ((ps_lp1 (L := 1) (by decide) ⟨by omega, by unfold lv_; omega⟩ g19).trans (if_neg (by decide))) (sm_tr (sm_w (sm_rfl m) (fun _ h_ => by rw [h_]; rfl)) g20) g21 g22 (by decide)
  · refine pw_ifT rfl (by decide) (show 0 = 0 by decide) ?_
    refine pw_steps 1 (s' := (37, [some (.ref 47), some (.int (ei_ (v))), u2], [.int (ei_ (v))], m)) rfl ?_
    refine pw_iret rfl rfl rfl ?_
    exact k1 p [] v _ (ps_lp0 (L := 1) (by decide) (by unfold lv_; omega)) (sm_rfl _) p3 p4 p5 ey_nil hv

set_option maxHeartbeats 4000000 in
set_option maxRecDepth 20000 in
theorem mz_l2 {q : am_X} {B : Int → Int} {n : Int} {f : Nat} (hM : ∀ {o p : Int} {d : Nat} {m : am_M} {Q : Option Value → am_M → Prop}, (0 ≤ o ∧ o ≤ 6) → (6 * (6 - o) + 6 ≤ (d : Int)) → (0 ≤ p ∧ p ≤ n) → (7 * (n - p) + 3 ≤ ((f : Nat) : Int)) → mt_ B n m → vi_ m 47 14 = p → vi_ m 47 16 = -1 → vi_ m 47 17 = o → (∀ (p1 : Int) (z1 : List Int) (x : Int) (m1 : am_M), ps_ B n (f) 3 o p = (1, p1, z1) → sm_ pMd m m1 → vi_ m1 47 14 = p1 → vi_ m1 47 16 = -1 → vi_ m1 47 17 = o → ex_ (vi_ m 56) z1 x → (-2147483648 ≤ x ∧ x < 2147483648) → Q (some (.int (ei_ x))) m1) → (∀ (p1 : Int) (z1 : List Int) (x : Int) (m1 : am_M), ps_ B n (f) 3 o p = (0, p1, z1) → sm_ pMd m m1 → vi_ m1 47 14 = p1 → vi_ m1 47 16 = p1 → (-2147483648 ≤ x ∧ x < 2147483648) → Q (some (.int (ei_ x))) m1) → pw_C q d 195 [.ref 47] m Q) (hB : ∀ {o p v : Int} {u2 : Option Value} {u3 : Option Value} {d : Nat} {m : am_M} {Q : Option Value → am_M → Prop}, (0 ≤ o ∧ o ≤ 6) → (6 * (6 - o) + 6 ≤ (d : Int)) → (0 ≤ p ∧ p ≤ n) → (7 * (n - p) + 1 ≤ ((f : Nat) : Int)) → mt_ B n m → vi_ m 47 14 = p → vi_ m 47 16 = -1 → vi_ m 47 17 = o → (-2147483648 ≤ v ∧ v < 2147483648) → (∀ (p1 : Int) (z1 : List Int) (x : Int) (m1 : am_M), ps_ B n (f) (10 + 2) o p = (1, p1, z1) → sm_ pMd m m1 → vi_ m1 47 14 = p1 → vi_ m1 47 16 = -1 → vi_ m1 47 17 = o → ey_ (vi_ m 56) z1 v x → (-2147483648 ≤ x ∧ x < 2147483648) → Q (some (.int (ei_ x))) m1) → (∀ (p1 : Int) (z1 : List Int) (x : Int) (m1 : am_M), ps_ B n (f) (10 + 2) o p = (0, p1, z1) → sm_ pMd m m1 → vi_ m1 47 14 = p1 → vi_ m1 47 16 = p1 → (-2147483648 ≤ x ∧ x < 2147483648) → Q (some (.int (ei_ x))) m1) → pw_V q d iX9_compared.2.2.2.1 tX9_compared Q (5, [some (.ref 47), some (.int (ei_ v)), u2, u3], [], m)) : ∀ {o p : Int} {d : Nat} {m : am_M} {Q : Option Value → am_M → Prop}, (0 ≤ o ∧ o ≤ 6) → (6 * (6 - o) + 7 ≤ (d : Int)) → (0 ≤ p ∧ p ≤ n) → (7 * (n - p) + 4 ≤ ((f + 1 : Nat) : Int)) → mt_ B n m → vi_ m 47 14 = p → vi_ m 47 16 = -1 → vi_ m 47 17 = o → (∀ (p1 : Int) (z1 : List Int) (x : Int) (m1 : am_M), ps_ B n (f + 1) 2 o p = (1, p1, z1) → sm_ pMd m m1 → vi_ m1 47 14 = p1 → vi_ m1 47 16 = -1 → vi_ m1 47 17 = o → ex_ (vi_ m 56) z1 x → (-2147483648 ≤ x ∧ x < 2147483648) → Q (some (.int (ei_ x))) m1) → (∀ (p1 : Int) (z1 : List Int) (x : Int) (m1 : am_M), ps_ B n (f + 1) 2 o p = (0, p1, z1) → sm_ pMd m m1 → vi_ m1 47 14 = p1 → vi_ m1 47 16 = p1 → (-2147483648 ≤ x ∧ x < 2147483648) → Q (some (.int (ei_ x))) m1) → pw_C q d 194 [.ref 47] m Q := by
  intro o p d m Q p0 pd p1 pf p2 p3 p4 p5 k1 k2
  obtain ⟨hn1, hn2, hn3, hn4, hn5, hn6⟩ := id p2
  obtain ⟨d1, rfl⟩ : ∃ d1, d = d1 + 4 := ⟨d - 4, by omega⟩
  refine pw_intro (I := iX9_compared) (T := tX9_compared) rfl rfl rfl ?_
  refine pw_steps 1 (s' := (1, [some (.ref 47), none, none, none], [.ref 47], m)) rfl ?_
  refine pw_call (As := []) (st := []) (k := 47) rfl rfl rfl rfl rfl (Nat.le_of_ble_eq_true rfl) ?_
  refine hM (p := p) (o := o) (by omega) (by omega) (by omega) (by omega) (p2) (p3) (p4) (p5) (fun p11 z12 x3 m14 g5 g6 g7 g8 g9 g10 g11 => ?_) (fun p112 z113 x14 m115 g16 g17 g18 g19 g20 => ?_)
  · have t21 : mt_ B n m14 := mt_sm g6 p2
    obtain ⟨b22a, b22b, b22c, b22d⟩ := ps_e g5 (by omega)
    replace g10 := ex_cg (sm_f (P := pMd) (sm_rfl m) (fun _ => rfl)) g10
    refine pw_steps 1 (s' := (5, [some (.ref 47), some (.int (ei_ (x3))), none, none], [], m14)) rfl ?_
    refine hB (v := x3) (by omega) (by omega) (by omega) (by omega) t21 g7 g8 g9 g11 (fun p2 z2 x2 m2 e2 s2 a2 f2 o2 y2 r2 => ?_) (fun p2 z2 x2 m2 e2 s2 a2 f2 r2 => ?_)
    · exact k1 p2 (z12 ++ z2) x2 m2 (by rw [(ps_lev (by omega) g5).trans (if_pos rfl), e2]) (sm_tr g6 s2) a2 f2 o2 (ex_lev g10 (ey_cg (sm_f (P := pMd) g6 (fun _ => rfl)) y2)) r2
    · exact k2 p2 (z12 ++ z2) x2 m2 (by rw [(ps_lev (by omega) g5).trans (if_pos rfl), e2]) (sm_tr g6 s2) a2 f2 r2
  · have t23 : mt_ B n m115 := mt_sm g17 p2
    obtain ⟨b24a, b24b, b24c, b24d⟩ := ps_e g16 (by omega)
    refine pw_steps 1 (s' := (5, [some (.ref 47), some (.int (ei_ (x14))), none, none], [], m115)) rfl ?_
    refine pw_steps 1 (s' := (6, [some (.ref 47), some (.int (ei_ (x14))), none, none], [.ref 47], m115)) rfl ?_
    refine pw_call (As := []) (st := []) (k := 47) rfl rfl rfl rfl rfl (Nat.le_of_ble_eq_true rfl) ?_
    refine mt_byte (p := p112) (t23) (by omega) (g18) (fun g25 g26 => ?_) (fun g27 => ?_)
    · refine pw_steps 2 (s' := (11, [some (.ref 47), some (.int (ei_ (x14))), some (.int (ei_ ((B p112)))), none], [.ref 47], m115)) rfl ?_
      refine pw_get rfl rfl (fun x28 (hx28 : x28 = vi_ m115 47 16) rx28 sx28 => ?_)
      replace hx28 : x28 = p112 := hx28.trans g19
      subst x28
      refine pw_ifT rfl ⟨rx28, sx28⟩ (show 0 ≤ p112 by omega) ?_
      refine pw_steps 1 (s' := (36, [some (.ref 47), some (.int (ei_ (x14))), some (.int (ei_ ((B p112)))), none], [.int (ei_ (x14))], m115)) rfl ?_
      refine pw_iret rfl rfl rfl ?_
      exact k2 _ _ x14 _ ((ps_lev (by omega) g16).trans (if_neg (by omega))) g17 g18 g19 g20
    · refine pw_steps 2 (s' := (11, [some (.ref 47), some (.int (ei_ (x14))), some (.int (ei_ (0))), none], [.ref 47], m115)) rfl ?_
      refine pw_get rfl rfl (fun x29 (hx29 : x29 = vi_ m115 47 16) rx29 sx29 => ?_)
      replace hx29 : x29 = p112 := hx29.trans g19
      subst x29
      refine pw_ifT rfl ⟨rx29, sx29⟩ (show 0 ≤ p112 by omega) ?_
      refine pw_steps 1 (s' := (36, [some (.ref 47), some (.int (ei_ (x14))), some (.int (ei_ (0))), none], [.int (ei_ (x14))], m115)) rfl ?_
      refine pw_iret rfl rfl rfl ?_
      exact k2 _ _ x14 _ ((ps_lev (by omega) g16).trans (if_neg (by omega))) g17 g18 g19 g20

set_option maxHeartbeats 4000000 in
set_option maxRecDepth 20000 in
theorem mz_b2 {q : am_X} {B : Int → Int} {n : Int} {f : Nat} (hM : ∀ {o p : Int} {d : Nat} {m : am_M} {Q : Option Value → am_M → Prop}, (0 ≤ o ∧ o ≤ 6) → (6 * (6 - o) + 6 ≤ (d : Int)) → (0 ≤ p ∧ p ≤ n) → (7 * (n - p) + 3 ≤ ((f : Nat) : Int)) → mt_ B n m → vi_ m 47 14 = p → vi_ m 47 16 = -1 → vi_ m 47 17 = o → (∀ (p1 : Int) (z1 : List Int) (x : Int) (m1 : am_M), ps_ B n (f) 3 o p = (1, p1, z1) → sm_ pMd m m1 → vi_ m1 47 14 = p1 → vi_ m1 47 16 = -1 → vi_ m1 47 17 = o → ex_ (vi_ m 56) z1 x → (-2147483648 ≤ x ∧ x < 2147483648) → Q (some (.int (ei_ x))) m1) → (∀ (p1 : Int) (z1 : List Int) (x : Int) (m1 : am_M), ps_ B n (f) 3 o p = (0, p1, z1) → sm_ pMd m m1 → vi_ m1 47 14 = p1 → vi_ m1 47 16 = p1 → (-2147483648 ≤ x ∧ x < 2147483648) → Q (some (.int (ei_ x))) m1) → pw_C q d 195 [.ref 47] m Q) (hB : ∀ {o p v : Int} {u2 : Option Value} {u3 : Option Value} {d : Nat} {m : am_M} {Q : Option Value → am_M → Prop}, (0 ≤ o ∧ o ≤ 6) → (6 * (6 - o) + 6 ≤ (d : Int)) → (0 ≤ p ∧ p ≤ n) → (7 * (n - p) + 1 ≤ ((f : Nat) : Int)) → mt_ B n m → vi_ m 47 14 = p → vi_ m 47 16 = -1 → vi_ m 47 17 = o → (-2147483648 ≤ v ∧ v < 2147483648) → (∀ (p1 : Int) (z1 : List Int) (x : Int) (m1 : am_M), ps_ B n (f) (10 + 2) o p = (1, p1, z1) → sm_ pMd m m1 → vi_ m1 47 14 = p1 → vi_ m1 47 16 = -1 → vi_ m1 47 17 = o → ey_ (vi_ m 56) z1 v x → (-2147483648 ≤ x ∧ x < 2147483648) → Q (some (.int (ei_ x))) m1) → (∀ (p1 : Int) (z1 : List Int) (x : Int) (m1 : am_M), ps_ B n (f) (10 + 2) o p = (0, p1, z1) → sm_ pMd m m1 → vi_ m1 47 14 = p1 → vi_ m1 47 16 = p1 → (-2147483648 ≤ x ∧ x < 2147483648) → Q (some (.int (ei_ x))) m1) → pw_V q d iX9_compared.2.2.2.1 tX9_compared Q (5, [some (.ref 47), some (.int (ei_ v)), u2, u3], [], m)) : ∀ {o p v : Int} {u2 : Option Value} {u3 : Option Value} {d : Nat} {m : am_M} {Q : Option Value → am_M → Prop}, (0 ≤ o ∧ o ≤ 6) → (6 * (6 - o) + 6 ≤ (d : Int)) → (0 ≤ p ∧ p ≤ n) → (7 * (n - p) + 1 ≤ ((f + 1 : Nat) : Int)) → mt_ B n m → vi_ m 47 14 = p → vi_ m 47 16 = -1 → vi_ m 47 17 = o → (-2147483648 ≤ v ∧ v < 2147483648) → (∀ (p1 : Int) (z1 : List Int) (x : Int) (m1 : am_M), ps_ B n (f + 1) (10 + 2) o p = (1, p1, z1) → sm_ pMd m m1 → vi_ m1 47 14 = p1 → vi_ m1 47 16 = -1 → vi_ m1 47 17 = o → ey_ (vi_ m 56) z1 v x → (-2147483648 ≤ x ∧ x < 2147483648) → Q (some (.int (ei_ x))) m1) → (∀ (p1 : Int) (z1 : List Int) (x : Int) (m1 : am_M), ps_ B n (f + 1) (10 + 2) o p = (0, p1, z1) → sm_ pMd m m1 → vi_ m1 47 14 = p1 → vi_ m1 47 16 = p1 → (-2147483648 ≤ x ∧ x < 2147483648) → Q (some (.int (ei_ x))) m1) → pw_V q d iX9_compared.2.2.2.1 tX9_compared Q (5, [some (.ref 47), some (.int (ei_ v)), u2, u3], [], m) := by
  intro o p v u2 u3 d m Q p0 pd p1 pf p2 p3 p4 p5 hv k1 k2
  obtain ⟨hn1, hn2, hn3, hn4, hn5, hn6⟩ := id p2
  obtain ⟨d1, rfl⟩ : ∃ d1, d = d1 + 4 := ⟨d - 4, by omega⟩
  refine pw_steps 1 (s' := (6, [some (.ref 47), some (.int (ei_ (v))), u2, u3], [.ref 47], m)) rfl ?_
  refine pw_call (As := []) (st := []) (k := 47) rfl rfl rfl rfl rfl (Nat.le_of_ble_eq_true rfl) ?_
  refine mt_byte (p := p) (p2) (by omega) (p3) (fun g1 g2 => ?_) (fun g3 => ?_)
  · refine pw_steps 2 (s' := (11, [some (.ref 47), some (.int (ei_ (v))), some (.int (ei_ ((B p)))), u3], [.ref 47], m)) rfl ?_
    refine pw_get rfl rfl (fun x4 (hx4 : x4 = vi_ m 47 16) rx4 sx4 => ?_)
    replace hx4 : x4 = (-1) := hx4.trans p4
    subst x4
    refine pw_ifF rfl (by decide) (show ¬ (0 ≤ (-1)) by decide) ?_
    refine pw_steps 2 (s' := (20, [some (.ref 47), some (.int (ei_ (v))), some (.int (ei_ ((B p)))), u3], [.int (ei_ (60)), .int (ei_ ((B p)))], m)) rfl ?_
    refine pw_cmp rfl (by omega) (by decide) (fun (h5 : (B p) = 60) => ?_) (fun (h5 : ¬ ((B p) = 60)) => ?_)
    · refine pw_steps 2 (s' := (39, [some (.ref 47), some (.int (ei_ (v))), some (.int (ei_ ((B p)))), u3], [.ref 47, .ref 47], m)) rfl ?_
      refine pw_get rfl rfl (fun x6 (hx6 : x6 = vi_ m 47 14) rx6 sx6 => ?_)
      replace hx6 : x6 = p := hx6.trans p3
      subst x6
      refine pw_steps 2 (s' := (44, [some (.ref 47), some (.int (ei_ (v))), some (.int (ei_ ((B p)))), u3], [.int ((ei_ (p)) + (ei_ (1))), .ref 47], m)) rfl ?_
      refine pw_cv (congrArg (fun z_ : Int32 => ((44, [some (.ref 47), some (.int (ei_ (v))), some (.int (ei_ ((B p)))), u3], [.int z_, .ref 47], m) : am_S)) (ei_add rfl rfl)) ?_
      refine pw_put (v := (p + 1)) rfl rfl (Or.inl rfl) ?_
      refine pw_cv (s' := (47, [some (.ref 47), some (.int (ei_ (v))), some (.int (ei_ ((B p)))), u3], [], wi_ m 47 (14) ((p + 1)))) rfl ?_
      refine pw_steps 1 (s' := (48, [some (.ref 47), some (.int (ei_ (v))), some (.int (ei_ ((B p)))), u3], [.ref 47], wi_ m 47 (14) ((p + 1)))) rfl ?_
      refine pw_call (As := []) (st := []) (k := 47) rfl rfl rfl rfl rfl (Nat.le_of_ble_eq_true rfl) ?_
      refine hM (p := (p + 1)) (o := o) (by omega) (by omega) (by omega) (by omega) (p2) ((ei_i (by omega))) (p4) (p5) (fun p17 z18 x9 m110 g11 g12 g13 g14 g15 g16 g17 => ?_) (fun p118 z119 x20 m121 g22 g23 g24 g25 g26 => ?_)
      · have t27 : mt_ B n m110 := mt_sm g12 p2
        obtain ⟨b28a, b28b, b28c, b28d⟩ := ps_e g11 (by omega)
        replace g16 := ex_cg (sm_f (P := pMd) (sm_w (sm_rfl m) (fun _ h_ => by rw [h_]; rfl)) (fun _ => rfl)) g16
        refine pw_steps 3 (s' := (55, [some (.ref 47), some (.int (ei_ (v))), some (.int (ei_ ((B p)))), some (.int (ei_ (x9)))], [.int (ei_ (60)), .int (ei_ ((B p)))], m110)) rfl ?_
        refine pw_cmpF rfl (by omega) (by decide) (show ¬ (¬ (B p) = 60) by omega) ?_
        refine pw_steps 2 (s' := (60, [some (.ref 47), some (.int (ei_ (v))), some (.int (ei_ ((B p)))), some (.int (ei_ (x9)))], [.int (ei_ (x9)), .int (ei_ (v))], m110)) rfl ?_
        refine pw_cmp rfl hv g17 (fun (h29 : x9 ≤ v) => ?_) (fun (h29 : ¬ (x9 ≤ v)) => ?_)
        · refine pw_steps 1 (s' := (90, [some (.ref 47), some (.int (ei_ (v))), some (.int (ei_ ((B p)))), some (.int (ei_ (x9)))], [.int (ei_ (0))], m110)) rfl ?_
          refine pw_iret rfl rfl rfl ?_
          exact k1 _ _ 0 _ ((ps_lp1 (L := 2) (by decide) ⟨by omega, by unfold lv_; omega⟩ g11).trans ((if_pos rfl).trans (if_pos rfl))) (sm_tr (sm_w (sm_rfl m) (fun _ h_ => by rw [h_]; rfl)) g12) g13 g14 g15 (ey_stp g16 (by unfold lv_; omega) (by unfold jn_; omega) ey_nil) (by omega)
        · refine pw_steps 3 (s' := (90, [some (.ref 47), some (.int (ei_ (v))), some (.int (ei_ ((B p)))), some (.int (ei_ (x9)))], [.int (ei_ (1))], m110)) rfl ?_
          refine pw_iret rfl rfl rfl ?_
          exact k1 _ _ 1 _ ((ps_lp1 (L := 2) (by decide) ⟨by omega, by unfold lv_; omega⟩ g11).trans ((if_pos rfl).trans (if_pos rfl))) (sm_tr (sm_w (sm_rfl m) (fun _ h_ => by rw [h_]; rfl)) g12) g13 g14 g15 (ey_stp g16 (by unfold lv_; omega) (by unfold jn_; omega) ey_nil) (by omega)
      · have t30 : mt_ B n m121 := mt_sm g23 p2
        obtain ⟨b31a, b31b, b31c, b31d⟩ := ps_e g22 (by omega)
        refine pw_steps 3 (s' := (55, [some (.ref 47), some (.int (ei_ (v))), some (.int (ei_ ((B p)))), some (.int (ei_ (x20)))], [.int (ei_ (60)), .int (ei_ ((B p)))], m121)) rfl ?_
        refine pw_cmpF rfl (by omega) (by decide) (show ¬ (¬ (B p) = 60) by omega) ?_
        refine pw_steps 2 (s' := (60, [some (.ref 47), some (.int (ei_ (v))), some (.int (ei_ ((B p)))), some (.int (ei_ (x20)))], [.int (ei_ (x20)), .int (ei_ (v))], m121)) rfl ?_
        refine pw_cmp rfl hv g26 (fun (h32 : x20 ≤ v) => ?_) (fun (h32 : ¬ (x20 ≤ v)) => ?_)
        · refine pw_steps 1 (s' := (90, [some (.ref 47), some (.int (ei_ (v))), some (.int (ei_ ((B p)))), some (.int (ei_ (x20)))], [.int (ei_ (0))], m121)) rfl ?_
          refine pw_iret rfl rfl rfl ?_
          exact k2 _ _ 0 _ ((ps_lp1 (L := 2) (by decide) ⟨by omega, by unfold lv_; omega⟩ g22).trans (if_neg (by decide))) (sm_tr (sm_w (sm_rfl m) (fun _ h_ => by rw [h_]; rfl)) g23) g24 g25 (by decide)
        · refine pw_steps 3 (s' := (90, [some (.ref 47), some (.int (ei_ (v))), some (.int (ei_ ((B p)))), some (.int (ei_ (x20)))], [.int (ei_ (1))], m121)) rfl ?_
          refine pw_iret rfl rfl rfl ?_
          exact k2 _ _ 1 _ ((ps_lp1 (L := 2) (by decide) ⟨by omega, by unfold lv_; omega⟩ g22).trans (if_neg (by decide))) (sm_tr (sm_w (sm_rfl m) (fun _ h_ => by rw [h_]; rfl)) g23) g24 g25 (by decide)
    · refine pw_steps 2 (s' := (26, [some (.ref 47), some (.int (ei_ (v))), some (.int (ei_ ((B p)))), u3], [.int (ei_ (61)), .int (ei_ ((B p)))], m)) rfl ?_
      refine pw_cmp rfl (by omega) (by decide) (fun (h33 : (B p) = 61) => ?_) (fun (h33 : ¬ ((B p) = 61)) => ?_)
      · refine pw_steps 2 (s' := (39, [some (.ref 47), some (.int (ei_ (v))), some (.int (ei_ ((B p)))), u3], [.ref 47, .ref 47], m)) rfl ?_
        refine pw_get rfl rfl (fun x34 (hx34 : x34 = vi_ m 47 14) rx34 sx34 => ?_)
        replace hx34 : x34 = p := hx34.trans p3
        subst x34
        refine pw_steps 2 (s' := (44, [some (.ref 47), some (.int (ei_ (v))), some (.int (ei_ ((B p)))), u3], [.int ((ei_ (p)) + (ei_ (1))), .ref 47], m)) rfl ?_
        refine pw_cv (congrArg (fun z_ : Int32 => ((44, [some (.ref 47), some (.int (ei_ (v))), some (.int (ei_ ((B p)))), u3], [.int z_, .ref 47], m) : am_S)) (ei_add rfl rfl)) ?_
        refine pw_put (v := (p + 1)) rfl rfl (Or.inl rfl) ?_
        refine pw_cv (s' := (47, [some (.ref 47), some (.int (ei_ (v))), some (.int (ei_ ((B p)))), u3], [], wi_ m 47 (14) ((p + 1)))) rfl ?_
        refine pw_steps 1 (s' := (48, [some (.ref 47), some (.int (ei_ (v))), some (.int (ei_ ((B p)))), u3], [.ref 47], wi_ m 47 (14) ((p + 1)))) rfl ?_
        refine pw_call (As := []) (st := []) (k := 47) rfl rfl rfl rfl rfl (Nat.le_of_ble_eq_true rfl) ?_
        refine hM (p := (p + 1)) (o := o) (by omega) (by omega) (by omega) (by omega) (p2) ((ei_i (by omega))) (p4) (p5) (fun p135 z136 x37 m138 g39 g40 g41 g42 g43 g44 g45 => ?_) (fun p146 z147 x48 m149 g50 g51 g52 g53 g54 => ?_)
        · have t55 : mt_ B n m138 := mt_sm g40 p2
          obtain ⟨b56a, b56b, b56c, b56d⟩ := ps_e g39 (by omega)
          replace g44 := ex_cg (sm_f (P := pMd) (sm_w (sm_rfl m) (fun _ h_ => by rw [h_]; rfl)) (fun _ => rfl)) g44
          refine pw_steps 3 (s' := (55, [some (.ref 47), some (.int (ei_ (v))), some (.int (ei_ ((B p)))), some (.int (ei_ (x37)))], [.int (ei_ (60)), .int (ei_ ((B p)))], m138)) rfl ?_
          refine pw_cmpT rfl (by omega) (by decide) (show ¬ (B p) = 60 by omega) ?_
          refine pw_steps 2 (s' := (69, [some (.ref 47), some (.int (ei_ (v))), some (.int (ei_ ((B p)))), some (.int (ei_ (x37)))], [.int (ei_ (61)), .int (ei_ ((B p)))], m138)) rfl ?_
          refine pw_cmpF rfl (by omega) (by decide) (show ¬ (¬ (B p) = 61) by omega) ?_
          refine pw_steps 2 (s' := (74, [some (.ref 47), some (.int (ei_ (v))), some (.int (ei_ ((B p)))), some (.int (ei_ (x37)))], [.int (ei_ (x37)), .int (ei_ (v))], m138)) rfl ?_
          refine pw_cmp rfl hv g45 (fun (h57 : ¬ v = x37) => ?_) (fun (h57 : ¬ ¬ v = x37) => ?_)
          · refine pw_steps 1 (s' := (90, [some (.ref 47), some (.int (ei_ (v))), some (.int (ei_ ((B p)))), some (.int (ei_ (x37)))], [.int (ei_ (0))], m138)) rfl ?_
            refine pw_iret rfl rfl rfl ?_
            exact k1 _ _ 0 _ ((ps_lp1 (L := 2) (by decide) ⟨by omega, by unfold lv_; omega⟩ g39).trans ((if_pos rfl).trans (if_pos rfl))) (sm_tr (sm_w (sm_rfl m) (fun _ h_ => by rw [h_]; rfl)) g40) g41 g42 g43 (ey_stp g44 (by unfold lv_; omega) (by unfold jn_; omega) ey_nil) (by omega)
          · refine pw_steps 3 (s' := (90, [some (.ref 47), some (.int (ei_ (v))), some (.int (ei_ ((B p)))), some (.int (ei_ (x37)))], [.int (ei_ (1))], m138)) rfl ?_
            refine pw_iret rfl rfl rfl ?_
            exact k1 _ _ 1 _ ((ps_lp1 (L := 2) (by decide) ⟨by omega, by unfold lv_; omega⟩ g39).trans ((if_pos rfl).trans (if_pos rfl))) (sm_tr (sm_w (sm_rfl m) (fun _ h_ => by rw [h_]; rfl)) g40) g41 g42 g43 (ey_stp g44 (by unfold lv_; omega) (by unfold jn_; omega) ey_nil) (by omega)
        · have t58 : mt_ B n m149 := mt_sm g51 p2
          obtain ⟨b59a, b59b, b59c, b59d⟩ := ps_e g50 (by omega)
          refine pw_steps 3 (s' := (55, [some (.ref 47), some (.int (ei_ (v))), some (.int (ei_ ((B p)))), some (.int (ei_ (x48)))], [.int (ei_ (60)), .int (ei_ ((B p)))], m149)) rfl ?_
          refine pw_cmpT rfl (by omega) (by decide) (show ¬ (B p) = 60 by omega) ?_
          refine pw_steps 2 (s' := (69, [some (.ref 47), some (.int (ei_ (v))), some (.int (ei_ ((B p)))), some (.int (ei_ (x48)))], [.int (ei_ (61)), .int (ei_ ((B p)))], m149)) rfl ?_
          refine pw_cmpF rfl (by omega) (by decide) (show ¬ (¬ (B p) = 61) by omega) ?_
          refine pw_steps 2 (s' := (74, [some (.ref 47), some (.int (ei_ (v))), some (.int (ei_ ((B p)))), some (.int (ei_ (x48)))], [.int (ei_ (x48)), .int (ei_ (v))], m149)) rfl ?_
          refine pw_cmp rfl hv g54 (fun (h60 : ¬ v = x48) => ?_) (fun (h60 : ¬ ¬ v = x48) => ?_)
          · refine pw_steps 1 (s' := (90, [some (.ref 47), some (.int (ei_ (v))), some (.int (ei_ ((B p)))), some (.int (ei_ (x48)))], [.int (ei_ (0))], m149)) rfl ?_
            refine pw_iret rfl rfl rfl ?_
            exact k2 _ _ 0 _ ((ps_lp1 (L := 2) (by decide) ⟨by omega, by unfold lv_; omega⟩ g50).trans (if_neg (by decide))) (sm_tr (sm_w (sm_rfl m) (fun _ h_ => by rw [h_]; rfl)) g51) g52 g53 (by decide)
          · refine pw_steps 3 (s' := (90, [some (.ref 47), some (.int (ei_ (v))), some (.int (ei_ ((B p)))), some (.int (ei_ (x48)))], [.int (ei_ (1))], m149)) rfl ?_
            refine pw_iret rfl rfl rfl ?_
            exact k2 _ _ 1 _ ((ps_lp1 (L := 2) (by decide) ⟨by omega, by unfold lv_; omega⟩ g50).trans (if_neg (by decide))) (sm_tr (sm_w (sm_rfl m) (fun _ h_ => by rw [h_]; rfl)) g51) g52 g53 (by decide)
      · refine pw_steps 2 (s' := (32, [some (.ref 47), some (.int (ei_ (v))), some (.int (ei_ ((B p)))), u3], [.int (ei_ (62)), .int (ei_ ((B p)))], m)) rfl ?_
        refine pw_cmp rfl (by omega) (by decide) (fun (h61 : (B p) = 62) => ?_) (fun (h61 : ¬ ((B p) = 62)) => ?_)
        · refine pw_steps 2 (s' := (39, [some (.ref 47), some (.int (ei_ (v))), some (.int (ei_ ((B p)))), u3], [.ref 47, .ref 47], m)) rfl ?_
          refine pw_get rfl rfl (fun x62 (hx62 : x62 = vi_ m 47 14) rx62 sx62 => ?_)
          replace hx62 : x62 = p := hx62.trans p3
          subst x62
          refine pw_steps 2 (s' := (44, [some (.ref 47), some (.int (ei_ (v))), some (.int (ei_ ((B p)))), u3], [.int ((ei_ (p)) + (ei_ (1))), .ref 47], m)) rfl ?_
          refine pw_cv (congrArg (fun z_ : Int32 => ((44, [some (.ref 47), some (.int (ei_ (v))), some (.int (ei_ ((B p)))), u3], [.int z_, .ref 47], m) : am_S)) (ei_add rfl rfl)) ?_
          refine pw_put (v := (p + 1)) rfl rfl (Or.inl rfl) ?_
          refine pw_cv (s' := (47, [some (.ref 47), some (.int (ei_ (v))), some (.int (ei_ ((B p)))), u3], [], wi_ m 47 (14) ((p + 1)))) rfl ?_
          refine pw_steps 1 (s' := (48, [some (.ref 47), some (.int (ei_ (v))), some (.int (ei_ ((B p)))), u3], [.ref 47], wi_ m 47 (14) ((p + 1)))) rfl ?_
          refine pw_call (As := []) (st := []) (k := 47) rfl rfl rfl rfl rfl (Nat.le_of_ble_eq_true rfl) ?_
          refine hM (p := (p + 1)) (o := o) (by omega) (by omega) (by omega) (by omega) (p2) ((ei_i (by omega))) (p4) (p5) (fun p163 z164 x65 m166 g67 g68 g69 g70 g71 g72 g73 => ?_) (fun p174 z175 x76 m177 g78 g79 g80 g81 g82 => ?_)
          · have t83 : mt_ B n m166 := mt_sm g68 p2
            obtain ⟨b84a, b84b, b84c, b84d⟩ := ps_e g67 (by omega)
            replace g72 := ex_cg (sm_f (P := pMd) (sm_w (sm_rfl m) (fun _ h_ => by rw [h_]; rfl)) (fun _ => rfl)) g72
            refine pw_steps 3 (s' := (55, [some (.ref 47), some (.int (ei_ (v))), some (.int (ei_ ((B p)))), some (.int (ei_ (x65)))], [.int (ei_ (60)), .int (ei_ ((B p)))], m166)) rfl ?_
            refine pw_cmpT rfl (by omega) (by decide) (show ¬ (B p) = 60 by omega) ?_
            refine pw_steps 2 (s' := (69, [some (.ref 47), some (.int (ei_ (v))), some (.int (ei_ ((B p)))), some (.int (ei_ (x65)))], [.int (ei_ (61)), .int (ei_ ((B p)))], m166)) rfl ?_
            refine pw_cmpT rfl (by omega) (by decide) (show ¬ (B p) = 61 by omega) ?_
            refine pw_steps 2 (s' := (82, [some (.ref 47), some (.int (ei_ (v))), some (.int (ei_ ((B p)))), some (.int (ei_ (x65)))], [.int (ei_ (x65)), .int (ei_ (v))], m166)) rfl ?_
            refine pw_cmp rfl hv g73 (fun (h85 : v ≤ x65) => ?_) (fun (h85 : ¬ (v ≤ x65)) => ?_)
            · refine pw_steps 1 (s' := (90, [some (.ref 47), some (.int (ei_ (v))), some (.int (ei_ ((B p)))), some (.int (ei_ (x65)))], [.int (ei_ (0))], m166)) rfl ?_
              refine pw_iret rfl rfl rfl ?_
              exact k1 _ _ 0 _ ((ps_lp1 (L := 2) (by decide) ⟨by omega, by unfold lv_; omega⟩ g67).trans ((if_pos rfl).trans (if_pos rfl))) (sm_tr (sm_w (sm_rfl m) (fun _ h_ => by rw [h_]; rfl)) g68) g69 g70 g71 (ey_stp g72 (by unfold lv_; omega) (by unfold jn_; omega) ey_nil) (by omega)
            · refine pw_steps 2 (s' := (90, [some (.ref 47), some (.int (ei_ (v))), some (.int (ei_ ((B p)))), some (.int (ei_ (x65)))], [.int (ei_ (1))], m166)) rfl ?_
              refine pw_iret rfl rfl rfl ?_
              exact k1 _ _ 1 _ ((ps_lp1 (L := 2) (by decide) ⟨by omega, by unfold lv_; omega⟩ g67).trans ((if_pos rfl).trans (if_pos rfl))) (sm_tr (sm_w (sm_rfl m) (fun _ h_ => by rw [h_]; rfl)) g68) g69 g70 g71 (ey_stp g72 (by unfold lv_; omega) (by unfold jn_; omega) ey_nil) (by omega)
          · have t86 : mt_ B n m177 := mt_sm g79 p2
            obtain ⟨b87a, b87b, b87c, b87d⟩ := ps_e g78 (by omega)
            refine pw_steps 3 (s' := (55, [some (.ref 47), some (.int (ei_ (v))), some (.int (ei_ ((B p)))), some (.int (ei_ (x76)))], [.int (ei_ (60)), .int (ei_ ((B p)))], m177)) rfl ?_
            refine pw_cmpT rfl (by omega) (by decide) (show ¬ (B p) = 60 by omega) ?_
            refine pw_steps 2 (s' := (69, [some (.ref 47), some (.int (ei_ (v))), some (.int (ei_ ((B p)))), some (.int (ei_ (x76)))], [.int (ei_ (61)), .int (ei_ ((B p)))], m177)) rfl ?_
            refine pw_cmpT rfl (by omega) (by decide) (show ¬ (B p) = 61 by omega) ?_
            refine pw_steps 2 (s' := (82, [some (.ref 47), some (.int (ei_ (v))), some (.int (ei_ ((B p)))), some (.int (ei_ (x76)))], [.int (ei_ (x76)), .int (ei_ (v))], m177)) rfl ?_
            refine pw_cmp rfl hv g82 (fun (h88 : v ≤ x76) => ?_) (fun (h88 : ¬ (v ≤ x76)) => ?_)
            · refine pw_steps 1 (s' := (90, [some (.ref 47), some (.int (ei_ (v))), some (.int (ei_ ((B p)))), some (.int (ei_ (x76)))], [.int (ei_ (0))], m177)) rfl ?_
              refine pw_iret rfl rfl rfl ?_
              exact k2 _ _ 0 _ ((ps_lp1 (L := 2) (by decide) ⟨by omega, by unfold lv_; omega⟩ g78).trans (if_neg (by decide))) (sm_tr (sm_w (sm_rfl m) (fun _ h_ => by rw [h_]; rfl)) g79) g80 g81 (by decide)
            · refine pw_steps 2 (s' := (90, [some (.ref 47), some (.int (ei_ (v))), some (.int (ei_ ((B p)))), some (.int (ei_ (x76)))], [.int (ei_ (1))], m177)) rfl ?_
              refine pw_iret rfl rfl rfl ?_
              exact k2 _ _ 1 _ ((ps_lp1 (L := 2) (by decide) ⟨by omega, by unfold lv_; omega⟩ g78).trans (if_neg (by decide))) (sm_tr (sm_w (sm_rfl m) (fun _ h_ => by rw [h_]; rfl)) g79) g80 g81 (by decide)
        · refine pw_steps 1 (s' := (36, [some (.ref 47), some (.int (ei_ (v))), some (.int (ei_ ((B p)))), u3], [.int (ei_ (v))], m)) rfl ?_
          refine pw_iret rfl rfl rfl ?_
          exact k1 p [] v _ (ps_lp0 (L := 2) (by decide) (by unfold lv_; omega)) (sm_rfl _) p3 p4 p5 ey_nil hv
  · refine pw_steps 2 (s' := (11, [some (.ref 47), some (.int (ei_ (v))), some (.int (ei_ (0))), u3], [.ref 47], m)) rfl ?_
    refine pw_get rfl rfl (fun x89 (hx89 : x89 = vi_ m 47 16) rx89 sx89 => ?_)
    replace hx89 : x89 = (-1) := hx89.trans p4
    subst x89
    refine pw_ifF rfl (by decide) (show ¬ (0 ≤ (-1)) by decide) ?_
    refine pw_steps 2 (s' := (20, [some (.ref 47), some (.int (ei_ (v))), some (.int (ei_ (0))), u3], [.int (ei_ (60)), .int (ei_ (0))], m)) rfl ?_
    refine pw_cmpF rfl (by decide) (by decide) (show ¬ (0 = 60) by decide) ?_
    refine pw_steps 2 (s' := (26, [some (.ref 47), some (.int (ei_ (v))), some (.int (ei_ (0))), u3], [.int (ei_ (61)), .int (ei_ (0))], m)) rfl ?_
    refine pw_cmpF rfl (by decide) (by decide) (show ¬ (0 = 61) by decide) ?_
    refine pw_steps 2 (s' := (32, [some (.ref 47), some (.int (ei_ (v))), some (.int (ei_ (0))), u3], [.int (ei_ (62)), .int (ei_ (0))], m)) rfl ?_
    refine pw_cmpF rfl (by decide) (by decide) (show ¬ (0 = 62) by decide) ?_
    refine pw_steps 1 (s' := (36, [some (.ref 47), some (.int (ei_ (v))), some (.int (ei_ (0))), u3], [.int (ei_ (v))], m)) rfl ?_
    refine pw_iret rfl rfl rfl ?_
    exact k1 p [] v _ (ps_lp0 (L := 2) (by decide) (by unfold lv_; omega)) (sm_rfl _) p3 p4 p5 ey_nil hv

set_option maxHeartbeats 4000000 in
set_option maxRecDepth 20000 in
theorem mz_l3 {q : am_X} {B : Int → Int} {n : Int} {f : Nat} (hM : ∀ {o p : Int} {d : Nat} {m : am_M} {Q : Option Value → am_M → Prop}, (0 ≤ o ∧ o ≤ 6) → (6 * (6 - o) + 5 ≤ (d : Int)) → (0 ≤ p ∧ p ≤ n) → (7 * (n - p) + 2 ≤ ((f : Nat) : Int)) → mt_ B n m → vi_ m 47 14 = p → vi_ m 47 16 = -1 → vi_ m 47 17 = o → (∀ (p1 : Int) (z1 : List Int) (x : Int) (m1 : am_M), ps_ B n (f) 4 o p = (1, p1, z1) → sm_ pMd m m1 → vi_ m1 47 14 = p1 → vi_ m1 47 16 = -1 → vi_ m1 47 17 = o → ex_ (vi_ m 56) z1 x → (-2147483648 ≤ x ∧ x < 2147483648) → Q (some (.int (ei_ x))) m1) → (∀ (p1 : Int) (z1 : List Int) (x : Int) (m1 : am_M), ps_ B n (f) 4 o p = (0, p1, z1) → sm_ pMd m m1 → vi_ m1 47 14 = p1 → vi_ m1 47 16 = p1 → (-2147483648 ≤ x ∧ x < 2147483648) → Q (some (.int (ei_ x))) m1) → pw_C q d 196 [.ref 47] m Q) (hB : ∀ {o p v : Int} {u2 : Option Value} {u3 : Option Value} {d : Nat} {m : am_M} {Q : Option Value → am_M → Prop}, (0 ≤ o ∧ o ≤ 6) → (6 * (6 - o) + 5 ≤ (d : Int)) → (0 ≤ p ∧ p ≤ n) → (7 * (n - p) + 1 ≤ ((f : Nat) : Int)) → mt_ B n m → vi_ m 47 14 = p → vi_ m 47 16 = -1 → vi_ m 47 17 = o → (-2147483648 ≤ v ∧ v < 2147483648) → (∀ (p1 : Int) (z1 : List Int) (x : Int) (m1 : am_M), ps_ B n (f) (10 + 3) o p = (1, p1, z1) → sm_ pMd m m1 → vi_ m1 47 14 = p1 → vi_ m1 47 16 = -1 → vi_ m1 47 17 = o → ey_ (vi_ m 56) z1 v x → (-2147483648 ≤ x ∧ x < 2147483648) → Q (some (.int (ei_ x))) m1) → (∀ (p1 : Int) (z1 : List Int) (x : Int) (m1 : am_M), ps_ B n (f) (10 + 3) o p = (0, p1, z1) → sm_ pMd m m1 → vi_ m1 47 14 = p1 → vi_ m1 47 16 = p1 → (-2147483648 ≤ x ∧ x < 2147483648) → Q (some (.int (ei_ x))) m1) → pw_V q d iX9_sums.2.2.2.1 tX9_sums Q (5, [some (.ref 47), some (.int (ei_ v)), u2, u3], [], m)) : ∀ {o p : Int} {d : Nat} {m : am_M} {Q : Option Value → am_M → Prop}, (0 ≤ o ∧ o ≤ 6) → (6 * (6 - o) + 6 ≤ (d : Int)) → (0 ≤ p ∧ p ≤ n) → (7 * (n - p) + 3 ≤ ((f + 1 : Nat) : Int)) → mt_ B n m → vi_ m 47 14 = p → vi_ m 47 16 = -1 → vi_ m 47 17 = o → (∀ (p1 : Int) (z1 : List Int) (x : Int) (m1 : am_M), ps_ B n (f + 1) 3 o p = (1, p1, z1) → sm_ pMd m m1 → vi_ m1 47 14 = p1 → vi_ m1 47 16 = -1 → vi_ m1 47 17 = o → ex_ (vi_ m 56) z1 x → (-2147483648 ≤ x ∧ x < 2147483648) → Q (some (.int (ei_ x))) m1) → (∀ (p1 : Int) (z1 : List Int) (x : Int) (m1 : am_M), ps_ B n (f + 1) 3 o p = (0, p1, z1) → sm_ pMd m m1 → vi_ m1 47 14 = p1 → vi_ m1 47 16 = p1 → (-2147483648 ≤ x ∧ x < 2147483648) → Q (some (.int (ei_ x))) m1) → pw_C q d 195 [.ref 47] m Q := by
  intro o p d m Q p0 pd p1 pf p2 p3 p4 p5 k1 k2
  obtain ⟨hn1, hn2, hn3, hn4, hn5, hn6⟩ := id p2
  obtain ⟨d1, rfl⟩ : ∃ d1, d = d1 + 4 := ⟨d - 4, by omega⟩
  refine pw_intro (I := iX9_sums) (T := tX9_sums) rfl rfl rfl ?_
  refine pw_steps 1 (s' := (1, [some (.ref 47), none, none, none], [.ref 47], m)) rfl ?_
  refine pw_call (As := []) (st := []) (k := 47) rfl rfl rfl rfl rfl (Nat.le_of_ble_eq_true rfl) ?_
  refine hM (p := p) (o := o) (by omega) (by omega) (by omega) (by omega) (p2) (p3) (p4) (p5) (fun p11 z12 x3 m14 g5 g6 g7 g8 g9 g10 g11 => ?_) (fun p112 z113 x14 m115 g16 g17 g18 g19 g20 => ?_)
  · have t21 : mt_ B n m14 := mt_sm g6 p2
    obtain ⟨b22a, b22b, b22c, b22d⟩ := ps_e g5 (by omega)
    replace g10 := ex_cg (sm_f (P := pMd) (sm_rfl m) (fun _ => rfl)) g10
    refine pw_steps 1 (s' := (5, [some (.ref 47), some (.int (ei_ (x3))), none, none], [], m14)) rfl ?_
    refine hB (v := x3) (by omega) (by omega) (by omega) (by omega) t21 g7 g8 g9 g11 (fun p2 z2 x2 m2 e2 s2 a2 f2 o2 y2 r2 => ?_) (fun p2 z2 x2 m2 e2 s2 a2 f2 r2 => ?_)
    · exact k1 p2 (z12 ++ z2) x2 m2 (by rw [(ps_lev (by omega) g5).trans (if_pos rfl), e2]) (sm_tr g6 s2) a2 f2 o2 (ex_lev g10 (ey_cg (sm_f (P := pMd) g6 (fun _ => rfl)) y2)) r2
    · exact k2 p2 (z12 ++ z2) x2 m2 (by rw [(ps_lev (by omega) g5).trans (if_pos rfl), e2]) (sm_tr g6 s2) a2 f2 r2
  · have t23 : mt_ B n m115 := mt_sm g17 p2
    obtain ⟨b24a, b24b, b24c, b24d⟩ := ps_e g16 (by omega)
    refine pw_steps 1 (s' := (5, [some (.ref 47), some (.int (ei_ (x14))), none, none], [], m115)) rfl ?_
    refine pw_steps 1 (s' := (6, [some (.ref 47), some (.int (ei_ (x14))), none, none], [.ref 47], m115)) rfl ?_
    refine pw_get rfl rfl (fun x25 (hx25 : x25 = vi_ m115 47 16) rx25 sx25 => ?_)
    replace hx25 : x25 = p112 := hx25.trans g19
    subst x25
    refine pw_ifT rfl ⟨rx25, sx25⟩ (show 0 ≤ p112 by omega) ?_
    refine pw_steps 1 (s' := (78, [some (.ref 47), some (.int (ei_ (x14))), none, none], [.int (ei_ (x14))], m115)) rfl ?_
    refine pw_iret rfl rfl rfl ?_
    exact k2 _ _ x14 _ ((ps_lev (by omega) g16).trans (if_neg (by omega))) g17 g18 g19 g20

set_option maxHeartbeats 4000000 in
set_option maxRecDepth 20000 in
theorem mz_b3 {q : am_X} {B : Int → Int} {n : Int} {f : Nat} (hM : ∀ {o p : Int} {d : Nat} {m : am_M} {Q : Option Value → am_M → Prop}, (0 ≤ o ∧ o ≤ 6) → (6 * (6 - o) + 5 ≤ (d : Int)) → (0 ≤ p ∧ p ≤ n) → (7 * (n - p) + 2 ≤ ((f : Nat) : Int)) → mt_ B n m → vi_ m 47 14 = p → vi_ m 47 16 = -1 → vi_ m 47 17 = o → (∀ (p1 : Int) (z1 : List Int) (x : Int) (m1 : am_M), ps_ B n (f) 4 o p = (1, p1, z1) → sm_ pMd m m1 → vi_ m1 47 14 = p1 → vi_ m1 47 16 = -1 → vi_ m1 47 17 = o → ex_ (vi_ m 56) z1 x → (-2147483648 ≤ x ∧ x < 2147483648) → Q (some (.int (ei_ x))) m1) → (∀ (p1 : Int) (z1 : List Int) (x : Int) (m1 : am_M), ps_ B n (f) 4 o p = (0, p1, z1) → sm_ pMd m m1 → vi_ m1 47 14 = p1 → vi_ m1 47 16 = p1 → (-2147483648 ≤ x ∧ x < 2147483648) → Q (some (.int (ei_ x))) m1) → pw_C q d 196 [.ref 47] m Q) (hB : ∀ {o p v : Int} {u2 : Option Value} {u3 : Option Value} {d : Nat} {m : am_M} {Q : Option Value → am_M → Prop}, (0 ≤ o ∧ o ≤ 6) → (6 * (6 - o) + 5 ≤ (d : Int)) → (0 ≤ p ∧ p ≤ n) → (7 * (n - p) + 1 ≤ ((f : Nat) : Int)) → mt_ B n m → vi_ m 47 14 = p → vi_ m 47 16 = -1 → vi_ m 47 17 = o → (-2147483648 ≤ v ∧ v < 2147483648) → (∀ (p1 : Int) (z1 : List Int) (x : Int) (m1 : am_M), ps_ B n (f) (10 + 3) o p = (1, p1, z1) → sm_ pMd m m1 → vi_ m1 47 14 = p1 → vi_ m1 47 16 = -1 → vi_ m1 47 17 = o → ey_ (vi_ m 56) z1 v x → (-2147483648 ≤ x ∧ x < 2147483648) → Q (some (.int (ei_ x))) m1) → (∀ (p1 : Int) (z1 : List Int) (x : Int) (m1 : am_M), ps_ B n (f) (10 + 3) o p = (0, p1, z1) → sm_ pMd m m1 → vi_ m1 47 14 = p1 → vi_ m1 47 16 = p1 → (-2147483648 ≤ x ∧ x < 2147483648) → Q (some (.int (ei_ x))) m1) → pw_V q d iX9_sums.2.2.2.1 tX9_sums Q (5, [some (.ref 47), some (.int (ei_ v)), u2, u3], [], m)) : ∀ {o p v : Int} {u2 : Option Value} {u3 : Option Value} {d : Nat} {m : am_M} {Q : Option Value → am_M → Prop}, (0 ≤ o ∧ o ≤ 6) → (6 * (6 - o) + 5 ≤ (d : Int)) → (0 ≤ p ∧ p ≤ n) → (7 * (n - p) + 1 ≤ ((f + 1 : Nat) : Int)) → mt_ B n m → vi_ m 47 14 = p → vi_ m 47 16 = -1 → vi_ m 47 17 = o → (-2147483648 ≤ v ∧ v < 2147483648) → (∀ (p1 : Int) (z1 : List Int) (x : Int) (m1 : am_M), ps_ B n (f + 1) (10 + 3) o p = (1, p1, z1) → sm_ pMd m m1 → vi_ m1 47 14 = p1 → vi_ m1 47 16 = -1 → vi_ m1 47 17 = o → ey_ (vi_ m 56) z1 v x → (-2147483648 ≤ x ∧ x < 2147483648) → Q (some (.int (ei_ x))) m1) → (∀ (p1 : Int) (z1 : List Int) (x : Int) (m1 : am_M), ps_ B n (f + 1) (10 + 3) o p = (0, p1, z1) → sm_ pMd m m1 → vi_ m1 47 14 = p1 → vi_ m1 47 16 = p1 → (-2147483648 ≤ x ∧ x < 2147483648) → Q (some (.int (ei_ x))) m1) → pw_V q d iX9_sums.2.2.2.1 tX9_sums Q (5, [some (.ref 47), some (.int (ei_ v)), u2, u3], [], m) := by
  intro o p v u2 u3 d m Q p0 pd p1 pf p2 p3 p4 p5 hv k1 k2
  obtain ⟨hn1, hn2, hn3, hn4, hn5, hn6⟩ := id p2
  obtain ⟨d1, rfl⟩ : ∃ d1, d = d1 + 4 := ⟨d - 4, by omega⟩
  refine pw_steps 1 (s' := (6, [some (.ref 47), some (.int (ei_ (v))), u2, u3], [.ref 47], m)) rfl ?_
  refine pw_get rfl rfl (fun x1 (hx1 : x1 = vi_ m 47 16) rx1 sx1 => ?_)
  replace hx1 : x1 = (-1) := hx1.trans p4
  subst x1
  refine pw_ifF rfl (by decide) (show ¬ (0 ≤ (-1)) by decide) ?_
  refine pw_steps 1 (s' := (13, [some (.ref 47), some (.int (ei_ (v))), u2, u3], [.ref 47], m)) rfl ?_
  refine pw_call (As := []) (st := []) (k := 47) rfl rfl rfl rfl rfl (Nat.le_of_ble_eq_true rfl) ?_
  refine mt_byte (p := p) (p2) (by omega) (p3) (fun g2 g3 => ?_) (fun g4 => ?_)
  · refine pw_steps 1 (s' := (18, [some (.ref 47), some (.int (ei_ (v))), u2, u3], [.int (ei_ (43)), .int (ei_ ((B p)))], m)) rfl ?_
    refine pw_cmp rfl (by omega) (by decide) (fun (h5 : (B p) = 43) => ?_) (fun (h5 : ¬ ((B p) = 43)) => ?_)
    · refine pw_steps 1 (s' := (31, [some (.ref 47), some (.int (ei_ (v))), u2, u3], [.ref 47], m)) rfl ?_
      refine pw_call (As := []) (st := []) (k := 47) rfl rfl rfl rfl rfl (Nat.le_of_ble_eq_true rfl) ?_
      refine mt_byte (p := p) (p2) (by omega) (p3) (fun g6 g7 => ?_) (fun g8 => ?_)
      · refine pw_steps 1 (s' := (36, [some (.ref 47), some (.int (ei_ (v))), u2, u3], [.int (ei_ (43)), .int (ei_ ((B p)))], m)) rfl ?_
        refine pw_cmpF rfl (by omega) (by decide) (show ¬ (¬ (B p) = 43) by omega) ?_
        refine pw_steps 5 (s' := (47, [some (.ref 47), some (.int (ei_ (v))), some (.int (ei_ (1))), u3], [.ref 47, .ref 47], m)) rfl ?_
        refine pw_get rfl rfl (fun x9 (hx9 : x9 = vi_ m 47 14) rx9 sx9 => ?_)
        replace hx9 : x9 = p := hx9.trans p3
        subst x9
        refine pw_steps 2 (s' := (52, [some (.ref 47), some (.int (ei_ (v))), some (.int (ei_ (1))), u3], [.int ((ei_ (p)) + (ei_ (1))), .ref 47], m)) rfl ?_
        refine pw_cv (congrArg (fun z_ : Int32 => ((52, [some (.ref 47), some (.int (ei_ (v))), some (.int (ei_ (1))), u3], [.int z_, .ref 47], m) : am_S)) (ei_add rfl rfl)) ?_
        refine pw_put (v := (p + 1)) rfl rfl (Or.inl rfl) ?_
        refine pw_cv (s' := (55, [some (.ref 47), some (.int (ei_ (v))), some (.int (ei_ (1))), u3], [], wi_ m 47 (14) ((p + 1)))) rfl ?_
        refine pw_steps 1 (s' := (56, [some (.ref 47), some (.int (ei_ (v))), some (.int (ei_ (1))), u3], [.ref 47], wi_ m 47 (14) ((p + 1)))) rfl ?_
        refine pw_call (As := []) (st := []) (k := 47) rfl rfl rfl rfl rfl (Nat.le_of_ble_eq_true rfl) ?_
        refine hM (p := (p + 1)) (o := o) (by omega) (by omega) (by omega) (by omega) (p2) ((ei_i (by omega))) (p4) (p5) (fun p110 z111 x12 m113 g14 g15 g16 g17 g18 g19 g20 => ?_) (fun p121 z122 x23 m124 g25 g26 g27 g28 g29 => ?_)
        · have t30 : mt_ B n m113 := mt_sm g15 p2
          obtain ⟨b31a, b31b, b31c, b31d⟩ := ps_e g14 (by omega)
          replace g19 := ex_cg (sm_f (P := pMd) (sm_w (sm_rfl m) (fun _ h_ => by rw [h_]; rfl)) (fun _ => rfl)) g19
          refine pw_steps 2 (s' := (61, [some (.ref 47), some (.int (ei_ (v))), some (.int (ei_ (1))), some (.int (ei_ (x12)))], [.int (ei_ (1))], m113)) rfl ?_
          refine pw_ifF rfl (by decide) (show ¬ (1 = 0) by decide) ?_
          refine pw_steps 6 (s' := (5, [some (.ref 47), some (.int ((ei_ (v)) + (ei_ (x12)))), some (.int (ei_ (1))), some (.int (ei_ (x12)))], [], m113)) rfl ?_
          refine pw_cv (congrArg (fun z_ : Int32 => ((5, [some (.ref 47), some (.int z_), some (.int (ei_ (1))), some (.int (ei_ (x12)))], [], m113) : am_S)) (ei_add rfl rfl)) ?_
          rw [← ei_wr (v + x12)]
          refine hB (v := (wr_ (v + x12))) (by omega) (by omega) (by omega) (by omega) t30 g16 g17 g18 (wr_r _) (fun p2 z2 x2 m2 e2 s2 a2 f2 o2 y2 r2 => ?_) (fun p2 z2 x2 m2 e2 s2 a2 f2 r2 => ?_)
          · exact k1 p2 ((z111 ++ [B p]) ++ z2) x2 m2 (by rw [(ps_lp1 (L := 3) (by decide) ⟨by omega, by unfold lv_; omega⟩ g14).trans (if_pos rfl), if_neg (by decide), e2]) (sm_tr (sm_tr (sm_w (sm_rfl m) (fun _ h_ => by rw [h_]; rfl)) g15) s2) a2 f2 o2 (ey_stp g19 (by unfold lv_; omega) (by unfold jn_; omega) (ey_cg (sm_f (P := pMd) (sm_tr (sm_w (sm_rfl m) (fun _ h_ => by rw [h_]; rfl)) g15) (fun _ => rfl)) y2)) r2
          · exact k2 p2 ((z111 ++ [B p]) ++ z2) x2 m2 (by rw [(ps_lp1 (L := 3) (by decide) ⟨by omega, by unfold lv_; omega⟩ g14).trans (if_pos rfl), if_neg (by decide), e2]) (sm_tr (sm_tr (sm_w (sm_rfl m) (fun _ h_ => by rw [h_]; rfl)) g15) s2) a2 f2 r2
        · have t32 : mt_ B n m124 := mt_sm g26 p2
          obtain ⟨b33a, b33b, b33c, b33d⟩ := ps_e g25 (by omega)
          refine pw_steps 2 (s' := (61, [some (.ref 47), some (.int (ei_ (v))), some (.int (ei_ (1))), some (.int (ei_ (x23)))], [.int (ei_ (1))], m124)) rfl ?_
          refine pw_ifF rfl (by decide) (show ¬ (1 = 0) by decide) ?_
          refine pw_steps 6 (s' := (5, [some (.ref 47), some (.int ((ei_ (v)) + (ei_ (x23)))), some (.int (ei_ (1))), some (.int (ei_ (x23)))], [], m124)) rfl ?_
          refine pw_cv (congrArg (fun z_ : Int32 => ((5, [some (.ref 47), some (.int z_), some (.int (ei_ (1))), some (.int (ei_ (x23)))], [], m124) : am_S)) (ei_add rfl rfl)) ?_
          refine pw_steps 1 (s' := (6, [some (.ref 47), some (.int (ei_ ((v + x23)))), some (.int (ei_ (1))), some (.int (ei_ (x23)))], [.ref 47], m124)) rfl ?_
          refine pw_get rfl rfl (fun x34 (hx34 : x34 = vi_ m124 47 16) rx34 sx34 => ?_)
          replace hx34 : x34 = p121 := hx34.trans g28
          subst x34
          refine pw_ifT rfl ⟨rx34, sx34⟩ (show 0 ≤ p121 by omega) ?_
          refine pw_steps 1 (s' := (78, [some (.ref 47), some (.int (ei_ ((v + x23)))), some (.int (ei_ (1))), some (.int (ei_ (x23)))], [.int (ei_ ((v + x23)))], m124)) rfl ?_
          refine pw_iret rfl rfl rfl ?_
          rw [← ei_wr (v + x23)]
          exact k2 _ _ (wr_ (v + x23)) _ ((ps_lp1 (L := 3) (by decide) ⟨by omega, by unfold lv_; omega⟩ g25).trans (if_neg (by decide))) (sm_tr (sm_w (sm_rfl m) (fun _ h_ => by rw [h_]; rfl)) g26) g27 g28 (wr_r _)
      · exact False.elim (by omega)
    · refine pw_steps 1 (s' := (22, [some (.ref 47), some (.int (ei_ (v))), u2, u3], [.ref 47], m)) rfl ?_
      refine pw_call (As := []) (st := []) (k := 47) rfl rfl rfl rfl rfl (Nat.le_of_ble_eq_true rfl) ?_
      refine mt_byte (p := p) (p2) (by omega) (p3) (fun g35 g36 => ?_) (fun g37 => ?_)
      · refine pw_steps 1 (s' := (27, [some (.ref 47), some (.int (ei_ (v))), u2, u3], [.int (ei_ (45)), .int (ei_ ((B p)))], m)) rfl ?_
        refine pw_cmp rfl (by omega) (by decide) (fun (h38 : ¬ (B p) = 45) => ?_) (fun (h38 : ¬ ¬ (B p) = 45) => ?_)
        · refine pw_steps 1 (s' := (78, [some (.ref 47), some (.int (ei_ (v))), u2, u3], [.int (ei_ (v))], m)) rfl ?_
          refine pw_iret rfl rfl rfl ?_
          exact k1 p [] v _ (ps_lp0 (L := 3) (by decide) (by unfold lv_; omega)) (sm_rfl _) p3 p4 p5 ey_nil hv
        · refine pw_steps 1 (s' := (31, [some (.ref 47), some (.int (ei_ (v))), u2, u3], [.ref 47], m)) rfl ?_
          refine pw_call (As := []) (st := []) (k := 47) rfl rfl rfl rfl rfl (Nat.le_of_ble_eq_true rfl) ?_
          refine mt_byte (p := p) (p2) (by omega) (p3) (fun g39 g40 => ?_) (fun g41 => ?_)
          · refine pw_steps 1 (s' := (36, [some (.ref 47), some (.int (ei_ (v))), u2, u3], [.int (ei_ (43)), .int (ei_ ((B p)))], m)) rfl ?_
            refine pw_cmpT rfl (by omega) (by decide) (show ¬ (B p) = 43 by omega) ?_
            refine pw_steps 4 (s' := (47, [some (.ref 47), some (.int (ei_ (v))), some (.int (ei_ (0))), u3], [.ref 47, .ref 47], m)) rfl ?_
            refine pw_get rfl rfl (fun x42 (hx42 : x42 = vi_ m 47 14) rx42 sx42 => ?_)
            replace hx42 : x42 = p := hx42.trans p3
            subst x42
            refine pw_steps 2 (s' := (52, [some (.ref 47), some (.int (ei_ (v))), some (.int (ei_ (0))), u3], [.int ((ei_ (p)) + (ei_ (1))), .ref 47], m)) rfl ?_
            refine pw_cv (congrArg (fun z_ : Int32 => ((52, [some (.ref 47), some (.int (ei_ (v))), some (.int (ei_ (0))), u3], [.int z_, .ref 47], m) : am_S)) (ei_add rfl rfl)) ?_
            refine pw_put (v := (p + 1)) rfl rfl (Or.inl rfl) ?_
            refine pw_cv (s' := (55, [some (.ref 47), some (.int (ei_ (v))), some (.int (ei_ (0))), u3], [], wi_ m 47 (14) ((p + 1)))) rfl ?_
            refine pw_steps 1 (s' := (56, [some (.ref 47), some (.int (ei_ (v))), some (.int (ei_ (0))), u3], [.ref 47], wi_ m 47 (14) ((p + 1)))) rfl ?_
            refine pw_call (As := []) (st := []) (k := 47) rfl rfl rfl rfl rfl (Nat.le_of_ble_eq_true rfl) ?_
            refine hM (p := (p + 1)) (o := o) (by omega) (by omega) (by omega) (by omega) (p2) ((ei_i (by omega))) (p4) (p5) (fun p143 z144 x45 m146 g47 g48 g49 g50 g51 g52 g53 => ?_) (fun p154 z155 x56 m157 g58 g59 g60 g61 g62 => ?_)
            · have t63 : mt_ B n m146 := mt_sm g48 p2
              obtain ⟨b64a, b64b, b64c, b64d⟩ := ps_e g47 (by omega)
              replace g52 := ex_cg (sm_f (P := pMd) (sm_w (sm_rfl m) (fun _ h_ => by rw [h_]; rfl)) (fun _ => rfl)) g52
              refine pw_steps 2 (s' := (61, [some (.ref 47), some (.int (ei_ (v))), some (.int (ei_ (0))), some (.int (ei_ (x45)))], [.int (ei_ (0))], m146)) rfl ?_
              refine pw_ifT rfl (by decide) (show 0 = 0 by decide) ?_
              refine pw_steps 5 (s' := (5, [some (.ref 47), some (.int ((ei_ (v)) - (ei_ (x45)))), some (.int (ei_ (0))), some (.int (ei_ (x45)))], [], m146)) rfl ?_
              refine pw_cv (congrArg (fun z_ : Int32 => ((5, [some (.ref 47), some (.int z_), some (.int (ei_ (0))), some (.int (ei_ (x45)))], [], m146) : am_S)) (ei_sub rfl rfl)) ?_
              rw [← ei_wr (v - x45)]
              refine hB (v := (wr_ (v - x45))) (by omega) (by omega) (by omega) (by omega) t63 g49 g50 g51 (wr_r _) (fun p2 z2 x2 m2 e2 s2 a2 f2 o2 y2 r2 => ?_) (fun p2 z2 x2 m2 e2 s2 a2 f2 r2 => ?_)
              · exact k1 p2 ((z144 ++ [B p]) ++ z2) x2 m2 (by rw [(ps_lp1 (L := 3) (by decide) ⟨by omega, by unfold lv_; omega⟩ g47).trans (if_pos rfl), if_neg (by decide), e2]) (sm_tr (sm_tr (sm_w (sm_rfl m) (fun _ h_ => by rw [h_]; rfl)) g48) s2) a2 f2 o2 (ey_stp g52 (by unfold lv_; omega) (by unfold jn_; omega) (ey_cg (sm_f (P := pMd) (sm_tr (sm_w (sm_rfl m) (fun _ h_ => by rw [h_]; rfl)) g48) (fun _ => rfl)) y2)) r2
              · exact k2 p2 ((z144 ++ [B p]) ++ z2) x2 m2 (by rw [(ps_lp1 (L := 3) (by decide) ⟨by omega, by unfold lv_; omega⟩ g47).trans (if_pos rfl), if_neg (by decide), e2]) (sm_tr (sm_tr (sm_w (sm_rfl m) (fun _ h_ => by rw [h_]; rfl)) g48) s2) a2 f2 r2
            · have t65 : mt_ B n m157 := mt_sm g59 p2
              obtain ⟨b66a, b66b, b66c, b66d⟩ := ps_e g58 (by omega)
              refine pw_steps 2 (s' := (61, [some (.ref 47), some (.int (ei_ (v))), some (.int (ei_ (0))), some (.int (ei_ (x56)))], [.int (ei_ (0))], m157)) rfl ?_
              refine pw_ifT rfl (by decide) (show 0 = 0 by decide) ?_
              refine pw_steps 5 (s' := (5, [some (.ref 47), some (.int ((ei_ (v)) - (ei_ (x56)))), some (.int (ei_ (0))), some (.int (ei_ (x56)))], [], m157)) rfl ?_
              refine pw_cv (congrArg (fun z_ : Int32 => ((5, [some (.ref 47), some (.int z_), some (.int (ei_ (0))), some (.int (ei_ (x56)))], [], m157) : am_S)) (ei_sub rfl rfl)) ?_
              refine pw_steps 1 (s' := (6, [some (.ref 47), some (.int (ei_ ((v - x56)))), some (.int (ei_ (0))), some (.int (ei_ (x56)))], [.ref 47], m157)) rfl ?_
              refine pw_get rfl rfl (fun x67 (hx67 : x67 = vi_ m157 47 16) rx67 sx67 => ?_)
              replace hx67 : x67 = p154 := hx67.trans g61
              subst x67
              refine pw_ifT rfl ⟨rx67, sx67⟩ (show 0 ≤ p154 by omega) ?_
              refine pw_steps 1 (s' := (78, [some (.ref 47), some (.int (ei_ ((v - x56)))), some (.int (ei_ (0))), some (.int (ei_ (x56)))], [.int (ei_ ((v - x56)))], m157)) rfl ?_
              refine pw_iret rfl rfl rfl ?_
              rw [← ei_wr (v - x56)]
              exact k2 _ _ (wr_ (v - x56)) _ ((ps_lp1 (L := 3) (by decide) ⟨by omega, by unfold lv_; omega⟩ g58).trans (if_neg (by decide))) (sm_tr (sm_w (sm_rfl m) (fun _ h_ => by rw [h_]; rfl)) g59) g60 g61 (wr_r _)
          · exact False.elim (by omega)
      · exact False.elim (by omega)
  · refine pw_steps 1 (s' := (18, [some (.ref 47), some (.int (ei_ (v))), u2, u3], [.int (ei_ (43)), .int (ei_ (0))], m)) rfl ?_
    refine pw_cmpF rfl (by decide) (by decide) (show ¬ (0 = 43) by decide) ?_
    refine pw_steps 1 (s' := (22, [some (.ref 47), some (.int (ei_ (v))), u2, u3], [.ref 47], m)) rfl ?_
    refine pw_call (As := []) (st := []) (k := 47) rfl rfl rfl rfl rfl (Nat.le_of_ble_eq_true rfl) ?_
    refine mt_byte (p := p) (p2) (by omega) (p3) (fun g68 g69 => ?_) (fun g70 => ?_)
    · exact False.elim (by omega)
    · refine pw_steps 1 (s' := (27, [some (.ref 47), some (.int (ei_ (v))), u2, u3], [.int (ei_ (45)), .int (ei_ (0))], m)) rfl ?_
      refine pw_cmpT rfl (by decide) (by decide) (show ¬ 0 = 45 by decide) ?_
      refine pw_steps 1 (s' := (78, [some (.ref 47), some (.int (ei_ (v))), u2, u3], [.int (ei_ (v))], m)) rfl ?_
      refine pw_iret rfl rfl rfl ?_
      exact k1 p [] v _ (ps_lp0 (L := 3) (by decide) (by unfold lv_; omega)) (sm_rfl _) p3 p4 p5 ey_nil hv

set_option maxHeartbeats 4000000 in
set_option maxRecDepth 20000 in
theorem mz_l4 {q : am_X} {B : Int → Int} {n : Int} {f : Nat} (hM : ∀ {o p : Int} {d : Nat} {m : am_M} {Q : Option Value → am_M → Prop}, (0 ≤ o ∧ o ≤ 6) → (6 * (6 - o) + 4 ≤ (d : Int)) → (0 ≤ p ∧ p ≤ n) → (7 * (n - p) + 1 ≤ ((f : Nat) : Int)) → mt_ B n m → vi_ m 47 14 = p → vi_ m 47 16 = -1 → vi_ m 47 17 = o → (∀ (p1 : Int) (z1 : List Int) (x : Int) (m1 : am_M), ps_ B n (f) 5 o p = (1, p1, z1) → sm_ pMd m m1 → vi_ m1 47 14 = p1 → vi_ m1 47 16 = -1 → vi_ m1 47 17 = o → ex_ (vi_ m 56) z1 x → (-2147483648 ≤ x ∧ x < 2147483648) → Q (some (.int (ei_ x))) m1) → (∀ (p1 : Int) (z1 : List Int) (x : Int) (m1 : am_M), ps_ B n (f) 5 o p = (0, p1, z1) → sm_ pMd m m1 → vi_ m1 47 14 = p1 → vi_ m1 47 16 = p1 → (-2147483648 ≤ x ∧ x < 2147483648) → Q (some (.int (ei_ x))) m1) → pw_C q d 197 [.ref 47] m Q) (hB : ∀ {o p v c : Int} {u3 : Option Value} {d : Nat} {m : am_M} {Q : Option Value → am_M → Prop}, (0 ≤ o ∧ o ≤ 6) → (6 * (6 - o) + 4 ≤ (d : Int)) → (0 ≤ p ∧ p ≤ n) → (7 * (n - p) + 1 ≤ ((f : Nat) : Int)) → mt_ B n m → vi_ m 47 14 = p → vi_ m 47 16 = -1 → vi_ m 47 17 = o → (-2147483648 ≤ v ∧ v < 2147483648) → ((p < n ∧ c = B p) ∨ (p = n ∧ c = 0)) → (∀ (p1 : Int) (z1 : List Int) (x : Int) (m1 : am_M), ps_ B n (f) (10 + 4) o p = (1, p1, z1) → sm_ pMd m m1 → vi_ m1 47 14 = p1 → vi_ m1 47 16 = -1 → vi_ m1 47 17 = o → ey_ (vi_ m 56) z1 v x → (-2147483648 ≤ x ∧ x < 2147483648) → Q (some (.int (ei_ x))) m1) → (∀ (p1 : Int) (z1 : List Int) (x : Int) (m1 : am_M), ps_ B n (f) (10 + 4) o p = (0, p1, z1) → sm_ pMd m m1 → vi_ m1 47 14 = p1 → vi_ m1 47 16 = p1 → (-2147483648 ≤ x ∧ x < 2147483648) → Q (some (.int (ei_ x))) m1) → pw_V q d iX9_product.2.2.2.1 tX9_product Q (10, [some (.ref 47), some (.int (ei_ v)), some (.int (ei_ c)), u3], [], m)) : ∀ {o p : Int} {d : Nat} {m : am_M} {Q : Option Value → am_M → Prop}, (0 ≤ o ∧ o ≤ 6) → (6 * (6 - o) + 5 ≤ (d : Int)) → (0 ≤ p ∧ p ≤ n) → (7 * (n - p) + 2 ≤ ((f + 1 : Nat) : Int)) → mt_ B n m → vi_ m 47 14 = p → vi_ m 47 16 = -1 → vi_ m 47 17 = o → (∀ (p1 : Int) (z1 : List Int) (x : Int) (m1 : am_M), ps_ B n (f + 1) 4 o p = (1, p1, z1) → sm_ pMd m m1 → vi_ m1 47 14 = p1 → vi_ m1 47 16 = -1 → vi_ m1 47 17 = o → ex_ (vi_ m 56) z1 x → (-2147483648 ≤ x ∧ x < 2147483648) → Q (some (.int (ei_ x))) m1) → (∀ (p1 : Int) (z1 : List Int) (x : Int) (m1 : am_M), ps_ B n (f + 1) 4 o p = (0, p1, z1) → sm_ pMd m m1 → vi_ m1 47 14 = p1 → vi_ m1 47 16 = p1 → (-2147483648 ≤ x ∧ x < 2147483648) → Q (some (.int (ei_ x))) m1) → pw_C q d 196 [.ref 47] m Q := by
  intro o p d m Q p0 pd p1 pf p2 p3 p4 p5 k1 k2
  obtain ⟨hn1, hn2, hn3, hn4, hn5, hn6⟩ := id p2
  obtain ⟨d1, rfl⟩ : ∃ d1, d = d1 + 4 := ⟨d - 4, by omega⟩
  refine pw_intro (I := iX9_product) (T := tX9_product) rfl rfl rfl ?_
  refine pw_steps 1 (s' := (1, [some (.ref 47), none, none, none], [.ref 47], m)) rfl ?_
  refine pw_call (As := []) (st := []) (k := 47) rfl rfl rfl rfl rfl (Nat.le_of_ble_eq_true rfl) ?_
  refine hM (p := p) (o := o) (by omega) (by omega) (by omega) (by omega) (p2) (p3) (p4) (p5) (fun p11 z12 x3 m14 g5 g6 g7 g8 g9 g10 g11 => ?_) (fun p112 z113 x14 m115 g16 g17 g18 g19 g20 => ?_)
  · have t21 : mt_ B n m14 := mt_sm g6 p2
    obtain ⟨b22a, b22b, b22c, b22d⟩ := ps_e g5 (by omega)
    replace g10 := ex_cg (sm_f (P := pMd) (sm_rfl m) (fun _ => rfl)) g10
    refine pw_steps 2 (s' := (6, [some (.ref 47), some (.int (ei_ (x3))), none, none], [.ref 47], m14)) rfl ?_
    refine pw_call (As := []) (st := []) (k := 47) rfl rfl rfl rfl rfl (Nat.le_of_ble_eq_true rfl) ?_
    refine mt_byte (p := p11) (t21) (by omega) (g7) (fun g23 g24 => ?_) (fun g25 => ?_)
    · refine pw_steps 1 (s' := (10, [some (.ref 47), some (.int (ei_ (x3))), some (.int (ei_ ((B p11)))), none], [], m14)) rfl ?_
      refine hB (v := x3) (by omega) (by omega) (by omega) (by omega) t21 g7 g8 g9 g11 (by omega) (fun p2 z2 x2 m2 e2 s2 a2 f2 o2 y2 r2 => ?_) (fun p2 z2 x2 m2 e2 s2 a2 f2 r2 => ?_)
      · exact k1 p2 (z12 ++ z2) x2 m2 (by rw [(ps_lev (by omega) g5).trans (if_pos rfl), e2]) (sm_tr g6 s2) a2 f2 o2 (ex_lev g10 (ey_cg (sm_f (P := pMd) g6 (fun _ => rfl)) y2)) r2
      · exact k2 p2 (z12 ++ z2) x2 m2 (by rw [(ps_lev (by omega) g5).trans (if_pos rfl), e2]) (sm_tr g6 s2) a2 f2 r2
    · refine pw_steps 1 (s' := (10, [some (.ref 47), some (.int (ei_ (x3))), some (.int (ei_ (0))), none], [], m14)) rfl ?_
      refine hB (v := x3) (by omega) (by omega) (by omega) (by omega) t21 g7 g8 g9 g11 (by omega) (fun p2 z2 x2 m2 e2 s2 a2 f2 o2 y2 r2 => ?_) (fun p2 z2 x2 m2 e2 s2 a2 f2 r2 => ?_)
      · exact k1 p2 (z12 ++ z2) x2 m2 (by rw [(ps_lev (by omega) g5).trans (if_pos rfl), e2]) (sm_tr g6 s2) a2 f2 o2 (ex_lev g10 (ey_cg (sm_f (P := pMd) g6 (fun _ => rfl)) y2)) r2
      · exact k2 p2 (z12 ++ z2) x2 m2 (by rw [(ps_lev (by omega) g5).trans (if_pos rfl), e2]) (sm_tr g6 s2) a2 f2 r2
  · have t26 : mt_ B n m115 := mt_sm g17 p2
    obtain ⟨b27a, b27b, b27c, b27d⟩ := ps_e g16 (by omega)
    refine pw_steps 2 (s' := (6, [some (.ref 47), some (.int (ei_ (x14))), none, none], [.ref 47], m115)) rfl ?_
    refine pw_call (As := []) (st := []) (k := 47) rfl rfl rfl rfl rfl (Nat.le_of_ble_eq_true rfl) ?_
    refine mt_byte (p := p112) (t26) (by omega) (g18) (fun g28 g29 => ?_) (fun g30 => ?_)
    · refine pw_steps 1 (s' := (10, [some (.ref 47), some (.int (ei_ (x14))), some (.int (ei_ ((B p112)))), none], [], m115)) rfl ?_
      refine pw_steps 1 (s' := (11, [some (.ref 47), some (.int (ei_ (x14))), some (.int (ei_ ((B p112)))), none], [.ref 47], m115)) rfl ?_
      refine pw_get rfl rfl (fun x31 (hx31 : x31 = vi_ m115 47 16) rx31 sx31 => ?_)
      replace hx31 : x31 = p112 := hx31.trans g19
      subst x31
      refine pw_ifT rfl ⟨rx31, sx31⟩ (show 0 ≤ p112 by omega) ?_
      refine pw_steps 1 (s' := (95, [some (.ref 47), some (.int (ei_ (x14))), some (.int (ei_ ((B p112)))), none], [.int (ei_ (x14))], m115)) rfl ?_
      refine pw_iret rfl rfl rfl ?_
      exact k2 _ _ x14 _ ((ps_lev (by omega) g16).trans (if_neg (by omega))) g17 g18 g19 g20
    · refine pw_steps 1 (s' := (10, [some (.ref 47), some (.int (ei_ (x14))), some (.int (ei_ (0))), none], [], m115)) rfl ?_
      refine pw_steps 1 (s' := (11, [some (.ref 47), some (.int (ei_ (x14))), some (.int (ei_ (0))), none], [.ref 47], m115)) rfl ?_
      refine pw_get rfl rfl (fun x32 (hx32 : x32 = vi_ m115 47 16) rx32 sx32 => ?_)
      replace hx32 : x32 = p112 := hx32.trans g19
      subst x32
      refine pw_ifT rfl ⟨rx32, sx32⟩ (show 0 ≤ p112 by omega) ?_
      refine pw_steps 1 (s' := (95, [some (.ref 47), some (.int (ei_ (x14))), some (.int (ei_ (0))), none], [.int (ei_ (x14))], m115)) rfl ?_
      refine pw_iret rfl rfl rfl ?_
      exact k2 _ _ x14 _ ((ps_lev (by omega) g16).trans (if_neg (by omega))) g17 g18 g19 g20

set_option maxHeartbeats 4000000 in
set_option maxRecDepth 20000 in
theorem mz_b4 {q : am_X} {B : Int → Int} {n : Int} {f : Nat} (hM : ∀ {o p : Int} {d : Nat} {m : am_M} {Q : Option Value → am_M → Prop}, (0 ≤ o ∧ o ≤ 6) → (6 * (6 - o) + 4 ≤ (d : Int)) → (0 ≤ p ∧ p ≤ n) → (7 * (n - p) + 1 ≤ ((f : Nat) : Int)) → mt_ B n m → vi_ m 47 14 = p → vi_ m 47 16 = -1 → vi_ m 47 17 = o → (∀ (p1 : Int) (z1 : List Int) (x : Int) (m1 : am_M), ps_ B n (f) 5 o p = (1, p1, z1) → sm_ pMd m m1 → vi_ m1 47 14 = p1 → vi_ m1 47 16 = -1 → vi_ m1 47 17 = o → ex_ (vi_ m 56) z1 x → (-2147483648 ≤ x ∧ x < 2147483648) → Q (some (.int (ei_ x))) m1) → (∀ (p1 : Int) (z1 : List Int) (x : Int) (m1 : am_M), ps_ B n (f) 5 o p = (0, p1, z1) → sm_ pMd m m1 → vi_ m1 47 14 = p1 → vi_ m1 47 16 = p1 → (-2147483648 ≤ x ∧ x < 2147483648) → Q (some (.int (ei_ x))) m1) → pw_C q d 197 [.ref 47] m Q) (hB : ∀ {o p v c : Int} {u3 : Option Value} {d : Nat} {m : am_M} {Q : Option Value → am_M → Prop}, (0 ≤ o ∧ o ≤ 6) → (6 * (6 - o) + 4 ≤ (d : Int)) → (0 ≤ p ∧ p ≤ n) → (7 * (n - p) + 1 ≤ ((f : Nat) : Int)) → mt_ B n m → vi_ m 47 14 = p → vi_ m 47 16 = -1 → vi_ m 47 17 = o → (-2147483648 ≤ v ∧ v < 2147483648) → ((p < n ∧ c = B p) ∨ (p = n ∧ c = 0)) → (∀ (p1 : Int) (z1 : List Int) (x : Int) (m1 : am_M), ps_ B n (f) (10 + 4) o p = (1, p1, z1) → sm_ pMd m m1 → vi_ m1 47 14 = p1 → vi_ m1 47 16 = -1 → vi_ m1 47 17 = o → ey_ (vi_ m 56) z1 v x → (-2147483648 ≤ x ∧ x < 2147483648) → Q (some (.int (ei_ x))) m1) → (∀ (p1 : Int) (z1 : List Int) (x : Int) (m1 : am_M), ps_ B n (f) (10 + 4) o p = (0, p1, z1) → sm_ pMd m m1 → vi_ m1 47 14 = p1 → vi_ m1 47 16 = p1 → (-2147483648 ≤ x ∧ x < 2147483648) → Q (some (.int (ei_ x))) m1) → pw_V q d iX9_product.2.2.2.1 tX9_product Q (10, [some (.ref 47), some (.int (ei_ v)), some (.int (ei_ c)), u3], [], m)) : ∀ {o p v c : Int} {u3 : Option Value} {d : Nat} {m : am_M} {Q : Option Value → am_M → Prop}, (0 ≤ o ∧ o ≤ 6) → (6 * (6 - o) + 4 ≤ (d : Int)) → (0 ≤ p ∧ p ≤ n) → (7 * (n - p) + 1 ≤ ((f + 1 : Nat) : Int)) → mt_ B n m → vi_ m 47 14 = p → vi_ m 47 16 = -1 → vi_ m 47 17 = o → (-2147483648 ≤ v ∧ v < 2147483648) → ((p < n ∧ c = B p) ∨ (p = n ∧ c = 0)) → (∀ (p1 : Int) (z1 : List Int) (x : Int) (m1 : am_M), ps_ B n (f + 1) (10 + 4) o p = (1, p1, z1) → sm_ pMd m m1 → vi_ m1 47 14 = p1 → vi_ m1 47 16 = -1 → vi_ m1 47 17 = o → ey_ (vi_ m 56) z1 v x → (-2147483648 ≤ x ∧ x < 2147483648) → Q (some (.int (ei_ x))) m1) → (∀ (p1 : Int) (z1 : List Int) (x : Int) (m1 : am_M), ps_ B n (f + 1) (10 + 4) o p = (0, p1, z1) → sm_ pMd m m1 → vi_ m1 47 14 = p1 → vi_ m1 47 16 = p1 → (-2147483648 ≤ x ∧ x < 2147483648) → Q (some (.int (ei_ x))) m1) → pw_V q d iX9_product.2.2.2.1 tX9_product Q (10, [some (.ref 47), some (.int (ei_ v)), some (.int (ei_ c)), u3], [], m) := by
  intro o p v c u3 d m Q p0 pd p1 pf p2 p3 p4 p5 hv hc k1 k2
  obtain ⟨hn1, hn2, hn3, hn4, hn5, hn6⟩ := id p2
  obtain ⟨d1, rfl⟩ : ∃ d1, d = d1 + 4 := ⟨d - 4, by omega⟩
  refine pw_steps 1 (s' := (11, [some (.ref 47), some (.int (ei_ (v))), some (.int (ei_ (c))), u3], [.ref 47], m)) rfl ?_
  refine pw_get rfl rfl (fun x1 (hx1 : x1 = vi_ m 47 16) rx1 sx1 => ?_)
  replace hx1 : x1 = (-1) := hx1.trans p4
  subst x1
  refine pw_ifF rfl (by decide) (show ¬ (0 ≤ (-1)) by decide) ?_
  refine pw_steps 2 (s' := (20, [some (.ref 47), some (.int (ei_ (v))), some (.int (ei_ (c))), u3], [.int (ei_ (42)), .int (ei_ (c))], m)) rfl ?_
  refine pw_cmp rfl (by have hb_ := hn4 p; omega) (by decide) (fun (h2 : c = 42) => ?_) (fun (h2 : ¬ (c = 42)) => ?_)
  · refine pw_steps 2 (s' := (37, [some (.ref 47), some (.int (ei_ (v))), some (.int (ei_ (c))), u3], [.ref 47, .ref 47], m)) rfl ?_
    refine pw_get rfl rfl (fun x3 (hx3 : x3 = vi_ m 47 14) rx3 sx3 => ?_)
    replace hx3 : x3 = p := hx3.trans p3
    subst x3
    refine pw_steps 2 (s' := (42, [some (.ref 47), some (.int (ei_ (v))), some (.int (ei_ (c))), u3], [.int ((ei_ (p)) + (ei_ (1))), .ref 47], m)) rfl ?_
    refine pw_cv (congrArg (fun z_ : Int32 => ((42, [some (.ref 47), some (.int (ei_ (v))), some (.int (ei_ (c))), u3], [.int z_, .ref 47], m) : am_S)) (ei_add rfl rfl)) ?_
    refine pw_put (v := (p + 1)) rfl rfl (Or.inl rfl) ?_
    refine pw_cv (s' := (45, [some (.ref 47), some (.int (ei_ (v))), some (.int (ei_ (c))), u3], [], wi_ m 47 (14) ((p + 1)))) rfl ?_
    refine pw_steps 1 (s' := (46, [some (.ref 47), some (.int (ei_ (v))), some (.int (ei_ (c))), u3], [.ref 47], wi_ m 47 (14) ((p + 1)))) rfl ?_
    refine pw_call (As := []) (st := []) (k := 47) rfl rfl rfl rfl rfl (Nat.le_of_ble_eq_true rfl) ?_
    refine hM (p := (p + 1)) (o := o) (by omega) (by omega) (by omega) (by omega) (p2) ((ei_i (by omega))) (p4) (p5) (fun p14 z15 x6 m17 g8 g9 g10 g11 g12 g13 g14 => ?_) (fun p115 z116 x17 m118 g19 g20 g21 g22 g23 => ?_)
    · have t24 : mt_ B n m17 := mt_sm g9 p2
      obtain ⟨b25a, b25b, b25c, b25d⟩ := ps_e g8 (by omega)
      replace g13 := ex_cg (sm_f (P := pMd) (sm_w (sm_rfl m) (fun _ h_ => by rw [h_]; rfl)) (fun _ => rfl)) g13
      refine pw_steps 3 (s' := (53, [some (.ref 47), some (.int (ei_ (v))), some (.int (ei_ (c))), some (.int (ei_ (x6)))], [.int (ei_ (42)), .int (ei_ (c))], m17)) rfl ?_
      refine pw_cmpF rfl (by have hb_ := hn4 p; omega) (by decide) (show ¬ (¬ c = 42) by omega) ?_
      refine pw_steps 6 (s' := (87, [some (.ref 47), some (.int ((ei_ (v)) * (ei_ (x6)))), some (.int (ei_ (c))), some (.int (ei_ (x6)))], [.ref 47], m17)) rfl ?_
      refine pw_cv (congrArg (fun z_ : Int32 => ((87, [some (.ref 47), some (.int z_), some (.int (ei_ (c))), some (.int (ei_ (x6)))], [.ref 47], m17) : am_S)) (ei_mul rfl rfl)) ?_
      refine pw_call (As := []) (st := []) (k := 47) rfl rfl rfl rfl rfl (Nat.le_of_ble_eq_true rfl) ?_
      refine mt_byte (p := p14) (t24) (by omega) (g10) (fun g26 g27 => ?_) (fun g28 => ?_)
      · refine pw_steps 2 (s' := (10, [some (.ref 47), some (.int (ei_ ((v * x6)))), some (.int (ei_ ((B p14)))), some (.int (ei_ (x6)))], [], m17)) rfl ?_
        rw [← ei_wr (v * x6)]
        refine hB (v := (wr_ (v * x6))) (by omega) (by omega) (by omega) (by omega) t24 g10 g11 g12 (wr_r _) (by omega) (fun p2 z2 x2 m2 e2 s2 a2 f2 o2 y2 r2 => ?_) (fun p2 z2 x2 m2 e2 s2 a2 f2 r2 => ?_)
        · exact k1 p2 ((z15 ++ [B p]) ++ z2) x2 m2 (by rw [(ps_lp1 (L := 4) (by decide) ⟨by omega, by unfold lv_; omega⟩ g8).trans (if_pos rfl), if_neg (by decide), e2]) (sm_tr (sm_tr (sm_w (sm_rfl m) (fun _ h_ => by rw [h_]; rfl)) g9) s2) a2 f2 o2 (ey_stp g13 (by unfold lv_; omega) (by unfold jn_; omega) (ey_cg (sm_f (P := pMd) (sm_tr (sm_w (sm_rfl m) (fun _ h_ => by rw [h_]; rfl)) g9) (fun _ => rfl)) y2)) r2
        · exact k2 p2 ((z15 ++ [B p]) ++ z2) x2 m2 (by rw [(ps_lp1 (L := 4) (by decide) ⟨by omega, by unfold lv_; omega⟩ g8).trans (if_pos rfl), if_neg (by decide), e2]) (sm_tr (sm_tr (sm_w (sm_rfl m) (fun _ h_ => by rw [h_]; rfl)) g9) s2) a2 f2 r2
      · refine pw_steps 2 (s' := (10, [some (.ref 47), some (.int (ei_ ((v * x6)))), some (.int (ei_ (0))), some (.int (ei_ (x6)))], [], m17)) rfl ?_
        rw [← ei_wr (v * x6)]
        refine hB (v := (wr_ (v * x6))) (by omega) (by omega) (by omega) (by omega) t24 g10 g11 g12 (wr_r _) (by omega) (fun p2 z2 x2 m2 e2 s2 a2 f2 o2 y2 r2 => ?_) (fun p2 z2 x2 m2 e2 s2 a2 f2 r2 => ?_)
        · exact k1 p2 ((z15 ++ [B p]) ++ z2) x2 m2 (by rw [(ps_lp1 (L := 4) (by decide) ⟨by omega, by unfold lv_; omega⟩ g8).trans (if_pos rfl), if_neg (by decide), e2]) (sm_tr (sm_tr (sm_w (sm_rfl m) (fun _ h_ => by rw [h_]; rfl)) g9) s2) a2 f2 o2 (ey_stp g13 (by unfold lv_; omega) (by unfold jn_; omega) (ey_cg (sm_f (P := pMd) (sm_tr (sm_w (sm_rfl m) (fun _ h_ => by rw [h_]; rfl)) g9) (fun _ => rfl)) y2)) r2
        · exact k2 p2 ((z15 ++ [B p]) ++ z2) x2 m2 (by rw [(ps_lp1 (L := 4) (by decide) ⟨by omega, by unfold lv_; omega⟩ g8).trans (if_pos rfl), if_neg (by decide), e2]) (sm_tr (sm_tr (sm_w (sm_rfl m) (fun _ h_ => by rw [h_]; rfl)) g9) s2) a2 f2 r2
    · have t29 : mt_ B n m118 := mt_sm g20 p2
      obtain ⟨b30a, b30b, b30c, b30d⟩ := ps_e g19 (by omega)
      refine pw_steps 3 (s' := (53, [some (.ref 47), some (.int (ei_ (v))), some (.int (ei_ (c))), some (.int (ei_ (x17)))], [.int (ei_ (42)), .int (ei_ (c))], m118)) rfl ?_
      refine pw_cmpF rfl (by have hb_ := hn4 p; omega) (by decide) (show ¬ (¬ c = 42) by omega) ?_
      refine pw_steps 6 (s' := (87, [some (.ref 47), some (.int ((ei_ (v)) * (ei_ (x17)))), some (.int (ei_ (c))), some (.int (ei_ (x17)))], [.ref 47], m118)) rfl ?_
      refine pw_cv (congrArg (fun z_ : Int32 => ((87, [some (.ref 47), some (.int z_), some (.int (ei_ (c))), some (.int (ei_ (x17)))], [.ref 47], m118) : am_S)) (ei_mul rfl rfl)) ?_
      refine pw_call (As := []) (st := []) (k := 47) rfl rfl rfl rfl rfl (Nat.le_of_ble_eq_true rfl) ?_
      refine mt_byte (p := p115) (t29) (by omega) (g21) (fun g31 g32 => ?_) (fun g33 => ?_)
      · refine pw_steps 2 (s' := (10, [some (.ref 47), some (.int (ei_ ((v * x17)))), some (.int (ei_ ((B p115)))), some (.int (ei_ (x17)))], [], m118)) rfl ?_
        refine pw_steps 1 (s' := (11, [some (.ref 47), some (.int (ei_ ((v * x17)))), some (.int (ei_ ((B p115)))), some (.int (ei_ (x17)))], [.ref 47], m118)) rfl ?_
        refine pw_get rfl rfl (fun x34 (hx34 : x34 = vi_ m118 47 16) rx34 sx34 => ?_)
        replace hx34 : x34 = p115 := hx34.trans g22
        subst x34
        refine pw_ifT rfl ⟨rx34, sx34⟩ (show 0 ≤ p115 by omega) ?_
        refine pw_steps 1 (s' := (95, [some (.ref 47), some (.int (ei_ ((v * x17)))), some (.int (ei_ ((B p115)))), some (.int (ei_ (x17)))], [.int (ei_ ((v * x17)))], m118)) rfl ?_
        refine pw_iret rfl rfl rfl ?_
        rw [← ei_wr (v * x17)]
        exact k2 _ _ (wr_ (v * x17)) _ ((ps_lp1 (L := 4) (by decide) ⟨by omega, by unfold lv_; omega⟩ g19).trans (if_neg (by decide))) (sm_tr (sm_w (sm_rfl m) (fun _ h_ => by rw [h_]; rfl)) g20) g21 g22 (wr_r _)
      · refine pw_steps 2 (s' := (10, [some (.ref 47), some (.int (ei_ ((v * x17)))), some (.int (ei_ (0))), some (.int (ei_ (x17)))], [], m118)) rfl ?_
        refine pw_steps 1 (s' := (11, [some (.ref 47), some (.int (ei_ ((v * x17)))), some (.int (ei_ (0))), some (.int (ei_ (x17)))], [.ref 47], m118)) rfl ?_
        refine pw_get rfl rfl (fun x35 (hx35 : x35 = vi_ m118 47 16) rx35 sx35 => ?_)
        replace hx35 : x35 = p115 := hx35.trans g22
        subst x35
        refine pw_ifT rfl ⟨rx35, sx35⟩ (show 0 ≤ p115 by omega) ?_
        refine pw_steps 1 (s' := (95, [some (.ref 47), some (.int (ei_ ((v * x17)))), some (.int (ei_ (0))), some (.int (ei_ (x17)))], [.int (ei_ ((v * x17)))], m118)) rfl ?_
        refine pw_iret rfl rfl rfl ?_
        rw [← ei_wr (v * x17)]
        exact k2 _ _ (wr_ (v * x17)) _ ((ps_lp1 (L := 4) (by decide) ⟨by omega, by unfold lv_; omega⟩ g19).trans (if_neg (by decide))) (sm_tr (sm_w (sm_rfl m) (fun _ h_ => by rw [h_]; rfl)) g20) g21 g22 (wr_r _)
  · refine pw_steps 2 (s' := (26, [some (.ref 47), some (.int (ei_ (v))), some (.int (ei_ (c))), u3], [.int (ei_ (47)), .int (ei_ (c))], m)) rfl ?_
    refine pw_cmp rfl (by have hb_ := hn4 p; omega) (by decide) (fun (h36 : c = 47) => ?_) (fun (h36 : ¬ (c = 47)) => ?_)
    · refine pw_steps 2 (s' := (37, [some (.ref 47), some (.int (ei_ (v))), some (.int (ei_ (c))), u3], [.ref 47, .ref 47], m)) rfl ?_
      refine pw_get rfl rfl (fun x37 (hx37 : x37 = vi_ m 47 14) rx37 sx37 => ?_)
      replace hx37 : x37 = p := hx37.trans p3
      subst x37
      refine pw_steps 2 (s' := (42, [some (.ref 47), some (.int (ei_ (v))), some (.int (ei_ (c))), u3], [.int ((ei_ (p)) + (ei_ (1))), .ref 47], m)) rfl ?_
      refine pw_cv (congrArg (fun z_ : Int32 => ((42, [some (.ref 47), some (.int (ei_ (v))), some (.int (ei_ (c))), u3], [.int z_, .ref 47], m) : am_S)) (ei_add rfl rfl)) ?_
      refine pw_put (v := (p + 1)) rfl rfl (Or.inl rfl) ?_
      refine pw_cv (s' := (45, [some (.ref 47), some (.int (ei_ (v))), some (.int (ei_ (c))), u3], [], wi_ m 47 (14) ((p + 1)))) rfl ?_
      refine pw_steps 1 (s' := (46, [some (.ref 47), some (.int (ei_ (v))), some (.int (ei_ (c))), u3], [.ref 47], wi_ m 47 (14) ((p + 1)))) rfl ?_
      refine pw_call (As := []) (st := []) (k := 47) rfl rfl rfl rfl rfl (Nat.le_of_ble_eq_true rfl) ?_
      refine hM (p := (p + 1)) (o := o) (by omega) (by omega) (by omega) (by omega) (p2) ((ei_i (by omega))) (p4) (p5) (fun p138 z139 x40 m141 g42 g43 g44 g45 g46 g47 g48 => ?_) (fun p149 z150 x51 m152 g53 g54 g55 g56 g57 => ?_)
      · have t58 : mt_ B n m141 := mt_sm g43 p2
        obtain ⟨b59a, b59b, b59c, b59d⟩ := ps_e g42 (by omega)
        replace g47 := ex_cg (sm_f (P := pMd) (sm_w (sm_rfl m) (fun _ h_ => by rw [h_]; rfl)) (fun _ => rfl)) g47
        refine pw_steps 3 (s' := (53, [some (.ref 47), some (.int (ei_ (v))), some (.int (ei_ (c))), some (.int (ei_ (x40)))], [.int (ei_ (42)), .int (ei_ (c))], m141)) rfl ?_
        refine pw_cmpT rfl (by have hb_ := hn4 p; omega) (by decide) (show ¬ c = 42 by omega) ?_
        refine pw_steps 1 (s' := (63, [some (.ref 47), some (.int (ei_ (v))), some (.int (ei_ (c))), some (.int (ei_ (x40)))], [.int (ei_ (x40))], m141)) rfl ?_
        refine pw_if rfl g48 (fun (h60 : ¬ x40 = 0) => ?_) (fun (h60 : ¬ ¬ x40 = 0) => ?_)
        · refine pw_steps 2 (s' := (73, [some (.ref 47), some (.int (ei_ (v))), some (.int (ei_ (c))), some (.int (ei_ (x40)))], [.int (ei_ (47)), .int (ei_ (c))], m141)) rfl ?_
          refine pw_cmpF rfl (by have hb_ := hn4 p; omega) (by decide) (show ¬ (¬ c = 47) by omega) ?_
          refine pw_steps 2 (s' := (78, [some (.ref 47), some (.int (ei_ (v))), some (.int (ei_ (c))), some (.int (ei_ (x40)))], [.int (ei_ (x40)), .int (ei_ (v))], m141)) rfl ?_
          refine pw_div rfl hv g48 (by omega) ?_
          refine pw_steps 3 (s' := (87, [some (.ref 47), some (.int (ei_ ((v.tdiv x40)))), some (.int (ei_ (c))), some (.int (ei_ (x40)))], [.ref 47], m141)) rfl ?_
          refine pw_call (As := []) (st := []) (k := 47) rfl rfl rfl rfl rfl (Nat.le_of_ble_eq_true rfl) ?_
          refine mt_byte (p := p138) (t58) (by omega) (g44) (fun g61 g62 => ?_) (fun g63 => ?_)
          · refine pw_steps 2 (s' := (10, [some (.ref 47), some (.int (ei_ ((v.tdiv x40)))), some (.int (ei_ ((B p138)))), some (.int (ei_ (x40)))], [], m141)) rfl ?_
            rw [← ei_wr (v.tdiv x40)]
            refine hB (v := (wr_ (v.tdiv x40))) (by omega) (by omega) (by omega) (by omega) t58 g44 g45 g46 (wr_r _) (by omega) (fun p2 z2 x2 m2 e2 s2 a2 f2 o2 y2 r2 => ?_) (fun p2 z2 x2 m2 e2 s2 a2 f2 r2 => ?_)
            · exact k1 p2 ((z139 ++ [B p]) ++ z2) x2 m2 (by rw [(ps_lp1 (L := 4) (by decide) ⟨by omega, by unfold lv_; omega⟩ g42).trans (if_pos rfl), if_neg (by decide), e2]) (sm_tr (sm_tr (sm_w (sm_rfl m) (fun _ h_ => by rw [h_]; rfl)) g43) s2) a2 f2 o2 (ey_stp g47 (by unfold lv_; omega) (by unfold jn_; omega) (ey_cg (sm_f (P := pMd) (sm_tr (sm_w (sm_rfl m) (fun _ h_ => by rw [h_]; rfl)) g43) (fun _ => rfl)) y2)) r2
            · exact k2 p2 ((z139 ++ [B p]) ++ z2) x2 m2 (by rw [(ps_lp1 (L := 4) (by decide) ⟨by omega, by unfold lv_; omega⟩ g42).trans (if_pos rfl), if_neg (by decide), e2]) (sm_tr (sm_tr (sm_w (sm_rfl m) (fun _ h_ => by rw [h_]; rfl)) g43) s2) a2 f2 r2
          · refine pw_steps 2 (s' := (10, [some (.ref 47), some (.int (ei_ ((v.tdiv x40)))), some (.int (ei_ (0))), some (.int (ei_ (x40)))], [], m141)) rfl ?_
            rw [← ei_wr (v.tdiv x40)]
            refine hB (v := (wr_ (v.tdiv x40))) (by omega) (by omega) (by omega) (by omega) t58 g44 g45 g46 (wr_r _) (by omega) (fun p2 z2 x2 m2 e2 s2 a2 f2 o2 y2 r2 => ?_) (fun p2 z2 x2 m2 e2 s2 a2 f2 r2 => ?_)
            · exact k1 p2 ((z139 ++ [B p]) ++ z2) x2 m2 (by rw [(ps_lp1 (L := 4) (by decide) ⟨by omega, by unfold lv_; omega⟩ g42).trans (if_pos rfl), if_neg (by decide), e2]) (sm_tr (sm_tr (sm_w (sm_rfl m) (fun _ h_ => by rw [h_]; rfl)) g43) s2) a2 f2 o2 (ey_stp g47 (by unfold lv_; omega) (by unfold jn_; omega) (ey_cg (sm_f (P := pMd) (sm_tr (sm_w (sm_rfl m) (fun _ h_ => by rw [h_]; rfl)) g43) (fun _ => rfl)) y2)) r2
            · exact k2 p2 ((z139 ++ [B p]) ++ z2) x2 m2 (by rw [(ps_lp1 (L := 4) (by decide) ⟨by omega, by unfold lv_; omega⟩ g42).trans (if_pos rfl), if_neg (by decide), e2]) (sm_tr (sm_tr (sm_w (sm_rfl m) (fun _ h_ => by rw [h_]; rfl)) g43) s2) a2 f2 r2
        · refine pw_steps 4 (s' := (87, [some (.ref 47), some (.int (ei_ (0))), some (.int (ei_ (c))), some (.int (ei_ (x40)))], [.ref 47], m141)) rfl ?_
          refine pw_call (As := []) (st := []) (k := 47) rfl rfl rfl rfl rfl (Nat.le_of_ble_eq_true rfl) ?_
          refine mt_byte (p := p138) (t58) (by omega) (g44) (fun g64 g65 => ?_) (fun g66 => ?_)
          · refine pw_steps 2 (s' := (10, [some (.ref 47), some (.int (ei_ (0))), some (.int (ei_ ((B p138)))), some (.int (ei_ (x40)))], [], m141)) rfl ?_
            refine hB (v := 0) (by omega) (by omega) (by omega) (by omega) t58 g44 g45 g46 (by omega) (by omega) (fun p2 z2 x2 m2 e2 s2 a2 f2 o2 y2 r2 => ?_) (fun p2 z2 x2 m2 e2 s2 a2 f2 r2 => ?_)
            · exact k1 p2 ((z139 ++ [B p]) ++ z2) x2 m2 (by rw [(ps_lp1 (L := 4) (by decide) ⟨by omega, by unfold lv_; omega⟩ g42).trans (if_pos rfl), if_neg (by decide), e2]) (sm_tr (sm_tr (sm_w (sm_rfl m) (fun _ h_ => by rw [h_]; rfl)) g43) s2) a2 f2 o2 (ey_stp g47 (by unfold lv_; omega) (by unfold jn_; omega) (ey_cg (sm_f (P := pMd) (sm_tr (sm_w (sm_rfl m) (fun _ h_ => by rw [h_]; rfl)) g43) (fun _ => rfl)) y2)) r2
            · exact k2 p2 ((z139 ++ [B p]) ++ z2) x2 m2 (by rw [(ps_lp1 (L := 4) (by decide) ⟨by omega, by unfold lv_; omega⟩ g42).trans (if_pos rfl), if_neg (by decide), e2]) (sm_tr (sm_tr (sm_w (sm_rfl m) (fun _ h_ => by rw [h_]; rfl)) g43) s2) a2 f2 r2
          · refine pw_steps 2 (s' := (10, [some (.ref 47), some (.int (ei_ (0))), some (.int (ei_ (0))), some (.int (ei_ (x40)))], [], m141)) rfl ?_
            refine hB (v := 0) (by omega) (by omega) (by omega) (by omega) t58 g44 g45 g46 (by omega) (by omega) (fun p2 z2 x2 m2 e2 s2 a2 f2 o2 y2 r2 => ?_) (fun p2 z2 x2 m2 e2 s2 a2 f2 r2 => ?_)
            · exact k1 p2 ((z139 ++ [B p]) ++ z2) x2 m2 (by rw [(ps_lp1 (L := 4) (by decide) ⟨by omega, by unfold lv_; omega⟩ g42).trans (if_pos rfl), if_neg (by decide), e2]) (sm_tr (sm_tr (sm_w (sm_rfl m) (fun _ h_ => by rw [h_]; rfl)) g43) s2) a2 f2 o2 (ey_stp g47 (by unfold lv_; omega) (by unfold jn_; omega) (ey_cg (sm_f (P := pMd) (sm_tr (sm_w (sm_rfl m) (fun _ h_ => by rw [h_]; rfl)) g43) (fun _ => rfl)) y2)) r2
            · exact k2 p2 ((z139 ++ [B p]) ++ z2) x2 m2 (by rw [(ps_lp1 (L := 4) (by decide) ⟨by omega, by unfold lv_; omega⟩ g42).trans (if_pos rfl), if_neg (by decide), e2]) (sm_tr (sm_tr (sm_w (sm_rfl m) (fun _ h_ => by rw [h_]; rfl)) g43) s2) a2 f2 r2
      · have t67 : mt_ B n m152 := mt_sm g54 p2
        obtain ⟨b68a, b68b, b68c, b68d⟩ := ps_e g53 (by omega)
        refine pw_steps 3 (s' := (53, [some (.ref 47), some (.int (ei_ (v))), some (.int (ei_ (c))), some (.int (ei_ (x51)))], [.int (ei_ (42)), .int (ei_ (c))], m152)) rfl ?_
        refine pw_cmpT rfl (by have hb_ := hn4 p; omega) (by decide) (show ¬ c = 42 by omega) ?_
        refine pw_steps 1 (s' := (63, [some (.ref 47), some (.int (ei_ (v))), some (.int (ei_ (c))), some (.int (ei_ (x51)))], [.int (ei_ (x51))], m152)) rfl ?_
        refine pw_if rfl g57 (fun (h69 : ¬ x51 = 0) => ?_) (fun (h69 : ¬ ¬ x51 = 0) => ?_)
        · refine pw_steps 2 (s' := (73, [some (.ref 47), some (.int (ei_ (v))), some (.int (ei_ (c))), some (.int (ei_ (x51)))], [.int (ei_ (47)), .int (ei_ (c))], m152)) rfl ?_
          refine pw_cmpF rfl (by have hb_ := hn4 p; omega) (by decide) (show ¬ (¬ c = 47) by omega) ?_
          refine pw_steps 2 (s' := (78, [some (.ref 47), some (.int (ei_ (v))), some (.int (ei_ (c))), some (.int (ei_ (x51)))], [.int (ei_ (x51)), .int (ei_ (v))], m152)) rfl ?_
          refine pw_div rfl hv g57 (by omega) ?_
          refine pw_steps 3 (s' := (87, [some (.ref 47), some (.int (ei_ ((v.tdiv x51)))), some (.int (ei_ (c))), some (.int (ei_ (x51)))], [.ref 47], m152)) rfl ?_
          refine pw_call (As := []) (st := []) (k := 47) rfl rfl rfl rfl rfl (Nat.le_of_ble_eq_true rfl) ?_
          refine mt_byte (p := p149) (t67) (by omega) (g55) (fun g70 g71 => ?_) (fun g72 => ?_)
          · refine pw_steps 2 (s' := (10, [some (.ref 47), some (.int (ei_ ((v.tdiv x51)))), some (.int (ei_ ((B p149)))), some (.int (ei_ (x51)))], [], m152)) rfl ?_
            refine pw_steps 1 (s' := (11, [some (.ref 47), some (.int (ei_ ((v.tdiv x51)))), some (.int (ei_ ((B p149)))), some (.int (ei_ (x51)))], [.ref 47], m152)) rfl ?_
            refine pw_get rfl rfl (fun x73 (hx73 : x73 = vi_ m152 47 16) rx73 sx73 => ?_)
            replace hx73 : x73 = p149 := hx73.trans g56
            subst x73
            refine pw_ifT rfl ⟨rx73, sx73⟩ (show 0 ≤ p149 by omega) ?_
            refine pw_steps 1 (s' := (95, [some (.ref 47), some (.int (ei_ ((v.tdiv x51)))), some (.int (ei_ ((B p149)))), some (.int (ei_ (x51)))], [.int (ei_ ((v.tdiv x51)))], m152)) rfl ?_
            refine pw_iret rfl rfl rfl ?_
            rw [← ei_wr (v.tdiv x51)]
            exact k2 _ _ (wr_ (v.tdiv x51)) _ ((ps_lp1 (L := 4) (by decide) ⟨by omega, by unfold lv_; omega⟩ g53).trans (if_neg (by decide))) (sm_tr (sm_w (sm_rfl m) (fun _ h_ => by rw [h_]; rfl)) g54) g55 g56 (wr_r _)
          · refine pw_steps 2 (s' := (10, [some (.ref 47), some (.int (ei_ ((v.tdiv x51)))), some (.int (ei_ (0))), some (.int (ei_ (x51)))], [], m152)) rfl ?_
            refine pw_steps 1 (s' := (11, [some (.ref 47), some (.int (ei_ ((v.tdiv x51)))), some (.int (ei_ (0))), some (.int (ei_ (x51)))], [.ref 47], m152)) rfl ?_
            refine pw_get rfl rfl (fun x74 (hx74 : x74 = vi_ m152 47 16) rx74 sx74 => ?_)
            replace hx74 : x74 = p149 := hx74.trans g56
            subst x74
            refine pw_ifT rfl ⟨rx74, sx74⟩ (show 0 ≤ p149 by omega) ?_
            refine pw_steps 1 (s' := (95, [some (.ref 47), some (.int (ei_ ((v.tdiv x51)))), some (.int (ei_ (0))), some (.int (ei_ (x51)))], [.int (ei_ ((v.tdiv x51)))], m152)) rfl ?_
            refine pw_iret rfl rfl rfl ?_
            rw [← ei_wr (v.tdiv x51)]
            exact k2 _ _ (wr_ (v.tdiv x51)) _ ((ps_lp1 (L := 4) (by decide) ⟨by omega, by unfold lv_; omega⟩ g53).trans (if_neg (by decide))) (sm_tr (sm_w (sm_rfl m) (fun _ h_ => by rw [h_]; rfl)) g54) g55 g56 (wr_r _)
        · refine pw_steps 4 (s' := (87, [some (.ref 47), some (.int (ei_ (0))), some (.int (ei_ (c))), some (.int (ei_ (x51)))], [.ref 47], m152)) rfl ?_
          refine pw_call (As := []) (st := []) (k := 47) rfl rfl rfl rfl rfl (Nat.le_of_ble_eq_true rfl) ?_
          refine mt_byte (p := p149) (t67) (by omega) (g55) (fun g75 g76 => ?_) (fun g77 => ?_)
          · refine pw_steps 2 (s' := (10, [some (.ref 47), some (.int (ei_ (0))), some (.int (ei_ ((B p149)))), some (.int (ei_ (x51)))], [], m152)) rfl ?_
            refine pw_steps 1 (s' := (11, [some (.ref 47), some (.int (ei_ (0))), some (.int (ei_ ((B p149)))), some (.int (ei_ (x51)))], [.ref 47], m152)) rfl ?_
            refine pw_get rfl rfl (fun x78 (hx78 : x78 = vi_ m152 47 16) rx78 sx78 => ?_)
            replace hx78 : x78 = p149 := hx78.trans g56
            subst x78
            refine pw_ifT rfl ⟨rx78, sx78⟩ (show 0 ≤ p149 by omega) ?_
            refine pw_steps 1 (s' := (95, [some (.ref 47), some (.int (ei_ (0))), some (.int (ei_ ((B p149)))), some (.int (ei_ (x51)))], [.int (ei_ (0))], m152)) rfl ?_
            refine pw_iret rfl rfl rfl ?_
            exact k2 _ _ 0 _ ((ps_lp1 (L := 4) (by decide) ⟨by omega, by unfold lv_; omega⟩ g53).trans (if_neg (by decide))) (sm_tr (sm_w (sm_rfl m) (fun _ h_ => by rw [h_]; rfl)) g54) g55 g56 (by decide)
          · refine pw_steps 2 (s' := (10, [some (.ref 47), some (.int (ei_ (0))), some (.int (ei_ (0))), some (.int (ei_ (x51)))], [], m152)) rfl ?_
            refine pw_steps 1 (s' := (11, [some (.ref 47), some (.int (ei_ (0))), some (.int (ei_ (0))), some (.int (ei_ (x51)))], [.ref 47], m152)) rfl ?_
            refine pw_get rfl rfl (fun x79 (hx79 : x79 = vi_ m152 47 16) rx79 sx79 => ?_)
            replace hx79 : x79 = p149 := hx79.trans g56
            subst x79
            refine pw_ifT rfl ⟨rx79, sx79⟩ (show 0 ≤ p149 by omega) ?_
            refine pw_steps 1 (s' := (95, [some (.ref 47), some (.int (ei_ (0))), some (.int (ei_ (0))), some (.int (ei_ (x51)))], [.int (ei_ (0))], m152)) rfl ?_
            refine pw_iret rfl rfl rfl ?_
            exact k2 _ _ 0 _ ((ps_lp1 (L := 4) (by decide) ⟨by omega, by unfold lv_; omega⟩ g53).trans (if_neg (by decide))) (sm_tr (sm_w (sm_rfl m) (fun _ h_ => by rw [h_]; rfl)) g54) g55 g56 (by decide)
    · refine pw_steps 2 (s' := (32, [some (.ref 47), some (.int (ei_ (v))), some (.int (ei_ (c))), u3], [.int (ei_ (37)), .int (ei_ (c))], m)) rfl ?_
      refine pw_cmp rfl (by have hb_ := hn4 p; omega) (by decide) (fun (h80 : ¬ c = 37) => ?_) (fun (h80 : ¬ ¬ c = 37) => ?_)
      · refine pw_steps 1 (s' := (95, [some (.ref 47), some (.int (ei_ (v))), some (.int (ei_ (c))), u3], [.int (ei_ (v))], m)) rfl ?_
        refine pw_iret rfl rfl rfl ?_
        exact k1 p [] v _ (ps_lp0 (L := 4) (by decide) (by unfold lv_; omega)) (sm_rfl _) p3 p4 p5 ey_nil hv
      · refine pw_steps 2 (s' := (37, [some (.ref 47), some (.int (ei_ (v))), some (.int (ei_ (c))), u3], [.ref 47, .ref 47], m)) rfl ?_
        refine pw_get rfl rfl (fun x81 (hx81 : x81 = vi_ m 47 14) rx81 sx81 => ?_)
        replace hx81 : x81 = p := hx81.trans p3
        subst x81
        refine pw_steps 2 (s' := (42, [some (.ref 47), some (.int (ei_ (v))), some (.int (ei_ (c))), u3], [.int ((ei_ (p)) + (ei_ (1))), .ref 47], m)) rfl ?_
        refine pw_cv (congrArg (fun z_ : Int32 => ((42, [some (.ref 47), some (.int (ei_ (v))), some (.int (ei_ (c))), u3], [.int z_, .ref 47], m) : am_S)) (ei_add rfl rfl)) ?_
        refine pw_put (v := (p + 1)) rfl rfl (Or.inl rfl) ?_
        refine pw_cv (s' := (45, [some (.ref 47), some (.int (ei_ (v))), some (.int (ei_ (c))), u3], [], wi_ m 47 (14) ((p + 1)))) rfl ?_
        refine pw_steps 1 (s' := (46, [some (.ref 47), some (.int (ei_ (v))), some (.int (ei_ (c))), u3], [.ref 47], wi_ m 47 (14) ((p + 1)))) rfl ?_
        refine pw_call (As := []) (st := []) (k := 47) rfl rfl rfl rfl rfl (Nat.le_of_ble_eq_true rfl) ?_
        refine hM (p := (p + 1)) (o := o) (by omega) (by omega) (by omega) (by omega) (p2) ((ei_i (by omega))) (p4) (p5) (fun p182 z183 x84 m185 g86 g87 g88 g89 g90 g91 g92 => ?_) (fun p193 z194 x95 m196 g97 g98 g99 g100 g101 => ?_)
        · have t102 : mt_ B n m185 := mt_sm g87 p2
          obtain ⟨b103a, b103b, b103c, b103d⟩ := ps_e g86 (by omega)
          replace g91 := ex_cg (sm_f (P := pMd) (sm_w (sm_rfl m) (fun _ h_ => by rw [h_]; rfl)) (fun _ => rfl)) g91
          refine pw_steps 3 (s' := (53, [some (.ref 47), some (.int (ei_ (v))), some (.int (ei_ (c))), some (.int (ei_ (x84)))], [.int (ei_ (42)), .int (ei_ (c))], m185)) rfl ?_
          refine pw_cmpT rfl (by have hb_ := hn4 p; omega) (by decide) (show ¬ c = 42 by omega) ?_
          refine pw_steps 1 (s' := (63, [some (.ref 47), some (.int (ei_ (v))), some (.int (ei_ (c))), some (.int (ei_ (x84)))], [.int (ei_ (x84))], m185)) rfl ?_
          refine pw_if rfl g92 (fun (h104 : ¬ x84 = 0) => ?_) (fun (h104 : ¬ ¬ x84 = 0) => ?_)
          · refine pw_steps 2 (s' := (73, [some (.ref 47), some (.int (ei_ (v))), some (.int (ei_ (c))), some (.int (ei_ (x84)))], [.int (ei_ (47)), .int (ei_ (c))], m185)) rfl ?_
            refine pw_cmpT rfl (by have hb_ := hn4 p; omega) (by decide) (show ¬ c = 47 by omega) ?_
            refine pw_steps 2 (s' := (84, [some (.ref 47), some (.int (ei_ (v))), some (.int (ei_ (c))), some (.int (ei_ (x84)))], [.int (ei_ (x84)), .int (ei_ (v))], m185)) rfl ?_
            refine pw_rem rfl hv g92 (by omega) ?_
            refine pw_steps 2 (s' := (87, [some (.ref 47), some (.int (ei_ ((v - v.tdiv x84 * x84)))), some (.int (ei_ (c))), some (.int (ei_ (x84)))], [.ref 47], m185)) rfl ?_
            refine pw_call (As := []) (st := []) (k := 47) rfl rfl rfl rfl rfl (Nat.le_of_ble_eq_true rfl) ?_
            refine mt_byte (p := p182) (t102) (by omega) (g88) (fun g105 g106 => ?_) (fun g107 => ?_)
            · refine pw_steps 2 (s' := (10, [some (.ref 47), some (.int (ei_ ((v - v.tdiv x84 * x84)))), some (.int (ei_ ((B p182)))), some (.int (ei_ (x84)))], [], m185)) rfl ?_
              rw [← ei_wr (v - v.tdiv x84 * x84)]
              refine hB (v := (wr_ (v - v.tdiv x84 * x84))) (by omega) (by omega) (by omega) (by omega) t102 g88 g89 g90 (wr_r _) (by omega) (fun p2 z2 x2 m2 e2 s2 a2 f2 o2 y2 r2 => ?_) (fun p2 z2 x2 m2 e2 s2 a2 f2 r2 => ?_)
              · exact k1 p2 ((z183 ++ [B p]) ++ z2) x2 m2 (by rw [(ps_lp1 (L := 4) (by decide) ⟨by omega, by unfold lv_; omega⟩ g86).trans (if_pos rfl), if_neg (by decide), e2]) (sm_tr (sm_tr (sm_w (sm_rfl m) (fun _ h_ => by rw [h_]; rfl)) g87) s2) a2 f2 o2 (ey_stp g91 (by unfold lv_; omega) (by unfold jn_; omega) (ey_cg (sm_f (P := pMd) (sm_tr (sm_w (sm_rfl m) (fun _ h_ => by rw [h_]; rfl)) g87) (fun _ => rfl)) y2)) r2
              · exact k2 p2 ((z183 ++ [B p]) ++ z2) x2 m2 (by rw [(ps_lp1 (L := 4) (by decide) ⟨by omega, by unfold lv_; omega⟩ g86).trans (if_pos rfl), if_neg (by decide), e2]) (sm_tr (sm_tr (sm_w (sm_rfl m) (fun _ h_ => by rw [h_]; rfl)) g87) s2) a2 f2 r2
            · refine pw_steps 2 (s' := (10, [some (.ref 47), some (.int (ei_ ((v - v.tdiv x84 * x84)))), some (.int (ei_ (0))), some (.int (ei_ (x84)))], [], m185)) rfl ?_
              rw [← ei_wr (v - v.tdiv x84 * x84)]
              refine hB (v := (wr_ (v - v.tdiv x84 * x84))) (by omega) (by omega) (by omega) (by omega) t102 g88 g89 g90 (wr_r _) (by omega) (fun p2 z2 x2 m2 e2 s2 a2 f2 o2 y2 r2 => ?_) (fun p2 z2 x2 m2 e2 s2 a2 f2 r2 => ?_)
              · exact k1 p2 ((z183 ++ [B p]) ++ z2) x2 m2 (by rw [(ps_lp1 (L := 4) (by decide) ⟨by omega, by unfold lv_; omega⟩ g86).trans (if_pos rfl), if_neg (by decide), e2]) (sm_tr (sm_tr (sm_w (sm_rfl m) (fun _ h_ => by rw [h_]; rfl)) g87) s2) a2 f2 o2 (ey_stp g91 (by unfold lv_; omega) (by unfold jn_; omega) (ey_cg (sm_f (P := pMd) (sm_tr (sm_w (sm_rfl m) (fun _ h_ => by rw [h_]; rfl)) g87) (fun _ => rfl)) y2)) r2
              · exact k2 p2 ((z183 ++ [B p]) ++ z2) x2 m2 (by rw [(ps_lp1 (L := 4) (by decide) ⟨by omega, by unfold lv_; omega⟩ g86).trans (if_pos rfl), if_neg (by decide), e2]) (sm_tr (sm_tr (sm_w (sm_rfl m) (fun _ h_ => by rw [h_]; rfl)) g87) s2) a2 f2 r2
          · refine pw_steps 4 (s' := (87, [some (.ref 47), some (.int (ei_ (0))), some (.int (ei_ (c))), some (.int (ei_ (x84)))], [.ref 47], m185)) rfl ?_
            refine pw_call (As := []) (st := []) (k := 47) rfl rfl rfl rfl rfl (Nat.le_of_ble_eq_true rfl) ?_
            refine mt_byte (p := p182) (t102) (by omega) (g88) (fun g108 g109 => ?_) (fun g110 => ?_)
            · refine pw_steps 2 (s' := (10, [some (.ref 47), some (.int (ei_ (0))), some (.int (ei_ ((B p182)))), some (.int (ei_ (x84)))], [], m185)) rfl ?_
              refine hB (v := 0) (by omega) (by omega) (by omega) (by omega) t102 g88 g89 g90 (by omega) (by omega) (fun p2 z2 x2 m2 e2 s2 a2 f2 o2 y2 r2 => ?_) (fun p2 z2 x2 m2 e2 s2 a2 f2 r2 => ?_)
              · exact k1 p2 ((z183 ++ [B p]) ++ z2) x2 m2 (by rw [(ps_lp1 (L := 4) (by decide) ⟨by omega, by unfold lv_; omega⟩ g86).trans (if_pos rfl), if_neg (by decide), e2]) (sm_tr (sm_tr (sm_w (sm_rfl m) (fun _ h_ => by rw [h_]; rfl)) g87) s2) a2 f2 o2 (ey_stp g91 (by unfold lv_; omega) (by unfold jn_; omega) (ey_cg (sm_f (P := pMd) (sm_tr (sm_w (sm_rfl m) (fun _ h_ => by rw [h_]; rfl)) g87) (fun _ => rfl)) y2)) r2
              · exact k2 p2 ((z183 ++ [B p]) ++ z2) x2 m2 (by rw [(ps_lp1 (L := 4) (by decide) ⟨by omega, by unfold lv_; omega⟩ g86).trans (if_pos rfl), if_neg (by decide), e2]) (sm_tr (sm_tr (sm_w (sm_rfl m) (fun _ h_ => by rw [h_]; rfl)) g87) s2) a2 f2 r2
            · refine pw_steps 2 (s' := (10, [some (.ref 47), some (.int (ei_ (0))), some (.int (ei_ (0))), some (.int (ei_ (x84)))], [], m185)) rfl ?_
              refine hB (v := 0) (by omega) (by omega) (by omega) (by omega) t102 g88 g89 g90 (by omega) (by omega) (fun p2 z2 x2 m2 e2 s2 a2 f2 o2 y2 r2 => ?_) (fun p2 z2 x2 m2 e2 s2 a2 f2 r2 => ?_)
              · exact k1 p2 ((z183 ++ [B p]) ++ z2) x2 m2 (by rw [(ps_lp1 (L := 4) (by decide) ⟨by omega, by unfold lv_; omega⟩ g86).trans (if_pos rfl), if_neg (by decide), e2]) (sm_tr (sm_tr (sm_w (sm_rfl m) (fun _ h_ => by rw [h_]; rfl)) g87) s2) a2 f2 o2 (ey_stp g91 (by unfold lv_; omega) (by unfold jn_; omega) (ey_cg (sm_f (P := pMd) (sm_tr (sm_w (sm_rfl m) (fun _ h_ => by rw [h_]; rfl)) g87) (fun _ => rfl)) y2)) r2
              · exact k2 p2 ((z183 ++ [B p]) ++ z2) x2 m2 (by rw [(ps_lp1 (L := 4) (by decide) ⟨by omega, by unfold lv_; omega⟩ g86).trans (if_pos rfl), if_neg (by decide), e2]) (sm_tr (sm_tr (sm_w (sm_rfl m) (fun _ h_ => by rw [h_]; rfl)) g87) s2) a2 f2 r2
        · have t111 : mt_ B n m196 := mt_sm g98 p2
          obtain ⟨b112a, b112b, b112c, b112d⟩ := ps_e g97 (by omega)
          refine pw_steps 3 (s' := (53, [some (.ref 47), some (.int (ei_ (v))), some (.int (ei_ (c))), some (.int (ei_ (x95)))], [.int (ei_ (42)), .int (ei_ (c))], m196)) rfl ?_
          refine pw_cmpT rfl (by have hb_ := hn4 p; omega) (by decide) (show ¬ c = 42 by omega) ?_
          refine pw_steps 1 (s' := (63, [some (.ref 47), some (.int (ei_ (v))), some (.int (ei_ (c))), some (.int (ei_ (x95)))], [.int (ei_ (x95))], m196)) rfl ?_
          refine pw_if rfl g101 (fun (h113 : ¬ x95 = 0) => ?_) (fun (h113 : ¬ ¬ x95 = 0) => ?_)
          · refine pw_steps 2 (s' := (73, [some (.ref 47), some (.int (ei_ (v))), some (.int (ei_ (c))), some (.int (ei_ (x95)))], [.int (ei_ (47)), .int (ei_ (c))], m196)) rfl ?_
            refine pw_cmpT rfl (by have hb_ := hn4 p; omega) (by decide) (show ¬ c = 47 by omega) ?_
            refine pw_steps 2 (s' := (84, [some (.ref 47), some (.int (ei_ (v))), some (.int (ei_ (c))), some (.int (ei_ (x95)))], [.int (ei_ (x95)), .int (ei_ (v))], m196)) rfl ?_
            refine pw_rem rfl hv g101 (by omega) ?_
            refine pw_steps 2 (s' := (87, [some (.ref 47), some (.int (ei_ ((v - v.tdiv x95 * x95)))), some (.int (ei_ (c))), some (.int (ei_ (x95)))], [.ref 47], m196)) rfl ?_
            refine pw_call (As := []) (st := []) (k := 47) rfl rfl rfl rfl rfl (Nat.le_of_ble_eq_true rfl) ?_
            refine mt_byte (p := p193) (t111) (by omega) (g99) (fun g114 g115 => ?_) (fun g116 => ?_)
            · refine pw_steps 2 (s' := (10, [some (.ref 47), some (.int (ei_ ((v - v.tdiv x95 * x95)))), some (.int (ei_ ((B p193)))), some (.int (ei_ (x95)))], [], m196)) rfl ?_
              refine pw_steps 1 (s' := (11, [some (.ref 47), some (.int (ei_ ((v - v.tdiv x95 * x95)))), some (.int (ei_ ((B p193)))), some (.int (ei_ (x95)))], [.ref 47], m196)) rfl ?_
              refine pw_get rfl rfl (fun x117 (hx117 : x117 = vi_ m196 47 16) rx117 sx117 => ?_)
              replace hx117 : x117 = p193 := hx117.trans g100
              subst x117
              refine pw_ifT rfl ⟨rx117, sx117⟩ (show 0 ≤ p193 by omega) ?_
              refine pw_steps 1 (s' := (95, [some (.ref 47), some (.int (ei_ ((v - v.tdiv x95 * x95)))), some (.int (ei_ ((B p193)))), some (.int (ei_ (x95)))], [.int (ei_ ((v - v.tdiv x95 * x95)))], m196)) rfl ?_
              refine pw_iret rfl rfl rfl ?_
              rw [← ei_wr (v - v.tdiv x95 * x95)]
              exact k2 _ _ (wr_ (v - v.tdiv x95 * x95)) _ ((ps_lp1 (L := 4) (by decide) ⟨by omega, by unfold lv_; omega⟩ g97).trans (if_neg (by decide))) (sm_tr (sm_w (sm_rfl m) (fun _ h_ => by rw [h_]; rfl)) g98) g99 g100 (wr_r _)
            · refine pw_steps 2 (s' := (10, [some (.ref 47), some (.int (ei_ ((v - v.tdiv x95 * x95)))), some (.int (ei_ (0))), some (.int (ei_ (x95)))], [], m196)) rfl ?_
              refine pw_steps 1 (s' := (11, [some (.ref 47), some (.int (ei_ ((v - v.tdiv x95 * x95)))), some (.int (ei_ (0))), some (.int (ei_ (x95)))], [.ref 47], m196)) rfl ?_
              refine pw_get rfl rfl (fun x118 (hx118 : x118 = vi_ m196 47 16) rx118 sx118 => ?_)
              replace hx118 : x118 = p193 := hx118.trans g100
              subst x118
              refine pw_ifT rfl ⟨rx118, sx118⟩ (show 0 ≤ p193 by omega) ?_
              refine pw_steps 1 (s' := (95, [some (.ref 47), some (.int (ei_ ((v - v.tdiv x95 * x95)))), some (.int (ei_ (0))), some (.int (ei_ (x95)))], [.int (ei_ ((v - v.tdiv x95 * x95)))], m196)) rfl ?_
              refine pw_iret rfl rfl rfl ?_
              rw [← ei_wr (v - v.tdiv x95 * x95)]
              exact k2 _ _ (wr_ (v - v.tdiv x95 * x95)) _ ((ps_lp1 (L := 4) (by decide) ⟨by omega, by unfold lv_; omega⟩ g97).trans (if_neg (by decide))) (sm_tr (sm_w (sm_rfl m) (fun _ h_ => by rw [h_]; rfl)) g98) g99 g100 (wr_r _)
          · refine pw_steps 4 (s' := (87, [some (.ref 47), some (.int (ei_ (0))), some (.int (ei_ (c))), some (.int (ei_ (x95)))], [.ref 47], m196)) rfl ?_
            refine pw_call (As := []) (st := []) (k := 47) rfl rfl rfl rfl rfl (Nat.le_of_ble_eq_true rfl) ?_
            refine mt_byte (p := p193) (t111) (by omega) (g99) (fun g119 g120 => ?_) (fun g121 => ?_)
            · refine pw_steps 2 (s' := (10, [some (.ref 47), some (.int (ei_ (0))), some (.int (ei_ ((B p193)))), some (.int (ei_ (x95)))], [], m196)) rfl ?_
              refine pw_steps 1 (s' := (11, [some (.ref 47), some (.int (ei_ (0))), some (.int (ei_ ((B p193)))), some (.int (ei_ (x95)))], [.ref 47], m196)) rfl ?_
              refine pw_get rfl rfl (fun x122 (hx122 : x122 = vi_ m196 47 16) rx122 sx122 => ?_)
              replace hx122 : x122 = p193 := hx122.trans g100
              subst x122
              refine pw_ifT rfl ⟨rx122, sx122⟩ (show 0 ≤ p193 by omega) ?_
              refine pw_steps 1 (s' := (95, [some (.ref 47), some (.int (ei_ (0))), some (.int (ei_ ((B p193)))), some (.int (ei_ (x95)))], [.int (ei_ (0))], m196)) rfl ?_
              refine pw_iret rfl rfl rfl ?_
              exact k2 _ _ 0 _ ((ps_lp1 (L := 4) (by decide) ⟨by omega, by unfold lv_; omega⟩ g97).trans (if_neg (by decide))) (sm_tr (sm_w (sm_rfl m) (fun _ h_ => by rw [h_]; rfl)) g98) g99 g100 (by decide)
            · refine pw_steps 2 (s' := (10, [some (.ref 47), some (.int (ei_ (0))), some (.int (ei_ (0))), some (.int (ei_ (x95)))], [], m196)) rfl ?_
              refine pw_steps 1 (s' := (11, [some (.ref 47), some (.int (ei_ (0))), some (.int (ei_ (0))), some (.int (ei_ (x95)))], [.ref 47], m196)) rfl ?_
              refine pw_get rfl rfl (fun x123 (hx123 : x123 = vi_ m196 47 16) rx123 sx123 => ?_)
              replace hx123 : x123 = p193 := hx123.trans g100
              subst x123
              refine pw_ifT rfl ⟨rx123, sx123⟩ (show 0 ≤ p193 by omega) ?_
              refine pw_steps 1 (s' := (95, [some (.ref 47), some (.int (ei_ (0))), some (.int (ei_ (0))), some (.int (ei_ (x95)))], [.int (ei_ (0))], m196)) rfl ?_
              refine pw_iret rfl rfl rfl ?_
              exact k2 _ _ 0 _ ((ps_lp1 (L := 4) (by decide) ⟨by omega, by unfold lv_; omega⟩ g97).trans (if_neg (by decide))) (sm_tr (sm_w (sm_rfl m) (fun _ h_ => by rw [h_]; rfl)) g98) g99 g100 (by decide)

