set_option maxHeartbeats 4000000 in
set_option maxRecDepth 20000 in
theorem ci_row {q : am_X} {d : Nat} {m : am_M} {Q : Option Value → am_M → Prop} {a : Int} {s : Int} {n : Int}  (p0 : -2147483648 ≤ a ∧ a < 2147483648) (p1 : -2147483648 ≤ s ∧ s < 2147483648) (p2 : -2147483648 ≤ n ∧ n < 2147483648) (k0 : ∀ (m1 : am_M), (0 ≤ a ∧ a < 6) → (0 ≤ s ∧ s ≤ 4) → (0 ≤ n ∧ n ≤ 60) → (sr_ (sf_ a) (sf_ a + 1) m m1) → (vi_ m1 (sf_ a) 0 = s) → (vi_ m1 (sf_ a) 2 = n) → (vi_ m1 (sf_ a) 1 = vi_ m (sf_ a) 1) → (∀ j, 0 ≤ j → j < n → vl_ m1 (sf_ a + 1) j = 0) → Q (some (.int (ei_ (1)))) m1) (k1 : (¬ ((0 ≤ a ∧ a < 6) ∧ (0 ≤ s ∧ s ≤ 4) ∧ n ≤ 60)) → Q (some (.int (ei_ ((-1))))) m) (k2 : (((0 ≤ a ∧ a < 6) ∧ (0 ≤ s ∧ s ≤ 4) ∧ n ≤ 60) ∧ n < 0) → Q (some (.int (ei_ ((-14))))) m) : pw_C q (d + 4) 151 [.ref 0, .int (ei_ (a)), .int (ei_ (s)), .int (ei_ (n))] m Q := by
  refine pw_intro (I := iX8_row) (T := tX8_row) rfl rfl rfl ?_
  refine pw_steps 1 (s' := (1, [some (.ref 0), some (.int (ei_ (a))), some (.int (ei_ (s))), some (.int (ei_ (n)))], [.int (ei_ (a))], m)) rfl ?_
  refine pw_callS (As := [.int (ei_ (a))]) (st := []) rfl (by decide) rfl rfl (Nat.le_of_ble_eq_true rfl) ?_
  refine pw_intro (I := iX8_isShelf) (T := tX8_isShelf) rfl rfl rfl ?_
  refine pw_steps 1 (s' := (1, [some (.int (ei_ (a)))], [.int (ei_ (a))], m)) rfl ?_
  refine pw_if rfl p0 (fun (h1 : a < 0) => ?_) (fun (h1 : ¬ (a < 0)) => ?_)
  · refine pw_steps 1 (s' := (15, [some (.int (ei_ (a)))], [.int (ei_ (0))], m)) rfl ?_
    refine pw_iret rfl rfl rfl ?_
    refine pw_ifT rfl (by decide) (show 0 = 0 by decide) ?_
    refine pw_steps 1 (s' := (21, [some (.ref 0), some (.int (ei_ (a))), some (.int (ei_ (s))), some (.int (ei_ (n)))], [.int (ei_ ((-1)))], m)) rfl ?_
    refine pw_iret rfl rfl rfl ?_
    exact k1 (by omega)
  · refine pw_steps 2 (s' := (7, [some (.int (ei_ (a)))], [.int (ei_ (6)), .int (ei_ (a))], m)) rfl ?_
    refine pw_cmp rfl p0 (by decide) (fun (h2 : 6 ≤ a) => ?_) (fun (h2 : ¬ (6 ≤ a)) => ?_)
    · refine pw_steps 1 (s' := (15, [some (.int (ei_ (a)))], [.int (ei_ (0))], m)) rfl ?_
      refine pw_iret rfl rfl rfl ?_
      refine pw_ifT rfl (by decide) (show 0 = 0 by decide) ?_
      refine pw_steps 1 (s' := (21, [some (.ref 0), some (.int (ei_ (a))), some (.int (ei_ (s))), some (.int (ei_ (n)))], [.int (ei_ ((-1)))], m)) rfl ?_
      refine pw_iret rfl rfl rfl ?_
      exact k1 (by omega)
    · refine pw_steps 2 (s' := (15, [some (.int (ei_ (a)))], [.int (ei_ (1))], m)) rfl ?_
      refine pw_iret rfl rfl rfl ?_
      refine pw_ifF rfl (by decide) (show ¬ (1 = 0) by decide) ?_
      refine pw_steps 1 (s' := (8, [some (.ref 0), some (.int (ei_ (a))), some (.int (ei_ (s))), some (.int (ei_ (n)))], [.int (ei_ (s))], m)) rfl ?_
      refine pw_callS (As := [.int (ei_ (s))]) (st := []) rfl (by decide) rfl rfl (Nat.le_of_ble_eq_true rfl) ?_
      refine pw_intro (I := iX5_isSort) (T := tX5_isSort) rfl rfl rfl ?_
      refine pw_steps 1 (s' := (1, [some (.int (ei_ (s)))], [.int (ei_ (s))], m)) rfl ?_
      refine pw_if rfl p1 (fun (h3 : s < 0) => ?_) (fun (h3 : ¬ (s < 0)) => ?_)
      · refine pw_steps 1 (s' := (14, [some (.int (ei_ (s)))], [.int (ei_ (0))], m)) rfl ?_
        refine pw_iret rfl rfl rfl ?_
        refine pw_ifT rfl (by decide) (show 0 = 0 by decide) ?_
        refine pw_steps 1 (s' := (21, [some (.ref 0), some (.int (ei_ (a))), some (.int (ei_ (s))), some (.int (ei_ (n)))], [.int (ei_ ((-1)))], m)) rfl ?_
        refine pw_iret rfl rfl rfl ?_
        exact k1 (by omega)
      · refine pw_steps 2 (s' := (6, [some (.int (ei_ (s)))], [.int (ei_ (4)), .int (ei_ (s))], m)) rfl ?_
        refine pw_cmp rfl p1 (by decide) (fun (h4 : 4 < s) => ?_) (fun (h4 : ¬ (4 < s)) => ?_)
        · refine pw_steps 1 (s' := (14, [some (.int (ei_ (s)))], [.int (ei_ (0))], m)) rfl ?_
          refine pw_iret rfl rfl rfl ?_
          refine pw_ifT rfl (by decide) (show 0 = 0 by decide) ?_
          refine pw_steps 1 (s' := (21, [some (.ref 0), some (.int (ei_ (a))), some (.int (ei_ (s))), some (.int (ei_ (n)))], [.int (ei_ ((-1)))], m)) rfl ?_
          refine pw_iret rfl rfl rfl ?_
          exact k1 (by omega)
        · refine pw_steps 2 (s' := (14, [some (.int (ei_ (s)))], [.int (ei_ (1))], m)) rfl ?_
          refine pw_iret rfl rfl rfl ?_
          refine pw_ifF rfl (by decide) (show ¬ (1 = 0) by decide) ?_
          refine pw_steps 2 (s' := (17, [some (.ref 0), some (.int (ei_ (a))), some (.int (ei_ (s))), some (.int (ei_ (n)))], [.int (ei_ (60)), .int (ei_ (n))], m)) rfl ?_
          refine pw_cmp rfl p2 (by decide) (fun (h5 : n ≤ 60) => ?_) (fun (h5 : ¬ (n ≤ 60)) => ?_)
          · refine pw_steps 1 (s' := (23, [some (.ref 0), some (.int (ei_ (a))), some (.int (ei_ (s))), some (.int (ei_ (n)))], [.int (ei_ (n))], m)) rfl ?_
            refine pw_if rfl p2 (fun (h6 : 0 ≤ n) => ?_) (fun (h6 : ¬ (0 ≤ n)) => ?_)
            · refine pw_steps 3 (s' := (34, [some (.ref 0), some (.int (ei_ (a))), some (.int (ei_ (s))), some (.int (ei_ (n)))], [.int (ei_ (a)), .ref 32], m)) rfl ?_
              refine pw_ald (r0 := (sf_ a)) rfl rfl (sf_ln (by omega)) (sf_al (by omega)) ?_
              refine pw_steps 2 (s' := (37, [some (.ref 0), some (.int (ei_ (a))), some (.int (ei_ (s))), some (.int (ei_ (n)))], [.int (ei_ (n)), .int (ei_ (s)), .ref ((sf_ a))], m)) rfl ?_
              refine pw_call (As := [.int (ei_ (s)), .int (ei_ (n))]) (st := []) (k := (sf_ a)) rfl rfl rfl (sf_sk (by omega)) rfl (Nat.le_of_ble_eq_true rfl) ?_
              refine cs_row (sf_ok (a := a) (by omega)) (p1) (by omega) (fun m17 g8 g9 g10 g11 g12 => ?_)
              refine pw_steps 1 (s' := (41, [some (.ref 0), some (.int (ei_ (a))), some (.int (ei_ (s))), some (.int (ei_ (n)))], [.int (ei_ (1))], m17)) rfl ?_
              refine pw_iret rfl rfl rfl ?_
              exact k0 m17 (by omega) (by omega) (by omega) g8 g9 g10 g11 g12
            · refine pw_steps 1 (s' := (28, [some (.ref 0), some (.int (ei_ (a))), some (.int (ei_ (s))), some (.int (ei_ (n)))], [.int (ei_ ((-14)))], m)) rfl ?_
              refine pw_iret rfl rfl rfl ?_
              exact k2 (by omega)
          · refine pw_steps 1 (s' := (21, [some (.ref 0), some (.int (ei_ (a))), some (.int (ei_ (s))), some (.int (ei_ (n)))], [.int (ei_ ((-1)))], m)) rfl ?_
            refine pw_iret rfl rfl rfl ?_
            exact k1 (by omega)


theorem rS_row {m m1 m2 : am_M} {a s n : Int} (h : rS_ m) (ha : 0 ≤ a ∧ a < 6) (hs : 0 ≤ s ∧ s ≤ 4) (hn : 0 ≤ n ∧ n ≤ 60) (r : sr_ (sf_ a) (sf_ a + 1) m m1) (h0 : vi_ m1 (sf_ a) 0 = s) (h2 : vi_ m1 (sf_ a) 2 = n) (hz : ∀ j, 0 ≤ j → j < n → vl_ m1 (sf_ a + 1) j = 0) (s2 : sm2_ m1 m2) (g68 : ∀ j, 0 ≤ j → vi_ m2 68 j = if j = a then 50 + s else vi_ m1 68 j) (g69 : ∀ j, 0 ≤ j → vi_ m2 69 j = if j = a then n else vi_ m1 69 j) (gz : ∀ j, 0 ≤ j → j < 60 → vl_ m2 70 (60 * a + j) = 0) (gw : ∀ j, 0 ≤ j → (j < 60 * a ∨ 60 * a + 60 ≤ j) → vl_ m2 70 j = vl_ m1 70 j) : rS_ m2 := by
  intro d h1 h2'
  have hr := sf_rg ha
  have hrd := sf_rg ⟨h1, h2'⟩
  by_cases e : d = a
  · subst e
    have f0 : vi_ m2 (sf_ d) = vi_ m1 (sf_ d) := sm2_f s2 (by omega) (by omega)
    refine ⟨?_, ?_, Or.inr (Or.inr ⟨?_, ?_, ?_, fun j j1 j2 => ?_⟩)⟩
    · rw [g69 d h1, if_pos rfl, f0, h2]
    · rw [f0, h2]; exact hn
    · rw [f0, h0]; exact hs.1
    · rw [f0, h0]; exact hs.2
    · rw [g68 d h1, if_pos rfl, f0, h0]
    · rw [f0, h2] at j2
      rw [gz j j1 (by omega), sm2_l s2 (show sf_ d + 1 ≠ 70 by omega), hz j j1 j2]
      exact ⟨rfl, fun _ => by decide⟩
  · have hne := sf_ne ha.1 h1 e
    have hod := @sf_od a d
    have f0 : vi_ m2 (sf_ d) = vi_ m (sf_ d) := (sm2_f s2 (by omega) (by omega)).trans (sr_f r hne)
    have f29 : vi_ m2 29 = vi_ m 29 := (sm2_f s2 (by decide) (by decide)).trans (sr_f r (by omega))
    have l1 : vl_ m2 (sf_ d + 1) = vl_ m (sf_ d + 1) := (sm2_l s2 (by omega)).trans (sr_l r (by omega))
    have g68' : vi_ m2 68 d = vi_ m 68 d := by rw [g68 d h1, if_neg e, sr_f r (show (68 : Nat) ≠ sf_ a by omega)]
    have g69' : vi_ m2 69 d = vi_ m 69 d := by rw [g69 d h1, if_neg e, sr_f r (show (69 : Nat) ≠ sf_ a by omega)]
    have t := h d h1 h2'
    obtain ⟨t1, t2, t3⟩ := t
    unfold rs_
    rw [f0, f29, l1, g68', g69']
    refine ⟨t1, t2, ?_⟩
    rcases t3 with t3 | t3 | ⟨t3, t4, t5, t6⟩
    · exact Or.inl t3
    · exact Or.inr (Or.inl t3)
    · refine Or.inr (Or.inr ⟨t3, t4, t5, fun j j1 j2 => ?_⟩)
      rw [gw (60 * d + j) (by omega) (by omega), sr_l r (show (70 : Nat) ≠ sf_ a + 1 by omega)]
      exact t6 j j1 j2
theorem op_row {q : am_X} {d : Nat} {m : am_M} {a s n : Int} (q0 : -2147483648 ≤ a ∧ a < 2147483648) (q1 : -2147483648 ≤ s ∧ s < 2147483648) (q2 : -2147483648 ≤ n ∧ n < 2147483648) (hR : rR_ m) : pw_C q (d + 60) 151 [.ref 0, .int (ei_ a), .int (ei_ s), .int (ei_ n)] m (fun r1 m1 => pw_C q (d + 60) 254 [.ref 47, .int (ei_ a), .int (ei_ s), .int (ei_ n)] m1 (fun r2 m2 => ∃ x : Int, r1 = some (.int (ei_ x)) ∧ r2 = some (.int (ei_ x)) ∧ rR_ m2)) := by
  obtain ⟨hp, hd, hi, ht, hl, hz, hc, ha, hs⟩ := id hR
  refine ci_row q0 q1 q2 (fun m1 ha0 hs0 hn0 r h0 h2 h1 hzz => ?_) (fun v => ?_) (fun v => ?_)
  · refine ms_row q0 q1 q2 (fun _ _ _ m2 s2 g68 g69 gz gw => ?_) (fun v => absurd ⟨ha0, hs0, hn0.2⟩ v) (fun v => absurd v.2 (by omega))
    have hr := sf_rg ha0
    have hS : rS_ m2 := rS_row hs ha0 hs0 hn0 r h0 h2 hzz s2 g68 g69 gz gw
    have hsm : sm_ pKe m (m2.1, m.2) := by
      refine ⟨fun k j e => ?_, rfl⟩
      simp only [pKe, Bool.or_eq_false_iff, Bool.and_eq_false_iff, beq_eq_false_iff_ne, decide_eq_false_iff_not] at e
      show m2.1 k j = m.1 k j
      rw [s2.1 k j (by omega) (by omega), r.1 k j (by omega)]
    have k_rP_ : rP_ (m2.1, m.2) := rP_fr hsm rfl rfl (fun _ => rfl) (fun _ => rfl) hp
    have k_rD_ : rD_ (m2.1, m.2) := rD_fr hsm rfl (fun _ => rfl) (fun _ => rfl) (fun _ => rfl) (fun _ => rfl) (fun _ => rfl) (fun _ => rfl) rfl rfl rfl rfl rfl rfl hd
    have k_rI_ : rI_ (m2.1, m.2) := rI_fr hsm rfl rfl rfl rfl (fun _ => rfl) (fun _ => rfl) (fun _ => rfl) (fun _ => rfl) (fun _ => rfl) (fun _ => rfl) (fun _ => rfl) rfl rfl rfl hi
    have k_rT_ : rT_ (m2.1, m.2) := rT_fr hsm rfl rfl (fun _ => rfl) (fun _ => rfl) ht
    have k_rL_ : rL_ (m2.1, m.2) := rL_fr hsm rfl rfl (fun _ => rfl) (fun _ => rfl) hl
    have k_rZ_ : rZ_ (m2.1, m.2) := rZ_fr hsm rfl hz
    have k_rC_ : rC_ (m2.1, m.2) := rC_fr hsm rfl rfl rfl rfl (fun _ => rfl) (fun _ => rfl) (fun _ => rfl) (fun _ => rfl) (fun _ => rfl) (fun _ => rfl) (fun _ => rfl) rfl hc
    have k_rA_ : rA_ (m2.1, m.2) := rA_fr hsm rfl rfl (fun _ => rfl) (fun _ => rfl) rfl rfl (fun _ => rfl) (fun _ => rfl) ha
    exact ⟨1, rfl, rfl, ⟨k_rP_, k_rD_, k_rI_, k_rT_, k_rL_, k_rZ_, k_rC_, k_rA_, hS⟩⟩
  · refine ms_row q0 q1 q2 (fun b1 b2 b3 m2 s2 g68 g69 gz gw => absurd ⟨b1, b2, b3.2⟩ v) (fun _ => ⟨-1, rfl, rfl, hR⟩) (fun w => absurd w.1 v)
  · refine ms_row q0 q1 q2 (fun b1 b2 b3 m2 s2 g68 g69 gz gw => absurd v.2 (by omega)) (fun w => absurd v.1 w) (fun _ => ⟨-14, rfl, rfl, hR⟩)

