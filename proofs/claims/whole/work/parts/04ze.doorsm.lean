
theorem mW_w {m : am_M} {a p : Int} (hw : mW_ m) (ha : 0 ≤ a) (hpp : 0 ≤ p ∧ p < vi_ m 1 1 ∧ p < 8) : mW_ (wi_ m 52 a p) := by
  intro j b c
  have e1 : vi_ (wi_ m 52 a p) 1 1 = vi_ m 1 1 := vi_ne (by decide)
  rw [e1] at c ⊢
  rw [vi_up (by omega) ha b]
  by_cases e : j = a
  · rw [if_pos e]; exact ⟨hpp.1, hpp.2.1⟩
  · rw [if_neg e]; exact hw j b c

set_option maxHeartbeats 4000000 in
set_option maxRecDepth 20000 in
theorem ms_doors {q : am_X} {d : Nat} {m : am_M} {Q : Option Value → am_M → Prop} {m0 : am_M} {a : Int}  (p0 : rP_ m0) (p1 : rD_ m0) (p2 : rZ_ m0) (p3 : rL_ m0) (p4 : sm_ pSc m0 m) (p5 : -2147483648 ≤ a ∧ a < 2147483648) (k0 : ∀ (x : Int) (m1 : am_M), (x = sd_d m0 a) → (sm_ pSc m0 m1) → Q (some (.int (ei_ (x)))) m1) : pw_C q (d + 60) 232 [.ref 47, .int (ei_ (a))] m Q := by
  obtain ⟨hP1, hP2, hP3, hP4⟩ := id p0
  have hmw := mW_of p0 p1
  have hmf := mF_of p0 p1
  refine pw_intro (I := iX9_doors) (T := tX9_doors) rfl rfl rfl ?_
  refine pw_steps 1 (s' := (1, [some (.ref 47), some (.int (ei_ (a))), none, none, none, none, none, none], [.int (ei_ (a))], m)) rfl ?_
  refine pw_callS (As := [.int (ei_ (a))]) (st := []) rfl (by decide) rfl rfl (Nat.le_of_ble_eq_true rfl) ?_
  refine pw_intro (I := iX9_isN) (T := tX9_isN) rfl rfl rfl ?_
  refine pw_steps 4 (s' := (6, [some (.int (ei_ (a)))], [.long (el_ (99)), .long (el_ (0)), .long ((ei_ (a)).toInt64)], m)) rfl ?_
  refine pw_cv (congrArg (fun z_ : Int64 => ((6, [some (.int (ei_ (a)))], [.long (el_ (99)), .long (el_ (0)), .long z_], m) : am_S)) (el_i2l p5 rfl)) ?_
  refine pw_callS (As := [.long (el_ (a)), .long (el_ (0)), .long (el_ (99))]) (st := []) rfl (by decide) rfl rfl (Nat.le_of_ble_eq_true rfl) ?_
  refine mt_within (by omega) (by omega) (by omega) (fun g1 g2 => ?_) (fun g3 => ?_) (fun g4 => ?_)
  · refine pw_iret rfl rfl rfl ?_
    refine pw_ifT rfl (by decide) (show ¬ 1 = 0 by decide) ?_
    refine pw_steps 2 (s' := (11, [some (.ref 47), some (.int (ei_ (a))), none, none, none, none, none, none], [.int (ei_ (a)), .ref 47], m)) rfl ?_
    refine pw_call (As := [.int (ei_ (a))]) (st := []) (k := 47) rfl rfl rfl rfl rfl (Nat.le_of_ble_eq_true rfl) ?_
    refine md_goes (p0) (hmw) (p4) (p3) (hmf) (by omega) (fun m15 g6 g7 => ?_)
    have hG_ : ∀ j, 0 ≤ j → j < vi_ m0 1 1 → vi_ m15 57 j = lw_w m0 a j (vi_ m0 4 j) := fun j a_ b_ => by rw [g7 j a_ b_, lf_mc p0 p1 ⟨a_, b_⟩]; rfl
    refine pw_steps 1 (s' := (15, [some (.ref 47), some (.int (ei_ (a))), none, none, none, none, none, none], [.ref 47], m15)) rfl ?_
    refine pw_call (As := []) (st := []) (k := 47) rfl rfl rfl rfl rfl (Nat.le_of_ble_eq_true rfl) ?_
    refine md_all (p0) ((sm_tr p4 (sm_le g6 pGo_Sc))) (fun j a_ b_ => by rw [hG_ j a_ b_]; exact lw_b m0 p1 ⟨a_, by omega⟩ (by omega)) (fun x8 g9 g10 => ?_)
    have et_ : x8 = tz_ m0 a := by
      rw [g9]; exact su_cg _ (fun j a_ b_ => hG_ j a_ (by omega))
    refine pw_steps 5 (s' := (25, [some (.ref 47), some (.int (ei_ (a))), some (.int (ei_ (x8))), some (.int (ei_ ((-2)))), some (.int (ei_ (0))), none, none, none], [], m15)) rfl ?_
    have L16 : ∀ (n14 : Nat) (t : Int) (bb : Int) (k : Int) (u11 : Option Value) (u12 : Option Value) (u13 : Option Value) (m1 : am_M), (vi_ m0 1 1 - k).toNat = n14 → (0 ≤ k ∧ k ≤ vi_ m0 1 1 ∧ -2 ≤ bb ∧ bb ≤ 99 ∧ 0 ≤ t ∧ t ≤ 8000) → (sm_ pSc m0 m1) → ((bb, t - tz_ m0 a) = do_ m0 a k.toNat) → (tz_ m0 a ≤ t) → pw_V q (d + 59) iX9_doors.2.2.2.1 tX9_doors Q (25, [some (.ref 47), some (.int (ei_ (a))), some (.int (ei_ (t))), some (.int (ei_ (bb))), some (.int (ei_ (k))), u11, u12, u13], [], m1) := by
      intro n14
      induction n14 using Nat.strongRecOn with
      | _ n14 ih15 =>
        intro t bb k u11 u12 u13 m1 hm_n14 v17 hs hv hzt
        refine pw_steps 2 (s' := (28, [some (.ref 47), some (.int (ei_ (a))), some (.int (ei_ (t))), some (.int (ei_ (bb))), some (.int (ei_ (k))), u11, u12, u13], [.ref 47, .int (ei_ (k))], m1)) rfl ?_
        refine pw_get rfl rfl (fun x18 (hx18 : x18 = vi_ m1 47 6) rx18 sx18 => ?_)
        have ox18 := hx18
        replace hx18 : x18 = vi_ m0 47 6 := hx18.trans (sm_v hs rfl)
        refine pw_cmp rfl (by omega) ⟨rx18, sx18⟩ (fun (h19 : x18 ≤ k) => ?_) (fun (h19 : ¬ (x18 ≤ k)) => ?_)
        · refine pw_steps 1 (s' := (166, [some (.ref 47), some (.int (ei_ (a))), some (.int (ei_ (t))), some (.int (ei_ (bb))), some (.int (ei_ (k))), u11, u12, u13], [.int (ei_ (bb))], m1)) rfl ?_
          refine pw_iret rfl rfl rfl ?_
          exact k0 bb m1 (by unfold sd_d; rw [if_pos (by omega), ← show k = vi_ m0 1 1 by omega, ← hv]) (hs)
        · refine pw_steps 4 (s' := (40, [some (.ref 47), some (.int (ei_ (a))), some (.int (ei_ (t))), some (.int (ei_ (bb))), some (.int (ei_ (k))), some (.int ((ei_ (k)) + (ei_ (1)))), u12, u13], [], m1)) rfl ?_
          refine pw_cv (congrArg (fun z_ : Int32 => ((40, [some (.ref 47), some (.int (ei_ (a))), some (.int (ei_ (t))), some (.int (ei_ (bb))), some (.int (ei_ (k))), some (.int z_), u12, u13], [], m1) : am_S)) (ei_add rfl rfl)) ?_
          have L24 : ∀ (n22 : Nat) (t2 : Int) (bb2 : Int) (k2 : Int) (u20 : Option Value) (u21 : Option Value) (m2 : am_M), (vi_ m0 1 1 - k2).toNat = n22 → (k + 1 ≤ k2 ∧ k2 ≤ vi_ m0 1 1 ∧ -2 ≤ bb2 ∧ bb2 ≤ 99 ∧ 0 ≤ t2 ∧ t2 ≤ 8000) → (sm_ pSc m0 m2) → ((bb2, t2 - tz_ m0 a) = di_ m0 a k (do_ m0 a k.toNat) (k2 - (k + 1)).toNat) → (tz_ m0 a ≤ t2) → pw_V q (d + 59) iX9_doors.2.2.2.1 tX9_doors Q (40, [some (.ref 47), some (.int (ei_ (a))), some (.int (ei_ (t2))), some (.int (ei_ (bb2))), some (.int (ei_ (k))), some (.int (ei_ (k2))), u20, u21], [], m2) := by
            intro n22
            induction n22 using Nat.strongRecOn with
            | _ n22 ih23 =>
              intro t2 bb2 k2 u20 u21 m2 hm_n22 v25 hs2 hv2 hzt2
              refine pw_steps 2 (s' := (43, [some (.ref 47), some (.int (ei_ (a))), some (.int (ei_ (t2))), some (.int (ei_ (bb2))), some (.int (ei_ (k))), some (.int (ei_ (k2))), u20, u21], [.ref 47, .int (ei_ (k2))], m2)) rfl ?_
              refine pw_get rfl rfl (fun x26 (hx26 : x26 = vi_ m2 47 6) rx26 sx26 => ?_)
              have ox26 := hx26
              replace hx26 : x26 = vi_ m0 47 6 := hx26.trans (sm_v hs2 rfl)
              refine pw_cmp rfl (by omega) ⟨rx26, sx26⟩ (fun (h27 : x26 ≤ k2) => ?_) (fun (h27 : ¬ (x26 ≤ k2)) => ?_)
              · refine pw_steps 2 (s' := (25, [some (.ref 47), some (.int (ei_ (a))), some (.int (ei_ (t2))), some (.int (ei_ (bb2))), some (.int ((ei_ (k)) + (ei_ (1)))), some (.int (ei_ (k2))), u20, u21], [], m2)) rfl ?_
                refine pw_cv (congrArg (fun z_ : Int32 => ((25, [some (.ref 47), some (.int (ei_ (a))), some (.int (ei_ (t2))), some (.int (ei_ (bb2))), some (.int z_), some (.int (ei_ (k2))), u20, u21], [], m2) : am_S)) (ei_add rfl rfl)) ?_
                exact ih15 _ (by omega) t2 bb2 (k + 1) (some (.int (ei_ (k2)))) u20 u21 m2 rfl (by omega) (hs2) (by rw [do_s (by omega), ← show k2 = vi_ m0 1 1 by omega]; exact hv2) (by omega)
              · refine pw_steps 3 (s' := (55, [some (.ref 47), some (.int (ei_ (a))), some (.int (ei_ (t2))), some (.int (ei_ (bb2))), some (.int (ei_ (k))), some (.int (ei_ (k2))), u20, u21], [.int (ei_ (k)), .ref 52], m2)) rfl ?_
                refine pw_ild rfl rfl (by omega) (fun x28 (hx28 : x28 = vi_ m2 52 k) rx28 sx28 => ?_)
                have ox28 := hx28
                replace hx28 : x28 = vi_ m0 52 k := hx28.trans (sm_v hs2 rfl)
                have b29 := hmw k (by omega) (by omega)
                have b29b := (p1.2.2.1 k (by omega) (by omega)).1
                refine pw_steps 4 (s' := (64, [some (.ref 47), some (.int (ei_ (a))), some (.int (ei_ (t2))), some (.int (ei_ (bb2))), some (.int (ei_ (k))), some (.int (ei_ (k2))), some (.int (ei_ (x28))), u21], [.int (ei_ (k2)), .ref 52], m2)) rfl ?_
                refine pw_ild rfl rfl (by omega) (fun x30 (hx30 : x30 = vi_ m2 52 k2) rx30 sx30 => ?_)
                have ox30 := hx30
                replace hx30 : x30 = vi_ m0 52 k2 := hx30.trans (sm_v hs2 rfl)
                have b31 := hmw k2 (by omega) (by omega)
                have b31b := (p1.2.2.1 k2 (by omega) (by omega)).1
                refine pw_steps 3 (s' := (71, [some (.ref 47), some (.int (ei_ (a))), some (.int (ei_ (t2))), some (.int (ei_ (bb2))), some (.int (ei_ (k))), some (.int (ei_ (k2))), some (.int (ei_ (x28))), some (.int (ei_ (x30)))], [.int (ei_ (x30)), .int (ei_ (x28))], m2)) rfl ?_
                refine pw_cmp rfl ⟨rx28, sx28⟩ ⟨rx30, sx30⟩ (fun (h32 : x28 = x30) => ?_) (fun (h32 : ¬ (x28 = x30)) => ?_)
                · refine pw_steps 2 (s' := (40, [some (.ref 47), some (.int (ei_ (a))), some (.int (ei_ (t2))), some (.int (ei_ (bb2))), some (.int (ei_ (k))), some (.int ((ei_ (k2)) + (ei_ (1)))), some (.int (ei_ (x28))), some (.int (ei_ (x30)))], [], m2)) rfl ?_
                  refine pw_cv (congrArg (fun z_ : Int32 => ((40, [some (.ref 47), some (.int (ei_ (a))), some (.int (ei_ (t2))), some (.int (ei_ (bb2))), some (.int (ei_ (k))), some (.int z_), some (.int (ei_ (x28))), some (.int (ei_ (x30)))], [], m2) : am_S)) (ei_add rfl rfl)) ?_
                  exact ih23 _ (by omega) t2 bb2 (k2 + 1) (some (.int (ei_ (x28)))) (some (.int (ei_ (x30)))) m2 rfl (by omega) (hs2) (by (try have g0_ : gn_ m0 a k k2 = 0 := gn_0 (by omega)); rw [di_s (by omega), ← hv2]; show (bb2, t2 - tz_ m0 a) = if t2 - tz_ m0 a < gn_ m0 a k k2 then (10 * k + k2, gn_ m0 a k k2) else (bb2, t2 - tz_ m0 a); first | (exfalso; omega) | (rw [if_pos (by omega), show t2 - tz_ m0 a = gn_ m0 a k k2 by omega]; done) | (rw [if_neg (by omega)]; done)) (by omega)
                · refine pw_steps 4 (s' := (82, [some (.ref 47), some (.int (ei_ (a))), some (.int (ei_ (t2))), some (.int (ei_ (bb2))), some (.int (ei_ (k))), some (.int (ei_ (k2))), some (.int (ei_ (x28))), some (.int (ei_ (x30)))], [.int (ei_ (x30)), .int (ei_ (k)), .ref 52], m2)) rfl ?_
                  refine pw_ist rfl rfl (by omega) ?_
                  refine pw_steps 4 (s' := (91, [some (.ref 47), some (.int (ei_ (a))), some (.int (ei_ (t2))), some (.int (ei_ (bb2))), some (.int (ei_ (k))), some (.int (ei_ (k2))), some (.int (ei_ (x28))), some (.int (ei_ (x30)))], [.int (ei_ (x28)), .int (ei_ (k2)), .ref 52], wi_ m2 52 (k) (x30))) rfl ?_
                  refine pw_ist rfl rfl (by omega) ?_
                  refine pw_steps 2 (s' := (94, [some (.ref 47), some (.int (ei_ (a))), some (.int (ei_ (t2))), some (.int (ei_ (bb2))), some (.int (ei_ (k))), some (.int (ei_ (k2))), some (.int (ei_ (x28))), some (.int (ei_ (x30)))], [.int (ei_ (a)), .ref 47], wi_ (wi_ m2 52 (k) (x30)) 52 (k2) (x28))) rfl ?_
                  refine pw_call (As := [.int (ei_ (a))]) (st := []) (k := 47) rfl rfl rfl rfl rfl (Nat.le_of_ble_eq_true rfl) ?_
                  refine md_goes (rP_fr (P := pSw) (sm_w (sm_w (sm_le hs2 pSc_Sw) (fun _ _ => rfl)) (fun _ _ => rfl)) rfl rfl (fun _ => rfl) (fun _ => rfl) p0) (mW_w (mW_w (mW_sm hs2 rfl (fun _ => rfl) hmw) (by omega) (by rw [sm_v hs2 (k := 1) (j := 1) rfl]; omega)) (by omega) (by rw [vi_ne (by decide), sm_v hs2 (k := 1) (j := 1) rfl]; omega)) (sm_rfl _) (rL_fr (P := pSw) (sm_w (sm_w (sm_le hs2 pSc_Sw) (fun _ _ => rfl)) (fun _ _ => rfl)) rfl rfl (fun _ => rfl) (fun _ => rfl) p3) (fun j_ a_ b_ => by rw [vi_ne (by decide), vi_ne (by decide), sm_f hs2 (k := 53) (fun _ => rfl)]; exact hmf j_ a_ (by rw [vi_ne (by decide), vi_ne (by decide), sm_v hs2 (k := 1) (j := 1) rfl] at b_; exact b_)) (by omega) (fun m133 g34 g35 => ?_)
                  have hk1_ := (p1.2.2.1 k (by omega) (by omega)).1
                  have hk2_ := (p1.2.2.1 k2 (by omega) (by omega)).1
                  have hkk_ : k ≠ k2 := by omega
                  have hpe_ : x28 = vi_ m0 52 k := by omega
                  have hqe_ : x30 = vi_ m0 52 k2 := by omega
                  have hre_ : ∀ {m7 : am_M}, sm_ pGo (wi_ (wi_ m2 52 k x30) 52 k2 x28) m7 → sm_ pSc m0 (wi_ (wi_ m7 52 k x28) 52 k2 x30) := fun g_ => sm_re2 hs2 g_ hpe_ hqe_ (by omega) (by omega)
                  have hG_ : ∀ j, 0 ≤ j → j < vi_ m0 1 1 → vi_ m133 57 j = lw_w m0 a j (if j = k2 then vi_ m0 4 k else if j = k then vi_ m0 4 k2 else vi_ m0 4 j) := fun j a_ b_ => by
                    rw [g35 j a_ (by rw [vi_ne (by decide), vi_ne (by decide), sm_v hs2 (k := 1) (j := 1) rfl]; exact b_)]
                    exact ex_lf p0 p1 hs2 ⟨by omega, by omega⟩ ⟨by omega, by omega⟩ hkk_ hpe_ hqe_ j ⟨a_, b_⟩
                  refine pw_steps 4 (s' := (105, [some (.ref 47), some (.int (ei_ (a))), some (.int (ei_ (t2))), some (.int (ei_ (bb2))), some (.int (ei_ (k))), some (.int (ei_ (k2))), some (.int (ei_ (x28))), some (.int (ei_ (x30)))], [.int (ei_ (x28)), .int (ei_ (k)), .ref 52], m133)) rfl ?_
                  refine pw_ist rfl rfl (by omega) ?_
                  refine pw_steps 4 (s' := (114, [some (.ref 47), some (.int (ei_ (a))), some (.int (ei_ (t2))), some (.int (ei_ (bb2))), some (.int (ei_ (k))), some (.int (ei_ (k2))), some (.int (ei_ (x28))), some (.int (ei_ (x30)))], [.int (ei_ (x30)), .int (ei_ (k2)), .ref 52], wi_ m133 52 (k) (x28))) rfl ?_
                  refine pw_ist rfl rfl (by omega) ?_
                  refine pw_steps 1 (s' := (116, [some (.ref 47), some (.int (ei_ (a))), some (.int (ei_ (t2))), some (.int (ei_ (bb2))), some (.int (ei_ (k))), some (.int (ei_ (k2))), some (.int (ei_ (x28))), some (.int (ei_ (x30)))], [.ref 47], wi_ (wi_ m133 52 (k) (x28)) 52 (k2) (x30))) rfl ?_
                  refine pw_call (As := []) (st := []) (k := 47) rfl rfl rfl rfl rfl (Nat.le_of_ble_eq_true rfl) ?_
                  refine md_all (p0) (hre_ g34) (fun j a_ b_ => by rw [vi_ne (by decide), vi_ne (by decide), hG_ j a_ b_]; exact lw_b m0 p1 ⟨a_, by omega⟩ (by omega)) (fun x36 g37 g38 => ?_)
                  have ex36_ : x36 = tz_ m0 a + gn_ m0 a k k2 := by
                    rw [g37]; exact (su_cg _ (fun j a_ b_ => by rw [vi_ne (by decide), vi_ne (by decide)]; exact hG_ j a_ (by omega))).trans (ex_su ⟨by omega, by omega⟩ ⟨by omega, by omega⟩ hkk_)
                  refine pw_steps 1 (s' := (120, [some (.ref 47), some (.int (ei_ (a))), some (.int (ei_ (t2))), some (.int (ei_ (bb2))), some (.int (ei_ (k))), some (.int (ei_ (k2))), some (.int (ei_ (x28))), some (.int (ei_ (x30)))], [.int (ei_ (t2)), .int (ei_ (x36))], wi_ (wi_ m133 52 (k) (x28)) 52 (k2) (x30))) rfl ?_
                  refine pw_cmp rfl (by omega) (by omega) (fun (h39 : x36 ≤ t2) => ?_) (fun (h39 : ¬ (x36 ≤ t2)) => ?_)
                  · refine pw_steps 3 (s' := (137, [some (.ref 47), some (.int (ei_ (a))), some (.int (ei_ (t2))), some (.int (ei_ (bb2))), some (.int (ei_ (k))), some (.int (ei_ (k2))), some (.int (ei_ (x28))), some (.int (ei_ (x30)))], [.ref 47], wi_ (wi_ m133 52 (k) (x28)) 52 (k2) (x30))) rfl ?_
                    refine pw_call (As := []) (st := []) (k := 47) rfl rfl rfl rfl rfl (Nat.le_of_ble_eq_true rfl) ?_
                    refine md_all (p0) (hre_ g34) (fun j a_ b_ => by rw [vi_ne (by decide), vi_ne (by decide), hG_ j a_ b_]; exact lw_b m0 p1 ⟨a_, by omega⟩ (by omega)) (fun x40 g41 g42 => ?_)
                    have ex40_ : x40 = tz_ m0 a + gn_ m0 a k k2 := by
                      rw [g41]; exact (su_cg _ (fun j a_ b_ => by rw [vi_ne (by decide), vi_ne (by decide)]; exact hG_ j a_ (by omega))).trans (ex_su ⟨by omega, by omega⟩ ⟨by omega, by omega⟩ hkk_)
                    refine pw_steps 1 (s' := (141, [some (.ref 47), some (.int (ei_ (a))), some (.int (ei_ (t2))), some (.int (ei_ (bb2))), some (.int (ei_ (k))), some (.int (ei_ (k2))), some (.int (ei_ (x28))), some (.int (ei_ (x30)))], [.int (ei_ (t2)), .int (ei_ (x40))], wi_ (wi_ m133 52 (k) (x28)) 52 (k2) (x30))) rfl ?_
                    refine pw_cmpT rfl (by omega) (by omega) (show x40 ≤ t2 by omega) ?_
                    refine pw_steps 4 (s' := (40, [some (.ref 47), some (.int (ei_ (a))), some (.int (ei_ (t2))), some (.int (ei_ (bb2))), some (.int (ei_ (k))), some (.int ((ei_ (k2)) + (ei_ (1)))), some (.int (ei_ (x28))), some (.int (ei_ (x30)))], [], wi_ (wi_ m133 52 (k) (x28)) 52 (k2) (x30))) rfl ?_
                    refine pw_cv (congrArg (fun z_ : Int32 => ((40, [some (.ref 47), some (.int (ei_ (a))), some (.int (ei_ (t2))), some (.int (ei_ (bb2))), some (.int (ei_ (k))), some (.int z_), some (.int (ei_ (x28))), some (.int (ei_ (x30)))], [], wi_ (wi_ m133 52 (k) (x28)) 52 (k2) (x30)) : am_S)) (ei_add rfl rfl)) ?_
                    exact ih23 _ (by omega) t2 bb2 (k2 + 1) (some (.int (ei_ (x28)))) (some (.int (ei_ (x30)))) (wi_ (wi_ m133 52 (k) (x28)) 52 (k2) (x30)) rfl (by omega) (by exact hre_ g34) (by (try have g0_ : gn_ m0 a k k2 = 0 := gn_0 (by omega)); rw [di_s (by omega), ← hv2]; show (bb2, t2 - tz_ m0 a) = if t2 - tz_ m0 a < gn_ m0 a k k2 then (10 * k + k2, gn_ m0 a k k2) else (bb2, t2 - tz_ m0 a); first | (exfalso; omega) | (rw [if_pos (by omega), show t2 - tz_ m0 a = gn_ m0 a k k2 by omega]; done) | (rw [if_neg (by omega)]; done)) (by omega)
                  · refine pw_steps 8 (s' := (137, [some (.ref 47), some (.int (ei_ (a))), some (.int (ei_ (t2))), some (.int (((ei_ (10)) * (ei_ (k))) + (ei_ (k2)))), some (.int (ei_ (k))), some (.int (ei_ (k2))), some (.int (ei_ (x28))), some (.int (ei_ (x30)))], [.ref 47], wi_ (wi_ m133 52 (k) (x28)) 52 (k2) (x30))) rfl ?_
                    refine pw_cv (congrArg (fun z_ : Int32 => ((137, [some (.ref 47), some (.int (ei_ (a))), some (.int (ei_ (t2))), some (.int z_), some (.int (ei_ (k))), some (.int (ei_ (k2))), some (.int (ei_ (x28))), some (.int (ei_ (x30)))], [.ref 47], wi_ (wi_ m133 52 (k) (x28)) 52 (k2) (x30)) : am_S)) (ei_add (ei_mul rfl rfl) rfl)) ?_
                    refine pw_call (As := []) (st := []) (k := 47) rfl rfl rfl rfl rfl (Nat.le_of_ble_eq_true rfl) ?_
                    refine md_all (p0) (hre_ g34) (fun j a_ b_ => by rw [vi_ne (by decide), vi_ne (by decide), hG_ j a_ b_]; exact lw_b m0 p1 ⟨a_, by omega⟩ (by omega)) (fun x43 g44 g45 => ?_)
                    have ex43_ : x43 = tz_ m0 a + gn_ m0 a k k2 := by
                      rw [g44]; exact (su_cg _ (fun j a_ b_ => by rw [vi_ne (by decide), vi_ne (by decide)]; exact hG_ j a_ (by omega))).trans (ex_su ⟨by omega, by omega⟩ ⟨by omega, by omega⟩ hkk_)
                    refine pw_steps 1 (s' := (141, [some (.ref 47), some (.int (ei_ (a))), some (.int (ei_ (t2))), some (.int (ei_ (((10 * k) + k2)))), some (.int (ei_ (k))), some (.int (ei_ (k2))), some (.int (ei_ (x28))), some (.int (ei_ (x30)))], [.int (ei_ (t2)), .int (ei_ (x43))], wi_ (wi_ m133 52 (k) (x28)) 52 (k2) (x30))) rfl ?_
                    refine pw_cmpF rfl (by omega) (by omega) (show ¬ (x43 ≤ t2) by omega) ?_
                    refine pw_steps 1 (s' := (145, [some (.ref 47), some (.int (ei_ (a))), some (.int (ei_ (t2))), some (.int (ei_ (((10 * k) + k2)))), some (.int (ei_ (k))), some (.int (ei_ (k2))), some (.int (ei_ (x28))), some (.int (ei_ (x30)))], [.ref 47], wi_ (wi_ m133 52 (k) (x28)) 52 (k2) (x30))) rfl ?_
                    refine pw_call (As := []) (st := []) (k := 47) rfl rfl rfl rfl rfl (Nat.le_of_ble_eq_true rfl) ?_
                    refine md_all (p0) (hre_ g34) (fun j a_ b_ => by rw [vi_ne (by decide), vi_ne (by decide), hG_ j a_ b_]; exact lw_b m0 p1 ⟨a_, by omega⟩ (by omega)) (fun x46 g47 g48 => ?_)
                    have ex46_ : x46 = tz_ m0 a + gn_ m0 a k k2 := by
                      rw [g47]; exact (su_cg _ (fun j a_ b_ => by rw [vi_ne (by decide), vi_ne (by decide)]; exact hG_ j a_ (by omega))).trans (ex_su ⟨by omega, by omega⟩ ⟨by omega, by omega⟩ hkk_)
                    refine pw_steps 4 (s' := (40, [some (.ref 47), some (.int (ei_ (a))), some (.int (ei_ (x46))), some (.int (ei_ (((10 * k) + k2)))), some (.int (ei_ (k))), some (.int ((ei_ (k2)) + (ei_ (1)))), some (.int (ei_ (x28))), some (.int (ei_ (x30)))], [], wi_ (wi_ m133 52 (k) (x28)) 52 (k2) (x30))) rfl ?_
                    refine pw_cv (congrArg (fun z_ : Int32 => ((40, [some (.ref 47), some (.int (ei_ (a))), some (.int (ei_ (x46))), some (.int (ei_ (((10 * k) + k2)))), some (.int (ei_ (k))), some (.int z_), some (.int (ei_ (x28))), some (.int (ei_ (x30)))], [], wi_ (wi_ m133 52 (k) (x28)) 52 (k2) (x30)) : am_S)) (ei_add rfl rfl)) ?_
                    exact ih23 _ (by omega) x46 ((10 * k) + k2) (k2 + 1) (some (.int (ei_ (x28)))) (some (.int (ei_ (x30)))) (wi_ (wi_ m133 52 (k) (x28)) 52 (k2) (x30)) rfl (by omega) (by exact hre_ g34) (by (try have g0_ : gn_ m0 a k k2 = 0 := gn_0 (by omega)); rw [di_s (by omega), ← hv2]; show (((10 * k) + k2), x46 - tz_ m0 a) = if t2 - tz_ m0 a < gn_ m0 a k k2 then (10 * k + k2, gn_ m0 a k k2) else (bb2, t2 - tz_ m0 a); first | (exfalso; omega) | (rw [if_pos (by omega), show x46 - tz_ m0 a = gn_ m0 a k k2 by omega]; done) | (rw [if_neg (by omega)]; done)) (by omega)
          exact L24 _ t bb (k + 1) u12 u13 m1 rfl (by omega) (hs) (by rw [Int.sub_self, ← hv]; rfl) (by omega)
    exact L16 _ x8 (-2) 0 none none none m15 rfl (by omega) ((sm_tr p4 (sm_le g6 pGo_Sc))) (by rw [et_, Int.sub_self]; rfl) (by omega)
  · refine pw_iret rfl rfl rfl ?_
    refine pw_ifF rfl (by decide) (show ¬ (¬ 0 = 0) by decide) ?_
    refine pw_steps 1 (s' := (8, [some (.ref 47), some (.int (ei_ (a))), none, none, none, none, none, none], [.int (ei_ ((-1)))], m)) rfl ?_
    refine pw_iret rfl rfl rfl ?_
    exact k0 (-1) m (by unfold sd_d; rw [if_neg (by omega)]) (p4)
  · refine pw_iret rfl rfl rfl ?_
    refine pw_ifF rfl (by decide) (show ¬ (¬ 0 = 0) by decide) ?_
    refine pw_steps 1 (s' := (8, [some (.ref 47), some (.int (ei_ (a))), none, none, none, none, none, none], [.int (ei_ ((-1)))], m)) rfl ?_
    refine pw_iret rfl rfl rfl ?_
    exact k0 (-1) m (by unfold sd_d; rw [if_neg (by omega)]) (p4)

theorem op_doors {q : am_X} {d : Nat} {m : am_M} {a : Int} (q0 : -2147483648 ≤ a ∧ a < 2147483648) (hR : rR_ m) : pw_C q (d + 60) 98 [.ref 0, .int (ei_ a)] m (fun r1 m1 => pw_C q (d + 60) 232 [.ref 47, .int (ei_ a)] m1 (fun r2 m2 => ∃ x : Int, r1 = some (.int (ei_ x)) ∧ r2 = some (.int (ei_ x)) ∧ rR_ m2)) := by
  obtain ⟨hp, hd, hi, ht, hl, hz, hc, ha, hs⟩ := id hR
  refine cs_doors hp hd hz hl (sm_rfl m) q0 (fun x m1 e1 g1 => ?_)
  refine ms_doors hp hd hz hl g1 q0 (fun y m2 e2 g2 => ?_)
  exact ⟨x, rfl, by rw [e2, ← e1], rR_sm g2 hR⟩

