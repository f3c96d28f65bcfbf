
/-! ===== MODEL: days ===== -/
/-- the law of both: none, or the text's steps -/
def rL_ (m : am_M) : Prop := (vi_ m 47 12 = -1 ∧ vi_ m 14 3 = 0) ∨ (∃ (B : Int → Int) (n : Int), vi_ m 47 12 = n ∧ (0 ≤ n ∧ n ≤ 120) ∧ (∀ j, 0 ≤ j → j < n → 0 ≤ B j ∧ B j ≤ 255) ∧ (∀ j, 0 ≤ j → j < n → vi_ m 55 j = B j) ∧ ((pg_ B n 900 121 0).1 = 1 ∧ (pg_ B n 900 121 0).2.1 = n) ∧ dr_ (vi_ m 15) 0 (vi_ m 14 3).toNat = (pg_ B n 900 121 0).2.2 ∧ ¬ vi_ m 14 3 = 0)
/-- how much of a is burnt in a day of cold c, in the model's eyes -/
def bn_ (m : am_M) (a c : Int) : Int := rt_ m (vi_ m 52 a) a (cn_ (vi_ m 52) (vi_ m 52 a) (vi_ m 1 1).toNat) c
theorem bn_b (m : am_M) (a c : Int) : 0 ≤ bn_ m a c ∧ bn_ m a c ≤ 99 := rt_b _ _ _ _ _
theorem pRd_Pr : ∀ k j, pPr k j = false → pRd k j = false := by
  intro k j h
  simp only [pPr, pRd, Bool.or_eq_false_iff] at h ⊢
  exact h.2
theorem pPr_Go : ∀ k j, pGo k j = false → pPr k j = false := by
  intro k j h
  simp only [pPr, pGo, Bool.or_eq_false_iff] at h ⊢
  exact ⟨h.1.1, h.2⟩
theorem pGo_Sc : ∀ k j, pSc k j = false → pGo k j = false := by
  intro k j h
  simp only [pSc, pGo, Bool.or_eq_false_iff, Bool.and_eq_false_iff, beq_eq_false_iff_ne, decide_eq_false_iff_not] at h ⊢
  omega
theorem pPr_Sc : ∀ k j, pSc k j = false → pPr k j = false := fun k j h => pPr_Go k j (pGo_Sc k j h)
theorem vi_wo {m : am_M} {s o n c f g : Int} (hs : 0 ≤ s ∧ s ≤ 99) (ho : 0 ≤ o ∧ o ≤ 99) (hn : 0 ≤ n ∧ n ≤ 99) (hc : 0 ≤ c ∧ c ≤ 99) (hf : 0 ≤ f ∧ f ≤ 99) (hg : 0 ≤ g ∧ g ≤ 99) : ∀ i, 0 ≤ i → i < 6 → vi_ (wi_ (wi_ (wi_ (wi_ (wi_ (wi_ m 56 0 s) 56 1 o) 56 2 n) 56 3 c) 56 4 f) 56 5 g) 56 i = nv_ s o n c f g i := by
  intro i h1 h2
  rw [vi_up (by omega) (by omega) h1, vi_up (by omega) (by omega) h1, vi_up (by omega) (by omega) h1, vi_up (by omega) (by omega) h1, vi_up (by omega) (by omega) h1, vi_up (by omega) (by omega) h1]
  unfold nv_
  rcases (show i = 0 ∨ i = 1 ∨ i = 2 ∨ i = 3 ∨ i = 4 ∨ i = 5 by omega) with h | h | h | h | h | h <;> subst h <;> rfl

set_option maxHeartbeats 4000000 in
set_option maxRecDepth 20000 in
theorem mw_many {q : am_X} {d : Nat} {m : am_M} {Q : Option Value → am_M → Prop} {m0 : am_M} {p : Int}  (p0 : rP_ m0) (p1 : sm_ pSc m0 m) (p2 : -2147483648 ≤ p ∧ p < 2147483648) (k0 : ∀ (x : Int), (x = cn_ (vi_ m0 52) p (vi_ m0 1 1).toNat) → (0 ≤ x ∧ x ≤ 8) → Q (some (.int (ei_ (x)))) m) : pw_C q (d + 1) 188 [.ref 47, .int (ei_ (p))] m Q := by
  obtain ⟨hP1, hP2, hP3, hP4⟩ := id p0
  refine pw_intro (I := iX9_wearsMany) (T := tX9_wearsMany) rfl rfl rfl ?_
  refine pw_steps 4 (s' := (4, [some (.ref 47), some (.int (ei_ (p))), some (.int (ei_ (0))), some (.int (ei_ (0)))], [], m)) rfl ?_
  have L3 : ∀ (n1 : Nat) (w : Int) (k : Int), (vi_ m0 1 1 - k).toNat = n1 → (0 ≤ k ∧ k ≤ vi_ m0 1 1) → (w = cn_ (vi_ m0 52) p k.toNat) → pw_V q (d) iX9_wearsMany.2.2.2.1 tX9_wearsMany Q (4, [some (.ref 47), some (.int (ei_ (p))), some (.int (ei_ (w))), some (.int (ei_ (k)))], [], m) := by
    intro n1
    induction n1 using Nat.strongRecOn with
    | _ n1 ih2 =>
      intro w k hm_n1 v4 hw
      refine pw_steps 2 (s' := (6, [some (.ref 47), some (.int (ei_ (p))), some (.int (ei_ (w))), some (.int (ei_ (k)))], [.ref 47, .int (ei_ (k))], m)) rfl ?_
      refine pw_get rfl rfl (fun x5 (hx5 : x5 = vi_ m 47 6) rx5 sx5 => ?_)
      have ox5 := hx5
      replace hx5 : x5 = vi_ m0 47 6 := hx5.trans (sm_v p1 rfl)
      refine pw_cmp rfl (by omega) ⟨rx5, sx5⟩ (fun (h6 : x5 ≤ k) => ?_) (fun (h6 : ¬ (x5 ≤ k)) => ?_)
      · refine pw_steps 1 (s' := (37, [some (.ref 47), some (.int (ei_ (p))), some (.int (ei_ (w))), some (.int (ei_ (k)))], [.int (ei_ (w))], m)) rfl ?_
        refine pw_iret rfl rfl rfl ?_
        exact k0 w (by have e : k = vi_ m0 1 1 := (by omega); have hb := cn_b (vi_ m0 52) p (vi_ m0 1 1).toNat; rw [e] at hw; first | exact hw | omega) (by have e : k = vi_ m0 1 1 := (by omega); have hb := cn_b (vi_ m0 52) p (vi_ m0 1 1).toNat; rw [e] at hw; first | exact hw | omega)
      · refine pw_steps 4 (s' := (18, [some (.ref 47), some (.int (ei_ (p))), some (.int (ei_ (w))), some (.int (ei_ (k)))], [.int (ei_ (k)), .ref 52, .int (ei_ (w))], m)) rfl ?_
        refine pw_ild rfl rfl (by omega) (fun x7 (hx7 : x7 = vi_ m 52 k) rx7 sx7 => ?_)
        have ox7 := hx7
        replace hx7 : x7 = vi_ m0 52 k := hx7.trans (sm_v p1 rfl)
        refine pw_steps 1 (s' := (20, [some (.ref 47), some (.int (ei_ (p))), some (.int (ei_ (w))), some (.int (ei_ (k)))], [.int (ei_ (p)), .int (ei_ (x7)), .int (ei_ (w))], m)) rfl ?_
        refine pw_cmp rfl ⟨rx7, sx7⟩ p2 (fun (h8 : ¬ x7 = p) => ?_) (fun (h8 : ¬ ¬ x7 = p) => ?_)
        · refine pw_steps 5 (s' := (4, [some (.ref 47), some (.int (ei_ (p))), some (.int ((ei_ (w)) + (ei_ (0)))), some (.int ((ei_ (k)) + (ei_ (1))))], [], m)) rfl ?_
          refine pw_cv (congrArg (fun z_ : Int32 => ((4, [some (.ref 47), some (.int (ei_ (p))), some (.int z_), some (.int ((ei_ (k)) + (ei_ (1))))], [], m) : am_S)) (ei_add rfl rfl)) ?_
          refine pw_cv (congrArg (fun z_ : Int32 => ((4, [some (.ref 47), some (.int (ei_ (p))), some (.int (ei_ ((w + 0)))), some (.int z_)], [], m) : am_S)) (ei_add rfl rfl)) ?_
          exact ih2 _ (by omega) (w + 0) (k + 1) rfl (by omega) (by simp only [cn_s (show 0 ≤ k by omega)]; split <;> omega)
        · refine pw_steps 6 (s' := (4, [some (.ref 47), some (.int (ei_ (p))), some (.int ((ei_ (w)) + (ei_ (1)))), some (.int ((ei_ (k)) + (ei_ (1))))], [], m)) rfl ?_
          refine pw_cv (congrArg (fun z_ : Int32 => ((4, [some (.ref 47), some (.int (ei_ (p))), some (.int z_), some (.int ((ei_ (k)) + (ei_ (1))))], [], m) : am_S)) (ei_add rfl rfl)) ?_
          refine pw_cv (congrArg (fun z_ : Int32 => ((4, [some (.ref 47), some (.int (ei_ (p))), some (.int (ei_ ((w + 1)))), some (.int z_)], [], m) : am_S)) (ei_add rfl rfl)) ?_
          exact ih2 _ (by omega) (w + 1) (k + 1) rfl (by omega) (by simp only [cn_s (show 0 ≤ k by omega)]; split <;> omega)
  exact L3 _ 0 0 rfl (by omega) (by rfl)

set_option maxHeartbeats 4000000 in
set_option maxRecDepth 20000 in
theorem mb_burns0 {q : am_X} {d : Nat} {m : am_M} {Q : Option Value → am_M → Prop} {name : Int} {cold : Int} {m0 : am_M} (q1 : vi_ m0 47 12 = -1) (q2 : vi_ m0 14 3 = 0) (p0 : rP_ m0) (p1 : mW_ m0) (p2 : sm_ pSc m0 m) (p3 : 0 ≤ name ∧ name < vi_ m0 1 1) (p4 : 0 ≤ cold ∧ cold ≤ 9) (k0 : ∀ (x : Int) (m1 : am_M), (sm_ pPr m m1) → (x = bn_ m0 name cold) → (0 ≤ x ∧ x ≤ 99) → Q (some (.int (ei_ (x)))) m1) : pw_C q (d + 50) 203 [.ref 47, .int (ei_ (name)), .int (ei_ (cold))] m Q := by
  obtain ⟨hP1, hP2, hP3, hP4⟩ := id p0
  refine pw_intro (I := iX9_burnsIn) (T := tX9_burnsIn) rfl rfl rfl ?_
  refine pw_steps 3 (s' := (5, [some (.ref 47), some (.int (ei_ (name))), some (.int (ei_ (cold))), none, none, none, none, none, none], [.int (ei_ (name)), .ref 52], m)) rfl ?_
  refine pw_ild rfl rfl (by omega) (fun x1 (hx1 : x1 = vi_ m 52 name) rx1 sx1 => ?_)
  have ox1 := hx1
  replace hx1 : x1 = vi_ m0 52 name := hx1.trans (sm_v p2 rfl)
  have b2 := p1 name (by omega) (by omega)
  refine pw_steps 4 (s' := (10, [some (.ref 47), some (.int (ei_ (name))), some (.int (ei_ (cold))), some (.int (ei_ (x1))), none, none, none, none, none], [.int (ei_ (3)), .int (ei_ (x1)), .ref 47], m)) rfl ?_
  refine pw_call (As := [.int (ei_ (x1)), .int (ei_ (3))]) (st := []) (k := 47) rfl rfl rfl rfl rfl (Nat.le_of_ble_eq_true rfl) ?_
  refine pw_intro (I := iX9_ofOne) (T := tX9_ofOne) rfl rfl rfl ?_
  refine pw_steps 7 (s' := (10, [some (.ref 47), some (.int (ei_ (x1))), some (.int (ei_ (3)))], [.int (((ei_ (8)) * (ei_ (3))) + (ei_ (x1))), .ref 48], m)) rfl ?_
  refine pw_cv (congrArg (fun z_ : Int32 => ((10, [some (.ref 47), some (.int (ei_ (x1))), some (.int (ei_ (3)))], [.int z_, .ref 48], m) : am_S)) (ei_add (ei_mul rfl rfl) rfl)) ?_
  refine pw_ild rfl rfl (by omega) (fun x3 (hx3 : x3 = vi_ m 48 (24 + x1)) rx3 sx3 => ?_)
  have ox3 := hx3
  replace hx3 : x3 = vi_ m0 48 (24 + x1) := hx3.trans (sm_v p2 rfl)
  have b4 := hP3 (24 + x1) (by omega) (by omega)
  rw [b4.2.2] at hx3
  refine pw_iret rfl rfl rfl ?_
  refine pw_steps 1 (s' := (14, [some (.ref 47), some (.int (ei_ (name))), some (.int (ei_ (cold))), some (.int (ei_ (x1))), none, none, none, none, none], [.int (ei_ (1)), .int (ei_ (x3))], m)) rfl ?_
  refine pw_cmp rfl ⟨rx3, sx3⟩ (by decide) (fun (h5 : ¬ x3 = 1) => ?_) (fun (h5 : ¬ ¬ x3 = 1) => ?_)
  · refine pw_steps 3 (s' := (26, [some (.ref 47), some (.int (ei_ (name))), some (.int (ei_ (cold))), some (.int (ei_ (x1))), some (.int (ei_ (0))), none, none, none, none], [.int (ei_ (0))], m)) rfl ?_
    refine pw_ifT rfl (by decide) (show 0 = 0 by decide) ?_
    refine pw_steps 3 (s' := (36, [some (.ref 47), some (.int (ei_ (name))), some (.int (ei_ (cold))), some (.int (ei_ (x1))), some (.int (ei_ (0))), none, none, none, none], [.int (ei_ (1)), .int (ei_ (x1)), .ref 47], m)) rfl ?_
    refine pw_call (As := [.int (ei_ (x1)), .int (ei_ (1))]) (st := []) (k := 47) rfl rfl rfl rfl rfl (Nat.le_of_ble_eq_true rfl) ?_
    refine pw_intro (I := iX9_ofOne) (T := tX9_ofOne) rfl rfl rfl ?_
    refine pw_steps 7 (s' := (10, [some (.ref 47), some (.int (ei_ (x1))), some (.int (ei_ (1)))], [.int (((ei_ (8)) * (ei_ (1))) + (ei_ (x1))), .ref 48], m)) rfl ?_
    refine pw_cv (congrArg (fun z_ : Int32 => ((10, [some (.ref 47), some (.int (ei_ (x1))), some (.int (ei_ (1)))], [.int z_, .ref 48], m) : am_S)) (ei_add (ei_mul rfl rfl) rfl)) ?_
    refine pw_ild rfl rfl (by omega) (fun x6 (hx6 : x6 = vi_ m 48 (8 + x1)) rx6 sx6 => ?_)
    have ox6 := hx6
    replace hx6 : x6 = vi_ m0 48 (8 + x1) := hx6.trans (sm_v p2 rfl)
    have b7 := hP3 (8 + x1) (by omega) (by omega)
    rw [b7.2.2] at hx6
    refine pw_iret rfl rfl rfl ?_
    refine pw_steps 2 (s' := (43, [some (.ref 47), some (.int (ei_ (name))), some (.int (ei_ (cold))), some (.int (ei_ (x1))), some (.int (ei_ (0))), some (.int (ei_ (x6))), none, none, none], [.int (ei_ (0))], m)) rfl ?_
    refine pw_ifT rfl (by decide) (show 0 = 0 by decide) ?_
    refine pw_steps 4 (s' := (61, [some (.ref 47), some (.int (ei_ (name))), some (.int (ei_ (cold))), some (.int (ei_ (x1))), some (.int (ei_ (0))), some (.int (ei_ (x6))), some (.int (ei_ (0))), none, none], [.int (ei_ (x1)), .ref 47], m)) rfl ?_
    refine pw_call (As := [.int (ei_ (x1))]) (st := []) (k := 47) rfl rfl rfl rfl rfl (Nat.le_of_ble_eq_true rfl) ?_
    refine mw_many (p0) (p2) (by omega) (fun x8 g9 g10 => ?_)
    refine pw_steps 5 (s' := (70, [some (.ref 47), some (.int (ei_ (name))), some (.int (ei_ (cold))), some (.int (ei_ (x1))), some (.int (ei_ (0))), some (.int (ei_ (x6))), some (.int (ei_ (0))), some (.int (ei_ (x8))), none], [.int (ei_ (0)), .int (ei_ (name)), .ref 47, .int (ei_ (cold))], m)) rfl ?_
    refine pw_call (As := [.int (ei_ (name)), .int (ei_ (0))]) (st := [.int (ei_ (cold))]) (k := 47) rfl rfl rfl rfl rfl (Nat.le_of_ble_eq_true rfl) ?_
    refine pw_intro (I := iX9_ofOne) (T := tX9_ofOne) rfl rfl rfl ?_
    refine pw_steps 7 (s' := (10, [some (.ref 47), some (.int (ei_ (name))), some (.int (ei_ (0)))], [.int (((ei_ (8)) * (ei_ (0))) + (ei_ (name))), .ref 48], m)) rfl ?_
    refine pw_cv (congrArg (fun z_ : Int32 => ((10, [some (.ref 47), some (.int (ei_ (name))), some (.int (ei_ (0)))], [.int z_, .ref 48], m) : am_S)) (ei_add (ei_mul rfl rfl) rfl)) ?_
    refine pw_ild rfl rfl (by omega) (fun x11 (hx11 : x11 = vi_ m 48 (0 + name)) rx11 sx11 => ?_)
    have ox11 := hx11
    replace hx11 : x11 = vi_ m0 48 (0 + name) := hx11.trans (sm_v p2 rfl)
    have b12 := hP3 (0 + name) (by omega) (by omega)
    rw [b12.2.2] at hx11
    refine pw_iret rfl rfl rfl ?_
    refine pw_steps 12 (s' := (89, [some (.ref 47), some (.int (ei_ (name))), some (.int (ei_ (cold))), some (.int (ei_ (x1))), some (.int (ei_ (0))), some (.int (ei_ (x6))), some (.int (ei_ (0))), some (.int (ei_ (x8))), some (.int ((((((ei_ (cold)) * (ei_ (x11))) - ((ei_ (2)) * (ei_ (x6)))) - (ei_ (0))) + (ei_ (x8))) - (ei_ (1))))], [], m)) rfl ?_
    refine pw_cv (congrArg (fun z_ : Int32 => ((89, [some (.ref 47), some (.int (ei_ (name))), some (.int (ei_ (cold))), some (.int (ei_ (x1))), some (.int (ei_ (0))), some (.int (ei_ (x6))), some (.int (ei_ (0))), some (.int (ei_ (x8))), some (.int z_)], [], m) : am_S)) (ei_sub (ei_add (ei_sub (ei_sub (ei_mul rfl rfl) (ei_mul rfl rfl)) rfl) rfl) rfl)) ?_
    have hcs : 0 ≤ cold * x11 ∧ cold * x11 ≤ 81 := ⟨Int.mul_nonneg (by omega) (by omega), Int.le_trans (Int.mul_le_mul (by omega : cold ≤ 9) (by omega : x11 ≤ 9) (by omega) (by omega)) (by omega)⟩
    refine pw_steps 1 (s' := (90, [some (.ref 47), some (.int (ei_ (name))), some (.int (ei_ (cold))), some (.int (ei_ (x1))), some (.int (ei_ (0))), some (.int (ei_ (x6))), some (.int (ei_ (0))), some (.int (ei_ (x8))), some (.int (ei_ ((((((cold * x11) - (2 * x6)) - 0) + x8) - 1))))], [.ref 47], m)) rfl ?_
    refine pw_get rfl rfl (fun x13 (hx13 : x13 = vi_ m 47 12) rx13 sx13 => ?_)
    replace hx13 : x13 = vi_ m0 47 12 := hx13.trans (sm_v p2 rfl)
    replace hx13 : x13 = (-1) := hx13.trans q1
    subst x13
    refine pw_ifT rfl (by decide) (show (-1) < 0 by decide) ?_
    refine pw_steps 1 (s' := (168, [some (.ref 47), some (.int (ei_ (name))), some (.int (ei_ (cold))), some (.int (ei_ (x1))), some (.int (ei_ (0))), some (.int (ei_ (x6))), some (.int (ei_ (0))), some (.int (ei_ (x8))), some (.int (ei_ ((((((cold * x11) - (2 * x6)) - 0) + x8) - 1))))], [.int (ei_ ((((((cold * x11) - (2 * x6)) - 0) + x8) - 1)))], m)) rfl ?_
    refine pw_if rfl (by omega) (fun (h14 : 0 ≤ (((((cold * x11) - (2 * x6)) - 0) + x8) - 1)) => ?_) (fun (h14 : ¬ (0 ≤ (((((cold * x11) - (2 * x6)) - 0) + x8) - 1))) => ?_)
    · refine pw_steps 2 (s' := (179, [some (.ref 47), some (.int (ei_ (name))), some (.int (ei_ (cold))), some (.int (ei_ (x1))), some (.int (ei_ (0))), some (.int (ei_ (x6))), some (.int (ei_ (0))), some (.int (ei_ (x8))), some (.int (ei_ ((((((cold * x11) - (2 * x6)) - 0) + x8) - 1))))], [.int (ei_ (99)), .int (ei_ ((((((cold * x11) - (2 * x6)) - 0) + x8) - 1)))], m)) rfl ?_
      refine pw_cmp rfl (by omega) (by decide) (fun (h15 : (((((cold * x11) - (2 * x6)) - 0) + x8) - 1) ≤ 99) => ?_) (fun (h15 : ¬ ((((((cold * x11) - (2 * x6)) - 0) + x8) - 1) ≤ 99)) => ?_)
      · refine pw_steps 1 (s' := (189, [some (.ref 47), some (.int (ei_ (name))), some (.int (ei_ (cold))), some (.int (ei_ (x1))), some (.int (ei_ (0))), some (.int (ei_ (x6))), some (.int (ei_ (0))), some (.int (ei_ (x8))), some (.int (ei_ ((((((cold * x11) - (2 * x6)) - 0) + x8) - 1))))], [.int (ei_ ((((((cold * x11) - (2 * x6)) - 0) + x8) - 1)))], m)) rfl ?_
        refine pw_iret rfl rfl rfl ?_
        have hm_ : x8 = cn_ (vi_ m0 52) (vi_ m0 52 name) (vi_ m0 1 1).toNat := by rw [← hx1]; exact g9
        have hg_ : (if x1 = name then (0 : Int) else 1) = (if x1 = name then 0 else 1) := by omega
        have hr_ : (((((cold * x11) - (2 * x6)) - 0) + x8) - 1) = rt_ m0 x1 name x8 cold := rt_of (g := if x1 = name then 0 else 1) (show (((((cold * x11) - (2 * x6)) - 0) + x8) - 1) = lw_v m0 x11 x6 x8 cold 0 (if x1 = name then 0 else 1) from by rw [lw_v, if_pos q2]; unfold hd_; omega) (by rw [Int.zero_add] at hx11; exact hx11) (by omega) (by omega) rfl
        exact k0 (((((cold * x11) - (2 * x6)) - 0) + x8) - 1) _ (sm_rfl m) (by rw [bn_, ← hm_, ← hx1]; exact hr_) (by omega)
      · refine pw_steps 2 (s' := (189, [some (.ref 47), some (.int (ei_ (name))), some (.int (ei_ (cold))), some (.int (ei_ (x1))), some (.int (ei_ (0))), some (.int (ei_ (x6))), some (.int (ei_ (0))), some (.int (ei_ (x8))), some (.int (ei_ ((((((cold * x11) - (2 * x6)) - 0) + x8) - 1))))], [.int (ei_ (99))], m)) rfl ?_
        refine pw_iret rfl rfl rfl ?_
        have hm_ : x8 = cn_ (vi_ m0 52) (vi_ m0 52 name) (vi_ m0 1 1).toNat := by rw [← hx1]; exact g9
        have hg_ : (if x1 = name then (0 : Int) else 1) = (if x1 = name then 0 else 1) := by omega
        have hr_ : 99 = rt_ m0 x1 name x8 cold := rt_of (g := if x1 = name then 0 else 1) (show 99 = lw_v m0 x11 x6 x8 cold 0 (if x1 = name then 0 else 1) from by rw [lw_v, if_pos q2]; unfold hd_; omega) (by rw [Int.zero_add] at hx11; exact hx11) (by omega) (by omega) rfl
        exact k0 99 _ (sm_rfl m) (by rw [bn_, ← hm_, ← hx1]; exact hr_) (by omega)
    · refine pw_steps 2 (s' := (189, [some (.ref 47), some (.int (ei_ (name))), some (.int (ei_ (cold))), some (.int (ei_ (x1))), some (.int (ei_ (0))), some (.int (ei_ (x6))), some (.int (ei_ (0))), some (.int (ei_ (x8))), some (.int (ei_ ((((((cold * x11) - (2 * x6)) - 0) + x8) - 1))))], [.int (ei_ (0))], m)) rfl ?_
      refine pw_iret rfl rfl rfl ?_
      have hm_ : x8 = cn_ (vi_ m0 52) (vi_ m0 52 name) (vi_ m0 1 1).toNat := by rw [← hx1]; exact g9
      have hg_ : (if x1 = name then (0 : Int) else 1) = (if x1 = name then 0 else 1) := by omega
      have hr_ : 0 = rt_ m0 x1 name x8 cold := rt_of (g := if x1 = name then 0 else 1) (show 0 = lw_v m0 x11 x6 x8 cold 0 (if x1 = name then 0 else 1) from by rw [lw_v, if_pos q2]; unfold hd_; omega) (by rw [Int.zero_add] at hx11; exact hx11) (by omega) (by omega) rfl
      exact k0 0 _ (sm_rfl m) (by rw [bn_, ← hm_, ← hx1]; exact hr_) (by omega)
  · refine pw_steps 4 (s' := (26, [some (.ref 47), some (.int (ei_ (name))), some (.int (ei_ (cold))), some (.int (ei_ (x1))), some (.int (ei_ (1))), none, none, none, none], [.int (ei_ (1))], m)) rfl ?_
    refine pw_ifF rfl (by decide) (show ¬ (1 = 0) by decide) ?_
    refine pw_steps 4 (s' := (43, [some (.ref 47), some (.int (ei_ (name))), some (.int (ei_ (cold))), some (.int (ei_ (x1))), some (.int (ei_ (1))), some (.int (ei_ (0))), none, none, none], [.int (ei_ (1))], m)) rfl ?_
    refine pw_ifF rfl (by decide) (show ¬ (1 = 0) by decide) ?_
    refine pw_steps 3 (s' := (52, [some (.ref 47), some (.int (ei_ (name))), some (.int (ei_ (cold))), some (.int (ei_ (x1))), some (.int (ei_ (1))), some (.int (ei_ (0))), none, none, none], [.int (ei_ (33)), .ref 48], m)) rfl ?_
    refine pw_ild rfl rfl (by omega) (fun x16 (hx16 : x16 = vi_ m 48 33) rx16 sx16 => ?_)
    have ox16 := hx16
    replace hx16 : x16 = vi_ m0 48 33 := hx16.trans (sm_v p2 rfl)
    have b17 := hP3 33 (by omega) (by omega)
    rw [b17.2.2] at hx16
    refine pw_steps 4 (s' := (61, [some (.ref 47), some (.int (ei_ (name))), some (.int (ei_ (cold))), some (.int (ei_ (x1))), some (.int (ei_ (1))), some (.int (ei_ (0))), some (.int (ei_ (x16))), none, none], [.int (ei_ (x1)), .ref 47], m)) rfl ?_
    refine pw_call (As := [.int (ei_ (x1))]) (st := []) (k := 47) rfl rfl rfl rfl rfl (Nat.le_of_ble_eq_true rfl) ?_
    refine mw_many (p0) (p2) (by omega) (fun x18 g19 g20 => ?_)
    refine pw_steps 5 (s' := (70, [some (.ref 47), some (.int (ei_ (name))), some (.int (ei_ (cold))), some (.int (ei_ (x1))), some (.int (ei_ (1))), some (.int (ei_ (0))), some (.int (ei_ (x16))), some (.int (ei_ (x18))), none], [.int (ei_ (0)), .int (ei_ (name)), .ref 47, .int (ei_ (cold))], m)) rfl ?_
    refine pw_call (As := [.int (ei_ (name)), .int (ei_ (0))]) (st := [.int (ei_ (cold))]) (k := 47) rfl rfl rfl rfl rfl (Nat.le_of_ble_eq_true rfl) ?_
    refine pw_intro (I := iX9_ofOne) (T := tX9_ofOne) rfl rfl rfl ?_
    refine pw_steps 7 (s' := (10, [some (.ref 47), some (.int (ei_ (name))), some (.int (ei_ (0)))], [.int (((ei_ (8)) * (ei_ (0))) + (ei_ (name))), .ref 48], m)) rfl ?_
    refine pw_cv (congrArg (fun z_ : Int32 => ((10, [some (.ref 47), some (.int (ei_ (name))), some (.int (ei_ (0)))], [.int z_, .ref 48], m) : am_S)) (ei_add (ei_mul rfl rfl) rfl)) ?_
    refine pw_ild rfl rfl (by omega) (fun x21 (hx21 : x21 = vi_ m 48 (0 + name)) rx21 sx21 => ?_)
    have ox21 := hx21
    replace hx21 : x21 = vi_ m0 48 (0 + name) := hx21.trans (sm_v p2 rfl)
    have b22 := hP3 (0 + name) (by omega) (by omega)
    rw [b22.2.2] at hx21
    refine pw_iret rfl rfl rfl ?_
    refine pw_steps 12 (s' := (89, [some (.ref 47), some (.int (ei_ (name))), some (.int (ei_ (cold))), some (.int (ei_ (x1))), some (.int (ei_ (1))), some (.int (ei_ (0))), some (.int (ei_ (x16))), some (.int (ei_ (x18))), some (.int ((((((ei_ (cold)) * (ei_ (x21))) - ((ei_ (2)) * (ei_ (0)))) - (ei_ (x16))) + (ei_ (x18))) - (ei_ (1))))], [], m)) rfl ?_
    refine pw_cv (congrArg (fun z_ : Int32 => ((89, [some (.ref 47), some (.int (ei_ (name))), some (.int (ei_ (cold))), some (.int (ei_ (x1))), some (.int (ei_ (1))), some (.int (ei_ (0))), some (.int (ei_ (x16))), some (.int (ei_ (x18))), some (.int z_)], [], m) : am_S)) (ei_sub (ei_add (ei_sub (ei_sub (ei_mul rfl rfl) (ei_mul rfl rfl)) rfl) rfl) rfl)) ?_
    have hcs : 0 ≤ cold * x21 ∧ cold * x21 ≤ 81 := ⟨Int.mul_nonneg (by omega) (by omega), Int.le_trans (Int.mul_le_mul (by omega : cold ≤ 9) (by omega : x21 ≤ 9) (by omega) (by omega)) (by omega)⟩
    refine pw_steps 1 (s' := (90, [some (.ref 47), some (.int (ei_ (name))), some (.int (ei_ (cold))), some (.int (ei_ (x1))), some (.int (ei_ (1))), some (.int (ei_ (0))), some (.int (ei_ (x16))), some (.int (ei_ (x18))), some (.int (ei_ ((((((cold * x21) - 0) - x16) + x18) - 1))))], [.ref 47], m)) rfl ?_
    refine pw_get rfl rfl (fun x23 (hx23 : x23 = vi_ m 47 12) rx23 sx23 => ?_)
    replace hx23 : x23 = vi_ m0 47 12 := hx23.trans (sm_v p2 rfl)
    replace hx23 : x23 = (-1) := hx23.trans q1
    subst x23
    refine pw_ifT rfl (by decide) (show (-1) < 0 by decide) ?_
    refine pw_steps 1 (s' := (168, [some (.ref 47), some (.int (ei_ (name))), some (.int (ei_ (cold))), some (.int (ei_ (x1))), some (.int (ei_ (1))), some (.int (ei_ (0))), some (.int (ei_ (x16))), some (.int (ei_ (x18))), some (.int (ei_ ((((((cold * x21) - 0) - x16) + x18) - 1))))], [.int (ei_ ((((((cold * x21) - 0) - x16) + x18) - 1)))], m)) rfl ?_
    refine pw_if rfl (by omega) (fun (h24 : 0 ≤ (((((cold * x21) - 0) - x16) + x18) - 1)) => ?_) (fun (h24 : ¬ (0 ≤ (((((cold * x21) - 0) - x16) + x18) - 1))) => ?_)
    · refine pw_steps 2 (s' := (179, [some (.ref 47), some (.int (ei_ (name))), some (.int (ei_ (cold))), some (.int (ei_ (x1))), some (.int (ei_ (1))), some (.int (ei_ (0))), some (.int (ei_ (x16))), some (.int (ei_ (x18))), some (.int (ei_ ((((((cold * x21) - 0) - x16) + x18) - 1))))], [.int (ei_ (99)), .int (ei_ ((((((cold * x21) - 0) - x16) + x18) - 1)))], m)) rfl ?_
      refine pw_cmp rfl (by omega) (by decide) (fun (h25 : (((((cold * x21) - 0) - x16) + x18) - 1) ≤ 99) => ?_) (fun (h25 : ¬ ((((((cold * x21) - 0) - x16) + x18) - 1) ≤ 99)) => ?_)
      · refine pw_steps 1 (s' := (189, [some (.ref 47), some (.int (ei_ (name))), some (.int (ei_ (cold))), some (.int (ei_ (x1))), some (.int (ei_ (1))), some (.int (ei_ (0))), some (.int (ei_ (x16))), some (.int (ei_ (x18))), some (.int (ei_ ((((((cold * x21) - 0) - x16) + x18) - 1))))], [.int (ei_ ((((((cold * x21) - 0) - x16) + x18) - 1)))], m)) rfl ?_
        refine pw_iret rfl rfl rfl ?_
        have hm_ : x18 = cn_ (vi_ m0 52) (vi_ m0 52 name) (vi_ m0 1 1).toNat := by rw [← hx1]; exact g19
        have hg_ : (if x1 = name then (0 : Int) else 1) = (if x1 = name then 0 else 1) := by omega
        have hr_ : (((((cold * x21) - 0) - x16) + x18) - 1) = rt_ m0 x1 name x18 cold := rt_of (g := if x1 = name then 0 else 1) (show (((((cold * x21) - 0) - x16) + x18) - 1) = lw_v m0 x21 0 x18 cold x16 (if x1 = name then 0 else 1) from by rw [lw_v, if_pos q2]; unfold hd_; omega) (by rw [Int.zero_add] at hx21; exact hx21) (by omega) (by omega) rfl
        exact k0 (((((cold * x21) - 0) - x16) + x18) - 1) _ (sm_rfl m) (by rw [bn_, ← hm_, ← hx1]; exact hr_) (by omega)
      · refine pw_steps 2 (s' := (189, [some (.ref 47), some (.int (ei_ (name))), some (.int (ei_ (cold))), some (.int (ei_ (x1))), some (.int (ei_ (1))), some (.int (ei_ (0))), some (.int (ei_ (x16))), some (.int (ei_ (x18))), some (.int (ei_ ((((((cold * x21) - 0) - x16) + x18) - 1))))], [.int (ei_ (99))], m)) rfl ?_
        refine pw_iret rfl rfl rfl ?_
        have hm_ : x18 = cn_ (vi_ m0 52) (vi_ m0 52 name) (vi_ m0 1 1).toNat := by rw [← hx1]; exact g19
        have hg_ : (if x1 = name then (0 : Int) else 1) = (if x1 = name then 0 else 1) := by omega
        have hr_ : 99 = rt_ m0 x1 name x18 cold := rt_of (g := if x1 = name then 0 else 1) (show 99 = lw_v m0 x21 0 x18 cold x16 (if x1 = name then 0 else 1) from by rw [lw_v, if_pos q2]; unfold hd_; omega) (by rw [Int.zero_add] at hx21; exact hx21) (by omega) (by omega) rfl
        exact k0 99 _ (sm_rfl m) (by rw [bn_, ← hm_, ← hx1]; exact hr_) (by omega)
    · refine pw_steps 2 (s' := (189, [some (.ref 47), some (.int (ei_ (name))), some (.int (ei_ (cold))), some (.int (ei_ (x1))), some (.int (ei_ (1))), some (.int (ei_ (0))), some (.int (ei_ (x16))), some (.int (ei_ (x18))), some (.int (ei_ ((((((cold * x21) - 0) - x16) + x18) - 1))))], [.int (ei_ (0))], m)) rfl ?_
      refine pw_iret rfl rfl rfl ?_
      have hm_ : x18 = cn_ (vi_ m0 52) (vi_ m0 52 name) (vi_ m0 1 1).toNat := by rw [← hx1]; exact g19
      have hg_ : (if x1 = name then (0 : Int) else 1) = (if x1 = name then 0 else 1) := by omega
      have hr_ : 0 = rt_ m0 x1 name x18 cold := rt_of (g := if x1 = name then 0 else 1) (show 0 = lw_v m0 x21 0 x18 cold x16 (if x1 = name then 0 else 1) from by rw [lw_v, if_pos q2]; unfold hd_; omega) (by rw [Int.zero_add] at hx21; exact hx21) (by omega) (by omega) rfl
      exact k0 0 _ (sm_rfl m) (by rw [bn_, ← hm_, ← hx1]; exact hr_) (by omega)

set_option maxHeartbeats 4000000 in
set_option maxRecDepth 20000 in
theorem mb_burns1 {q : am_X} {d : Nat} {m : am_M} {Q : Option Value → am_M → Prop} {name : Int} {cold : Int} {m0 : am_M} {B : Int → Int} {n : Int} (q1 : vi_ m0 47 12 = n) (q2 : 0 ≤ n ∧ n ≤ 120) (q3 : ∀ j, 0 ≤ j → j < n → 0 ≤ B j ∧ B j ≤ 255) (q4 : ∀ j, 0 ≤ j → j < n → vi_ m0 55 j = B j) (q5 : (pg_ B n 900 121 0).1 = 1 ∧ (pg_ B n 900 121 0).2.1 = n) (q6 : dr_ (vi_ m0 15) 0 (vi_ m0 14 3).toNat = (pg_ B n 900 121 0).2.2) (q7 : ¬ vi_ m0 14 3 = 0) (p0 : rP_ m0) (p1 : mW_ m0) (p2 : sm_ pSc m0 m) (p3 : 0 ≤ name ∧ name < vi_ m0 1 1) (p4 : 0 ≤ cold ∧ cold ≤ 9) (k0 : ∀ (x : Int) (m1 : am_M), (sm_ pPr m m1) → (x = bn_ m0 name cold) → (0 ≤ x ∧ x ≤ 99) → Q (some (.int (ei_ (x)))) m1) : pw_C q (d + 50) 203 [.ref 47, .int (ei_ (name)), .int (ei_ (cold))] m Q := by
  obtain ⟨hP1, hP2, hP3, hP4⟩ := id p0
  refine pw_intro (I := iX9_burnsIn) (T := tX9_burnsIn) rfl rfl rfl ?_
  refine pw_steps 3 (s' := (5, [some (.ref 47), some (.int (ei_ (name))), some (.int (ei_ (cold))), none, none, none, none, none, none], [.int (ei_ (name)), .ref 52], m)) rfl ?_
  refine pw_ild rfl rfl (by omega) (fun x1 (hx1 : x1 = vi_ m 52 name) rx1 sx1 => ?_)
  have ox1 := hx1
  replace hx1 : x1 = vi_ m0 52 name := hx1.trans (sm_v p2 rfl)
  have b2 := p1 name (by omega) (by omega)
  refine pw_steps 4 (s' := (10, [some (.ref 47), some (.int (ei_ (name))), some (.int (ei_ (cold))), some (.int (ei_ (x1))), none, none, none, none, none], [.int (ei_ (3)), .int (ei_ (x1)), .ref 47], m)) rfl ?_
  refine pw_call (As := [.int (ei_ (x1)), .int (ei_ (3))]) (st := []) (k := 47) rfl rfl rfl rfl rfl (Nat.le_of_ble_eq_true rfl) ?_
  refine pw_intro (I := iX9_ofOne) (T := tX9_ofOne) rfl rfl rfl ?_
  refine pw_steps 7 (s' := (10, [some (.ref 47), some (.int (ei_ (x1))), some (.int (ei_ (3)))], [.int (((ei_ (8)) * (ei_ (3))) + (ei_ (x1))), .ref 48], m)) rfl ?_
  refine pw_cv (congrArg (fun z_ : Int32 => ((10, [some (.ref 47), some (.int (ei_ (x1))), some (.int (ei_ (3)))], [.int z_, .ref 48], m) : am_S)) (ei_add (ei_mul rfl rfl) rfl)) ?_
  refine pw_ild rfl rfl (by omega) (fun x3 (hx3 : x3 = vi_ m 48 (24 + x1)) rx3 sx3 => ?_)
  have ox3 := hx3
  replace hx3 : x3 = vi_ m0 48 (24 + x1) := hx3.trans (sm_v p2 rfl)
  have b4 := hP3 (24 + x1) (by omega) (by omega)
  rw [b4.2.2] at hx3
  refine pw_iret rfl rfl rfl ?_
  refine pw_steps 1 (s' := (14, [some (.ref 47), some (.int (ei_ (name))), some (.int (ei_ (cold))), some (.int (ei_ (x1))), none, none, none, none, none], [.int (ei_ (1)), .int (ei_ (x3))], m)) rfl ?_
  refine pw_cmp rfl ⟨rx3, sx3⟩ (by decide) (fun (h5 : ¬ x3 = 1) => ?_) (fun (h5 : ¬ ¬ x3 = 1) => ?_)
  · refine pw_steps 3 (s' := (26, [some (.ref 47), some (.int (ei_ (name))), some (.int (ei_ (cold))), some (.int (ei_ (x1))), some (.int (ei_ (0))), none, none, none, none], [.int (ei_ (0))], m)) rfl ?_
    refine pw_ifT rfl (by decide) (show 0 = 0 by decide) ?_
    refine pw_steps 3 (s' := (36, [some (.ref 47), some (.int (ei_ (name))), some (.int (ei_ (cold))), some (.int (ei_ (x1))), some (.int (ei_ (0))), none, none, none, none], [.int (ei_ (1)), .int (ei_ (x1)), .ref 47], m)) rfl ?_
    refine pw_call (As := [.int (ei_ (x1)), .int (ei_ (1))]) (st := []) (k := 47) rfl rfl rfl rfl rfl (Nat.le_of_ble_eq_true rfl) ?_
    refine pw_intro (I := iX9_ofOne) (T := tX9_ofOne) rfl rfl rfl ?_
    refine pw_steps 7 (s' := (10, [some (.ref 47), some (.int (ei_ (x1))), some (.int (ei_ (1)))], [.int (((ei_ (8)) * (ei_ (1))) + (ei_ (x1))), .ref 48], m)) rfl ?_
    refine pw_cv (congrArg (fun z_ : Int32 => ((10, [some (.ref 47), some (.int (ei_ (x1))), some (.int (ei_ (1)))], [.int z_, .ref 48], m) : am_S)) (ei_add (ei_mul rfl rfl) rfl)) ?_
    refine pw_ild rfl rfl (by omega) (fun x6 (hx6 : x6 = vi_ m 48 (8 + x1)) rx6 sx6 => ?_)
    have ox6 := hx6
    replace hx6 : x6 = vi_ m0 48 (8 + x1) := hx6.trans (sm_v p2 rfl)
    have b7 := hP3 (8 + x1) (by omega) (by omega)
    rw [b7.2.2] at hx6
    refine pw_iret rfl rfl rfl ?_
    refine pw_steps 2 (s' := (43, [some (.ref 47), some (.int (ei_ (name))), some (.int (ei_ (cold))), some (.int (ei_ (x1))), some (.int (ei_ (0))), some (.int (ei_ (x6))), none, none, none], [.int (ei_ (0))], m)) rfl ?_
    refine pw_ifT rfl (by decide) (show 0 = 0 by decide) ?_
    refine pw_steps 4 (s' := (61, [some (.ref 47), some (.int (ei_ (name))), some (.int (ei_ (cold))), some (.int (ei_ (x1))), some (.int (ei_ (0))), some (.int (ei_ (x6))), some (.int (ei_ (0))), none, none], [.int (ei_ (x1)), .ref 47], m)) rfl ?_
    refine pw_call (As := [.int (ei_ (x1))]) (st := []) (k := 47) rfl rfl rfl rfl rfl (Nat.le_of_ble_eq_true rfl) ?_
    refine mw_many (p0) (p2) (by omega) (fun x8 g9 g10 => ?_)
    refine pw_steps 5 (s' := (70, [some (.ref 47), some (.int (ei_ (name))), some (.int (ei_ (cold))), some (.int (ei_ (x1))), some (.int (ei_ (0))), some (.int (ei_ (x6))), some (.int (ei_ (0))), some (.int (ei_ (x8))), none], [.int (ei_ (0)), .int (ei_ (name)), .ref 47, .int (ei_ (cold))], m)) rfl ?_
    refine pw_call (As := [.int (ei_ (name)), .int (ei_ (0))]) (st := [.int (ei_ (cold))]) (k := 47) rfl rfl rfl rfl rfl (Nat.le_of_ble_eq_true rfl) ?_
    refine pw_intro (I := iX9_ofOne) (T := tX9_ofOne) rfl rfl rfl ?_
    refine pw_steps 7 (s' := (10, [some (.ref 47), some (.int (ei_ (name))), some (.int (ei_ (0)))], [.int (((ei_ (8)) * (ei_ (0))) + (ei_ (name))), .ref 48], m)) rfl ?_
    refine pw_cv (congrArg (fun z_ : Int32 => ((10, [some (.ref 47), some (.int (ei_ (name))), some (.int (ei_ (0)))], [.int z_, .ref 48], m) : am_S)) (ei_add (ei_mul rfl rfl) rfl)) ?_
    refine pw_ild rfl rfl (by omega) (fun x11 (hx11 : x11 = vi_ m 48 (0 + name)) rx11 sx11 => ?_)
    have ox11 := hx11
    replace hx11 : x11 = vi_ m0 48 (0 + name) := hx11.trans (sm_v p2 rfl)
    have b12 := hP3 (0 + name) (by omega) (by omega)
    rw [b12.2.2] at hx11
    refine pw_iret rfl rfl rfl ?_
    refine pw_steps 12 (s' := (89, [some (.ref 47), some (.int (ei_ (name))), some (.int (ei_ (cold))), some (.int (ei_ (x1))), some (.int (ei_ (0))), some (.int (ei_ (x6))), some (.int (ei_ (0))), some (.int (ei_ (x8))), some (.int ((((((ei_ (cold)) * (ei_ (x11))) - ((ei_ (2)) * (ei_ (x6)))) - (ei_ (0))) + (ei_ (x8))) - (ei_ (1))))], [], m)) rfl ?_
    refine pw_cv (congrArg (fun z_ : Int32 => ((89, [some (.ref 47), some (.int (ei_ (name))), some (.int (ei_ (cold))), some (.int (ei_ (x1))), some (.int (ei_ (0))), some (.int (ei_ (x6))), some (.int (ei_ (0))), some (.int (ei_ (x8))), some (.int z_)], [], m) : am_S)) (ei_sub (ei_add (ei_sub (ei_sub (ei_mul rfl rfl) (ei_mul rfl rfl)) rfl) rfl) rfl)) ?_
    have hcs : 0 ≤ cold * x11 ∧ cold * x11 ≤ 81 := ⟨Int.mul_nonneg (by omega) (by omega), Int.le_trans (Int.mul_le_mul (by omega : cold ≤ 9) (by omega : x11 ≤ 9) (by omega) (by omega)) (by omega)⟩
    refine pw_steps 1 (s' := (90, [some (.ref 47), some (.int (ei_ (name))), some (.int (ei_ (cold))), some (.int (ei_ (x1))), some (.int (ei_ (0))), some (.int (ei_ (x6))), some (.int (ei_ (0))), some (.int (ei_ (x8))), some (.int (ei_ ((((((cold * x11) - (2 * x6)) - 0) + x8) - 1))))], [.ref 47], m)) rfl ?_
    refine pw_get rfl rfl (fun x13 (hx13 : x13 = vi_ m 47 12) rx13 sx13 => ?_)
    replace hx13 : x13 = vi_ m0 47 12 := hx13.trans (sm_v p2 rfl)
    replace hx13 : x13 = n := hx13.trans q1
    subst x13
    refine pw_ifF rfl ⟨rx13, sx13⟩ (show ¬ (n < 0) by omega) ?_
    refine pw_steps 6 (s' := (104, [some (.ref 47), some (.int (ei_ (name))), some (.int (ei_ (cold))), some (.int (ei_ (x1))), some (.int (ei_ (0))), some (.int (ei_ (x6))), some (.int (ei_ (0))), some (.int (ei_ (x8))), some (.int (ei_ ((((((cold * x11) - (2 * x6)) - 0) + x8) - 1))))], [.int (ei_ (0)), .int (ei_ (name)), .ref 47, .int (ei_ (0)), .ref 56], m)) rfl ?_
    refine pw_call (As := [.int (ei_ (name)), .int (ei_ (0))]) (st := [.int (ei_ (0)), .ref 56]) (k := 47) rfl rfl rfl rfl rfl (Nat.le_of_ble_eq_true rfl) ?_
    refine pw_intro (I := iX9_ofOne) (T := tX9_ofOne) rfl rfl rfl ?_
    refine pw_steps 7 (s' := (10, [some (.ref 47), some (.int (ei_ (name))), some (.int (ei_ (0)))], [.int (((ei_ (8)) * (ei_ (0))) + (ei_ (name))), .ref 48], m)) rfl ?_
    refine pw_cv (congrArg (fun z_ : Int32 => ((10, [some (.ref 47), some (.int (ei_ (name))), some (.int (ei_ (0)))], [.int z_, .ref 48], m) : am_S)) (ei_add (ei_mul rfl rfl) rfl)) ?_
    refine pw_ildE (x := x11) rfl rfl (by omega) ox11 ?_
    refine pw_iret rfl rfl rfl ?_
    refine pw_ist rfl rfl (by omega) ?_
    refine pw_steps 4 (s' := (115, [some (.ref 47), some (.int (ei_ (name))), some (.int (ei_ (cold))), some (.int (ei_ (x1))), some (.int (ei_ (0))), some (.int (ei_ (x6))), some (.int (ei_ (0))), some (.int (ei_ (x8))), some (.int (ei_ ((((((cold * x11) - (2 * x6)) - 0) + x8) - 1))))], [.int (ei_ (x6)), .int (ei_ (1)), .ref 56], wi_ m 56 (0) (x11))) rfl ?_
    refine pw_ist rfl rfl (by omega) ?_
    refine pw_steps 4 (s' := (123, [some (.ref 47), some (.int (ei_ (name))), some (.int (ei_ (cold))), some (.int (ei_ (x1))), some (.int (ei_ (0))), some (.int (ei_ (x6))), some (.int (ei_ (0))), some (.int (ei_ (x8))), some (.int (ei_ ((((((cold * x11) - (2 * x6)) - 0) + x8) - 1))))], [.int (ei_ (x8)), .int (ei_ (2)), .ref 56], wi_ (wi_ m 56 (0) (x11)) 56 (1) (x6))) rfl ?_
    refine pw_ist rfl rfl (by omega) ?_
    refine pw_steps 4 (s' := (130, [some (.ref 47), some (.int (ei_ (name))), some (.int (ei_ (cold))), some (.int (ei_ (x1))), some (.int (ei_ (0))), some (.int (ei_ (x6))), some (.int (ei_ (0))), some (.int (ei_ (x8))), some (.int (ei_ ((((((cold * x11) - (2 * x6)) - 0) + x8) - 1))))], [.int (ei_ (cold)), .int (ei_ (3)), .ref 56], wi_ (wi_ (wi_ m 56 (0) (x11)) 56 (1) (x6)) 56 (2) (x8))) rfl ?_
    refine pw_ist rfl rfl (by omega) ?_
    refine pw_steps 4 (s' := (138, [some (.ref 47), some (.int (ei_ (name))), some (.int (ei_ (cold))), some (.int (ei_ (x1))), some (.int (ei_ (0))), some (.int (ei_ (x6))), some (.int (ei_ (0))), some (.int (ei_ (x8))), some (.int (ei_ ((((((cold * x11) - (2 * x6)) - 0) + x8) - 1))))], [.int (ei_ (0)), .int (ei_ (4)), .ref 56], wi_ (wi_ (wi_ (wi_ m 56 (0) (x11)) 56 (1) (x6)) 56 (2) (x8)) 56 (3) (cold))) rfl ?_
    refine pw_ist rfl rfl (by omega) ?_
    refine pw_steps 5 (s' := (146, [some (.ref 47), some (.int (ei_ (name))), some (.int (ei_ (cold))), some (.int (ei_ (x1))), some (.int (ei_ (0))), some (.int (ei_ (x6))), some (.int (ei_ (0))), some (.int (ei_ (x8))), some (.int (ei_ ((((((cold * x11) - (2 * x6)) - 0) + x8) - 1))))], [.int (ei_ (name)), .int (ei_ (x1)), .int (ei_ (5)), .ref 56], wi_ (wi_ (wi_ (wi_ (wi_ m 56 (0) (x11)) 56 (1) (x6)) 56 (2) (x8)) 56 (3) (cold)) 56 (4) (0))) rfl ?_
    refine pw_cmp rfl ⟨rx1, sx1⟩ (by omega) (fun (h14 : ¬ x1 = name) => ?_) (fun (h14 : ¬ ¬ x1 = name) => ?_)
    · refine pw_steps 1 (s' := (154, [some (.ref 47), some (.int (ei_ (name))), some (.int (ei_ (cold))), some (.int (ei_ (x1))), some (.int (ei_ (0))), some (.int (ei_ (x6))), some (.int (ei_ (0))), some (.int (ei_ (x8))), some (.int (ei_ ((((((cold * x11) - (2 * x6)) - 0) + x8) - 1))))], [.int (ei_ (1)), .int (ei_ (5)), .ref 56], wi_ (wi_ (wi_ (wi_ (wi_ m 56 (0) (x11)) 56 (1) (x6)) 56 (2) (x8)) 56 (3) (cold)) 56 (4) (0))) rfl ?_
      refine pw_ist rfl rfl (by omega) ?_
      refine pw_steps 3 (s' := (158, [some (.ref 47), some (.int (ei_ (name))), some (.int (ei_ (cold))), some (.int (ei_ (x1))), some (.int (ei_ (0))), some (.int (ei_ (x6))), some (.int (ei_ (0))), some (.int (ei_ (x8))), some (.int (ei_ ((((((cold * x11) - (2 * x6)) - 0) + x8) - 1))))], [.ref 47, .int (ei_ (0)), .ref 47], wi_ (wi_ (wi_ (wi_ (wi_ (wi_ m 56 (0) (x11)) 56 (1) (x6)) 56 (2) (x8)) 56 (3) (cold)) 56 (4) (0)) 56 (5) (1))) rfl ?_
      refine pw_get rfl rfl (fun x15 (hx15 : x15 = vi_ m 47 12) rx15 sx15 => ?_)
      replace hx15 : x15 = vi_ m0 47 12 := hx15.trans (sm_v p2 rfl)
      replace hx15 : x15 = n := hx15.trans q1
      subst x15
      refine pw_call (As := [.int (ei_ (0)), .int (ei_ (n))]) (st := []) (k := 47) rfl rfl rfl rfl rfl (Nat.le_of_ble_eq_true rfl) ?_
      refine mt_workOut (Or.inr ⟨rfl, fun j a b => by simp only [vi_ne (show (55 : Nat) ≠ 56 by decide)]; rw [sm_v p2 (k := 55) rfl]; exact q4 j a b⟩) (q3) (q2) (fun x16 m117 g18 g19 g20 g21 g22 => ?_) (fun x23 m124 g25 g26 g27 g28 g29 => ?_)
      · have hz_ : x16 = xq_ (nv_ x11 x6 x8 cold 0 (if x1 = name then 0 else 1)) (pg_ B n 900 121 0).2.2 [] := by
          rw [g21, xq_cg (vi_wo (by omega) (by omega) (by omega) (by omega) (by omega) (by omega))]
          first | rw [if_pos (by omega)] | rw [if_neg (by omega)]
        refine pw_steps 2 (s' := (168, [some (.ref 47), some (.int (ei_ (name))), some (.int (ei_ (cold))), some (.int (ei_ (x1))), some (.int (ei_ (0))), some (.int (ei_ (x6))), some (.int (ei_ (0))), some (.int (ei_ (x8))), some (.int (ei_ (x16)))], [.int (ei_ (x16))], m117)) rfl ?_
        refine pw_if rfl g22 (fun (h30 : 0 ≤ x16) => ?_) (fun (h30 : ¬ (0 ≤ x16)) => ?_)
        · refine pw_steps 2 (s' := (179, [some (.ref 47), some (.int (ei_ (name))), some (.int (ei_ (cold))), some (.int (ei_ (x1))), some (.int (ei_ (0))), some (.int (ei_ (x6))), some (.int (ei_ (0))), some (.int (ei_ (x8))), some (.int (ei_ (x16)))], [.int (ei_ (99)), .int (ei_ (x16))], m117)) rfl ?_
          refine pw_cmp rfl g22 (by decide) (fun (h31 : x16 ≤ 99) => ?_) (fun (h31 : ¬ (x16 ≤ 99)) => ?_)
          · refine pw_steps 1 (s' := (189, [some (.ref 47), some (.int (ei_ (name))), some (.int (ei_ (cold))), some (.int (ei_ (x1))), some (.int (ei_ (0))), some (.int (ei_ (x6))), some (.int (ei_ (0))), some (.int (ei_ (x8))), some (.int (ei_ (x16)))], [.int (ei_ (x16))], m117)) rfl ?_
            refine pw_iret rfl rfl rfl ?_
            have hm_ : x8 = cn_ (vi_ m0 52) (vi_ m0 52 name) (vi_ m0 1 1).toNat := by rw [← hx1]; exact g9
            have hg_ : (if x1 = name then (0 : Int) else 1) = (if x1 = name then 0 else 1) := by omega
            have hr_ : x16 = rt_ m0 x1 name x8 cold := rt_of (g := if x1 = name then 0 else 1) (show x16 = lw_v m0 x11 x6 x8 cold 0 (if x1 = name then 0 else 1) from by rw [lw_v, if_neg q7, q6]; unfold hd_; rw [← hz_]; omega) (by rw [Int.zero_add] at hx11; exact hx11) (by omega) (by omega) rfl
            exact k0 x16 _ (sm_tr (sm_w (sm_w (sm_w (sm_w (sm_w (sm_w (sm_rfl m) (fun _ h_ => by rw [h_]; rfl)) (fun _ h_ => by rw [h_]; rfl)) (fun _ h_ => by rw [h_]; rfl)) (fun _ h_ => by rw [h_]; rfl)) (fun _ h_ => by rw [h_]; rfl)) (fun _ h_ => by rw [h_]; rfl)) (sm_le g19 pRd_Pr)) (by rw [bn_, ← hm_, ← hx1]; exact hr_) (by omega)
          · refine pw_steps 2 (s' := (189, [some (.ref 47), some (.int (ei_ (name))), some (.int (ei_ (cold))), some (.int (ei_ (x1))), some (.int (ei_ (0))), some (.int (ei_ (x6))), some (.int (ei_ (0))), some (.int (ei_ (x8))), some (.int (ei_ (x16)))], [.int (ei_ (99))], m117)) rfl ?_
            refine pw_iret rfl rfl rfl ?_
            have hm_ : x8 = cn_ (vi_ m0 52) (vi_ m0 52 name) (vi_ m0 1 1).toNat := by rw [← hx1]; exact g9
            have hg_ : (if x1 = name then (0 : Int) else 1) = (if x1 = name then 0 else 1) := by omega
            have hr_ : 99 = rt_ m0 x1 name x8 cold := rt_of (g := if x1 = name then 0 else 1) (show 99 = lw_v m0 x11 x6 x8 cold 0 (if x1 = name then 0 else 1) from by rw [lw_v, if_neg q7, q6]; unfold hd_; rw [← hz_]; omega) (by rw [Int.zero_add] at hx11; exact hx11) (by omega) (by omega) rfl
            exact k0 99 _ (sm_tr (sm_w (sm_w (sm_w (sm_w (sm_w (sm_w (sm_rfl m) (fun _ h_ => by rw [h_]; rfl)) (fun _ h_ => by rw [h_]; rfl)) (fun _ h_ => by rw [h_]; rfl)) (fun _ h_ => by rw [h_]; rfl)) (fun _ h_ => by rw [h_]; rfl)) (fun _ h_ => by rw [h_]; rfl)) (sm_le g19 pRd_Pr)) (by rw [bn_, ← hm_, ← hx1]; exact hr_) (by omega)
        · refine pw_steps 2 (s' := (189, [some (.ref 47), some (.int (ei_ (name))), some (.int (ei_ (cold))), some (.int (ei_ (x1))), some (.int (ei_ (0))), some (.int (ei_ (x6))), some (.int (ei_ (0))), some (.int (ei_ (x8))), some (.int (ei_ (x16)))], [.int (ei_ (0))], m117)) rfl ?_
          refine pw_iret rfl rfl rfl ?_
          have hm_ : x8 = cn_ (vi_ m0 52) (vi_ m0 52 name) (vi_ m0 1 1).toNat := by rw [← hx1]; exact g9
          have hg_ : (if x1 = name then (0 : Int) else 1) = (if x1 = name then 0 else 1) := by omega
          have hr_ : 0 = rt_ m0 x1 name x8 cold := rt_of (g := if x1 = name then 0 else 1) (show 0 = lw_v m0 x11 x6 x8 cold 0 (if x1 = name then 0 else 1) from by rw [lw_v, if_neg q7, q6]; unfold hd_; rw [← hz_]; omega) (by rw [Int.zero_add] at hx11; exact hx11) (by omega) (by omega) rfl
          exact k0 0 _ (sm_tr (sm_w (sm_w (sm_w (sm_w (sm_w (sm_w (sm_rfl m) (fun _ h_ => by rw [h_]; rfl)) (fun _ h_ => by rw [h_]; rfl)) (fun _ h_ => by rw [h_]; rfl)) (fun _ h_ => by rw [h_]; rfl)) (fun _ h_ => by rw [h_]; rfl)) (fun _ h_ => by rw [h_]; rfl)) (sm_le g19 pRd_Pr)) (by rw [bn_, ← hm_, ← hx1]; exact hr_) (by omega)
      · exact absurd q5 g25
    · refine pw_steps 2 (s' := (154, [some (.ref 47), some (.int (ei_ (name))), some (.int (ei_ (cold))), some (.int (ei_ (x1))), some (.int (ei_ (0))), some (.int (ei_ (x6))), some (.int (ei_ (0))), some (.int (ei_ (x8))), some (.int (ei_ ((((((cold * x11) - (2 * x6)) - 0) + x8) - 1))))], [.int (ei_ (0)), .int (ei_ (5)), .ref 56], wi_ (wi_ (wi_ (wi_ (wi_ m 56 (0) (x11)) 56 (1) (x6)) 56 (2) (x8)) 56 (3) (cold)) 56 (4) (0))) rfl ?_
      refine pw_ist rfl rfl (by omega) ?_
      refine pw_steps 3 (s' := (158, [some (.ref 47), some (.int (ei_ (name))), some (.int (ei_ (cold))), some (.int (ei_ (x1))), some (.int (ei_ (0))), some (.int (ei_ (x6))), some (.int (ei_ (0))), some (.int (ei_ (x8))), some (.int (ei_ ((((((cold * x11) - (2 * x6)) - 0) + x8) - 1))))], [.ref 47, .int (ei_ (0)), .ref 47], wi_ (wi_ (wi_ (wi_ (wi_ (wi_ m 56 (0) (x11)) 56 (1) (x6)) 56 (2) (x8)) 56 (3) (cold)) 56 (4) (0)) 56 (5) (0))) rfl ?_
      refine pw_get rfl rfl (fun x32 (hx32 : x32 = vi_ m 47 12) rx32 sx32 => ?_)
      replace hx32 : x32 = vi_ m0 47 12 := hx32.trans (sm_v p2 rfl)
      replace hx32 : x32 = n := hx32.trans q1
      subst x32
      refine pw_call (As := [.int (ei_ (0)), .int (ei_ (n))]) (st := []) (k := 47) rfl rfl rfl rfl rfl (Nat.le_of_ble_eq_true rfl) ?_
      refine mt_workOut (Or.inr ⟨rfl, fun j a b => by simp only [vi_ne (show (55 : Nat) ≠ 56 by decide)]; rw [sm_v p2 (k := 55) rfl]; exact q4 j a b⟩) (q3) (q2) (fun x33 m134 g35 g36 g37 g38 g39 => ?_) (fun x40 m141 g42 g43 g44 g45 g46 => ?_)
      · have hz_ : x33 = xq_ (nv_ x11 x6 x8 cold 0 (if x1 = name then 0 else 1)) (pg_ B n 900 121 0).2.2 [] := by
          rw [g38, xq_cg (vi_wo (by omega) (by omega) (by omega) (by omega) (by omega) (by omega))]
          first | rw [if_pos (by omega)] | rw [if_neg (by omega)]
        refine pw_steps 2 (s' := (168, [some (.ref 47), some (.int (ei_ (name))), some (.int (ei_ (cold))), some (.int (ei_ (x1))), some (.int (ei_ (0))), some (.int (ei_ (x6))), some (.int (ei_ (0))), some (.int (ei_ (x8))), some (.int (ei_ (x33)))], [.int (ei_ (x33))], m134)) rfl ?_
        refine pw_if rfl g39 (fun (h47 : 0 ≤ x33) => ?_) (fun (h47 : ¬ (0 ≤ x33)) => ?_)
        · refine pw_steps 2 (s' := (179, [some (.ref 47), some (.int (ei_ (name))), some (.int (ei_ (cold))), some (.int (ei_ (x1))), some (.int (ei_ (0))), some (.int (ei_ (x6))), some (.int (ei_ (0))), some (.int (ei_ (x8))), some (.int (ei_ (x33)))], [.int (ei_ (99)), .int (ei_ (x33))], m134)) rfl ?_
          refine pw_cmp rfl g39 (by decide) (fun (h48 : x33 ≤ 99) => ?_) (fun (h48 : ¬ (x33 ≤ 99)) => ?_)
          · refine pw_steps 1 (s' := (189, [some (.ref 47), some (.int (ei_ (name))), some (.int (ei_ (cold))), some (.int (ei_ (x1))), some (.int (ei_ (0))), some (.int (ei_ (x6))), some (.int (ei_ (0))), some (.int (ei_ (x8))), some (.int (ei_ (x33)))], [.int (ei_ (x33))], m134)) rfl ?_
            refine pw_iret rfl rfl rfl ?_
            have hm_ : x8 = cn_ (vi_ m0 52) (vi_ m0 52 name) (vi_ m0 1 1).toNat := by rw [← hx1]; exact g9
            have hg_ : (if x1 = name then (0 : Int) else 1) = (if x1 = name then 0 else 1) := by omega
            have hr_ : x33 = rt_ m0 x1 name x8 cold := rt_of (g := if x1 = name then 0 else 1) (show x33 = lw_v m0 x11 x6 x8 cold 0 (if x1 = name then 0 else 1) from by rw [lw_v, if_neg q7, q6]; unfold hd_; rw [← hz_]; omega) (by rw [Int.zero_add] at hx11; exact hx11) (by omega) (by omega) rfl
            exact k0 x33 _ (sm_tr (sm_w (sm_w (sm_w (sm_w (sm_w (sm_w (sm_rfl m) (fun _ h_ => by rw [h_]; rfl)) (fun _ h_ => by rw [h_]; rfl)) (fun _ h_ => by rw [h_]; rfl)) (fun _ h_ => by rw [h_]; rfl)) (fun _ h_ => by rw [h_]; rfl)) (fun _ h_ => by rw [h_]; rfl)) (sm_le g36 pRd_Pr)) (by rw [bn_, ← hm_, ← hx1]; exact hr_) (by omega)
          · refine pw_steps 2 (s' := (189, [some (.ref 47), some (.int (ei_ (name))), some (.int (ei_ (cold))), some (.int (ei_ (x1))), some (.int (ei_ (0))), some (.int (ei_ (x6))), some (.int (ei_ (0))), some (.int (ei_ (x8))), some (.int (ei_ (x33)))], [.int (ei_ (99))], m134)) rfl ?_
            refine pw_iret rfl rfl rfl ?_
            have hm_ : x8 = cn_ (vi_ m0 52) (vi_ m0 52 name) (vi_ m0 1 1).toNat := by rw [← hx1]; exact g9
            have hg_ : (if x1 = name then (0 : Int) else 1) = (if x1 = name then 0 else 1) := by omega
            have hr_ : 99 = rt_ m0 x1 name x8 cold := rt_of (g := if x1 = name then 0 else 1) (show 99 = lw_v m0 x11 x6 x8 cold 0 (if x1 = name then 0 else 1) from by rw [lw_v, if_neg q7, q6]; unfold hd_; rw [← hz_]; omega) (by rw [Int.zero_add] at hx11; exact hx11) (by omega) (by omega) rfl
            exact k0 99 _ (sm_tr (sm_w (sm_w (sm_w (sm_w (sm_w (sm_w (sm_rfl m) (fun _ h_ => by rw [h_]; rfl)) (fun _ h_ => by rw [h_]; rfl)) (fun _ h_ => by rw [h_]; rfl)) (fun _ h_ => by rw [h_]; rfl)) (fun _ h_ => by rw [h_]; rfl)) (fun _ h_ => by rw [h_]; rfl)) (sm_le g36 pRd_Pr)) (by rw [bn_, ← hm_, ← hx1]; exact hr_) (by omega)
        · refine pw_steps 2 (s' := (189, [some (.ref 47), some (.int (ei_ (name))), some (.int (ei_ (cold))), some (.int (ei_ (x1))), some (.int (ei_ (0))), some (.int (ei_ (x6))), some (.int (ei_ (0))), some (.int (ei_ (x8))), some (.int (ei_ (x33)))], [.int (ei_ (0))], m134)) rfl ?_
          refine pw_iret rfl rfl rfl ?_
          have hm_ : x8 = cn_ (vi_ m0 52) (vi_ m0 52 name) (vi_ m0 1 1).toNat := by rw [← hx1]; exact g9
          have hg_ : (if x1 = name then (0 : Int) else 1) = (if x1 = name then 0 else 1) := by omega
          have hr_ : 0 = rt_ m0 x1 name x8 cold := rt_of (g := if x1 = name then 0 else 1) (show 0 = lw_v m0 x11 x6 x8 cold 0 (if x1 = name then 0 else 1) from by rw [lw_v, if_neg q7, q6]; unfold hd_; rw [← hz_]; omega) (by rw [Int.zero_add] at hx11; exact hx11) (by omega) (by omega) rfl
          exact k0 0 _ (sm_tr (sm_w (sm_w (sm_w (sm_w (sm_w (sm_w (sm_rfl m) (fun _ h_ => by rw [h_]; rfl)) (fun _ h_ => by rw [h_]; rfl)) (fun _ h_ => by rw [h_]; rfl)) (fun _ h_ => by rw [h_]; rfl)) (fun _ h_ => by rw [h_]; rfl)) (fun _ h_ => by rw [h_]; rfl)) (sm_le g36 pRd_Pr)) (by rw [bn_, ← hm_, ← hx1]; exact hr_) (by omega)
      · exact absurd q5 g42
  · refine pw_steps 4 (s' := (26, [some (.ref 47), some (.int (ei_ (name))), some (.int (ei_ (cold))), some (.int (ei_ (x1))), some (.int (ei_ (1))), none, none, none, none], [.int (ei_ (1))], m)) rfl ?_
    refine pw_ifF rfl (by decide) (show ¬ (1 = 0) by decide) ?_
    refine pw_steps 4 (s' := (43, [some (.ref 47), some (.int (ei_ (name))), some (.int (ei_ (cold))), some (.int (ei_ (x1))), some (.int (ei_ (1))), some (.int (ei_ (0))), none, none, none], [.int (ei_ (1))], m)) rfl ?_
    refine pw_ifF rfl (by decide) (show ¬ (1 = 0) by decide) ?_
    refine pw_steps 3 (s' := (52, [some (.ref 47), some (.int (ei_ (name))), some (.int (ei_ (cold))), some (.int (ei_ (x1))), some (.int (ei_ (1))), some (.int (ei_ (0))), none, none, none], [.int (ei_ (33)), .ref 48], m)) rfl ?_
    refine pw_ild rfl rfl (by omega) (fun x49 (hx49 : x49 = vi_ m 48 33) rx49 sx49 => ?_)
    have ox49 := hx49
    replace hx49 : x49 = vi_ m0 48 33 := hx49.trans (sm_v p2 rfl)
    have b50 := hP3 33 (by omega) (by omega)
    rw [b50.2.2] at hx49
    refine pw_steps 4 (s' := (61, [some (.ref 47), some (.int (ei_ (name))), some (.int (ei_ (cold))), some (.int (ei_ (x1))), some (.int (ei_ (1))), some (.int (ei_ (0))), some (.int (ei_ (x49))), none, none], [.int (ei_ (x1)), .ref 47], m)) rfl ?_
    refine pw_call (As := [.int (ei_ (x1))]) (st := []) (k := 47) rfl rfl rfl rfl rfl (Nat.le_of_ble_eq_true rfl) ?_
    refine mw_many (p0) (p2) (by omega) (fun x51 g52 g53 => ?_)
    refine pw_steps 5 (s' := (70, [some (.ref 47), some (.int (ei_ (name))), some (.int (ei_ (cold))), some (.int (ei_ (x1))), some (.int (ei_ (1))), some (.int (ei_ (0))), some (.int (ei_ (x49))), some (.int (ei_ (x51))), none], [.int (ei_ (0)), .int (ei_ (name)), .ref 47, .int (ei_ (cold))], m)) rfl ?_
    refine pw_call (As := [.int (ei_ (name)), .int (ei_ (0))]) (st := [.int (ei_ (cold))]) (k := 47) rfl rfl rfl rfl rfl (Nat.le_of_ble_eq_true rfl) ?_
    refine pw_intro (I := iX9_ofOne) (T := tX9_ofOne) rfl rfl rfl ?_
    refine pw_steps 7 (s' := (10, [some (.ref 47), some (.int (ei_ (name))), some (.int (ei_ (0)))], [.int (((ei_ (8)) * (ei_ (0))) + (ei_ (name))), .ref 48], m)) rfl ?_
    refine pw_cv (congrArg (fun z_ : Int32 => ((10, [some (.ref 47), some (.int (ei_ (name))), some (.int (ei_ (0)))], [.int z_, .ref 48], m) : am_S)) (ei_add (ei_mul rfl rfl) rfl)) ?_
    refine pw_ild rfl rfl (by omega) (fun x54 (hx54 : x54 = vi_ m 48 (0 + name)) rx54 sx54 => ?_)
    have ox54 := hx54
    replace hx54 : x54 = vi_ m0 48 (0 + name) := hx54.trans (sm_v p2 rfl)
    have b55 := hP3 (0 + name) (by omega) (by omega)
    rw [b55.2.2] at hx54
    refine pw_iret rfl rfl rfl ?_
    refine pw_steps 12 (s' := (89, [some (.ref 47), some (.int (ei_ (name))), some (.int (ei_ (cold))), some (.int (ei_ (x1))), some (.int (ei_ (1))), some (.int (ei_ (0))), some (.int (ei_ (x49))), some (.int (ei_ (x51))), some (.int ((((((ei_ (cold)) * (ei_ (x54))) - ((ei_ (2)) * (ei_ (0)))) - (ei_ (x49))) + (ei_ (x51))) - (ei_ (1))))], [], m)) rfl ?_
    refine pw_cv (congrArg (fun z_ : Int32 => ((89, [some (.ref 47), some (.int (ei_ (name))), some (.int (ei_ (cold))), some (.int (ei_ (x1))), some (.int (ei_ (1))), some (.int (ei_ (0))), some (.int (ei_ (x49))), some (.int (ei_ (x51))), some (.int z_)], [], m) : am_S)) (ei_sub (ei_add (ei_sub (ei_sub (ei_mul rfl rfl) (ei_mul rfl rfl)) rfl) rfl) rfl)) ?_
    have hcs : 0 ≤ cold * x54 ∧ cold * x54 ≤ 81 := ⟨Int.mul_nonneg (by omega) (by omega), Int.le_trans (Int.mul_le_mul (by omega : cold ≤ 9) (by omega : x54 ≤ 9) (by omega) (by omega)) (by omega)⟩
    refine pw_steps 1 (s' := (90, [some (.ref 47), some (.int (ei_ (name))), some (.int (ei_ (cold))), some (.int (ei_ (x1))), some (.int (ei_ (1))), some (.int (ei_ (0))), some (.int (ei_ (x49))), some (.int (ei_ (x51))), some (.int (ei_ ((((((cold * x54) - 0) - x49) + x51) - 1))))], [.ref 47], m)) rfl ?_
    refine pw_get rfl rfl (fun x56 (hx56 : x56 = vi_ m 47 12) rx56 sx56 => ?_)
    replace hx56 : x56 = vi_ m0 47 12 := hx56.trans (sm_v p2 rfl)
    replace hx56 : x56 = n := hx56.trans q1
    subst x56
    refine pw_ifF rfl ⟨rx56, sx56⟩ (show ¬ (n < 0) by omega) ?_
    refine pw_steps 6 (s' := (104, [some (.ref 47), some (.int (ei_ (name))), some (.int (ei_ (cold))), some (.int (ei_ (x1))), some (.int (ei_ (1))), some (.int (ei_ (0))), some (.int (ei_ (x49))), some (.int (ei_ (x51))), some (.int (ei_ ((((((cold * x54) - 0) - x49) + x51) - 1))))], [.int (ei_ (0)), .int (ei_ (name)), .ref 47, .int (ei_ (0)), .ref 56], m)) rfl ?_
    refine pw_call (As := [.int (ei_ (name)), .int (ei_ (0))]) (st := [.int (ei_ (0)), .ref 56]) (k := 47) rfl rfl rfl rfl rfl (Nat.le_of_ble_eq_true rfl) ?_
    refine pw_intro (I := iX9_ofOne) (T := tX9_ofOne) rfl rfl rfl ?_
    refine pw_steps 7 (s' := (10, [some (.ref 47), some (.int (ei_ (name))), some (.int (ei_ (0)))], [.int (((ei_ (8)) * (ei_ (0))) + (ei_ (name))), .ref 48], m)) rfl ?_
    refine pw_cv (congrArg (fun z_ : Int32 => ((10, [some (.ref 47), some (.int (ei_ (name))), some (.int (ei_ (0)))], [.int z_, .ref 48], m) : am_S)) (ei_add (ei_mul rfl rfl) rfl)) ?_
    refine pw_ildE (x := x54) rfl rfl (by omega) ox54 ?_
    refine pw_iret rfl rfl rfl ?_
    refine pw_ist rfl rfl (by omega) ?_
    refine pw_steps 4 (s' := (115, [some (.ref 47), some (.int (ei_ (name))), some (.int (ei_ (cold))), some (.int (ei_ (x1))), some (.int (ei_ (1))), some (.int (ei_ (0))), some (.int (ei_ (x49))), some (.int (ei_ (x51))), some (.int (ei_ ((((((cold * x54) - 0) - x49) + x51) - 1))))], [.int (ei_ (0)), .int (ei_ (1)), .ref 56], wi_ m 56 (0) (x54))) rfl ?_
    refine pw_ist rfl rfl (by omega) ?_
    refine pw_steps 4 (s' := (123, [some (.ref 47), some (.int (ei_ (name))), some (.int (ei_ (cold))), some (.int (ei_ (x1))), some (.int (ei_ (1))), some (.int (ei_ (0))), some (.int (ei_ (x49))), some (.int (ei_ (x51))), some (.int (ei_ ((((((cold * x54) - 0) - x49) + x51) - 1))))], [.int (ei_ (x51)), .int (ei_ (2)), .ref 56], wi_ (wi_ m 56 (0) (x54)) 56 (1) (0))) rfl ?_
    refine pw_ist rfl rfl (by omega) ?_
    refine pw_steps 4 (s' := (130, [some (.ref 47), some (.int (ei_ (name))), some (.int (ei_ (cold))), some (.int (ei_ (x1))), some (.int (ei_ (1))), some (.int (ei_ (0))), some (.int (ei_ (x49))), some (.int (ei_ (x51))), some (.int (ei_ ((((((cold * x54) - 0) - x49) + x51) - 1))))], [.int (ei_ (cold)), .int (ei_ (3)), .ref 56], wi_ (wi_ (wi_ m 56 (0) (x54)) 56 (1) (0)) 56 (2) (x51))) rfl ?_
    refine pw_ist rfl rfl (by omega) ?_
    refine pw_steps 4 (s' := (138, [some (.ref 47), some (.int (ei_ (name))), some (.int (ei_ (cold))), some (.int (ei_ (x1))), some (.int (ei_ (1))), some (.int (ei_ (0))), some (.int (ei_ (x49))), some (.int (ei_ (x51))), some (.int (ei_ ((((((cold * x54) - 0) - x49) + x51) - 1))))], [.int (ei_ (x49)), .int (ei_ (4)), .ref 56], wi_ (wi_ (wi_ (wi_ m 56 (0) (x54)) 56 (1) (0)) 56 (2) (x51)) 56 (3) (cold))) rfl ?_
    refine pw_ist rfl rfl (by omega) ?_
    refine pw_steps 5 (s' := (146, [some (.ref 47), some (.int (ei_ (name))), some (.int (ei_ (cold))), some (.int (ei_ (x1))), some (.int (ei_ (1))), some (.int (ei_ (0))), some (.int (ei_ (x49))), some (.int (ei_ (x51))), some (.int (ei_ ((((((cold * x54) - 0) - x49) + x51) - 1))))], [.int (ei_ (name)), .int (ei_ (x1)), .int (ei_ (5)), .ref 56], wi_ (wi_ (wi_ (wi_ (wi_ m 56 (0) (x54)) 56 (1) (0)) 56 (2) (x51)) 56 (3) (cold)) 56 (4) (x49))) rfl ?_
    refine pw_cmp rfl ⟨rx1, sx1⟩ (by omega) (fun (h57 : ¬ x1 = name) => ?_) (fun (h57 : ¬ ¬ x1 = name) => ?_)
    · refine pw_steps 1 (s' := (154, [some (.ref 47), some (.int (ei_ (name))), some (.int (ei_ (cold))), some (.int (ei_ (x1))), some (.int (ei_ (1))), some (.int (ei_ (0))), some (.int (ei_ (x49))), some (.int (ei_ (x51))), some (.int (ei_ ((((((cold * x54) - 0) - x49) + x51) - 1))))], [.int (ei_ (1)), .int (ei_ (5)), .ref 56], wi_ (wi_ (wi_ (wi_ (wi_ m 56 (0) (x54)) 56 (1) (0)) 56 (2) (x51)) 56 (3) (cold)) 56 (4) (x49))) rfl ?_
      refine pw_ist rfl rfl (by omega) ?_
      refine pw_steps 3 (s' := (158, [some (.ref 47), some (.int (ei_ (name))), some (.int (ei_ (cold))), some (.int (ei_ (x1))), some (.int (ei_ (1))), some (.int (ei_ (0))), some (.int (ei_ (x49))), some (.int (ei_ (x51))), some (.int (ei_ ((((((cold * x54) - 0) - x49) + x51) - 1))))], [.ref 47, .int (ei_ (0)), .ref 47], wi_ (wi_ (wi_ (wi_ (wi_ (wi_ m 56 (0) (x54)) 56 (1) (0)) 56 (2) (x51)) 56 (3) (cold)) 56 (4) (x49)) 56 (5) (1))) rfl ?_
      refine pw_get rfl rfl (fun x58 (hx58 : x58 = vi_ m 47 12) rx58 sx58 => ?_)
      replace hx58 : x58 = vi_ m0 47 12 := hx58.trans (sm_v p2 rfl)
      replace hx58 : x58 = n := hx58.trans q1
      subst x58
      refine pw_call (As := [.int (ei_ (0)), .int (ei_ (n))]) (st := []) (k := 47) rfl rfl rfl rfl rfl (Nat.le_of_ble_eq_true rfl) ?_
      refine mt_workOut (Or.inr ⟨rfl, fun j a b => by simp only [vi_ne (show (55 : Nat) ≠ 56 by decide)]; rw [sm_v p2 (k := 55) rfl]; exact q4 j a b⟩) (q3) (q2) (fun x59 m160 g61 g62 g63 g64 g65 => ?_) (fun x66 m167 g68 g69 g70 g71 g72 => ?_)
      · have hz_ : x59 = xq_ (nv_ x54 0 x51 cold x49 (if x1 = name then 0 else 1)) (pg_ B n 900 121 0).2.2 [] := by
          rw [g64, xq_cg (vi_wo (by omega) (by omega) (by omega) (by omega) (by omega) (by omega))]
          first | rw [if_pos (by omega)] | rw [if_neg (by omega)]
        refine pw_steps 2 (s' := (168, [some (.ref 47), some (.int (ei_ (name))), some (.int (ei_ (cold))), some (.int (ei_ (x1))), some (.int (ei_ (1))), some (.int (ei_ (0))), some (.int (ei_ (x49))), some (.int (ei_ (x51))), some (.int (ei_ (x59)))], [.int (ei_ (x59))], m160)) rfl ?_
        refine pw_if rfl g65 (fun (h73 : 0 ≤ x59) => ?_) (fun (h73 : ¬ (0 ≤ x59)) => ?_)
        · refine pw_steps 2 (s' := (179, [some (.ref 47), some (.int (ei_ (name))), some (.int (ei_ (cold))), some (.int (ei_ (x1))), some (.int (ei_ (1))), some (.int (ei_ (0))), some (.int (ei_ (x49))), some (.int (ei_ (x51))), some (.int (ei_ (x59)))], [.int (ei_ (99)), .int (ei_ (x59))], m160)) rfl ?_
          refine pw_cmp rfl g65 (by decide) (fun (h74 : x59 ≤ 99) => ?_) (fun (h74 : ¬ (x59 ≤ 99)) => ?_)
          · refine pw_steps 1 (s' := (189, [some (.ref 47), some (.int (ei_ (name))), some (.int (ei_ (cold))), some (.int (ei_ (x1))), some (.int (ei_ (1))), some (.int (ei_ (0))), some (.int (ei_ (x49))), some (.int (ei_ (x51))), some (.int (ei_ (x59)))], [.int (ei_ (x59))], m160)) rfl ?_
            refine pw_iret rfl rfl rfl ?_
            have hm_ : x51 = cn_ (vi_ m0 52) (vi_ m0 52 name) (vi_ m0 1 1).toNat := by rw [← hx1]; exact g52
            have hg_ : (if x1 = name then (0 : Int) else 1) = (if x1 = name then 0 else 1) := by omega
            have hr_ : x59 = rt_ m0 x1 name x51 cold := rt_of (g := if x1 = name then 0 else 1) (show x59 = lw_v m0 x54 0 x51 cold x49 (if x1 = name then 0 else 1) from by rw [lw_v, if_neg q7, q6]; unfold hd_; rw [← hz_]; omega) (by rw [Int.zero_add] at hx54; exact hx54) (by omega) (by omega) rfl
            exact k0 x59 _ (sm_tr (sm_w (sm_w (sm_w (sm_w (sm_w (sm_w (sm_rfl m) (fun _ h_ => by rw [h_]; rfl)) (fun _ h_ => by rw [h_]; rfl)) (fun _ h_ => by rw [h_]; rfl)) (fun _ h_ => by rw [h_]; rfl)) (fun _ h_ => by rw [h_]; rfl)) (fun _ h_ => by rw [h_]; rfl)) (sm_le g62 pRd_Pr)) (by rw [bn_, ← hm_, ← hx1]; exact hr_) (by omega)
          · refine pw_steps 2 (s' := (189, [some (.ref 47), some (.int (ei_ (name))), some (.int (ei_ (cold))), some (.int (ei_ (x1))), some (.int (ei_ (1))), some (.int (ei_ (0))), some (.int (ei_ (x49))), some (.int (ei_ (x51))), some (.int (ei_ (x59)))], [.int (ei_ (99))], m160)) rfl ?_
            refine pw_iret rfl rfl rfl ?_
            have hm_ : x51 = cn_ (vi_ m0 52) (vi_ m0 52 name) (vi_ m0 1 1).toNat := by rw [← hx1]; exact g52
            have hg_ : (if x1 = name then (0 : Int) else 1) = (if x1 = name then 0 else 1) := by omega
            have hr_ : 99 = rt_ m0 x1 name x51 cold := rt_of (g := if x1 = name then 0 else 1) (show 99 = lw_v m0 x54 0 x51 cold x49 (if x1 = name then 0 else 1) from by rw [lw_v, if_neg q7, q6]; unfold hd_; rw [← hz_]; omega) (by rw [Int.zero_add] at hx54; exact hx54) (by omega) (by omega) rfl
            exact k0 99 _ (sm_tr (sm_w (sm_w (sm_w (sm_w (sm_w (sm_w (sm_rfl m) (fun _ h_ => by rw [h_]; rfl)) (fun _ h_ => by rw [h_]; rfl)) (fun _ h_ => by rw [h_]; rfl)) (fun _ h_ => by rw [h_]; rfl)) (fun _ h_ => by rw [h_]; rfl)) (fun _ h_ => by rw [h_]; rfl)) (sm_le g62 pRd_Pr)) (by rw [bn_, ← hm_, ← hx1]; exact hr_) (by omega)
        · refine pw_steps 2 (s' := (189, [some (.ref 47), some (.int (ei_ (name))), some (.int (ei_ (cold))), some (.int (ei_ (x1))), some (.int (ei_ (1))), some (.int (ei_ (0))), some (.int (ei_ (x49))), some (.int (ei_ (x51))), some (.int (ei_ (x59)))], [.int (ei_ (0))], m160)) rfl ?_
          refine pw_iret rfl rfl rfl ?_
          have hm_ : x51 = cn_ (vi_ m0 52) (vi_ m0 52 name) (vi_ m0 1 1).toNat := by rw [← hx1]; exact g52
          have hg_ : (if x1 = name then (0 : Int) else 1) = (if x1 = name then 0 else 1) := by omega
          have hr_ : 0 = rt_ m0 x1 name x51 cold := rt_of (g := if x1 = name then 0 else 1) (show 0 = lw_v m0 x54 0 x51 cold x49 (if x1 = name then 0 else 1) from by rw [lw_v, if_neg q7, q6]; unfold hd_; rw [← hz_]; omega) (by rw [Int.zero_add] at hx54; exact hx54) (by omega) (by omega) rfl
          exact k0 0 _ (sm_tr (sm_w (sm_w (sm_w (sm_w (sm_w (sm_w (sm_rfl m) (fun _ h_ => by rw [h_]; rfl)) (fun _ h_ => by rw [h_]; rfl)) (fun _ h_ => by rw [h_]; rfl)) (fun _ h_ => by rw [h_]; rfl)) (fun _ h_ => by rw [h_]; rfl)) (fun _ h_ => by rw [h_]; rfl)) (sm_le g62 pRd_Pr)) (by rw [bn_, ← hm_, ← hx1]; exact hr_) (by omega)
      · exact absurd q5 g68
    · refine pw_steps 2 (s' := (154, [some (.ref 47), some (.int (ei_ (name))), some (.int (ei_ (cold))), some (.int (ei_ (x1))), some (.int (ei_ (1))), some (.int (ei_ (0))), some (.int (ei_ (x49))), some (.int (ei_ (x51))), some (.int (ei_ ((((((cold * x54) - 0) - x49) + x51) - 1))))], [.int (ei_ (0)), .int (ei_ (5)), .ref 56], wi_ (wi_ (wi_ (wi_ (wi_ m 56 (0) (x54)) 56 (1) (0)) 56 (2) (x51)) 56 (3) (cold)) 56 (4) (x49))) rfl ?_
      refine pw_ist rfl rfl (by omega) ?_
      refine pw_steps 3 (s' := (158, [some (.ref 47), some (.int (ei_ (name))), some (.int (ei_ (cold))), some (.int (ei_ (x1))), some (.int (ei_ (1))), some (.int (ei_ (0))), some (.int (ei_ (x49))), some (.int (ei_ (x51))), some (.int (ei_ ((((((cold * x54) - 0) - x49) + x51) - 1))))], [.ref 47, .int (ei_ (0)), .ref 47], wi_ (wi_ (wi_ (wi_ (wi_ (wi_ m 56 (0) (x54)) 56 (1) (0)) 56 (2) (x51)) 56 (3) (cold)) 56 (4) (x49)) 56 (5) (0))) rfl ?_
      refine pw_get rfl rfl (fun x75 (hx75 : x75 = vi_ m 47 12) rx75 sx75 => ?_)
      replace hx75 : x75 = vi_ m0 47 12 := hx75.trans (sm_v p2 rfl)
      replace hx75 : x75 = n := hx75.trans q1
      subst x75
      refine pw_call (As := [.int (ei_ (0)), .int (ei_ (n))]) (st := []) (k := 47) rfl rfl rfl rfl rfl (Nat.le_of_ble_eq_true rfl) ?_
      refine mt_workOut (Or.inr ⟨rfl, fun j a b => by simp only [vi_ne (show (55 : Nat) ≠ 56 by decide)]; rw [sm_v p2 (k := 55) rfl]; exact q4 j a b⟩) (q3) (q2) (fun x76 m177 g78 g79 g80 g81 g82 => ?_) (fun x83 m184 g85 g86 g87 g88 g89 => ?_)
      · have hz_ : x76 = xq_ (nv_ x54 0 x51 cold x49 (if x1 = name then 0 else 1)) (pg_ B n 900 121 0).2.2 [] := by
          rw [g81, xq_cg (vi_wo (by omega) (by omega) (by omega) (by omega) (by omega) (by omega))]
          first | rw [if_pos (by omega)] | rw [if_neg (by omega)]
        refine pw_steps 2 (s' := (168, [some (.ref 47), some (.int (ei_ (name))), some (.int (ei_ (cold))), some (.int (ei_ (x1))), some (.int (ei_ (1))), some (.int (ei_ (0))), some (.int (ei_ (x49))), some (.int (ei_ (x51))), some (.int (ei_ (x76)))], [.int (ei_ (x76))], m177)) rfl ?_
        refine pw_if rfl g82 (fun (h90 : 0 ≤ x76) => ?_) (fun (h90 : ¬ (0 ≤ x76)) => ?_)
        · refine pw_steps 2 (s' := (179, [some (.ref 47), some (.int (ei_ (name))), some (.int (ei_ (cold))), some (.int (ei_ (x1))), some (.int (ei_ (1))), some (.int (ei_ (0))), some (.int (ei_ (x49))), some (.int (ei_ (x51))), some (.int (ei_ (x76)))], [.int (ei_ (99)), .int (ei_ (x76))], m177)) rfl ?_
          refine pw_cmp rfl g82 (by decide) (fun (h91 : x76 ≤ 99) => ?_) (fun (h91 : ¬ (x76 ≤ 99)) => ?_)
          · refine pw_steps 1 (s' := (189, [some (.ref 47), some (.int (ei_ (name))), some (.int (ei_ (cold))), some (.int (ei_ (x1))), some (.int (ei_ (1))), some (.int (ei_ (0))), some (.int (ei_ (x49))), some (.int (ei_ (x51))), some (.int (ei_ (x76)))], [.int (ei_ (x76))], m177)) rfl ?_
            refine pw_iret rfl rfl rfl ?_
            have hm_ : x51 = cn_ (vi_ m0 52) (vi_ m0 52 name) (vi_ m0 1 1).toNat := by rw [← hx1]; exact g52
            have hg_ : (if x1 = name then (0 : Int) else 1) = (if x1 = name then 0 else 1) := by omega
            have hr_ : x76 = rt_ m0 x1 name x51 cold := rt_of (g := if x1 = name then 0 else 1) (show x76 = lw_v m0 x54 0 x51 cold x49 (if x1 = name then 0 else 1) from by rw [lw_v, if_neg q7, q6]; unfold hd_; rw [← hz_]; omega) (by rw [Int.zero_add] at hx54; exact hx54) (by omega) (by omega) rfl
            exact k0 x76 _ (sm_tr (sm_w (sm_w (sm_w (sm_w (sm_w (sm_w (sm_rfl m) (fun _ h_ => by rw [h_]; rfl)) (fun _ h_ => by rw [h_]; rfl)) (fun _ h_ => by rw [h_]; rfl)) (fun _ h_ => by rw [h_]; rfl)) (fun _ h_ => by rw [h_]; rfl)) (fun _ h_ => by rw [h_]; rfl)) (sm_le g79 pRd_Pr)) (by rw [bn_, ← hm_, ← hx1]; exact hr_) (by omega)
          · refine pw_steps 2 (s' := (189, [some (.ref 47), some (.int (ei_ (name))), some (.int (ei_ (cold))), some (.int (ei_ (x1))), some (.int (ei_ (1))), some (.int (ei_ (0))), some (.int (ei_ (x49))), some (.int (ei_ (x51))), some (.int (ei_ (x76)))], [.int (ei_ (99))], m177)) rfl ?_
            refine pw_iret rfl rfl rfl ?_
            have hm_ : x51 = cn_ (vi_ m0 52) (vi_ m0 52 name) (vi_ m0 1 1).toNat := by rw [← hx1]; exact g52
            have hg_ : (if x1 = name then (0 : Int) else 1) = (if x1 = name then 0 else 1) := by omega
            have hr_ : 99 = rt_ m0 x1 name x51 cold := rt_of (g := if x1 = name then 0 else 1) (show 99 = lw_v m0 x54 0 x51 cold x49 (if x1 = name then 0 else 1) from by rw [lw_v, if_neg q7, q6]; unfold hd_; rw [← hz_]; omega) (by rw [Int.zero_add] at hx54; exact hx54) (by omega) (by omega) rfl
            exact k0 99 _ (sm_tr (sm_w (sm_w (sm_w (sm_w (sm_w (sm_w (sm_rfl m) (fun _ h_ => by rw [h_]; rfl)) (fun _ h_ => by rw [h_]; rfl)) (fun _ h_ => by rw [h_]; rfl)) (fun _ h_ => by rw [h_]; rfl)) (fun _ h_ => by rw [h_]; rfl)) (fun _ h_ => by rw [h_]; rfl)) (sm_le g79 pRd_Pr)) (by rw [bn_, ← hm_, ← hx1]; exact hr_) (by omega)
        · refine pw_steps 2 (s' := (189, [some (.ref 47), some (.int (ei_ (name))), some (.int (ei_ (cold))), some (.int (ei_ (x1))), some (.int (ei_ (1))), some (.int (ei_ (0))), some (.int (ei_ (x49))), some (.int (ei_ (x51))), some (.int (ei_ (x76)))], [.int (ei_ (0))], m177)) rfl ?_
          refine pw_iret rfl rfl rfl ?_
          have hm_ : x51 = cn_ (vi_ m0 52) (vi_ m0 52 name) (vi_ m0 1 1).toNat := by rw [← hx1]; exact g52
          have hg_ : (if x1 = name then (0 : Int) else 1) = (if x1 = name then 0 else 1) := by omega
          have hr_ : 0 = rt_ m0 x1 name x51 cold := rt_of (g := if x1 = name then 0 else 1) (show 0 = lw_v m0 x54 0 x51 cold x49 (if x1 = name then 0 else 1) from by rw [lw_v, if_neg q7, q6]; unfold hd_; rw [← hz_]; omega) (by rw [Int.zero_add] at hx54; exact hx54) (by omega) (by omega) rfl
          exact k0 0 _ (sm_tr (sm_w (sm_w (sm_w (sm_w (sm_w (sm_w (sm_rfl m) (fun _ h_ => by rw [h_]; rfl)) (fun _ h_ => by rw [h_]; rfl)) (fun _ h_ => by rw [h_]; rfl)) (fun _ h_ => by rw [h_]; rfl)) (fun _ h_ => by rw [h_]; rfl)) (fun _ h_ => by rw [h_]; rfl)) (sm_le g79 pRd_Pr)) (by rw [bn_, ← hm_, ← hx1]; exact hr_) (by omega)
      · exact absurd q5 g85

theorem mb_burns {q : am_X} {d : Nat} {m : am_M} {Q : Option Value → am_M → Prop} {name cold : Int} {m0 : am_M} (p0 : rP_ m0) (p1 : mW_ m0) (p2 : sm_ pSc m0 m) (p3 : 0 ≤ name ∧ name < vi_ m0 1 1) (p4 : 0 ≤ cold ∧ cold ≤ 9) (pl : rL_ m0) (k0 : ∀ (x : Int) (m1 : am_M), sm_ pPr m m1 → x = bn_ m0 name cold → (0 ≤ x ∧ x ≤ 99) → Q (some (.int (ei_ x))) m1) : pw_C q (d + 50) 203 [.ref 47, .int (ei_ name), .int (ei_ cold)] m Q := by
  rcases pl with ⟨q1, q2⟩ | ⟨B, n, q1, q2, q3, q4, q5, q6, q7⟩
  · exact mb_burns0 q1 q2 p0 p1 p2 p3 p4 k0
  · exact mb_burns1 q1 q2 q3 q4 q5 q6 q7 p0 p1 p2 p3 p4 k0

