
def pPl (k j : Nat) : Bool := k == 11 && j == 2
theorem pPl_Tp : ∀ k j, pTp k j = false → pPl k j = false := by
  intro k j h
  simp only [pTp, pPl, Bool.or_eq_false_iff, Bool.and_eq_false_iff] at h ⊢
  exact h.2.imp id (fun g => g.1)
theorem tp_pl {B : Int → Int} {n : Int} {m m1 : am_M} (h : sm_ pPl m m1) (k : tp_ B n m) : tp_ B n m1 := tp_sm (sm_le h pPl_Tp) k
theorem wz_pl {m m1 m2 : am_M} {w : Int} {z : List Int} (h : sm_ pPl m m1) (g : wz_ m1 m2 w z) : wz_ m m2 w z := ⟨g.1, fun i a b => (g.2.1 i a b).trans (congrFun (sm_f h (fun _ => rfl)) i), g.2.2⟩
theorem ps_e {B : Int → Int} {n : Int} {f : Nat} {L o p g p1 : Int} {z : List Int} (h : ps_ B n f L o p = (g, p1, z)) (hp : p ≤ n) : (0 ≤ g ∧ g ≤ 1) ∧ p ≤ p1 ∧ p1 ≤ n ∧ (z.length : Int) ≤ p1 - p := by
  have b := ps_b (B := B) f L o p hp
  rw [h] at b
  obtain ⟨b1, b2, b3, b4⟩ := b
  exact ⟨by rcases b1 with b1 | b1 <;> simp only [] at b1 <;> omega, b2, b3, b4⟩
theorem ps_num {B : Int → Int} {n : Int} {f : Nat} {o p : Int} (h : p < n ∧ 48 ≤ B p ∧ B p ≤ 57) : ps_ B n (f + 1) 5 o p = (1, (dg_ B n 4 p 0).1, [256 + (dg_ B n 4 p 0).2]) := by
  simp only [ps_]
  rw [if_pos trivial, if_pos h]
theorem ps_nam {B : Int → Int} {n : Int} {f : Nat} {o p : Int} (h : ¬ (p < n ∧ 48 ≤ B p ∧ B p ≤ 57)) (g : p < n ∧ 0 ≤ kn_ (B p)) : ps_ B n (f + 1) 5 o p = (1, p + 1, [kn_ (B p)]) := by
  simp only [ps_]
  rw [if_pos trivial, if_neg h, if_pos g]
theorem ps_bad {B : Int → Int} {n : Int} {f : Nat} {o p : Int} (h : ¬ (p < n ∧ 48 ≤ B p ∧ B p ≤ 57)) (g : ¬ (p < n ∧ 0 ≤ kn_ (B p))) (k : 6 ≤ o ∨ ¬ (p < n ∧ (B p = 40 ∨ B p = 33 ∨ B p = 45))) : ps_ B n (f + 1) 5 o p = (0, p, []) := by
  simp only [ps_]
  rw [if_pos trivial, if_neg h, if_neg g, if_pos k]
theorem kn_op {b : Int} (h : b = 40 ∨ b = 33 ∨ b = 45) : kn_ b = -1 := by rcases h with h | h | h <;> subst h <;> rfl
theorem ps_par {B : Int → Int} {n : Int} {f : Nat} {o p g p1 : Int} {z : List Int} (ho : ¬ 6 ≤ o) (hp : p < n) (hb : B p = 40) (h : ps_ B n f 0 (o + 1) (p + 1) = (g, p1, z)) : ps_ B n (f + 1) 5 o p = if g = 1 ∧ p1 < n ∧ B p1 = 41 then (1, p1 + 1, z) else (0, p1, []) := by
  simp only [ps_]
  rw [if_pos trivial, if_neg (by omega), if_neg (by rw [kn_op (Or.inl hb)]; omega), if_neg (by omega), if_pos hb, h]
  rfl
theorem ps_trn {B : Int → Int} {n : Int} {f : Nat} {o p g p1 : Int} {z : List Int} (ho : ¬ 6 ≤ o) (hp : p < n) (hb : B p = 33 ∨ B p = 45) (h : ps_ B n f 5 (o + 1) (p + 1) = (g, p1, z)) : ps_ B n (f + 1) 5 o p = if g = 1 then (1, p1, z ++ [if B p = 33 then 33 else 126]) else (0, p1, []) := by
  simp only [ps_]
  rw [if_pos trivial, if_neg (by omega), if_neg (by rw [kn_op (Or.inr hb)]; omega), if_neg (by omega), if_neg (by omega), h]
  rfl
theorem ps_lev {B : Int → Int} {n : Int} {f : Nat} {L o p g p1 : Int} {z : List Int} (hL : L < 5) (h : ps_ B n f (L + 1) o p = (g, p1, z)) : ps_ B n (f + 1) L o p = if g = 1 then ((ps_ B n f (10 + L) o p1).1, (ps_ B n f (10 + L) o p1).2.1, z ++ (ps_ B n f (10 + L) o p1).2.2) else (0, p1, []) := by
  simp only [ps_]
  rw [if_neg (by omega), if_pos hL, h]
  rfl
theorem ps_lp0 {B : Int → Int} {n : Int} {f : Nat} {L o p : Int} (hL : 0 ≤ L ∧ L < 5) (h : ¬ (p < n ∧ lv_ (B p) = L)) : ps_ B n (f + 1) (10 + L) o p = (1, p, []) := by
  simp only [ps_]
  rw [if_neg (by omega), if_neg (by omega), if_neg (by rw [show 10 + L - 10 = L by omega]; exact h)]
theorem ps_lp1 {B : Int → Int} {n : Int} {f : Nat} {L o p g p1 : Int} {z : List Int} (hL : 0 ≤ L ∧ L < 5) (h : p < n ∧ lv_ (B p) = L) (e : ps_ B n f (L + 1) o (p + 1) = (g, p1, z)) : ps_ B n (f + 1) (10 + L) o p = if g = 1 then (if L = 2 then (1, p1, (z ++ [B p]) ++ []) else ((ps_ B n f (10 + L) o p1).1, (ps_ B n f (10 + L) o p1).2.1, (z ++ [B p]) ++ (ps_ B n f (10 + L) o p1).2.2)) else (0, p1, []) := by
  simp only [ps_]
  rw [if_neg (by omega), if_neg (by omega), if_pos (by rw [show 10 + L - 10 = L by omega]; exact h), show 10 + L - 9 = L + 1 by omega, e]
  by_cases h2 : L = 2
  · subst h2; rfl
  · have : ¬ (10 + L = 12) := by omega
    simp only [pj_, po_, if_neg this, if_neg h2]

theorem dg_s {B : Int → Int} {n k p a : Int} (hk : k < 4) (h : p < n ∧ 48 ≤ B p ∧ B p ≤ 57) : dg_ B n (4 - (k + 1)).toNat (p + 1) (a * 10 + B p - 48) = dg_ B n (4 - k).toNat p a := by
  rw [show (4 - k).toNat = (4 - (k + 1)).toNat + 1 by omega]
  simp only [dg_]
  rw [if_pos h]
theorem dg_e {B : Int → Int} {n k p a : Int} {X : Int × Int} (h : dg_ B n (4 - k).toNat p a = X) (c : 4 ≤ k ∨ ¬ (p < n ∧ 48 ≤ B p ∧ B p ≤ 57)) : p = X.1 ∧ 256 + a = 256 + X.2 := by
  rw [← h]
  rcases c with c | c
  · rw [show (4 - k).toNat = 0 by omega]; exact ⟨rfl, rfl⟩
  · cases hk : (4 - k).toNat with
    | zero => exact ⟨rfl, rfl⟩
    | succ j => simp only [dg_]; rw [if_neg c]; exact ⟨rfl, rfl⟩

set_option maxHeartbeats 4000000 in
set_option maxRecDepth 20000 in
theorem ct_number {q : am_X} {d : Nat} {m : am_M} {Q : Option Value → am_M → Prop}  {B : Int → Int} {n p w : Int} (p0 : tp_ B n m) (p1 : 0 ≤ p ∧ p ≤ n) (p2 : vi_ m 11 2 = p) (p3 : vi_ m 11 4 = w) (p4 : 0 ≤ w ∧ w ≤ p) (k0 : ∀ (m1 : am_M), (sm_ pTp m m1) → (vi_ m1 11 2 = (dg_ B n 4 p 0).1) → (0 ≤ vi_ m1 11 4) → (wz_ m m1 w [256 + (dg_ B n 4 p 0).2]) → Q none m1) : pw_C q (d + 2) 35 [.ref 11] m Q := by
  obtain ⟨hn1, hn2, hn3, hn4, hn5⟩ := id p0
  refine pw_intro (I := iX6_readNumber) (T := tX6_readNumber) rfl rfl rfl ?_
  refine pw_steps 4 (s' := (4, [some (.ref 11), some (.int (ei_ (0))), some (.int (ei_ (0)))], [], m)) rfl ?_
  have L3 : ∀ (n1 : Nat) (a : Int) (k : Int) (m1 : am_M) (pp : Int), (4 - k).toNat = n1 → (0 ≤ k ∧ k ≤ 4) → (p ≤ pp ∧ pp ≤ n) → (0 ≤ a ∧ ((k = 0 ∧ a = 0) ∨ (k = 1 ∧ a ≤ 9) ∨ (k = 2 ∧ a ≤ 99) ∨ (k = 3 ∧ a ≤ 999) ∨ (k = 4 ∧ a ≤ 9999))) → (sm_ pPl m m1) → (vi_ m1 11 2 = pp) → (dg_ B n (4 - k).toNat pp a = dg_ B n 4 p 0) → pw_V q (d + 1) iX6_readNumber.2.2.2.1 tX6_readNumber Q (4, [some (.ref 11), some (.int (ei_ (a))), some (.int (ei_ (k)))], [], m1) := by
    intro n1
    induction n1 using Nat.strongRecOn with
    | _ n1 ih2 =>
      intro a k m1 pp hm_n1 v4 v5 v6 hs hq hdg
      have tq := tp_pl hs p0
      refine pw_steps 2 (s' := (6, [some (.ref 11), some (.int (ei_ (a))), some (.int (ei_ (k)))], [.int (ei_ (4)), .int (ei_ (k))], m1)) rfl ?_
      refine pw_cmp rfl (by omega) (by decide) (fun (h7 : 4 ≤ k) => ?_) (fun (h7 : ¬ (4 ≤ k)) => ?_)
      · refine pw_steps 4 (s' := (54, [some (.ref 11), some (.int (ei_ (a))), some (.int (ei_ (k)))], [.int ((ei_ (256)) + (ei_ (a))), .ref 11], m1)) rfl ?_
        refine pw_cv (congrArg (fun z_ : Int32 => ((54, [some (.ref 11), some (.int (ei_ (a))), some (.int (ei_ (k)))], [.int z_, .ref 11], m1) : am_S)) (ei_add rfl rfl)) ?_
        refine pw_call (As := [.int (ei_ ((256 + a)))]) (st := []) (k := 11) rfl rfl rfl rfl rfl (Nat.le_of_ble_eq_true rfl) ?_
        refine ct_write (w := w) (by omega) (((sm_v hs rfl).trans p3)) (by omega) (fun m18 g9 g10 g11 => ?_)
        refine pw_vret rfl rfl ?_
        exact k0 m18 ((sm_tr (sm_le hs pPl_Tp) (sm_le g9 pWr_Tp))) (by have e_ := ((sm_v g9 rfl).trans hq); rw [e_]; exact (dg_e hdg (by omega)).1) (by have e_ := (g11 (by omega)).1; rw [e_]; simp only [List.length_singleton]; omega) (by rw [← (dg_e hdg (by omega)).2]; exact wz_pl hs (g11 (by omega)))
      · refine pw_steps 1 (s' := (10, [some (.ref 11), some (.int (ei_ (a))), some (.int (ei_ (k)))], [.ref 11], m1)) rfl ?_
        refine pw_call (As := []) (st := []) (k := 11) rfl rfl rfl rfl rfl (Nat.le_of_ble_eq_true rfl) ?_
        refine ct_next (p := pp) (by omega) (by omega) (hq) (fun g12 g13 => ?_) (fun g14 => ?_)
        · refine pw_callS (As := [.int (ei_ ((B pp)))]) (st := []) rfl (by decide) rfl rfl (Nat.le_of_ble_eq_true rfl) ?_
          refine pw_intro (I := iX6_isDigit) (T := tX6_isDigit) rfl rfl rfl ?_
          refine pw_steps 2 (s' := (3, [some (.int (ei_ ((B pp))))], [.int (ei_ (48)), .int (ei_ ((B pp)))], m1)) rfl ?_
          refine pw_cmp rfl (by omega) (by decide) (fun (h15 : (B pp) < 48) => ?_) (fun (h15 : ¬ ((B pp) < 48)) => ?_)
          · refine pw_steps 1 (s' := (17, [some (.int (ei_ ((B pp))))], [.int (ei_ (0))], m1)) rfl ?_
            refine pw_iret rfl rfl rfl ?_
            refine pw_ifT rfl (by decide) (show 0 = 0 by decide) ?_
            refine pw_steps 4 (s' := (54, [some (.ref 11), some (.int (ei_ (a))), some (.int (ei_ (k)))], [.int ((ei_ (256)) + (ei_ (a))), .ref 11], m1)) rfl ?_
            refine pw_cv (congrArg (fun z_ : Int32 => ((54, [some (.ref 11), some (.int (ei_ (a))), some (.int (ei_ (k)))], [.int z_, .ref 11], m1) : am_S)) (ei_add rfl rfl)) ?_
            refine pw_call (As := [.int (ei_ ((256 + a)))]) (st := []) (k := 11) rfl rfl rfl rfl rfl (Nat.le_of_ble_eq_true rfl) ?_
            refine ct_write (w := w) (by omega) (((sm_v hs rfl).trans p3)) (by omega) (fun m116 g17 g18 g19 => ?_)
            refine pw_vret rfl rfl ?_
            exact k0 m116 ((sm_tr (sm_le hs pPl_Tp) (sm_le g17 pWr_Tp))) (by have e_ := ((sm_v g17 rfl).trans hq); rw [e_]; exact (dg_e hdg (by omega)).1) (by have e_ := (g19 (by omega)).1; rw [e_]; simp only [List.length_singleton]; omega) (by rw [← (dg_e hdg (by omega)).2]; exact wz_pl hs (g19 (by omega)))
          · refine pw_steps 2 (s' := (9, [some (.int (ei_ ((B pp))))], [.int (ei_ (57)), .int (ei_ ((B pp)))], m1)) rfl ?_
            refine pw_cmp rfl (by omega) (by decide) (fun (h20 : 57 < (B pp)) => ?_) (fun (h20 : ¬ (57 < (B pp))) => ?_)
            · refine pw_steps 1 (s' := (17, [some (.int (ei_ ((B pp))))], [.int (ei_ (0))], m1)) rfl ?_
              refine pw_iret rfl rfl rfl ?_
              refine pw_ifT rfl (by decide) (show 0 = 0 by decide) ?_
              refine pw_steps 4 (s' := (54, [some (.ref 11), some (.int (ei_ (a))), some (.int (ei_ (k)))], [.int ((ei_ (256)) + (ei_ (a))), .ref 11], m1)) rfl ?_
              refine pw_cv (congrArg (fun z_ : Int32 => ((54, [some (.ref 11), some (.int (ei_ (a))), some (.int (ei_ (k)))], [.int z_, .ref 11], m1) : am_S)) (ei_add rfl rfl)) ?_
              refine pw_call (As := [.int (ei_ ((256 + a)))]) (st := []) (k := 11) rfl rfl rfl rfl rfl (Nat.le_of_ble_eq_true rfl) ?_
              refine ct_write (w := w) (by omega) (((sm_v hs rfl).trans p3)) (by omega) (fun m121 g22 g23 g24 => ?_)
              refine pw_vret rfl rfl ?_
              exact k0 m121 ((sm_tr (sm_le hs pPl_Tp) (sm_le g22 pWr_Tp))) (by have e_ := ((sm_v g22 rfl).trans hq); rw [e_]; exact (dg_e hdg (by omega)).1) (by have e_ := (g24 (by omega)).1; rw [e_]; simp only [List.length_singleton]; omega) (by rw [← (dg_e hdg (by omega)).2]; exact wz_pl hs (g24 (by omega)))
            · refine pw_steps 2 (s' := (17, [some (.int (ei_ ((B pp))))], [.int (ei_ (1))], m1)) rfl ?_
              refine pw_iret rfl rfl rfl ?_
              refine pw_ifF rfl (by decide) (show ¬ (1 = 0) by decide) ?_
              refine pw_steps 4 (s' := (24, [some (.ref 11), some (.int (ei_ (a))), some (.int (ei_ (k)))], [.ref 11, .int ((ei_ (a)) * (ei_ (10)))], m1)) rfl ?_
              refine pw_cv (congrArg (fun z_ : Int32 => ((24, [some (.ref 11), some (.int (ei_ (a))), some (.int (ei_ (k)))], [.ref 11, .int z_], m1) : am_S)) (ei_mul rfl rfl)) ?_
              refine pw_call (As := []) (st := [.int (ei_ ((a * 10)))]) (k := 11) rfl rfl rfl rfl rfl (Nat.le_of_ble_eq_true rfl) ?_
              refine ct_next (p := pp) (by omega) (by omega) (hq) (fun g25 g26 => ?_) (fun g27 => ?_)
              · refine pw_steps 6 (s' := (34, [some (.ref 11), some (.int (((ei_ ((a * 10))) + (ei_ ((B pp)))) - (ei_ (48)))), some (.int (ei_ (k)))], [.ref 11, .ref 11], m1)) rfl ?_
                refine pw_cv (congrArg (fun z_ : Int32 => ((34, [some (.ref 11), some (.int z_), some (.int (ei_ (k)))], [.ref 11, .ref 11], m1) : am_S)) (ei_sub (ei_add rfl rfl) rfl)) ?_
                refine pw_get rfl rfl (fun x28 (hx28 : x28 = vi_ m1 11 2) rx28 sx28 => ?_)
                replace hx28 : x28 = pp := hx28.trans hq
                subst x28
                refine pw_steps 2 (s' := (39, [some (.ref 11), some (.int (ei_ ((((a * 10) + (B pp)) - 48)))), some (.int (ei_ (k)))], [.int ((ei_ (pp)) + (ei_ (1))), .ref 11], m1)) rfl ?_
                refine pw_cv (congrArg (fun z_ : Int32 => ((39, [some (.ref 11), some (.int (ei_ ((((a * 10) + (B pp)) - 48)))), some (.int (ei_ (k)))], [.int z_, .ref 11], m1) : am_S)) (ei_add rfl rfl)) ?_
                refine pw_put (v := (pp + 1)) rfl rfl (Or.inl rfl) ?_
                refine pw_cv (s' := (42, [some (.ref 11), some (.int (ei_ ((((a * 10) + (B pp)) - 48)))), some (.int (ei_ (k)))], [], wi_ m1 11 (2) ((pp + 1)))) rfl ?_
                refine pw_steps 2 (s' := (4, [some (.ref 11), some (.int (ei_ ((((a * 10) + (B pp)) - 48)))), some (.int ((ei_ (k)) + (ei_ (1))))], [], wi_ m1 11 (2) ((pp + 1)))) rfl ?_
                refine pw_cv (congrArg (fun z_ : Int32 => ((4, [some (.ref 11), some (.int (ei_ ((((a * 10) + (B pp)) - 48)))), some (.int z_)], [], wi_ m1 11 (2) ((pp + 1))) : am_S)) (ei_add rfl rfl)) ?_
                exact ih2 _ (by omega) (((a * 10) + (B pp)) - 48) (k + 1) (wi_ m1 11 (2) ((pp + 1))) (pp + 1) rfl (by omega) (by omega) (by omega) ((sm_w hs (fun _ h_ => by rw [h_]; rfl))) ((ei_i (by omega))) (by rw [← hdg]; exact dg_s (by omega) (by omega))
              · exact False.elim (by omega)
        · refine pw_callS (As := [.int (ei_ ((-1)))]) (st := []) rfl (by decide) rfl rfl (Nat.le_of_ble_eq_true rfl) ?_
          refine pw_intro (I := iX6_isDigit) (T := tX6_isDigit) rfl rfl rfl ?_
          refine pw_steps 2 (s' := (3, [some (.int (ei_ ((-1))))], [.int (ei_ (48)), .int (ei_ ((-1)))], m1)) rfl ?_
          refine pw_cmpT rfl (by decide) (by decide) (show (-1) < 48 by decide) ?_
          refine pw_steps 1 (s' := (17, [some (.int (ei_ ((-1))))], [.int (ei_ (0))], m1)) rfl ?_
          refine pw_iret rfl rfl rfl ?_
          refine pw_ifT rfl (by decide) (show 0 = 0 by decide) ?_
          refine pw_steps 4 (s' := (54, [some (.ref 11), some (.int (ei_ (a))), some (.int (ei_ (k)))], [.int ((ei_ (256)) + (ei_ (a))), .ref 11], m1)) rfl ?_
          refine pw_cv (congrArg (fun z_ : Int32 => ((54, [some (.ref 11), some (.int (ei_ (a))), some (.int (ei_ (k)))], [.int z_, .ref 11], m1) : am_S)) (ei_add rfl rfl)) ?_
          refine pw_call (As := [.int (ei_ ((256 + a)))]) (st := []) (k := 11) rfl rfl rfl rfl rfl (Nat.le_of_ble_eq_true rfl) ?_
          refine ct_write (w := w) (by omega) (((sm_v hs rfl).trans p3)) (by omega) (fun m129 g30 g31 g32 => ?_)
          refine pw_vret rfl rfl ?_
          exact k0 m129 ((sm_tr (sm_le hs pPl_Tp) (sm_le g30 pWr_Tp))) (by have e_ := ((sm_v g30 rfl).trans hq); rw [e_]; exact (dg_e hdg (by omega)).1) (by have e_ := (g32 (by omega)).1; rw [e_]; simp only [List.length_singleton]; omega) (by rw [← (dg_e hdg (by omega)).2]; exact wz_pl hs (g32 (by omega)))
  exact L3 _ 0 0 m p rfl (by omega) (by omega) (by omega) (by exact sm_rfl m) (by exact p2) (by rfl)


theorem wz_cl {m m0 m1 m2 : am_M} {w : Int} {z : List Int} (g : wz_ m0 m1 w z) (e0 : vi_ m0 13 = vi_ m 13 := by rfl) (e1 : vi_ m2 13 = vi_ m1 13 := by rfl) (e2 : vi_ m2 11 4 = vi_ m1 11 4 := by rfl) : wz_ m m2 w z := ⟨e2.trans g.1, fun i a b => (congrFun e1 i).trans ((g.2.1 i a b).trans (congrFun e0 i)), by rw [e1]; exact g.2.2⟩

set_option maxHeartbeats 4000000 in
set_option maxRecDepth 20000 in
theorem cz_one {q : am_X} {B : Int → Int} {n : Int} {f : Nat} (hA1 : ∀ {L o p w : Int} {d : Nat} {m : am_M} {Q : Option Value → am_M → Prop}, (0 ≤ L ∧ L ≤ 5) → (0 ≤ o ∧ o ≤ 6) → (8 * (6 - o) + 10 - L ≤ (d : Int)) → (0 ≤ p ∧ p ≤ n) → (7 * (n - p) + 6 - L ≤ ((f : Nat) : Int)) → tp_ B n m → vi_ m 11 2 = p → vi_ m 11 4 = w → (0 ≤ w ∧ w ≤ p) → (∀ (g p1 : Int) (z1 : List Int) (m1 : am_M), ps_ B n (f) L o p = (g, p1, z1) → sm_ pTp m m1 → vi_ m1 11 2 = p1 → 0 ≤ vi_ m1 11 4 → (g = 1 → wz_ m m1 w z1) → Q (some (.int (ei_ g))) m1) → pw_C q d 31 [.ref 11, .int (ei_ L), .int (ei_ o)] m Q) (hA2 : ∀ {o p w : Int} {d : Nat} {m : am_M} {Q : Option Value → am_M → Prop}, (0 ≤ o ∧ o ≤ 6) → (8 * (6 - o) + 4 ≤ (d : Int)) → (0 ≤ p ∧ p ≤ n) → (7 * (n - p) + 1 ≤ ((f : Nat) : Int)) → tp_ B n m → vi_ m 11 2 = p → vi_ m 11 4 = w → (0 ≤ w ∧ w ≤ p) → (∀ (g p1 : Int) (z1 : List Int) (m1 : am_M), ps_ B n (f) 5 o p = (g, p1, z1) → sm_ pTp m m1 → vi_ m1 11 2 = p1 → 0 ≤ vi_ m1 11 4 → (g = 1 → wz_ m m1 w z1) → Q (some (.int (ei_ g))) m1) → pw_C q d 32 [.ref 11, .int (ei_ o)] m Q) : ∀ {o p w : Int} {d : Nat} {m : am_M} {Q : Option Value → am_M → Prop}, (0 ≤ o ∧ o ≤ 6) → (8 * (6 - o) + 4 ≤ (d : Int)) → (0 ≤ p ∧ p ≤ n) → (7 * (n - p) + 1 ≤ ((f + 1 : Nat) : Int)) → tp_ B n m → vi_ m 11 2 = p → vi_ m 11 4 = w → (0 ≤ w ∧ w ≤ p) → (∀ (g p1 : Int) (z1 : List Int) (m1 : am_M), ps_ B n (f + 1) 5 o p = (g, p1, z1) → sm_ pTp m m1 → vi_ m1 11 2 = p1 → 0 ≤ vi_ m1 11 4 → (g = 1 → wz_ m m1 w z1) → Q (some (.int (ei_ g))) m1) → pw_C q d 32 [.ref 11, .int (ei_ o)] m Q := by
  intro o p w d m Q p0 pd p1 pf p2 p3 p4 p5 k0
  obtain ⟨hn1, hn2, hn3, hn4, hn5⟩ := id p2
  obtain ⟨d1, rfl⟩ : ∃ d1, d = d1 + 4 := ⟨d - 4, by omega⟩
  refine pw_intro (I := iX6_readOne) (T := tX6_readOne) rfl rfl rfl ?_
  refine pw_steps 1 (s' := (1, [some (.ref 11), some (.int (ei_ (o))), none, none], [.ref 11], m)) rfl ?_
  refine pw_call (As := []) (st := []) (k := 11) rfl rfl rfl rfl rfl (Nat.le_of_ble_eq_true rfl) ?_
  refine ct_next (p := p) (p2) (by omega) (p3) (fun g1 g2 => ?_) (fun g3 => ?_)
  · refine pw_steps 2 (s' := (6, [some (.ref 11), some (.int (ei_ (o))), some (.int (ei_ ((B p)))), none], [.int (ei_ ((B p)))], m)) rfl ?_
    refine pw_callS (As := [.int (ei_ ((B p)))]) (st := []) rfl (by decide) rfl rfl (Nat.le_of_ble_eq_true rfl) ?_
    refine pw_intro (I := iX6_isDigit) (T := tX6_isDigit) rfl rfl rfl ?_
    refine pw_steps 2 (s' := (3, [some (.int (ei_ ((B p))))], [.int (ei_ (48)), .int (ei_ ((B p)))], m)) rfl ?_
    refine pw_cmp rfl (by omega) (by decide) (fun (h4 : (B p) < 48) => ?_) (fun (h4 : ¬ ((B p) < 48)) => ?_)
    · refine pw_steps 1 (s' := (17, [some (.int (ei_ ((B p))))], [.int (ei_ (0))], m)) rfl ?_
      refine pw_iret rfl rfl rfl ?_
      refine pw_ifT rfl (by decide) (show 0 = 0 by decide) ?_
      refine pw_steps 1 (s' := (19, [some (.ref 11), some (.int (ei_ (o))), some (.int (ei_ ((B p)))), none], [.int (ei_ ((B p)))], m)) rfl ?_
      refine pw_callS (As := [.int (ei_ ((B p)))]) (st := []) rfl (by decide) rfl rfl (Nat.le_of_ble_eq_true rfl) ?_
      refine ct_called (by omega) (fun x5 g6 g7 => ?_)
      refine pw_steps 2 (s' := (24, [some (.ref 11), some (.int (ei_ (o))), some (.int (ei_ ((B p)))), some (.int (ei_ (x5)))], [.int (ei_ (x5))], m)) rfl ?_
      refine pw_if rfl (by omega) (fun (h8 : x5 < 0) => ?_) (fun (h8 : ¬ (x5 < 0)) => ?_)
      · refine pw_steps 2 (s' := (47, [some (.ref 11), some (.int (ei_ (o))), some (.int (ei_ ((B p)))), some (.int (ei_ (x5)))], [.int (ei_ (6)), .int (ei_ (o))], m)) rfl ?_
        refine pw_cmp rfl (by omega) (by decide) (fun (h9 : 6 ≤ o) => ?_) (fun (h9 : ¬ (6 ≤ o)) => ?_)
        · refine pw_steps 1 (s' := (69, [some (.ref 11), some (.int (ei_ (o))), some (.int (ei_ ((B p)))), some (.int (ei_ (x5)))], [.int (ei_ (0))], m)) rfl ?_
          refine pw_iret rfl rfl rfl ?_
          exact k0 _ _ _ _ (ps_bad (by omega) (by omega) (by omega)) (sm_rfl m) p3 (by omega) (fun h_ => absurd h_ (by decide))
        · refine pw_steps 2 (s' := (53, [some (.ref 11), some (.int (ei_ (o))), some (.int (ei_ ((B p)))), some (.int (ei_ (x5)))], [.int (ei_ (40)), .int (ei_ ((B p)))], m)) rfl ?_
          refine pw_cmp rfl (by omega) (by decide) (fun (h10 : (B p) = 40) => ?_) (fun (h10 : ¬ ((B p) = 40)) => ?_)
          · refine pw_steps 2 (s' := (72, [some (.ref 11), some (.int (ei_ (o))), some (.int (ei_ ((B p)))), some (.int (ei_ (x5)))], [.ref 11, .ref 11], m)) rfl ?_
            refine pw_get rfl rfl (fun x11 (hx11 : x11 = vi_ m 11 2) rx11 sx11 => ?_)
            replace hx11 : x11 = p := hx11.trans p3
            subst x11
            refine pw_steps 2 (s' := (77, [some (.ref 11), some (.int (ei_ (o))), some (.int (ei_ ((B p)))), some (.int (ei_ (x5)))], [.int ((ei_ (p)) + (ei_ (1))), .ref 11], m)) rfl ?_
            refine pw_cv (congrArg (fun z_ : Int32 => ((77, [some (.ref 11), some (.int (ei_ (o))), some (.int (ei_ ((B p)))), some (.int (ei_ (x5)))], [.int z_, .ref 11], m) : am_S)) (ei_add rfl rfl)) ?_
            refine pw_put (v := (p + 1)) rfl rfl (Or.inl rfl) ?_
            refine pw_cv (s' := (80, [some (.ref 11), some (.int (ei_ (o))), some (.int (ei_ ((B p)))), some (.int (ei_ (x5)))], [], wi_ m 11 (2) ((p + 1)))) rfl ?_
            refine pw_steps 2 (s' := (83, [some (.ref 11), some (.int (ei_ (o))), some (.int (ei_ ((B p)))), some (.int (ei_ (x5)))], [.int (ei_ (40)), .int (ei_ ((B p)))], wi_ m 11 (2) ((p + 1)))) rfl ?_
            refine pw_cmpF rfl (by omega) (by decide) (show ¬ (¬ (B p) = 40) by omega) ?_
            refine pw_steps 4 (s' := (90, [some (.ref 11), some (.int (ei_ (o))), some (.int (ei_ ((B p)))), some (.int (ei_ (x5)))], [.int ((ei_ (o)) + (ei_ (1))), .ref 11], wi_ m 11 (2) ((p + 1)))) rfl ?_
            refine pw_cv (congrArg (fun z_ : Int32 => ((90, [some (.ref 11), some (.int (ei_ (o))), some (.int (ei_ ((B p)))), some (.int (ei_ (x5)))], [.int z_, .ref 11], wi_ m 11 (2) ((p + 1))) : am_S)) (ei_add rfl rfl)) ?_
            refine pw_call (As := [.int (ei_ ((o + 1)))]) (st := []) (k := 11) rfl rfl rfl rfl rfl (Nat.le_of_ble_eq_true rfl) ?_
            refine pw_intro (I := iX6_readInside) (T := tX6_readInside) rfl rfl rfl ?_
            refine pw_steps 3 (s' := (3, [some (.ref 11), some (.int (ei_ ((o + 1))))], [.int (ei_ ((o + 1))), .int (ei_ (0)), .ref 11], wi_ m 11 (2) ((p + 1)))) rfl ?_
            refine pw_call (As := [.int (ei_ (0)), .int (ei_ ((o + 1)))]) (st := []) (k := 11) rfl rfl rfl rfl rfl (Nat.le_of_ble_eq_true rfl) ?_
            refine hA1 (p := (p + 1)) (w := w) (by omega) (by omega) (by omega) (by omega) (by omega) (p2) ((ei_i (by omega))) (p4) (by omega) (fun g12 p113 z114 m115 g16 g17 g18 g19 g20 => ?_)
            have t21 : tp_ B n m115 := tp_sm g17 p2
            obtain ⟨b22a, b22b, b22c, b22d⟩ := ps_e g16 (by omega)
            refine pw_if rfl (by omega) (fun (h24 : g12 = 0) => ?_) (fun (h24 : ¬ (g12 = 0)) => ?_)
            · refine pw_steps 1 (s' := (19, [some (.ref 11), some (.int (ei_ ((o + 1))))], [.int (ei_ (0))], m115)) rfl ?_
              refine pw_iret rfl rfl rfl ?_
              refine pw_steps 1 (s' := (104, [some (.ref 11), some (.int (ei_ (o))), some (.int (ei_ ((B p)))), some (.int (ei_ (x5)))], [.int (ei_ (0))], m115)) rfl ?_
              refine pw_iret rfl rfl rfl ?_
              exact k0 _ _ _ _ ((ps_par (by omega) (by omega) (by omega) g16).trans (if_neg (by omega))) (sm_tr (sm_w (sm_rfl m) (fun _ h_ => by rw [h_]; rfl)) g17) g18 (by exact g19) (fun h_ => absurd h_ (by decide))
            · refine pw_steps 1 (s' := (10, [some (.ref 11), some (.int (ei_ ((o + 1))))], [.ref 11], m115)) rfl ?_
              refine pw_call (As := []) (st := []) (k := 11) rfl rfl rfl rfl rfl (Nat.le_of_ble_eq_true rfl) ?_
              refine ct_next (p := p113) (t21) (by omega) (g18) (fun g25 g26 => ?_) (fun g27 => ?_)
              · refine pw_steps 1 (s' := (15, [some (.ref 11), some (.int (ei_ ((o + 1))))], [.int (ei_ (41)), .int (ei_ ((B p113)))], m115)) rfl ?_
                refine pw_cmp rfl (by omega) (by decide) (fun (h28 : (B p113) = 41) => ?_) (fun (h28 : ¬ ((B p113) = 41)) => ?_)
                · refine pw_steps 2 (s' := (22, [some (.ref 11), some (.int (ei_ ((o + 1))))], [.ref 11, .ref 11], m115)) rfl ?_
                  refine pw_get rfl rfl (fun x29 (hx29 : x29 = vi_ m115 11 2) rx29 sx29 => ?_)
                  replace hx29 : x29 = p113 := hx29.trans g18
                  subst x29
                  refine pw_steps 2 (s' := (27, [some (.ref 11), some (.int (ei_ ((o + 1))))], [.int ((ei_ (p113)) + (ei_ (1))), .ref 11], m115)) rfl ?_
                  refine pw_cv (congrArg (fun z_ : Int32 => ((27, [some (.ref 11), some (.int (ei_ ((o + 1))))], [.int z_, .ref 11], m115) : am_S)) (ei_add rfl rfl)) ?_
                  refine pw_put (v := (p113 + 1)) rfl rfl (Or.inl rfl) ?_
                  refine pw_cv (s' := (30, [some (.ref 11), some (.int (ei_ ((o + 1))))], [], wi_ m115 11 (2) ((p113 + 1)))) rfl ?_
                  refine pw_steps 1 (s' := (31, [some (.ref 11), some (.int (ei_ ((o + 1))))], [.int (ei_ (1))], wi_ m115 11 (2) ((p113 + 1)))) rfl ?_
                  refine pw_iret rfl rfl rfl ?_
                  refine pw_steps 1 (s' := (104, [some (.ref 11), some (.int (ei_ (o))), some (.int (ei_ ((B p)))), some (.int (ei_ (x5)))], [.int (ei_ (1))], wi_ m115 11 (2) ((p113 + 1)))) rfl ?_
                  refine pw_iret rfl rfl rfl ?_
                  exact k0 _ _ _ _ ((ps_par (by omega) (by omega) (by omega) g16).trans (if_pos (by omega))) (sm_w (sm_tr (sm_w (sm_rfl m) (fun _ h_ => by rw [h_]; rfl)) g17) (fun _ h_ => by rw [h_]; rfl)) (ei_i (by omega)) (by exact g19) (fun _ => wz_cl (g20 (by omega)))
                · refine pw_steps 1 (s' := (19, [some (.ref 11), some (.int (ei_ ((o + 1))))], [.int (ei_ (0))], m115)) rfl ?_
                  refine pw_iret rfl rfl rfl ?_
                  refine pw_steps 1 (s' := (104, [some (.ref 11), some (.int (ei_ (o))), some (.int (ei_ ((B p)))), some (.int (ei_ (x5)))], [.int (ei_ (0))], m115)) rfl ?_
                  refine pw_iret rfl rfl rfl ?_
                  exact k0 _ _ _ _ ((ps_par (by omega) (by omega) (by omega) g16).trans (if_neg (by omega))) (sm_tr (sm_w (sm_rfl m) (fun _ h_ => by rw [h_]; rfl)) g17) g18 (by exact g19) (fun h_ => absurd h_ (by decide))
              · refine pw_steps 1 (s' := (15, [some (.ref 11), some (.int (ei_ ((o + 1))))], [.int (ei_ (41)), .int (ei_ ((-1)))], m115)) rfl ?_
                refine pw_cmpF rfl (by decide) (by decide) (show ¬ ((-1) = 41) by decide) ?_
                refine pw_steps 1 (s' := (19, [some (.ref 11), some (.int (ei_ ((o + 1))))], [.int (ei_ (0))], m115)) rfl ?_
                refine pw_iret rfl rfl rfl ?_
                refine pw_steps 1 (s' := (104, [some (.ref 11), some (.int (ei_ (o))), some (.int (ei_ ((B p)))), some (.int (ei_ (x5)))], [.int (ei_ (0))], m115)) rfl ?_
                refine pw_iret rfl rfl rfl ?_
                exact k0 _ _ _ _ ((ps_par (by omega) (by omega) (by omega) g16).trans (if_neg (by omega))) (sm_tr (sm_w (sm_rfl m) (fun _ h_ => by rw [h_]; rfl)) g17) g18 (by exact g19) (fun h_ => absurd h_ (by decide))
          · refine pw_steps 2 (s' := (59, [some (.ref 11), some (.int (ei_ (o))), some (.int (ei_ ((B p)))), some (.int (ei_ (x5)))], [.int (ei_ (33)), .int (ei_ ((B p)))], m)) rfl ?_
            refine pw_cmp rfl (by omega) (by decide) (fun (h30 : (B p) = 33) => ?_) (fun (h30 : ¬ ((B p) = 33)) => ?_)
            · refine pw_steps 2 (s' := (72, [some (.ref 11), some (.int (ei_ (o))), some (.int (ei_ ((B p)))), some (.int (ei_ (x5)))], [.ref 11, .ref 11], m)) rfl ?_
              refine pw_get rfl rfl (fun x31 (hx31 : x31 = vi_ m 11 2) rx31 sx31 => ?_)
              replace hx31 : x31 = p := hx31.trans p3
              subst x31
              refine pw_steps 2 (s' := (77, [some (.ref 11), some (.int (ei_ (o))), some (.int (ei_ ((B p)))), some (.int (ei_ (x5)))], [.int ((ei_ (p)) + (ei_ (1))), .ref 11], m)) rfl ?_
              refine pw_cv (congrArg (fun z_ : Int32 => ((77, [some (.ref 11), some (.int (ei_ (o))), some (.int (ei_ ((B p)))), some (.int (ei_ (x5)))], [.int z_, .ref 11], m) : am_S)) (ei_add rfl rfl)) ?_
              refine pw_put (v := (p + 1)) rfl rfl (Or.inl rfl) ?_
              refine pw_cv (s' := (80, [some (.ref 11), some (.int (ei_ (o))), some (.int (ei_ ((B p)))), some (.int (ei_ (x5)))], [], wi_ m 11 (2) ((p + 1)))) rfl ?_
              refine pw_steps 2 (s' := (83, [some (.ref 11), some (.int (ei_ (o))), some (.int (ei_ ((B p)))), some (.int (ei_ (x5)))], [.int (ei_ (40)), .int (ei_ ((B p)))], wi_ m 11 (2) ((p + 1)))) rfl ?_
              refine pw_cmp rfl (by omega) (by decide) (fun (h32 : ¬ (B p) = 40) => ?_) (fun (h32 : ¬ ¬ (B p) = 40) => ?_)
              · refine pw_steps 5 (s' := (101, [some (.ref 11), some (.int (ei_ (o))), some (.int (ei_ ((B p)))), some (.int (ei_ (x5)))], [.int ((ei_ (o)) + (ei_ (1))), .int (ei_ ((B p))), .ref 11], wi_ m 11 (2) ((p + 1)))) rfl ?_
                refine pw_cv (congrArg (fun z_ : Int32 => ((101, [some (.ref 11), some (.int (ei_ (o))), some (.int (ei_ ((B p)))), some (.int (ei_ (x5)))], [.int z_, .int (ei_ ((B p))), .ref 11], wi_ m 11 (2) ((p + 1))) : am_S)) (ei_add rfl rfl)) ?_
                refine pw_call (As := [.int (ei_ ((B p))), .int (ei_ ((o + 1)))]) (st := []) (k := 11) rfl rfl rfl rfl rfl (Nat.le_of_ble_eq_true rfl) ?_
                refine pw_intro (I := iX6_readTurned) (T := tX6_readTurned) rfl rfl rfl ?_
                refine pw_steps 2 (s' := (2, [some (.ref 11), some (.int (ei_ ((B p)))), some (.int (ei_ ((o + 1))))], [.int (ei_ ((o + 1))), .ref 11], wi_ m 11 (2) ((p + 1)))) rfl ?_
                refine pw_call (As := [.int (ei_ ((o + 1)))]) (st := []) (k := 11) rfl rfl rfl rfl rfl (Nat.le_of_ble_eq_true rfl) ?_
                refine hA2 (p := (p + 1)) (w := w) (by omega) (by omega) (by omega) (by omega) (p2) ((ei_i (by omega))) (p4) (by omega) (fun g33 p134 z135 m136 g37 g38 g39 g40 g41 => ?_)
                have t42 : tp_ B n m136 := tp_sm g38 p2
                obtain ⟨b43a, b43b, b43c, b43d⟩ := ps_e g37 (by omega)
                refine pw_if rfl (by omega) (fun (h45 : ¬ g33 = 0) => ?_) (fun (h45 : ¬ ¬ g33 = 0) => ?_)
                · refine pw_steps 3 (s' := (14, [some (.ref 11), some (.int (ei_ ((B p)))), some (.int (ei_ ((o + 1))))], [.int (ei_ (33)), .int (ei_ ((B p))), .ref 11], m136)) rfl ?_
                  refine pw_cmpF rfl (by omega) (by decide) (show ¬ (¬ (B p) = 33) by omega) ?_
                  refine pw_steps 2 (s' := (24, [some (.ref 11), some (.int (ei_ ((B p)))), some (.int (ei_ ((o + 1))))], [.int (ei_ (33)), .ref 11], m136)) rfl ?_
                  refine pw_call (As := [.int (ei_ (33))]) (st := []) (k := 11) rfl rfl rfl rfl rfl (Nat.le_of_ble_eq_true rfl) ?_
                  refine ct_write (w := vi_ m136 11 4) (by omega) (rfl) (by omega) (fun m146 g47 g48 g49 => ?_)
                  have t50 : tp_ B n m146 := tp_wr g47 t42
                  refine pw_steps 1 (s' := (28, [some (.ref 11), some (.int (ei_ ((B p)))), some (.int (ei_ ((o + 1))))], [.int (ei_ (1))], m146)) rfl ?_
                  refine pw_iret rfl rfl rfl ?_
                  refine pw_iret rfl rfl rfl ?_
                  exact k0 _ _ _ _ ((ps_trn (by omega) (by omega) (by omega) g37).trans (if_pos (by omega))) (sm_tr (sm_tr (sm_w (sm_rfl m) (fun _ h_ => by rw [h_]; rfl)) g38) (sm_le g47 pWr_Tp)) ((sm_v g47 rfl).trans g39) g48 (fun _ => by rw [show (if B p = 33 then (33:Int) else 126) = 33 from by split <;> omega]; exact wz_app (by omega) (wz_cl (g41 (by omega))) (g41 (by omega)).1 (g49 (by have h_ := (g41 (by omega)).1; omega)))
                · refine pw_steps 1 (s' := (9, [some (.ref 11), some (.int (ei_ ((B p)))), some (.int (ei_ ((o + 1))))], [.int (ei_ (0))], m136)) rfl ?_
                  refine pw_iret rfl rfl rfl ?_
                  refine pw_iret rfl rfl rfl ?_
                  exact k0 _ _ _ _ ((ps_trn (by omega) (by omega) (by omega) g37).trans (if_neg (by omega))) (sm_tr (sm_w (sm_rfl m) (fun _ h_ => by rw [h_]; rfl)) g38) g39 (by exact g40) (fun h_ => absurd h_ (by decide))
              · refine pw_steps 4 (s' := (90, [some (.ref 11), some (.int (ei_ (o))), some (.int (ei_ ((B p)))), some (.int (ei_ (x5)))], [.int ((ei_ (o)) + (ei_ (1))), .ref 11], wi_ m 11 (2) ((p + 1)))) rfl ?_
                refine pw_cv (congrArg (fun z_ : Int32 => ((90, [some (.ref 11), some (.int (ei_ (o))), some (.int (ei_ ((B p)))), some (.int (ei_ (x5)))], [.int z_, .ref 11], wi_ m 11 (2) ((p + 1))) : am_S)) (ei_add rfl rfl)) ?_
                refine pw_call (As := [.int (ei_ ((o + 1)))]) (st := []) (k := 11) rfl rfl rfl rfl rfl (Nat.le_of_ble_eq_true rfl) ?_
                refine pw_intro (I := iX6_readInside) (T := tX6_readInside) rfl rfl rfl ?_
                refine pw_steps 3 (s' := (3, [some (.ref 11), some (.int (ei_ ((o + 1))))], [.int (ei_ ((o + 1))), .int (ei_ (0)), .ref 11], wi_ m 11 (2) ((p + 1)))) rfl ?_
                refine pw_call (As := [.int (ei_ (0)), .int (ei_ ((o + 1)))]) (st := []) (k := 11) rfl rfl rfl rfl rfl (Nat.le_of_ble_eq_true rfl) ?_
                refine hA1 (p := (p + 1)) (w := w) (by omega) (by omega) (by omega) (by omega) (by omega) (p2) ((ei_i (by omega))) (p4) (by omega) (fun g51 p152 z153 m154 g55 g56 g57 g58 g59 => ?_)
                have t60 : tp_ B n m154 := tp_sm g56 p2
                obtain ⟨b61a, b61b, b61c, b61d⟩ := ps_e g55 (by omega)
                refine pw_if rfl (by omega) (fun (h63 : g51 = 0) => ?_) (fun (h63 : ¬ (g51 = 0)) => ?_)
                · refine pw_steps 1 (s' := (19, [some (.ref 11), some (.int (ei_ ((o + 1))))], [.int (ei_ (0))], m154)) rfl ?_
                  refine pw_iret rfl rfl rfl ?_
                  refine pw_steps 1 (s' := (104, [some (.ref 11), some (.int (ei_ (o))), some (.int (ei_ ((B p)))), some (.int (ei_ (x5)))], [.int (ei_ (0))], m154)) rfl ?_
                  refine pw_iret rfl rfl rfl ?_
                  exact k0 _ _ _ _ ((ps_par (by omega) (by omega) (by omega) g55).trans (if_neg (by omega))) (sm_tr (sm_w (sm_rfl m) (fun _ h_ => by rw [h_]; rfl)) g56) g57 (by exact g58) (fun h_ => absurd h_ (by decide))
                · refine pw_steps 1 (s' := (10, [some (.ref 11), some (.int (ei_ ((o + 1))))], [.ref 11], m154)) rfl ?_
                  refine pw_call (As := []) (st := []) (k := 11) rfl rfl rfl rfl rfl (Nat.le_of_ble_eq_true rfl) ?_
                  refine ct_next (p := p152) (t60) (by omega) (g57) (fun g64 g65 => ?_) (fun g66 => ?_)
                  · refine pw_steps 1 (s' := (15, [some (.ref 11), some (.int (ei_ ((o + 1))))], [.int (ei_ (41)), .int (ei_ ((B p152)))], m154)) rfl ?_
                    refine pw_cmp rfl (by omega) (by decide) (fun (h67 : (B p152) = 41) => ?_) (fun (h67 : ¬ ((B p152) = 41)) => ?_)
                    · refine pw_steps 2 (s' := (22, [some (.ref 11), some (.int (ei_ ((o + 1))))], [.ref 11, .ref 11], m154)) rfl ?_
                      refine pw_get rfl rfl (fun x68 (hx68 : x68 = vi_ m154 11 2) rx68 sx68 => ?_)
                      replace hx68 : x68 = p152 := hx68.trans g57
                      subst x68
                      refine pw_steps 2 (s' := (27, [some (.ref 11), some (.int (ei_ ((o + 1))))], [.int ((ei_ (p152)) + (ei_ (1))), .ref 11], m154)) rfl ?_
                      refine pw_cv (congrArg (fun z_ : Int32 => ((27, [some (.ref 11), some (.int (ei_ ((o + 1))))], [.int z_, .ref 11], m154) : am_S)) (ei_add rfl rfl)) ?_
                      refine pw_put (v := (p152 + 1)) rfl rfl (Or.inl rfl) ?_
                      refine pw_cv (s' := (30, [some (.ref 11), some (.int (ei_ ((o + 1))))], [], wi_ m154 11 (2) ((p152 + 1)))) rfl ?_
                      refine pw_steps 1 (s' := (31, [some (.ref 11), some (.int (ei_ ((o + 1))))], [.int (ei_ (1))], wi_ m154 11 (2) ((p152 + 1)))) rfl ?_
                      refine pw_iret rfl rfl rfl ?_
                      refine pw_steps 1 (s' := (104, [some (.ref 11), some (.int (ei_ (o))), some (.int (ei_ ((B p)))), some (.int (ei_ (x5)))], [.int (ei_ (1))], wi_ m154 11 (2) ((p152 + 1)))) rfl ?_
                      refine pw_iret rfl rfl rfl ?_
                      exact k0 _ _ _ _ ((ps_par (by omega) (by omega) (by omega) g55).trans (if_pos (by omega))) (sm_w (sm_tr (sm_w (sm_rfl m) (fun _ h_ => by rw [h_]; rfl)) g56) (fun _ h_ => by rw [h_]; rfl)) (ei_i (by omega)) (by exact g58) (fun _ => wz_cl (g59 (by omega)))
                    · refine pw_steps 1 (s' := (19, [some (.ref 11), some (.int (ei_ ((o + 1))))], [.int (ei_ (0))], m154)) rfl ?_
                      refine pw_iret rfl rfl rfl ?_
                      refine pw_steps 1 (s' := (104, [some (.ref 11), some (.int (ei_ (o))), some (.int (ei_ ((B p)))), some (.int (ei_ (x5)))], [.int (ei_ (0))], m154)) rfl ?_
                      refine pw_iret rfl rfl rfl ?_
                      exact k0 _ _ _ _ ((ps_par (by omega) (by omega) (by omega) g55).trans (if_neg (by omega))) (sm_tr (sm_w (sm_rfl m) (fun _ h_ => by rw [h_]; rfl)) g56) g57 (by exact g58) (fun h_ => absurd h_ (by decide))
                  · refine pw_steps 1 (s' := (15, [some (.ref 11), some (.int (ei_ ((o + 1))))], [.int (ei_ (41)), .int (ei_ ((-1)))], m154)) rfl ?_
                    refine pw_cmpF rfl (by decide) (by decide) (show ¬ ((-1) = 41) by decide) ?_
                    refine pw_steps 1 (s' := (19, [some (.ref 11), some (.int (ei_ ((o + 1))))], [.int (ei_ (0))], m154)) rfl ?_
                    refine pw_iret rfl rfl rfl ?_
                    refine pw_steps 1 (s' := (104, [some (.ref 11), some (.int (ei_ (o))), some (.int (ei_ ((B p)))), some (.int (ei_ (x5)))], [.int (ei_ (0))], m154)) rfl ?_
                    refine pw_iret rfl rfl rfl ?_
                    exact k0 _ _ _ _ ((ps_par (by omega) (by omega) (by omega) g55).trans (if_neg (by omega))) (sm_tr (sm_w (sm_rfl m) (fun _ h_ => by rw [h_]; rfl)) g56) g57 (by exact g58) (fun h_ => absurd h_ (by decide))
            · refine pw_steps 2 (s' := (65, [some (.ref 11), some (.int (ei_ (o))), some (.int (ei_ ((B p)))), some (.int (ei_ (x5)))], [.int (ei_ (45)), .int (ei_ ((B p)))], m)) rfl ?_
              refine pw_cmp rfl (by omega) (by decide) (fun (h69 : (B p) = 45) => ?_) (fun (h69 : ¬ ((B p) = 45)) => ?_)
              · refine pw_steps 2 (s' := (72, [some (.ref 11), some (.int (ei_ (o))), some (.int (ei_ ((B p)))), some (.int (ei_ (x5)))], [.ref 11, .ref 11], m)) rfl ?_
                refine pw_get rfl rfl (fun x70 (hx70 : x70 = vi_ m 11 2) rx70 sx70 => ?_)
                replace hx70 : x70 = p := hx70.trans p3
                subst x70
                refine pw_steps 2 (s' := (77, [some (.ref 11), some (.int (ei_ (o))), some (.int (ei_ ((B p)))), some (.int (ei_ (x5)))], [.int ((ei_ (p)) + (ei_ (1))), .ref 11], m)) rfl ?_
                refine pw_cv (congrArg (fun z_ : Int32 => ((77, [some (.ref 11), some (.int (ei_ (o))), some (.int (ei_ ((B p)))), some (.int (ei_ (x5)))], [.int z_, .ref 11], m) : am_S)) (ei_add rfl rfl)) ?_
                refine pw_put (v := (p + 1)) rfl rfl (Or.inl rfl) ?_
                refine pw_cv (s' := (80, [some (.ref 11), some (.int (ei_ (o))), some (.int (ei_ ((B p)))), some (.int (ei_ (x5)))], [], wi_ m 11 (2) ((p + 1)))) rfl ?_
                refine pw_steps 2 (s' := (83, [some (.ref 11), some (.int (ei_ (o))), some (.int (ei_ ((B p)))), some (.int (ei_ (x5)))], [.int (ei_ (40)), .int (ei_ ((B p)))], wi_ m 11 (2) ((p + 1)))) rfl ?_
                refine pw_cmp rfl (by omega) (by decide) (fun (h71 : ¬ (B p) = 40) => ?_) (fun (h71 : ¬ ¬ (B p) = 40) => ?_)
                · refine pw_steps 5 (s' := (101, [some (.ref 11), some (.int (ei_ (o))), some (.int (ei_ ((B p)))), some (.int (ei_ (x5)))], [.int ((ei_ (o)) + (ei_ (1))), .int (ei_ ((B p))), .ref 11], wi_ m 11 (2) ((p + 1)))) rfl ?_
                  refine pw_cv (congrArg (fun z_ : Int32 => ((101, [some (.ref 11), some (.int (ei_ (o))), some (.int (ei_ ((B p)))), some (.int (ei_ (x5)))], [.int z_, .int (ei_ ((B p))), .ref 11], wi_ m 11 (2) ((p + 1))) : am_S)) (ei_add rfl rfl)) ?_
                  refine pw_call (As := [.int (ei_ ((B p))), .int (ei_ ((o + 1)))]) (st := []) (k := 11) rfl rfl rfl rfl rfl (Nat.le_of_ble_eq_true rfl) ?_
                  refine pw_intro (I := iX6_readTurned) (T := tX6_readTurned) rfl rfl rfl ?_
                  refine pw_steps 2 (s' := (2, [some (.ref 11), some (.int (ei_ ((B p)))), some (.int (ei_ ((o + 1))))], [.int (ei_ ((o + 1))), .ref 11], wi_ m 11 (2) ((p + 1)))) rfl ?_
                  refine pw_call (As := [.int (ei_ ((o + 1)))]) (st := []) (k := 11) rfl rfl rfl rfl rfl (Nat.le_of_ble_eq_true rfl) ?_
                  refine hA2 (p := (p + 1)) (w := w) (by omega) (by omega) (by omega) (by omega) (p2) ((ei_i (by omega))) (p4) (by omega) (fun g72 p173 z174 m175 g76 g77 g78 g79 g80 => ?_)
                  have t81 : tp_ B n m175 := tp_sm g77 p2
                  obtain ⟨b82a, b82b, b82c, b82d⟩ := ps_e g76 (by omega)
                  refine pw_if rfl (by omega) (fun (h84 : ¬ g72 = 0) => ?_) (fun (h84 : ¬ ¬ g72 = 0) => ?_)
                  · refine pw_steps 3 (s' := (14, [some (.ref 11), some (.int (ei_ ((B p)))), some (.int (ei_ ((o + 1))))], [.int (ei_ (33)), .int (ei_ ((B p))), .ref 11], m175)) rfl ?_
                    refine pw_cmp rfl (by omega) (by decide) (fun (h85 : ¬ (B p) = 33) => ?_) (fun (h85 : ¬ ¬ (B p) = 33) => ?_)
                    · refine pw_steps 1 (s' := (24, [some (.ref 11), some (.int (ei_ ((B p)))), some (.int (ei_ ((o + 1))))], [.int (ei_ (126)), .ref 11], m175)) rfl ?_
                      refine pw_call (As := [.int (ei_ (126))]) (st := []) (k := 11) rfl rfl rfl rfl rfl (Nat.le_of_ble_eq_true rfl) ?_
                      refine ct_write (w := vi_ m175 11 4) (by omega) (rfl) (by omega) (fun m186 g87 g88 g89 => ?_)
                      have t90 : tp_ B n m186 := tp_wr g87 t81
                      refine pw_steps 1 (s' := (28, [some (.ref 11), some (.int (ei_ ((B p)))), some (.int (ei_ ((o + 1))))], [.int (ei_ (1))], m186)) rfl ?_
                      refine pw_iret rfl rfl rfl ?_
                      refine pw_iret rfl rfl rfl ?_
                      exact k0 _ _ _ _ ((ps_trn (by omega) (by omega) (by omega) g76).trans (if_pos (by omega))) (sm_tr (sm_tr (sm_w (sm_rfl m) (fun _ h_ => by rw [h_]; rfl)) g77) (sm_le g87 pWr_Tp)) ((sm_v g87 rfl).trans g78) g88 (fun _ => by rw [show (if B p = 33 then (33:Int) else 126) = 126 from by split <;> omega]; exact wz_app (by omega) (wz_cl (g80 (by omega))) (g80 (by omega)).1 (g89 (by have h_ := (g80 (by omega)).1; omega)))
                    · refine pw_steps 2 (s' := (24, [some (.ref 11), some (.int (ei_ ((B p)))), some (.int (ei_ ((o + 1))))], [.int (ei_ (33)), .ref 11], m175)) rfl ?_
                      refine pw_call (As := [.int (ei_ (33))]) (st := []) (k := 11) rfl rfl rfl rfl rfl (Nat.le_of_ble_eq_true rfl) ?_
                      refine ct_write (w := vi_ m175 11 4) (by omega) (rfl) (by omega) (fun m191 g92 g93 g94 => ?_)
                      have t95 : tp_ B n m191 := tp_wr g92 t81
                      refine pw_steps 1 (s' := (28, [some (.ref 11), some (.int (ei_ ((B p)))), some (.int (ei_ ((o + 1))))], [.int (ei_ (1))], m191)) rfl ?_
                      refine pw_iret rfl rfl rfl ?_
                      refine pw_iret rfl rfl rfl ?_
                      exact k0 _ _ _ _ ((ps_trn (by omega) (by omega) (by omega) g76).trans (if_pos (by omega))) (sm_tr (sm_tr (sm_w (sm_rfl m) (fun _ h_ => by rw [h_]; rfl)) g77) (sm_le g92 pWr_Tp)) ((sm_v g92 rfl).trans g78) g93 (fun _ => by rw [show (if B p = 33 then (33:Int) else 126) = 33 from by split <;> omega]; exact wz_app (by omega) (wz_cl (g80 (by omega))) (g80 (by omega)).1 (g94 (by have h_ := (g80 (by omega)).1; omega)))
                  · refine pw_steps 1 (s' := (9, [some (.ref 11), some (.int (ei_ ((B p)))), some (.int (ei_ ((o + 1))))], [.int (ei_ (0))], m175)) rfl ?_
                    refine pw_iret rfl rfl rfl ?_
                    refine pw_iret rfl rfl rfl ?_
                    exact k0 _ _ _ _ ((ps_trn (by omega) (by omega) (by omega) g76).trans (if_neg (by omega))) (sm_tr (sm_w (sm_rfl m) (fun _ h_ => by rw [h_]; rfl)) g77) g78 (by exact g79) (fun h_ => absurd h_ (by decide))
                · refine pw_steps 4 (s' := (90, [some (.ref 11), some (.int (ei_ (o))), some (.int (ei_ ((B p)))), some (.int (ei_ (x5)))], [.int ((ei_ (o)) + (ei_ (1))), .ref 11], wi_ m 11 (2) ((p + 1)))) rfl ?_
                  refine pw_cv (congrArg (fun z_ : Int32 => ((90, [some (.ref 11), some (.int (ei_ (o))), some (.int (ei_ ((B p)))), some (.int (ei_ (x5)))], [.int z_, .ref 11], wi_ m 11 (2) ((p + 1))) : am_S)) (ei_add rfl rfl)) ?_
                  refine pw_call (As := [.int (ei_ ((o + 1)))]) (st := []) (k := 11) rfl rfl rfl rfl rfl (Nat.le_of_ble_eq_true rfl) ?_
                  refine pw_intro (I := iX6_readInside) (T := tX6_readInside) rfl rfl rfl ?_
                  refine pw_steps 3 (s' := (3, [some (.ref 11), some (.int (ei_ ((o + 1))))], [.int (ei_ ((o + 1))), .int (ei_ (0)), .ref 11], wi_ m 11 (2) ((p + 1)))) rfl ?_
                  refine pw_call (As := [.int (ei_ (0)), .int (ei_ ((o + 1)))]) (st := []) (k := 11) rfl rfl rfl rfl rfl (Nat.le_of_ble_eq_true rfl) ?_
                  refine hA1 (p := (p + 1)) (w := w) (by omega) (by omega) (by omega) (by omega) (by omega) (p2) ((ei_i (by omega))) (p4) (by omega) (fun g96 p197 z198 m199 g100 g101 g102 g103 g104 => ?_)
                  have t105 : tp_ B n m199 := tp_sm g101 p2
                  obtain ⟨b106a, b106b, b106c, b106d⟩ := ps_e g100 (by omega)
                  refine pw_if rfl (by omega) (fun (h108 : g96 = 0) => ?_) (fun (h108 : ¬ (g96 = 0)) => ?_)
                  · refine pw_steps 1 (s' := (19, [some (.ref 11), some (.int (ei_ ((o + 1))))], [.int (ei_ (0))], m199)) rfl ?_
                    refine pw_iret rfl rfl rfl ?_
                    refine pw_steps 1 (s' := (104, [some (.ref 11), some (.int (ei_ (o))), some (.int (ei_ ((B p)))), some (.int (ei_ (x5)))], [.int (ei_ (0))], m199)) rfl ?_
                    refine pw_iret rfl rfl rfl ?_
                    exact k0 _ _ _ _ ((ps_par (by omega) (by omega) (by omega) g100).trans (if_neg (by omega))) (sm_tr (sm_w (sm_rfl m) (fun _ h_ => by rw [h_]; rfl)) g101) g102 (by exact g103) (fun h_ => absurd h_ (by decide))
                  · refine pw_steps 1 (s' := (10, [some (.ref 11), some (.int (ei_ ((o + 1))))], [.ref 11], m199)) rfl ?_
                    refine pw_call (As := []) (st := []) (k := 11) rfl rfl rfl rfl rfl (Nat.le_of_ble_eq_true rfl) ?_
                    refine ct_next (p := p197) (t105) (by omega) (g102) (fun g109 g110 => ?_) (fun g111 => ?_)
                    · refine pw_steps 1 (s' := (15, [some (.ref 11), some (.int (ei_ ((o + 1))))], [.int (ei_ (41)), .int (ei_ ((B p197)))], m199)) rfl ?_
                      refine pw_cmp rfl (by omega) (by decide) (fun (h112 : (B p197) = 41) => ?_) (fun (h112 : ¬ ((B p197) = 41)) => ?_)
                      · refine pw_steps 2 (s' := (22, [some (.ref 11), some (.int (ei_ ((o + 1))))], [.ref 11, .ref 11], m199)) rfl ?_
                        refine pw_get rfl rfl (fun x113 (hx113 : x113 = vi_ m199 11 2) rx113 sx113 => ?_)
                        replace hx113 : x113 = p197 := hx113.trans g102
                        subst x113
                        refine pw_steps 2 (s' := (27, [some (.ref 11), some (.int (ei_ ((o + 1))))], [.int ((ei_ (p197)) + (ei_ (1))), .ref 11], m199)) rfl ?_
                        refine pw_cv (congrArg (fun z_ : Int32 => ((27, [some (.ref 11), some (.int (ei_ ((o + 1))))], [.int z_, .ref 11], m199) : am_S)) (ei_add rfl rfl)) ?_
                        refine pw_put (v := (p197 + 1)) rfl rfl (Or.inl rfl) ?_
                        refine pw_cv (s' := (30, [some (.ref 11), some (.int (ei_ ((o + 1))))], [], wi_ m199 11 (2) ((p197 + 1)))) rfl ?_
                        refine pw_steps 1 (s' := (31, [some (.ref 11), some (.int (ei_ ((o + 1))))], [.int (ei_ (1))], wi_ m199 11 (2) ((p197 + 1)))) rfl ?_
                        refine pw_iret rfl rfl rfl ?_
                        refine pw_steps 1 (s' := (104, [some (.ref 11), some (.int (ei_ (o))), some (.int (ei_ ((B p)))), some (.int (ei_ (x5)))], [.int (ei_ (1))], wi_ m199 11 (2) ((p197 + 1)))) rfl ?_
                        refine pw_iret rfl rfl rfl ?_
                        exact k0 _ _ _ _ ((ps_par (by omega) (by omega) (by omega) g100).trans (if_pos (by omega))) (sm_w (sm_tr (sm_w (sm_rfl m) (fun _ h_ => by rw [h_]; rfl)) g101) (fun _ h_ => by rw [h_]; rfl)) (ei_i (by omega)) (by exact g103) (fun _ => wz_cl (g104 (by omega)))
                      · refine pw_steps 1 (s' := (19, [some (.ref 11), some (.int (ei_ ((o + 1))))], [.int (ei_ (0))], m199)) rfl ?_
                        refine pw_iret rfl rfl rfl ?_
                        refine pw_steps 1 (s' := (104, [some (.ref 11), some (.int (ei_ (o))), some (.int (ei_ ((B p)))), some (.int (ei_ (x5)))], [.int (ei_ (0))], m199)) rfl ?_
                        refine pw_iret rfl rfl rfl ?_
                        exact k0 _ _ _ _ ((ps_par (by omega) (by omega) (by omega) g100).trans (if_neg (by omega))) (sm_tr (sm_w (sm_rfl m) (fun _ h_ => by rw [h_]; rfl)) g101) g102 (by exact g103) (fun h_ => absurd h_ (by decide))
                    · refine pw_steps 1 (s' := (15, [some (.ref 11), some (.int (ei_ ((o + 1))))], [.int (ei_ (41)), .int (ei_ ((-1)))], m199)) rfl ?_
                      refine pw_cmpF rfl (by decide) (by decide) (show ¬ ((-1) = 41) by decide) ?_
                      refine pw_steps 1 (s' := (19, [some (.ref 11), some (.int (ei_ ((o + 1))))], [.int (ei_ (0))], m199)) rfl ?_
                      refine pw_iret rfl rfl rfl ?_
                      refine pw_steps 1 (s' := (104, [some (.ref 11), some (.int (ei_ (o))), some (.int (ei_ ((B p)))), some (.int (ei_ (x5)))], [.int (ei_ (0))], m199)) rfl ?_
                      refine pw_iret rfl rfl rfl ?_
                      exact k0 _ _ _ _ ((ps_par (by omega) (by omega) (by omega) g100).trans (if_neg (by omega))) (sm_tr (sm_w (sm_rfl m) (fun _ h_ => by rw [h_]; rfl)) g101) g102 (by exact g103) (fun h_ => absurd h_ (by decide))
              · refine pw_steps 1 (s' := (69, [some (.ref 11), some (.int (ei_ (o))), some (.int (ei_ ((B p)))), some (.int (ei_ (x5)))], [.int (ei_ (0))], m)) rfl ?_
                refine pw_iret rfl rfl rfl ?_
                exact k0 _ _ _ _ (ps_bad (by omega) (by omega) (by omega)) (sm_rfl m) p3 (by omega) (fun h_ => absurd h_ (by decide))
      · refine pw_steps 2 (s' := (29, [some (.ref 11), some (.int (ei_ (o))), some (.int (ei_ ((B p)))), some (.int (ei_ (x5)))], [.ref 11, .ref 11], m)) rfl ?_
        refine pw_get rfl rfl (fun x114 (hx114 : x114 = vi_ m 11 2) rx114 sx114 => ?_)
        replace hx114 : x114 = p := hx114.trans p3
        subst x114
        refine pw_steps 2 (s' := (34, [some (.ref 11), some (.int (ei_ (o))), some (.int (ei_ ((B p)))), some (.int (ei_ (x5)))], [.int ((ei_ (p)) + (ei_ (1))), .ref 11], m)) rfl ?_
        refine pw_cv (congrArg (fun z_ : Int32 => ((34, [some (.ref 11), some (.int (ei_ (o))), some (.int (ei_ ((B p)))), some (.int (ei_ (x5)))], [.int z_, .ref 11], m) : am_S)) (ei_add rfl rfl)) ?_
        refine pw_put (v := (p + 1)) rfl rfl (Or.inl rfl) ?_
        refine pw_cv (s' := (37, [some (.ref 11), some (.int (ei_ (o))), some (.int (ei_ ((B p)))), some (.int (ei_ (x5)))], [], wi_ m 11 (2) ((p + 1)))) rfl ?_
        refine pw_steps 2 (s' := (39, [some (.ref 11), some (.int (ei_ (o))), some (.int (ei_ ((B p)))), some (.int (ei_ (x5)))], [.int (ei_ (x5)), .ref 11], wi_ m 11 (2) ((p + 1)))) rfl ?_
        refine pw_call (As := [.int (ei_ (x5))]) (st := []) (k := 11) rfl rfl rfl rfl rfl (Nat.le_of_ble_eq_true rfl) ?_
        refine ct_write (w := w) (by omega) (p4) (by omega) (fun m1115 g116 g117 g118 => ?_)
        have t119 : tp_ B n m1115 := tp_wr g116 p2
        refine pw_steps 1 (s' := (43, [some (.ref 11), some (.int (ei_ (o))), some (.int (ei_ ((B p)))), some (.int (ei_ (x5)))], [.int (ei_ (1))], m1115)) rfl ?_
        refine pw_iret rfl rfl rfl ?_
        exact k0 _ _ _ _ (ps_nam (by omega) (by omega)) (sm_tr (sm_w (sm_rfl m) (fun _ h_ => by rw [h_]; rfl)) (sm_le g116 pWr_Tp)) ((sm_v g116 rfl).trans (ei_i (by omega))) g117 (fun _ => by rw [← g6]; exact wz_cl (g118 (by omega)))
    · refine pw_steps 2 (s' := (9, [some (.int (ei_ ((B p))))], [.int (ei_ (57)), .int (ei_ ((B p)))], m)) rfl ?_
      refine pw_cmp rfl (by omega) (by decide) (fun (h120 : 57 < (B p)) => ?_) (fun (h120 : ¬ (57 < (B p))) => ?_)
      · refine pw_steps 1 (s' := (17, [some (.int (ei_ ((B p))))], [.int (ei_ (0))], m)) rfl ?_
        refine pw_iret rfl rfl rfl ?_
        refine pw_ifT rfl (by decide) (show 0 = 0 by decide) ?_
        refine pw_steps 1 (s' := (19, [some (.ref 11), some (.int (ei_ (o))), some (.int (ei_ ((B p)))), none], [.int (ei_ ((B p)))], m)) rfl ?_
        refine pw_callS (As := [.int (ei_ ((B p)))]) (st := []) rfl (by decide) rfl rfl (Nat.le_of_ble_eq_true rfl) ?_
        refine ct_called (by omega) (fun x121 g122 g123 => ?_)
        refine pw_steps 2 (s' := (24, [some (.ref 11), some (.int (ei_ (o))), some (.int (ei_ ((B p)))), some (.int (ei_ (x121)))], [.int (ei_ (x121))], m)) rfl ?_
        refine pw_if rfl (by omega) (fun (h124 : x121 < 0) => ?_) (fun (h124 : ¬ (x121 < 0)) => ?_)
        · refine pw_steps 2 (s' := (47, [some (.ref 11), some (.int (ei_ (o))), some (.int (ei_ ((B p)))), some (.int (ei_ (x121)))], [.int (ei_ (6)), .int (ei_ (o))], m)) rfl ?_
          refine pw_cmp rfl (by omega) (by decide) (fun (h125 : 6 ≤ o) => ?_) (fun (h125 : ¬ (6 ≤ o)) => ?_)
          · refine pw_steps 1 (s' := (69, [some (.ref 11), some (.int (ei_ (o))), some (.int (ei_ ((B p)))), some (.int (ei_ (x121)))], [.int (ei_ (0))], m)) rfl ?_
            refine pw_iret rfl rfl rfl ?_
            exact k0 _ _ _ _ (ps_bad (by omega) (by omega) (by omega)) (sm_rfl m) p3 (by omega) (fun h_ => absurd h_ (by decide))
          · refine pw_steps 2 (s' := (53, [some (.ref 11), some (.int (ei_ (o))), some (.int (ei_ ((B p)))), some (.int (ei_ (x121)))], [.int (ei_ (40)), .int (ei_ ((B p)))], m)) rfl ?_
            refine pw_cmpF rfl (by omega) (by decide) (show ¬ ((B p) = 40) by omega) ?_
            refine pw_steps 2 (s' := (59, [some (.ref 11), some (.int (ei_ (o))), some (.int (ei_ ((B p)))), some (.int (ei_ (x121)))], [.int (ei_ (33)), .int (ei_ ((B p)))], m)) rfl ?_
            refine pw_cmpF rfl (by omega) (by decide) (show ¬ ((B p) = 33) by omega) ?_
            refine pw_steps 2 (s' := (65, [some (.ref 11), some (.int (ei_ (o))), some (.int (ei_ ((B p)))), some (.int (ei_ (x121)))], [.int (ei_ (45)), .int (ei_ ((B p)))], m)) rfl ?_
            refine pw_cmpF rfl (by omega) (by decide) (show ¬ ((B p) = 45) by omega) ?_
            refine pw_steps 1 (s' := (69, [some (.ref 11), some (.int (ei_ (o))), some (.int (ei_ ((B p)))), some (.int (ei_ (x121)))], [.int (ei_ (0))], m)) rfl ?_
            refine pw_iret rfl rfl rfl ?_
            exact k0 _ _ _ _ (ps_bad (by omega) (by omega) (by omega)) (sm_rfl m) p3 (by omega) (fun h_ => absurd h_ (by decide))
        · refine pw_steps 2 (s' := (29, [some (.ref 11), some (.int (ei_ (o))), some (.int (ei_ ((B p)))), some (.int (ei_ (x121)))], [.ref 11, .ref 11], m)) rfl ?_
          refine pw_get rfl rfl (fun x126 (hx126 : x126 = vi_ m 11 2) rx126 sx126 => ?_)
          replace hx126 : x126 = p := hx126.trans p3
          subst x126
          refine pw_steps 2 (s' := (34, [some (.ref 11), some (.int (ei_ (o))), some (.int (ei_ ((B p)))), some (.int (ei_ (x121)))], [.int ((ei_ (p)) + (ei_ (1))), .ref 11], m)) rfl ?_
          refine pw_cv (congrArg (fun z_ : Int32 => ((34, [some (.ref 11), some (.int (ei_ (o))), some (.int (ei_ ((B p)))), some (.int (ei_ (x121)))], [.int z_, .ref 11], m) : am_S)) (ei_add rfl rfl)) ?_
          refine pw_put (v := (p + 1)) rfl rfl (Or.inl rfl) ?_
          refine pw_cv (s' := (37, [some (.ref 11), some (.int (ei_ (o))), some (.int (ei_ ((B p)))), some (.int (ei_ (x121)))], [], wi_ m 11 (2) ((p + 1)))) rfl ?_
          refine pw_steps 2 (s' := (39, [some (.ref 11), some (.int (ei_ (o))), some (.int (ei_ ((B p)))), some (.int (ei_ (x121)))], [.int (ei_ (x121)), .ref 11], wi_ m 11 (2) ((p + 1)))) rfl ?_
          refine pw_call (As := [.int (ei_ (x121))]) (st := []) (k := 11) rfl rfl rfl rfl rfl (Nat.le_of_ble_eq_true rfl) ?_
          refine ct_write (w := w) (by omega) (p4) (by omega) (fun m1127 g128 g129 g130 => ?_)
          have t131 : tp_ B n m1127 := tp_wr g128 p2
          refine pw_steps 1 (s' := (43, [some (.ref 11), some (.int (ei_ (o))), some (.int (ei_ ((B p)))), some (.int (ei_ (x121)))], [.int (ei_ (1))], m1127)) rfl ?_
          refine pw_iret rfl rfl rfl ?_
          exact k0 _ _ _ _ (ps_nam (by omega) (by omega)) (sm_tr (sm_w (sm_rfl m) (fun _ h_ => by rw [h_]; rfl)) (sm_le g128 pWr_Tp)) ((sm_v g128 rfl).trans (ei_i (by omega))) g129 (fun _ => by rw [← g122]; exact wz_cl (g130 (by omega)))
      · refine pw_steps 2 (s' := (17, [some (.int (ei_ ((B p))))], [.int (ei_ (1))], m)) rfl ?_
        refine pw_iret rfl rfl rfl ?_
        refine pw_ifF rfl (by decide) (show ¬ (1 = 0) by decide) ?_
        refine pw_steps 1 (s' := (13, [some (.ref 11), some (.int (ei_ (o))), some (.int (ei_ ((B p)))), none], [.ref 11], m)) rfl ?_
        refine pw_call (As := []) (st := []) (k := 11) rfl rfl rfl rfl rfl (Nat.le_of_ble_eq_true rfl) ?_
        refine ct_number (p := p) (w := w) (p2) (by omega) (p3) (p4) (by omega) (fun m1132 g133 g134 g135 g136 => ?_)
        have t137 : tp_ B n m1132 := tp_sm g133 p2
        refine pw_steps 1 (s' := (17, [some (.ref 11), some (.int (ei_ (o))), some (.int (ei_ ((B p)))), none], [.int (ei_ (1))], m1132)) rfl ?_
        refine pw_iret rfl rfl rfl ?_
        exact k0 _ _ _ _ (ps_num (by omega)) g133 g134 g135 (fun _ => g136)
  · refine pw_steps 2 (s' := (6, [some (.ref 11), some (.int (ei_ (o))), some (.int (ei_ ((-1)))), none], [.int (ei_ ((-1)))], m)) rfl ?_
    refine pw_callS (As := [.int (ei_ ((-1)))]) (st := []) rfl (by decide) rfl rfl (Nat.le_of_ble_eq_true rfl) ?_
    refine pw_intro (I := iX6_isDigit) (T := tX6_isDigit) rfl rfl rfl ?_
    refine pw_steps 2 (s' := (3, [some (.int (ei_ ((-1))))], [.int (ei_ (48)), .int (ei_ ((-1)))], m)) rfl ?_
    refine pw_cmpT rfl (by decide) (by decide) (show (-1) < 48 by decide) ?_
    refine pw_steps 1 (s' := (17, [some (.int (ei_ ((-1))))], [.int (ei_ (0))], m)) rfl ?_
    refine pw_iret rfl rfl rfl ?_
    refine pw_ifT rfl (by decide) (show 0 = 0 by decide) ?_
    refine pw_steps 1 (s' := (19, [some (.ref 11), some (.int (ei_ (o))), some (.int (ei_ ((-1)))), none], [.int (ei_ ((-1)))], m)) rfl ?_
    refine pw_callS (As := [.int (ei_ ((-1)))]) (st := []) rfl (by decide) rfl rfl (Nat.le_of_ble_eq_true rfl) ?_
    refine ct_called (by omega) (fun x138 g139 g140 => ?_)
    have hk_ : kn_ (-1) = -1 := rfl
    refine pw_steps 2 (s' := (24, [some (.ref 11), some (.int (ei_ (o))), some (.int (ei_ ((-1)))), some (.int (ei_ (x138)))], [.int (ei_ (x138))], m)) rfl ?_
    refine pw_ifT rfl (by omega) (show x138 < 0 by omega) ?_
    refine pw_steps 2 (s' := (47, [some (.ref 11), some (.int (ei_ (o))), some (.int (ei_ ((-1)))), some (.int (ei_ (x138)))], [.int (ei_ (6)), .int (ei_ (o))], m)) rfl ?_
    refine pw_cmp rfl (by omega) (by decide) (fun (h141 : 6 ≤ o) => ?_) (fun (h141 : ¬ (6 ≤ o)) => ?_)
    · refine pw_steps 1 (s' := (69, [some (.ref 11), some (.int (ei_ (o))), some (.int (ei_ ((-1)))), some (.int (ei_ (x138)))], [.int (ei_ (0))], m)) rfl ?_
      refine pw_iret rfl rfl rfl ?_
      exact k0 _ _ _ _ (ps_bad (by omega) (by omega) (by omega)) (sm_rfl m) p3 (by omega) (fun h_ => absurd h_ (by decide))
    · refine pw_steps 2 (s' := (53, [some (.ref 11), some (.int (ei_ (o))), some (.int (ei_ ((-1)))), some (.int (ei_ (x138)))], [.int (ei_ (40)), .int (ei_ ((-1)))], m)) rfl ?_
      refine pw_cmpF rfl (by decide) (by decide) (show ¬ ((-1) = 40) by decide) ?_
      refine pw_steps 2 (s' := (59, [some (.ref 11), some (.int (ei_ (o))), some (.int (ei_ ((-1)))), some (.int (ei_ (x138)))], [.int (ei_ (33)), .int (ei_ ((-1)))], m)) rfl ?_
      refine pw_cmpF rfl (by decide) (by decide) (show ¬ ((-1) = 33) by decide) ?_
      refine pw_steps 2 (s' := (65, [some (.ref 11), some (.int (ei_ (o))), some (.int (ei_ ((-1)))), some (.int (ei_ (x138)))], [.int (ei_ (45)), .int (ei_ ((-1)))], m)) rfl ?_
      refine pw_cmpF rfl (by decide) (by decide) (show ¬ ((-1) = 45) by decide) ?_
      refine pw_steps 1 (s' := (69, [some (.ref 11), some (.int (ei_ (o))), some (.int (ei_ ((-1)))), some (.int (ei_ (x138)))], [.int (ei_ (0))], m)) rfl ?_
      refine pw_iret rfl rfl rfl ?_
      exact k0 _ _ _ _ (ps_bad (by omega) (by omega) (by omega)) (sm_rfl m) p3 (by omega) (fun h_ => absurd h_ (by decide))

