
/-! ===== law ===== -/
def lb_ (n p : Int) (R : Int × Int × List Int) : Prop := p ≤ R.2.1 ∧ R.2.1 ≤ n ∧ (R.2.2.length : Int) ≤ R.2.1 - p + 1 ∧ (R.1 = 1 → 1 ≤ R.2.2.length) ∧ (R.1 = 0 ∨ R.1 = 1)
theorem lb_mk {n p g p1 : Int} {z : List Int} (h1 : p ≤ p1) (h2 : p1 ≤ n) (h3 : (z.length : Int) ≤ p1 - p + 1) (h4 : g = 1 → 1 ≤ z.length) (h5 : g = 0 ∨ g = 1) : lb_ n p (g, p1, z) := ⟨h1, h2, h3, h4, h5⟩
theorem ln_b {B : Int → Int} {n : Int} {f : Nat} {p : Int} (hp : p ≤ n) : lb_ n p (ln_ B n f p) := by
  obtain ⟨a1, a2, a3, a4⟩ := ps_b (B := B) (n := n) f 0 0 p hp
  unfold ln_
  by_cases c1 : (ps_ B n f 0 0 p).1 = 1
  · rw [if_pos c1]
    by_cases c2 : (ps_ B n f 0 0 p).2.1 < n ∧ B (ps_ B n f 0 0 p).2.1 = 63
    · rw [if_pos c2]
      obtain ⟨b1, b2, b3, b4⟩ := ps_b (B := B) (n := n) f 0 0 ((ps_ B n f 0 0 p).2.1 + 1) (by omega)
      by_cases c3 : (ps_ B n f 0 0 ((ps_ B n f 0 0 p).2.1 + 1)).1 = 1
      · rw [if_pos c3]
        exact lb_mk (by omega) (by omega) (by rw [List.length_append, List.length_append, List.length_singleton]; omega) (fun _ => by rw [List.length_append, List.length_singleton]; omega) (Or.inr rfl)
      · rw [if_neg c3]
        exact lb_mk (by omega) (by omega) (by rw [List.length_nil]; omega) (fun h => absurd h (by decide)) (Or.inl rfl)
    · rw [if_neg c2]
      exact lb_mk (by omega) (by omega) (by rw [List.length_append, List.length_singleton]; omega) (fun _ => by rw [List.length_append, List.length_singleton]; omega) (Or.inr rfl)
  · rw [if_neg c1]
    exact lb_mk (by omega) (by omega) (by rw [List.length_nil]; omega) (fun h => absurd h (by decide)) (Or.inl rfl)
theorem pg_b {B : Int → Int} {n : Int} {f : Nat} : ∀ (k : Nat) (p : Int), p ≤ n → lb_ n p (pg_ B n f k p) := by
  intro k
  induction k with
  | zero => intro p hp; exact lb_mk (Int.le_refl _) hp (by rw [List.length_nil]; omega) (fun h => absurd h (by decide)) (Or.inl rfl)
  | succ k ih =>
    intro p hp
    obtain ⟨a1, a2, a3, a4, a5⟩ := ln_b (B := B) (f := f) hp
    simp only [pg_, pk_]
    by_cases c : (ln_ B n f p).1 = 1 ∧ (ln_ B n f p).2.1 < n ∧ B (ln_ B n f p).2.1 = 59
    · rw [if_pos c]
      obtain ⟨b1, b2, b3, b4, b5⟩ := ih ((ln_ B n f p).2.1 + 1) (by omega)
      have := a4 c.1
      exact lb_mk (by omega) (by omega) (by rw [List.length_append]; omega) (fun _ => by rw [List.length_append]; omega) b5
    · rw [if_neg c]
      exact ⟨a1, a2, a3, a4, a5⟩
theorem sm_cp {P : Nat → Nat → Bool} {m : am_M} {a b : Nat} {s d n : Int} (h : ∀ j, P b j = true) : sm_ P m (cp_ m a b s d n) := by
  refine ⟨fun k j e => ?_, rfl⟩
  simp only [cp_, am_ri]
  rw [if_neg]
  intro hk
  subst hk
  rw [h j] at e
  cases e
theorem vi_cp {m : am_M} {a b : Nat} {n j : Int} (h0 : 0 ≤ j) (hn : 0 ≤ n) : vi_ (cp_ m a b 0 0 n) b j = if j < n then vi_ m a j else vi_ m b j := by
  simp only [vi_, cp_, am_ri, if_true]
  by_cases h : j < n
  · rw [if_pos h, pk_cpy_in (by omega) (by omega)]
    simp
  · rw [if_neg h, pk_cpy_out (by omega)]
def pC15 (k _j : Nat) : Bool := k == 15
def pMl (k j : Nat) : Bool := k == 55 || (k == 47 && (j == 10 || j == 12 || (13 ≤ j && j ≤ 17)))
def pMb (k j : Nat) : Bool := k == 47 && (j == 10 || (13 ≤ j && j ≤ 17))
theorem pRd_Mb : ∀ k j, pMb k j = false → pRd k j = false := by
  intro k j h
  simp only [pMb, pRd, Bool.or_eq_false_iff, Bool.and_eq_false_iff, beq_eq_false_iff_ne, decide_eq_false_iff_not] at h ⊢
  omega
theorem pRd_Ml : ∀ k j, pMl k j = false → pRd k j = false := by
  intro k j h
  simp only [pMl, pRd, Bool.or_eq_false_iff, Bool.and_eq_false_iff, beq_eq_false_iff_ne, decide_eq_false_iff_not] at h ⊢
  omega

set_option maxHeartbeats 4000000 in
set_option maxRecDepth 20000 in
theorem mt_law {q : am_X} {d : Nat} {m : am_M} {Q : Option Value → am_M → Prop}  {B : Int → Int} {n : Int} (p0 : vi_ m 47 10 = n) (p1 : ∀ j, 0 ≤ j → j < n → vi_ m 54 j = B j) (p2 : ∀ j, 0 ≤ j → j < n → 0 ≤ B j ∧ B j ≤ 255) (p3 : 0 ≤ n ∧ n ≤ 120) (k0 : ∀ (m1 : am_M), ((pg_ B n 900 121 0).1 = 1 ∧ (pg_ B n 900 121 0).2.1 = n) → (sm_ pMl m m1) → (vi_ m1 47 10 = 0) → (vi_ m1 47 12 = n) → (∀ j, 0 ≤ j → j < n → vi_ m1 55 j = B j) → Q (some (.int (ei_ (1)))) m1) (k1 : ∀ (x : Int) (m1 : am_M), (¬ ((pg_ B n 900 121 0).1 = 1 ∧ (pg_ B n 900 121 0).2.1 = n)) → (sm_ pMb m m1) → (vi_ m1 47 10 = 0) → (x = -100 - (pg_ B n 900 121 0).2.1) → (0 ≤ (pg_ B n 900 121 0).2.1 ∧ (pg_ B n 900 121 0).2.1 ≤ 120) → Q (some (.int (ei_ (x)))) m1) : pw_C q (d + 49) 190 [.ref 47] m Q := by
  refine pw_intro (I := iX9_law) (T := tX9_law) rfl rfl rfl ?_
  refine pw_steps 3 (s' := (3, [some (.ref 47), none, none, none], [.ref 47, .int (ei_ ((-1))), .ref 47], m)) rfl ?_
  refine pw_get rfl rfl (fun x1 (hx1 : x1 = vi_ m 47 10) rx1 sx1 => ?_)
  replace hx1 : x1 = n := hx1.trans p0
  subst x1
  refine pw_call (As := [.int (ei_ ((-1))), .int (ei_ (n))]) (st := []) (k := 47) rfl rfl rfl rfl rfl (Nat.le_of_ble_eq_true rfl) ?_
  refine mt_workOut (Or.inl ⟨rfl, p1⟩) (p2) (p3) (fun x2 m13 g4 g5 g6 g7 g8 => ?_) (fun x9 m110 g11 g12 g13 g14 g15 => ?_)
  · have hgood := g4
    refine pw_steps 2 (s' := (11, [some (.ref 47), some (.int (ei_ (x2))), none, none], [.ref 47], m13)) rfl ?_
    refine pw_get rfl rfl (fun x16 (hx16 : x16 = vi_ m13 47 10) rx16 sx16 => ?_)
    replace hx16 : x16 = vi_ m 47 10 := hx16.trans (sm_v g5 rfl)
    replace hx16 : x16 = n := hx16.trans p0
    subst x16
    refine pw_steps 3 (s' := (17, [some (.ref 47), some (.int (ei_ (x2))), some (.int (ei_ (n))), none], [.int (ei_ (0)), .ref 47], m13)) rfl ?_
    refine pw_put (v := 0) rfl rfl (Or.inl rfl) ?_
    refine pw_cv (s' := (20, [some (.ref 47), some (.int (ei_ (x2))), some (.int (ei_ (n))), none], [], wi_ m13 47 (10) (0))) rfl ?_
    refine pw_steps 1 (s' := (21, [some (.ref 47), some (.int (ei_ (x2))), some (.int (ei_ (n))), none], [.ref 47], wi_ m13 47 (10) (0))) rfl ?_
    refine pw_get rfl rfl (fun x17 (hx17 : x17 = vi_ m13 47 16) rx17 sx17 => ?_)
    replace hx17 : x17 = (-1) := hx17.trans g6
    subst x17
    refine pw_ifT rfl (by decide) (show (-1) < 0 by decide) ?_
    refine pw_steps 2 (s' := (37, [some (.ref 47), some (.int (ei_ (x2))), some (.int (ei_ (n))), some (.int (ei_ (0)))], [], wi_ m13 47 (10) (0))) rfl ?_
    have L20 : ∀ (n18 : Nat) (k : Int) (m1 : am_M), (n - k).toNat = n18 → (0 ≤ k ∧ k ≤ n) → (sm_ pMl m m1) → (vi_ m1 47 10 = 0) → (∀ j, 0 ≤ j → j < k → vi_ m1 55 j = B j) → pw_V q (d + 48) iX9_law.2.2.2.1 tX9_law Q (37, [some (.ref 47), some (.int (ei_ (x2))), some (.int (ei_ (n))), some (.int (ei_ (k)))], [], m1) := by
      intro n18
      induction n18 using Nat.strongRecOn with
      | _ n18 ih19 =>
        intro k m1 hm_n18 v21 hs v22 hv
        refine pw_steps 2 (s' := (39, [some (.ref 47), some (.int (ei_ (x2))), some (.int (ei_ (n))), some (.int (ei_ (k)))], [.int (ei_ (n)), .int (ei_ (k))], m1)) rfl ?_
        refine pw_cmp rfl (by omega) ⟨rx1, sx1⟩ (fun (h23 : n ≤ k) => ?_) (fun (h23 : ¬ (n ≤ k)) => ?_)
        · refine pw_steps 2 (s' := (62, [some (.ref 47), some (.int (ei_ (x2))), some (.int (ei_ (n))), some (.int (ei_ (k)))], [.int (ei_ (n)), .ref 47], m1)) rfl ?_
          refine pw_put (v := n) rfl rfl (Or.inl rfl) ?_
          refine pw_cv (s' := (65, [some (.ref 47), some (.int (ei_ (x2))), some (.int (ei_ (n))), some (.int (ei_ (k)))], [], wi_ m1 47 (12) (n))) rfl ?_
          refine pw_steps 1 (s' := (66, [some (.ref 47), some (.int (ei_ (x2))), some (.int (ei_ (n))), some (.int (ei_ (k)))], [.int (ei_ (1))], wi_ m1 47 (12) (n))) rfl ?_
          refine pw_iret rfl rfl rfl ?_
          exact k0 _ hgood (sm_w hs (fun _ h_ => by rw [h_]; rfl)) v22 (ei_i (by omega)) (fun j a_ b_ => hv j a_ (by omega))
        · refine pw_steps 6 (s' := (52, [some (.ref 47), some (.int (ei_ (x2))), some (.int (ei_ (n))), some (.int (ei_ (k)))], [.int (ei_ (k)), .ref 54, .int (ei_ (k)), .ref 55], m1)) rfl ?_
          refine pw_ild rfl rfl (by omega) (fun x24 (hx24 : x24 = vi_ m1 54 k) rx24 sx24 => ?_)
          have ox24 := hx24
          replace hx24 : x24 = vi_ m 54 k := hx24.trans (sm_v hs rfl)
          refine pw_ist rfl rfl (by omega) ?_
          refine pw_steps 2 (s' := (37, [some (.ref 47), some (.int (ei_ (x2))), some (.int (ei_ (n))), some (.int ((ei_ (k)) + (ei_ (1))))], [], wi_ m1 55 (k) (x24))) rfl ?_
          refine pw_cv (congrArg (fun z_ : Int32 => ((37, [some (.ref 47), some (.int (ei_ (x2))), some (.int (ei_ (n))), some (.int z_)], [], wi_ m1 55 (k) (x24)) : am_S)) (ei_add rfl rfl)) ?_
          exact ih19 _ (by omega) (k + 1) (wi_ m1 55 (k) (x24)) rfl (by omega) ((sm_w hs (fun _ h_ => by rw [h_]; rfl))) (v22) (by intro j a_ b_; rw [vi_up (by omega) (by omega) a_]; by_cases e_ : j = k; (rw [if_pos e_, e_]; have t_ := p1 k (by omega) (by omega); omega); (rw [if_neg e_]; exact hv j a_ (by omega)))
    exact L20 _ 0 (wi_ m13 47 (10) (0)) rfl (by omega) ((sm_w (sm_le g5 pRd_Ml) (fun _ h_ => by rw [h_]; rfl))) ((ei_i (by omega))) (by intro j a_ b_; omega)
  · obtain ⟨ft_, hft_⟩ : ∃ z_ : Int, z_ = (pg_ B n 900 121 0).2.1 := ⟨_, rfl⟩
    rw [← hft_] at g13 g14
    refine pw_steps 2 (s' := (11, [some (.ref 47), some (.int (ei_ (x9))), none, none], [.ref 47], m110)) rfl ?_
    refine pw_get rfl rfl (fun x25 (hx25 : x25 = vi_ m110 47 10) rx25 sx25 => ?_)
    replace hx25 : x25 = vi_ m 47 10 := hx25.trans (sm_v g12 rfl)
    replace hx25 : x25 = n := hx25.trans p0
    subst x25
    refine pw_steps 3 (s' := (17, [some (.ref 47), some (.int (ei_ (x9))), some (.int (ei_ (n))), none], [.int (ei_ (0)), .ref 47], m110)) rfl ?_
    refine pw_put (v := 0) rfl rfl (Or.inl rfl) ?_
    refine pw_cv (s' := (20, [some (.ref 47), some (.int (ei_ (x9))), some (.int (ei_ (n))), none], [], wi_ m110 47 (10) (0))) rfl ?_
    refine pw_steps 1 (s' := (21, [some (.ref 47), some (.int (ei_ (x9))), some (.int (ei_ (n))), none], [.ref 47], wi_ m110 47 (10) (0))) rfl ?_
    refine pw_get rfl rfl (fun x26 (hx26 : x26 = vi_ m110 47 16) rx26 sx26 => ?_)
    replace hx26 : x26 = ft_ := hx26.trans g13
    subst x26
    refine pw_ifF rfl ⟨rx26, sx26⟩ (show ¬ (ft_ < 0) by omega) ?_
    refine pw_steps 2 (s' := (30, [some (.ref 47), some (.int (ei_ (x9))), some (.int (ei_ (n))), none], [.ref 47, .int (ei_ ((-100)))], wi_ m110 47 (10) (0))) rfl ?_
    refine pw_get rfl rfl (fun x27 (hx27 : x27 = vi_ m110 47 16) rx27 sx27 => ?_)
    replace hx27 : x27 = ft_ := hx27.trans g13
    subst x27
    refine pw_steps 1 (s' := (34, [some (.ref 47), some (.int (ei_ (x9))), some (.int (ei_ (n))), none], [.int ((ei_ ((-100))) - (ei_ (ft_)))], wi_ m110 47 (10) (0))) rfl ?_
    refine pw_cv (congrArg (fun z_ : Int32 => ((34, [some (.ref 47), some (.int (ei_ (x9))), some (.int (ei_ (n))), none], [.int z_], wi_ m110 47 (10) (0)) : am_S)) (ei_sub rfl rfl)) ?_
    refine pw_iret rfl rfl rfl ?_
    exact k1 _ _ g11 (sm_w (sm_le g12 pRd_Mb) (fun _ h_ => by rw [h_]; rfl)) (ei_i (by omega)) (by omega) (by omega)

def pLaw (k j : Nat) : Bool := k == 13 || (k == 11 && j == 1) || (k == 11 && j == 2) || (k == 11 && j == 4) || k == 15 || (k == 14 && j == 3) || (k == 47 && j == 10) || (k == 47 && j == 12) || (k == 47 && j == 13) || (k == 47 && j == 14) || (k == 47 && j == 15) || (k == 47 && j == 16) || (k == 47 && j == 17) || k == 55
theorem pTp_Law : ∀ k j, pLaw k j = false → pTp k j = false := by
  intro k j h
  simp only [pTp, pLaw, Bool.or_eq_false_iff, Bool.and_eq_false_iff, beq_eq_false_iff_ne, decide_eq_false_iff_not] at h ⊢
  omega

theorem pC15_Law : ∀ k j, pLaw k j = false → pC15 k j = false := by
  intro k j h
  simp only [pC15, pLaw, Bool.or_eq_false_iff, Bool.and_eq_false_iff, beq_eq_false_iff_ne, decide_eq_false_iff_not] at h ⊢
  omega

theorem pMl_Law : ∀ k j, pLaw k j = false → pMl k j = false := by
  intro k j h
  simp only [pMl, pLaw, Bool.or_eq_false_iff, Bool.and_eq_false_iff, beq_eq_false_iff_ne, decide_eq_false_iff_not] at h ⊢
  omega

theorem pMb_Law : ∀ k j, pLaw k j = false → pMb k j = false := by
  intro k j h
  simp only [pMb, pLaw, Bool.or_eq_false_iff, Bool.and_eq_false_iff, beq_eq_false_iff_ne, decide_eq_false_iff_not] at h ⊢
  omega


theorem tp_of {m : am_M} (h : rT_ m) : tp_ (vi_ m 12) (vi_ m 11 1) m := ⟨rfl, fun _ _ _ => rfl, fun j a b => (h.2.2 j a b).2, h.2.1⟩
theorem rT_0 {m : am_M} (h1 : vi_ m 11 1 = 0) (h2 : vi_ m 47 10 = 0) : rT_ m := ⟨by rw [h1, h2], by rw [h1]; decide, fun j a b => by omega⟩
theorem rL_new {m0 m : am_M} {sz : Int} (g : (pg_ (vi_ m0 12) (vi_ m0 11 1) 900 121 0).1 = 1 ∧ (pg_ (vi_ m0 12) (vi_ m0 11 1) 900 121 0).2.1 = vi_ m0 11 1) (ht : rT_ m0) (h1 : vi_ m 47 12 = vi_ m0 11 1) (h2 : ∀ j, 0 ≤ j → j < vi_ m0 11 1 → vi_ m 55 j = vi_ m0 12 j) (h3 : vi_ m 14 3 = sz) (hs : sz = ((pg_ (vi_ m0 12) (vi_ m0 11 1) 900 121 0).2.2.length : Int)) (h4 : dr_ (vi_ m 15) 0 sz.toNat = (pg_ (vi_ m0 12) (vi_ m0 11 1) 900 121 0).2.2) : rL_ m := by
  have hb := pg_b (B := vi_ m0 12) (n := vi_ m0 11 1) (f := 900) 121 0 ht.2.1.1
  refine Or.inr ⟨vi_ m0 12, vi_ m0 11 1, h1, ht.2.1, fun j a b => (ht.2.2 j a b).2, h2, g, ?_, ?_⟩
  · rw [h3]; exact h4
  · rw [h3]; have := hb.2.2.2.1 g.1; omega

def pLbd (k j : Nat) : Bool := k == 13 || (k == 11 && j == 1) || (k == 11 && j == 2) || (k == 11 && j == 4) || (k == 47 && j == 10) || (k == 47 && j == 13) || (k == 47 && j == 14) || (k == 47 && j == 15) || (k == 47 && j == 16) || (k == 47 && j == 17)
theorem pTp_Lbd : ∀ k j, pLbd k j = false → pTp k j = false := by
  intro k j h
  simp only [pTp, pLbd, Bool.or_eq_false_iff, Bool.and_eq_false_iff, beq_eq_false_iff_ne, decide_eq_false_iff_not] at h ⊢
  omega

theorem pMb_Lbd : ∀ k j, pLbd k j = false → pMb k j = false := by
  intro k j h
  simp only [pMb, pLbd, Bool.or_eq_false_iff, Bool.and_eq_false_iff, beq_eq_false_iff_ne, decide_eq_false_iff_not] at h ⊢
  omega

set_option maxHeartbeats 4000000 in
set_option maxRecDepth 20000 in
theorem op_law {q : am_X} {d : Nat} {m : am_M}   (hR : rR_ m) : pw_C q (d + 110) 28 [.ref 0] m (fun r1 m1 => pw_C q (d + 110) 190 [.ref 47] m1 (fun r2 m2 => ∃ x : Int, r1 = some (.int (ei_ x)) ∧ r2 = some (.int (ei_ x)) ∧ rR_ m2)) := by
  obtain ⟨hp, hd, hi, ht, hl, hz, hc, ha, hs⟩ := id hR
  obtain ⟨hP1, hP2, hP3, hP4⟩ := id hp
  have hmw := mW_of hp hd
  have hmf := mF_of hp hd
  have htp := tp_of ht
  obtain ⟨ht1, ht2, ht3⟩ := id ht
  refine pw_intro (I := iX8_law) (T := tX8_law) rfl rfl rfl ?_
  refine pw_steps 2 (s' := (4, [some (.ref 0), none], [.ref 11], m)) rfl ?_
  refine pw_call (As := []) (st := []) (k := 11) rfl rfl rfl rfl rfl (Nat.le_of_ble_eq_true rfl) ?_
  refine ct_read (B := (vi_ m 12)) (n := (vi_ m 11 1)) (htp) (fun x1 m12 g3 g4 g5 g6 => ?_)
  refine pw_steps 3 (s' := (10, [some (.ref 0), some (.int (ei_ (x1)))], [.int (ei_ ((-1))), .int (ei_ (x1))], m12)) rfl ?_
  refine pw_cmp rfl (by omega) (by decide) (fun (h7 : ¬ x1 = (-1)) => ?_) (fun (h7 : ¬ ¬ x1 = (-1)) => ?_)
  · refine pw_steps 2 (s' := (28, [some (.ref 0), some (.int (ei_ (x1)))], [.ref 11], m12)) rfl ?_
    refine pw_call (As := []) (st := []) (k := 11) rfl rfl rfl rfl rfl (Nat.le_of_ble_eq_true rfl) ?_
    refine pw_intro (I := iX6_clear) (T := tX6_clear) rfl rfl rfl ?_
    refine pw_steps 2 (s' := (2, [some (.ref 11)], [.int (ei_ (0)), .ref 11], m12)) rfl ?_
    refine pw_put (v := 0) rfl rfl (Or.inl rfl) ?_
    refine pw_cv (s' := (5, [some (.ref 11)], [], wi_ m12 11 (1) (0))) rfl ?_
    refine pw_vret rfl rfl ?_
    refine pw_steps 2 (s' := (33, [some (.ref 0), some (.int (ei_ (x1)))], [.int (ei_ ((-1))), .int (ei_ (x1))], wi_ m12 11 (1) (0))) rfl ?_
    refine pw_cmpT rfl (by omega) (by decide) (show ¬ x1 = (-1) by omega) ?_
    refine pw_steps 3 (s' := (44, [some (.ref 0), some (.int (ei_ (x1)))], [.int ((ei_ ((-100))) - (ei_ (x1)))], wi_ m12 11 (1) (0))) rfl ?_
    refine pw_cv (congrArg (fun z_ : Int32 => ((44, [some (.ref 0), some (.int (ei_ (x1)))], [.int z_], wi_ m12 11 (1) (0)) : am_S)) (ei_sub rfl rfl)) ?_
    refine pw_iret rfl rfl rfl ?_
    refine mt_law (B := vi_ m 12) (n := vi_ m 11 1) (((sm_v g4 rfl).trans ht1)) (fun j a_ b_ => (sm_v (sm_w (sm_le g4 pTp_Law) (fun _ h_ => by rw [h_]; rfl)) (k := 54) rfl).trans (ht3 j a_ b_).1) (fun j a_ b_ => (ht3 j a_ b_).2) (ht2) (fun m18 g9 g10 g11 g12 g13 => ?_) (fun x14 m115 g16 g17 g18 g19 g20 => ?_)
    · have hq_ := g3
      rw [if_pos g9] at hq_
      exact False.elim (by omega)
    · have hq_ := g3
      rw [if_neg g16] at hq_
      have hsm_ : sm_ pLaw m m115 := (sm_tr (sm_w (sm_le g4 pTp_Law) (fun _ h_ => by rw [h_]; rfl)) (sm_le g17 pMb_Law))
      have ht_ := rT_0 (m := m115) ((sm_v g17 rfl).trans (ei_i (by omega))) g18
      have hsb_ : sm_ pLbd m m115 := (sm_tr (sm_w (sm_le g4 pTp_Lbd) (fun _ h_ => by rw [h_]; rfl)) (sm_le g17 pMb_Lbd))
      have hx_ : (x14 : Int) = ((-100) - x1) := by omega
      exact ⟨((-100) - x1), rfl, congrArg (fun z_ : Int => some (Value.int (ei_ z_))) hx_, ⟨rP_fr hsb_ rfl rfl (fun _ => rfl) (fun _ => rfl) hp, rD_fr hsb_ rfl (fun _ => rfl) (fun _ => rfl) (fun _ => rfl) (fun _ => rfl) (fun _ => rfl) (fun _ => rfl) rfl rfl rfl rfl rfl rfl hd, rI_fr hsb_ rfl rfl rfl rfl (fun _ => rfl) (fun _ => rfl) (fun _ => rfl) (fun _ => rfl) (fun _ => rfl) (fun _ => rfl) (fun _ => rfl) rfl rfl rfl hi, ht_, rL_fr hsb_ rfl rfl (fun _ => rfl) (fun _ => rfl) hl, rZ_fr hsb_ rfl hz, rC_fr hsb_ rfl rfl rfl rfl (fun _ => rfl) (fun _ => rfl) (fun _ => rfl) (fun _ => rfl) (fun _ => rfl) (fun _ => rfl) (fun _ => rfl) rfl hc, rA_fr hsb_ rfl rfl (fun _ => rfl) (fun _ => rfl) rfl rfl (fun _ => rfl) (fun _ => rfl) ha, rS_fr hsb_ (fun _ => rfl) (fun _ => rfl) rfl (fun d_ a_ b_ => by rcases sf_six ⟨a_, b_⟩ with h_ | h_ | h_ | h_ | h_ | h_ <;> subst h_ <;> exact ⟨rfl, rfl, rfl⟩) hs⟩⟩
  · refine pw_steps 4 (s' := (21, [some (.ref 0), some (.int (ei_ (x1)))], [.ref 14, .ref 11], m12)) rfl ?_
    refine pw_call (As := [.ref 14]) (st := []) (k := 11) rfl rfl rfl rfl rfl (Nat.le_of_ble_eq_true rfl) ?_
    refine pw_intro (I := iX6_handTo) (T := tX6_handTo) rfl rfl rfl ?_
    refine pw_steps 4 (s' := (6, [some (.ref 11), some (.ref 14)], [.ref 11, .ref 13, .ref 14], m12)) rfl ?_
    refine pw_get rfl rfl (fun x21 (hx21 : x21 = vi_ m12 11 4) rx21 sx21 => ?_)
    refine pw_call (As := [.ref 13, .int (ei_ (x21))]) (st := []) (k := 14) rfl rfl rfl rfl rfl (Nat.le_of_ble_eq_true rfl) ?_
    refine pw_intro (I := iX4_become) (T := tX4_become) rfl rfl rfl ?_
    refine pw_steps 9 (s' := (17, [some (.ref 14), some (.ref 13), some (.int (ei_ (x21)))], [.int ((if (ei_ (0)) < ((if ((if (ei_ (128)) < (ei_ (128)) then ei_ (128) else ei_ (128))) < (ei_ (x21)) then (if (ei_ (128)) < (ei_ (128)) then ei_ (128) else ei_ (128)) else ei_ (x21))) then (if ((if (ei_ (128)) < (ei_ (128)) then ei_ (128) else ei_ (128))) < (ei_ (x21)) then (if (ei_ (128)) < (ei_ (128)) then ei_ (128) else ei_ (128)) else ei_ (x21)) else ei_ (0))), .ref 14], m12)) rfl ?_
    refine pw_cv (congrArg (fun z_ : Int32 => ((17, [some (.ref 14), some (.ref 13), some (.int (ei_ (x21)))], [.int z_, .ref 14], m12) : am_S)) (ei_max (by decide) (by omega) rfl (ei_min ⟨rx21, sx21⟩ (by decide) rfl (ei_min (by decide) (by decide) rfl rfl)))) ?_
    refine pw_put (v := (max 0 (min x21 128))) rfl rfl (Or.inl rfl) ?_
    refine pw_cv (s' := (20, [some (.ref 14), some (.ref 13), some (.int (ei_ (x21)))], [], wi_ m12 14 (3) ((max 0 (min x21 128))))) rfl ?_
    refine pw_steps 7 (s' := (31, [some (.ref 14), some (.ref 13), some (.int (ei_ (x21)))], [.int (ei_ ((max 0 (min x21 128)))), .int (ei_ (0)), .ref 15, .int (ei_ (0)), .ref 13], wi_ m12 14 (3) ((max 0 (min x21 128))))) rfl ?_
    refine pw_cpy rfl (Nat.le_of_ble_eq_true rfl) rfl rfl (by omega) ?_
    generalize hcp_m22 : cp_ (wi_ m12 14 (3) ((max 0 (min x21 128)))) 13 15 0 0 (max 0 (min x21 128)) = m22
    have g23 : sm_ pC15 (wi_ m12 14 (3) ((max 0 (min x21 128)))) m22 := by rw [← hcp_m22]; exact sm_cp (fun _ => rfl)
    refine pw_vret rfl rfl ?_
    refine pw_vret rfl rfl ?_
    refine pw_steps 2 (s' := (28, [some (.ref 0), some (.int (ei_ (x1)))], [.ref 11], m22)) rfl ?_
    refine pw_call (As := []) (st := []) (k := 11) rfl rfl rfl rfl rfl (Nat.le_of_ble_eq_true rfl) ?_
    refine pw_intro (I := iX6_clear) (T := tX6_clear) rfl rfl rfl ?_
    refine pw_steps 2 (s' := (2, [some (.ref 11)], [.int (ei_ (0)), .ref 11], m22)) rfl ?_
    refine pw_put (v := 0) rfl rfl (Or.inl rfl) ?_
    refine pw_cv (s' := (5, [some (.ref 11)], [], wi_ m22 11 (1) (0))) rfl ?_
    refine pw_vret rfl rfl ?_
    refine pw_steps 2 (s' := (33, [some (.ref 0), some (.int (ei_ (x1)))], [.int (ei_ ((-1))), .int (ei_ (x1))], wi_ m22 11 (1) (0))) rfl ?_
    refine pw_cmpF rfl (by omega) (by decide) (show ¬ (¬ x1 = (-1)) by omega) ?_
    refine pw_steps 2 (s' := (44, [some (.ref 0), some (.int (ei_ (x1)))], [.int (ei_ (1))], wi_ m22 11 (1) (0))) rfl ?_
    refine pw_iret rfl rfl rfl ?_
    refine mt_law (B := vi_ m 12) (n := vi_ m 11 1) (((sm_v g23 rfl).trans ((sm_v g4 rfl).trans ht1))) (fun j a_ b_ => (sm_v (sm_w (sm_tr (sm_w (sm_le g4 pTp_Law) (fun _ h_ => by rw [h_]; rfl)) (sm_le g23 pC15_Law)) (fun _ h_ => by rw [h_]; rfl)) (k := 54) rfl).trans (ht3 j a_ b_).1) (fun j a_ b_ => (ht3 j a_ b_).2) (ht2) (fun m124 g25 g26 g27 g28 g29 => ?_) (fun x30 m131 g32 g33 g34 g35 g36 => ?_)
    · have hq_ := g3
      rw [if_pos g25] at hq_
      have hsm_ : sm_ pLaw m m124 := (sm_tr (sm_w (sm_tr (sm_w (sm_le g4 pTp_Law) (fun _ h_ => by rw [h_]; rfl)) (sm_le g23 pC15_Law)) (fun _ h_ => by rw [h_]; rfl)) (sm_le g26 pMl_Law))
      have ht_ := rT_0 (m := m124) ((sm_v g26 rfl).trans (ei_i (by omega))) g27
      have hw_ := g5 g25.1
      have hw1_ := hw_.1
      obtain ⟨hb1_, hb2_, hb3_, hb4_, hb5_⟩ := pg_b (B := vi_ m 12) (n := vi_ m 11 1) (f := 900) 121 0 ht.2.1.1
      have hz_ : (max 0 (min x21 128)) = ((pg_ (vi_ m 12) (vi_ m 11 1) 900 121 0).2.2.length : Int) := by omega
      have h15_ : ∀ j, 0 ≤ j → j < (max 0 (min x21 128)) → vi_ m124 15 j = vi_ m12 13 j := by
        intro j a_ b_
        have t_ := vi_cp (m := (wi_ m12 14 (3) ((max 0 (min x21 128))))) (a := 13) (b := 15) (n := (max 0 (min x21 128))) a_ (by omega)
        rw [hcp_m22, if_pos b_] at t_
        exact (sm_v g26 (k := 15) (j := j) rfl).trans t_
      have h4_ : dr_ (vi_ m124 15) 0 ((max 0 (min x21 128))).toNat = (pg_ (vi_ m 12) (vi_ m 11 1) 900 121 0).2.2 := by
        rw [dr_cg _ 0 (fun j a_ b_ => h15_ j a_ (by omega)), show ((max 0 (min x21 128))).toNat = (pg_ (vi_ m 12) (vi_ m 11 1) 900 121 0).2.2.length by omega]; exact hw_.2.2
      have hl_ := rL_new (m0 := m) (m := m124) g25 ht g28 g29 ((sm_v g26 rfl).trans ((sm_v g23 rfl).trans (ei_i (by omega)))) hz_ h4_
      have h143_ : vi_ m124 14 3 = (max 0 (min x21 128)) := ((sm_v g26 rfl).trans ((sm_v g23 rfl).trans (ei_i (by omega))))
      have hzz_ : rZ_ m124 := by show 0 ≤ vi_ m124 14 3 ∧ vi_ m124 14 3 ≤ 128; rw [h143_]; omega
      have hx_ : (1 : Int) = 1 := by rfl
      exact ⟨1, rfl, congrArg (fun z_ : Int => some (Value.int (ei_ z_))) hx_, ⟨rP_fr hsm_ rfl rfl (fun _ => rfl) (fun _ => rfl) hp, rD_fr hsm_ rfl (fun _ => rfl) (fun _ => rfl) (fun _ => rfl) (fun _ => rfl) (fun _ => rfl) (fun _ => rfl) rfl rfl rfl rfl rfl rfl hd, rI_fr hsm_ rfl rfl rfl rfl (fun _ => rfl) (fun _ => rfl) (fun _ => rfl) (fun _ => rfl) (fun _ => rfl) (fun _ => rfl) (fun _ => rfl) rfl rfl rfl hi, ht_, hl_, hzz_, rC_fr hsm_ rfl rfl rfl rfl (fun _ => rfl) (fun _ => rfl) (fun _ => rfl) (fun _ => rfl) (fun _ => rfl) (fun _ => rfl) (fun _ => rfl) rfl hc, rA_fr hsm_ rfl rfl (fun _ => rfl) (fun _ => rfl) rfl rfl (fun _ => rfl) (fun _ => rfl) ha, rS_fr hsm_ (fun _ => rfl) (fun _ => rfl) rfl (fun d_ a_ b_ => by rcases sf_six ⟨a_, b_⟩ with h_ | h_ | h_ | h_ | h_ | h_ <;> subst h_ <;> exact ⟨rfl, rfl, rfl⟩) hs⟩⟩
    · have hq_ := g3
      rw [if_neg g32] at hq_
      exact False.elim (by omega)

