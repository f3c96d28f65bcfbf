
/-- a line; the lines from p on -/
def ln_ (B : Int → Int) (n : Int) (f : Nat) (p : Int) : Int × Int × List Int :=
  if (ps_ B n f 0 0 p).1 = 1 then
    (if (ps_ B n f 0 0 p).2.1 < n ∧ B (ps_ B n f 0 0 p).2.1 = 63 then
      (if (ps_ B n f 0 0 ((ps_ B n f 0 0 p).2.1 + 1)).1 = 1 then (1, (ps_ B n f 0 0 ((ps_ B n f 0 0 p).2.1 + 1)).2.1, ((ps_ B n f 0 0 p).2.2 ++ (ps_ B n f 0 0 ((ps_ B n f 0 0 p).2.1 + 1)).2.2) ++ [63])
      else (0, (ps_ B n f 0 0 ((ps_ B n f 0 0 p).2.1 + 1)).2.1, []))
    else (1, (ps_ B n f 0 0 p).2.1, (ps_ B n f 0 0 p).2.2 ++ [59]))
  else (0, (ps_ B n f 0 0 p).2.1, [])
def pk_ (B : Int → Int) (n : Int) (R : Int × Int × List Int) (k : Int → Int × Int × List Int) : Int × Int × List Int := if R.1 = 1 ∧ R.2.1 < n ∧ B R.2.1 = 59 then ((k (R.2.1 + 1)).1, (k (R.2.1 + 1)).2.1, R.2.2 ++ (k (R.2.1 + 1)).2.2) else R
def pg_ (B : Int → Int) (n : Int) (f : Nat) : Nat → Int → Int × Int × List Int
  | 0, p => (0, p, [])
  | k + 1, p => pk_ B n (ln_ B n f p) (pg_ B n f k)
theorem ln_0 {B : Int → Int} {n : Int} {f : Nat} {p g p1 : Int} {z : List Int} (h : ps_ B n f 0 0 p = (g, p1, z)) (c : ¬ g = 1) : ln_ B n f p = (0, p1, []) := by
  simp only [ln_, h]
  rw [if_neg c]
theorem ln_1 {B : Int → Int} {n : Int} {f : Nat} {p p1 : Int} {z : List Int} (h : ps_ B n f 0 0 p = (1, p1, z)) (c : ¬ (p1 < n ∧ B p1 = 63)) : ln_ B n f p = (1, p1, z ++ [59]) := by
  simp only [ln_, h]
  rw [if_pos trivial, if_neg c]
theorem ln_2 {B : Int → Int} {n : Int} {f : Nat} {p p1 p2 g2 : Int} {z z2 : List Int} (h : ps_ B n f 0 0 p = (1, p1, z)) (c : p1 < n ∧ B p1 = 63) (h2 : ps_ B n f 0 0 (p1 + 1) = (g2, p2, z2)) : ln_ B n f p = if g2 = 1 then (1, p2, (z ++ z2) ++ [63]) else (0, p2, []) := by
  simp only [ln_, h, h2]
  rw [if_pos trivial, if_pos c]
theorem pk_as {B : Int → Int} {n : Int} {g p : Int} {z z' : List Int} {k : Int → Int × Int × List Int} : (let R := pk_ B n (g, p, z') k; (R.1, R.2.1, z ++ R.2.2)) = pk_ B n (g, p, z ++ z') k := by
  simp only [pk_]
  by_cases h : g = 1 ∧ p < n ∧ B p = 59
  · rw [if_pos h, if_pos h]; simp only [List.append_assoc]
  · rw [if_neg h, if_neg h]
theorem pg_s {B : Int → Int} {n : Int} {f k : Nat} {p g2 p2 : Int} {z z2 : List Int} {X : Int × Int × List Int} (h : pk_ B n (1, p, z) (pg_ B n f (k + 1)) = X) (c : p < n ∧ B p = 59) (e : ln_ B n f (p + 1) = (g2, p2, z2)) : pk_ B n (g2, p2, z ++ z2) (pg_ B n f k) = X := by
  have e1 : X = ((pg_ B n f (k + 1) (p + 1)).1, (pg_ B n f (k + 1) (p + 1)).2.1, z ++ (pg_ B n f (k + 1) (p + 1)).2.2) := by
    rw [← h]
    simp only [pk_]
    rw [if_pos ⟨trivial, c.1, c.2⟩]
  have e2 : pg_ B n f (k + 1) (p + 1) = pk_ B n (g2, p2, z2) (pg_ B n f k) := by
    simp only [pg_, e]
  rw [e1, e2]
  exact pk_as.symm
theorem pg_e {B : Int → Int} {n : Int} {g p : Int} {z : List Int} {k : Int → Int × Int × List Int} {X : Int × Int × List Int} (h : pk_ B n (g, p, z) k = X) (c : ¬ (g = 1 ∧ p < n ∧ B p = 59)) : X = (g, p, z) := by
  rw [← h]
  simp only [pk_]
  rw [if_neg c]

theorem ct_lv0 {q : am_X} {d : Nat} {B : Int → Int} {n p w : Int} {m : am_M} {Q : Option Value → am_M → Prop} (p0 : tp_ B n m) (p1 : 0 ≤ p ∧ p ≤ n) (p2 : vi_ m 11 2 = p) (p3 : vi_ m 11 4 = w) (p4 : 0 ≤ w ∧ w ≤ p) (k0 : (∀ (g p1 : Int) (z1 : List Int) (m1 : am_M), ps_ B n 900 0 0 p = (g, p1, z1) → sm_ pTp m m1 → vi_ m1 11 2 = p1 → 0 ≤ vi_ m1 11 4 → (g = 1 → wz_ m m1 w z1) → Q (some (.int (ei_ g))) m1)) : pw_C q (d + 58) 31 [.ref 11, .int (ei_ (0)), .int (ei_ (0))] m Q := by
  have hn := p0.2.2.2
  exact (cz_all (q := q) (B := B) hn.1 900).2.1 (L := 0) (o := 0) (by omega) (by omega) (by omega) p1 (by omega) p0 p2 p3 p4 k0

set_option maxHeartbeats 4000000 in
set_option maxRecDepth 20000 in
theorem ct_line {q : am_X} {d : Nat} {m : am_M} {Q : Option Value → am_M → Prop}  {B : Int → Int} {n p w : Int} (p0 : tp_ B n m) (p1 : 0 ≤ p ∧ p ≤ n) (p2 : vi_ m 11 2 = p) (p3 : vi_ m 11 4 = w) (p4 : 0 ≤ w ∧ w ≤ p) (k0 : ∀ (g : Int) (p1 : Int) (z1 : List Int) (m1 : am_M), (ln_ B n 900 p = (g, p1, z1)) → (0 ≤ g ∧ g ≤ 1) → (p ≤ p1) → (p1 ≤ n) → ((z1.length : Int) ≤ p1 - p + 1) → (sm_ pTp m m1) → (vi_ m1 11 2 = p1) → (0 ≤ vi_ m1 11 4) → (g = 1 → wz_ m m1 w z1) → Q (some (.int (ei_ (g)))) m1) : pw_C q (d + 60) 30 [.ref 11] m Q := by
  obtain ⟨hn1, hn2, hn3, hn4, hn5⟩ := id p0
  refine pw_intro (I := iX6_readLine) (T := tX6_readLine) rfl rfl rfl ?_
  refine pw_steps 3 (s' := (3, [some (.ref 11)], [.int (ei_ (0)), .int (ei_ (0)), .ref 11], m)) rfl ?_
  refine pw_call (As := [.int (ei_ (0)), .int (ei_ (0))]) (st := []) (k := 11) rfl rfl rfl rfl rfl (Nat.le_of_ble_eq_true rfl) ?_
  refine ct_lv0 (p := p) (w := w) (p0) (p1) (p2) (p3) (p4) (fun g1 p12 z13 m14 g5 g6 g7 g8 g9 => ?_)
  have t10 : tp_ B n m14 := tp_sm g6 p0
  obtain ⟨b11a, b11b, b11c, b11d⟩ := ps_e g5 (by omega)
  refine pw_if rfl (by omega) (fun (h13 : ¬ g1 = 0) => ?_) (fun (h13 : ¬ ¬ g1 = 0) => ?_)
  · refine pw_steps 1 (s' := (12, [some (.ref 11)], [.ref 11], m14)) rfl ?_
    refine pw_call (As := []) (st := []) (k := 11) rfl rfl rfl rfl rfl (Nat.le_of_ble_eq_true rfl) ?_
    refine ct_next (p := p12) (t10) (by omega) (g7) (fun g14 g15 => ?_) (fun g16 => ?_)
    · refine pw_steps 1 (s' := (17, [some (.ref 11)], [.int (ei_ (63)), .int (ei_ ((B p12)))], m14)) rfl ?_
      refine pw_cmp rfl (by omega) (by decide) (fun (h17 : (B p12) = 63) => ?_) (fun (h17 : ¬ ((B p12) = 63)) => ?_)
      · have hw0_ := (g9 (by omega)).1
        refine pw_steps 2 (s' := (30, [some (.ref 11)], [.ref 11, .ref 11], m14)) rfl ?_
        refine pw_get rfl rfl (fun x18 (hx18 : x18 = vi_ m14 11 2) rx18 sx18 => ?_)
        replace hx18 : x18 = p12 := hx18.trans g7
        subst x18
        refine pw_steps 2 (s' := (35, [some (.ref 11)], [.int ((ei_ (p12)) + (ei_ (1))), .ref 11], m14)) rfl ?_
        refine pw_cv (congrArg (fun z_ : Int32 => ((35, [some (.ref 11)], [.int z_, .ref 11], m14) : am_S)) (ei_add rfl rfl)) ?_
        refine pw_put (v := (p12 + 1)) rfl rfl (Or.inl rfl) ?_
        refine pw_cv (s' := (38, [some (.ref 11)], [], wi_ m14 11 (2) ((p12 + 1)))) rfl ?_
        refine pw_steps 3 (s' := (41, [some (.ref 11)], [.int (ei_ (0)), .int (ei_ (0)), .ref 11], wi_ m14 11 (2) ((p12 + 1)))) rfl ?_
        refine pw_call (As := [.int (ei_ (0)), .int (ei_ (0))]) (st := []) (k := 11) rfl rfl rfl rfl rfl (Nat.le_of_ble_eq_true rfl) ?_
        refine ct_lv0 (p := (p12 + 1)) (w := vi_ m14 11 4) (t10) (by omega) ((ei_i (by omega))) (rfl) (by omega) (fun g19 p120 z121 m122 g23 g24 g25 g26 g27 => ?_)
        have t28 : tp_ B n m122 := tp_sm g24 t10
        obtain ⟨b29a, b29b, b29c, b29d⟩ := ps_e g23 (by omega)
        refine pw_if rfl (by omega) (fun (h31 : ¬ g19 = 0) => ?_) (fun (h31 : ¬ ¬ g19 = 0) => ?_)
        · refine pw_steps 2 (s' := (52, [some (.ref 11)], [.int (ei_ (63)), .ref 11], m122)) rfl ?_
          refine pw_call (As := [.int (ei_ (63))]) (st := []) (k := 11) rfl rfl rfl rfl rfl (Nat.le_of_ble_eq_true rfl) ?_
          refine ct_write (w := vi_ m122 11 4) (by omega) (rfl) (by omega) (fun m132 g33 g34 g35 => ?_)
          have t36 : tp_ B n m132 := tp_wr g33 t28
          refine pw_steps 1 (s' := (56, [some (.ref 11)], [.int (ei_ (1))], m132)) rfl ?_
          refine pw_iret rfl rfl rfl ?_
          have hg_ : g1 = 1 := by omega
          subst hg_
          have hw_ := g9 rfl
          have hw1_ := hw_.1
          have hf_ : g19 = 1 := by omega
          subst hf_
          have hx_ := g27 rfl
          have hx1_ := hx_.1
          have hv_ := g35 (by omega)
          exact k0 1 p120 ((z13 ++ z121) ++ [63]) _ ((ln_2 g5 (by omega) g23).trans (if_pos rfl)) (by decide) (by omega) (by omega) (by rw [List.length_append, List.length_append, List.length_singleton]; omega) (sm_tr (sm_tr (sm_w g6 (fun _ h_ => by rw [h_]; rfl)) g24) (sm_le g33 pWr_Tp)) ((sm_v g33 rfl).trans g25) g34 (fun _ => wz_app (by omega) (wz_app (by omega) hw_ hw1_ (wz_cl hx_)) (by rw [List.length_append]; omega) hv_)
        · refine pw_steps 1 (s' := (48, [some (.ref 11)], [.int (ei_ (0))], m122)) rfl ?_
          refine pw_iret rfl rfl rfl ?_
          have hg_ : g1 = 1 := by omega
          subst hg_
          exact k0 0 p120 [] _ ((ln_2 g5 (by omega) g23).trans (if_neg (by omega))) (by decide) (by omega) (by omega) (by simp only [List.length_nil]; omega) (sm_tr (sm_w g6 (fun _ h_ => by rw [h_]; rfl)) g24) g25 g26 (fun h_ => absurd h_ (by decide))
      · refine pw_steps 2 (s' := (23, [some (.ref 11)], [.int (ei_ (59)), .ref 11], m14)) rfl ?_
        refine pw_call (As := [.int (ei_ (59))]) (st := []) (k := 11) rfl rfl rfl rfl rfl (Nat.le_of_ble_eq_true rfl) ?_
        refine ct_write (w := vi_ m14 11 4) (by omega) (rfl) (by omega) (fun m137 g38 g39 g40 => ?_)
        have t41 : tp_ B n m137 := tp_wr g38 t10
        refine pw_steps 1 (s' := (27, [some (.ref 11)], [.int (ei_ (1))], m137)) rfl ?_
        refine pw_iret rfl rfl rfl ?_
        have hg_ : g1 = 1 := by omega
        subst hg_
        have hw_ := g9 rfl
        have hw1_ := hw_.1
        have hv_ := g40 (by omega)
        exact k0 1 p12 (z13 ++ [59]) _ (ln_1 g5 (by omega)) (by decide) (by omega) (by omega) (by rw [List.length_append, List.length_singleton]; omega) (sm_tr g6 (sm_le g38 pWr_Tp)) ((sm_v g38 rfl).trans g7) g39 (fun _ => wz_app (by omega) hw_ hw1_ hv_)
    · refine pw_steps 1 (s' := (17, [some (.ref 11)], [.int (ei_ (63)), .int (ei_ ((-1)))], m14)) rfl ?_
      refine pw_cmpF rfl (by decide) (by decide) (show ¬ ((-1) = 63) by decide) ?_
      refine pw_steps 2 (s' := (23, [some (.ref 11)], [.int (ei_ (59)), .ref 11], m14)) rfl ?_
      refine pw_call (As := [.int (ei_ (59))]) (st := []) (k := 11) rfl rfl rfl rfl rfl (Nat.le_of_ble_eq_true rfl) ?_
      refine ct_write (w := vi_ m14 11 4) (by omega) (rfl) (by omega) (fun m142 g43 g44 g45 => ?_)
      have t46 : tp_ B n m142 := tp_wr g43 t10
      refine pw_steps 1 (s' := (27, [some (.ref 11)], [.int (ei_ (1))], m142)) rfl ?_
      refine pw_iret rfl rfl rfl ?_
      have hg_ : g1 = 1 := by omega
      subst hg_
      have hw_ := g9 rfl
      have hw1_ := hw_.1
      have hv_ := g45 (by omega)
      exact k0 1 p12 (z13 ++ [59]) _ (ln_1 g5 (by omega)) (by decide) (by omega) (by omega) (by rw [List.length_append, List.length_singleton]; omega) (sm_tr g6 (sm_le g43 pWr_Tp)) ((sm_v g43 rfl).trans g7) g44 (fun _ => wz_app (by omega) hw_ hw1_ hv_)
  · refine pw_steps 1 (s' := (10, [some (.ref 11)], [.int (ei_ (0))], m14)) rfl ?_
    refine pw_iret rfl rfl rfl ?_
    exact k0 0 p12 [] _ (ln_0 g5 (by omega)) (by decide) (by omega) (by omega) (by simp only [List.length_nil]; omega) g6 g7 g8 (fun h_ => absurd h_ (by decide))

set_option maxHeartbeats 4000000 in
set_option maxRecDepth 20000 in
theorem ct_read {q : am_X} {d : Nat} {m : am_M} {Q : Option Value → am_M → Prop}  {B : Int → Int} {n : Int} (p0 : tp_ B n m) (k0 : ∀ (x : Int) (m1 : am_M), (x = if (pg_ B n 900 121 0).1 = 1 ∧ (pg_ B n 900 121 0).2.1 = n then -1 else (pg_ B n 900 121 0).2.1) → (sm_ pTp m m1) → ((pg_ B n 900 121 0).1 = 1 → wz_ m m1 0 (pg_ B n 900 121 0).2.2) → (-1 ≤ x ∧ x ≤ 120) → Q (some (.int (ei_ (x)))) m1) : pw_C q (d + 62) 29 [.ref 11] m Q := by
  obtain ⟨hn1, hn2, hn3, hn4, hn5⟩ := id p0
  refine pw_intro (I := iX6_read) (T := tX6_read) rfl rfl rfl ?_
  refine pw_steps 2 (s' := (2, [some (.ref 11), none, none], [.int (ei_ (0)), .ref 11], m)) rfl ?_
  refine pw_put (v := 0) rfl rfl (Or.inl rfl) ?_
  refine pw_cv (s' := (5, [some (.ref 11), none, none], [], wi_ m 11 (2) (0))) rfl ?_
  refine pw_steps 2 (s' := (7, [some (.ref 11), none, none], [.int (ei_ (0)), .ref 11], wi_ m 11 (2) (0))) rfl ?_
  refine pw_put (v := 0) rfl rfl (Or.inl rfl) ?_
  refine pw_cv (s' := (10, [some (.ref 11), none, none], [], wi_ (wi_ m 11 (2) (0)) 11 (4) (0))) rfl ?_
  refine pw_steps 1 (s' := (11, [some (.ref 11), none, none], [.ref 11], wi_ (wi_ m 11 (2) (0)) 11 (4) (0))) rfl ?_
  refine pw_call (As := []) (st := []) (k := 11) rfl rfl rfl rfl rfl (Nat.le_of_ble_eq_true rfl) ?_
  refine ct_line (p := 0) (w := 0) (p0) (by omega) ((ei_i (by omega))) ((ei_i (by omega))) (by omega) (fun g1 p12 z13 m14 g5 g6 g7 g8 g9 g10 g11 g12 g13 => ?_)
  have t14 : tp_ B n m14 := tp_sm g10 p0
  refine pw_steps 3 (s' := (17, [some (.ref 11), some (.int (ei_ (g1))), some (.int (ei_ (0)))], [], m14)) rfl ?_
  have L17 : ∀ (n15 : Nat) (g : Int) (k : Int) (m1 : am_M) (pp : Int) (zz : List Int), (120 - k).toNat = n15 → (0 ≤ k ∧ k ≤ 120 ∧ k ≤ pp ∧ pp ≤ n ∧ 0 ≤ g ∧ g ≤ 1) → (sm_ pTp m m1) → (vi_ m1 11 2 = pp) → ((zz.length : Int) ≤ pp + 1) → (g = 1 → wz_ m m1 0 zz) → (pk_ B n (g, pp, zz) (pg_ B n 900 (120 - k).toNat) = pg_ B n 900 121 0) → pw_V q (d + 61) iX6_read.2.2.2.1 tX6_read Q (17, [some (.ref 11), some (.int (ei_ (g))), some (.int (ei_ (k)))], [], m1) := by
    intro n15
    induction n15 using Nat.strongRecOn with
    | _ n15 ih16 =>
      intro g k m1 pp zz hm_n15 v18 hs v19 hl hw hX
      have tq := tp_sm hs p0
      have t20 : tp_ B n m1 := tp_sm hs p0
      refine pw_steps 2 (s' := (20, [some (.ref 11), some (.int (ei_ (g))), some (.int (ei_ (k)))], [.int (ei_ (120)), .int (ei_ (k))], m1)) rfl ?_
      refine pw_cmp rfl (by omega) (by decide) (fun (h21 : 120 ≤ k) => ?_) (fun (h21 : ¬ (120 ≤ k)) => ?_)
      · refine pw_steps 1 (s' := (58, [some (.ref 11), some (.int (ei_ (g))), some (.int (ei_ (k)))], [.int (ei_ (g))], m1)) rfl ?_
        refine pw_if rfl (by omega) (fun (h22 : g = 0) => ?_) (fun (h22 : ¬ (g = 0)) => ?_)
        · refine pw_steps 1 (s' := (74, [some (.ref 11), some (.int (ei_ (g))), some (.int (ei_ (k)))], [.ref 11], m1)) rfl ?_
          refine pw_get rfl rfl (fun x23 (hx23 : x23 = vi_ m1 11 2) rx23 sx23 => ?_)
          replace hx23 : x23 = pp := hx23.trans v19
          subst x23
          refine pw_iret rfl rfl rfl ?_
          exact k0 pp m1 (by rw [pg_e hX (by omega)]; simp only []; first | rw [if_pos (by omega)] | rw [if_neg (by omega)]) (hs) (by rw [pg_e hX (by omega)]; exact hw) (by omega)
        · refine pw_steps 1 (s' := (62, [some (.ref 11), some (.int (ei_ (g))), some (.int (ei_ (k)))], [.ref 11], m1)) rfl ?_
          refine pw_call (As := []) (st := []) (k := 11) rfl rfl rfl rfl rfl (Nat.le_of_ble_eq_true rfl) ?_
          refine ct_next (p := pp) (t20) (by omega) (v19) (fun g24 g25 => ?_) (fun g26 => ?_)
          · exact False.elim (by omega)
          · refine pw_steps 1 (s' := (66, [some (.ref 11), some (.int (ei_ (g))), some (.int (ei_ (k)))], [.int (ei_ ((-1))), .int (ei_ ((-1)))], m1)) rfl ?_
            refine pw_cmpF rfl (by decide) (by decide) (show ¬ (¬ (-1) = (-1)) by decide) ?_
            refine pw_steps 2 (s' := (77, [some (.ref 11), some (.int (ei_ (g))), some (.int (ei_ (k)))], [.int (ei_ ((-1)))], m1)) rfl ?_
            refine pw_iret rfl rfl rfl ?_
            exact k0 (-1) m1 (by rw [pg_e hX (by omega)]; simp only []; first | rw [if_pos (by omega)] | rw [if_neg (by omega)]) (hs) (by rw [pg_e hX (by omega)]; exact hw) (by omega)
      · refine pw_steps 1 (s' := (24, [some (.ref 11), some (.int (ei_ (g))), some (.int (ei_ (k)))], [.int (ei_ (g))], m1)) rfl ?_
        refine pw_if rfl (by omega) (fun (h27 : g = 0) => ?_) (fun (h27 : ¬ (g = 0)) => ?_)
        · refine pw_steps 1 (s' := (58, [some (.ref 11), some (.int (ei_ (g))), some (.int (ei_ (k)))], [.int (ei_ (g))], m1)) rfl ?_
          refine pw_ifT rfl (by omega) (show g = 0 by omega) ?_
          refine pw_steps 1 (s' := (74, [some (.ref 11), some (.int (ei_ (g))), some (.int (ei_ (k)))], [.ref 11], m1)) rfl ?_
          refine pw_get rfl rfl (fun x28 (hx28 : x28 = vi_ m1 11 2) rx28 sx28 => ?_)
          replace hx28 : x28 = pp := hx28.trans v19
          subst x28
          refine pw_iret rfl rfl rfl ?_
          exact k0 pp m1 (by rw [pg_e hX (by omega)]; simp only []; first | rw [if_pos (by omega)] | rw [if_neg (by omega)]) (hs) (by rw [pg_e hX (by omega)]; exact hw) (by omega)
        · refine pw_steps 1 (s' := (28, [some (.ref 11), some (.int (ei_ (g))), some (.int (ei_ (k)))], [.ref 11], m1)) rfl ?_
          refine pw_call (As := []) (st := []) (k := 11) rfl rfl rfl rfl rfl (Nat.le_of_ble_eq_true rfl) ?_
          refine ct_next (p := pp) (t20) (by omega) (v19) (fun g29 g30 => ?_) (fun g31 => ?_)
          · refine pw_steps 1 (s' := (33, [some (.ref 11), some (.int (ei_ (g))), some (.int (ei_ (k)))], [.int (ei_ (59)), .int (ei_ ((B pp)))], m1)) rfl ?_
            refine pw_cmp rfl (by omega) (by decide) (fun (h32 : ¬ (B pp) = 59) => ?_) (fun (h32 : ¬ ¬ (B pp) = 59) => ?_)
            · refine pw_steps 1 (s' := (58, [some (.ref 11), some (.int (ei_ (g))), some (.int (ei_ (k)))], [.int (ei_ (g))], m1)) rfl ?_
              refine pw_ifF rfl (by omega) (show ¬ (g = 0) by omega) ?_
              refine pw_steps 1 (s' := (62, [some (.ref 11), some (.int (ei_ (g))), some (.int (ei_ (k)))], [.ref 11], m1)) rfl ?_
              refine pw_call (As := []) (st := []) (k := 11) rfl rfl rfl rfl rfl (Nat.le_of_ble_eq_true rfl) ?_
              refine ct_next (p := pp) (t20) (by omega) (v19) (fun g33 g34 => ?_) (fun g35 => ?_)
              · refine pw_steps 1 (s' := (66, [some (.ref 11), some (.int (ei_ (g))), some (.int (ei_ (k)))], [.int (ei_ ((-1))), .int (ei_ ((B pp)))], m1)) rfl ?_
                refine pw_cmpT rfl (by omega) (by decide) (show ¬ (B pp) = (-1) by omega) ?_
                refine pw_steps 1 (s' := (74, [some (.ref 11), some (.int (ei_ (g))), some (.int (ei_ (k)))], [.ref 11], m1)) rfl ?_
                refine pw_get rfl rfl (fun x36 (hx36 : x36 = vi_ m1 11 2) rx36 sx36 => ?_)
                replace hx36 : x36 = pp := hx36.trans v19
                subst x36
                refine pw_iret rfl rfl rfl ?_
                exact k0 pp m1 (by rw [pg_e hX (by omega)]; simp only []; first | rw [if_pos (by omega)] | rw [if_neg (by omega)]) (hs) (by rw [pg_e hX (by omega)]; exact hw) (by omega)
              · exact False.elim (by omega)
            · have hw0_ := (hw (by omega)).1
              refine pw_steps 2 (s' := (38, [some (.ref 11), some (.int (ei_ (g))), some (.int (ei_ (k)))], [.ref 11, .ref 11], m1)) rfl ?_
              refine pw_get rfl rfl (fun x37 (hx37 : x37 = vi_ m1 11 2) rx37 sx37 => ?_)
              replace hx37 : x37 = pp := hx37.trans v19
              subst x37
              refine pw_steps 2 (s' := (43, [some (.ref 11), some (.int (ei_ (g))), some (.int (ei_ (k)))], [.int ((ei_ (pp)) + (ei_ (1))), .ref 11], m1)) rfl ?_
              refine pw_cv (congrArg (fun z_ : Int32 => ((43, [some (.ref 11), some (.int (ei_ (g))), some (.int (ei_ (k)))], [.int z_, .ref 11], m1) : am_S)) (ei_add rfl rfl)) ?_
              refine pw_put (v := (pp + 1)) rfl rfl (Or.inl rfl) ?_
              refine pw_cv (s' := (46, [some (.ref 11), some (.int (ei_ (g))), some (.int (ei_ (k)))], [], wi_ m1 11 (2) ((pp + 1)))) rfl ?_
              refine pw_steps 1 (s' := (47, [some (.ref 11), some (.int (ei_ (g))), some (.int (ei_ (k)))], [.ref 11], wi_ m1 11 (2) ((pp + 1)))) rfl ?_
              refine pw_call (As := []) (st := []) (k := 11) rfl rfl rfl rfl rfl (Nat.le_of_ble_eq_true rfl) ?_
              refine ct_line (p := (pp + 1)) (w := vi_ m1 11 4) (t20) (by omega) ((ei_i (by omega))) (rfl) (by omega) (fun g38 p139 z140 m141 g42 g43 g44 g45 g46 g47 g48 g49 g50 => ?_)
              have t51 : tp_ B n m141 := tp_sm g47 t20
              refine pw_steps 3 (s' := (17, [some (.ref 11), some (.int (ei_ (g38))), some (.int ((ei_ (k)) + (ei_ (1))))], [], m141)) rfl ?_
              refine pw_cv (congrArg (fun z_ : Int32 => ((17, [some (.ref 11), some (.int (ei_ (g38))), some (.int z_)], [], m141) : am_S)) (ei_add rfl rfl)) ?_
              exact ih16 _ (by omega) g38 (k + 1) m141 p139 (zz ++ z140) rfl (by omega) ((sm_tr (sm_w hs (fun _ h_ => by rw [h_]; rfl)) g47)) (g48) (by rw [List.length_append]; omega) (by intro hh; have hg_ : g = 1 := (by omega); have hw_ := hw hg_; exact wz_app (by omega) hw_ hw_.1 (wz_cl (g50 hh))) (by exact pg_s (k := (120 - (k + 1)).toNat) (by rw [show (120 - (k + 1)).toNat + 1 = (120 - k).toNat by omega]; have hg_ : g = 1 := (by omega); subst hg_; exact hX) (by omega) g42)
          · refine pw_steps 1 (s' := (33, [some (.ref 11), some (.int (ei_ (g))), some (.int (ei_ (k)))], [.int (ei_ (59)), .int (ei_ ((-1)))], m1)) rfl ?_
            refine pw_cmpT rfl (by decide) (by decide) (show ¬ (-1) = 59 by decide) ?_
            refine pw_steps 1 (s' := (58, [some (.ref 11), some (.int (ei_ (g))), some (.int (ei_ (k)))], [.int (ei_ (g))], m1)) rfl ?_
            refine pw_ifF rfl (by omega) (show ¬ (g = 0) by omega) ?_
            refine pw_steps 1 (s' := (62, [some (.ref 11), some (.int (ei_ (g))), some (.int (ei_ (k)))], [.ref 11], m1)) rfl ?_
            refine pw_call (As := []) (st := []) (k := 11) rfl rfl rfl rfl rfl (Nat.le_of_ble_eq_true rfl) ?_
            refine ct_next (p := pp) (t20) (by omega) (v19) (fun g52 g53 => ?_) (fun g54 => ?_)
            · exact False.elim (by omega)
            · refine pw_steps 1 (s' := (66, [some (.ref 11), some (.int (ei_ (g))), some (.int (ei_ (k)))], [.int (ei_ ((-1))), .int (ei_ ((-1)))], m1)) rfl ?_
              refine pw_cmpF rfl (by decide) (by decide) (show ¬ (¬ (-1) = (-1)) by decide) ?_
              refine pw_steps 2 (s' := (77, [some (.ref 11), some (.int (ei_ (g))), some (.int (ei_ (k)))], [.int (ei_ ((-1)))], m1)) rfl ?_
              refine pw_iret rfl rfl rfl ?_
              exact k0 (-1) m1 (by rw [pg_e hX (by omega)]; simp only []; first | rw [if_pos (by omega)] | rw [if_neg (by omega)]) (hs) (by rw [pg_e hX (by omega)]; exact hw) (by omega)
  exact L17 _ g1 0 m14 p12 z13 rfl (by omega) ((sm_tr (sm_w (sm_w (sm_rfl m) (fun _ h_ => by rw [h_]; rfl)) (fun _ h_ => by rw [h_]; rfl)) g10)) (g11) (by omega) (by intro hh; exact wz_cl (g13 hh)) (by rw [← g5]; rfl)

