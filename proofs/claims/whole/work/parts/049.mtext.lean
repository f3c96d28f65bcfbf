
/-! ===== MODEL: the text ===== -/
def pMd (k j : Nat) : Bool := k == 47 && (j == 14 || j == 16 || j == 17)
/-- what the model reads: B, n bytes -/
def mt_ (B : Int → Int) (n : Int) (m : am_M) : Prop := vi_ m 47 15 = n ∧ (vi_ m 47 13 < 0 → ∀ j, 0 ≤ j → j < n → vi_ m 54 j = B j) ∧ (¬ vi_ m 47 13 < 0 → vi_ m 47 13 = 0 ∧ ∀ j, 0 ≤ j → j < n → vi_ m 55 j = B j) ∧ (∀ j, 0 ≤ j → j < n → 0 ≤ B j ∧ B j ≤ 255) ∧ 0 ≤ n ∧ n ≤ 120
theorem mt_sm {B : Int → Int} {n : Int} {m m1 : am_M} (h : sm_ pMd m m1) (k : mt_ B n m) : mt_ B n m1 := by
  have a1 : vi_ m1 47 15 = vi_ m 47 15 := sm_v h rfl
  have a2 : vi_ m1 47 13 = vi_ m 47 13 := sm_v h rfl
  have a3 : vi_ m1 54 = vi_ m 54 := sm_f h (fun _ => rfl)
  have a4 : vi_ m1 55 = vi_ m 55 := sm_f h (fun _ => rfl)
  simp only [mt_, a1, a2, a3, a4]
  exact k
/-- the steps z lay x -/
def ex_ (v : Int → Int) (z : List Int) (x : Int) : Prop := ∀ r st, xq_ v (z ++ r) st = xq_ v r (x :: st)
/-- the steps z make x of a -/
def ey_ (v : Int → Int) (z : List Int) (a x : Int) : Prop := ∀ r st, xq_ v (z ++ r) (a :: st) = xq_ v r (x :: st)
theorem ex_cg {v w : Int → Int} {z : List Int} {x : Int} (h : v = w) (e : ex_ v z x) : ex_ w z x := h ▸ e
theorem ey_cg {v w : Int → Int} {z : List Int} {a x : Int} (h : v = w) (e : ey_ v z a x) : ey_ w z a x := h ▸ e
theorem ex_nam {v : Int → Int} {k x : Int} (h : 0 ≤ k ∧ k < 6) (hx : x = v k) : ex_ v [k] x := by
  intro r st
  show xq_ v (k :: r) st = _
  simp only [xq_]
  rw [if_pos (Or.inr h), hx, ly_, if_neg (by omega)]
theorem ex_num {v : Int → Int} {a x : Int} (h : 0 ≤ a) (hx : x = a) : ex_ v [256 + a] x := by
  intro r st
  show xq_ v ((256 + a) :: r) st = _
  simp only [xq_]
  rw [if_pos (Or.inl (by omega)), hx, ly_, if_pos (by omega), show 256 + a - 256 = a by omega]
theorem ex_trn {v : Int → Int} {z : List Int} {a s x : Int} (h : ex_ v z a) (hs : s = 33 ∨ s = 126) (hx : x = tn_ s a) : ex_ v (z ++ [s]) x := by
  intro r st
  rw [List.append_assoc, h]
  show xq_ v (s :: r) (a :: st) = _
  simp only [xq_]
  rw [if_neg (by omega), if_neg (by omega), if_pos hs, hx]
theorem ey_nil {v : Int → Int} {a : Int} : ey_ v [] a a := fun _ _ => rfl
theorem ey_stp {v : Int → Int} {z z2 : List Int} {a b c y x : Int} (h : ex_ v z b) (hc : 0 ≤ lv_ c ∧ lv_ c ≤ 4) (hy : y = jn_ c a b) (g : ey_ v z2 y x) : ey_ v ((z ++ [c]) ++ z2) a x := by
  intro r st
  have hc2 : ¬ (256 ≤ c ∨ (0 ≤ c ∧ c < 6)) ∧ ¬ c = 59 ∧ ¬ (c = 33 ∨ c = 126) ∧ ¬ c = 63 := by
    have := hc.2
    unfold lv_ at this
    omega
  rw [List.append_assoc, List.append_assoc, h]
  show xq_ v (c :: (z2 ++ r)) (b :: a :: st) = _
  simp only [xq_]
  rw [if_neg hc2.1, if_neg hc2.2.1, if_neg hc2.2.2.1, if_neg hc2.2.2.2, ← hy, g]
theorem ex_lev {v : Int → Int} {z z2 : List Int} {a x : Int} (h : ex_ v z a) (g : ey_ v z2 a x) : ex_ v (z ++ z2) x := by
  intro r st
  rw [List.append_assoc, h, g]

set_option maxHeartbeats 4000000 in
set_option maxRecDepth 20000 in
theorem mt_byte {q : am_X} {d : Nat} {m : am_M} {Q : Option Value → am_M → Prop}  {B : Int → Int} {n p : Int} (p0 : mt_ B n m) (p1 : 0 ≤ p ∧ p ≤ n) (p2 : vi_ m 47 14 = p) (k0 : (p < n) → (0 ≤ B p ∧ B p ≤ 255) → Q (some (.int (ei_ ((B p))))) m) (k1 : (p = n) → Q (some (.int (ei_ (0)))) m) : pw_C q (d + 1) 198 [.ref 47] m Q := by
  have hn1 := p0.1
  have hn4 := p0.2.2.2.2
  have hc0 : ¬ vi_ m 47 13 < 0 → vi_ m 47 13 = 0 := fun h => (p0.2.2.1 h).1
  refine pw_intro (I := iX9_byteAt) (T := tX9_byteAt) rfl rfl rfl ?_
  refine pw_steps 1 (s' := (1, [some (.ref 47)], [.ref 47], m)) rfl ?_
  refine pw_get rfl rfl (fun x1 (hx1 : x1 = vi_ m 47 14) rx1 sx1 => ?_)
  replace hx1 : x1 = p := hx1.trans p2
  subst x1
  refine pw_steps 1 (s' := (5, [some (.ref 47)], [.ref 47, .int (ei_ (p))], m)) rfl ?_
  refine pw_get rfl rfl (fun x2 (hx2 : x2 = vi_ m 47 15) rx2 sx2 => ?_)
  refine pw_cmp rfl ⟨rx1, sx1⟩ ⟨rx2, sx2⟩ (fun (h3 : x2 ≤ p) => ?_) (fun (h3 : ¬ (x2 ≤ p)) => ?_)
  · refine pw_steps 1 (s' := (48, [some (.ref 47)], [.int (ei_ (0))], m)) rfl ?_
    refine pw_iret rfl rfl rfl ?_
    exact k1 (by omega)
  · refine pw_steps 1 (s' := (12, [some (.ref 47)], [.ref 47], m)) rfl ?_
    refine pw_get rfl rfl (fun x4 (hx4 : x4 = vi_ m 47 13) rx4 sx4 => ?_)
    refine pw_if rfl ⟨rx4, sx4⟩ (fun (h5 : 0 ≤ x4) => ?_) (fun (h5 : ¬ (0 ≤ x4)) => ?_)
    · have hc1 := hc0 (by omega)
      refine pw_steps 3 (s' := (35, [some (.ref 47)], [.ref 47, .ref 55], m)) rfl ?_
      refine pw_getE (x := x4) rfl rfl hx4 ?_
      refine pw_steps 1 (s' := (39, [some (.ref 47)], [.ref 47, .int (ei_ (x4)), .ref 55], m)) rfl ?_
      refine pw_get rfl rfl (fun x6 (hx6 : x6 = vi_ m 47 14) rx6 sx6 => ?_)
      replace hx6 : x6 = p := hx6.trans p2
      subst x6
      refine pw_steps 1 (s' := (43, [some (.ref 47)], [.int ((ei_ (x4)) + (ei_ (p))), .ref 55], m)) rfl ?_
      refine pw_cv (congrArg (fun z_ : Int32 => ((43, [some (.ref 47)], [.int z_, .ref 55], m) : am_S)) (ei_add rfl rfl)) ?_
      refine pw_ild rfl rfl (by omega) (fun x7 (hx7 : x7 = vi_ m 55 (x4 + p)) rx7 sx7 => ?_)
      have b8 := (p0.2.2.1 (by omega)).2 (x4 + p) (by omega) (by omega)
      have b8b := p0.2.2.2.1 (x4 + p) (by omega) (by omega)
      have b8c := (p0.2.2.1 (by omega)).1
      rw [show (x4 + p) = p by omega] at b8 b8b hx7
      refine pw_steps 1 (s' := (48, [some (.ref 47)], [.int (ei_ (x7))], m)) rfl ?_
      refine pw_iret rfl rfl rfl ?_
      rw [show x7 = (B p) by omega]
      exact k0 (by omega) (by omega)
    · refine pw_steps 3 (s' := (23, [some (.ref 47)], [.ref 47, .ref 54], m)) rfl ?_
      refine pw_get rfl rfl (fun x9 (hx9 : x9 = vi_ m 47 14) rx9 sx9 => ?_)
      replace hx9 : x9 = p := hx9.trans p2
      subst x9
      refine pw_ild rfl rfl (by omega) (fun x10 (hx10 : x10 = vi_ m 54 p) rx10 sx10 => ?_)
      have b11 := p0.2.1 (by omega) p (by omega) (by omega)
      have b11b := p0.2.2.2.1 p (by omega) (by omega)
      refine pw_steps 1 (s' := (48, [some (.ref 47)], [.int (ei_ (x10))], m)) rfl ?_
      refine pw_iret rfl rfl rfl ?_
      rw [show x10 = (B p) by omega]
      exact k0 (by omega) (by omega)

set_option maxHeartbeats 4000000 in
set_option maxRecDepth 20000 in
theorem mt_takes {q : am_X} {d : Nat} {m : am_M} {Q : Option Value → am_M → Prop} {c : Int} {B : Int → Int} {n p : Int} (p0 : mt_ B n m) (p1 : 0 ≤ p ∧ p ≤ n) (p2 : vi_ m 47 14 = p) (p3 : vi_ m 47 16 = (-1)) (p4 : 1 ≤ c ∧ c ≤ 255) (k0 : (p < n) → (B p = c) → Q (some (.int (ei_ (1)))) (wi_ m 47 (14) ((p + 1)))) (k1 : (¬ (p < n ∧ B p = c)) → Q (some (.int (ei_ (0)))) m) : pw_C q (d + 2) 200 [.ref 47, .int (ei_ (c))] m Q := by
  have hn1 := p0.1
  have hn4 := p0.2.2.2.2
  refine pw_intro (I := iX9_takes) (T := tX9_takes) rfl rfl rfl ?_
  refine pw_steps 1 (s' := (1, [some (.ref 47), some (.int (ei_ (c)))], [.ref 47], m)) rfl ?_
  refine pw_get rfl rfl (fun x1 (hx1 : x1 = vi_ m 47 16) rx1 sx1 => ?_)
  replace hx1 : x1 = (-1) := hx1.trans p3
  subst x1
  refine pw_ifF rfl (by decide) (show ¬ (0 ≤ (-1)) by decide) ?_
  refine pw_steps 1 (s' := (8, [some (.ref 47), some (.int (ei_ (c)))], [.ref 47], m)) rfl ?_
  refine pw_call (As := []) (st := []) (k := 47) rfl rfl rfl rfl rfl (Nat.le_of_ble_eq_true rfl) ?_
  refine mt_byte (p := p) (p0) (p1) (p2) (fun g2 g3 => ?_) (fun g4 => ?_)
  · refine pw_steps 1 (s' := (12, [some (.ref 47), some (.int (ei_ (c)))], [.int (ei_ (c)), .int (ei_ ((B p)))], m)) rfl ?_
    refine pw_cmp rfl (by omega) (by omega) (fun (h5 : (B p) = c) => ?_) (fun (h5 : ¬ ((B p) = c)) => ?_)
    · refine pw_steps 2 (s' := (19, [some (.ref 47), some (.int (ei_ (c)))], [.ref 47, .ref 47], m)) rfl ?_
      refine pw_get rfl rfl (fun x6 (hx6 : x6 = vi_ m 47 14) rx6 sx6 => ?_)
      replace hx6 : x6 = p := hx6.trans p2
      subst x6
      refine pw_steps 2 (s' := (24, [some (.ref 47), some (.int (ei_ (c)))], [.int ((ei_ (p)) + (ei_ (1))), .ref 47], m)) rfl ?_
      refine pw_cv (congrArg (fun z_ : Int32 => ((24, [some (.ref 47), some (.int (ei_ (c)))], [.int z_, .ref 47], m) : am_S)) (ei_add rfl rfl)) ?_
      refine pw_put (v := (p + 1)) rfl rfl (Or.inl rfl) ?_
      refine pw_cv (s' := (27, [some (.ref 47), some (.int (ei_ (c)))], [], wi_ m 47 (14) ((p + 1)))) rfl ?_
      refine pw_steps 1 (s' := (28, [some (.ref 47), some (.int (ei_ (c)))], [.int (ei_ (1))], wi_ m 47 (14) ((p + 1)))) rfl ?_
      refine pw_iret rfl rfl rfl ?_
      exact k0 (by omega) (by omega)
    · refine pw_steps 1 (s' := (16, [some (.ref 47), some (.int (ei_ (c)))], [.int (ei_ (0))], m)) rfl ?_
      refine pw_iret rfl rfl rfl ?_
      exact k1 (by omega)
  · refine pw_steps 1 (s' := (12, [some (.ref 47), some (.int (ei_ (c)))], [.int (ei_ (c)), .int (ei_ (0))], m)) rfl ?_
    refine pw_cmpF rfl (by decide) (by omega) (show ¬ (0 = c) by omega) ?_
    refine pw_steps 1 (s' := (16, [some (.ref 47), some (.int (ei_ (c)))], [.int (ei_ (0))], m)) rfl ?_
    refine pw_iret rfl rfl rfl ?_
    exact k1 (by omega)

set_option maxHeartbeats 4000000 in
set_option maxRecDepth 20000 in
theorem mt_takeF {q : am_X} {d : Nat} {m : am_M} {Q : Option Value → am_M → Prop} {c : Int} {e : Int} (p0 : vi_ m 47 16 = e) (p1 : 0 ≤ e) (k0 : Q (some (.int (ei_ (0)))) m) : pw_C q (d + 2) 200 [.ref 47, .int (ei_ (c))] m Q := by
  refine pw_intro (I := iX9_takes) (T := tX9_takes) rfl rfl rfl ?_
  refine pw_steps 1 (s' := (1, [some (.ref 47), some (.int (ei_ (c)))], [.ref 47], m)) rfl ?_
  refine pw_get rfl rfl (fun x1 (hx1 : x1 = vi_ m 47 16) rx1 sx1 => ?_)
  replace hx1 : x1 = e := hx1.trans p0
  subst x1
  refine pw_ifT rfl ⟨rx1, sx1⟩ (show 0 ≤ e by omega) ?_
  refine pw_steps 1 (s' := (16, [some (.ref 47), some (.int (ei_ (c)))], [.int (ei_ (0))], m)) rfl ?_
  refine pw_iret rfl rfl rfl ?_
  exact k0 

set_option maxHeartbeats 4000000 in
set_option maxRecDepth 20000 in
theorem mt_nameOf {q : am_X} {d : Nat} {m : am_M} {Q : Option Value → am_M → Prop} {s : Int}  (p0 : -2147483648 ≤ s ∧ s < 2147483648) (k0 : ∀ (x : Int), (x = kn_ s) → (-1 ≤ x ∧ x ≤ 5) → Q (some (.int (ei_ (x)))) m) : pw_C q (d + 1) 201 [.int (ei_ (s))] m Q := by
  refine pw_intro (I := iX9_nameOf) (T := tX9_nameOf) rfl rfl rfl ?_
  refine pw_steps 1 (s' := (1, [some (.int (ei_ (s)))], [.int (ei_ (s))], m)) rfl ?_
  rcases (show s = 99 ∨ s = 100 ∨ s = 101 ∨ s = 102 ∨ s = 103 ∨ s = 104 ∨ s = 105 ∨ s = 106 ∨ s = 107 ∨ s = 108 ∨ s = 109 ∨ s = 110 ∨ s = 111 ∨ s = 112 ∨ s = 113 ∨ s = 114 ∨ s = 115 ∨ s < 99 ∨ 115 < s by omega) with h1 | h1 | h1 | h1 | h1 | h1 | h1 | h1 | h1 | h1 | h1 | h1 | h1 | h1 | h1 | h1 | h1 | h1 | h1
  · refine pw_tab 0 90 rfl p0 (by omega) (by omega) rfl ?_
    refine pw_steps 1 (s' := (91, [some (.int (ei_ (s)))], [.int (ei_ (3))], m)) rfl ?_
    refine pw_iret rfl rfl rfl ?_
    exact k0 3 (by first | (unfold kn_; omega) | decide) (by first | (unfold kn_; omega) | decide)
  · refine pw_tab 1 96 rfl p0 (by omega) (by omega) rfl ?_
    refine pw_steps 1 (s' := (97, [some (.int (ei_ (s)))], [.int (ei_ ((-1)))], m)) rfl ?_
    refine pw_iret rfl rfl rfl ?_
    exact k0 (-1) (by first | (unfold kn_; omega) | decide) (by first | (unfold kn_; omega) | decide)
  · refine pw_tab 2 96 rfl p0 (by omega) (by omega) rfl ?_
    refine pw_steps 1 (s' := (97, [some (.int (ei_ (s)))], [.int (ei_ ((-1)))], m)) rfl ?_
    refine pw_iret rfl rfl rfl ?_
    exact k0 (-1) (by first | (unfold kn_; omega) | decide) (by first | (unfold kn_; omega) | decide)
  · refine pw_tab 3 92 rfl p0 (by omega) (by omega) rfl ?_
    refine pw_steps 1 (s' := (93, [some (.int (ei_ (s)))], [.int (ei_ (4))], m)) rfl ?_
    refine pw_iret rfl rfl rfl ?_
    exact k0 4 (by first | (unfold kn_; omega) | decide) (by first | (unfold kn_; omega) | decide)
  · refine pw_tab 4 94 rfl p0 (by omega) (by omega) rfl ?_
    refine pw_steps 1 (s' := (95, [some (.int (ei_ (s)))], [.int (ei_ (5))], m)) rfl ?_
    refine pw_iret rfl rfl rfl ?_
    exact k0 5 (by first | (unfold kn_; omega) | decide) (by first | (unfold kn_; omega) | decide)
  · refine pw_tab 5 96 rfl p0 (by omega) (by omega) rfl ?_
    refine pw_steps 1 (s' := (97, [some (.int (ei_ (s)))], [.int (ei_ ((-1)))], m)) rfl ?_
    refine pw_iret rfl rfl rfl ?_
    exact k0 (-1) (by first | (unfold kn_; omega) | decide) (by first | (unfold kn_; omega) | decide)
  · refine pw_tab 6 96 rfl p0 (by omega) (by omega) rfl ?_
    refine pw_steps 1 (s' := (97, [some (.int (ei_ (s)))], [.int (ei_ ((-1)))], m)) rfl ?_
    refine pw_iret rfl rfl rfl ?_
    exact k0 (-1) (by first | (unfold kn_; omega) | decide) (by first | (unfold kn_; omega) | decide)
  · refine pw_tab 7 96 rfl p0 (by omega) (by omega) rfl ?_
    refine pw_steps 1 (s' := (97, [some (.int (ei_ (s)))], [.int (ei_ ((-1)))], m)) rfl ?_
    refine pw_iret rfl rfl rfl ?_
    exact k0 (-1) (by first | (unfold kn_; omega) | decide) (by first | (unfold kn_; omega) | decide)
  · refine pw_tab 8 96 rfl p0 (by omega) (by omega) rfl ?_
    refine pw_steps 1 (s' := (97, [some (.int (ei_ (s)))], [.int (ei_ ((-1)))], m)) rfl ?_
    refine pw_iret rfl rfl rfl ?_
    exact k0 (-1) (by first | (unfold kn_; omega) | decide) (by first | (unfold kn_; omega) | decide)
  · refine pw_tab 9 96 rfl p0 (by omega) (by omega) rfl ?_
    refine pw_steps 1 (s' := (97, [some (.int (ei_ (s)))], [.int (ei_ ((-1)))], m)) rfl ?_
    refine pw_iret rfl rfl rfl ?_
    exact k0 (-1) (by first | (unfold kn_; omega) | decide) (by first | (unfold kn_; omega) | decide)
  · refine pw_tab 10 96 rfl p0 (by omega) (by omega) rfl ?_
    refine pw_steps 1 (s' := (97, [some (.int (ei_ (s)))], [.int (ei_ ((-1)))], m)) rfl ?_
    refine pw_iret rfl rfl rfl ?_
    exact k0 (-1) (by first | (unfold kn_; omega) | decide) (by first | (unfold kn_; omega) | decide)
  · refine pw_tab 11 88 rfl p0 (by omega) (by omega) rfl ?_
    refine pw_steps 1 (s' := (89, [some (.int (ei_ (s)))], [.int (ei_ (2))], m)) rfl ?_
    refine pw_iret rfl rfl rfl ?_
    exact k0 2 (by first | (unfold kn_; omega) | decide) (by first | (unfold kn_; omega) | decide)
  · refine pw_tab 12 86 rfl p0 (by omega) (by omega) rfl ?_
    refine pw_steps 1 (s' := (87, [some (.int (ei_ (s)))], [.int (ei_ (1))], m)) rfl ?_
    refine pw_iret rfl rfl rfl ?_
    exact k0 1 (by first | (unfold kn_; omega) | decide) (by first | (unfold kn_; omega) | decide)
  · refine pw_tab 13 96 rfl p0 (by omega) (by omega) rfl ?_
    refine pw_steps 1 (s' := (97, [some (.int (ei_ (s)))], [.int (ei_ ((-1)))], m)) rfl ?_
    refine pw_iret rfl rfl rfl ?_
    exact k0 (-1) (by first | (unfold kn_; omega) | decide) (by first | (unfold kn_; omega) | decide)
  · refine pw_tab 14 96 rfl p0 (by omega) (by omega) rfl ?_
    refine pw_steps 1 (s' := (97, [some (.int (ei_ (s)))], [.int (ei_ ((-1)))], m)) rfl ?_
    refine pw_iret rfl rfl rfl ?_
    exact k0 (-1) (by first | (unfold kn_; omega) | decide) (by first | (unfold kn_; omega) | decide)
  · refine pw_tab 15 96 rfl p0 (by omega) (by omega) rfl ?_
    refine pw_steps 1 (s' := (97, [some (.int (ei_ (s)))], [.int (ei_ ((-1)))], m)) rfl ?_
    refine pw_iret rfl rfl rfl ?_
    exact k0 (-1) (by first | (unfold kn_; omega) | decide) (by first | (unfold kn_; omega) | decide)
  · refine pw_tab 16 84 rfl p0 (by omega) (by omega) rfl ?_
    refine pw_steps 1 (s' := (85, [some (.int (ei_ (s)))], [.int (ei_ (0))], m)) rfl ?_
    refine pw_iret rfl rfl rfl ?_
    exact k0 0 (by first | (unfold kn_; omega) | decide) (by first | (unfold kn_; omega) | decide)
  · refine pw_tabD rfl p0 (by omega) ?_
    refine pw_steps 1 (s' := (97, [some (.int (ei_ (s)))], [.int (ei_ ((-1)))], m)) rfl ?_
    refine pw_iret rfl rfl rfl ?_
    exact k0 (-1) (by first | (unfold kn_; omega) | decide) (by first | (unfold kn_; omega) | decide)
  · refine pw_tabD rfl p0 (by omega) ?_
    refine pw_steps 1 (s' := (97, [some (.int (ei_ (s)))], [.int (ei_ ((-1)))], m)) rfl ?_
    refine pw_iret rfl rfl rfl ?_
    exact k0 (-1) (by first | (unfold kn_; omega) | decide) (by first | (unfold kn_; omega) | decide)

