
/-! ===== THE TEXT, read purely: (1 if it is one, the place behind it or of the fault, its steps) ===== -/
def lv_ (s : Int) : Int := if s = 124 then 0 else if s = 38 then 1 else if s = 60 ∨ s = 61 ∨ s = 62 then 2 else if s = 43 ∨ s = 45 then 3 else if s = 42 ∨ s = 47 ∨ s = 37 then 4 else 5
def kn_ (s : Int) : Int := if s = 115 then 0 else if s = 111 then 1 else if s = 110 then 2 else if s = 99 then 3 else if s = 102 then 4 else if s = 103 then 5 else -1
/-- digits from p on, at most k more -/
def dg_ (B : Int → Int) (n : Int) : Nat → Int → Int → Int × Int
  | 0, p, a => (p, a)
  | k + 1, p, a => if p < n ∧ 48 ≤ B p ∧ B p ≤ 57 then dg_ B n k (p + 1) (a * 10 + B p - 48) else (p, a)
def pj_ (R : Int × Int × List Int) (k : Int → Int × Int × List Int) : Int × Int × List Int := if R.1 = 1 then ((k R.2.1).1, (k R.2.1).2.1, R.2.2 ++ (k R.2.1).2.2) else (0, R.2.1, [])
def po_ (c : Int) (R : Int × Int × List Int) : Int × Int × List Int := (R.1, R.2.1, R.2.2 ++ [c])
def pi_ (B : Int → Int) (n : Int) (R : Int × Int × List Int) : Int × Int × List Int := if R.1 = 1 ∧ R.2.1 < n ∧ B R.2.1 = 41 then (1, R.2.1 + 1, R.2.2) else (0, R.2.1, [])
def pu_ (c : Int) (R : Int × Int × List Int) : Int × Int × List Int := if R.1 = 1 then (1, R.2.1, R.2.2 ++ [if c = 33 then 33 else 126]) else (0, R.2.1, [])
/-- level L 0 .. 4, one (5), the rest of level L - 10 (10 .. 14) -/
def ps_ (B : Int → Int) (n : Int) : Nat → Int → Int → Int → Int × Int × List Int
  | 0, _, _, p => (0, p, [])
  | f + 1, L, o, p =>
    if L = 5 then
      (if p < n ∧ 48 ≤ B p ∧ B p ≤ 57 then (1, (dg_ B n 4 p 0).1, [256 + (dg_ B n 4 p 0).2])
      else if p < n ∧ 0 ≤ kn_ (B p) then (1, p + 1, [kn_ (B p)])
      else if 6 ≤ o ∨ ¬ (p < n ∧ (B p = 40 ∨ B p = 33 ∨ B p = 45)) then (0, p, [])
      else if B p = 40 then pi_ B n (ps_ B n f 0 (o + 1) (p + 1))
      else pu_ (B p) (ps_ B n f 5 (o + 1) (p + 1)))
    else if L < 5 then pj_ (ps_ B n f (L + 1) o p) (fun p' => ps_ B n f (10 + L) o p')
    else if p < n ∧ lv_ (B p) = L - 10 then pj_ (po_ (B p) (ps_ B n f (L - 9) o (p + 1))) (fun p' => if L = 12 then (1, p', []) else ps_ B n f L o p')
    else (1, p, [])
/-- (good, behind or fault, steps): within bounds -/
def pb_ (n p : Int) (R : Int × Int × List Int) : Prop := (R.1 = 0 ∨ R.1 = 1) ∧ p ≤ R.2.1 ∧ R.2.1 ≤ n ∧ (R.2.2.length : Int) ≤ R.2.1 - p
theorem dg_b {B : Int → Int} {n : Int} : ∀ (k : Nat) (p a : Int), p ≤ n → p ≤ (dg_ B n k p a).1 ∧ (dg_ B n k p a).1 ≤ n := by
  intro k
  induction k with
  | zero => intro p a h; exact ⟨Int.le_refl _, h⟩
  | succ k ih =>
    intro p a h
    simp only [dg_]
    split
    · have := ih (p + 1) (a * 10 + B p - 48) (by omega); omega
    · exact ⟨Int.le_refl _, h⟩
theorem pj_b {n p : Int} {R : Int × Int × List Int} {k : Int → Int × Int × List Int} (h : pb_ n p R) (hk : ∀ p', p ≤ p' → p' ≤ n → pb_ n p' (k p')) : pb_ n p (pj_ R k) := by
  obtain ⟨h1, h2, h3, h4⟩ := h
  unfold pj_
  split
  · have g := hk R.2.1 h2 h3
    obtain ⟨g1, g2, g3, g4⟩ := g
    refine ⟨g1, ?_, g3, ?_⟩
    · show p ≤ (k R.2.1).2.1; omega
    · show ((R.2.2 ++ (k R.2.1).2.2).length : Int) ≤ (k R.2.1).2.1 - p
      rw [List.length_append]; omega
  · refine ⟨Or.inl rfl, h2, h3, ?_⟩
    show (([] : List Int).length : Int) ≤ R.2.1 - p
    simp; omega
theorem pb_mk {n p g p' : Int} {z : List Int} (h1 : g = 0 ∨ g = 1) (h2 : p ≤ p') (h3 : p' ≤ n) (h4 : (z.length : Int) ≤ p' - p) : pb_ n p (g, p', z) := ⟨h1, h2, h3, h4⟩
theorem ps_b {B : Int → Int} {n : Int} : ∀ (f : Nat) (L o p : Int), p ≤ n → pb_ n p (ps_ B n f L o p) := by
  intro f
  induction f with
  | zero => intro L o p h; exact pb_mk (Or.inl rfl) (Int.le_refl _) h (by simp only [List.length_append, List.length_singleton, List.length_nil]; omega)
  | succ f ih =>
    intro L o p h
    simp only [ps_]
    by_cases h5 : L = 5
    · rw [if_pos h5]
      by_cases c1 : p < n ∧ 48 ≤ B p ∧ B p ≤ 57
      · rw [if_pos c1]
        have e : dg_ B n 4 p 0 = dg_ B n 3 (p + 1) (0 * 10 + B p - 48) := by
          show (if p < n ∧ 48 ≤ B p ∧ B p ≤ 57 then _ else _) = _
          rw [if_pos c1]
        have := dg_b (B := B) (n := n) 3 (p + 1) (0 * 10 + B p - 48) (by omega)
        rw [e]
        exact pb_mk (Or.inr rfl) (by omega) this.2 (by simp only [List.length_append, List.length_singleton, List.length_nil]; omega)
      · rw [if_neg c1]
        by_cases c2 : p < n ∧ 0 ≤ kn_ (B p)
        · rw [if_pos c2]
          exact pb_mk (Or.inr rfl) (by omega) (by omega) (by simp only [List.length_append, List.length_singleton, List.length_nil]; omega)
        · rw [if_neg c2]
          by_cases c3 : 6 ≤ o ∨ ¬ (p < n ∧ (B p = 40 ∨ B p = 33 ∨ B p = 45))
          · rw [if_pos c3]
            exact pb_mk (Or.inl rfl) (Int.le_refl _) h (by simp only [List.length_append, List.length_singleton, List.length_nil]; omega)
          · rw [if_neg c3]
            have hp : p + 1 ≤ n := by omega
            by_cases c4 : B p = 40
            · rw [if_pos c4]
              obtain ⟨g1, g2, g3, g4⟩ := ih 0 (o + 1) (p + 1) hp
              unfold pi_
              split
              · exact pb_mk (Or.inr rfl) (by omega) (by omega) (by omega)
              · exact pb_mk (Or.inl rfl) (by omega) g3 (by simp only [List.length_append, List.length_singleton, List.length_nil]; omega)
            · rw [if_neg c4]
              obtain ⟨g1, g2, g3, g4⟩ := ih 5 (o + 1) (p + 1) hp
              unfold pu_
              split
              · exact pb_mk (Or.inr rfl) (by omega) g3 (by simp only [List.length_append, List.length_singleton, List.length_nil]; omega)
              · exact pb_mk (Or.inl rfl) (by omega) g3 (by simp only [List.length_append, List.length_singleton, List.length_nil]; omega)
    · rw [if_neg h5]
      by_cases h4 : L < 5
      · rw [if_pos h4]
        exact pj_b (ih _ _ _ h) (fun p' _ h2 => ih _ _ _ h2)
      · rw [if_neg h4]
        by_cases c1 : p < n ∧ lv_ (B p) = L - 10
        · rw [if_pos c1]
          refine pj_b ?_ ?_
          · obtain ⟨g1, g2, g3, g4⟩ := ih (L - 9) o (p + 1) (by omega)
            exact pb_mk g1 (by omega) g3 (by simp only [List.length_append, List.length_singleton, List.length_nil]; omega)
          · intro p' _ h2
            show pb_ n p' (if L = 12 then (1, p', []) else ps_ B n f L o p')
            split
            · exact pb_mk (Or.inr rfl) (Int.le_refl _) h2 (by simp only [List.length_append, List.length_singleton, List.length_nil]; omega)
            · exact ih _ _ _ h2
        · rw [if_neg c1]
          exact pb_mk (Or.inr rfl) (Int.le_refl _) h (by simp only [List.length_append, List.length_singleton, List.length_nil]; omega)
/-! ===== CLASS: Tape ===== -/
def pTp (k j : Nat) : Bool := k == 13 || (k == 11 && (j == 2 || j == 4))
/-- the tape holds B, n bytes -/
def tp_ (B : Int → Int) (n : Int) (m : am_M) : Prop := vi_ m 11 1 = n ∧ (∀ j, 0 ≤ j → j < n → vi_ m 12 j = B j) ∧ (∀ j, 0 ≤ j → j < n → 0 ≤ B j ∧ B j ≤ 255) ∧ 0 ≤ n ∧ n ≤ 120
theorem tp_sm {B : Int → Int} {n : Int} {m m1 : am_M} (h : sm_ pTp m m1) (k : tp_ B n m) : tp_ B n m1 := by
  have a1 : vi_ m1 11 1 = vi_ m 11 1 := sm_v h rfl
  have a2 : vi_ m1 12 = vi_ m 12 := sm_f h (fun _ => rfl)
  simp only [tp_, a1, a2]
  exact k
/-- steps z written behind w others -/
def wz_ (m m1 : am_M) (w : Int) (z : List Int) : Prop := vi_ m1 11 4 = w + z.length ∧ (∀ i, 0 ≤ i → i < w → vi_ m1 13 i = vi_ m 13 i) ∧ dr_ (vi_ m1 13) w z.length = z
theorem wz_nil {m m1 : am_M} {w : Int} (h : vi_ m1 11 4 = w) (e : vi_ m1 13 = vi_ m 13) : wz_ m m1 w [] := ⟨by simp [h], fun i _ _ => by rw [e], rfl⟩
theorem wz_one {m m1 : am_M} {w c : Int} (h : vi_ m1 11 4 = w + 1) (e : ∀ i, 0 ≤ i → i < w → vi_ m1 13 i = vi_ m 13 i) (g : vi_ m1 13 w = c) : wz_ m m1 w [c] := ⟨by simp [h], e, by simp [dr_, g]⟩
theorem wz_app {m m1 m2 : am_M} {w w1 : Int} {z z' : List Int} (hw : 0 ≤ w) (h : wz_ m m1 w z) (hw1 : w1 = w + z.length) (g : wz_ m1 m2 w1 z') : wz_ m m2 w (z ++ z') := by
  subst hw1
  obtain ⟨h1, h2, h3⟩ := h
  obtain ⟨g1, g2, g3⟩ := g
  refine ⟨by rw [g1, List.length_append]; omega, fun i a b => (g2 i a (by omega)).trans (h2 i a b), ?_⟩
  rw [List.length_append, dr_app, g3]
  refine congrArg (· ++ z') ?_
  rw [dr_cg z.length w (fun j a b => g2 j (by omega) (by omega)), h3]

set_option maxHeartbeats 4000000 in
set_option maxRecDepth 20000 in
theorem ct_next {q : am_X} {d : Nat} {m : am_M} {Q : Option Value → am_M → Prop}  {B : Int → Int} {n p : Int} (p0 : tp_ B n m) (p1 : 0 ≤ p ∧ p ≤ n) (p2 : vi_ m 11 2 = p) (k0 : (p < n) → (0 ≤ B p ∧ B p ≤ 255) → Q (some (.int (ei_ ((B p))))) m) (k1 : (p = n) → Q (some (.int (ei_ ((-1))))) m) : pw_C q (d + 1) 33 [.ref 11] m Q := by
  have hn1 := p0.1
  have hn4 := p0.2.2.2
  refine pw_intro (I := iX6_next) (T := tX6_next) rfl rfl rfl ?_
  refine pw_steps 1 (s' := (1, [some (.ref 11)], [.ref 11], m)) rfl ?_
  refine pw_get rfl rfl (fun x1 (hx1 : x1 = vi_ m 11 2) rx1 sx1 => ?_)
  replace hx1 : x1 = p := hx1.trans p2
  subst x1
  refine pw_ifF rfl ⟨rx1, sx1⟩ (show ¬ (p < 0) by omega) ?_
  refine pw_steps 1 (s' := (8, [some (.ref 11)], [.ref 11], m)) rfl ?_
  refine pw_get rfl rfl (fun x2 (hx2 : x2 = vi_ m 11 2) rx2 sx2 => ?_)
  replace hx2 : x2 = p := hx2.trans p2
  subst x2
  refine pw_steps 1 (s' := (12, [some (.ref 11)], [.ref 11, .int (ei_ (p))], m)) rfl ?_
  refine pw_get rfl rfl (fun x3 (hx3 : x3 = vi_ m 11 1) rx3 sx3 => ?_)
  refine pw_cmp rfl ⟨rx1, sx1⟩ ⟨rx3, sx3⟩ (fun (h4 : x3 ≤ p) => ?_) (fun (h4 : ¬ (x3 ≤ p)) => ?_)
  · refine pw_steps 1 (s' := (31, [some (.ref 11)], [.int (ei_ ((-1)))], m)) rfl ?_
    refine pw_iret rfl rfl rfl ?_
    exact k1 (by omega)
  · refine pw_steps 3 (s' := (23, [some (.ref 11)], [.ref 11, .ref 12], m)) rfl ?_
    refine pw_get rfl rfl (fun x5 (hx5 : x5 = vi_ m 11 2) rx5 sx5 => ?_)
    replace hx5 : x5 = p := hx5.trans p2
    subst x5
    refine pw_ild rfl rfl (by omega) (fun x6 (hx6 : x6 = vi_ m 12 p) rx6 sx6 => ?_)
    have b7 := p0.2.1 p (by omega) (by omega)
    have H_b := p0.2.2.1 p (by omega) (by omega)
    refine pw_steps 1 (s' := (31, [some (.ref 11)], [.int (ei_ (x6))], m)) rfl ?_
    refine pw_iret rfl rfl rfl ?_
    rw [show x6 = (B p) by omega]
    exact k0 (by omega) (by omega)

set_option maxHeartbeats 4000000 in
set_option maxRecDepth 20000 in
theorem ct_levelOf {q : am_X} {d : Nat} {m : am_M} {Q : Option Value → am_M → Prop} {s : Int}  (p0 : -2147483648 ≤ s ∧ s < 2147483648) (k0 : ∀ (x : Int), (x = lv_ s) → (0 ≤ x ∧ x ≤ 5) → Q (some (.int (ei_ (x)))) m) : pw_C q (d + 1) 40 [.int (ei_ (s))] m Q := by
  refine pw_intro (I := iX6_levelOf) (T := tX6_levelOf) rfl rfl rfl ?_
  refine pw_steps 1 (s' := (1, [some (.int (ei_ (s)))], [.int (ei_ (s))], m)) rfl ?_
  rcases (show s = 37 ∨ s = 38 ∨ s = 42 ∨ s = 43 ∨ s = 45 ∨ s = 47 ∨ s = 60 ∨ s = 61 ∨ s = 62 ∨ s = 124 ∨ (¬ s = 37 ∧ ¬ s = 38 ∧ ¬ s = 42 ∧ ¬ s = 43 ∧ ¬ s = 45 ∧ ¬ s = 47 ∧ ¬ s = 60 ∧ ¬ s = 61 ∧ ¬ s = 62 ∧ ¬ s = 124) by omega) with h1 | h1 | h1 | h1 | h1 | h1 | h1 | h1 | h1 | h1 | h1
  · refine pw_look (t := 100) rfl p0 (by rw [h1]; rfl) ?_
    refine pw_steps 1 (s' := (101, [some (.int (ei_ (s)))], [.int (ei_ (4))], m)) rfl ?_
    refine pw_iret rfl rfl rfl ?_
    exact k0 4 (by first | (unfold lv_; omega) | decide) (by first | (unfold lv_; omega) | decide)
  · refine pw_look (t := 94) rfl p0 (by rw [h1]; rfl) ?_
    refine pw_steps 1 (s' := (95, [some (.int (ei_ (s)))], [.int (ei_ (1))], m)) rfl ?_
    refine pw_iret rfl rfl rfl ?_
    exact k0 1 (by first | (unfold lv_; omega) | decide) (by first | (unfold lv_; omega) | decide)
  · refine pw_look (t := 100) rfl p0 (by rw [h1]; rfl) ?_
    refine pw_steps 1 (s' := (101, [some (.int (ei_ (s)))], [.int (ei_ (4))], m)) rfl ?_
    refine pw_iret rfl rfl rfl ?_
    exact k0 4 (by first | (unfold lv_; omega) | decide) (by first | (unfold lv_; omega) | decide)
  · refine pw_look (t := 98) rfl p0 (by rw [h1]; rfl) ?_
    refine pw_steps 1 (s' := (99, [some (.int (ei_ (s)))], [.int (ei_ (3))], m)) rfl ?_
    refine pw_iret rfl rfl rfl ?_
    exact k0 3 (by first | (unfold lv_; omega) | decide) (by first | (unfold lv_; omega) | decide)
  · refine pw_look (t := 98) rfl p0 (by rw [h1]; rfl) ?_
    refine pw_steps 1 (s' := (99, [some (.int (ei_ (s)))], [.int (ei_ (3))], m)) rfl ?_
    refine pw_iret rfl rfl rfl ?_
    exact k0 3 (by first | (unfold lv_; omega) | decide) (by first | (unfold lv_; omega) | decide)
  · refine pw_look (t := 100) rfl p0 (by rw [h1]; rfl) ?_
    refine pw_steps 1 (s' := (101, [some (.int (ei_ (s)))], [.int (ei_ (4))], m)) rfl ?_
    refine pw_iret rfl rfl rfl ?_
    exact k0 4 (by first | (unfold lv_; omega) | decide) (by first | (unfold lv_; omega) | decide)
  · refine pw_look (t := 96) rfl p0 (by rw [h1]; rfl) ?_
    refine pw_steps 1 (s' := (97, [some (.int (ei_ (s)))], [.int (ei_ (2))], m)) rfl ?_
    refine pw_iret rfl rfl rfl ?_
    exact k0 2 (by first | (unfold lv_; omega) | decide) (by first | (unfold lv_; omega) | decide)
  · refine pw_look (t := 96) rfl p0 (by rw [h1]; rfl) ?_
    refine pw_steps 1 (s' := (97, [some (.int (ei_ (s)))], [.int (ei_ (2))], m)) rfl ?_
    refine pw_iret rfl rfl rfl ?_
    exact k0 2 (by first | (unfold lv_; omega) | decide) (by first | (unfold lv_; omega) | decide)
  · refine pw_look (t := 96) rfl p0 (by rw [h1]; rfl) ?_
    refine pw_steps 1 (s' := (97, [some (.int (ei_ (s)))], [.int (ei_ (2))], m)) rfl ?_
    refine pw_iret rfl rfl rfl ?_
    exact k0 2 (by first | (unfold lv_; omega) | decide) (by first | (unfold lv_; omega) | decide)
  · refine pw_look (t := 92) rfl p0 (by rw [h1]; rfl) ?_
    refine pw_steps 1 (s' := (93, [some (.int (ei_ (s)))], [.int (ei_ (0))], m)) rfl ?_
    refine pw_iret rfl rfl rfl ?_
    exact k0 0 (by first | (unfold lv_; omega) | decide) (by first | (unfold lv_; omega) | decide)
  · refine pw_look (t := 102) rfl p0 (by simp only [am_lk, List.drop, List.headD, h1, if_false]) ?_
    refine pw_steps 1 (s' := (103, [some (.int (ei_ (s)))], [.int (ei_ (5))], m)) rfl ?_
    refine pw_iret rfl rfl rfl ?_
    exact k0 5 (by first | (unfold lv_; omega) | decide) (by first | (unfold lv_; omega) | decide)

set_option maxHeartbeats 4000000 in
set_option maxRecDepth 20000 in
theorem ct_called {q : am_X} {d : Nat} {m : am_M} {Q : Option Value → am_M → Prop} {s : Int}  (p0 : -2147483648 ≤ s ∧ s < 2147483648) (k0 : ∀ (x : Int), (x = kn_ s) → (-1 ≤ x ∧ x ≤ 5) → Q (some (.int (ei_ (x)))) m) : pw_C q (d + 1) 37 [.int (ei_ (s))] m Q := by
  refine pw_intro (I := iX4_valueCalled) (T := tX4_valueCalled) rfl rfl rfl ?_
  refine pw_steps 1 (s' := (1, [some (.int (ei_ (s)))], [.int (ei_ (s))], m)) rfl ?_
  rcases (show s = 99 ∨ s = 100 ∨ s = 101 ∨ s = 102 ∨ s = 103 ∨ s = 104 ∨ s = 105 ∨ s = 106 ∨ s = 107 ∨ s = 108 ∨ s = 109 ∨ s = 110 ∨ s = 111 ∨ s = 112 ∨ s = 113 ∨ s = 114 ∨ s = 115 ∨ s < 99 ∨ 115 < s by omega) with h1 | h1 | h1 | h1 | h1 | h1 | h1 | h1 | h1 | h1 | h1 | h1 | h1 | h1 | h1 | h1 | h1 | h1 | h1
  · refine pw_tab 0 90 rfl p0 (by omega) (by omega) rfl ?_
    refine pw_steps 1 (s' := (91, [some (.int (ei_ (s)))], [.int (ei_ (3))], m)) rfl ?_
    refine pw_iret rfl rfl rfl ?_
    exact k0 3 (by first | (unfold kn_; omega) | decide) (by first | (unfold kn_; omega) | decide)
  · refine pw_tab 1 96 rfl p0 (by omega) (by omega) rfl ?_
    refine pw_steps 1 (s' := (97, [some (.int (ei_ (s)))], [.int (ei_ ((-1)))], m)) rfl ?_
    refine pw_iret rfl rfl rfl ?_
    exact k0 (-1) (by first | (unfold kn_; omega) | decide) (by first | (unfold kn_; omega) | decide)
  · refine pw_tab 2 96 rfl p0 (by omega) (by omega) rfl ?_
    refine pw_steps 1 (s' := (97, [some (.int (ei_ (s)))], [.int (ei_ ((-1)))], m)) rfl ?_
    refine pw_iret rfl rfl rfl ?_
    exact k0 (-1) (by first | (unfold kn_; omega) | decide) (by first | (unfold kn_; omega) | decide)
  · refine pw_tab 3 92 rfl p0 (by omega) (by omega) rfl ?_
    refine pw_steps 1 (s' := (93, [some (.int (ei_ (s)))], [.int (ei_ (4))], m)) rfl ?_
    refine pw_iret rfl rfl rfl ?_
    exact k0 4 (by first | (unfold kn_; omega) | decide) (by first | (unfold kn_; omega) | decide)
  · refine pw_tab 4 94 rfl p0 (by omega) (by omega) rfl ?_
    refine pw_steps 1 (s' := (95, [some (.int (ei_ (s)))], [.int (ei_ (5))], m)) rfl ?_
    refine pw_iret rfl rfl rfl ?_
    exact k0 5 (by first | (unfold kn_; omega) | decide) (by first | (unfold kn_; omega) | decide)
  · refine pw_tab 5 96 rfl p0 (by omega) (by omega) rfl ?_
    refine pw_steps 1 (s' := (97, [some (.int (ei_ (s)))], [.int (ei_ ((-1)))], m)) rfl ?_
    refine pw_iret rfl rfl rfl ?_
    exact k0 (-1) (by first | (unfold kn_; omega) | decide) (by first | (unfold kn_; omega) | decide)
  · refine pw_tab 6 96 rfl p0 (by omega) (by omega) rfl ?_
    refine pw_steps 1 (s' := (97, [some (.int (ei_ (s)))], [.int (ei_ ((-1)))], m)) rfl ?_
    refine pw_iret rfl rfl rfl ?_
    exact k0 (-1) (by first | (unfold kn_; omega) | decide) (by first | (unfold kn_; omega) | decide)
  · refine pw_tab 7 96 rfl p0 (by omega) (by omega) rfl ?_
    refine pw_steps 1 (s' := (97, [some (.int (ei_ (s)))], [.int (ei_ ((-1)))], m)) rfl ?_
    refine pw_iret rfl rfl rfl ?_
    exact k0 (-1) (by first | (unfold kn_; omega) | decide) (by first | (unfold kn_; omega) | decide)
  · refine pw_tab 8 96 rfl p0 (by omega) (by omega) rfl ?_
    refine pw_steps 1 (s' := (97, [some (.int (ei_ (s)))], [.int (ei_ ((-1)))], m)) rfl ?_
    refine pw_iret rfl rfl rfl ?_
    exact k0 (-1) (by first | (unfold kn_; omega) | decide) (by first | (unfold kn_; omega) | decide)
  · refine pw_tab 9 96 rfl p0 (by omega) (by omega) rfl ?_
    refine pw_steps 1 (s' := (97, [some (.int (ei_ (s)))], [.int (ei_ ((-1)))], m)) rfl ?_
    refine pw_iret rfl rfl rfl ?_
    exact k0 (-1) (by first | (unfold kn_; omega) | decide) (by first | (unfold kn_; omega) | decide)
  · refine pw_tab 10 96 rfl p0 (by omega) (by omega) rfl ?_
    refine pw_steps 1 (s' := (97, [some (.int (ei_ (s)))], [.int (ei_ ((-1)))], m)) rfl ?_
    refine pw_iret rfl rfl rfl ?_
    exact k0 (-1) (by first | (unfold kn_; omega) | decide) (by first | (unfold kn_; omega) | decide)
  · refine pw_tab 11 88 rfl p0 (by omega) (by omega) rfl ?_
    refine pw_steps 1 (s' := (89, [some (.int (ei_ (s)))], [.int (ei_ (2))], m)) rfl ?_
    refine pw_iret rfl rfl rfl ?_
    exact k0 2 (by first | (unfold kn_; omega) | decide) (by first | (unfold kn_; omega) | decide)
  · refine pw_tab 12 86 rfl p0 (by omega) (by omega) rfl ?_
    refine pw_steps 1 (s' := (87, [some (.int (ei_ (s)))], [.int (ei_ (1))], m)) rfl ?_
    refine pw_iret rfl rfl rfl ?_
    exact k0 1 (by first | (unfold kn_; omega) | decide) (by first | (unfold kn_; omega) | decide)
  · refine pw_tab 13 96 rfl p0 (by omega) (by omega) rfl ?_
    refine pw_steps 1 (s' := (97, [some (.int (ei_ (s)))], [.int (ei_ ((-1)))], m)) rfl ?_
    refine pw_iret rfl rfl rfl ?_
    exact k0 (-1) (by first | (unfold kn_; omega) | decide) (by first | (unfold kn_; omega) | decide)
  · refine pw_tab 14 96 rfl p0 (by omega) (by omega) rfl ?_
    refine pw_steps 1 (s' := (97, [some (.int (ei_ (s)))], [.int (ei_ ((-1)))], m)) rfl ?_
    refine pw_iret rfl rfl rfl ?_
    exact k0 (-1) (by first | (unfold kn_; omega) | decide) (by first | (unfold kn_; omega) | decide)
  · refine pw_tab 15 96 rfl p0 (by omega) (by omega) rfl ?_
    refine pw_steps 1 (s' := (97, [some (.int (ei_ (s)))], [.int (ei_ ((-1)))], m)) rfl ?_
    refine pw_iret rfl rfl rfl ?_
    exact k0 (-1) (by first | (unfold kn_; omega) | decide) (by first | (unfold kn_; omega) | decide)
  · refine pw_tab 16 84 rfl p0 (by omega) (by omega) rfl ?_
    refine pw_steps 1 (s' := (85, [some (.int (ei_ (s)))], [.int (ei_ (0))], m)) rfl ?_
    refine pw_iret rfl rfl rfl ?_
    exact k0 0 (by first | (unfold kn_; omega) | decide) (by first | (unfold kn_; omega) | decide)
  · refine pw_tabD rfl p0 (by omega) ?_
    refine pw_steps 1 (s' := (97, [some (.int (ei_ (s)))], [.int (ei_ ((-1)))], m)) rfl ?_
    refine pw_iret rfl rfl rfl ?_
    exact k0 (-1) (by first | (unfold kn_; omega) | decide) (by first | (unfold kn_; omega) | decide)
  · refine pw_tabD rfl p0 (by omega) ?_
    refine pw_steps 1 (s' := (97, [some (.int (ei_ (s)))], [.int (ei_ ((-1)))], m)) rfl ?_
    refine pw_iret rfl rfl rfl ?_
    exact k0 (-1) (by first | (unfold kn_; omega) | decide) (by first | (unfold kn_; omega) | decide)


def pWr (k j : Nat) : Bool := k == 13 || (k == 11 && j == 4)
theorem pWr_Tp : ∀ k j, pTp k j = false → pWr k j = false := by
  intro k j h
  simp only [pTp, pWr, Bool.or_eq_false_iff, Bool.and_eq_false_iff] at h ⊢
  exact ⟨h.1, h.2.imp id (fun g => g.2)⟩
theorem tp_wr {B : Int → Int} {n : Int} {m m1 : am_M} (h : sm_ pWr m m1) (k : tp_ B n m) : tp_ B n m1 := tp_sm (sm_le h pWr_Tp) k
theorem wz_w {m : am_M} {w s : Int} (hw : 0 ≤ w ∧ w < 128) (rs : -2147483648 ≤ s ∧ s < 2147483648) : wz_ m (wi_ (wi_ m 13 w s) 11 4 (w + 1)) w [s] := by
  refine wz_one (vi_eq (by omega)) (fun i a b => ?_) ?_
  · rw [vi_ne (by decide), vi_up rs hw.1 a, if_neg (by omega)]
  · rw [vi_ne (by decide), vi_eq rs]

set_option maxHeartbeats 4000000 in
set_option maxRecDepth 20000 in
theorem ct_write {q : am_X} {d : Nat} {m : am_M} {Q : Option Value → am_M → Prop} {s : Int} {w : Int} (p0 : -2147483648 ≤ s ∧ s < 2147483648) (p1 : vi_ m 11 4 = w) (p2 : 0 ≤ w) (k0 : ∀ (m1 : am_M), (sm_ pWr m m1) → (0 ≤ vi_ m1 11 4) → (w < 128 → wz_ m m1 w [s]) → Q none m1) : pw_C q (d + 1) 36 [.ref 11, .int (ei_ (s))] m Q := by
  refine pw_intro (I := iX6_write) (T := tX6_write) rfl rfl rfl ?_
  refine pw_steps 1 (s' := (1, [some (.ref 11), some (.int (ei_ (s)))], [.ref 11], m)) rfl ?_
  refine pw_get rfl rfl (fun x1 (hx1 : x1 = vi_ m 11 4) rx1 sx1 => ?_)
  replace hx1 : x1 = w := hx1.trans p1
  subst x1
  refine pw_steps 3 (s' := (9, [some (.ref 11), some (.int (ei_ (s)))], [.int (ei_ (128)), .int (ei_ (w))], m)) rfl ?_
  refine pw_cmp rfl ⟨rx1, sx1⟩ (by decide) (fun (h2 : 128 ≤ w) => ?_) (fun (h2 : ¬ (128 ≤ w)) => ?_)
  · refine pw_vret rfl rfl ?_
    exact k0 m ((sm_rfl m)) (by omega) (by intro hh; omega)
  · refine pw_steps 3 (s' := (17, [some (.ref 11), some (.int (ei_ (s)))], [.ref 11, .ref 13], m)) rfl ?_
    refine pw_get rfl rfl (fun x3 (hx3 : x3 = vi_ m 11 4) rx3 sx3 => ?_)
    replace hx3 : x3 = w := hx3.trans p1
    subst x3
    refine pw_steps 1 (s' := (21, [some (.ref 11), some (.int (ei_ (s)))], [.int (ei_ (s)), .int (ei_ (w)), .ref 13], m)) rfl ?_
    refine pw_ist rfl rfl (by omega) ?_
    refine pw_steps 2 (s' := (24, [some (.ref 11), some (.int (ei_ (s)))], [.ref 11, .ref 11], wi_ m 13 (w) (s))) rfl ?_
    refine pw_get rfl rfl (fun x4 (hx4 : x4 = vi_ m 11 4) rx4 sx4 => ?_)
    replace hx4 : x4 = w := hx4.trans p1
    subst x4
    refine pw_steps 2 (s' := (29, [some (.ref 11), some (.int (ei_ (s)))], [.int ((ei_ (w)) + (ei_ (1))), .ref 11], wi_ m 13 (w) (s))) rfl ?_
    refine pw_cv (congrArg (fun z_ : Int32 => ((29, [some (.ref 11), some (.int (ei_ (s)))], [.int z_, .ref 11], wi_ m 13 (w) (s)) : am_S)) (ei_add rfl rfl)) ?_
    refine pw_put (v := (w + 1)) rfl rfl (Or.inl rfl) ?_
    refine pw_cv (s' := (32, [some (.ref 11), some (.int (ei_ (s)))], [], wi_ (wi_ m 13 (w) (s)) 11 (4) ((w + 1)))) rfl ?_
    refine pw_vret rfl rfl ?_
    exact k0 (wi_ (wi_ m 13 (w) (s)) 11 (4) ((w + 1))) ((sm_w (sm_w (sm_rfl m) (fun _ h_ => by rw [h_]; rfl)) (fun _ h_ => by rw [h_]; rfl))) (by rw [vi_eq (by omega)]; omega) (by intro hh; exact wz_w (by omega) p0)

