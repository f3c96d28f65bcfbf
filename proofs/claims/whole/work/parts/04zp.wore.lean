
/-! ===== wore ===== -/
def tf_ (m : am_M) (a j w r k : Int) : Int := if vl_ m (sf_ a + 1) (3 * k + 1) = j ∧ ¬ (vl_ m (sf_ a + 1) (3 * k + 2) = w ∧ lf_ (vi_ m 5 j) r (vl_ m (sf_ a + 1) (3 * k)) ≠ 0) then 1 else 0
def n3_ (m : am_M) (a : Int) : Int := (vi_ m (sf_ a) 2 + 2) / 3
def t3n_ (m : am_M) (a j w r : Int) : Int := su_ (tf_ m a j w r) (n3_ m a).toNat
def cS_ (m : am_M) (a j o w : Int) : Int := t3n_ m a j o (rt_ m o j w (vi_ m 2 32))
def sg3_ (m : am_M) (a : Int) : Prop := (0 ≤ a ∧ a < 6) ∧ (0 ≤ vi_ m (sf_ a) 2 ∧ vi_ m (sf_ a) 2 ≤ 60) ∧ (∀ j, 0 ≤ j → j < vi_ m (sf_ a) 2 → -128 ≤ vl_ m (sf_ a + 1) j ∧ vl_ m (sf_ a + 1) j ≤ 127)
def al3_ (m : am_M) (a : Int) : Prop := ∀ j, 0 ≤ j → 3 * j < vi_ m (sf_ a) 2 → ok3_ m a (3 * j)
theorem tf_b (m : am_M) (a j w r k : Int) : 0 ≤ tf_ m a j w r k ∧ tf_ m a j w r k ≤ 1 := by
  unfold tf_
  by_cases c : vl_ m (sf_ a + 1) (3 * k + 1) = j ∧ ¬ (vl_ m (sf_ a + 1) (3 * k + 2) = w ∧ lf_ (vi_ m 5 j) r (vl_ m (sf_ a + 1) (3 * k)) ≠ 0)
  · rw [if_pos c]; decide
  · rw [if_neg c]; decide
theorem t3n_b {m : am_M} {a : Int} (h : sg3_ m a) (j w r : Int) : 0 ≤ t3n_ m a j w r ∧ t3n_ m a j w r ≤ 111000 := by
  have hs := h.2.1
  have t := su_b (f := tf_ m a j w r) (M := 1) (n3_ m a).toNat (fun k _ _ => tf_b m a j w r k)
  unfold t3n_
  have e : n3_ m a ≤ 21 := by unfold n3_; omega
  omega
theorem su_nn {f : Int → Int} : ∀ n : Nat, (∀ j, 0 ≤ j → j < (n : Int) → 0 ≤ f j) → (su_ f n = 0 ↔ ∀ j, 0 ≤ j → j < (n : Int) → f j = 0) ∧ 0 ≤ su_ f n := by
  intro n
  induction n with
  | zero => intro _; exact ⟨⟨fun _ j a b => by omega, fun _ => rfl⟩, Int.le_refl _⟩
  | succ n ih =>
    intro h
    obtain ⟨h1, h2⟩ := ih (fun j a b => h j a (by omega))
    have h3 := h n (by omega) (by omega)
    simp only [su_]
    refine ⟨⟨fun e j a b => ?_, fun g => ?_⟩, by omega⟩
    · by_cases c : j = n
      · rw [c]; omega
      · exact h1.1 (by omega) j a (by omega)
    · have g1 := h1.2 (fun j a b => g j a (by omega))
      have g2 := g n (by omega) (by omega)
      omega
def okw_ (m : am_M) (a c p : Int) : Prop := ok3_ m a p ∧ so3_ m a p (wy_ (vi_ m 1 1) c (vl_ m (sf_ a + 1) (p + 1))) (rt_ m (wy_ (vi_ m 1 1) c (vl_ m (sf_ a + 1) (p + 1))) (vl_ m (sf_ a + 1) (p + 1)) (cn_ (wy_ (vi_ m 1 1) c) (wy_ (vi_ m 1 1) c (vl_ m (sf_ a + 1) (p + 1))) (vi_ m 1 1).toNat) (vi_ m 2 32))
def sat_ (m : am_M) (a c : Int) : Prop := fk_ m c ∧ ∀ j, 0 ≤ j → 3 * j < vi_ m (sf_ a) 2 → okw_ m a c (3 * j)
def coS_ (m : am_M) (a c : Int) : Int := su_ (fun j => cS_ m a j (wy_ (vi_ m 1 1) c j) (cn_ (wy_ (vi_ m 1 1) c) (wy_ (vi_ m 1 1) c j) (vi_ m 1 1).toNat)) (vi_ m 1 1).toNat
theorem coS_z {m : am_M} (hp : rP_ m) {a c : Int} (h : sg3_ m a) (h3 : al3_ m a) : coS_ m a c = 0 ↔ ∀ j, 0 ≤ j → 3 * j < vi_ m (sf_ a) 2 → okw_ m a c (3 * j) := by
  have hP := hp.1
  have hz := h.2.1
  unfold coS_
  rw [(su_nn (vi_ m 1 1).toNat (fun j _ _ => by exact (t3n_b h j _ _).1)).1]
  constructor
  · intro g j a1 a2
    have o := h3 j a1 a2
    refine ⟨o, ?_⟩
    obtain ⟨o1, o2, o3⟩ := o
    have t := g (vl_ m (sf_ a + 1) (3 * j + 1)) o3.1 (by omega)
    have t2 : t3n_ m a (vl_ m (sf_ a + 1) (3 * j + 1)) (wy_ (vi_ m 1 1) c (vl_ m (sf_ a + 1) (3 * j + 1))) (rt_ m (wy_ (vi_ m 1 1) c (vl_ m (sf_ a + 1) (3 * j + 1))) (vl_ m (sf_ a + 1) (3 * j + 1)) (cn_ (wy_ (vi_ m 1 1) c) (wy_ (vi_ m 1 1) c (vl_ m (sf_ a + 1) (3 * j + 1))) (vi_ m 1 1).toNat) (vi_ m 2 32)) = 0 := t
    unfold t3n_ at t2
    have t3 := (su_nn (n3_ m a).toNat (fun k _ _ => (tf_b m a _ _ _ k).1)).1.1 t2 j a1 (by unfold n3_; omega)
    unfold tf_ at t3
    by_cases q : vl_ m (sf_ a + 1) (3 * j + 2) = wy_ (vi_ m 1 1) c (vl_ m (sf_ a + 1) (3 * j + 1)) ∧ lf_ (vi_ m 5 (vl_ m (sf_ a + 1) (3 * j + 1))) (rt_ m (wy_ (vi_ m 1 1) c (vl_ m (sf_ a + 1) (3 * j + 1))) (vl_ m (sf_ a + 1) (3 * j + 1)) (cn_ (wy_ (vi_ m 1 1) c) (wy_ (vi_ m 1 1) c (vl_ m (sf_ a + 1) (3 * j + 1))) (vi_ m 1 1).toNat) (vi_ m 2 32)) (vl_ m (sf_ a + 1) (3 * j)) ≠ 0
    · exact q
    · rw [if_pos ⟨rfl, q⟩] at t3; exact absurd t3 (by decide)
  · intro g j a1 a2
    show t3n_ m a j _ _ = 0
    unfold t3n_
    refine (su_nn (n3_ m a).toNat (fun k _ _ => (tf_b m a _ _ _ k).1)).1.2 (fun k k1 k2 => ?_)
    unfold tf_
    rw [if_neg]
    rintro ⟨q1, q2⟩
    have o := (g k k1 (by unfold n3_ at k2; omega)).2
    unfold so3_ at o
    rw [q1] at o
    exact q2 o
theorem sat_n {m : am_M} {a c : Int} (h : ¬ al3_ m a) : ¬ sat_ m a c := fun g => h (fun j a b => (g.2 j a b).1)
/-- how many of the first k are so, and the first of them -/
def wc_ (sat : Int → Prop) : Nat → Int → Int → Prop
  | 0, n, x => n = 0 ∧ x = -1
  | k + 1, n, x => (sat k ∧ ∃ y, wc_ sat k (n - 1) y ∧ x = if n - 1 = 0 then (k : Int) else y) ∨ (¬ sat k ∧ wc_ sat k n x)
theorem wc_u {sat : Int → Prop} : ∀ (k : Nat) (n x n2 x2 : Int), wc_ sat k n x → wc_ sat k n2 x2 → n2 = n ∧ x2 = x := by
  intro k
  induction k with
  | zero => rintro n x n2 x2 ⟨h1, h2⟩ ⟨g1, g2⟩; omega
  | succ k ih =>
    rintro n x n2 x2 (⟨h1, y, h2, h3⟩ | ⟨h1, h2⟩) (⟨g1, z, g2, g3⟩ | ⟨g1, g2⟩)
    · have t := ih _ _ _ _ h2 g2
      have e : n2 = n := by omega
      subst e
      exact ⟨rfl, by rw [h3, g3, t.2]⟩
    · exact absurd h1 g1
    · exact absurd g1 h1
    · exact ih _ _ _ _ h2 g2
theorem wc_y {sat : Int → Prop} {k n x : Int} (hk : 0 ≤ k) (h : wc_ sat k.toNat n x) (hs : sat k) : wc_ sat (k + 1).toNat (n + 1) (if n = 0 then k else x) := by
  rw [show (k + 1).toNat = k.toNat + 1 by omega]
  refine Or.inl ⟨by rw [Int.toNat_of_nonneg hk]; exact hs, x, ?_, ?_⟩
  · rw [show n + 1 - 1 = n by omega]; exact h
  · rw [show n + 1 - 1 = n by omega, Int.toNat_of_nonneg hk]
theorem wc_n {sat : Int → Prop} {k n x : Int} (hk : 0 ≤ k) (h : wc_ sat k.toNat n x) (hs : ¬ sat k) : wc_ sat (k + 1).toNat n x := by
  rw [show (k + 1).toNat = k.toNat + 1 by omega]
  exact Or.inr ⟨by rw [Int.toNat_of_nonneg hk]; exact hs, h⟩
theorem wc_none {sat : Int → Prop} (h : ∀ c, ¬ sat c) : ∀ k : Nat, wc_ sat k 0 (-1) := by
  intro k
  induction k with
  | zero => exact ⟨rfl, rfl⟩
  | succ k ih => exact Or.inr ⟨h _, ih⟩
def swx_ (m : am_M) (a b r : Int) : Prop := ∃ f y, wc_ (sat_ m a) (tt_ m).toNat f y ∧ ((b = -1 ∧ r = f) ∨ (0 ≤ b ∧ f = 0 ∧ r = -2) ∨ (0 ≤ b ∧ f ≠ 0 ∧ r = wy_ (vi_ m 1 1) y b))
theorem swx_i {m : am_M} {a b r : Int} (f y : Int) (h : wc_ (sat_ m a) (tt_ m).toNat f y) (g : (b = -1 ∧ r = f) ∨ (0 ≤ b ∧ f = 0 ∧ r = -2) ∨ (0 ≤ b ∧ f ≠ 0 ∧ r = wy_ (vi_ m 1 1) y b)) : swx_ m a b r := ⟨f, y, h, g⟩
theorem swx_u {m : am_M} {a b r s : Int} (h : swx_ m a b r) (g : swx_ m a b s) : s = r := by
  obtain ⟨f, y, h5, h6⟩ := h
  obtain ⟨f2, y2, g5, g6⟩ := g
  obtain ⟨e1, e2⟩ := wc_u _ _ _ _ _ h5 g5
  subst e1
  subst e2
  rcases h6 with h6 | h6 | ⟨h6, h7, h8⟩ <;> rcases g6 with g6 | g6 | ⟨g6, g7, g8⟩
  · omega
  · omega
  · omega
  · omega
  · omega
  · omega
  · omega
  · omega
  · rw [h8, g8]
def swo_ (m : am_M) (a b r : Int) : Prop := ((b ≠ -1 ∧ ¬ (0 ≤ b ∧ b < vi_ m 1 1)) ∧ r = -1) ∨ ((b = -1 ∨ (0 ≤ b ∧ b < vi_ m 1 1)) ∧ ((¬ (0 ≤ a ∧ a < 6) ∧ r = -1) ∨ ((0 ≤ a ∧ a < 6) ∧ ((vi_ m (sf_ a) 0 = -1 ∧ r = -11) ∨ (vi_ m (sf_ a) 0 ≠ -1 ∧ vi_ m (sf_ a) 0 ≠ 0 ∧ r = -12) ∨ (vi_ m (sf_ a) 0 = 0 ∧ ((5 < vi_ m 1 1 ∧ r = -5) ∨ (vi_ m 1 1 ≤ 5 ∧ swx_ m a b r)))))))
theorem swo_u {m : am_M} {a b r s : Int} (h : swo_ m a b r) (g : swo_ m a b s) : s = r := by
  rcases h with ⟨h1, h2⟩ | ⟨h1, h⟩
  · rcases g with ⟨g1, g2⟩ | ⟨g1, g⟩ <;> omega
  rcases g with ⟨g1, g2⟩ | ⟨g1, g⟩
  · omega
  rcases h with ⟨h2, h3⟩ | ⟨h2, h⟩
  · rcases g with ⟨g2, g3⟩ | ⟨g2, g⟩
    · omega
    · exact absurd g2 h2
  rcases g with ⟨g2, g3⟩ | ⟨g2, g⟩
  · exact absurd h2 g2
  rcases h with h | h | ⟨h3, h⟩ <;> rcases g with g | g | ⟨g3, g⟩
  · omega
  · omega
  · omega
  · omega
  · omega
  · omega
  · omega
  · omega
  rcases h with h | ⟨h4, h5⟩ <;> rcases g with g | ⟨g4, g5⟩
  · omega
  · omega
  · omega
  · exact swx_u h5 g5
theorem kd_of {m : am_M} (hs : rS_ m) (h50 : vi_ m 29 2 ≤ 50) (a : Int) : ¬ (0 ≤ a ∧ a < 6) ∨ ((vi_ m (sf_ a) 0 = -1 ∧ vi_ m 68 a = -1) ∨ (vi_ m (sf_ a) 0 = -2 ∧ 0 ≤ vi_ m 68 a ∧ vi_ m 68 a < 50) ∨ (0 ≤ vi_ m (sf_ a) 0 ∧ vi_ m 68 a = 50 + vi_ m (sf_ a) 0)) := by
  by_cases c : 0 ≤ a ∧ a < 6
  · right
    obtain ⟨t1, t2, t3⟩ := hs a c.1 c.2
    rcases t3 with t3 | t3 | t3
    · exact Or.inl ⟨t3.1, t3.2.1⟩
    · exact Or.inr (Or.inl ⟨t3.1, by omega, by omega⟩)
    · exact Or.inr (Or.inr ⟨t3.1, t3.2.2.1⟩)
  · exact Or.inl c
theorem sg_of {m : am_M} (hs : rS_ m) {a : Int} (h : 0 ≤ a ∧ a < 6) (k : vi_ m (sf_ a) 0 = 0) : sg3_ m a := by
  obtain ⟨t1, t2, t3⟩ := hs a h.1 h.2
  refine ⟨h, t2, fun j a b => ?_⟩
  rcases t3 with t3 | t3 | t3
  · omega
  · omega
  · exact (t3.2.2.2 j a b).2 k
theorem mo_okw {m M : am_M} (hp : rP_ m) (hd : rD_ m) (hS : rS_ m) (hs : sm_ pSw m M) {a c p : Int} (h : 0 ≤ a ∧ a < 6) (hk : vi_ m (sf_ a) 0 = 0) (h52 : ∀ j, 0 ≤ j → j < vi_ m 1 1 → vi_ M 52 j = wy_ (vi_ m 1 1) c j) (g : 0 ≤ p) : mo_ M a p ↔ okw_ m a c p := by
  obtain ⟨t1, t2, t3⟩ := hS a h.1 h.2
  have t4 : ∀ j, 0 ≤ j → j < vi_ m (sf_ a) 2 → vl_ m 70 (60 * a + j) = vl_ m (sf_ a + 1) j := by
    intro j j1 j2
    rcases t3 with t3 | t3 | t3
    · omega
    · omega
    · exact (t3.2.2.2 j j1 j2).1
  unfold mo_ okw_ ok3_ so3_
  rw [sm_v hs (k := 69) (j := a) rfl, sm_l hs, sm_v hs (k := 1) (j := 1) rfl, t1]
  by_cases cc : p + 3 ≤ vi_ m (sf_ a) 2
  · rw [show 60 * a + p + 1 = 60 * a + (p + 1) by omega, show 60 * a + p + 2 = 60 * a + (p + 2) by omega, t4 p g (by omega), t4 (p + 1) (by omega) (by omega), t4 (p + 2) (by omega) (by omega)]
    by_cases c2 : 0 ≤ vl_ m (sf_ a + 1) (p + 1) ∧ vl_ m (sf_ a + 1) (p + 1) < vi_ m 1 1
    · rw [lW_of hp hd hs h52 c2, h52 _ c2.1 c2.2]
      constructor
      · rintro ⟨a1, a2, a3, a4, a5⟩; exact ⟨⟨cc, a2, a3⟩, a4, a5⟩
      · rintro ⟨⟨a1, a2, a3⟩, a4, a5⟩; exact ⟨by omega, a2, a3, a4, a5⟩
    · constructor
      · rintro ⟨a1, a2, a3, a4, a5⟩; exact absurd a3 c2
      · rintro ⟨⟨a1, a2, a3⟩, a4, a5⟩; exact absurd a3 c2
  · constructor
    · rintro ⟨a1, a2, a3, a4, a5⟩; exact absurd (by omega) cc
    · rintro ⟨⟨a1, a2, a3⟩, a4, a5⟩; exact absurd a1 cc
theorem ff_sat {m M : am_M} (hp : rP_ m) (hd : rD_ m) (hS : rS_ m) (hs : sm_ pSw m M) {a c x : Int} (h : 0 ≤ a ∧ a < 6) (hk : vi_ m (sf_ a) 0 = 0) (h52 : ∀ j, 0 ≤ j → j < vi_ m 1 1 → vi_ M 52 j = wy_ (vi_ m 1 1) c j) (hf : fk_ m c) (g : ff_ (mo_ M a) (vi_ M 69 a) x) : (x = -2 → sat_ m a c) ∧ (x ≠ -2 → ¬ sat_ m a c) := by
  have e : vi_ M 69 a = vi_ m (sf_ a) 2 := (sm_v hs (k := 69) (j := a) rfl).trans (hS a h.1 h.2).1
  rw [e] at g
  constructor
  · intro e2
    refine ⟨hf, fun j a1 a2 => ?_⟩
    rcases g with g | ⟨g1, g2⟩
    · omega
    · exact (mo_okw hp hd hS hs h hk h52 (by omega)).1 (g2 j a1 a2)
  · intro e2 q
    rcases g with ⟨g1, g2, g3, g4⟩ | g
    · exact g3 ((mo_okw hp hd hS hs h hk h52 (by omega)).2 (q.2 x g1 g2))
    · exact e2 g.1
theorem sb_sm {m M : am_M} (hs : sm_ pSw m M) {a : Int} (g : sb_ m a) : sb_ M a := by
  unfold sb_ at g ⊢
  rw [sm_v hs (k := 69) (j := a) rfl, sm_l hs]
  exact g

theorem pW_a {A B : Bool} {k j : Nat} (h : (A || B) = false) : A = false := by
  simp only [Bool.or_eq_false_iff] at h; exact h.1
def pW58 (k j : Nat) : Bool := pN58 k j || (k == 47 && j == 22)
def pW52 (k j : Nat) : Bool := pN52 k j || (k == 47 && j == 22)
def pW59 (k j : Nat) : Bool := pN59 k j || (k == 47 && j == 22)
theorem pC52_W58 : ∀ k j, pW58 k j = false → pC52 k j = false := fun k j h => pC52_N58 k j (pW_a (k := k) (j := j) h)
theorem pC59_W58 : ∀ k j, pW58 k j = false → pC59 k j = false := fun k j h => pC59_N58 k j (pW_a (k := k) (j := j) h)
theorem pGo_W58 : ∀ k j, pW58 k j = false → pGo k j = false := fun k j h => pGo_N58 k j (pW_a (k := k) (j := j) h)
theorem pC59_W52 : ∀ k j, pW52 k j = false → pC59 k j = false := fun k j h => pC59_N52 k j (pW_a (k := k) (j := j) h)
theorem pGo_W52 : ∀ k j, pW52 k j = false → pGo k j = false := fun k j h => pGo_N52 k j (pW_a (k := k) (j := j) h)
theorem pC52_W59 : ∀ k j, pW59 k j = false → pC52 k j = false := fun k j h => pC52_N59 k j (pW_a (k := k) (j := j) h)
theorem pGo_W59 : ∀ k j, pW59 k j = false → pGo k j = false := fun k j h => pGo_N59 k j (pW_a (k := k) (j := j) h)
set_option maxHeartbeats 4000000 in
set_option maxRecDepth 20000 in
theorem cw_notSo {q : am_X} {d : Nat} {m : am_M} {Q : Option Value → am_M → Prop} {m0 : am_M} {name : Int} {w : Int} {r : Int} {a : Int} (p0 : rP_ m0) (p1 : rF_ m0) (p2 : sm_ pSc m0 m) (p3 : sg3_ m0 a) (p4 : al3_ m0 a) (p5 : 0 ≤ name ∧ name < vi_ m0 1 1) (p6 : 0 ≤ r ∧ r ≤ 99) (p7 : -2147483648 ≤ w ∧ w < 2147483648) (k0 : ∀ (x : Int), (x = t3n_ m0 a name w r) → (0 ≤ x ∧ x ≤ 60) → Q (some (.int (ei_ (x)))) m) : pw_C q (d + 6) 72 [.ref 0, .ref ((sf_ a)), .int (ei_ (name)), .int (ei_ (w)), .int (ei_ (r))] m Q := by
  obtain ⟨hP1, hP2, hP3, hP4⟩ := id p0
  obtain ⟨hsa, hsz, hsg⟩ := id p3
  refine pw_intro (I := iX8_threesNotSo) (T := tX8_threesNotSo) rfl rfl rfl ?_
  refine pw_steps 4 (s' := (6, [some (.ref 0), some (.ref ((sf_ a))), some (.int (ei_ (name))), some (.int (ei_ (w))), some (.int (ei_ (r))), some (.int (ei_ (0))), some (.int (ei_ (0)))], [], m)) rfl ?_
  have L3 : ∀ (n1 : Nat) (s : Int) (p : Int) (k : Int), (vi_ m0 (sf_ a) 2 - p).toNat = n1 → (0 ≤ k ∧ p = 3 * k ∧ p ≤ vi_ m0 (sf_ a) 2 + 2 ∧ 0 ≤ s ∧ s ≤ k) → (p = 3 * k) → (s = su_ (tf_ m0 a name w r) k.toNat) → pw_V q (d + 5) iX8_threesNotSo.2.2.2.1 tX8_threesNotSo Q (6, [some (.ref 0), some (.ref ((sf_ a))), some (.int (ei_ (name))), some (.int (ei_ (w))), some (.int (ei_ (r))), some (.int (ei_ (s))), some (.int (ei_ (p)))], [], m) := by
    intro n1
    induction n1 using Nat.strongRecOn with
    | _ n1 ih2 =>
      intro s p k hm_n1 hkp hpk hv
      refine pw_steps 2 (s' := (9, [some (.ref 0), some (.ref ((sf_ a))), some (.int (ei_ (name))), some (.int (ei_ (w))), some (.int (ei_ (r))), some (.int (ei_ (s))), some (.int (ei_ (p)))], [.ref ((sf_ a)), .int (ei_ (p))], m)) rfl ?_
      refine pw_call (As := []) (st := [.int (ei_ (p))]) (k := (sf_ a)) rfl rfl rfl (sf_sk (by omega)) rfl (Nat.le_of_ble_eq_true rfl) ?_
      refine pw_intro (I := iX5_size) (T := tX5_size) rfl rfl rfl ?_
      refine pw_steps 1 (s' := (1, [some (.ref ((sf_ a)))], [.ref ((sf_ a))], m)) rfl ?_
      refine pw_get rfl (sf_ok (a := a) (by omega)).2.2.1 (fun x4 (hx4 : x4 = vi_ m (sf_ a) 2) rx4 sx4 => ?_)
      have ox4 := hx4
      replace hx4 : x4 = vi_ m0 (sf_ a) 2 := hx4.trans (sm_v p2 (pSc_sf (by omega) _))
      refine pw_iret rfl rfl rfl ?_
      refine pw_cmp rfl (by omega) ⟨rx4, sx4⟩ (fun (h5 : x4 ≤ p) => ?_) (fun (h5 : ¬ (x4 ≤ p)) => ?_)
      · refine pw_steps 1 (s' := (51, [some (.ref 0), some (.ref ((sf_ a))), some (.int (ei_ (name))), some (.int (ei_ (w))), some (.int (ei_ (r))), some (.int (ei_ (s))), some (.int (ei_ (p)))], [.int (ei_ (s))], m)) rfl ?_
        refine pw_iret rfl rfl rfl ?_
        exact k0 s (by unfold t3n_; rw [show n3_ m0 a = k by unfold n3_; omega]; exact hv) (by omega)
      · have h3_ := p4 k (by omega) (by omega)
        rw [← hpk] at h3_
        obtain ⟨h31_, h32_, h33_⟩ := h3_
        refine pw_steps 4 (s' := (20, [some (.ref 0), some (.ref ((sf_ a))), some (.int (ei_ (name))), some (.int (ei_ (w))), some (.int (ei_ (r))), some (.int (ei_ (s))), some (.int (ei_ (p)))], [.int ((ei_ (p)) + (ei_ (1))), .ref ((sf_ a))], m)) rfl ?_
        refine pw_cv (congrArg (fun z_ : Int32 => ((20, [some (.ref 0), some (.ref ((sf_ a))), some (.int (ei_ (name))), some (.int (ei_ (w))), some (.int (ei_ (r))), some (.int (ei_ (s))), some (.int (ei_ (p)))], [.int z_, .ref ((sf_ a))], m) : am_S)) (ei_add rfl rfl)) ?_
        refine pw_call (As := [.int (ei_ ((p + 1)))]) (st := []) (k := (sf_ a)) rfl rfl rfl (sf_sk (by omega)) rfl (Nat.le_of_ble_eq_true rfl) ?_
        refine pw_intro (I := iX5_number) (T := tX5_number) rfl rfl rfl ?_
        refine pw_steps 3 (s' := (3, [some (.ref ((sf_ a))), some (.int (ei_ ((p + 1))))], [.int (ei_ (1)), .int (ei_ ((p + 1))), .ref ((sf_ a))], m)) rfl ?_
        refine pw_call (As := [.int (ei_ ((p + 1))), .int (ei_ (1))]) (st := []) (k := (sf_ a)) rfl rfl rfl (sf_sk (by omega)) rfl (Nat.le_of_ble_eq_true rfl) ?_
        refine pw_intro (I := iX5_hasPlaces) (T := tX5_hasPlaces) rfl rfl rfl ?_
        refine pw_steps 1 (s' := (1, [some (.ref ((sf_ a))), some (.int (ei_ ((p + 1)))), some (.int (ei_ (1)))], [.int (ei_ ((p + 1)))], m)) rfl ?_
        refine pw_ifF rfl (by omega) (show ¬ ((p + 1) < 0) by omega) ?_
        refine pw_steps 1 (s' := (5, [some (.ref ((sf_ a))), some (.int (ei_ ((p + 1)))), some (.int (ei_ (1)))], [.int (ei_ (1))], m)) rfl ?_
        refine pw_ifF rfl (by decide) (show ¬ (1 < 0) by decide) ?_
        refine pw_steps 2 (s' := (10, [some (.ref ((sf_ a))), some (.int (ei_ ((p + 1)))), some (.int (ei_ (1)))], [.ref ((sf_ a)), .int (ei_ (1))], m)) rfl ?_
        refine pw_getE (x := x4) rfl (sf_ok (a := a) (by omega)).2.2.1 ox4 ?_
        refine pw_cmpF rfl (by decide) ⟨rx4, sx4⟩ (show ¬ (x4 < 1) by omega) ?_
        refine pw_steps 2 (s' := (18, [some (.ref ((sf_ a))), some (.int (ei_ ((p + 1)))), some (.int (ei_ (1)))], [.ref ((sf_ a)), .int (ei_ ((p + 1)))], m)) rfl ?_
        refine pw_getE (x := x4) rfl (sf_ok (a := a) (by omega)).2.2.1 ox4 ?_
        refine pw_steps 2 (s' := (23, [some (.ref ((sf_ a))), some (.int (ei_ ((p + 1)))), some (.int (ei_ (1)))], [.int ((ei_ (x4)) - (ei_ (1))), .int (ei_ ((p + 1)))], m)) rfl ?_
        refine pw_cv (congrArg (fun z_ : Int32 => ((23, [some (.ref ((sf_ a))), some (.int (ei_ ((p + 1)))), some (.int (ei_ (1)))], [.int z_, .int (ei_ ((p + 1)))], m) : am_S)) (ei_sub rfl rfl)) ?_
        refine pw_cmpF rfl (by omega) (by omega) (show ¬ ((x4 - 1) < (p + 1)) by omega) ?_
        refine pw_steps 2 (s' := (31, [some (.ref ((sf_ a))), some (.int (ei_ ((p + 1)))), some (.int (ei_ (1)))], [.int (ei_ (1))], m)) rfl ?_
        refine pw_iret rfl rfl rfl ?_
        refine pw_ifF rfl (by decide) (show ¬ (1 = 0) by decide) ?_
        refine pw_steps 1 (s' := (10, [some (.ref ((sf_ a))), some (.int (ei_ ((p + 1))))], [.ref ((sf_ a))], m)) rfl ?_
        refine pw_getR (r := (sf_ a) + 1) rfl (sf_ok (a := a) (by omega)).2.2.2.1 ?_
        refine pw_steps 1 (s' := (14, [some (.ref ((sf_ a))), some (.int (ei_ ((p + 1))))], [.int (ei_ ((p + 1))), .ref ((sf_ a) + 1)], m)) rfl ?_
        refine pw_lld rfl (sf_ok (a := a) (by omega)).2.2.2.2 (by omega) (fun y6 (hy6 : y6 = vl_ m ((sf_ a) + 1) (p + 1)) ry6 sy6 => ?_)
        replace hy6 : y6 = vl_ m0 ((sf_ a) + 1) (p + 1) := hy6.trans (congrFun (sm_l p2) _)
        have b7 := hsg (p + 1) (by omega) (by omega)
        refine pw_steps 2 (s' := (20, [some (.ref ((sf_ a))), some (.int (ei_ ((p + 1))))], [.int ((el_ (y6)).toInt32)], m)) rfl ?_
        refine pw_cv (congrArg (fun z_ : Int32 => ((20, [some (.ref ((sf_ a))), some (.int (ei_ ((p + 1))))], [.int z_], m) : am_S)) (ei_l2i rfl)) ?_
        refine pw_iret rfl rfl rfl ?_
        refine pw_steps 1 (s' := (24, [some (.ref 0), some (.ref ((sf_ a))), some (.int (ei_ (name))), some (.int (ei_ (w))), some (.int (ei_ (r))), some (.int (ei_ (s))), some (.int (ei_ (p)))], [.int (ei_ (name)), .int (ei_ (y6))], m)) rfl ?_
        refine pw_cmp rfl (by omega) (by omega) (fun (h8 : ¬ y6 = name) => ?_) (fun (h8 : ¬ ¬ y6 = name) => ?_)
        · refine pw_steps 2 (s' := (6, [some (.ref 0), some (.ref ((sf_ a))), some (.int (ei_ (name))), some (.int (ei_ (w))), some (.int (ei_ (r))), some (.int (ei_ (s))), some (.int ((ei_ (p)) + (ei_ (3))))], [], m)) rfl ?_
          refine pw_cv (congrArg (fun z_ : Int32 => ((6, [some (.ref 0), some (.ref ((sf_ a))), some (.int (ei_ (name))), some (.int (ei_ (w))), some (.int (ei_ (r))), some (.int (ei_ (s))), some (.int z_)], [], m) : am_S)) (ei_add rfl rfl)) ?_
          exact ih2 _ (by omega) s (p + 3) (k + 1) rfl (by omega) (by omega) (by rw [su_s (by omega), ← hv]; unfold tf_; rw [← hpk]; subst hy6; rw [if_neg (by rintro ⟨e0_, e1_⟩; first | omega | exact e1_ ⟨by omega, by omega⟩)]; omega)
        · refine pw_steps 5 (s' := (34, [some (.ref 0), some (.ref ((sf_ a))), some (.int (ei_ (name))), some (.int (ei_ (w))), some (.int (ei_ (r))), some (.int (ei_ (s))), some (.int (ei_ (p)))], [.int (ei_ (r)), .int (ei_ (w)), .int (ei_ (p)), .ref ((sf_ a)), .ref 0], m)) rfl ?_
          refine pw_call (As := [.ref ((sf_ a)), .int (ei_ (p)), .int (ei_ (w)), .int (ei_ (r))]) (st := []) (k := 0) rfl rfl rfl rfl rfl (Nat.le_of_ble_eq_true rfl) ?_
          refine pw_intro (I := iX8_isSo) (T := tX8_isSo) rfl rfl rfl ?_
          refine pw_steps 2 (s' := (2, [some (.ref 0), some (.ref ((sf_ a))), some (.int (ei_ (p))), some (.int (ei_ (w))), some (.int (ei_ (r))), none, none], [.int (ei_ (p)), .ref ((sf_ a))], m)) rfl ?_
          refine pw_call (As := [.int (ei_ (p))]) (st := []) (k := (sf_ a)) rfl rfl rfl (sf_sk (by omega)) rfl (Nat.le_of_ble_eq_true rfl) ?_
          refine pw_intro (I := iX5_number) (T := tX5_number) rfl rfl rfl ?_
          refine pw_steps 3 (s' := (3, [some (.ref ((sf_ a))), some (.int (ei_ (p)))], [.int (ei_ (1)), .int (ei_ (p)), .ref ((sf_ a))], m)) rfl ?_
          refine pw_call (As := [.int (ei_ (p)), .int (ei_ (1))]) (st := []) (k := (sf_ a)) rfl rfl rfl (sf_sk (by omega)) rfl (Nat.le_of_ble_eq_true rfl) ?_
          refine pw_intro (I := iX5_hasPlaces) (T := tX5_hasPlaces) rfl rfl rfl ?_
          refine pw_steps 1 (s' := (1, [some (.ref ((sf_ a))), some (.int (ei_ (p))), some (.int (ei_ (1)))], [.int (ei_ (p))], m)) rfl ?_
          refine pw_ifF rfl (by omega) (show ¬ (p < 0) by omega) ?_
          refine pw_steps 1 (s' := (5, [some (.ref ((sf_ a))), some (.int (ei_ (p))), some (.int (ei_ (1)))], [.int (ei_ (1))], m)) rfl ?_
          refine pw_ifF rfl (by decide) (show ¬ (1 < 0) by decide) ?_
          refine pw_steps 2 (s' := (10, [some (.ref ((sf_ a))), some (.int (ei_ (p))), some (.int (ei_ (1)))], [.ref ((sf_ a)), .int (ei_ (1))], m)) rfl ?_
          refine pw_getE (x := x4) rfl (sf_ok (a := a) (by omega)).2.2.1 ox4 ?_
          refine pw_cmpF rfl (by decide) ⟨rx4, sx4⟩ (show ¬ (x4 < 1) by omega) ?_
          refine pw_steps 2 (s' := (18, [some (.ref ((sf_ a))), some (.int (ei_ (p))), some (.int (ei_ (1)))], [.ref ((sf_ a)), .int (ei_ (p))], m)) rfl ?_
          refine pw_getE (x := x4) rfl (sf_ok (a := a) (by omega)).2.2.1 ox4 ?_
          refine pw_steps 2 (s' := (23, [some (.ref ((sf_ a))), some (.int (ei_ (p))), some (.int (ei_ (1)))], [.int ((ei_ (x4)) - (ei_ (1))), .int (ei_ (p))], m)) rfl ?_
          refine pw_cv (congrArg (fun z_ : Int32 => ((23, [some (.ref ((sf_ a))), some (.int (ei_ (p))), some (.int (ei_ (1)))], [.int z_, .int (ei_ (p))], m) : am_S)) (ei_sub rfl rfl)) ?_
          refine pw_cmpF rfl (by omega) (by omega) (show ¬ ((x4 - 1) < p) by omega) ?_
          refine pw_steps 2 (s' := (31, [some (.ref ((sf_ a))), some (.int (ei_ (p))), some (.int (ei_ (1)))], [.int (ei_ (1))], m)) rfl ?_
          refine pw_iret rfl rfl rfl ?_
          refine pw_ifF rfl (by decide) (show ¬ (1 = 0) by decide) ?_
          refine pw_steps 1 (s' := (10, [some (.ref ((sf_ a))), some (.int (ei_ (p)))], [.ref ((sf_ a))], m)) rfl ?_
          refine pw_getR (r := (sf_ a) + 1) rfl (sf_ok (a := a) (by omega)).2.2.2.1 ?_
          refine pw_steps 1 (s' := (14, [some (.ref ((sf_ a))), some (.int (ei_ (p)))], [.int (ei_ (p)), .ref ((sf_ a) + 1)], m)) rfl ?_
          refine pw_lld rfl (sf_ok (a := a) (by omega)).2.2.2.2 (by omega) (fun y9 (hy9 : y9 = vl_ m ((sf_ a) + 1) p) ry9 sy9 => ?_)
          replace hy9 : y9 = vl_ m0 ((sf_ a) + 1) p := hy9.trans (congrFun (sm_l p2) _)
          have b10 := hsg p (by omega) (by omega)
          refine pw_steps 2 (s' := (20, [some (.ref ((sf_ a))), some (.int (ei_ (p)))], [.int ((el_ (y9)).toInt32)], m)) rfl ?_
          refine pw_cv (congrArg (fun z_ : Int32 => ((20, [some (.ref ((sf_ a))), some (.int (ei_ (p)))], [.int z_], m) : am_S)) (ei_l2i rfl)) ?_
          refine pw_iret rfl rfl rfl ?_
          refine pw_steps 5 (s' := (11, [some (.ref 0), some (.ref ((sf_ a))), some (.int (ei_ (p))), some (.int (ei_ (w))), some (.int (ei_ (r))), some (.int (ei_ (y9))), none], [.int ((ei_ (p)) + (ei_ (1))), .ref ((sf_ a))], m)) rfl ?_
          refine pw_cv (congrArg (fun z_ : Int32 => ((11, [some (.ref 0), some (.ref ((sf_ a))), some (.int (ei_ (p))), some (.int (ei_ (w))), some (.int (ei_ (r))), some (.int (ei_ (y9))), none], [.int z_, .ref ((sf_ a))], m) : am_S)) (ei_add rfl rfl)) ?_
          refine pw_call (As := [.int (ei_ ((p + 1)))]) (st := []) (k := (sf_ a)) rfl rfl rfl (sf_sk (by omega)) rfl (Nat.le_of_ble_eq_true rfl) ?_
          refine pw_intro (I := iX5_number) (T := tX5_number) rfl rfl rfl ?_
          refine pw_steps 3 (s' := (3, [some (.ref ((sf_ a))), some (.int (ei_ ((p + 1))))], [.int (ei_ (1)), .int (ei_ ((p + 1))), .ref ((sf_ a))], m)) rfl ?_
          refine pw_call (As := [.int (ei_ ((p + 1))), .int (ei_ (1))]) (st := []) (k := (sf_ a)) rfl rfl rfl (sf_sk (by omega)) rfl (Nat.le_of_ble_eq_true rfl) ?_
          refine pw_intro (I := iX5_hasPlaces) (T := tX5_hasPlaces) rfl rfl rfl ?_
          refine pw_steps 1 (s' := (1, [some (.ref ((sf_ a))), some (.int (ei_ ((p + 1)))), some (.int (ei_ (1)))], [.int (ei_ ((p + 1)))], m)) rfl ?_
          refine pw_ifF rfl (by omega) (show ¬ ((p + 1) < 0) by omega) ?_
          refine pw_steps 1 (s' := (5, [some (.ref ((sf_ a))), some (.int (ei_ ((p + 1)))), some (.int (ei_ (1)))], [.int (ei_ (1))], m)) rfl ?_
          refine pw_ifF rfl (by decide) (show ¬ (1 < 0) by decide) ?_
          refine pw_steps 2 (s' := (10, [some (.ref ((sf_ a))), some (.int (ei_ ((p + 1)))), some (.int (ei_ (1)))], [.ref ((sf_ a)), .int (ei_ (1))], m)) rfl ?_
          refine pw_getE (x := x4) rfl (sf_ok (a := a) (by omega)).2.2.1 ox4 ?_
          refine pw_cmpF rfl (by decide) ⟨rx4, sx4⟩ (show ¬ (x4 < 1) by omega) ?_
          refine pw_steps 2 (s' := (18, [some (.ref ((sf_ a))), some (.int (ei_ ((p + 1)))), some (.int (ei_ (1)))], [.ref ((sf_ a)), .int (ei_ ((p + 1)))], m)) rfl ?_
          refine pw_getE (x := x4) rfl (sf_ok (a := a) (by omega)).2.2.1 ox4 ?_
          refine pw_steps 2 (s' := (23, [some (.ref ((sf_ a))), some (.int (ei_ ((p + 1)))), some (.int (ei_ (1)))], [.int ((ei_ (x4)) - (ei_ (1))), .int (ei_ ((p + 1)))], m)) rfl ?_
          refine pw_cv (congrArg (fun z_ : Int32 => ((23, [some (.ref ((sf_ a))), some (.int (ei_ ((p + 1)))), some (.int (ei_ (1)))], [.int z_, .int (ei_ ((p + 1)))], m) : am_S)) (ei_sub rfl rfl)) ?_
          refine pw_cmpF rfl (by omega) (by omega) (show ¬ ((x4 - 1) < (p + 1)) by omega) ?_
          refine pw_steps 2 (s' := (31, [some (.ref ((sf_ a))), some (.int (ei_ ((p + 1)))), some (.int (ei_ (1)))], [.int (ei_ (1))], m)) rfl ?_
          refine pw_iret rfl rfl rfl ?_
          refine pw_ifF rfl (by decide) (show ¬ (1 = 0) by decide) ?_
          refine pw_steps 1 (s' := (10, [some (.ref ((sf_ a))), some (.int (ei_ ((p + 1))))], [.ref ((sf_ a))], m)) rfl ?_
          refine pw_getR (r := (sf_ a) + 1) rfl (sf_ok (a := a) (by omega)).2.2.2.1 ?_
          refine pw_steps 1 (s' := (14, [some (.ref ((sf_ a))), some (.int (ei_ ((p + 1))))], [.int (ei_ ((p + 1))), .ref ((sf_ a) + 1)], m)) rfl ?_
          refine pw_lld rfl (sf_ok (a := a) (by omega)).2.2.2.2 (by omega) (fun y11 (hy11 : y11 = vl_ m ((sf_ a) + 1) (p + 1)) ry11 sy11 => ?_)
          replace hy11 : y11 = vl_ m0 ((sf_ a) + 1) (p + 1) := hy11.trans (congrFun (sm_l p2) _)
          have b12 := hsg (p + 1) (by omega) (by omega)
          refine pw_steps 2 (s' := (20, [some (.ref ((sf_ a))), some (.int (ei_ ((p + 1))))], [.int ((el_ (y11)).toInt32)], m)) rfl ?_
          refine pw_cv (congrArg (fun z_ : Int32 => ((20, [some (.ref ((sf_ a))), some (.int (ei_ ((p + 1))))], [.int z_], m) : am_S)) (ei_l2i rfl)) ?_
          refine pw_iret rfl rfl rfl ?_
          refine pw_steps 5 (s' := (20, [some (.ref 0), some (.ref ((sf_ a))), some (.int (ei_ (p))), some (.int (ei_ (w))), some (.int (ei_ (r))), some (.int (ei_ (y9))), some (.int (ei_ (y11)))], [.int ((ei_ (p)) + (ei_ (2))), .ref ((sf_ a))], m)) rfl ?_
          refine pw_cv (congrArg (fun z_ : Int32 => ((20, [some (.ref 0), some (.ref ((sf_ a))), some (.int (ei_ (p))), some (.int (ei_ (w))), some (.int (ei_ (r))), some (.int (ei_ (y9))), some (.int (ei_ (y11)))], [.int z_, .ref ((sf_ a))], m) : am_S)) (ei_add rfl rfl)) ?_
          refine pw_call (As := [.int (ei_ ((p + 2)))]) (st := []) (k := (sf_ a)) rfl rfl rfl (sf_sk (by omega)) rfl (Nat.le_of_ble_eq_true rfl) ?_
          refine pw_intro (I := iX5_number) (T := tX5_number) rfl rfl rfl ?_
          refine pw_steps 3 (s' := (3, [some (.ref ((sf_ a))), some (.int (ei_ ((p + 2))))], [.int (ei_ (1)), .int (ei_ ((p + 2))), .ref ((sf_ a))], m)) rfl ?_
          refine pw_call (As := [.int (ei_ ((p + 2))), .int (ei_ (1))]) (st := []) (k := (sf_ a)) rfl rfl rfl (sf_sk (by omega)) rfl (Nat.le_of_ble_eq_true rfl) ?_
          refine pw_intro (I := iX5_hasPlaces) (T := tX5_hasPlaces) rfl rfl rfl ?_
          refine pw_steps 1 (s' := (1, [some (.ref ((sf_ a))), some (.int (ei_ ((p + 2)))), some (.int (ei_ (1)))], [.int (ei_ ((p + 2)))], m)) rfl ?_
          refine pw_ifF rfl (by omega) (show ¬ ((p + 2) < 0) by omega) ?_
          refine pw_steps 1 (s' := (5, [some (.ref ((sf_ a))), some (.int (ei_ ((p + 2)))), some (.int (ei_ (1)))], [.int (ei_ (1))], m)) rfl ?_
          refine pw_ifF rfl (by decide) (show ¬ (1 < 0) by decide) ?_
          refine pw_steps 2 (s' := (10, [some (.ref ((sf_ a))), some (.int (ei_ ((p + 2)))), some (.int (ei_ (1)))], [.ref ((sf_ a)), .int (ei_ (1))], m)) rfl ?_
          refine pw_getE (x := x4) rfl (sf_ok (a := a) (by omega)).2.2.1 ox4 ?_
          refine pw_cmpF rfl (by decide) ⟨rx4, sx4⟩ (show ¬ (x4 < 1) by omega) ?_
          refine pw_steps 2 (s' := (18, [some (.ref ((sf_ a))), some (.int (ei_ ((p + 2)))), some (.int (ei_ (1)))], [.ref ((sf_ a)), .int (ei_ ((p + 2)))], m)) rfl ?_
          refine pw_getE (x := x4) rfl (sf_ok (a := a) (by omega)).2.2.1 ox4 ?_
          refine pw_steps 2 (s' := (23, [some (.ref ((sf_ a))), some (.int (ei_ ((p + 2)))), some (.int (ei_ (1)))], [.int ((ei_ (x4)) - (ei_ (1))), .int (ei_ ((p + 2)))], m)) rfl ?_
          refine pw_cv (congrArg (fun z_ : Int32 => ((23, [some (.ref ((sf_ a))), some (.int (ei_ ((p + 2)))), some (.int (ei_ (1)))], [.int z_, .int (ei_ ((p + 2)))], m) : am_S)) (ei_sub rfl rfl)) ?_
          refine pw_cmpF rfl (by omega) (by omega) (show ¬ ((x4 - 1) < (p + 2)) by omega) ?_
          refine pw_steps 2 (s' := (31, [some (.ref ((sf_ a))), some (.int (ei_ ((p + 2)))), some (.int (ei_ (1)))], [.int (ei_ (1))], m)) rfl ?_
          refine pw_iret rfl rfl rfl ?_
          refine pw_ifF rfl (by decide) (show ¬ (1 = 0) by decide) ?_
          refine pw_steps 1 (s' := (10, [some (.ref ((sf_ a))), some (.int (ei_ ((p + 2))))], [.ref ((sf_ a))], m)) rfl ?_
          refine pw_getR (r := (sf_ a) + 1) rfl (sf_ok (a := a) (by omega)).2.2.2.1 ?_
          refine pw_steps 1 (s' := (14, [some (.ref ((sf_ a))), some (.int (ei_ ((p + 2))))], [.int (ei_ ((p + 2))), .ref ((sf_ a) + 1)], m)) rfl ?_
          refine pw_lld rfl (sf_ok (a := a) (by omega)).2.2.2.2 (by omega) (fun y13 (hy13 : y13 = vl_ m ((sf_ a) + 1) (p + 2)) ry13 sy13 => ?_)
          replace hy13 : y13 = vl_ m0 ((sf_ a) + 1) (p + 2) := hy13.trans (congrFun (sm_l p2) _)
          have b14 := hsg (p + 2) (by omega) (by omega)
          refine pw_steps 2 (s' := (20, [some (.ref ((sf_ a))), some (.int (ei_ ((p + 2))))], [.int ((el_ (y13)).toInt32)], m)) rfl ?_
          refine pw_cv (congrArg (fun z_ : Int32 => ((20, [some (.ref ((sf_ a))), some (.int (ei_ ((p + 2))))], [.int z_], m) : am_S)) (ei_l2i rfl)) ?_
          refine pw_iret rfl rfl rfl ?_
          refine pw_steps 1 (s' := (24, [some (.ref 0), some (.ref ((sf_ a))), some (.int (ei_ (p))), some (.int (ei_ (w))), some (.int (ei_ (r))), some (.int (ei_ (y9))), some (.int (ei_ (y11)))], [.int (ei_ (w)), .int (ei_ (y13))], m)) rfl ?_
          refine pw_cmp rfl (by omega) p7 (fun (h15 : ¬ y13 = w) => ?_) (fun (h15 : ¬ ¬ y13 = w) => ?_)
          · refine pw_steps 1 (s' := (48, [some (.ref 0), some (.ref ((sf_ a))), some (.int (ei_ (p))), some (.int (ei_ (w))), some (.int (ei_ (r))), some (.int (ei_ (y9))), some (.int (ei_ (y11)))], [.int (ei_ (0))], m)) rfl ?_
            refine pw_iret rfl rfl rfl ?_
            refine pw_ifF rfl (by decide) (show ¬ (¬ 0 = 0) by decide) ?_
            refine pw_steps 3 (s' := (6, [some (.ref 0), some (.ref ((sf_ a))), some (.int (ei_ (name))), some (.int (ei_ (w))), some (.int (ei_ (r))), some (.int ((ei_ (s)) + (ei_ (1)))), some (.int ((ei_ (p)) + (ei_ (3))))], [], m)) rfl ?_
            refine pw_cv (congrArg (fun z_ : Int32 => ((6, [some (.ref 0), some (.ref ((sf_ a))), some (.int (ei_ (name))), some (.int (ei_ (w))), some (.int (ei_ (r))), some (.int z_), some (.int ((ei_ (p)) + (ei_ (3))))], [], m) : am_S)) (ei_add rfl rfl)) ?_
            refine pw_cv (congrArg (fun z_ : Int32 => ((6, [some (.ref 0), some (.ref ((sf_ a))), some (.int (ei_ (name))), some (.int (ei_ (w))), some (.int (ei_ (r))), some (.int (ei_ ((s + 1)))), some (.int z_)], [], m) : am_S)) (ei_add rfl rfl)) ?_
            exact ih2 _ (by omega) (s + 1) (p + 3) (k + 1) rfl (by omega) (by omega) (by rw [su_s (by omega), ← hv]; unfold tf_; rw [← hpk]; subst hy6; subst hy9; subst hy11; subst hy13; rw [if_pos (by refine ⟨by omega, ?_⟩; rintro ⟨e1_, e2_⟩; first | omega | exact e2_ (by omega))])
          · refine pw_steps 5 (s' := (37, [some (.ref 0), some (.ref ((sf_ a))), some (.int (ei_ (p))), some (.int (ei_ (w))), some (.int (ei_ (r))), some (.int (ei_ (y9))), some (.int (ei_ (y11)))], [.int (ei_ (y9)), .int (ei_ (r)), .int (ei_ (y11)), .ref 3], m)) rfl ?_
            refine pw_call (As := [.int (ei_ (y11)), .int (ei_ (r)), .int (ei_ (y9))]) (st := []) (k := 3) rfl rfl rfl rfl rfl (Nat.le_of_ble_eq_true rfl) ?_
            refine cw_leftBy (p1) (p2) (by omega) (p6) (by omega) (fun x16 g17 g18 => ?_)
            refine pw_if rfl (by omega) (fun (h19 : x16 ≤ 0) => ?_) (fun (h19 : ¬ (x16 ≤ 0)) => ?_)
            · refine pw_steps 1 (s' := (48, [some (.ref 0), some (.ref ((sf_ a))), some (.int (ei_ (p))), some (.int (ei_ (w))), some (.int (ei_ (r))), some (.int (ei_ (y9))), some (.int (ei_ (y11)))], [.int (ei_ (0))], m)) rfl ?_
              refine pw_iret rfl rfl rfl ?_
              refine pw_ifF rfl (by decide) (show ¬ (¬ 0 = 0) by decide) ?_
              refine pw_steps 3 (s' := (6, [some (.ref 0), some (.ref ((sf_ a))), some (.int (ei_ (name))), some (.int (ei_ (w))), some (.int (ei_ (r))), some (.int ((ei_ (s)) + (ei_ (1)))), some (.int ((ei_ (p)) + (ei_ (3))))], [], m)) rfl ?_
              refine pw_cv (congrArg (fun z_ : Int32 => ((6, [some (.ref 0), some (.ref ((sf_ a))), some (.int (ei_ (name))), some (.int (ei_ (w))), some (.int (ei_ (r))), some (.int z_), some (.int ((ei_ (p)) + (ei_ (3))))], [], m) : am_S)) (ei_add rfl rfl)) ?_
              refine pw_cv (congrArg (fun z_ : Int32 => ((6, [some (.ref 0), some (.ref ((sf_ a))), some (.int (ei_ (name))), some (.int (ei_ (w))), some (.int (ei_ (r))), some (.int (ei_ ((s + 1)))), some (.int z_)], [], m) : am_S)) (ei_add rfl rfl)) ?_
              exact ih2 _ (by omega) (s + 1) (p + 3) (k + 1) rfl (by omega) (by omega) (by rw [su_s (by omega), ← hv]; unfold tf_; rw [← hpk]; subst hy6; subst hy9; subst hy11; subst hy13; rw [show vl_ m0 (sf_ a + 1) (p + 1) = name by omega] at g17; rw [if_pos (by refine ⟨by omega, ?_⟩; rintro ⟨e1_, e2_⟩; first | omega | exact e2_ (by omega))])
            · refine pw_steps 2 (s' := (48, [some (.ref 0), some (.ref ((sf_ a))), some (.int (ei_ (p))), some (.int (ei_ (w))), some (.int (ei_ (r))), some (.int (ei_ (y9))), some (.int (ei_ (y11)))], [.int (ei_ (1))], m)) rfl ?_
              refine pw_iret rfl rfl rfl ?_
              refine pw_ifT rfl (by decide) (show ¬ 1 = 0 by decide) ?_
              refine pw_steps 2 (s' := (6, [some (.ref 0), some (.ref ((sf_ a))), some (.int (ei_ (name))), some (.int (ei_ (w))), some (.int (ei_ (r))), some (.int (ei_ (s))), some (.int ((ei_ (p)) + (ei_ (3))))], [], m)) rfl ?_
              refine pw_cv (congrArg (fun z_ : Int32 => ((6, [some (.ref 0), some (.ref ((sf_ a))), some (.int (ei_ (name))), some (.int (ei_ (w))), some (.int (ei_ (r))), some (.int (ei_ (s))), some (.int z_)], [], m) : am_S)) (ei_add rfl rfl)) ?_
              exact ih2 _ (by omega) s (p + 3) (k + 1) rfl (by omega) (by omega) (by rw [su_s (by omega), ← hv]; unfold tf_; rw [← hpk]; subst hy6; subst hy9; subst hy11; subst hy13; rw [show vl_ m0 (sf_ a + 1) (p + 1) = name by omega] at g17; rw [if_neg (by rintro ⟨e0_, e1_⟩; first | omega | exact e1_ ⟨by omega, by omega⟩)]; omega)
  exact L3 _ 0 0 0 rfl (by omega) (by omega) (by rfl)

set_option maxHeartbeats 4000000 in
set_option maxRecDepth 20000 in
theorem cw_three {q : am_X} {d : Nat} {m : am_M} {Q : Option Value → am_M → Prop} {m0 : am_M} {a : Int} (p0 : rP_ m0) (p1 : rF_ m0) (p2 : sm_ pSc m0 m) (p3 : sg3_ m0 a) (k0 : (al3_ m0 a) → Q (some (.int (ei_ (1)))) m) (k1 : (¬ al3_ m0 a) → Q (some (.int (ei_ (0)))) m) : pw_C q (d + 5) 105 [.ref 0, .ref ((sf_ a))] m Q := by
  obtain ⟨hP1, hP2, hP3, hP4⟩ := id p0
  obtain ⟨hsa, hsz, hsg⟩ := id p3
  refine pw_intro (I := iX8_areThrees) (T := tX8_areThrees) rfl rfl rfl ?_
  refine pw_steps 2 (s' := (2, [some (.ref 0), some (.ref ((sf_ a))), some (.int (ei_ (0)))], [], m)) rfl ?_
  have L3 : ∀ (n1 : Nat) (p : Int) (k : Int), (vi_ m0 (sf_ a) 2 - p).toNat = n1 → (0 ≤ k ∧ p = 3 * k ∧ p ≤ vi_ m0 (sf_ a) 2 + 2) → (p = 3 * k) → (∀ j, 0 ≤ j → j < k → ok3_ m0 a (3 * j)) → pw_V q (d + 4) iX8_areThrees.2.2.2.1 tX8_areThrees Q (2, [some (.ref 0), some (.ref ((sf_ a))), some (.int (ei_ (p)))], [], m) := by
    intro n1
    induction n1 using Nat.strongRecOn with
    | _ n1 ih2 =>
      intro p k hm_n1 hkp hpk hv
      refine pw_steps 2 (s' := (4, [some (.ref 0), some (.ref ((sf_ a))), some (.int (ei_ (p)))], [.ref ((sf_ a)), .int (ei_ (p))], m)) rfl ?_
      refine pw_call (As := []) (st := [.int (ei_ (p))]) (k := (sf_ a)) rfl rfl rfl (sf_sk (by omega)) rfl (Nat.le_of_ble_eq_true rfl) ?_
      refine pw_intro (I := iX5_size) (T := tX5_size) rfl rfl rfl ?_
      refine pw_steps 1 (s' := (1, [some (.ref ((sf_ a)))], [.ref ((sf_ a))], m)) rfl ?_
      refine pw_get rfl (sf_ok (a := a) (by omega)).2.2.1 (fun x4 (hx4 : x4 = vi_ m (sf_ a) 2) rx4 sx4 => ?_)
      have ox4 := hx4
      replace hx4 : x4 = vi_ m0 (sf_ a) 2 := hx4.trans (sm_v p2 (pSc_sf (by omega) _))
      refine pw_iret rfl rfl rfl ?_
      refine pw_cmp rfl (by omega) ⟨rx4, sx4⟩ (fun (h5 : x4 ≤ p) => ?_) (fun (h5 : ¬ (x4 ≤ p)) => ?_)
      · refine pw_steps 1 (s' := (28, [some (.ref 0), some (.ref ((sf_ a))), some (.int (ei_ (p)))], [.int (ei_ (1))], m)) rfl ?_
        refine pw_iret rfl rfl rfl ?_
        exact k0 (by intro j a_ b_; exact hv j a_ (by omega))
      · refine pw_steps 3 (s' := (13, [some (.ref 0), some (.ref ((sf_ a))), some (.int (ei_ (p)))], [.int (ei_ (p)), .ref ((sf_ a)), .ref 0], m)) rfl ?_
        refine pw_call (As := [.ref ((sf_ a)), .int (ei_ (p))]) (st := []) (k := 0) rfl rfl rfl rfl rfl (Nat.le_of_ble_eq_true rfl) ?_
        refine pw_intro (I := iX8_isThree) (T := tX8_isThree) rfl rfl rfl ?_
        refine pw_steps 3 (s' := (3, [some (.ref 0), some (.ref ((sf_ a))), some (.int (ei_ (p)))], [.int (ei_ (3)), .int (ei_ (p)), .ref ((sf_ a))], m)) rfl ?_
        refine pw_call (As := [.int (ei_ (p)), .int (ei_ (3))]) (st := []) (k := (sf_ a)) rfl rfl rfl (sf_sk (by omega)) rfl (Nat.le_of_ble_eq_true rfl) ?_
        refine pw_intro (I := iX5_hasPlaces) (T := tX5_hasPlaces) rfl rfl rfl ?_
        refine pw_steps 1 (s' := (1, [some (.ref ((sf_ a))), some (.int (ei_ (p))), some (.int (ei_ (3)))], [.int (ei_ (p))], m)) rfl ?_
        refine pw_ifF rfl (by omega) (show ¬ (p < 0) by omega) ?_
        refine pw_steps 1 (s' := (5, [some (.ref ((sf_ a))), some (.int (ei_ (p))), some (.int (ei_ (3)))], [.int (ei_ (3))], m)) rfl ?_
        refine pw_ifF rfl (by decide) (show ¬ (3 < 0) by decide) ?_
        refine pw_steps 2 (s' := (10, [some (.ref ((sf_ a))), some (.int (ei_ (p))), some (.int (ei_ (3)))], [.ref ((sf_ a)), .int (ei_ (3))], m)) rfl ?_
        refine pw_getE (x := x4) rfl (sf_ok (a := a) (by omega)).2.2.1 ox4 ?_
        refine pw_cmp rfl (by decide) ⟨rx4, sx4⟩ (fun (h6 : x4 < 3) => ?_) (fun (h6 : ¬ (x4 < 3)) => ?_)
        · refine pw_steps 1 (s' := (31, [some (.ref ((sf_ a))), some (.int (ei_ (p))), some (.int (ei_ (3)))], [.int (ei_ (0))], m)) rfl ?_
          refine pw_iret rfl rfl rfl ?_
          refine pw_ifT rfl (by decide) (show 0 = 0 by decide) ?_
          refine pw_steps 1 (s' := (42, [some (.ref 0), some (.ref ((sf_ a))), some (.int (ei_ (p)))], [.int (ei_ (0))], m)) rfl ?_
          refine pw_iret rfl rfl rfl ?_
          refine pw_ifF rfl (by decide) (show ¬ (¬ 0 = 0) by decide) ?_
          refine pw_steps 1 (s' := (20, [some (.ref 0), some (.ref ((sf_ a))), some (.int (ei_ (p)))], [.int (ei_ (0))], m)) rfl ?_
          refine pw_iret rfl rfl rfl ?_
          exact k1 (by intro h_; have h3_ := h_ k (by omega) (by omega); rw [← hpk] at h3_; obtain ⟨e1_, e2_, e3_⟩ := h3_; omega)
        · refine pw_steps 2 (s' := (18, [some (.ref ((sf_ a))), some (.int (ei_ (p))), some (.int (ei_ (3)))], [.ref ((sf_ a)), .int (ei_ (p))], m)) rfl ?_
          refine pw_getE (x := x4) rfl (sf_ok (a := a) (by omega)).2.2.1 ox4 ?_
          refine pw_steps 2 (s' := (23, [some (.ref ((sf_ a))), some (.int (ei_ (p))), some (.int (ei_ (3)))], [.int ((ei_ (x4)) - (ei_ (3))), .int (ei_ (p))], m)) rfl ?_
          refine pw_cv (congrArg (fun z_ : Int32 => ((23, [some (.ref ((sf_ a))), some (.int (ei_ (p))), some (.int (ei_ (3)))], [.int z_, .int (ei_ (p))], m) : am_S)) (ei_sub rfl rfl)) ?_
          refine pw_cmp rfl (by omega) (by omega) (fun (h7 : (x4 - 3) < p) => ?_) (fun (h7 : ¬ ((x4 - 3) < p)) => ?_)
          · refine pw_steps 1 (s' := (31, [some (.ref ((sf_ a))), some (.int (ei_ (p))), some (.int (ei_ (3)))], [.int (ei_ (0))], m)) rfl ?_
            refine pw_iret rfl rfl rfl ?_
            refine pw_ifT rfl (by decide) (show 0 = 0 by decide) ?_
            refine pw_steps 1 (s' := (42, [some (.ref 0), some (.ref ((sf_ a))), some (.int (ei_ (p)))], [.int (ei_ (0))], m)) rfl ?_
            refine pw_iret rfl rfl rfl ?_
            refine pw_ifF rfl (by decide) (show ¬ (¬ 0 = 0) by decide) ?_
            refine pw_steps 1 (s' := (20, [some (.ref 0), some (.ref ((sf_ a))), some (.int (ei_ (p)))], [.int (ei_ (0))], m)) rfl ?_
            refine pw_iret rfl rfl rfl ?_
            exact k1 (by intro h_; have h3_ := h_ k (by omega) (by omega); rw [← hpk] at h3_; obtain ⟨e1_, e2_, e3_⟩ := h3_; omega)
          · refine pw_steps 2 (s' := (31, [some (.ref ((sf_ a))), some (.int (ei_ (p))), some (.int (ei_ (3)))], [.int (ei_ (1))], m)) rfl ?_
            refine pw_iret rfl rfl rfl ?_
            refine pw_ifF rfl (by decide) (show ¬ (1 = 0) by decide) ?_
            refine pw_steps 2 (s' := (11, [some (.ref 0), some (.ref ((sf_ a))), some (.int (ei_ (p)))], [.int (ei_ (p)), .ref ((sf_ a))], m)) rfl ?_
            refine pw_call (As := [.int (ei_ (p))]) (st := []) (k := (sf_ a)) rfl rfl rfl (sf_sk (by omega)) rfl (Nat.le_of_ble_eq_true rfl) ?_
            refine pw_intro (I := iX5_number) (T := tX5_number) rfl rfl rfl ?_
            refine pw_steps 3 (s' := (3, [some (.ref ((sf_ a))), some (.int (ei_ (p)))], [.int (ei_ (1)), .int (ei_ (p)), .ref ((sf_ a))], m)) rfl ?_
            refine pw_call (As := [.int (ei_ (p)), .int (ei_ (1))]) (st := []) (k := (sf_ a)) rfl rfl rfl (sf_sk (by omega)) rfl (Nat.le_of_ble_eq_true rfl) ?_
            refine pw_intro (I := iX5_hasPlaces) (T := tX5_hasPlaces) rfl rfl rfl ?_
            refine pw_steps 1 (s' := (1, [some (.ref ((sf_ a))), some (.int (ei_ (p))), some (.int (ei_ (1)))], [.int (ei_ (p))], m)) rfl ?_
            refine pw_ifF rfl (by omega) (show ¬ (p < 0) by omega) ?_
            refine pw_steps 1 (s' := (5, [some (.ref ((sf_ a))), some (.int (ei_ (p))), some (.int (ei_ (1)))], [.int (ei_ (1))], m)) rfl ?_
            refine pw_ifF rfl (by decide) (show ¬ (1 < 0) by decide) ?_
            refine pw_steps 2 (s' := (10, [some (.ref ((sf_ a))), some (.int (ei_ (p))), some (.int (ei_ (1)))], [.ref ((sf_ a)), .int (ei_ (1))], m)) rfl ?_
            refine pw_getE (x := x4) rfl (sf_ok (a := a) (by omega)).2.2.1 ox4 ?_
            refine pw_cmpF rfl (by decide) ⟨rx4, sx4⟩ (show ¬ (x4 < 1) by omega) ?_
            refine pw_steps 2 (s' := (18, [some (.ref ((sf_ a))), some (.int (ei_ (p))), some (.int (ei_ (1)))], [.ref ((sf_ a)), .int (ei_ (p))], m)) rfl ?_
            refine pw_getE (x := x4) rfl (sf_ok (a := a) (by omega)).2.2.1 ox4 ?_
            refine pw_steps 2 (s' := (23, [some (.ref ((sf_ a))), some (.int (ei_ (p))), some (.int (ei_ (1)))], [.int ((ei_ (x4)) - (ei_ (1))), .int (ei_ (p))], m)) rfl ?_
            refine pw_cv (congrArg (fun z_ : Int32 => ((23, [some (.ref ((sf_ a))), some (.int (ei_ (p))), some (.int (ei_ (1)))], [.int z_, .int (ei_ (p))], m) : am_S)) (ei_sub rfl rfl)) ?_
            refine pw_cmpF rfl (by omega) (by omega) (show ¬ ((x4 - 1) < p) by omega) ?_
            refine pw_steps 2 (s' := (31, [some (.ref ((sf_ a))), some (.int (ei_ (p))), some (.int (ei_ (1)))], [.int (ei_ (1))], m)) rfl ?_
            refine pw_iret rfl rfl rfl ?_
            refine pw_ifF rfl (by decide) (show ¬ (1 = 0) by decide) ?_
            refine pw_steps 1 (s' := (10, [some (.ref ((sf_ a))), some (.int (ei_ (p)))], [.ref ((sf_ a))], m)) rfl ?_
            refine pw_getR (r := (sf_ a) + 1) rfl (sf_ok (a := a) (by omega)).2.2.2.1 ?_
            refine pw_steps 1 (s' := (14, [some (.ref ((sf_ a))), some (.int (ei_ (p)))], [.int (ei_ (p)), .ref ((sf_ a) + 1)], m)) rfl ?_
            refine pw_lld rfl (sf_ok (a := a) (by omega)).2.2.2.2 (by omega) (fun y8 (hy8 : y8 = vl_ m ((sf_ a) + 1) p) ry8 sy8 => ?_)
            replace hy8 : y8 = vl_ m0 ((sf_ a) + 1) p := hy8.trans (congrFun (sm_l p2) _)
            have b9 := hsg p (by omega) (by omega)
            refine pw_steps 2 (s' := (20, [some (.ref ((sf_ a))), some (.int (ei_ (p)))], [.int ((el_ (y8)).toInt32)], m)) rfl ?_
            refine pw_cv (congrArg (fun z_ : Int32 => ((20, [some (.ref ((sf_ a))), some (.int (ei_ (p)))], [.int z_], m) : am_S)) (ei_l2i rfl)) ?_
            refine pw_iret rfl rfl rfl ?_
            refine pw_callS (As := [.int (ei_ (y8))]) (st := []) rfl (by decide) rfl rfl (Nat.le_of_ble_eq_true rfl) ?_
            refine pw_intro (I := iX8_isTo99) (T := tX8_isTo99) rfl rfl rfl ?_
            refine pw_steps 1 (s' := (1, [some (.int (ei_ (y8)))], [.int (ei_ (y8))], m)) rfl ?_
            refine pw_if rfl (by omega) (fun (h10 : y8 < 0) => ?_) (fun (h10 : ¬ (y8 < 0)) => ?_)
            · refine pw_steps 1 (s' := (15, [some (.int (ei_ (y8)))], [.int (ei_ (0))], m)) rfl ?_
              refine pw_iret rfl rfl rfl ?_
              refine pw_ifT rfl (by decide) (show 0 = 0 by decide) ?_
              refine pw_steps 1 (s' := (42, [some (.ref 0), some (.ref ((sf_ a))), some (.int (ei_ (p)))], [.int (ei_ (0))], m)) rfl ?_
              refine pw_iret rfl rfl rfl ?_
              refine pw_ifF rfl (by decide) (show ¬ (¬ 0 = 0) by decide) ?_
              refine pw_steps 1 (s' := (20, [some (.ref 0), some (.ref ((sf_ a))), some (.int (ei_ (p)))], [.int (ei_ (0))], m)) rfl ?_
              refine pw_iret rfl rfl rfl ?_
              exact k1 (by intro h_; have h3_ := h_ k (by omega) (by omega); rw [← hpk] at h3_; obtain ⟨e1_, e2_, e3_⟩ := h3_; subst hy8; omega)
            · refine pw_steps 2 (s' := (7, [some (.int (ei_ (y8)))], [.int (ei_ (99)), .int (ei_ (y8))], m)) rfl ?_
              refine pw_cmp rfl (by omega) (by decide) (fun (h11 : 99 < y8) => ?_) (fun (h11 : ¬ (99 < y8)) => ?_)
              · refine pw_steps 1 (s' := (15, [some (.int (ei_ (y8)))], [.int (ei_ (0))], m)) rfl ?_
                refine pw_iret rfl rfl rfl ?_
                refine pw_ifT rfl (by decide) (show 0 = 0 by decide) ?_
                refine pw_steps 1 (s' := (42, [some (.ref 0), some (.ref ((sf_ a))), some (.int (ei_ (p)))], [.int (ei_ (0))], m)) rfl ?_
                refine pw_iret rfl rfl rfl ?_
                refine pw_ifF rfl (by decide) (show ¬ (¬ 0 = 0) by decide) ?_
                refine pw_steps 1 (s' := (20, [some (.ref 0), some (.ref ((sf_ a))), some (.int (ei_ (p)))], [.int (ei_ (0))], m)) rfl ?_
                refine pw_iret rfl rfl rfl ?_
                exact k1 (by intro h_; have h3_ := h_ k (by omega) (by omega); rw [← hpk] at h3_; obtain ⟨e1_, e2_, e3_⟩ := h3_; subst hy8; omega)
              · refine pw_steps 2 (s' := (15, [some (.int (ei_ (y8)))], [.int (ei_ (1))], m)) rfl ?_
                refine pw_iret rfl rfl rfl ?_
                refine pw_ifF rfl (by decide) (show ¬ (1 = 0) by decide) ?_
                refine pw_steps 6 (s' := (28, [some (.ref 0), some (.ref ((sf_ a))), some (.int (ei_ (p)))], [.int ((ei_ (p)) + (ei_ (1))), .ref ((sf_ a)), .ref 1], m)) rfl ?_
                refine pw_cv (congrArg (fun z_ : Int32 => ((28, [some (.ref 0), some (.ref ((sf_ a))), some (.int (ei_ (p)))], [.int z_, .ref ((sf_ a)), .ref 1], m) : am_S)) (ei_add rfl rfl)) ?_
                refine pw_call (As := [.int (ei_ ((p + 1)))]) (st := [.ref 1]) (k := (sf_ a)) rfl rfl rfl (sf_sk (by omega)) rfl (Nat.le_of_ble_eq_true rfl) ?_
                refine pw_intro (I := iX5_number) (T := tX5_number) rfl rfl rfl ?_
                refine pw_steps 3 (s' := (3, [some (.ref ((sf_ a))), some (.int (ei_ ((p + 1))))], [.int (ei_ (1)), .int (ei_ ((p + 1))), .ref ((sf_ a))], m)) rfl ?_
                refine pw_call (As := [.int (ei_ ((p + 1))), .int (ei_ (1))]) (st := []) (k := (sf_ a)) rfl rfl rfl (sf_sk (by omega)) rfl (Nat.le_of_ble_eq_true rfl) ?_
                refine pw_intro (I := iX5_hasPlaces) (T := tX5_hasPlaces) rfl rfl rfl ?_
                refine pw_steps 1 (s' := (1, [some (.ref ((sf_ a))), some (.int (ei_ ((p + 1)))), some (.int (ei_ (1)))], [.int (ei_ ((p + 1)))], m)) rfl ?_
                refine pw_ifF rfl (by omega) (show ¬ ((p + 1) < 0) by omega) ?_
                refine pw_steps 1 (s' := (5, [some (.ref ((sf_ a))), some (.int (ei_ ((p + 1)))), some (.int (ei_ (1)))], [.int (ei_ (1))], m)) rfl ?_
                refine pw_ifF rfl (by decide) (show ¬ (1 < 0) by decide) ?_
                refine pw_steps 2 (s' := (10, [some (.ref ((sf_ a))), some (.int (ei_ ((p + 1)))), some (.int (ei_ (1)))], [.ref ((sf_ a)), .int (ei_ (1))], m)) rfl ?_
                refine pw_getE (x := x4) rfl (sf_ok (a := a) (by omega)).2.2.1 ox4 ?_
                refine pw_cmpF rfl (by decide) ⟨rx4, sx4⟩ (show ¬ (x4 < 1) by omega) ?_
                refine pw_steps 2 (s' := (18, [some (.ref ((sf_ a))), some (.int (ei_ ((p + 1)))), some (.int (ei_ (1)))], [.ref ((sf_ a)), .int (ei_ ((p + 1)))], m)) rfl ?_
                refine pw_getE (x := x4) rfl (sf_ok (a := a) (by omega)).2.2.1 ox4 ?_
                refine pw_steps 2 (s' := (23, [some (.ref ((sf_ a))), some (.int (ei_ ((p + 1)))), some (.int (ei_ (1)))], [.int ((ei_ (x4)) - (ei_ (1))), .int (ei_ ((p + 1)))], m)) rfl ?_
                refine pw_cv (congrArg (fun z_ : Int32 => ((23, [some (.ref ((sf_ a))), some (.int (ei_ ((p + 1)))), some (.int (ei_ (1)))], [.int z_, .int (ei_ ((p + 1)))], m) : am_S)) (ei_sub rfl rfl)) ?_
                refine pw_cmpF rfl (by omega) (by omega) (show ¬ ((x4 - 1) < (p + 1)) by omega) ?_
                refine pw_steps 2 (s' := (31, [some (.ref ((sf_ a))), some (.int (ei_ ((p + 1)))), some (.int (ei_ (1)))], [.int (ei_ (1))], m)) rfl ?_
                refine pw_iret rfl rfl rfl ?_
                refine pw_ifF rfl (by decide) (show ¬ (1 = 0) by decide) ?_
                refine pw_steps 1 (s' := (10, [some (.ref ((sf_ a))), some (.int (ei_ ((p + 1))))], [.ref ((sf_ a))], m)) rfl ?_
                refine pw_getR (r := (sf_ a) + 1) rfl (sf_ok (a := a) (by omega)).2.2.2.1 ?_
                refine pw_steps 1 (s' := (14, [some (.ref ((sf_ a))), some (.int (ei_ ((p + 1))))], [.int (ei_ ((p + 1))), .ref ((sf_ a) + 1)], m)) rfl ?_
                refine pw_lld rfl (sf_ok (a := a) (by omega)).2.2.2.2 (by omega) (fun y12 (hy12 : y12 = vl_ m ((sf_ a) + 1) (p + 1)) ry12 sy12 => ?_)
                replace hy12 : y12 = vl_ m0 ((sf_ a) + 1) (p + 1) := hy12.trans (congrFun (sm_l p2) _)
                have b13 := hsg (p + 1) (by omega) (by omega)
                refine pw_steps 2 (s' := (20, [some (.ref ((sf_ a))), some (.int (ei_ ((p + 1))))], [.int ((el_ (y12)).toInt32)], m)) rfl ?_
                refine pw_cv (congrArg (fun z_ : Int32 => ((20, [some (.ref ((sf_ a))), some (.int (ei_ ((p + 1))))], [.int z_], m) : am_S)) (ei_l2i rfl)) ?_
                refine pw_iret rfl rfl rfl ?_
                refine pw_call (As := [.int (ei_ (y12))]) (st := []) (k := 1) rfl rfl rfl rfl rfl (Nat.le_of_ble_eq_true rfl) ?_
                refine pw_intro (I := iX3_has) (T := tX3_has) rfl rfl rfl ?_
                refine pw_steps 1 (s' := (1, [some (.ref 1), some (.int (ei_ (y12)))], [.int (ei_ (y12))], m)) rfl ?_
                refine pw_if rfl (by omega) (fun (h14 : y12 < 0) => ?_) (fun (h14 : ¬ (y12 < 0)) => ?_)
                · refine pw_steps 1 (s' := (17, [some (.ref 1), some (.int (ei_ (y12)))], [.int (ei_ (0))], m)) rfl ?_
                  refine pw_iret rfl rfl rfl ?_
                  refine pw_ifT rfl (by decide) (show 0 = 0 by decide) ?_
                  refine pw_steps 1 (s' := (42, [some (.ref 0), some (.ref ((sf_ a))), some (.int (ei_ (p)))], [.int (ei_ (0))], m)) rfl ?_
                  refine pw_iret rfl rfl rfl ?_
                  refine pw_ifF rfl (by decide) (show ¬ (¬ 0 = 0) by decide) ?_
                  refine pw_steps 1 (s' := (20, [some (.ref 0), some (.ref ((sf_ a))), some (.int (ei_ (p)))], [.int (ei_ (0))], m)) rfl ?_
                  refine pw_iret rfl rfl rfl ?_
                  exact k1 (by intro h_; have h3_ := h_ k (by omega) (by omega); rw [← hpk] at h3_; obtain ⟨e1_, e2_, e3_⟩ := h3_; subst hy8; subst hy12; omega)
                · refine pw_steps 2 (s' := (6, [some (.ref 1), some (.int (ei_ (y12)))], [.ref 1, .int (ei_ (y12))], m)) rfl ?_
                  refine pw_get rfl rfl (fun x15 (hx15 : x15 = vi_ m 1 1) rx15 sx15 => ?_)
                  have ox15 := hx15
                  replace hx15 : x15 = vi_ m0 1 1 := hx15.trans (sm_v p2 rfl)
                  refine pw_cmp rfl (by omega) ⟨rx15, sx15⟩ (fun (h16 : x15 ≤ y12) => ?_) (fun (h16 : ¬ (x15 ≤ y12)) => ?_)
                  · refine pw_steps 1 (s' := (17, [some (.ref 1), some (.int (ei_ (y12)))], [.int (ei_ (0))], m)) rfl ?_
                    refine pw_iret rfl rfl rfl ?_
                    refine pw_ifT rfl (by decide) (show 0 = 0 by decide) ?_
                    refine pw_steps 1 (s' := (42, [some (.ref 0), some (.ref ((sf_ a))), some (.int (ei_ (p)))], [.int (ei_ (0))], m)) rfl ?_
                    refine pw_iret rfl rfl rfl ?_
                    refine pw_ifF rfl (by decide) (show ¬ (¬ 0 = 0) by decide) ?_
                    refine pw_steps 1 (s' := (20, [some (.ref 0), some (.ref ((sf_ a))), some (.int (ei_ (p)))], [.int (ei_ (0))], m)) rfl ?_
                    refine pw_iret rfl rfl rfl ?_
                    exact k1 (by intro h_; have h3_ := h_ k (by omega) (by omega); rw [← hpk] at h3_; obtain ⟨e1_, e2_, e3_⟩ := h3_; subst hy8; subst hy12; omega)
                  · refine pw_steps 2 (s' := (17, [some (.ref 1), some (.int (ei_ (y12)))], [.int (ei_ (1))], m)) rfl ?_
                    refine pw_iret rfl rfl rfl ?_
                    refine pw_ifF rfl (by decide) (show ¬ (1 = 0) by decide) ?_
                    refine pw_steps 2 (s' := (42, [some (.ref 0), some (.ref ((sf_ a))), some (.int (ei_ (p)))], [.int (ei_ (1))], m)) rfl ?_
                    refine pw_iret rfl rfl rfl ?_
                    refine pw_ifT rfl (by decide) (show ¬ 1 = 0 by decide) ?_
                    refine pw_steps 2 (s' := (2, [some (.ref 0), some (.ref ((sf_ a))), some (.int ((ei_ (p)) + (ei_ (3))))], [], m)) rfl ?_
                    refine pw_cv (congrArg (fun z_ : Int32 => ((2, [some (.ref 0), some (.ref ((sf_ a))), some (.int z_)], [], m) : am_S)) (ei_add rfl rfl)) ?_
                    exact ih2 _ (by omega) (p + 3) (k + 1) rfl (by omega) (by omega) (by subst hy8; subst hy12; exact al_s (by omega) hv hpk ⟨by omega, by omega, by omega⟩)
  exact L3 _ 0 0 rfl (by omega) (by omega) (by intro j a_ b_; omega)

set_option maxHeartbeats 4000000 in
set_option maxRecDepth 20000 in
theorem cs_bwS {q : am_X} {d : Nat} {m : am_M} {Q : Option Value → am_M → Prop} {m0 : am_M} {n0 : Int} {a : Int} (p0 : rP_ m0) (p1 : rD_ m0) (p2 : rZ_ m0) (p3 : sm_ pSc m0 m) (p4 : vi_ m0 1 1 ≤ 5) (p5 : 0 ≤ n0 ∧ n0 ≤ 99) (p6 : sg3_ m0 a) (p7 : al3_ m0 a) (k0 : ∀ (m1 : am_M), (sm_ pSc m0 m1) → (wa_ (vi_ m0 1 1) 0 m1) → (∀ i, 0 ≤ i → i < vi_ m0 1 1 → vi_ m1 21 i = vi_ m0 2 (16 + i)) → (∀ j o n, 0 ≤ j → j < vi_ m0 1 1 → 0 ≤ o → o < vi_ m0 1 1 → 1 ≤ n → n ≤ vi_ m0 1 1 → vi_ m1 23 (((j * 5) + o) * 5 + n - 1) = cS_ m0 a j o n) → Q none m1) : pw_C q (d + 12) 67 [.ref 0, .int (ei_ (n0)), .ref ((sf_ a))] m Q := by
  obtain ⟨hP1, hP2, hP3, hP4⟩ := id p0
  obtain ⟨hsa, hsz, hsg⟩ := id p6
  refine pw_intro (I := iX8_beginWays) (T := tX8_beginWays) rfl rfl rfl ?_
  refine pw_steps 4 (s' := (8, [some (.ref 0), some (.int (ei_ (n0))), some (.ref ((sf_ a))), none, none, none, none, none], [.ref 1, .ref 18], m)) rfl ?_
  refine pw_call (As := []) (st := [.ref 18]) (k := 1) rfl rfl rfl rfl rfl (Nat.le_of_ble_eq_true rfl) ?_
  refine pw_intro (I := iX3_size) (T := tX3_size) rfl rfl rfl ?_
  refine pw_steps 1 (s' := (1, [some (.ref 1)], [.ref 1], m)) rfl ?_
  refine pw_get rfl rfl (fun x1 (hx1 : x1 = vi_ m 1 1) rx1 sx1 => ?_)
  have ox1 := hx1
  replace hx1 : x1 = vi_ m0 1 1 := hx1.trans (sm_v p3 rfl)
  refine pw_iret rfl rfl rfl ?_
  refine pw_call (As := [.int (ei_ (x1))]) (st := []) (k := 18) rfl rfl rfl rfl rfl (Nat.le_of_ble_eq_true rfl) ?_
  refine cw_begin (by omega) (fun m12 g3 g4 => ?_)
  rw [show x1 = vi_ m0 1 1 by omega] at g4
  have h18_ := g4.1
  refine pw_steps 2 (s' := (16, [some (.ref 0), some (.int (ei_ (n0))), some (.ref ((sf_ a))), some (.int (ei_ (0))), none, none, none, none], [], m12)) rfl ?_
  have L11 : ∀ (n9 : Nat) (oa : Int) (u5 : Option Value) (u6 : Option Value) (u7 : Option Value) (u8 : Option Value) (m1 : am_M), (vi_ m0 1 1 - oa).toNat = n9 → (0 ≤ oa ∧ oa ≤ vi_ m0 1 1) → (sm_ pSc m0 m1) → (vi_ m1 18 5 = vi_ m0 1 1) → (wa_ (vi_ m0 1 1) 0 m1) → (∀ i, 0 ≤ i → i < oa → vi_ m1 21 i = vi_ m0 2 (16 + i)) → (∀ j o n, 0 ≤ j → j < vi_ m0 1 1 → 0 ≤ o → o < vi_ m0 1 1 → 1 ≤ n → n ≤ vi_ m0 1 1 → (o < oa) → vi_ m1 23 (((j * 5) + o) * 5 + n - 1) = cS_ m0 a j o n) → pw_V q (d + 11) iX8_beginWays.2.2.2.1 tX8_beginWays Q (16, [some (.ref 0), some (.int (ei_ (n0))), some (.ref ((sf_ a))), some (.int (ei_ (oa))), u5, u6, u7, u8], [], m1) := by
    intro n9
    induction n9 using Nat.strongRecOn with
    | _ n9 ih10 =>
      intro oa u5 u6 u7 u8 m1 hm_n9 v12 hs1 v13 hwm1 hcm1 hTm1
      refine pw_steps 3 (s' := (21, [some (.ref 0), some (.int (ei_ (n0))), some (.ref ((sf_ a))), some (.int (ei_ (oa))), u5, u6, u7, u8], [.ref 1, .int (ei_ (oa))], m1)) rfl ?_
      refine pw_call (As := []) (st := [.int (ei_ (oa))]) (k := 1) rfl rfl rfl rfl rfl (Nat.le_of_ble_eq_true rfl) ?_
      refine pw_intro (I := iX3_size) (T := tX3_size) rfl rfl rfl ?_
      refine pw_steps 1 (s' := (1, [some (.ref 1)], [.ref 1], m1)) rfl ?_
      refine pw_get rfl rfl (fun x14 (hx14 : x14 = vi_ m1 1 1) rx14 sx14 => ?_)
      have ox14 := hx14
      replace hx14 : x14 = vi_ m0 1 1 := hx14.trans (sm_v hs1 rfl)
      refine pw_iret rfl rfl rfl ?_
      refine pw_cmp rfl (by omega) ⟨rx14, sx14⟩ (fun (h15 : x14 ≤ oa) => ?_) (fun (h15 : ¬ (x14 ≤ oa)) => ?_)
      · refine pw_vret rfl rfl ?_
        exact k0 m1 (hs1) (by exact hwm1) (by intro i a_ b_; exact hcm1 i a_ (by omega)) (by intro j o n h1 h2 h3 h4 h5 h6; exact hTm1 j o n h1 h2 h3 h4 h5 h6 (by omega))
      · refine pw_steps 7 (s' := (38, [some (.ref 0), some (.int (ei_ (n0))), some (.ref ((sf_ a))), some (.int (ei_ (oa))), u5, u6, u7, u8], [.int (ei_ (2)), .int (ei_ (oa)), .ref 1, .int (ei_ (oa)), .ref 18], m1)) rfl ?_
        refine pw_call (As := [.int (ei_ (oa)), .int (ei_ (2))]) (st := [.int (ei_ (oa)), .ref 18]) (k := 1) rfl rfl rfl rfl rfl (Nat.le_of_ble_eq_true rfl) ?_
        refine cw_told2 (p0) (hs1) (by omega) (fun x16 g17 g18 => ?_)
        refine pw_call (As := [.int (ei_ (oa)), .int (ei_ (x16))]) (st := []) (k := 18) rfl rfl rfl rfl rfl (Nat.le_of_ble_eq_true rfl) ?_
        refine pw_intro (I := iX7_setCoats) (T := tX7_setCoats) rfl rfl rfl ?_
        refine pw_steps 2 (s' := (2, [some (.ref 18), some (.int (ei_ (oa))), some (.int (ei_ (x16)))], [.int (ei_ (oa)), .ref 18], m1)) rfl ?_
        refine pw_call (As := [.int (ei_ (oa))]) (st := []) (k := 18) rfl rfl rfl rfl rfl (Nat.le_of_ble_eq_true rfl) ?_
        refine pw_intro (I := iX7_has) (T := tX7_has) rfl rfl rfl ?_
        refine pw_steps 1 (s' := (1, [some (.ref 18), some (.int (ei_ (oa)))], [.int (ei_ (oa))], m1)) rfl ?_
        refine pw_ifF rfl (by omega) (show ¬ (oa < 0) by omega) ?_
        refine pw_steps 2 (s' := (6, [some (.ref 18), some (.int (ei_ (oa)))], [.ref 18, .int (ei_ (oa))], m1)) rfl ?_
        refine pw_get rfl rfl (fun x19 (hx19 : x19 = vi_ m1 18 5) rx19 sx19 => ?_)
        have ox19 := hx19
        replace hx19 : x19 = vi_ m0 1 1 := hx19.trans v13
        refine pw_cmpF rfl (by omega) ⟨rx19, sx19⟩ (show ¬ (x19 ≤ oa) by omega) ?_
        refine pw_steps 2 (s' := (17, [some (.ref 18), some (.int (ei_ (oa)))], [.int (ei_ (1))], m1)) rfl ?_
        refine pw_iret rfl rfl rfl ?_
        refine pw_ifF rfl (by decide) (show ¬ (1 = 0) by decide) ?_
        refine pw_steps 4 (s' := (14, [some (.ref 18), some (.int (ei_ (oa))), some (.int (ei_ (x16)))], [.int (ei_ (x16)), .int (ei_ (oa)), .ref 21], m1)) rfl ?_
        refine pw_ist rfl rfl (by omega) ?_
        refine pw_vret rfl rfl ?_
        refine pw_steps 2 (s' := (47, [some (.ref 0), some (.int (ei_ (n0))), some (.ref ((sf_ a))), some (.int (ei_ (oa))), some (.int (ei_ (0))), u6, u7, u8], [], wi_ m1 21 (oa) (x16))) rfl ?_
        have L25 : ∀ (n23 : Nat) (ja : Int) (u20 : Option Value) (u21 : Option Value) (u22 : Option Value) (m2 : am_M), (vi_ m0 1 1 - ja).toNat = n23 → (0 ≤ ja ∧ ja ≤ vi_ m0 1 1) → (sm_ pSc m0 m2) → (vi_ m2 18 5 = vi_ m0 1 1) → (wa_ (vi_ m0 1 1) 0 m2) → (∀ i, 0 ≤ i → i < oa + 1 → vi_ m2 21 i = vi_ m0 2 (16 + i)) → (∀ j o n, 0 ≤ j → j < vi_ m0 1 1 → 0 ≤ o → o < vi_ m0 1 1 → 1 ≤ n → n ≤ vi_ m0 1 1 → (o < oa ∨ (o = oa ∧ j < ja)) → vi_ m2 23 (((j * 5) + o) * 5 + n - 1) = cS_ m0 a j o n) → pw_V q (d + 11) iX8_beginWays.2.2.2.1 tX8_beginWays Q (47, [some (.ref 0), some (.int (ei_ (n0))), some (.ref ((sf_ a))), some (.int (ei_ (oa))), some (.int (ei_ (ja))), u20, u21, u22], [], m2) := by
          intro n23
          induction n23 using Nat.strongRecOn with
          | _ n23 ih24 =>
            intro ja u20 u21 u22 m2 hm_n23 v26 hs2 v27 hwm2 hcm2 hTm2
            refine pw_steps 3 (s' := (53, [some (.ref 0), some (.int (ei_ (n0))), some (.ref ((sf_ a))), some (.int (ei_ (oa))), some (.int (ei_ (ja))), u20, u21, u22], [.ref 1, .int (ei_ (ja))], m2)) rfl ?_
            refine pw_call (As := []) (st := [.int (ei_ (ja))]) (k := 1) rfl rfl rfl rfl rfl (Nat.le_of_ble_eq_true rfl) ?_
            refine pw_intro (I := iX3_size) (T := tX3_size) rfl rfl rfl ?_
            refine pw_steps 1 (s' := (1, [some (.ref 1)], [.ref 1], m2)) rfl ?_
            refine pw_get rfl rfl (fun x28 (hx28 : x28 = vi_ m2 1 1) rx28 sx28 => ?_)
            have ox28 := hx28
            replace hx28 : x28 = vi_ m0 1 1 := hx28.trans (sm_v hs2 rfl)
            refine pw_iret rfl rfl rfl ?_
            refine pw_cmp rfl (by omega) ⟨rx28, sx28⟩ (fun (h29 : x28 ≤ ja) => ?_) (fun (h29 : ¬ (x28 ≤ ja)) => ?_)
            · refine pw_steps 2 (s' := (16, [some (.ref 0), some (.int (ei_ (n0))), some (.ref ((sf_ a))), some (.int ((ei_ (oa)) + (ei_ (1)))), some (.int (ei_ (ja))), u20, u21, u22], [], m2)) rfl ?_
              refine pw_cv (congrArg (fun z_ : Int32 => ((16, [some (.ref 0), some (.int (ei_ (n0))), some (.ref ((sf_ a))), some (.int z_), some (.int (ei_ (ja))), u20, u21, u22], [], m2) : am_S)) (ei_add rfl rfl)) ?_
              exact ih10 _ (by omega) (oa + 1) (some (.int (ei_ (ja)))) u20 u21 u22 m2 rfl (by omega) (hs2) (by refine (v27).trans (by omega)) (wa_fr (P := pCw) (sm_rfl m2) rfl (fun _ => rfl) (fun _ => rfl) hwm2) (by intro i a_ b_; rw [sm_f (P := pCz) (sm_rfl m2) (k := 21) (fun _ => rfl)]; exact hcm2 i a_ (by omega)) (by intro j o n h1 h2 h3 h4 h5 h6 h7; exact hTm2 j o n h1 h2 h3 h4 h5 h6 (by omega))
            · refine pw_steps 2 (s' := (62, [some (.ref 0), some (.int (ei_ (n0))), some (.ref ((sf_ a))), some (.int (ei_ (oa))), some (.int (ei_ (ja))), some (.int (ei_ (1))), u21, u22], [], m2)) rfl ?_
              have L34 : ∀ (n32 : Nat) (na : Int) (u30 : Option Value) (u31 : Option Value) (m3 : am_M), (vi_ m0 1 1 + 1 - na).toNat = n32 → (1 ≤ na ∧ na ≤ vi_ m0 1 1 + 1) → (sm_ pSc m0 m3) → (vi_ m3 18 5 = vi_ m0 1 1) → (wa_ (vi_ m0 1 1) 0 m3) → (∀ i, 0 ≤ i → i < oa + 1 → vi_ m3 21 i = vi_ m0 2 (16 + i)) → (∀ j o n, 0 ≤ j → j < vi_ m0 1 1 → 0 ≤ o → o < vi_ m0 1 1 → 1 ≤ n → n ≤ vi_ m0 1 1 → (o < oa ∨ (o = oa ∧ (j < ja ∨ (j = ja ∧ n < na)))) → vi_ m3 23 (((j * 5) + o) * 5 + n - 1) = cS_ m0 a j o n) → pw_V q (d + 11) iX8_beginWays.2.2.2.1 tX8_beginWays Q (62, [some (.ref 0), some (.int (ei_ (n0))), some (.ref ((sf_ a))), some (.int (ei_ (oa))), some (.int (ei_ (ja))), some (.int (ei_ (na))), u30, u31], [], m3) := by
                intro n32
                induction n32 using Nat.strongRecOn with
                | _ n32 ih33 =>
                  intro na u30 u31 m3 hm_n32 v35 hs3 v36 hwm3 hcm3 hTm3
                  refine pw_steps 3 (s' := (68, [some (.ref 0), some (.int (ei_ (n0))), some (.ref ((sf_ a))), some (.int (ei_ (oa))), some (.int (ei_ (ja))), some (.int (ei_ (na))), u30, u31], [.ref 1, .int (ei_ (na))], m3)) rfl ?_
                  refine pw_call (As := []) (st := [.int (ei_ (na))]) (k := 1) rfl rfl rfl rfl rfl (Nat.le_of_ble_eq_true rfl) ?_
                  refine pw_intro (I := iX3_size) (T := tX3_size) rfl rfl rfl ?_
                  refine pw_steps 1 (s' := (1, [some (.ref 1)], [.ref 1], m3)) rfl ?_
                  refine pw_get rfl rfl (fun x37 (hx37 : x37 = vi_ m3 1 1) rx37 sx37 => ?_)
                  have ox37 := hx37
                  replace hx37 : x37 = vi_ m0 1 1 := hx37.trans (sm_v hs3 rfl)
                  refine pw_iret rfl rfl rfl ?_
                  refine pw_cmp rfl (by omega) ⟨rx37, sx37⟩ (fun (h38 : x37 < na) => ?_) (fun (h38 : ¬ (x37 < na)) => ?_)
                  · refine pw_steps 2 (s' := (47, [some (.ref 0), some (.int (ei_ (n0))), some (.ref ((sf_ a))), some (.int (ei_ (oa))), some (.int ((ei_ (ja)) + (ei_ (1)))), some (.int (ei_ (na))), u30, u31], [], m3)) rfl ?_
                    refine pw_cv (congrArg (fun z_ : Int32 => ((47, [some (.ref 0), some (.int (ei_ (n0))), some (.ref ((sf_ a))), some (.int (ei_ (oa))), some (.int z_), some (.int (ei_ (na))), u30, u31], [], m3) : am_S)) (ei_add rfl rfl)) ?_
                    exact ih24 _ (by omega) (ja + 1) (some (.int (ei_ (na)))) u30 u31 m3 rfl (by omega) (hs3) (by refine (v36).trans (by omega)) (wa_fr (P := pCw) (sm_rfl m3) rfl (fun _ => rfl) (fun _ => rfl) hwm3) (by intro i a_ b_; rw [sm_f (P := pCz) (sm_rfl m3) (k := 21) (fun _ => rfl)]; exact hcm3 i a_ (by omega)) (by intro j o n h1 h2 h3 h4 h5 h6 h7; exact hTm3 j o n h1 h2 h3 h4 h5 h6 (by omega))
                  · refine pw_steps 6 (s' := (84, [some (.ref 0), some (.int (ei_ (n0))), some (.ref ((sf_ a))), some (.int (ei_ (oa))), some (.int (ei_ (ja))), some (.int (ei_ (na))), u30, u31], [.ref 1, .int (ei_ (na)), .int (ei_ (oa)), .int (ei_ (ja)), .ref 0], m3)) rfl ?_
                    refine pw_call (As := []) (st := [.int (ei_ (na)), .int (ei_ (oa)), .int (ei_ (ja)), .ref 0]) (k := 1) rfl rfl rfl rfl rfl (Nat.le_of_ble_eq_true rfl) ?_
                    refine pw_intro (I := iX3_cold) (T := tX3_cold) rfl rfl rfl ?_
                    refine pw_steps 3 (s' := (3, [some (.ref 1)], [.int (ei_ (4)), .int (ei_ (0)), .ref 1], m3)) rfl ?_
                    refine pw_call (As := [.int (ei_ (0)), .int (ei_ (4))]) (st := []) (k := 1) rfl rfl rfl rfl rfl (Nat.le_of_ble_eq_true rfl) ?_
                    refine cw_told4 (p0) (hs3) (fun x39 g40 g41 => ?_)
                    refine pw_iret rfl rfl rfl ?_
                    refine pw_call (As := [.int (ei_ (ja)), .int (ei_ (oa)), .int (ei_ (na)), .int (ei_ (x39))]) (st := []) (k := 0) rfl rfl rfl rfl rfl (Nat.le_of_ble_eq_true rfl) ?_
                    refine cw_rate2 (p0) (p2) (hs3) (by omega) (by omega) (by omega) (by omega) (fun x42 m143 g44 g45 g46 => ?_)
                    refine pw_steps 8 (s' := (115, [some (.ref 0), some (.int (ei_ (n0))), some (.ref ((sf_ a))), some (.int (ei_ (oa))), some (.int (ei_ (ja))), some (.int (ei_ (na))), some (.int (ei_ (x42))), u31], [.int (ei_ (x42)), .int (ei_ (oa)), .int (ei_ (ja)), .ref ((sf_ a)), .ref 0], m143)) rfl ?_
                    refine pw_call (As := [.ref ((sf_ a)), .int (ei_ (ja)), .int (ei_ (oa)), .int (ei_ (x42))]) (st := []) (k := 0) rfl rfl rfl rfl rfl (Nat.le_of_ble_eq_true rfl) ?_
                    refine cw_notSo (a := a) (p0) (p1.2.1) ((sm_tr hs3 (sm_le g45 pLw_Sc))) (p6) (p7) (by omega) (by omega) (by omega) (fun x47 g48 g49 => ?_)
                    refine pw_steps 7 (s' := (131, [some (.ref 0), some (.int (ei_ (n0))), some (.ref ((sf_ a))), some (.int (ei_ (oa))), some (.int (ei_ (ja))), some (.int (ei_ (na))), some (.int (ei_ (x42))), some (.int (ei_ (x47)))], [.int (ei_ (x47)), .int (ei_ (na)), .int (ei_ (oa)), .int (ei_ (ja)), .ref 18], m143)) rfl ?_
                    refine pw_call (As := [.int (ei_ (ja)), .int (ei_ (oa)), .int (ei_ (na)), .int (ei_ (x47))]) (st := []) (k := 18) rfl rfl rfl rfl rfl (Nat.le_of_ble_eq_true rfl) ?_
                    refine pw_intro (I := iX7_setCost) (T := tX7_setCost) rfl rfl rfl ?_
                    refine pw_steps 2 (s' := (2, [some (.ref 18), some (.int (ei_ (ja))), some (.int (ei_ (oa))), some (.int (ei_ (na))), some (.int (ei_ (x47)))], [.int (ei_ (ja)), .ref 18], m143)) rfl ?_
                    refine pw_call (As := [.int (ei_ (ja))]) (st := []) (k := 18) rfl rfl rfl rfl rfl (Nat.le_of_ble_eq_true rfl) ?_
                    refine pw_intro (I := iX7_has) (T := tX7_has) rfl rfl rfl ?_
                    refine pw_steps 1 (s' := (1, [some (.ref 18), some (.int (ei_ (ja)))], [.int (ei_ (ja))], m143)) rfl ?_
                    refine pw_ifF rfl (by omega) (show ¬ (ja < 0) by omega) ?_
                    refine pw_steps 2 (s' := (6, [some (.ref 18), some (.int (ei_ (ja)))], [.ref 18, .int (ei_ (ja))], m143)) rfl ?_
                    refine pw_get rfl rfl (fun x50 (hx50 : x50 = vi_ m143 18 5) rx50 sx50 => ?_)
                    have ox50 := hx50
                    replace hx50 : x50 = vi_ m3 18 5 := hx50.trans (sm_v g45 rfl)
                    replace hx50 : x50 = vi_ m0 1 1 := hx50.trans v36
                    refine pw_cmpF rfl (by omega) ⟨rx50, sx50⟩ (show ¬ (x50 ≤ ja) by omega) ?_
                    refine pw_steps 2 (s' := (17, [some (.ref 18), some (.int (ei_ (ja)))], [.int (ei_ (1))], m143)) rfl ?_
                    refine pw_iret rfl rfl rfl ?_
                    refine pw_ifF rfl (by decide) (show ¬ (1 = 0) by decide) ?_
                    refine pw_steps 2 (s' := (10, [some (.ref 18), some (.int (ei_ (ja))), some (.int (ei_ (oa))), some (.int (ei_ (na))), some (.int (ei_ (x47)))], [.int (ei_ (oa)), .ref 18], m143)) rfl ?_
                    refine pw_call (As := [.int (ei_ (oa))]) (st := []) (k := 18) rfl rfl rfl rfl rfl (Nat.le_of_ble_eq_true rfl) ?_
                    refine pw_intro (I := iX7_has) (T := tX7_has) rfl rfl rfl ?_
                    refine pw_steps 1 (s' := (1, [some (.ref 18), some (.int (ei_ (oa)))], [.int (ei_ (oa))], m143)) rfl ?_
                    refine pw_ifF rfl (by omega) (show ¬ (oa < 0) by omega) ?_
                    refine pw_steps 2 (s' := (6, [some (.ref 18), some (.int (ei_ (oa)))], [.ref 18, .int (ei_ (oa))], m143)) rfl ?_
                    refine pw_getE (x := x50) rfl rfl ox50 ?_
                    refine pw_cmpF rfl (by omega) ⟨rx50, sx50⟩ (show ¬ (x50 ≤ oa) by omega) ?_
                    refine pw_steps 2 (s' := (17, [some (.ref 18), some (.int (ei_ (oa)))], [.int (ei_ (1))], m143)) rfl ?_
                    refine pw_iret rfl rfl rfl ?_
                    refine pw_ifF rfl (by decide) (show ¬ (1 = 0) by decide) ?_
                    refine pw_steps 4 (s' := (20, [some (.ref 18), some (.int (ei_ (ja))), some (.int (ei_ (oa))), some (.int (ei_ (na))), some (.int (ei_ (x47)))], [.int ((ei_ (na)) - (ei_ (1))), .ref 18], m143)) rfl ?_
                    refine pw_cv (congrArg (fun z_ : Int32 => ((20, [some (.ref 18), some (.int (ei_ (ja))), some (.int (ei_ (oa))), some (.int (ei_ (na))), some (.int (ei_ (x47)))], [.int z_, .ref 18], m143) : am_S)) (ei_sub rfl rfl)) ?_
                    refine pw_call (As := [.int (ei_ ((na - 1)))]) (st := []) (k := 18) rfl rfl rfl rfl rfl (Nat.le_of_ble_eq_true rfl) ?_
                    refine pw_intro (I := iX7_has) (T := tX7_has) rfl rfl rfl ?_
                    refine pw_steps 1 (s' := (1, [some (.ref 18), some (.int (ei_ ((na - 1))))], [.int (ei_ ((na - 1)))], m143)) rfl ?_
                    refine pw_ifF rfl (by omega) (show ¬ ((na - 1) < 0) by omega) ?_
                    refine pw_steps 2 (s' := (6, [some (.ref 18), some (.int (ei_ ((na - 1))))], [.ref 18, .int (ei_ ((na - 1)))], m143)) rfl ?_
                    refine pw_getE (x := x50) rfl rfl ox50 ?_
                    refine pw_cmpF rfl (by omega) ⟨rx50, sx50⟩ (show ¬ (x50 ≤ (na - 1)) by omega) ?_
                    refine pw_steps 2 (s' := (17, [some (.ref 18), some (.int (ei_ ((na - 1))))], [.int (ei_ (1))], m143)) rfl ?_
                    refine pw_iret rfl rfl rfl ?_
                    refine pw_ifF rfl (by decide) (show ¬ (1 = 0) by decide) ?_
                    refine pw_steps 5 (s' := (33, [some (.ref 18), some (.int (ei_ (ja))), some (.int (ei_ (oa))), some (.int (ei_ (na))), some (.int (ei_ (x47)))], [.int (ei_ (na)), .int (ei_ (oa)), .int (ei_ (ja)), .ref 23], m143)) rfl ?_
                    refine pw_callS (As := [.int (ei_ (ja)), .int (ei_ (oa)), .int (ei_ (na))]) (st := [.ref 23]) rfl (by decide) rfl rfl (Nat.le_of_ble_eq_true rfl) ?_
                    refine pw_intro (I := iX7_placeOf) (T := tX7_placeOf) rfl rfl rfl ?_
                    refine pw_steps 11 (s' := (11, [some (.int (ei_ (ja))), some (.int (ei_ (oa))), some (.int (ei_ (na)))], [.int ((((((ei_ (ja)) * (ei_ (5))) + (ei_ (oa))) * (ei_ (5))) + (ei_ (na))) - (ei_ (1)))], m143)) rfl ?_
                    refine pw_cv (congrArg (fun z_ : Int32 => ((11, [some (.int (ei_ (ja))), some (.int (ei_ (oa))), some (.int (ei_ (na)))], [.int z_], m143) : am_S)) (ei_sub (ei_add (ei_mul (ei_add (ei_mul rfl rfl) rfl) rfl) rfl) rfl)) ?_
                    refine pw_iret rfl rfl rfl ?_
                    refine pw_steps 1 (s' := (38, [some (.ref 18), some (.int (ei_ (ja))), some (.int (ei_ (oa))), some (.int (ei_ (na))), some (.int (ei_ (x47)))], [.int (ei_ (x47)), .int (ei_ ((((((ja * 5) + oa) * 5) + na) - 1))), .ref 23], m143)) rfl ?_
                    refine pw_ist rfl rfl (by omega) ?_
                    refine pw_vret rfl rfl ?_
                    refine pw_steps 2 (s' := (62, [some (.ref 0), some (.int (ei_ (n0))), some (.ref ((sf_ a))), some (.int (ei_ (oa))), some (.int (ei_ (ja))), some (.int ((ei_ (na)) + (ei_ (1)))), some (.int (ei_ (x42))), some (.int (ei_ (x47)))], [], wi_ m143 23 ((((((ja * 5) + oa) * 5) + na) - 1)) (x47))) rfl ?_
                    refine pw_cv (congrArg (fun z_ : Int32 => ((62, [some (.ref 0), some (.int (ei_ (n0))), some (.ref ((sf_ a))), some (.int (ei_ (oa))), some (.int (ei_ (ja))), some (.int z_), some (.int (ei_ (x42))), some (.int (ei_ (x47)))], [], wi_ m143 23 ((((((ja * 5) + oa) * 5) + na) - 1)) (x47)) : am_S)) (ei_add rfl rfl)) ?_
                    exact ih33 _ (by omega) (na + 1) (some (.int (ei_ (x42)))) (some (.int (ei_ (x47)))) (wi_ m143 23 ((((((ja * 5) + oa) * 5) + na) - 1)) (x47)) rfl (by omega) ((sm_w (sm_tr hs3 (sm_le g45 pLw_Sc)) (fun _ h_ => by rw [h_]; rfl))) (by refine (((sm_v g45 rfl).trans v36)).trans (by omega)) (wa_fr (P := pCw) (sm_w (sm_le g45 pLw_Cw) (fun _ h_ => by rw [h_]; rfl)) rfl (fun _ => rfl) (fun _ => rfl) hwm3) (by intro i a_ b_; rw [sm_f (P := pCz) (sm_w (sm_le g45 pLw_Cz) (fun _ h_ => by rw [h_]; rfl)) (k := 21) (fun _ => rfl)]; exact hcm3 i a_ (by omega)) (by intro j o n h1 h2 h3 h4 h5 h6 h7; rw [vi_up (by omega) (by omega) (by omega)]; by_cases e_ : j = ja ∧ o = oa ∧ n = na; (rw [if_pos (by omega), e_.1, e_.2.1, e_.2.2]; rw [g48, g44, g40]; rfl); (rw [if_neg (by omega), sm_f (P := pLw) g45 (k := 23) (fun _ => rfl)]; exact hTm3 j o n h1 h2 h3 h4 h5 h6 (by omega)))
              exact L34 _ 1 u21 u22 m2 rfl (by omega) (hs2) (by refine (v27).trans (by omega)) (wa_fr (P := pCw) (sm_rfl m2) rfl (fun _ => rfl) (fun _ => rfl) hwm2) (by intro i a_ b_; rw [sm_f (P := pCz) (sm_rfl m2) (k := 21) (fun _ => rfl)]; exact hcm2 i a_ (by omega)) (by intro j o n h1 h2 h3 h4 h5 h6 h7; exact hTm2 j o n h1 h2 h3 h4 h5 h6 (by omega))
        exact L25 _ 0 u6 u7 u8 (wi_ m1 21 (oa) (x16)) rfl (by omega) ((sm_w hs1 (fun _ h_ => by rw [h_]; rfl))) (by refine (v13).trans (by omega)) (wa_fr (P := pCw) (sm_w (sm_rfl m1) (fun _ h_ => by rw [h_]; rfl)) rfl (fun _ => rfl) (fun _ => rfl) hwm1) (by intro i a_ b_; rw [vi_up (by omega) (by omega) (by omega)]; by_cases e_ : i = oa; (rw [if_pos e_, e_]; exact g17); (rw [if_neg e_]; exact hcm1 i a_ (by omega))) (by intro j o n h1 h2 h3 h4 h5 h6 h7; rw [sm_f (P := pC21) (sm_w (sm_rfl m1) (fun _ h_ => by rw [h_]; rfl)) (k := 23) (fun _ => rfl)]; exact hTm1 j o n h1 h2 h3 h4 h5 h6 (by omega))
  exact L11 _ 0 none none none none m12 rfl (by omega) ((sm_tr p3 (sm_le g3 pWb_Sc))) (by refine (h18_).trans (by omega)) (wa_fr (P := pCw) (sm_rfl m12) rfl (fun _ => rfl) (fun _ => rfl) g4) (by intro i a_ b_; omega) (by intro j o n h1 h2 h3 h4 h5 h6 h7; omega)

set_option maxHeartbeats 4000000 in
set_option maxRecDepth 20000 in
theorem cw_make {q : am_X} {d : Nat} {m : am_M} {Q : Option Value → am_M → Prop} {m0 : am_M} {a : Int} (p0 : rP_ m0) (p1 : rD_ m0) (p2 : rZ_ m0) (p3 : sm_ pSc m0 m) (p4 : sg3_ m0 a) (p5 : al3_ m0 a) (p6 : vi_ m0 1 1 ≤ 5) (k0 : ∀ (f : Int) (y : Int) (m1 : am_M), (wc_ (sat_ m0 a) (tt_ m0).toNat f y) → (0 ≤ f ∧ f ≤ 3125) → (vi_ m1 18 5 = vi_ m0 1 1) → (f ≠ 0 → ∀ j, 0 ≤ j → j < vi_ m0 1 1 → vi_ m1 22 j = wy_ (vi_ m0 1 1) y j) → (sm_ pSc m0 m1) → Q (some (.int (ei_ (f)))) m1) : pw_C q (d + 14) 106 [.ref 0, .ref ((sf_ a))] m Q := by
  obtain ⟨hP1, hP2, hP3, hP4⟩ := id p0
  obtain ⟨hsa, hsz, hsg⟩ := id p4
  refine pw_intro (I := iX8_waysThatMakeSo) (T := tX8_waysThatMakeSo) rfl rfl rfl ?_
  refine pw_steps 3 (s' := (3, [some (.ref 0), some (.ref ((sf_ a))), none, none, none], [.ref ((sf_ a)), .int (ei_ (0)), .ref 0], m)) rfl ?_
  refine pw_call (As := [.int (ei_ (0)), .ref ((sf_ a))]) (st := []) (k := 0) rfl rfl rfl rfl rfl (Nat.le_of_ble_eq_true rfl) ?_
  refine cs_bwS (a := a) (p0) (p1) (p2) (p3) (p6) (by omega) (p4) (p5) (fun m11 g2 g3 g4 g5 => ?_)
  have h18b_ := g3.1
  refine pw_steps 4 (s' := (12, [some (.ref 0), some (.ref ((sf_ a))), some (.int (ei_ (0))), none, none], [.ref 18], m11)) rfl ?_
  refine pw_call (As := []) (st := []) (k := 18) rfl rfl rfl rfl rfl (Nat.le_of_ble_eq_true rfl) ?_
  refine cw_total (P := (vi_ m0 1 1)) ((g3).1) (⟨by omega, by omega⟩) (fun x6 g7 g8 => ?_)
  have htt_ : x6 = tt_ m0 := g7
  refine pw_steps 3 (s' := (19, [some (.ref 0), some (.ref ((sf_ a))), some (.int (ei_ (0))), some (.int (ei_ (x6))), some (.int (ei_ (0)))], [], m11)) rfl ?_
  have L11 : ∀ (n9 : Nat) (f : Int) (k : Int) (m1 : am_M) (y : Int), (tt_ m0 - k).toNat = n9 → (0 ≤ k ∧ k ≤ tt_ m0) → (sm_ pSc m0 m1) → (vi_ m1 18 5 = vi_ m0 1 1) → (wa_ (vi_ m0 1 1) k m1) → (∀ i, 0 ≤ i → i < vi_ m0 1 1 → vi_ m1 21 i = vi_ m0 2 (16 + i)) → (∀ j o n, 0 ≤ j → j < vi_ m0 1 1 → 0 ≤ o → o < vi_ m0 1 1 → 1 ≤ n → n ≤ vi_ m0 1 1 → vi_ m1 23 (((j * 5) + o) * 5 + n - 1) = cS_ m0 a j o n) → (wc_ (sat_ m0 a) k.toNat f y) → (0 ≤ f ∧ f ≤ k) → (f ≠ 0 → ∀ j, 0 ≤ j → j < vi_ m0 1 1 → vi_ m1 22 j = wy_ (vi_ m0 1 1) y j) → pw_V q (d + 13) iX8_waysThatMakeSo.2.2.2.1 tX8_waysThatMakeSo Q (19, [some (.ref 0), some (.ref ((sf_ a))), some (.int (ei_ (f))), some (.int (ei_ (x6))), some (.int (ei_ (k)))], [], m1) := by
    intro n9
    induction n9 using Nat.strongRecOn with
    | _ n9 ih10 =>
      intro f k m1 y hm_n9 hk hs h18 hW hCO hTB hX hf hF
      have ct_ := tt_b p0 (by omega)
      refine pw_steps 2 (s' := (22, [some (.ref 0), some (.ref ((sf_ a))), some (.int (ei_ (f))), some (.int (ei_ (x6))), some (.int (ei_ (k)))], [.int (ei_ (x6)), .int (ei_ (k))], m1)) rfl ?_
      refine pw_cmp rfl (by omega) (by omega) (fun (h12 : x6 ≤ k) => ?_) (fun (h12 : ¬ (x6 ≤ k)) => ?_)
      · refine pw_steps 1 (s' := (73, [some (.ref 0), some (.ref ((sf_ a))), some (.int (ei_ (f))), some (.int (ei_ (x6))), some (.int (ei_ (k)))], [.int (ei_ (f))], m1)) rfl ?_
        refine pw_iret rfl rfl rfl ?_
        exact k0 f y m1 (by rw [← show k = tt_ m0 by omega]; exact hX) (by have t_ := tt_b p0 (by omega); omega) h18 hF hs
      · refine pw_steps 2 (s' := (29, [some (.ref 0), some (.ref ((sf_ a))), some (.int (ei_ (f))), some (.int (ei_ (x6))), some (.int (ei_ (k)))], [.ref 18], m1)) rfl ?_
        refine pw_call (As := []) (st := []) (k := 18) rfl rfl rfl rfl rfl (Nat.le_of_ble_eq_true rfl) ?_
        refine cw_fits (P := (vi_ m0 1 1)) (k := k) (g := (fun i => vi_ m0 2 (16 + i))) (hW) (⟨by omega, by omega⟩) (hCO) (fun g13 => ?_) (fun g14 => ?_)
        · refine pw_ifF rfl (by decide) (show ¬ (1 = 0) by decide) ?_
          refine pw_steps 2 (s' := (39, [some (.ref 0), some (.ref ((sf_ a))), some (.int (ei_ (f))), some (.int (ei_ (x6))), some (.int (ei_ (k)))], [.ref 18], m1)) rfl ?_
          refine pw_call (As := []) (st := []) (k := 18) rfl rfl rfl rfl rfl (Nat.le_of_ble_eq_true rfl) ?_
          refine cw_cost (P := (vi_ m0 1 1)) (k := k) (ct := (cS_ m0 a)) (hW) (⟨by omega, by omega⟩) (hTB) (fun j o w_ _ _ => t3n_b p4 _ _ _) (fun x15 g16 g17 => ?_)
          have hco_ : x15 = coS_ m0 a k := g16
          refine pw_if rfl (by omega) (fun (h18 : ¬ x15 = 0) => ?_) (fun (h18 : ¬ ¬ x15 = 0) => ?_)
          · refine pw_steps 2 (s' := (63, [some (.ref 0), some (.ref ((sf_ a))), some (.int (ei_ (f))), some (.int (ei_ (x6))), some (.int (ei_ (k)))], [.ref 18], m1)) rfl ?_
            refine pw_call (As := []) (st := []) (k := 18) rfl rfl rfl rfl rfl (Nat.le_of_ble_eq_true rfl) ?_
            refine cw_goOn (P := (vi_ m0 1 1)) (k := k) (hW) (⟨by omega, by omega⟩) (fun m119 g20 g21 => ?_)
            refine pw_steps 2 (s' := (19, [some (.ref 0), some (.ref ((sf_ a))), some (.int (ei_ (f))), some (.int (ei_ (x6))), some (.int ((ei_ (k)) + (ei_ (1))))], [], m119)) rfl ?_
            refine pw_cv (congrArg (fun z_ : Int32 => ((19, [some (.ref 0), some (.ref ((sf_ a))), some (.int (ei_ (f))), some (.int (ei_ (x6))), some (.int z_)], [], m119) : am_S)) (ei_add rfl rfl)) ?_
            exact ih10 _ (by omega) f (k + 1) m119 y rfl (by omega) ((sm_tr hs (sm_le g20 pWn_Sc))) (by exact g21.1) (by exact g21) (by intro i a_ b_; rw [sm_f (P := pOn) (sm_le g20 pWn_On) (k := 21) (fun _ => rfl)]; exact hCO i a_ b_) (by intro j o n a1_ a2_ a3_ a4_ a5_ a6_; rw [sm_f (P := pOn) (sm_le g20 pWn_On) (k := 23) (fun _ => rfl)]; exact hTB j o n a1_ a2_ a3_ a4_ a5_ a6_) (by exact wc_n (by omega) hX (fun q_ => by have t_ := (coS_z p0 p4 p5).2 q_.2; omega)) (by omega) (by intro h_ j a_ b_; rw [sm_f (P := pWn) g20 (k := 22) (fun _ => rfl)]; exact hF (by omega) j a_ b_)
          · refine pw_steps 1 (s' := (46, [some (.ref 0), some (.ref ((sf_ a))), some (.int (ei_ (f))), some (.int (ei_ (x6))), some (.int (ei_ (k)))], [.int (ei_ (f))], m1)) rfl ?_
            refine pw_if rfl (by omega) (fun (h22 : ¬ f = 0) => ?_) (fun (h22 : ¬ ¬ f = 0) => ?_)
            · refine pw_steps 3 (s' := (63, [some (.ref 0), some (.ref ((sf_ a))), some (.int ((ei_ (f)) + (ei_ (1)))), some (.int (ei_ (x6))), some (.int (ei_ (k)))], [.ref 18], m1)) rfl ?_
              refine pw_cv (congrArg (fun z_ : Int32 => ((63, [some (.ref 0), some (.ref ((sf_ a))), some (.int z_), some (.int (ei_ (x6))), some (.int (ei_ (k)))], [.ref 18], m1) : am_S)) (ei_add rfl rfl)) ?_
              refine pw_call (As := []) (st := []) (k := 18) rfl rfl rfl rfl rfl (Nat.le_of_ble_eq_true rfl) ?_
              refine cw_goOn (P := (vi_ m0 1 1)) (k := k) (hW) (⟨by omega, by omega⟩) (fun m123 g24 g25 => ?_)
              refine pw_steps 2 (s' := (19, [some (.ref 0), some (.ref ((sf_ a))), some (.int (ei_ ((f + 1)))), some (.int (ei_ (x6))), some (.int ((ei_ (k)) + (ei_ (1))))], [], m123)) rfl ?_
              refine pw_cv (congrArg (fun z_ : Int32 => ((19, [some (.ref 0), some (.ref ((sf_ a))), some (.int (ei_ ((f + 1)))), some (.int (ei_ (x6))), some (.int z_)], [], m123) : am_S)) (ei_add rfl rfl)) ?_
              exact ih10 _ (by omega) (f + 1) (k + 1) m123 y rfl (by omega) ((sm_tr hs (sm_le g24 pWn_Sc))) (by exact g25.1) (by exact g25) (by intro i a_ b_; rw [sm_f (P := pOn) (sm_le g24 pWn_On) (k := 21) (fun _ => rfl)]; exact hCO i a_ b_) (by intro j o n a1_ a2_ a3_ a4_ a5_ a6_; rw [sm_f (P := pOn) (sm_le g24 pWn_On) (k := 23) (fun _ => rfl)]; exact hTB j o n a1_ a2_ a3_ a4_ a5_ a6_) (by have t_ := wc_y (by omega) hX (show sat_ m0 a k from ⟨g13, (coS_z p0 p4 p5).1 (by omega)⟩); rw [if_neg (by omega)] at t_; exact t_) (by omega) (by intro h_ j a_ b_; rw [sm_f (P := pWn) g24 (k := 22) (fun _ => rfl)]; exact hF (by omega) j a_ b_)
            · refine pw_steps 2 (s' := (53, [some (.ref 0), some (.ref ((sf_ a))), some (.int (ei_ (f))), some (.int (ei_ (x6))), some (.int (ei_ (k)))], [.ref 18], m1)) rfl ?_
              refine pw_call (As := []) (st := []) (k := 18) rfl rfl rfl rfl rfl (Nat.le_of_ble_eq_true rfl) ?_
              refine cw_mark (P := (vi_ m0 1 1)) ((hW).1) (⟨by omega, by omega⟩) (fun m126 g27 g28 => ?_)
              refine pw_steps 3 (s' := (63, [some (.ref 0), some (.ref ((sf_ a))), some (.int ((ei_ (f)) + (ei_ (1)))), some (.int (ei_ (x6))), some (.int (ei_ (k)))], [.ref 18], m126)) rfl ?_
              refine pw_cv (congrArg (fun z_ : Int32 => ((63, [some (.ref 0), some (.ref ((sf_ a))), some (.int z_), some (.int (ei_ (x6))), some (.int (ei_ (k)))], [.ref 18], m126) : am_S)) (ei_add rfl rfl)) ?_
              refine pw_call (As := []) (st := []) (k := 18) rfl rfl rfl rfl rfl (Nat.le_of_ble_eq_true rfl) ?_
              refine cw_goOn (P := (vi_ m0 1 1)) (k := k) (wa_fr (P := pC22) g27 rfl (fun _ => rfl) (fun _ => rfl) hW) (⟨by omega, by omega⟩) (fun m129 g30 g31 => ?_)
              refine pw_steps 2 (s' := (19, [some (.ref 0), some (.ref ((sf_ a))), some (.int (ei_ ((f + 1)))), some (.int (ei_ (x6))), some (.int ((ei_ (k)) + (ei_ (1))))], [], m129)) rfl ?_
              refine pw_cv (congrArg (fun z_ : Int32 => ((19, [some (.ref 0), some (.ref ((sf_ a))), some (.int (ei_ ((f + 1)))), some (.int (ei_ (x6))), some (.int z_)], [], m129) : am_S)) (ei_add rfl rfl)) ?_
              exact ih10 _ (by omega) (f + 1) (k + 1) m129 k rfl (by omega) ((sm_tr (sm_tr hs (sm_le g27 pC22_Sc)) (sm_le g30 pWn_Sc))) (by exact g31.1) (by exact g31) (by intro i a_ b_; rw [sm_f (P := pOn) (sm_tr (sm_le g27 pC22_On) (sm_le g30 pWn_On)) (k := 21) (fun _ => rfl)]; exact hCO i a_ b_) (by intro j o n a1_ a2_ a3_ a4_ a5_ a6_; rw [sm_f (P := pOn) (sm_tr (sm_le g27 pC22_On) (sm_le g30 pWn_On)) (k := 23) (fun _ => rfl)]; exact hTB j o n a1_ a2_ a3_ a4_ a5_ a6_) (by have t_ := wc_y (by omega) hX (show sat_ m0 a k from ⟨g13, (coS_z p0 p4 p5).1 (by omega)⟩); rw [if_pos (by omega)] at t_; exact t_) (by omega) (by intro _ j a_ b_; rw [sm_f (P := pWn) g30 (k := 22) (fun _ => rfl), g28 j a_ b_]; exact hW.2.1 j a_ b_)
        · refine pw_ifT rfl (by decide) (show 0 = 0 by decide) ?_
          refine pw_steps 2 (s' := (63, [some (.ref 0), some (.ref ((sf_ a))), some (.int (ei_ (f))), some (.int (ei_ (x6))), some (.int (ei_ (k)))], [.ref 18], m1)) rfl ?_
          refine pw_call (As := []) (st := []) (k := 18) rfl rfl rfl rfl rfl (Nat.le_of_ble_eq_true rfl) ?_
          refine cw_goOn (P := (vi_ m0 1 1)) (k := k) (hW) (⟨by omega, by omega⟩) (fun m132 g33 g34 => ?_)
          refine pw_steps 2 (s' := (19, [some (.ref 0), some (.ref ((sf_ a))), some (.int (ei_ (f))), some (.int (ei_ (x6))), some (.int ((ei_ (k)) + (ei_ (1))))], [], m132)) rfl ?_
          refine pw_cv (congrArg (fun z_ : Int32 => ((19, [some (.ref 0), some (.ref ((sf_ a))), some (.int (ei_ (f))), some (.int (ei_ (x6))), some (.int z_)], [], m132) : am_S)) (ei_add rfl rfl)) ?_
          exact ih10 _ (by omega) f (k + 1) m132 y rfl (by omega) ((sm_tr hs (sm_le g33 pWn_Sc))) (by exact g34.1) (by exact g34) (by intro i a_ b_; rw [sm_f (P := pOn) (sm_le g33 pWn_On) (k := 21) (fun _ => rfl)]; exact hCO i a_ b_) (by intro j o n a1_ a2_ a3_ a4_ a5_ a6_; rw [sm_f (P := pOn) (sm_le g33 pWn_On) (k := 23) (fun _ => rfl)]; exact hTB j o n a1_ a2_ a3_ a4_ a5_ a6_) (by exact wc_n (by omega) hX (fun q_ => g14 q_.1)) (by omega) (by intro h_ j a_ b_; rw [sm_f (P := pWn) g33 (k := 22) (fun _ => rfl)]; exact hF (by omega) j a_ b_)
  exact L11 _ 0 0 m11 (-1) rfl (by have t_ := tt_b p0 (by omega); omega) (g2) (by exact h18b_) (by exact g3) (by exact g4) (by exact g5) (by exact ⟨rfl, rfl⟩) (by omega) (by intro h_; exact absurd rfl h_)

set_option maxHeartbeats 4000000 in
set_option maxRecDepth 20000 in
theorem cs_wore {q : am_X} {d : Nat} {m : am_M} {Q : Option Value → am_M → Prop} {m0 : am_M} {a : Int} {b : Int}  (p0 : rP_ m0) (p1 : rD_ m0) (p2 : rZ_ m0) (p3 : rL_ m0) (p4 : sm_ pSc m0 m) (p5 : rS_ m0) (p6 : vi_ m0 29 2 ≤ 50) (p7 : -2147483648 ≤ a ∧ a < 2147483648) (p8 : -2147483648 ≤ b ∧ b < 2147483648) (k0 : ∀ (x : Int) (m1 : am_M), (swo_ m0 a b x) → (sm_ pSc m0 m1) → Q (some (.int (ei_ (x)))) m1) : pw_C q (d + 60) 104 [.ref 0, .int (ei_ (a)), .int (ei_ (b))] m Q := by
  obtain ⟨hP1, hP2, hP3, hP4⟩ := id p0
  have hmw := mW_of p0 p1
  have hmf := mF_of p0 p1
  refine pw_intro (I := iX8_wore) (T := tX8_wore) rfl rfl rfl ?_
  refine pw_steps 2 (s' := (2, [some (.ref 0), some (.int (ei_ (a))), some (.int (ei_ (b))), none, none, none], [.int (ei_ ((-1))), .int (ei_ (b))], m)) rfl ?_
  refine pw_cmp rfl p8 (by decide) (fun (h1 : b = (-1)) => ?_) (fun (h1 : ¬ (b = (-1))) => ?_)
  · refine pw_steps 2 (s' := (20, [some (.ref 0), some (.int (ei_ (a))), some (.int (ei_ (b))), none, none, none], [.int (ei_ (a)), .ref 0], m)) rfl ?_
    refine pw_call (As := [.int (ei_ (a))]) (st := []) (k := 0) rfl rfl rfl rfl rfl (Nat.le_of_ble_eq_true rfl) ?_
    refine pw_intro (I := iX8_refusalOfBytes) (T := tX8_refusalOfBytes) rfl rfl rfl ?_
    refine pw_steps 1 (s' := (1, [some (.ref 0), some (.int (ei_ (a)))], [.int (ei_ (a))], m)) rfl ?_
    refine pw_callS (As := [.int (ei_ (a))]) (st := []) rfl (by decide) rfl rfl (Nat.le_of_ble_eq_true rfl) ?_
    refine pw_intro (I := iX8_isShelf) (T := tX8_isShelf) rfl rfl rfl ?_
    refine pw_steps 1 (s' := (1, [some (.int (ei_ (a)))], [.int (ei_ (a))], m)) rfl ?_
    refine pw_if rfl p7 (fun (h2 : a < 0) => ?_) (fun (h2 : ¬ (a < 0)) => ?_)
    · refine pw_steps 1 (s' := (15, [some (.int (ei_ (a)))], [.int (ei_ (0))], m)) rfl ?_
      refine pw_iret rfl rfl rfl ?_
      refine pw_ifF rfl (by decide) (show ¬ (¬ 0 = 0) by decide) ?_
      refine pw_steps 1 (s' := (8, [some (.ref 0), some (.int (ei_ (a)))], [.int (ei_ ((-1)))], m)) rfl ?_
      refine pw_iret rfl rfl rfl ?_
      refine pw_steps 2 (s' := (25, [some (.ref 0), some (.int (ei_ (a))), some (.int (ei_ (b))), some (.int (ei_ ((-1)))), none, none], [.int (ei_ ((-1)))], m)) rfl ?_
      refine pw_ifF rfl (by decide) (show ¬ ((-1) = 0) by decide) ?_
      refine pw_steps 1 (s' := (29, [some (.ref 0), some (.int (ei_ (a))), some (.int (ei_ (b))), some (.int (ei_ ((-1)))), none, none], [.int (ei_ ((-1)))], m)) rfl ?_
      refine pw_iret rfl rfl rfl ?_
      exact k0 (-1) m (by by_cases c_ : 0 ≤ a ∧ a < 6; exact Or.inl ⟨by omega, rfl⟩; by_cases c2_ : b = -1 ∨ (0 ≤ b ∧ b < vi_ m0 1 1); exact Or.inr ⟨c2_, Or.inl ⟨c_, rfl⟩⟩; exact Or.inl ⟨by omega, rfl⟩) (p4)
    · refine pw_steps 2 (s' := (7, [some (.int (ei_ (a)))], [.int (ei_ (6)), .int (ei_ (a))], m)) rfl ?_
      refine pw_cmp rfl p7 (by decide) (fun (h3 : 6 ≤ a) => ?_) (fun (h3 : ¬ (6 ≤ a)) => ?_)
      · refine pw_steps 1 (s' := (15, [some (.int (ei_ (a)))], [.int (ei_ (0))], m)) rfl ?_
        refine pw_iret rfl rfl rfl ?_
        refine pw_ifF rfl (by decide) (show ¬ (¬ 0 = 0) by decide) ?_
        refine pw_steps 1 (s' := (8, [some (.ref 0), some (.int (ei_ (a)))], [.int (ei_ ((-1)))], m)) rfl ?_
        refine pw_iret rfl rfl rfl ?_
        refine pw_steps 2 (s' := (25, [some (.ref 0), some (.int (ei_ (a))), some (.int (ei_ (b))), some (.int (ei_ ((-1)))), none, none], [.int (ei_ ((-1)))], m)) rfl ?_
        refine pw_ifF rfl (by decide) (show ¬ ((-1) = 0) by decide) ?_
        refine pw_steps 1 (s' := (29, [some (.ref 0), some (.int (ei_ (a))), some (.int (ei_ (b))), some (.int (ei_ ((-1)))), none, none], [.int (ei_ ((-1)))], m)) rfl ?_
        refine pw_iret rfl rfl rfl ?_
        exact k0 (-1) m (by by_cases c_ : 0 ≤ a ∧ a < 6; exact Or.inl ⟨by omega, rfl⟩; by_cases c2_ : b = -1 ∨ (0 ≤ b ∧ b < vi_ m0 1 1); exact Or.inr ⟨c2_, Or.inl ⟨c_, rfl⟩⟩; exact Or.inl ⟨by omega, rfl⟩) (p4)
      · refine pw_steps 2 (s' := (15, [some (.int (ei_ (a)))], [.int (ei_ (1))], m)) rfl ?_
        refine pw_iret rfl rfl rfl ?_
        refine pw_ifT rfl (by decide) (show ¬ 1 = 0 by decide) ?_
        refine pw_steps 3 (s' := (14, [some (.ref 0), some (.int (ei_ (a)))], [.int (ei_ (a)), .ref 32], m)) rfl ?_
        refine pw_ald (r0 := (sf_ a)) rfl rfl (sf_ln (by omega)) (sf_al (by omega)) ?_
        obtain ⟨hk4, hk5, hk6⟩ := p5 a (by omega) (by omega)
        rcases hk6 with ⟨hb71, hb72, hb73⟩ | ⟨hb71, hb72, hb73, hb74, hb75⟩ | ⟨hb71, hb72, hb73, hb74⟩
        · refine pw_call (As := []) (st := []) (k := (sf_ a)) rfl rfl rfl (sf_sk (by omega)) rfl (Nat.le_of_ble_eq_true rfl) ?_
          refine pw_intro (I := iX5_isEmpty) (T := tX5_isEmpty) rfl rfl rfl ?_
          refine pw_steps 1 (s' := (1, [some (.ref ((sf_ a)))], [.ref ((sf_ a))], m)) rfl ?_
          refine pw_get rfl (sf_ok (a := a) (by omega)).1 (fun x8 (hx8 : x8 = vi_ m (sf_ a) 0) rx8 sx8 => ?_)
          have ox8 := hx8
          replace hx8 : x8 = vi_ m0 (sf_ a) 0 := hx8.trans (sm_v p4 (pSc_sf (by omega) _))
          refine pw_steps 1 (s' := (5, [some (.ref ((sf_ a)))], [.int (ei_ ((-1))), .int (ei_ (x8))], m)) rfl ?_
          refine pw_cmpF rfl ⟨rx8, sx8⟩ (by decide) (show ¬ (¬ x8 = (-1)) by omega) ?_
          refine pw_steps 2 (s' := (13, [some (.ref ((sf_ a)))], [.int (ei_ (1))], m)) rfl ?_
          refine pw_iret rfl rfl rfl ?_
          refine pw_ifF rfl (by decide) (show ¬ (1 = 0) by decide) ?_
          refine pw_steps 1 (s' := (23, [some (.ref 0), some (.int (ei_ (a)))], [.int (ei_ ((-11)))], m)) rfl ?_
          refine pw_iret rfl rfl rfl ?_
          refine pw_steps 2 (s' := (25, [some (.ref 0), some (.int (ei_ (a))), some (.int (ei_ (b))), some (.int (ei_ ((-11)))), none, none], [.int (ei_ ((-11)))], m)) rfl ?_
          refine pw_ifF rfl (by decide) (show ¬ ((-11) = 0) by decide) ?_
          refine pw_steps 1 (s' := (29, [some (.ref 0), some (.int (ei_ (a))), some (.int (ei_ (b))), some (.int (ei_ ((-11)))), none, none], [.int (ei_ ((-11)))], m)) rfl ?_
          refine pw_iret rfl rfl rfl ?_
          exact k0 (-11) m (by exact Or.inr ⟨by omega, Or.inr ⟨by omega, Or.inl ⟨by omega, rfl⟩⟩⟩) (p4)
        · refine pw_call (As := []) (st := []) (k := (sf_ a)) rfl rfl rfl (sf_sk (by omega)) rfl (Nat.le_of_ble_eq_true rfl) ?_
          refine pw_intro (I := iX5_isEmpty) (T := tX5_isEmpty) rfl rfl rfl ?_
          refine pw_steps 1 (s' := (1, [some (.ref ((sf_ a)))], [.ref ((sf_ a))], m)) rfl ?_
          refine pw_get rfl (sf_ok (a := a) (by omega)).1 (fun x9 (hx9 : x9 = vi_ m (sf_ a) 0) rx9 sx9 => ?_)
          have ox9 := hx9
          replace hx9 : x9 = vi_ m0 (sf_ a) 0 := hx9.trans (sm_v p4 (pSc_sf (by omega) _))
          refine pw_steps 1 (s' := (5, [some (.ref ((sf_ a)))], [.int (ei_ ((-1))), .int (ei_ (x9))], m)) rfl ?_
          refine pw_cmpT rfl ⟨rx9, sx9⟩ (by decide) (show ¬ x9 = (-1) by omega) ?_
          refine pw_steps 1 (s' := (13, [some (.ref ((sf_ a)))], [.int (ei_ (0))], m)) rfl ?_
          refine pw_iret rfl rfl rfl ?_
          refine pw_ifT rfl (by decide) (show 0 = 0 by decide) ?_
          refine pw_steps 3 (s' := (29, [some (.ref 0), some (.int (ei_ (a)))], [.int (ei_ (a)), .ref 32], m)) rfl ?_
          refine pw_ald (r0 := (sf_ a)) rfl rfl (sf_ln (by omega)) (sf_al (by omega)) ?_
          refine pw_call (As := []) (st := []) (k := (sf_ a)) rfl rfl rfl (sf_sk (by omega)) rfl (Nat.le_of_ble_eq_true rfl) ?_
          refine pw_intro (I := iX5_isOfBytes) (T := tX5_isOfBytes) rfl rfl rfl ?_
          refine pw_steps 1 (s' := (1, [some (.ref ((sf_ a)))], [.ref ((sf_ a))], m)) rfl ?_
          refine pw_getE (x := x9) rfl (sf_ok (a := a) (by omega)).1 ox9 ?_
          refine pw_ifT rfl ⟨rx9, sx9⟩ (show ¬ x9 = 0 by omega) ?_
          refine pw_steps 1 (s' := (12, [some (.ref ((sf_ a)))], [.int (ei_ (0))], m)) rfl ?_
          refine pw_iret rfl rfl rfl ?_
          refine pw_ifT rfl (by decide) (show 0 = 0 by decide) ?_
          refine pw_steps 1 (s' := (42, [some (.ref 0), some (.int (ei_ (a)))], [.int (ei_ ((-12)))], m)) rfl ?_
          refine pw_iret rfl rfl rfl ?_
          refine pw_steps 2 (s' := (25, [some (.ref 0), some (.int (ei_ (a))), some (.int (ei_ (b))), some (.int (ei_ ((-12)))), none, none], [.int (ei_ ((-12)))], m)) rfl ?_
          refine pw_ifF rfl (by decide) (show ¬ ((-12) = 0) by decide) ?_
          refine pw_steps 1 (s' := (29, [some (.ref 0), some (.int (ei_ (a))), some (.int (ei_ (b))), some (.int (ei_ ((-12)))), none, none], [.int (ei_ ((-12)))], m)) rfl ?_
          refine pw_iret rfl rfl rfl ?_
          exact k0 (-12) m (by exact Or.inr ⟨by omega, Or.inr ⟨by omega, Or.inr (Or.inl ⟨by omega, by omega, rfl⟩)⟩⟩) (p4)
        · refine pw_call (As := []) (st := []) (k := (sf_ a)) rfl rfl rfl (sf_sk (by omega)) rfl (Nat.le_of_ble_eq_true rfl) ?_
          refine pw_intro (I := iX5_isEmpty) (T := tX5_isEmpty) rfl rfl rfl ?_
          refine pw_steps 1 (s' := (1, [some (.ref ((sf_ a)))], [.ref ((sf_ a))], m)) rfl ?_
          refine pw_get rfl (sf_ok (a := a) (by omega)).1 (fun x10 (hx10 : x10 = vi_ m (sf_ a) 0) rx10 sx10 => ?_)
          have ox10 := hx10
          replace hx10 : x10 = vi_ m0 (sf_ a) 0 := hx10.trans (sm_v p4 (pSc_sf (by omega) _))
          refine pw_steps 1 (s' := (5, [some (.ref ((sf_ a)))], [.int (ei_ ((-1))), .int (ei_ (x10))], m)) rfl ?_
          refine pw_cmpT rfl ⟨rx10, sx10⟩ (by decide) (show ¬ x10 = (-1) by omega) ?_
          refine pw_steps 1 (s' := (13, [some (.ref ((sf_ a)))], [.int (ei_ (0))], m)) rfl ?_
          refine pw_iret rfl rfl rfl ?_
          refine pw_ifT rfl (by decide) (show 0 = 0 by decide) ?_
          refine pw_steps 3 (s' := (29, [some (.ref 0), some (.int (ei_ (a)))], [.int (ei_ (a)), .ref 32], m)) rfl ?_
          refine pw_ald (r0 := (sf_ a)) rfl rfl (sf_ln (by omega)) (sf_al (by omega)) ?_
          refine pw_call (As := []) (st := []) (k := (sf_ a)) rfl rfl rfl (sf_sk (by omega)) rfl (Nat.le_of_ble_eq_true rfl) ?_
          refine pw_intro (I := iX5_isOfBytes) (T := tX5_isOfBytes) rfl rfl rfl ?_
          refine pw_steps 1 (s' := (1, [some (.ref ((sf_ a)))], [.ref ((sf_ a))], m)) rfl ?_
          refine pw_getE (x := x10) rfl (sf_ok (a := a) (by omega)).1 ox10 ?_
          refine pw_if rfl ⟨rx10, sx10⟩ (fun (h11 : ¬ x10 = 0) => ?_) (fun (h11 : ¬ ¬ x10 = 0) => ?_)
          · refine pw_steps 1 (s' := (12, [some (.ref ((sf_ a)))], [.int (ei_ (0))], m)) rfl ?_
            refine pw_iret rfl rfl rfl ?_
            refine pw_ifT rfl (by decide) (show 0 = 0 by decide) ?_
            refine pw_steps 1 (s' := (42, [some (.ref 0), some (.int (ei_ (a)))], [.int (ei_ ((-12)))], m)) rfl ?_
            refine pw_iret rfl rfl rfl ?_
            refine pw_steps 2 (s' := (25, [some (.ref 0), some (.int (ei_ (a))), some (.int (ei_ (b))), some (.int (ei_ ((-12)))), none, none], [.int (ei_ ((-12)))], m)) rfl ?_
            refine pw_ifF rfl (by decide) (show ¬ ((-12) = 0) by decide) ?_
            refine pw_steps 1 (s' := (29, [some (.ref 0), some (.int (ei_ (a))), some (.int (ei_ (b))), some (.int (ei_ ((-12)))), none, none], [.int (ei_ ((-12)))], m)) rfl ?_
            refine pw_iret rfl rfl rfl ?_
            exact k0 (-12) m (by exact Or.inr ⟨by omega, Or.inr ⟨by omega, Or.inr (Or.inl ⟨by omega, by omega, rfl⟩)⟩⟩) (p4)
          · refine pw_steps 2 (s' := (12, [some (.ref ((sf_ a)))], [.int (ei_ (1))], m)) rfl ?_
            refine pw_iret rfl rfl rfl ?_
            refine pw_ifF rfl (by decide) (show ¬ (1 = 0) by decide) ?_
            refine pw_steps 2 (s' := (42, [some (.ref 0), some (.int (ei_ (a)))], [.int (ei_ (0))], m)) rfl ?_
            refine pw_iret rfl rfl rfl ?_
            refine pw_steps 2 (s' := (25, [some (.ref 0), some (.int (ei_ (a))), some (.int (ei_ (b))), some (.int (ei_ (0))), none, none], [.int (ei_ (0))], m)) rfl ?_
            refine pw_ifT rfl (by decide) (show 0 = 0 by decide) ?_
            refine pw_steps 2 (s' := (34, [some (.ref 0), some (.int (ei_ (a))), some (.int (ei_ (b))), some (.int (ei_ (0))), none, none], [.ref 1], m)) rfl ?_
            refine pw_call (As := []) (st := []) (k := 1) rfl rfl rfl rfl rfl (Nat.le_of_ble_eq_true rfl) ?_
            refine pw_intro (I := iX3_size) (T := tX3_size) rfl rfl rfl ?_
            refine pw_steps 1 (s' := (1, [some (.ref 1)], [.ref 1], m)) rfl ?_
            refine pw_get rfl rfl (fun x12 (hx12 : x12 = vi_ m 1 1) rx12 sx12 => ?_)
            have ox12 := hx12
            replace hx12 : x12 = vi_ m0 1 1 := hx12.trans (sm_v p4 rfl)
            refine pw_iret rfl rfl rfl ?_
            refine pw_steps 1 (s' := (38, [some (.ref 0), some (.int (ei_ (a))), some (.int (ei_ (b))), some (.int (ei_ (0))), none, none], [.int (ei_ (5)), .int (ei_ (x12))], m)) rfl ?_
            refine pw_cmp rfl ⟨rx12, sx12⟩ (by decide) (fun (h13 : x12 ≤ 5) => ?_) (fun (h13 : ¬ (x12 ≤ 5)) => ?_)
            · refine pw_steps 3 (s' := (49, [some (.ref 0), some (.int (ei_ (a))), some (.int (ei_ (b))), some (.int (ei_ (0))), none, none], [.int (ei_ (a)), .ref 32], m)) rfl ?_
              refine pw_ald (r0 := (sf_ a)) rfl rfl (sf_ln (by omega)) (sf_al (by omega)) ?_
              refine pw_steps 3 (s' := (55, [some (.ref 0), some (.int (ei_ (a))), some (.int (ei_ (b))), some (.int (ei_ (0))), some (.ref ((sf_ a))), none], [.ref ((sf_ a)), .ref 0], m)) rfl ?_
              refine pw_call (As := [.ref ((sf_ a))]) (st := []) (k := 0) rfl rfl rfl rfl rfl (Nat.le_of_ble_eq_true rfl) ?_
              refine cw_three (a := a) (p0) (p1.2.1) (p4) (sg_of p5 ⟨by omega, by omega⟩ (by omega)) (fun g14 => ?_) (fun g15 => ?_)
              · refine pw_ifF rfl (by decide) (show ¬ (1 = 0) by decide) ?_
                refine pw_steps 2 (s' := (64, [some (.ref 0), some (.int (ei_ (a))), some (.int (ei_ (b))), some (.int (ei_ (0))), some (.ref ((sf_ a))), none], [.ref ((sf_ a)), .ref 0], m)) rfl ?_
                refine pw_call (As := [.ref ((sf_ a))]) (st := []) (k := 0) rfl rfl rfl rfl rfl (Nat.le_of_ble_eq_true rfl) ?_
                refine cw_make (a := a) (p0) (p1) (p2) (p4) (sg_of p5 ⟨by omega, by omega⟩ (by omega)) (g14) (by omega) (fun f16 y17 m118 g19 g20 g21 g22 g23 => ?_)
                refine pw_steps 4 (s' := (75, [some (.ref 0), some (.int (ei_ (a))), some (.int (ei_ (b))), some (.int (ei_ (0))), some (.ref ((sf_ a))), some (.int (ei_ (f16)))], [.int (ei_ ((-1))), .int (ei_ (b))], m118)) rfl ?_
                refine pw_cmpF rfl p8 (by decide) (show ¬ (¬ b = (-1)) by omega) ?_
                refine pw_steps 1 (s' := (80, [some (.ref 0), some (.int (ei_ (a))), some (.int (ei_ (b))), some (.int (ei_ (0))), some (.ref ((sf_ a))), some (.int (ei_ (f16)))], [.int (ei_ (f16))], m118)) rfl ?_
                refine pw_iret rfl rfl rfl ?_
                exact k0 f16 m118 (by exact Or.inr ⟨by omega, Or.inr ⟨by omega, Or.inr (Or.inr ⟨by omega, Or.inr ⟨by omega, swx_i f16 y17 (g19) (Or.inl ⟨by omega, rfl⟩)⟩⟩)⟩⟩) (g23)
              · refine pw_ifT rfl (by decide) (show 0 = 0 by decide) ?_
                refine pw_steps 4 (s' := (75, [some (.ref 0), some (.int (ei_ (a))), some (.int (ei_ (b))), some (.int (ei_ (0))), some (.ref ((sf_ a))), some (.int (ei_ (0)))], [.int (ei_ ((-1))), .int (ei_ (b))], m)) rfl ?_
                refine pw_cmpF rfl p8 (by decide) (show ¬ (¬ b = (-1)) by omega) ?_
                refine pw_steps 1 (s' := (80, [some (.ref 0), some (.int (ei_ (a))), some (.int (ei_ (b))), some (.int (ei_ (0))), some (.ref ((sf_ a))), some (.int (ei_ (0)))], [.int (ei_ (0))], m)) rfl ?_
                refine pw_iret rfl rfl rfl ?_
                exact k0 0 m (by exact Or.inr ⟨by omega, Or.inr ⟨by omega, Or.inr (Or.inr ⟨by omega, Or.inr ⟨by omega, swx_i 0 (-1) (wc_none (fun c_ => sat_n g15) _) (Or.inl ⟨by omega, rfl⟩)⟩⟩)⟩⟩) (p4)
            · refine pw_steps 1 (s' := (43, [some (.ref 0), some (.int (ei_ (a))), some (.int (ei_ (b))), some (.int (ei_ (0))), none, none], [.int (ei_ ((-5)))], m)) rfl ?_
              refine pw_iret rfl rfl rfl ?_
              exact k0 (-5) m (by exact Or.inr ⟨by omega, Or.inr ⟨by omega, Or.inr (Or.inr ⟨by omega, Or.inl ⟨by omega, rfl⟩⟩)⟩⟩) (p4)
  · refine pw_steps 3 (s' := (10, [some (.ref 0), some (.int (ei_ (a))), some (.int (ei_ (b))), none, none, none], [.int (ei_ (b)), .ref 1], m)) rfl ?_
    refine pw_call (As := [.int (ei_ (b))]) (st := []) (k := 1) rfl rfl rfl rfl rfl (Nat.le_of_ble_eq_true rfl) ?_
    refine pw_intro (I := iX3_has) (T := tX3_has) rfl rfl rfl ?_
    refine pw_steps 1 (s' := (1, [some (.ref 1), some (.int (ei_ (b)))], [.int (ei_ (b))], m)) rfl ?_
    refine pw_if rfl p8 (fun (h24 : b < 0) => ?_) (fun (h24 : ¬ (b < 0)) => ?_)
    · refine pw_steps 1 (s' := (17, [some (.ref 1), some (.int (ei_ (b)))], [.int (ei_ (0))], m)) rfl ?_
      refine pw_iret rfl rfl rfl ?_
      refine pw_ifF rfl (by decide) (show ¬ (¬ 0 = 0) by decide) ?_
      refine pw_steps 1 (s' := (17, [some (.ref 0), some (.int (ei_ (a))), some (.int (ei_ (b))), none, none, none], [.int (ei_ ((-1)))], m)) rfl ?_
      refine pw_iret rfl rfl rfl ?_
      exact k0 (-1) m (by by_cases c_ : 0 ≤ a ∧ a < 6; exact Or.inl ⟨by omega, rfl⟩; by_cases c2_ : b = -1 ∨ (0 ≤ b ∧ b < vi_ m0 1 1); exact Or.inr ⟨c2_, Or.inl ⟨c_, rfl⟩⟩; exact Or.inl ⟨by omega, rfl⟩) (p4)
    · refine pw_steps 2 (s' := (6, [some (.ref 1), some (.int (ei_ (b)))], [.ref 1, .int (ei_ (b))], m)) rfl ?_
      refine pw_get rfl rfl (fun x25 (hx25 : x25 = vi_ m 1 1) rx25 sx25 => ?_)
      have ox25 := hx25
      replace hx25 : x25 = vi_ m0 1 1 := hx25.trans (sm_v p4 rfl)
      refine pw_cmp rfl p8 ⟨rx25, sx25⟩ (fun (h26 : x25 ≤ b) => ?_) (fun (h26 : ¬ (x25 ≤ b)) => ?_)
      · refine pw_steps 1 (s' := (17, [some (.ref 1), some (.int (ei_ (b)))], [.int (ei_ (0))], m)) rfl ?_
        refine pw_iret rfl rfl rfl ?_
        refine pw_ifF rfl (by decide) (show ¬ (¬ 0 = 0) by decide) ?_
        refine pw_steps 1 (s' := (17, [some (.ref 0), some (.int (ei_ (a))), some (.int (ei_ (b))), none, none, none], [.int (ei_ ((-1)))], m)) rfl ?_
        refine pw_iret rfl rfl rfl ?_
        exact k0 (-1) m (by by_cases c_ : 0 ≤ a ∧ a < 6; exact Or.inl ⟨by omega, rfl⟩; by_cases c2_ : b = -1 ∨ (0 ≤ b ∧ b < vi_ m0 1 1); exact Or.inr ⟨c2_, Or.inl ⟨c_, rfl⟩⟩; exact Or.inl ⟨by omega, rfl⟩) (p4)
      · refine pw_steps 2 (s' := (17, [some (.ref 1), some (.int (ei_ (b)))], [.int (ei_ (1))], m)) rfl ?_
        refine pw_iret rfl rfl rfl ?_
        refine pw_ifT rfl (by decide) (show ¬ 1 = 0 by decide) ?_
        refine pw_steps 2 (s' := (20, [some (.ref 0), some (.int (ei_ (a))), some (.int (ei_ (b))), none, none, none], [.int (ei_ (a)), .ref 0], m)) rfl ?_
        refine pw_call (As := [.int (ei_ (a))]) (st := []) (k := 0) rfl rfl rfl rfl rfl (Nat.le_of_ble_eq_true rfl) ?_
        refine pw_intro (I := iX8_refusalOfBytes) (T := tX8_refusalOfBytes) rfl rfl rfl ?_
        refine pw_steps 1 (s' := (1, [some (.ref 0), some (.int (ei_ (a)))], [.int (ei_ (a))], m)) rfl ?_
        refine pw_callS (As := [.int (ei_ (a))]) (st := []) rfl (by decide) rfl rfl (Nat.le_of_ble_eq_true rfl) ?_
        refine pw_intro (I := iX8_isShelf) (T := tX8_isShelf) rfl rfl rfl ?_
        refine pw_steps 1 (s' := (1, [some (.int (ei_ (a)))], [.int (ei_ (a))], m)) rfl ?_
        refine pw_if rfl p7 (fun (h27 : a < 0) => ?_) (fun (h27 : ¬ (a < 0)) => ?_)
        · refine pw_steps 1 (s' := (15, [some (.int (ei_ (a)))], [.int (ei_ (0))], m)) rfl ?_
          refine pw_iret rfl rfl rfl ?_
          refine pw_ifF rfl (by decide) (show ¬ (¬ 0 = 0) by decide) ?_
          refine pw_steps 1 (s' := (8, [some (.ref 0), some (.int (ei_ (a)))], [.int (ei_ ((-1)))], m)) rfl ?_
          refine pw_iret rfl rfl rfl ?_
          refine pw_steps 2 (s' := (25, [some (.ref 0), some (.int (ei_ (a))), some (.int (ei_ (b))), some (.int (ei_ ((-1)))), none, none], [.int (ei_ ((-1)))], m)) rfl ?_
          refine pw_ifF rfl (by decide) (show ¬ ((-1) = 0) by decide) ?_
          refine pw_steps 1 (s' := (29, [some (.ref 0), some (.int (ei_ (a))), some (.int (ei_ (b))), some (.int (ei_ ((-1)))), none, none], [.int (ei_ ((-1)))], m)) rfl ?_
          refine pw_iret rfl rfl rfl ?_
          exact k0 (-1) m (by by_cases c_ : 0 ≤ a ∧ a < 6; exact Or.inl ⟨by omega, rfl⟩; by_cases c2_ : b = -1 ∨ (0 ≤ b ∧ b < vi_ m0 1 1); exact Or.inr ⟨c2_, Or.inl ⟨c_, rfl⟩⟩; exact Or.inl ⟨by omega, rfl⟩) (p4)
        · refine pw_steps 2 (s' := (7, [some (.int (ei_ (a)))], [.int (ei_ (6)), .int (ei_ (a))], m)) rfl ?_
          refine pw_cmp rfl p7 (by decide) (fun (h28 : 6 ≤ a) => ?_) (fun (h28 : ¬ (6 ≤ a)) => ?_)
          · refine pw_steps 1 (s' := (15, [some (.int (ei_ (a)))], [.int (ei_ (0))], m)) rfl ?_
            refine pw_iret rfl rfl rfl ?_
            refine pw_ifF rfl (by decide) (show ¬ (¬ 0 = 0) by decide) ?_
            refine pw_steps 1 (s' := (8, [some (.ref 0), some (.int (ei_ (a)))], [.int (ei_ ((-1)))], m)) rfl ?_
            refine pw_iret rfl rfl rfl ?_
            refine pw_steps 2 (s' := (25, [some (.ref 0), some (.int (ei_ (a))), some (.int (ei_ (b))), some (.int (ei_ ((-1)))), none, none], [.int (ei_ ((-1)))], m)) rfl ?_
            refine pw_ifF rfl (by decide) (show ¬ ((-1) = 0) by decide) ?_
            refine pw_steps 1 (s' := (29, [some (.ref 0), some (.int (ei_ (a))), some (.int (ei_ (b))), some (.int (ei_ ((-1)))), none, none], [.int (ei_ ((-1)))], m)) rfl ?_
            refine pw_iret rfl rfl rfl ?_
            exact k0 (-1) m (by by_cases c_ : 0 ≤ a ∧ a < 6; exact Or.inl ⟨by omega, rfl⟩; by_cases c2_ : b = -1 ∨ (0 ≤ b ∧ b < vi_ m0 1 1); exact Or.inr ⟨c2_, Or.inl ⟨c_, rfl⟩⟩; exact Or.inl ⟨by omega, rfl⟩) (p4)
          · refine pw_steps 2 (s' := (15, [some (.int (ei_ (a)))], [.int (ei_ (1))], m)) rfl ?_
            refine pw_iret rfl rfl rfl ?_
            refine pw_ifT rfl (by decide) (show ¬ 1 = 0 by decide) ?_
            refine pw_steps 3 (s' := (14, [some (.ref 0), some (.int (ei_ (a)))], [.int (ei_ (a)), .ref 32], m)) rfl ?_
            refine pw_ald (r0 := (sf_ a)) rfl rfl (sf_ln (by omega)) (sf_al (by omega)) ?_
            obtain ⟨hk29, hk30, hk31⟩ := p5 a (by omega) (by omega)
            rcases hk31 with ⟨hb321, hb322, hb323⟩ | ⟨hb321, hb322, hb323, hb324, hb325⟩ | ⟨hb321, hb322, hb323, hb324⟩
            · refine pw_call (As := []) (st := []) (k := (sf_ a)) rfl rfl rfl (sf_sk (by omega)) rfl (Nat.le_of_ble_eq_true rfl) ?_
              refine pw_intro (I := iX5_isEmpty) (T := tX5_isEmpty) rfl rfl rfl ?_
              refine pw_steps 1 (s' := (1, [some (.ref ((sf_ a)))], [.ref ((sf_ a))], m)) rfl ?_
              refine pw_get rfl (sf_ok (a := a) (by omega)).1 (fun x33 (hx33 : x33 = vi_ m (sf_ a) 0) rx33 sx33 => ?_)
              have ox33 := hx33
              replace hx33 : x33 = vi_ m0 (sf_ a) 0 := hx33.trans (sm_v p4 (pSc_sf (by omega) _))
              refine pw_steps 1 (s' := (5, [some (.ref ((sf_ a)))], [.int (ei_ ((-1))), .int (ei_ (x33))], m)) rfl ?_
              refine pw_cmpF rfl ⟨rx33, sx33⟩ (by decide) (show ¬ (¬ x33 = (-1)) by omega) ?_
              refine pw_steps 2 (s' := (13, [some (.ref ((sf_ a)))], [.int (ei_ (1))], m)) rfl ?_
              refine pw_iret rfl rfl rfl ?_
              refine pw_ifF rfl (by decide) (show ¬ (1 = 0) by decide) ?_
              refine pw_steps 1 (s' := (23, [some (.ref 0), some (.int (ei_ (a)))], [.int (ei_ ((-11)))], m)) rfl ?_
              refine pw_iret rfl rfl rfl ?_
              refine pw_steps 2 (s' := (25, [some (.ref 0), some (.int (ei_ (a))), some (.int (ei_ (b))), some (.int (ei_ ((-11)))), none, none], [.int (ei_ ((-11)))], m)) rfl ?_
              refine pw_ifF rfl (by decide) (show ¬ ((-11) = 0) by decide) ?_
              refine pw_steps 1 (s' := (29, [some (.ref 0), some (.int (ei_ (a))), some (.int (ei_ (b))), some (.int (ei_ ((-11)))), none, none], [.int (ei_ ((-11)))], m)) rfl ?_
              refine pw_iret rfl rfl rfl ?_
              exact k0 (-11) m (by exact Or.inr ⟨by omega, Or.inr ⟨by omega, Or.inl ⟨by omega, rfl⟩⟩⟩) (p4)
            · refine pw_call (As := []) (st := []) (k := (sf_ a)) rfl rfl rfl (sf_sk (by omega)) rfl (Nat.le_of_ble_eq_true rfl) ?_
              refine pw_intro (I := iX5_isEmpty) (T := tX5_isEmpty) rfl rfl rfl ?_
              refine pw_steps 1 (s' := (1, [some (.ref ((sf_ a)))], [.ref ((sf_ a))], m)) rfl ?_
              refine pw_get rfl (sf_ok (a := a) (by omega)).1 (fun x34 (hx34 : x34 = vi_ m (sf_ a) 0) rx34 sx34 => ?_)
              have ox34 := hx34
              replace hx34 : x34 = vi_ m0 (sf_ a) 0 := hx34.trans (sm_v p4 (pSc_sf (by omega) _))
              refine pw_steps 1 (s' := (5, [some (.ref ((sf_ a)))], [.int (ei_ ((-1))), .int (ei_ (x34))], m)) rfl ?_
              refine pw_cmpT rfl ⟨rx34, sx34⟩ (by decide) (show ¬ x34 = (-1) by omega) ?_
              refine pw_steps 1 (s' := (13, [some (.ref ((sf_ a)))], [.int (ei_ (0))], m)) rfl ?_
              refine pw_iret rfl rfl rfl ?_
              refine pw_ifT rfl (by decide) (show 0 = 0 by decide) ?_
              refine pw_steps 3 (s' := (29, [some (.ref 0), some (.int (ei_ (a)))], [.int (ei_ (a)), .ref 32], m)) rfl ?_
              refine pw_ald (r0 := (sf_ a)) rfl rfl (sf_ln (by omega)) (sf_al (by omega)) ?_
              refine pw_call (As := []) (st := []) (k := (sf_ a)) rfl rfl rfl (sf_sk (by omega)) rfl (Nat.le_of_ble_eq_true rfl) ?_
              refine pw_intro (I := iX5_isOfBytes) (T := tX5_isOfBytes) rfl rfl rfl ?_
              refine pw_steps 1 (s' := (1, [some (.ref ((sf_ a)))], [.ref ((sf_ a))], m)) rfl ?_
              refine pw_getE (x := x34) rfl (sf_ok (a := a) (by omega)).1 ox34 ?_
              refine pw_ifT rfl ⟨rx34, sx34⟩ (show ¬ x34 = 0 by omega) ?_
              refine pw_steps 1 (s' := (12, [some (.ref ((sf_ a)))], [.int (ei_ (0))], m)) rfl ?_
              refine pw_iret rfl rfl rfl ?_
              refine pw_ifT rfl (by decide) (show 0 = 0 by decide) ?_
              refine pw_steps 1 (s' := (42, [some (.ref 0), some (.int (ei_ (a)))], [.int (ei_ ((-12)))], m)) rfl ?_
              refine pw_iret rfl rfl rfl ?_
              refine pw_steps 2 (s' := (25, [some (.ref 0), some (.int (ei_ (a))), some (.int (ei_ (b))), some (.int (ei_ ((-12)))), none, none], [.int (ei_ ((-12)))], m)) rfl ?_
              refine pw_ifF rfl (by decide) (show ¬ ((-12) = 0) by decide) ?_
              refine pw_steps 1 (s' := (29, [some (.ref 0), some (.int (ei_ (a))), some (.int (ei_ (b))), some (.int (ei_ ((-12)))), none, none], [.int (ei_ ((-12)))], m)) rfl ?_
              refine pw_iret rfl rfl rfl ?_
              exact k0 (-12) m (by exact Or.inr ⟨by omega, Or.inr ⟨by omega, Or.inr (Or.inl ⟨by omega, by omega, rfl⟩)⟩⟩) (p4)
            · refine pw_call (As := []) (st := []) (k := (sf_ a)) rfl rfl rfl (sf_sk (by omega)) rfl (Nat.le_of_ble_eq_true rfl) ?_
              refine pw_intro (I := iX5_isEmpty) (T := tX5_isEmpty) rfl rfl rfl ?_
              refine pw_steps 1 (s' := (1, [some (.ref ((sf_ a)))], [.ref ((sf_ a))], m)) rfl ?_
              refine pw_get rfl (sf_ok (a := a) (by omega)).1 (fun x35 (hx35 : x35 = vi_ m (sf_ a) 0) rx35 sx35 => ?_)
              have ox35 := hx35
              replace hx35 : x35 = vi_ m0 (sf_ a) 0 := hx35.trans (sm_v p4 (pSc_sf (by omega) _))
              refine pw_steps 1 (s' := (5, [some (.ref ((sf_ a)))], [.int (ei_ ((-1))), .int (ei_ (x35))], m)) rfl ?_
              refine pw_cmpT rfl ⟨rx35, sx35⟩ (by decide) (show ¬ x35 = (-1) by omega) ?_
              refine pw_steps 1 (s' := (13, [some (.ref ((sf_ a)))], [.int (ei_ (0))], m)) rfl ?_
              refine pw_iret rfl rfl rfl ?_
              refine pw_ifT rfl (by decide) (show 0 = 0 by decide) ?_
              refine pw_steps 3 (s' := (29, [some (.ref 0), some (.int (ei_ (a)))], [.int (ei_ (a)), .ref 32], m)) rfl ?_
              refine pw_ald (r0 := (sf_ a)) rfl rfl (sf_ln (by omega)) (sf_al (by omega)) ?_
              refine pw_call (As := []) (st := []) (k := (sf_ a)) rfl rfl rfl (sf_sk (by omega)) rfl (Nat.le_of_ble_eq_true rfl) ?_
              refine pw_intro (I := iX5_isOfBytes) (T := tX5_isOfBytes) rfl rfl rfl ?_
              refine pw_steps 1 (s' := (1, [some (.ref ((sf_ a)))], [.ref ((sf_ a))], m)) rfl ?_
              refine pw_getE (x := x35) rfl (sf_ok (a := a) (by omega)).1 ox35 ?_
              refine pw_if rfl ⟨rx35, sx35⟩ (fun (h36 : ¬ x35 = 0) => ?_) (fun (h36 : ¬ ¬ x35 = 0) => ?_)
              · refine pw_steps 1 (s' := (12, [some (.ref ((sf_ a)))], [.int (ei_ (0))], m)) rfl ?_
                refine pw_iret rfl rfl rfl ?_
                refine pw_ifT rfl (by decide) (show 0 = 0 by decide) ?_
                refine pw_steps 1 (s' := (42, [some (.ref 0), some (.int (ei_ (a)))], [.int (ei_ ((-12)))], m)) rfl ?_
                refine pw_iret rfl rfl rfl ?_
                refine pw_steps 2 (s' := (25, [some (.ref 0), some (.int (ei_ (a))), some (.int (ei_ (b))), some (.int (ei_ ((-12)))), none, none], [.int (ei_ ((-12)))], m)) rfl ?_
                refine pw_ifF rfl (by decide) (show ¬ ((-12) = 0) by decide) ?_
                refine pw_steps 1 (s' := (29, [some (.ref 0), some (.int (ei_ (a))), some (.int (ei_ (b))), some (.int (ei_ ((-12)))), none, none], [.int (ei_ ((-12)))], m)) rfl ?_
                refine pw_iret rfl rfl rfl ?_
                exact k0 (-12) m (by exact Or.inr ⟨by omega, Or.inr ⟨by omega, Or.inr (Or.inl ⟨by omega, by omega, rfl⟩)⟩⟩) (p4)
              · refine pw_steps 2 (s' := (12, [some (.ref ((sf_ a)))], [.int (ei_ (1))], m)) rfl ?_
                refine pw_iret rfl rfl rfl ?_
                refine pw_ifF rfl (by decide) (show ¬ (1 = 0) by decide) ?_
                refine pw_steps 2 (s' := (42, [some (.ref 0), some (.int (ei_ (a)))], [.int (ei_ (0))], m)) rfl ?_
                refine pw_iret rfl rfl rfl ?_
                refine pw_steps 2 (s' := (25, [some (.ref 0), some (.int (ei_ (a))), some (.int (ei_ (b))), some (.int (ei_ (0))), none, none], [.int (ei_ (0))], m)) rfl ?_
                refine pw_ifT rfl (by decide) (show 0 = 0 by decide) ?_
                refine pw_steps 2 (s' := (34, [some (.ref 0), some (.int (ei_ (a))), some (.int (ei_ (b))), some (.int (ei_ (0))), none, none], [.ref 1], m)) rfl ?_
                refine pw_call (As := []) (st := []) (k := 1) rfl rfl rfl rfl rfl (Nat.le_of_ble_eq_true rfl) ?_
                refine pw_intro (I := iX3_size) (T := tX3_size) rfl rfl rfl ?_
                refine pw_steps 1 (s' := (1, [some (.ref 1)], [.ref 1], m)) rfl ?_
                refine pw_getE (x := x25) rfl rfl ox25 ?_
                refine pw_iret rfl rfl rfl ?_
                refine pw_steps 1 (s' := (38, [some (.ref 0), some (.int (ei_ (a))), some (.int (ei_ (b))), some (.int (ei_ (0))), none, none], [.int (ei_ (5)), .int (ei_ (x25))], m)) rfl ?_
                refine pw_cmp rfl ⟨rx25, sx25⟩ (by decide) (fun (h37 : x25 ≤ 5) => ?_) (fun (h37 : ¬ (x25 ≤ 5)) => ?_)
                · refine pw_steps 3 (s' := (49, [some (.ref 0), some (.int (ei_ (a))), some (.int (ei_ (b))), some (.int (ei_ (0))), none, none], [.int (ei_ (a)), .ref 32], m)) rfl ?_
                  refine pw_ald (r0 := (sf_ a)) rfl rfl (sf_ln (by omega)) (sf_al (by omega)) ?_
                  refine pw_steps 3 (s' := (55, [some (.ref 0), some (.int (ei_ (a))), some (.int (ei_ (b))), some (.int (ei_ (0))), some (.ref ((sf_ a))), none], [.ref ((sf_ a)), .ref 0], m)) rfl ?_
                  refine pw_call (As := [.ref ((sf_ a))]) (st := []) (k := 0) rfl rfl rfl rfl rfl (Nat.le_of_ble_eq_true rfl) ?_
                  refine cw_three (a := a) (p0) (p1.2.1) (p4) (sg_of p5 ⟨by omega, by omega⟩ (by omega)) (fun g38 => ?_) (fun g39 => ?_)
                  · refine pw_ifF rfl (by decide) (show ¬ (1 = 0) by decide) ?_
                    refine pw_steps 2 (s' := (64, [some (.ref 0), some (.int (ei_ (a))), some (.int (ei_ (b))), some (.int (ei_ (0))), some (.ref ((sf_ a))), none], [.ref ((sf_ a)), .ref 0], m)) rfl ?_
                    refine pw_call (As := [.ref ((sf_ a))]) (st := []) (k := 0) rfl rfl rfl rfl rfl (Nat.le_of_ble_eq_true rfl) ?_
                    refine cw_make (a := a) (p0) (p1) (p2) (p4) (sg_of p5 ⟨by omega, by omega⟩ (by omega)) (g38) (by omega) (fun f40 y41 m142 g43 g44 g45 g46 g47 => ?_)
                    refine pw_steps 4 (s' := (75, [some (.ref 0), some (.int (ei_ (a))), some (.int (ei_ (b))), some (.int (ei_ (0))), some (.ref ((sf_ a))), some (.int (ei_ (f40)))], [.int (ei_ ((-1))), .int (ei_ (b))], m142)) rfl ?_
                    refine pw_cmpT rfl p8 (by decide) (show ¬ b = (-1) by omega) ?_
                    refine pw_steps 1 (s' := (83, [some (.ref 0), some (.int (ei_ (a))), some (.int (ei_ (b))), some (.int (ei_ (0))), some (.ref ((sf_ a))), some (.int (ei_ (f40)))], [.int (ei_ (f40))], m142)) rfl ?_
                    refine pw_if rfl (by omega) (fun (h48 : ¬ f40 = 0) => ?_) (fun (h48 : ¬ ¬ f40 = 0) => ?_)
                    · refine pw_steps 3 (s' := (96, [some (.ref 0), some (.int (ei_ (a))), some (.int (ei_ (b))), some (.int (ei_ (0))), some (.ref ((sf_ a))), some (.int (ei_ (f40)))], [.int (ei_ (b)), .ref 18], m142)) rfl ?_
                      refine pw_call (As := [.int (ei_ (b))]) (st := []) (k := 18) rfl rfl rfl rfl rfl (Nat.le_of_ble_eq_true rfl) ?_
                      refine pw_intro (I := iX7_firstWearer) (T := tX7_firstWearer) rfl rfl rfl ?_
                      refine pw_steps 2 (s' := (2, [some (.ref 18), some (.int (ei_ (b)))], [.int (ei_ (b)), .ref 18], m142)) rfl ?_
                      refine pw_call (As := [.int (ei_ (b))]) (st := []) (k := 18) rfl rfl rfl rfl rfl (Nat.le_of_ble_eq_true rfl) ?_
                      refine pw_intro (I := iX7_has) (T := tX7_has) rfl rfl rfl ?_
                      refine pw_steps 1 (s' := (1, [some (.ref 18), some (.int (ei_ (b)))], [.int (ei_ (b))], m142)) rfl ?_
                      refine pw_ifF rfl p8 (show ¬ (b < 0) by omega) ?_
                      refine pw_steps 2 (s' := (6, [some (.ref 18), some (.int (ei_ (b)))], [.ref 18, .int (ei_ (b))], m142)) rfl ?_
                      refine pw_get rfl rfl (fun x49 (hx49 : x49 = vi_ m142 18 5) rx49 sx49 => ?_)
                      have ox49 := hx49
                      replace hx49 : x49 = vi_ m0 1 1 := hx49.trans g45
                      refine pw_cmpF rfl p8 ⟨rx49, sx49⟩ (show ¬ (x49 ≤ b) by omega) ?_
                      refine pw_steps 2 (s' := (17, [some (.ref 18), some (.int (ei_ (b)))], [.int (ei_ (1))], m142)) rfl ?_
                      refine pw_iret rfl rfl rfl ?_
                      refine pw_ifF rfl (by decide) (show ¬ (1 = 0) by decide) ?_
                      refine pw_steps 3 (s' := (13, [some (.ref 18), some (.int (ei_ (b)))], [.int (ei_ (b)), .ref 22], m142)) rfl ?_
                      refine pw_ild rfl rfl (by omega) (fun x50 (hx50 : x50 = vi_ m142 22 b) rx50 sx50 => ?_)
                      have b51 := g46 (by omega) b (by omega) (by omega)
                      refine pw_steps 1 (s' := (18, [some (.ref 18), some (.int (ei_ (b)))], [.int (ei_ (x50))], m142)) rfl ?_
                      refine pw_iret rfl rfl rfl ?_
                      refine pw_iret rfl rfl rfl ?_
                      exact k0 x50 m142 (by exact Or.inr ⟨by omega, Or.inr ⟨by omega, Or.inr (Or.inr ⟨by omega, Or.inr ⟨by omega, swx_i f40 y41 (g43) (Or.inr (Or.inr ⟨by omega, by omega, by omega⟩))⟩⟩)⟩⟩) (g47)
                    · refine pw_steps 2 (s' := (99, [some (.ref 0), some (.int (ei_ (a))), some (.int (ei_ (b))), some (.int (ei_ (0))), some (.ref ((sf_ a))), some (.int (ei_ (f40)))], [.int (ei_ ((-2)))], m142)) rfl ?_
                      refine pw_iret rfl rfl rfl ?_
                      exact k0 (-2) m142 (by exact Or.inr ⟨by omega, Or.inr ⟨by omega, Or.inr (Or.inr ⟨by omega, Or.inr ⟨by omega, swx_i f40 y41 (g43) (Or.inr (Or.inl ⟨by omega, by omega, rfl⟩))⟩⟩)⟩⟩) (g47)
                  · refine pw_ifT rfl (by decide) (show 0 = 0 by decide) ?_
                    refine pw_steps 4 (s' := (75, [some (.ref 0), some (.int (ei_ (a))), some (.int (ei_ (b))), some (.int (ei_ (0))), some (.ref ((sf_ a))), some (.int (ei_ (0)))], [.int (ei_ ((-1))), .int (ei_ (b))], m)) rfl ?_
                    refine pw_cmpT rfl p8 (by decide) (show ¬ b = (-1) by omega) ?_
                    refine pw_steps 1 (s' := (83, [some (.ref 0), some (.int (ei_ (a))), some (.int (ei_ (b))), some (.int (ei_ (0))), some (.ref ((sf_ a))), some (.int (ei_ (0)))], [.int (ei_ (0))], m)) rfl ?_
                    refine pw_ifF rfl (by decide) (show ¬ (¬ 0 = 0) by decide) ?_
                    refine pw_steps 2 (s' := (99, [some (.ref 0), some (.int (ei_ (a))), some (.int (ei_ (b))), some (.int (ei_ (0))), some (.ref ((sf_ a))), some (.int (ei_ (0)))], [.int (ei_ ((-2)))], m)) rfl ?_
                    refine pw_iret rfl rfl rfl ?_
                    exact k0 (-2) m (by exact Or.inr ⟨by omega, Or.inr ⟨by omega, Or.inr (Or.inr ⟨by omega, Or.inr ⟨by omega, swx_i 0 (-1) (wc_none (fun c_ => sat_n g39) _) (Or.inr (Or.inl ⟨by omega, by omega, rfl⟩))⟩⟩)⟩⟩) (p4)
                · refine pw_steps 1 (s' := (43, [some (.ref 0), some (.int (ei_ (a))), some (.int (ei_ (b))), some (.int (ei_ (0))), none, none], [.int (ei_ ((-5)))], m)) rfl ?_
                  refine pw_iret rfl rfl rfl ?_
                  exact k0 (-5) m (by exact Or.inr ⟨by omega, Or.inr ⟨by omega, Or.inr (Or.inr ⟨by omega, Or.inl ⟨by omega, rfl⟩⟩)⟩⟩) (p4)

set_option maxHeartbeats 4000000 in
set_option maxRecDepth 20000 in
theorem ms_first2 {q : am_X} {d : Nat} {m : am_M} {Q : Option Value → am_M → Prop} {m0 : am_M} {a : Int}  (p0 : rP_ m0) (p1 : mW_ m0) (p2 : sm_ pSc m0 m) (p3 : rL_ m0) (p4 : mF_ m0) (p5 : sb_ m0 a) (p6 : -2147483648 ≤ a ∧ a < 2147483648) (k0 : ∀ (x : Int) (m1 : am_M), (ff_ (mo_ m0 a) (vi_ m0 69 a) x) → (sm_ pGo m m1) → (-2 ≤ x ∧ x ≤ 60) → Q (some (.int (ei_ (x)))) m1) : pw_C q (d + 58) 235 [.ref 47, .int (ei_ (a))] m Q := by
  obtain ⟨hP1, hP2, hP3, hP4⟩ := id p0
  obtain ⟨hb1, hb2, hb3⟩ := id p5
  refine pw_intro (I := iX9_firstFalse) (T := tX9_firstFalse) rfl rfl rfl ?_
  refine pw_steps 2 (s' := (2, [some (.ref 47), some (.int (ei_ (a))), some (.int (ei_ (0))), none, none], [], m)) rfl ?_
  have L5 : ∀ (n3 : Nat) (k : Int) (u1 : Option Value) (u2 : Option Value) (m1 : am_M), (vi_ m0 69 a - 3 * k).toNat = n3 → (0 ≤ k ∧ 3 * k ≤ vi_ m0 69 a + 2) → (sm_ pGo m m1) → (∀ j, 0 ≤ j → j < k → mo_ m0 a (3 * j)) → pw_V q (d + 57) iX9_firstFalse.2.2.2.1 tX9_firstFalse Q (2, [some (.ref 47), some (.int (ei_ (a))), some (.int (ei_ (k))), u1, u2], [], m1) := by
    intro n3
    induction n3 using Nat.strongRecOn with
    | _ n3 ih4 =>
      intro k u1 u2 m1 hm_n3 hpp hs hv
      refine pw_steps 6 (s' := (10, [some (.ref 47), some (.int (ei_ (a))), some (.int (ei_ (k))), u1, u2], [.int (ei_ (a)), .ref 69, .int ((ei_ (3)) * (ei_ (k)))], m1)) rfl ?_
      refine pw_cv (congrArg (fun z_ : Int32 => ((10, [some (.ref 47), some (.int (ei_ (a))), some (.int (ei_ (k))), u1, u2], [.int (ei_ (a)), .ref 69, .int z_], m1) : am_S)) (ei_mul rfl rfl)) ?_
      refine pw_ild rfl rfl (by omega) (fun x6 (hx6 : x6 = vi_ m1 69 a) rx6 sx6 => ?_)
      have ox6 := hx6
      replace hx6 : x6 = vi_ m 69 a := hx6.trans (sm_v hs rfl)
      replace hx6 : x6 = vi_ m0 69 a := hx6.trans (sm_v p2 rfl)
      refine pw_cmp rfl (by omega) ⟨rx6, sx6⟩ (fun (h7 : x6 ≤ (3 * k)) => ?_) (fun (h7 : ¬ (x6 ≤ (3 * k))) => ?_)
      · refine pw_steps 1 (s' := (144, [some (.ref 47), some (.int (ei_ (a))), some (.int (ei_ (k))), u1, u2], [.int (ei_ ((-2)))], m1)) rfl ?_
        refine pw_iret rfl rfl rfl ?_
        exact k0 (-2) m1 (by exact Or.inr ⟨rfl, fun j a_ b_ => hv j a_ (by omega)⟩) (hs) (by omega)
      · refine pw_steps 16 (s' := (33, [some (.ref 47), some (.int (ei_ (a))), some (.int (ei_ (k))), some (.int (((ei_ (60)) * (ei_ (a))) + ((ei_ (3)) * (ei_ (k))))), u2], [.int (ei_ (a)), .ref 69, .int (((ei_ (3)) * (ei_ (k))) + (ei_ (2)))], m1)) rfl ?_
        refine pw_cv (congrArg (fun z_ : Int32 => ((33, [some (.ref 47), some (.int (ei_ (a))), some (.int (ei_ (k))), some (.int (((ei_ (60)) * (ei_ (a))) + ((ei_ (3)) * (ei_ (k))))), u2], [.int (ei_ (a)), .ref 69, .int z_], m1) : am_S)) (ei_add (ei_mul rfl rfl) rfl)) ?_
        refine pw_cv (congrArg (fun z_ : Int32 => ((33, [some (.ref 47), some (.int (ei_ (a))), some (.int (ei_ (k))), some (.int z_), u2], [.int (ei_ (a)), .ref 69, .int (ei_ (((3 * k) + 2)))], m1) : am_S)) (ei_add (ei_mul rfl rfl) (ei_mul rfl rfl))) ?_
        refine pw_ildE (x := x6) rfl rfl (by omega) ox6 ?_
        refine pw_cmp rfl (by omega) ⟨rx6, sx6⟩ (fun (h8 : x6 ≤ ((3 * k) + 2)) => ?_) (fun (h8 : ¬ (x6 ≤ ((3 * k) + 2))) => ?_)
        · refine pw_steps 1 (s' := (81, [some (.ref 47), some (.int (ei_ (a))), some (.int (ei_ (k))), some (.int (ei_ (((60 * a) + (3 * k))))), u2], [.int (ei_ (k))], m1)) rfl ?_
          refine pw_iret rfl rfl rfl ?_
          exact k0 k m1 (by refine Or.inl ⟨by omega, by omega, ?_, hv⟩; intro ⟨e1_, e2_, e3_, e4_, e5_⟩; omega) (hs) (by omega)
        · refine pw_steps 3 (s' := (42, [some (.ref 47), some (.int (ei_ (a))), some (.int (ei_ (k))), some (.int (ei_ (((60 * a) + (3 * k))))), u2], [.int (ei_ (((60 * a) + (3 * k)))), .ref 70], m1)) rfl ?_
          refine pw_lld rfl rfl (by omega) (fun y9 (hy9 : y9 = vl_ m1 70 ((60 * a) + (3 * k))) ry9 sy9 => ?_)
          replace hy9 : y9 = vl_ m 70 ((60 * a) + (3 * k)) := hy9.trans (congrFun (sm_l hs) _)
          replace hy9 : y9 = vl_ m0 70 ((60 * a) + (3 * k)) := hy9.trans (congrFun (sm_l p2) _)
          have b10 := hb3 ((60 * a) + (3 * k)) (by omega) (by omega)
          refine pw_steps 1 (s' := (44, [some (.ref 47), some (.int (ei_ (a))), some (.int (ei_ (k))), some (.int (ei_ (((60 * a) + (3 * k))))), u2], [.int ((el_ (y9)).toInt32)], m1)) rfl ?_
          refine pw_cv (congrArg (fun z_ : Int32 => ((44, [some (.ref 47), some (.int (ei_ (a))), some (.int (ei_ (k))), some (.int (ei_ (((60 * a) + (3 * k))))), u2], [.int z_], m1) : am_S)) (ei_l2i rfl)) ?_
          refine pw_callS (As := [.int (ei_ (y9))]) (st := []) rfl (by decide) rfl rfl (Nat.le_of_ble_eq_true rfl) ?_
          refine pw_intro (I := iX9_isN) (T := tX9_isN) rfl rfl rfl ?_
          refine pw_steps 4 (s' := (6, [some (.int (ei_ (y9)))], [.long (el_ (99)), .long (el_ (0)), .long ((ei_ (y9)).toInt64)], m1)) rfl ?_
          refine pw_cv (congrArg (fun z_ : Int64 => ((6, [some (.int (ei_ (y9)))], [.long (el_ (99)), .long (el_ (0)), .long z_], m1) : am_S)) (el_i2l (by omega) rfl)) ?_
          refine pw_callS (As := [.long (el_ (y9)), .long (el_ (0)), .long (el_ (99))]) (st := []) rfl (by decide) rfl rfl (Nat.le_of_ble_eq_true rfl) ?_
          refine mt_within (by omega) (by omega) (by omega) (fun g11 g12 => ?_) (fun g13 => ?_) (fun g14 => ?_)
          · refine pw_iret rfl rfl rfl ?_
            refine pw_ifF rfl (by decide) (show ¬ (1 = 0) by decide) ?_
            refine pw_steps 6 (s' := (58, [some (.ref 47), some (.int (ei_ (a))), some (.int (ei_ (k))), some (.int (ei_ (((60 * a) + (3 * k))))), u2], [.int ((ei_ (((60 * a) + (3 * k)))) + (ei_ (1))), .ref 70, .ref 47], m1)) rfl ?_
            refine pw_cv (congrArg (fun z_ : Int32 => ((58, [some (.ref 47), some (.int (ei_ (a))), some (.int (ei_ (k))), some (.int (ei_ (((60 * a) + (3 * k))))), u2], [.int z_, .ref 70, .ref 47], m1) : am_S)) (ei_add rfl rfl)) ?_
            refine pw_lld rfl rfl (by omega) (fun y15 (hy15 : y15 = vl_ m1 70 (((60 * a) + (3 * k)) + 1)) ry15 sy15 => ?_)
            replace hy15 : y15 = vl_ m 70 (((60 * a) + (3 * k)) + 1) := hy15.trans (congrFun (sm_l hs) _)
            replace hy15 : y15 = vl_ m0 70 (((60 * a) + (3 * k)) + 1) := hy15.trans (congrFun (sm_l p2) _)
            have b16 := hb3 (((60 * a) + (3 * k)) + 1) (by omega) (by omega)
            refine pw_call (As := [.long (el_ (y15))]) (st := []) (k := 47) rfl rfl rfl rfl rfl (Nat.le_of_ble_eq_true rfl) ?_
            refine pw_intro (I := iX9_isOne) (T := tX9_isOne) rfl rfl rfl ?_
            refine pw_steps 3 (s' := (3, [some (.ref 47), some (.long (el_ (y15))), none], [.ref 47, .long (el_ (0)), .long (el_ (y15))], m1)) rfl ?_
            refine pw_get rfl rfl (fun x17 (hx17 : x17 = vi_ m1 47 6) rx17 sx17 => ?_)
            have ox17 := hx17
            replace hx17 : x17 = vi_ m 47 6 := hx17.trans (sm_v hs rfl)
            replace hx17 : x17 = vi_ m0 47 6 := hx17.trans (sm_v p2 rfl)
            refine pw_steps 3 (s' := (9, [some (.ref 47), some (.long (el_ (y15))), none], [.long (((ei_ (x17)) - (ei_ (1))).toInt64), .long (el_ (0)), .long (el_ (y15))], m1)) rfl ?_
            refine pw_cv (congrArg (fun z_ : Int64 => ((9, [some (.ref 47), some (.long (el_ (y15))), none], [.long z_, .long (el_ (0)), .long (el_ (y15))], m1) : am_S)) (el_i2l (by omega) (ei_sub rfl rfl))) ?_
            refine pw_callS (As := [.long (el_ (y15)), .long (el_ (0)), .long (el_ ((x17 - 1)))]) (st := []) rfl (by decide) rfl rfl (Nat.le_of_ble_eq_true rfl) ?_
            refine mt_within (by omega) (by omega) (by omega) (fun g18 g19 => ?_) (fun g20 => ?_) (fun g21 => ?_)
            · refine pw_iret rfl rfl rfl ?_
              refine pw_ifF rfl (by decide) (show ¬ (1 = 0) by decide) ?_
              refine pw_steps 6 (s' := (73, [some (.ref 47), some (.int (ei_ (a))), some (.int (ei_ (k))), some (.int (ei_ (((60 * a) + (3 * k))))), u2], [.int ((ei_ (((60 * a) + (3 * k)))) + (ei_ (2))), .ref 70, .ref 47], m1)) rfl ?_
              refine pw_cv (congrArg (fun z_ : Int32 => ((73, [some (.ref 47), some (.int (ei_ (a))), some (.int (ei_ (k))), some (.int (ei_ (((60 * a) + (3 * k))))), u2], [.int z_, .ref 70, .ref 47], m1) : am_S)) (ei_add rfl rfl)) ?_
              refine pw_lld rfl rfl (by omega) (fun y22 (hy22 : y22 = vl_ m1 70 (((60 * a) + (3 * k)) + 2)) ry22 sy22 => ?_)
              replace hy22 : y22 = vl_ m 70 (((60 * a) + (3 * k)) + 2) := hy22.trans (congrFun (sm_l hs) _)
              replace hy22 : y22 = vl_ m0 70 (((60 * a) + (3 * k)) + 2) := hy22.trans (congrFun (sm_l p2) _)
              have b23 := hb3 (((60 * a) + (3 * k)) + 2) (by omega) (by omega)
              refine pw_call (As := [.long (el_ (y22))]) (st := []) (k := 47) rfl rfl rfl rfl rfl (Nat.le_of_ble_eq_true rfl) ?_
              refine pw_intro (I := iX9_isOne) (T := tX9_isOne) rfl rfl rfl ?_
              refine pw_steps 3 (s' := (3, [some (.ref 47), some (.long (el_ (y22))), none], [.ref 47, .long (el_ (0)), .long (el_ (y22))], m1)) rfl ?_
              refine pw_getE (x := x17) rfl rfl ox17 ?_
              refine pw_steps 3 (s' := (9, [some (.ref 47), some (.long (el_ (y22))), none], [.long (((ei_ (x17)) - (ei_ (1))).toInt64), .long (el_ (0)), .long (el_ (y22))], m1)) rfl ?_
              refine pw_cv (congrArg (fun z_ : Int64 => ((9, [some (.ref 47), some (.long (el_ (y22))), none], [.long z_, .long (el_ (0)), .long (el_ (y22))], m1) : am_S)) (el_i2l (by omega) (ei_sub rfl rfl))) ?_
              refine pw_callS (As := [.long (el_ (y22)), .long (el_ (0)), .long (el_ ((x17 - 1)))]) (st := []) rfl (by decide) rfl rfl (Nat.le_of_ble_eq_true rfl) ?_
              refine mt_within (by omega) (by omega) (by omega) (fun g24 g25 => ?_) (fun g26 => ?_) (fun g27 => ?_)
              · refine pw_iret rfl rfl rfl ?_
                refine pw_ifT rfl (by decide) (show ¬ 1 = 0 by decide) ?_
                refine pw_steps 5 (s' := (89, [some (.ref 47), some (.int (ei_ (a))), some (.int (ei_ (k))), some (.int (ei_ (((60 * a) + (3 * k))))), u2], [.int ((ei_ (((60 * a) + (3 * k)))) + (ei_ (1))), .ref 70], m1)) rfl ?_
                refine pw_cv (congrArg (fun z_ : Int32 => ((89, [some (.ref 47), some (.int (ei_ (a))), some (.int (ei_ (k))), some (.int (ei_ (((60 * a) + (3 * k))))), u2], [.int z_, .ref 70], m1) : am_S)) (ei_add rfl rfl)) ?_
                refine pw_lld rfl rfl (by omega) (fun y28 (hy28 : y28 = vl_ m1 70 (((60 * a) + (3 * k)) + 1)) ry28 sy28 => ?_)
                replace hy28 : y28 = vl_ m 70 (((60 * a) + (3 * k)) + 1) := hy28.trans (congrFun (sm_l hs) _)
                replace hy28 : y28 = vl_ m0 70 (((60 * a) + (3 * k)) + 1) := hy28.trans (congrFun (sm_l p2) _)
                have b29 := hb3 (((60 * a) + (3 * k)) + 1) (by omega) (by omega)
                refine pw_steps 6 (s' := (99, [some (.ref 47), some (.int (ei_ (a))), some (.int (ei_ (k))), some (.int (ei_ (((60 * a) + (3 * k))))), some (.int ((el_ (y28)).toInt32))], [.int (ei_ (((60 * a) + (3 * k)))), .ref 70, .ref 47], m1)) rfl ?_
                refine pw_cv (congrArg (fun z_ : Int32 => ((99, [some (.ref 47), some (.int (ei_ (a))), some (.int (ei_ (k))), some (.int (ei_ (((60 * a) + (3 * k))))), some (.int z_)], [.int (ei_ (((60 * a) + (3 * k)))), .ref 70, .ref 47], m1) : am_S)) (ei_l2i rfl)) ?_
                refine pw_lld rfl rfl (by omega) (fun y30 (hy30 : y30 = vl_ m1 70 ((60 * a) + (3 * k))) ry30 sy30 => ?_)
                replace hy30 : y30 = vl_ m 70 ((60 * a) + (3 * k)) := hy30.trans (congrFun (sm_l hs) _)
                replace hy30 : y30 = vl_ m0 70 ((60 * a) + (3 * k)) := hy30.trans (congrFun (sm_l p2) _)
                have b31 := hb3 ((60 * a) + (3 * k)) (by omega) (by omega)
                refine pw_steps 1 (s' := (101, [some (.ref 47), some (.int (ei_ (a))), some (.int (ei_ (k))), some (.int (ei_ (((60 * a) + (3 * k))))), some (.int (ei_ (y28)))], [.int ((el_ (y30)).toInt32), .ref 47], m1)) rfl ?_
                refine pw_cv (congrArg (fun z_ : Int32 => ((101, [some (.ref 47), some (.int (ei_ (a))), some (.int (ei_ (k))), some (.int (ei_ (((60 * a) + (3 * k))))), some (.int (ei_ (y28)))], [.int z_, .ref 47], m1) : am_S)) (ei_l2i rfl)) ?_
                refine pw_call (As := [.int (ei_ (y30))]) (st := []) (k := 47) rfl rfl rfl rfl rfl (Nat.le_of_ble_eq_true rfl) ?_
                refine md_goes (p0) (p1) ((sm_tr p2 (sm_le hs pGo_Sc))) (p3) (p4) (by omega) (fun m132 g33 g34 => ?_)
                refine pw_steps 3 (s' := (110, [some (.ref 47), some (.int (ei_ (a))), some (.int (ei_ (k))), some (.int (ei_ (((60 * a) + (3 * k))))), some (.int (ei_ (y28)))], [.int (ei_ (y28)), .ref 52], m132)) rfl ?_
                refine pw_ild rfl rfl (by omega) (fun x35 (hx35 : x35 = vi_ m132 52 y28) rx35 sx35 => ?_)
                have ox35 := hx35
                replace hx35 : x35 = vi_ m1 52 y28 := hx35.trans (sm_v g33 rfl)
                replace hx35 : x35 = vi_ m 52 y28 := hx35.trans (sm_v hs rfl)
                replace hx35 : x35 = vi_ m0 52 y28 := hx35.trans (sm_v p2 rfl)
                have b36 := p1 y28 (by omega) (by omega)
                refine pw_steps 6 (s' := (119, [some (.ref 47), some (.int (ei_ (a))), some (.int (ei_ (k))), some (.int (ei_ (((60 * a) + (3 * k))))), some (.int (ei_ (y28)))], [.int ((ei_ (((60 * a) + (3 * k)))) + (ei_ (2))), .ref 70, .long ((ei_ (x35)).toInt64)], m132)) rfl ?_
                refine pw_cv (congrArg (fun z_ : Int32 => ((119, [some (.ref 47), some (.int (ei_ (a))), some (.int (ei_ (k))), some (.int (ei_ (((60 * a) + (3 * k))))), some (.int (ei_ (y28)))], [.int z_, .ref 70, .long ((ei_ (x35)).toInt64)], m132) : am_S)) (ei_add rfl rfl)) ?_
                refine pw_cv (congrArg (fun z_ : Int64 => ((119, [some (.ref 47), some (.int (ei_ (a))), some (.int (ei_ (k))), some (.int (ei_ (((60 * a) + (3 * k))))), some (.int (ei_ (y28)))], [.int (ei_ ((((60 * a) + (3 * k)) + 2))), .ref 70, .long z_], m132) : am_S)) (el_i2l ⟨rx35, sx35⟩ rfl)) ?_
                refine pw_lld rfl rfl (by omega) (fun y37 (hy37 : y37 = vl_ m132 70 (((60 * a) + (3 * k)) + 2)) ry37 sy37 => ?_)
                replace hy37 : y37 = vl_ m1 70 (((60 * a) + (3 * k)) + 2) := hy37.trans (congrFun (sm_l g33) _)
                replace hy37 : y37 = vl_ m 70 (((60 * a) + (3 * k)) + 2) := hy37.trans (congrFun (sm_l hs) _)
                replace hy37 : y37 = vl_ m0 70 (((60 * a) + (3 * k)) + 2) := hy37.trans (congrFun (sm_l p2) _)
                have b38 := hb3 (((60 * a) + (3 * k)) + 2) (by omega) (by omega)
                refine pw_lcmp rfl rfl (by omega) ⟨ry37, sy37⟩ (fun (h39 : ¬ x35 = y37) => ?_) (fun (h39 : ¬ ¬ x35 = y37) => ?_)
                · refine pw_steps 1 (s' := (135, [some (.ref 47), some (.int (ei_ (a))), some (.int (ei_ (k))), some (.int (ei_ (((60 * a) + (3 * k))))), some (.int (ei_ (y28)))], [.int (ei_ (k))], m132)) rfl ?_
                  refine pw_iret rfl rfl rfl ?_
                  exact k0 k m132 (by refine Or.inl ⟨by omega, by omega, ?_, hv⟩; subst hy9; subst hy15; subst hy22; subst hy28; subst hy30; subst hy37; intro ⟨e1_, e2_, e3_, e4_, e5_⟩; have w_ := p1 _ e3_.1 e3_.2; omega) ((sm_tr hs g33)) (by omega)
                · refine pw_steps 3 (s' := (130, [some (.ref 47), some (.int (ei_ (a))), some (.int (ei_ (k))), some (.int (ei_ (((60 * a) + (3 * k))))), some (.int (ei_ (y28)))], [.int (ei_ (y28)), .ref 57], m132)) rfl ?_
                  refine pw_ild rfl rfl (by omega) (fun x40 (hx40 : x40 = vi_ m132 57 y28) rx40 sx40 => ?_)
                  have b41 := g34 y28 (by omega) (by omega)
                  refine pw_if rfl ⟨rx40, sx40⟩ (fun (h42 : ¬ x40 = 0) => ?_) (fun (h42 : ¬ ¬ x40 = 0) => ?_)
                  · refine pw_steps 2 (s' := (2, [some (.ref 47), some (.int (ei_ (a))), some (.int ((ei_ (k)) + (ei_ (1)))), some (.int (ei_ (((60 * a) + (3 * k))))), some (.int (ei_ (y28)))], [], m132)) rfl ?_
                    refine pw_cv (congrArg (fun z_ : Int32 => ((2, [some (.ref 47), some (.int (ei_ (a))), some (.int z_), some (.int (ei_ (((60 * a) + (3 * k))))), some (.int (ei_ (y28)))], [], m132) : am_S)) (ei_add rfl rfl)) ?_
                    exact ih4 _ (by omega) (k + 1) (some (.int (ei_ (((60 * a) + (3 * k)))))) (some (.int (ei_ (y28)))) m132 rfl (by omega) ((sm_tr hs g33)) (by subst hy9; subst hy15; subst hy22; subst hy28; subst hy30; subst hy37; exact al_s (by omega) hv rfl ⟨by omega, by omega, by omega, by omega, by omega⟩)
                  · refine pw_steps 1 (s' := (135, [some (.ref 47), some (.int (ei_ (a))), some (.int (ei_ (k))), some (.int (ei_ (((60 * a) + (3 * k))))), some (.int (ei_ (y28)))], [.int (ei_ (k))], m132)) rfl ?_
                    refine pw_iret rfl rfl rfl ?_
                    exact k0 k m132 (by refine Or.inl ⟨by omega, by omega, ?_, hv⟩; subst hy9; subst hy15; subst hy22; subst hy28; subst hy30; subst hy37; intro ⟨e1_, e2_, e3_, e4_, e5_⟩; have w_ := p1 _ e3_.1 e3_.2; omega) ((sm_tr hs g33)) (by omega)
              · refine pw_iret rfl rfl rfl ?_
                refine pw_ifF rfl (by decide) (show ¬ (¬ 0 = 0) by decide) ?_
                refine pw_steps 1 (s' := (81, [some (.ref 47), some (.int (ei_ (a))), some (.int (ei_ (k))), some (.int (ei_ (((60 * a) + (3 * k))))), u2], [.int (ei_ (k))], m1)) rfl ?_
                refine pw_iret rfl rfl rfl ?_
                exact k0 k m1 (by refine Or.inl ⟨by omega, by omega, ?_, hv⟩; subst hy9; subst hy15; subst hy22; intro ⟨e1_, e2_, e3_, e4_, e5_⟩; have w_ := p1 _ e3_.1 e3_.2; omega) (hs) (by omega)
              · refine pw_iret rfl rfl rfl ?_
                refine pw_ifF rfl (by decide) (show ¬ (¬ 0 = 0) by decide) ?_
                refine pw_steps 1 (s' := (81, [some (.ref 47), some (.int (ei_ (a))), some (.int (ei_ (k))), some (.int (ei_ (((60 * a) + (3 * k))))), u2], [.int (ei_ (k))], m1)) rfl ?_
                refine pw_iret rfl rfl rfl ?_
                exact k0 k m1 (by refine Or.inl ⟨by omega, by omega, ?_, hv⟩; subst hy9; subst hy15; subst hy22; intro ⟨e1_, e2_, e3_, e4_, e5_⟩; have w_ := p1 _ e3_.1 e3_.2; omega) (hs) (by omega)
            · refine pw_iret rfl rfl rfl ?_
              refine pw_ifT rfl (by decide) (show 0 = 0 by decide) ?_
              refine pw_steps 1 (s' := (81, [some (.ref 47), some (.int (ei_ (a))), some (.int (ei_ (k))), some (.int (ei_ (((60 * a) + (3 * k))))), u2], [.int (ei_ (k))], m1)) rfl ?_
              refine pw_iret rfl rfl rfl ?_
              exact k0 k m1 (by refine Or.inl ⟨by omega, by omega, ?_, hv⟩; subst hy9; subst hy15; intro ⟨e1_, e2_, e3_, e4_, e5_⟩; omega) (hs) (by omega)
            · refine pw_iret rfl rfl rfl ?_
              refine pw_ifT rfl (by decide) (show 0 = 0 by decide) ?_
              refine pw_steps 1 (s' := (81, [some (.ref 47), some (.int (ei_ (a))), some (.int (ei_ (k))), some (.int (ei_ (((60 * a) + (3 * k))))), u2], [.int (ei_ (k))], m1)) rfl ?_
              refine pw_iret rfl rfl rfl ?_
              exact k0 k m1 (by refine Or.inl ⟨by omega, by omega, ?_, hv⟩; subst hy9; subst hy15; intro ⟨e1_, e2_, e3_, e4_, e5_⟩; omega) (hs) (by omega)
          · refine pw_iret rfl rfl rfl ?_
            refine pw_ifT rfl (by decide) (show 0 = 0 by decide) ?_
            refine pw_steps 1 (s' := (81, [some (.ref 47), some (.int (ei_ (a))), some (.int (ei_ (k))), some (.int (ei_ (((60 * a) + (3 * k))))), u2], [.int (ei_ (k))], m1)) rfl ?_
            refine pw_iret rfl rfl rfl ?_
            exact k0 k m1 (by refine Or.inl ⟨by omega, by omega, ?_, hv⟩; subst hy9; intro ⟨e1_, e2_, e3_, e4_, e5_⟩; omega) (hs) (by omega)
          · refine pw_iret rfl rfl rfl ?_
            refine pw_ifT rfl (by decide) (show 0 = 0 by decide) ?_
            refine pw_steps 1 (s' := (81, [some (.ref 47), some (.int (ei_ (a))), some (.int (ei_ (k))), some (.int (ei_ (((60 * a) + (3 * k))))), u2], [.int (ei_ (k))], m1)) rfl ?_
            refine pw_iret rfl rfl rfl ?_
            exact k0 k m1 (by refine Or.inl ⟨by omega, by omega, ?_, hv⟩; subst hy9; intro ⟨e1_, e2_, e3_, e4_, e5_⟩; omega) (hs) (by omega)
  exact L5 _ 0 none none m rfl (by omega) ((sm_rfl m)) (by intro j a_ b_; omega)

set_option maxHeartbeats 4000000 in
set_option maxRecDepth 20000 in
theorem ms_wore {q : am_X} {d : Nat} {m : am_M} {Q : Option Value → am_M → Prop} {m0 : am_M} {a : Int} {b : Int}  (p0 : rP_ m0) (p1 : rD_ m0) (p2 : rZ_ m0) (p3 : rL_ m0) (p4 : sm_ pSc m0 m) (p5 : rS_ m0) (p6 : vi_ m0 29 2 ≤ 50) (p7 : -2147483648 ≤ a ∧ a < 2147483648) (p8 : -2147483648 ≤ b ∧ b < 2147483648) (k0 : ∀ (x : Int) (m1 : am_M), (swo_ m0 a b x) → (sm_ pSc m0 m1) → Q (some (.int (ei_ (x)))) m1) : pw_C q (d + 60) 236 [.ref 47, .int (ei_ (a)), .int (ei_ (b))] m Q := by
  obtain ⟨hP1, hP2, hP3, hP4⟩ := id p0
  have hmw := mW_of p0 p1
  have hmf := mF_of p0 p1
  have hkd := kd_of p5 p6 a
  refine pw_intro (I := iX9_wore) (T := tX9_wore) rfl rfl rfl ?_
  refine pw_steps 2 (s' := (2, [some (.ref 47), some (.int (ei_ (a))), some (.int (ei_ (b))), none], [.int (ei_ (a)), .ref 47], m)) rfl ?_
  refine pw_call (As := [.int (ei_ (a))]) (st := []) (k := 47) rfl rfl rfl rfl rfl (Nat.le_of_ble_eq_true rfl) ?_
  refine pw_intro (I := iX9_bytesIs) (T := tX9_bytesIs) rfl rfl rfl ?_
  refine pw_steps 1 (s' := (1, [some (.ref 47), some (.int (ei_ (a)))], [.int (ei_ (a))], m)) rfl ?_
  refine pw_callS (As := [.int (ei_ (a))]) (st := []) rfl (by decide) rfl rfl (Nat.le_of_ble_eq_true rfl) ?_
  refine pw_intro (I := iX9_isShelf) (T := tX9_isShelf) rfl rfl rfl ?_
  refine pw_steps 4 (s' := (6, [some (.int (ei_ (a)))], [.long (el_ (5)), .long (el_ (0)), .long ((ei_ (a)).toInt64)], m)) rfl ?_
  refine pw_cv (congrArg (fun z_ : Int64 => ((6, [some (.int (ei_ (a)))], [.long (el_ (5)), .long (el_ (0)), .long z_], m) : am_S)) (el_i2l p7 rfl)) ?_
  refine pw_callS (As := [.long (el_ (a)), .long (el_ (0)), .long (el_ (5))]) (st := []) rfl (by decide) rfl rfl (Nat.le_of_ble_eq_true rfl) ?_
  refine mt_within (by omega) (by omega) (by omega) (fun g1 g2 => ?_) (fun g3 => ?_) (fun g4 => ?_)
  · refine pw_iret rfl rfl rfl ?_
    refine pw_ifT rfl (by decide) (show ¬ 1 = 0 by decide) ?_
    refine pw_steps 3 (s' := (16, [some (.ref 47), some (.int (ei_ (a)))], [.int (ei_ (a)), .ref 68], m)) rfl ?_
    refine pw_ild rfl rfl (by omega) (fun x5 (hx5 : x5 = vi_ m 68 a) rx5 sx5 => ?_)
    have ox5 := hx5
    replace hx5 : x5 = vi_ m0 68 a := hx5.trans (sm_v p4 rfl)
    refine pw_if rfl ⟨rx5, sx5⟩ (fun (h6 : 0 ≤ x5) => ?_) (fun (h6 : ¬ (0 ≤ x5)) => ?_)
    · refine pw_steps 3 (s' := (30, [some (.ref 47), some (.int (ei_ (a)))], [.int (ei_ (a)), .ref 68], m)) rfl ?_
      refine pw_ildE (x := x5) rfl rfl (by omega) ox5 ?_
      refine pw_steps 1 (s' := (33, [some (.ref 47), some (.int (ei_ (a)))], [.int (ei_ (50)), .int (ei_ (x5))], m)) rfl ?_
      refine pw_cmp rfl ⟨rx5, sx5⟩ (by decide) (fun (h7 : ¬ x5 = 50) => ?_) (fun (h7 : ¬ ¬ x5 = 50) => ?_)
      · refine pw_steps 1 (s' := (42, [some (.ref 47), some (.int (ei_ (a)))], [.int (ei_ ((-12)))], m)) rfl ?_
        refine pw_iret rfl rfl rfl ?_
        refine pw_steps 1 (s' := (6, [some (.ref 47), some (.int (ei_ (a))), some (.int (ei_ (b))), none], [.int (ei_ ((-1))), .int (ei_ ((-12)))], m)) rfl ?_
        refine pw_cmpF rfl (by decide) (by decide) (show ¬ ((-12) = (-1)) by decide) ?_
        refine pw_steps 2 (s' := (11, [some (.ref 47), some (.int (ei_ (a))), some (.int (ei_ (b))), none], [.int (ei_ ((-1))), .int (ei_ (b))], m)) rfl ?_
        refine pw_cmp rfl p8 (by decide) (fun (h8 : b = (-1)) => ?_) (fun (h8 : ¬ (b = (-1))) => ?_)
        · refine pw_steps 2 (s' := (27, [some (.ref 47), some (.int (ei_ (a))), some (.int (ei_ (b))), none], [.int (ei_ (a)), .ref 47], m)) rfl ?_
          refine pw_call (As := [.int (ei_ (a))]) (st := []) (k := 47) rfl rfl rfl rfl rfl (Nat.le_of_ble_eq_true rfl) ?_
          refine pw_intro (I := iX9_bytesIs) (T := tX9_bytesIs) rfl rfl rfl ?_
          refine pw_steps 1 (s' := (1, [some (.ref 47), some (.int (ei_ (a)))], [.int (ei_ (a))], m)) rfl ?_
          refine pw_callS (As := [.int (ei_ (a))]) (st := []) rfl (by decide) rfl rfl (Nat.le_of_ble_eq_true rfl) ?_
          refine pw_intro (I := iX9_isShelf) (T := tX9_isShelf) rfl rfl rfl ?_
          refine pw_steps 4 (s' := (6, [some (.int (ei_ (a)))], [.long (el_ (5)), .long (el_ (0)), .long ((ei_ (a)).toInt64)], m)) rfl ?_
          refine pw_cv (congrArg (fun z_ : Int64 => ((6, [some (.int (ei_ (a)))], [.long (el_ (5)), .long (el_ (0)), .long z_], m) : am_S)) (el_i2l p7 rfl)) ?_
          refine pw_callS (As := [.long (el_ (a)), .long (el_ (0)), .long (el_ (5))]) (st := []) rfl (by decide) rfl rfl (Nat.le_of_ble_eq_true rfl) ?_
          refine mt_within (by omega) (by omega) (by omega) (fun g9 g10 => ?_) (fun g11 => ?_) (fun g12 => ?_)
          · refine pw_iret rfl rfl rfl ?_
            refine pw_ifT rfl (by decide) (show ¬ 1 = 0 by decide) ?_
            refine pw_steps 3 (s' := (16, [some (.ref 47), some (.int (ei_ (a)))], [.int (ei_ (a)), .ref 68], m)) rfl ?_
            refine pw_ildE (x := x5) rfl rfl (by omega) ox5 ?_
            refine pw_ifT rfl ⟨rx5, sx5⟩ (show 0 ≤ x5 by omega) ?_
            refine pw_steps 3 (s' := (30, [some (.ref 47), some (.int (ei_ (a)))], [.int (ei_ (a)), .ref 68], m)) rfl ?_
            refine pw_ildE (x := x5) rfl rfl (by omega) ox5 ?_
            refine pw_steps 1 (s' := (33, [some (.ref 47), some (.int (ei_ (a)))], [.int (ei_ (50)), .int (ei_ (x5))], m)) rfl ?_
            refine pw_cmpT rfl ⟨rx5, sx5⟩ (by decide) (show ¬ x5 = 50 by omega) ?_
            refine pw_steps 1 (s' := (42, [some (.ref 47), some (.int (ei_ (a)))], [.int (ei_ ((-12)))], m)) rfl ?_
            refine pw_iret rfl rfl rfl ?_
            refine pw_ifF rfl (by decide) (show ¬ (0 ≤ (-12)) by decide) ?_
            refine pw_steps 2 (s' := (35, [some (.ref 47), some (.int (ei_ (a))), some (.int (ei_ (b))), none], [.int (ei_ (a)), .ref 47], m)) rfl ?_
            refine pw_call (As := [.int (ei_ (a))]) (st := []) (k := 47) rfl rfl rfl rfl rfl (Nat.le_of_ble_eq_true rfl) ?_
            refine pw_intro (I := iX9_bytesIs) (T := tX9_bytesIs) rfl rfl rfl ?_
            refine pw_steps 1 (s' := (1, [some (.ref 47), some (.int (ei_ (a)))], [.int (ei_ (a))], m)) rfl ?_
            refine pw_callS (As := [.int (ei_ (a))]) (st := []) rfl (by decide) rfl rfl (Nat.le_of_ble_eq_true rfl) ?_
            refine pw_intro (I := iX9_isShelf) (T := tX9_isShelf) rfl rfl rfl ?_
            refine pw_steps 4 (s' := (6, [some (.int (ei_ (a)))], [.long (el_ (5)), .long (el_ (0)), .long ((ei_ (a)).toInt64)], m)) rfl ?_
            refine pw_cv (congrArg (fun z_ : Int64 => ((6, [some (.int (ei_ (a)))], [.long (el_ (5)), .long (el_ (0)), .long z_], m) : am_S)) (el_i2l p7 rfl)) ?_
            refine pw_callS (As := [.long (el_ (a)), .long (el_ (0)), .long (el_ (5))]) (st := []) rfl (by decide) rfl rfl (Nat.le_of_ble_eq_true rfl) ?_
            refine mt_within (by omega) (by omega) (by omega) (fun g13 g14 => ?_) (fun g15 => ?_) (fun g16 => ?_)
            · refine pw_iret rfl rfl rfl ?_
              refine pw_ifT rfl (by decide) (show ¬ 1 = 0 by decide) ?_
              refine pw_steps 3 (s' := (16, [some (.ref 47), some (.int (ei_ (a)))], [.int (ei_ (a)), .ref 68], m)) rfl ?_
              refine pw_ildE (x := x5) rfl rfl (by omega) ox5 ?_
              refine pw_ifT rfl ⟨rx5, sx5⟩ (show 0 ≤ x5 by omega) ?_
              refine pw_steps 3 (s' := (30, [some (.ref 47), some (.int (ei_ (a)))], [.int (ei_ (a)), .ref 68], m)) rfl ?_
              refine pw_ildE (x := x5) rfl rfl (by omega) ox5 ?_
              refine pw_steps 1 (s' := (33, [some (.ref 47), some (.int (ei_ (a)))], [.int (ei_ (50)), .int (ei_ (x5))], m)) rfl ?_
              refine pw_cmpT rfl ⟨rx5, sx5⟩ (by decide) (show ¬ x5 = 50 by omega) ?_
              refine pw_steps 1 (s' := (42, [some (.ref 47), some (.int (ei_ (a)))], [.int (ei_ ((-12)))], m)) rfl ?_
              refine pw_iret rfl rfl rfl ?_
              refine pw_iret rfl rfl rfl ?_
              exact k0 (-12) m (by exact Or.inr ⟨by omega, Or.inr ⟨by omega, Or.inr (Or.inl ⟨by omega, by omega, rfl⟩)⟩⟩) (p4)
            · exact False.elim (by omega)
            · exact False.elim (by omega)
          · exact False.elim (by omega)
          · exact False.elim (by omega)
        · refine pw_steps 3 (s' := (17, [some (.ref 47), some (.int (ei_ (a))), some (.int (ei_ (b))), none], [.long ((ei_ (b)).toInt64), .ref 47], m)) rfl ?_
          refine pw_cv (congrArg (fun z_ : Int64 => ((17, [some (.ref 47), some (.int (ei_ (a))), some (.int (ei_ (b))), none], [.long z_, .ref 47], m) : am_S)) (el_i2l p8 rfl)) ?_
          refine pw_call (As := [.long (el_ (b))]) (st := []) (k := 47) rfl rfl rfl rfl rfl (Nat.le_of_ble_eq_true rfl) ?_
          refine pw_intro (I := iX9_isOne) (T := tX9_isOne) rfl rfl rfl ?_
          refine pw_steps 3 (s' := (3, [some (.ref 47), some (.long (el_ (b))), none], [.ref 47, .long (el_ (0)), .long (el_ (b))], m)) rfl ?_
          refine pw_get rfl rfl (fun x17 (hx17 : x17 = vi_ m 47 6) rx17 sx17 => ?_)
          have ox17 := hx17
          replace hx17 : x17 = vi_ m0 47 6 := hx17.trans (sm_v p4 rfl)
          replace hx17 : x17 = vi_ m0 1 1 := hx17.trans hP2
          refine pw_steps 3 (s' := (9, [some (.ref 47), some (.long (el_ (b))), none], [.long (((ei_ (x17)) - (ei_ (1))).toInt64), .long (el_ (0)), .long (el_ (b))], m)) rfl ?_
          refine pw_cv (congrArg (fun z_ : Int64 => ((9, [some (.ref 47), some (.long (el_ (b))), none], [.long z_, .long (el_ (0)), .long (el_ (b))], m) : am_S)) (el_i2l (by omega) (ei_sub rfl rfl))) ?_
          refine pw_callS (As := [.long (el_ (b)), .long (el_ (0)), .long (el_ ((x17 - 1)))]) (st := []) rfl (by decide) rfl rfl (Nat.le_of_ble_eq_true rfl) ?_
          refine mt_within (by omega) (by omega) (by omega) (fun g18 g19 => ?_) (fun g20 => ?_) (fun g21 => ?_)
          · refine pw_iret rfl rfl rfl ?_
            refine pw_ifT rfl (by decide) (show ¬ 1 = 0 by decide) ?_
            refine pw_steps 2 (s' := (27, [some (.ref 47), some (.int (ei_ (a))), some (.int (ei_ (b))), none], [.int (ei_ (a)), .ref 47], m)) rfl ?_
            refine pw_call (As := [.int (ei_ (a))]) (st := []) (k := 47) rfl rfl rfl rfl rfl (Nat.le_of_ble_eq_true rfl) ?_
            refine pw_intro (I := iX9_bytesIs) (T := tX9_bytesIs) rfl rfl rfl ?_
            refine pw_steps 1 (s' := (1, [some (.ref 47), some (.int (ei_ (a)))], [.int (ei_ (a))], m)) rfl ?_
            refine pw_callS (As := [.int (ei_ (a))]) (st := []) rfl (by decide) rfl rfl (Nat.le_of_ble_eq_true rfl) ?_
            refine pw_intro (I := iX9_isShelf) (T := tX9_isShelf) rfl rfl rfl ?_
            refine pw_steps 4 (s' := (6, [some (.int (ei_ (a)))], [.long (el_ (5)), .long (el_ (0)), .long ((ei_ (a)).toInt64)], m)) rfl ?_
            refine pw_cv (congrArg (fun z_ : Int64 => ((6, [some (.int (ei_ (a)))], [.long (el_ (5)), .long (el_ (0)), .long z_], m) : am_S)) (el_i2l p7 rfl)) ?_
            refine pw_callS (As := [.long (el_ (a)), .long (el_ (0)), .long (el_ (5))]) (st := []) rfl (by decide) rfl rfl (Nat.le_of_ble_eq_true rfl) ?_
            refine mt_within (by omega) (by omega) (by omega) (fun g22 g23 => ?_) (fun g24 => ?_) (fun g25 => ?_)
            · refine pw_iret rfl rfl rfl ?_
              refine pw_ifT rfl (by decide) (show ¬ 1 = 0 by decide) ?_
              refine pw_steps 3 (s' := (16, [some (.ref 47), some (.int (ei_ (a)))], [.int (ei_ (a)), .ref 68], m)) rfl ?_
              refine pw_ildE (x := x5) rfl rfl (by omega) ox5 ?_
              refine pw_ifT rfl ⟨rx5, sx5⟩ (show 0 ≤ x5 by omega) ?_
              refine pw_steps 3 (s' := (30, [some (.ref 47), some (.int (ei_ (a)))], [.int (ei_ (a)), .ref 68], m)) rfl ?_
              refine pw_ildE (x := x5) rfl rfl (by omega) ox5 ?_
              refine pw_steps 1 (s' := (33, [some (.ref 47), some (.int (ei_ (a)))], [.int (ei_ (50)), .int (ei_ (x5))], m)) rfl ?_
              refine pw_cmpT rfl ⟨rx5, sx5⟩ (by decide) (show ¬ x5 = 50 by omega) ?_
              refine pw_steps 1 (s' := (42, [some (.ref 47), some (.int (ei_ (a)))], [.int (ei_ ((-12)))], m)) rfl ?_
              refine pw_iret rfl rfl rfl ?_
              refine pw_ifF rfl (by decide) (show ¬ (0 ≤ (-12)) by decide) ?_
              refine pw_steps 2 (s' := (35, [some (.ref 47), some (.int (ei_ (a))), some (.int (ei_ (b))), none], [.int (ei_ (a)), .ref 47], m)) rfl ?_
              refine pw_call (As := [.int (ei_ (a))]) (st := []) (k := 47) rfl rfl rfl rfl rfl (Nat.le_of_ble_eq_true rfl) ?_
              refine pw_intro (I := iX9_bytesIs) (T := tX9_bytesIs) rfl rfl rfl ?_
              refine pw_steps 1 (s' := (1, [some (.ref 47), some (.int (ei_ (a)))], [.int (ei_ (a))], m)) rfl ?_
              refine pw_callS (As := [.int (ei_ (a))]) (st := []) rfl (by decide) rfl rfl (Nat.le_of_ble_eq_true rfl) ?_
              refine pw_intro (I := iX9_isShelf) (T := tX9_isShelf) rfl rfl rfl ?_
              refine pw_steps 4 (s' := (6, [some (.int (ei_ (a)))], [.long (el_ (5)), .long (el_ (0)), .long ((ei_ (a)).toInt64)], m)) rfl ?_
              refine pw_cv (congrArg (fun z_ : Int64 => ((6, [some (.int (ei_ (a)))], [.long (el_ (5)), .long (el_ (0)), .long z_], m) : am_S)) (el_i2l p7 rfl)) ?_
              refine pw_callS (As := [.long (el_ (a)), .long (el_ (0)), .long (el_ (5))]) (st := []) rfl (by decide) rfl rfl (Nat.le_of_ble_eq_true rfl) ?_
              refine mt_within (by omega) (by omega) (by omega) (fun g26 g27 => ?_) (fun g28 => ?_) (fun g29 => ?_)
              · refine pw_iret rfl rfl rfl ?_
                refine pw_ifT rfl (by decide) (show ¬ 1 = 0 by decide) ?_
                refine pw_steps 3 (s' := (16, [some (.ref 47), some (.int (ei_ (a)))], [.int (ei_ (a)), .ref 68], m)) rfl ?_
                refine pw_ildE (x := x5) rfl rfl (by omega) ox5 ?_
                refine pw_ifT rfl ⟨rx5, sx5⟩ (show 0 ≤ x5 by omega) ?_
                refine pw_steps 3 (s' := (30, [some (.ref 47), some (.int (ei_ (a)))], [.int (ei_ (a)), .ref 68], m)) rfl ?_
                refine pw_ildE (x := x5) rfl rfl (by omega) ox5 ?_
                refine pw_steps 1 (s' := (33, [some (.ref 47), some (.int (ei_ (a)))], [.int (ei_ (50)), .int (ei_ (x5))], m)) rfl ?_
                refine pw_cmpT rfl ⟨rx5, sx5⟩ (by decide) (show ¬ x5 = 50 by omega) ?_
                refine pw_steps 1 (s' := (42, [some (.ref 47), some (.int (ei_ (a)))], [.int (ei_ ((-12)))], m)) rfl ?_
                refine pw_iret rfl rfl rfl ?_
                refine pw_iret rfl rfl rfl ?_
                exact k0 (-12) m (by exact Or.inr ⟨by omega, Or.inr ⟨by omega, Or.inr (Or.inl ⟨by omega, by omega, rfl⟩)⟩⟩) (p4)
              · exact False.elim (by omega)
              · exact False.elim (by omega)
            · exact False.elim (by omega)
            · exact False.elim (by omega)
          · refine pw_iret rfl rfl rfl ?_
            refine pw_ifF rfl (by decide) (show ¬ (¬ 0 = 0) by decide) ?_
            refine pw_steps 1 (s' := (24, [some (.ref 47), some (.int (ei_ (a))), some (.int (ei_ (b))), none], [.int (ei_ ((-1)))], m)) rfl ?_
            refine pw_iret rfl rfl rfl ?_
            exact k0 (-1) m (by by_cases c_ : 0 ≤ a ∧ a < 6; exact Or.inl ⟨by omega, rfl⟩; by_cases c2_ : b = -1 ∨ (0 ≤ b ∧ b < vi_ m0 1 1); exact Or.inr ⟨c2_, Or.inl ⟨c_, rfl⟩⟩; exact Or.inl ⟨by omega, rfl⟩) (p4)
          · refine pw_iret rfl rfl rfl ?_
            refine pw_ifF rfl (by decide) (show ¬ (¬ 0 = 0) by decide) ?_
            refine pw_steps 1 (s' := (24, [some (.ref 47), some (.int (ei_ (a))), some (.int (ei_ (b))), none], [.int (ei_ ((-1)))], m)) rfl ?_
            refine pw_iret rfl rfl rfl ?_
            exact k0 (-1) m (by by_cases c_ : 0 ≤ a ∧ a < 6; exact Or.inl ⟨by omega, rfl⟩; by_cases c2_ : b = -1 ∨ (0 ≤ b ∧ b < vi_ m0 1 1); exact Or.inr ⟨c2_, Or.inl ⟨c_, rfl⟩⟩; exact Or.inl ⟨by omega, rfl⟩) (p4)
      · refine pw_steps 2 (s' := (42, [some (.ref 47), some (.int (ei_ (a)))], [.int (ei_ (1))], m)) rfl ?_
        refine pw_iret rfl rfl rfl ?_
        refine pw_steps 1 (s' := (6, [some (.ref 47), some (.int (ei_ (a))), some (.int (ei_ (b))), none], [.int (ei_ ((-1))), .int (ei_ (1))], m)) rfl ?_
        refine pw_cmpF rfl (by decide) (by decide) (show ¬ (1 = (-1)) by decide) ?_
        refine pw_steps 2 (s' := (11, [some (.ref 47), some (.int (ei_ (a))), some (.int (ei_ (b))), none], [.int (ei_ ((-1))), .int (ei_ (b))], m)) rfl ?_
        refine pw_cmp rfl p8 (by decide) (fun (h30 : b = (-1)) => ?_) (fun (h30 : ¬ (b = (-1))) => ?_)
        · refine pw_steps 2 (s' := (27, [some (.ref 47), some (.int (ei_ (a))), some (.int (ei_ (b))), none], [.int (ei_ (a)), .ref 47], m)) rfl ?_
          refine pw_call (As := [.int (ei_ (a))]) (st := []) (k := 47) rfl rfl rfl rfl rfl (Nat.le_of_ble_eq_true rfl) ?_
          refine pw_intro (I := iX9_bytesIs) (T := tX9_bytesIs) rfl rfl rfl ?_
          refine pw_steps 1 (s' := (1, [some (.ref 47), some (.int (ei_ (a)))], [.int (ei_ (a))], m)) rfl ?_
          refine pw_callS (As := [.int (ei_ (a))]) (st := []) rfl (by decide) rfl rfl (Nat.le_of_ble_eq_true rfl) ?_
          refine pw_intro (I := iX9_isShelf) (T := tX9_isShelf) rfl rfl rfl ?_
          refine pw_steps 4 (s' := (6, [some (.int (ei_ (a)))], [.long (el_ (5)), .long (el_ (0)), .long ((ei_ (a)).toInt64)], m)) rfl ?_
          refine pw_cv (congrArg (fun z_ : Int64 => ((6, [some (.int (ei_ (a)))], [.long (el_ (5)), .long (el_ (0)), .long z_], m) : am_S)) (el_i2l p7 rfl)) ?_
          refine pw_callS (As := [.long (el_ (a)), .long (el_ (0)), .long (el_ (5))]) (st := []) rfl (by decide) rfl rfl (Nat.le_of_ble_eq_true rfl) ?_
          refine mt_within (by omega) (by omega) (by omega) (fun g31 g32 => ?_) (fun g33 => ?_) (fun g34 => ?_)
          · refine pw_iret rfl rfl rfl ?_
            refine pw_ifT rfl (by decide) (show ¬ 1 = 0 by decide) ?_
            refine pw_steps 3 (s' := (16, [some (.ref 47), some (.int (ei_ (a)))], [.int (ei_ (a)), .ref 68], m)) rfl ?_
            refine pw_ildE (x := x5) rfl rfl (by omega) ox5 ?_
            refine pw_ifT rfl ⟨rx5, sx5⟩ (show 0 ≤ x5 by omega) ?_
            refine pw_steps 3 (s' := (30, [some (.ref 47), some (.int (ei_ (a)))], [.int (ei_ (a)), .ref 68], m)) rfl ?_
            refine pw_ildE (x := x5) rfl rfl (by omega) ox5 ?_
            refine pw_steps 1 (s' := (33, [some (.ref 47), some (.int (ei_ (a)))], [.int (ei_ (50)), .int (ei_ (x5))], m)) rfl ?_
            refine pw_cmpF rfl ⟨rx5, sx5⟩ (by decide) (show ¬ (¬ x5 = 50) by omega) ?_
            refine pw_steps 2 (s' := (42, [some (.ref 47), some (.int (ei_ (a)))], [.int (ei_ (1))], m)) rfl ?_
            refine pw_iret rfl rfl rfl ?_
            refine pw_ifT rfl (by decide) (show 0 ≤ 1 by decide) ?_
            refine pw_steps 1 (s' := (40, [some (.ref 47), some (.int (ei_ (a))), some (.int (ei_ (b))), none], [.ref 47], m)) rfl ?_
            refine pw_get rfl rfl (fun x35 (hx35 : x35 = vi_ m 47 6) rx35 sx35 => ?_)
            have ox35 := hx35
            replace hx35 : x35 = vi_ m0 47 6 := hx35.trans (sm_v p4 rfl)
            replace hx35 : x35 = vi_ m0 1 1 := hx35.trans hP2
            refine pw_steps 1 (s' := (44, [some (.ref 47), some (.int (ei_ (a))), some (.int (ei_ (b))), none], [.int (ei_ (5)), .int (ei_ (x35))], m)) rfl ?_
            refine pw_cmp rfl ⟨rx35, sx35⟩ (by decide) (fun (h36 : x35 ≤ 5) => ?_) (fun (h36 : ¬ (x35 ≤ 5)) => ?_)
            · refine pw_steps 1 (s' := (51, [some (.ref 47), some (.int (ei_ (a))), some (.int (ei_ (b))), none], [.ref 47], m)) rfl ?_
              refine pw_call (As := []) (st := []) (k := 47) rfl rfl rfl rfl rfl (Nat.le_of_ble_eq_true rfl) ?_
              refine mw_begw (P := (vi_ m0 1 1)) (((sm_v p4 rfl).trans hP2)) (⟨by omega, by omega⟩) (fun m137 g38 g39 g40 g41 => ?_)
              have htt_ : vi_ m137 47 23 = tt_ m0 := g40
              refine pw_steps 2 (s' := (56, [some (.ref 47), some (.int (ei_ (a))), some (.int (ei_ (b))), some (.int (ei_ (0)))], [], m137)) rfl ?_
              have L44 : ∀ (n42 : Nat) (k : Int) (m1 : am_M) (f : Int) (y : Int), (tt_ m0 - k).toNat = n42 → (0 ≤ k ∧ k ≤ tt_ m0) → (sm_ pSw m0 m1) → (vi_ m1 47 23 = tt_ m0) → (∀ j, 0 ≤ j → j < vi_ m0 1 1 → vi_ m1 58 j = vi_ m0 52 j) → (∀ j, vi_ m0 1 1 ≤ j → vi_ m1 52 j = vi_ m0 52 j) → (vi_ m1 47 22 = f) → (wc_ (sat_ m0 a) k.toNat f y) → (0 ≤ f ∧ f ≤ k) → (f ≠ 0 → ∀ j, 0 ≤ j → j < vi_ m0 1 1 → vi_ m1 59 j = wy_ (vi_ m0 1 1) y j) → pw_V q (d + 59) iX9_wore.2.2.2.1 tX9_wore Q (56, [some (.ref 47), some (.int (ei_ (a))), some (.int (ei_ (b))), some (.int (ei_ (k)))], [], m1) := by
                intro n42
                induction n42 using Nat.strongRecOn with
                | _ n42 ih43 =>
                  intro k m1 f y hm_n42 hk hs h23 h58 hN h22 hX hf hF
                  have ct_ := tt_b p0 (by omega)
                  refine pw_steps 2 (s' := (58, [some (.ref 47), some (.int (ei_ (a))), some (.int (ei_ (b))), some (.int (ei_ (k)))], [.ref 47, .int (ei_ (k))], m1)) rfl ?_
                  refine pw_get rfl rfl (fun x45 (hx45 : x45 = vi_ m1 47 23) rx45 sx45 => ?_)
                  replace hx45 : x45 = tt_ m0 := hx45.trans h23
                  subst x45
                  refine pw_cmp rfl (by omega) ⟨rx45, sx45⟩ (fun (h46 : tt_ m0 ≤ k) => ?_) (fun (h46 : ¬ (tt_ m0 ≤ k)) => ?_)
                  · refine pw_steps 1 (s' := (110, [some (.ref 47), some (.int (ei_ (a))), some (.int (ei_ (b))), some (.int (ei_ (k)))], [.ref 47], m1)) rfl ?_
                    refine pw_call (As := []) (st := []) (k := 47) rfl rfl rfl rfl rfl (Nat.le_of_ble_eq_true rfl) ?_
                    refine mw_ends (P := (vi_ m0 1 1)) (((sm_v hs rfl).trans hP2)) (⟨by omega, by omega⟩) (fun m147 g48 g49 g50 => ?_)
                    refine pw_steps 1 (s' := (114, [some (.ref 47), some (.int (ei_ (a))), some (.int (ei_ (b))), some (.int (ei_ (k)))], [.int (ei_ (b))], m147)) rfl ?_
                    refine pw_ifF rfl p8 (show ¬ (0 ≤ b) by omega) ?_
                    refine pw_steps 1 (s' := (118, [some (.ref 47), some (.int (ei_ (a))), some (.int (ei_ (b))), some (.int (ei_ (k)))], [.ref 47], m147)) rfl ?_
                    refine pw_get rfl rfl (fun x51 (hx51 : x51 = vi_ m147 47 22) rx51 sx51 => ?_)
                    replace hx51 : x51 = vi_ m1 47 22 := hx51.trans (sm_v g48 rfl)
                    replace hx51 : x51 = f := hx51.trans h22
                    subst x51
                    refine pw_steps 1 (s' := (142, [some (.ref 47), some (.int (ei_ (a))), some (.int (ei_ (b))), some (.int (ei_ (k)))], [.int (ei_ (f))], m147)) rfl ?_
                    refine pw_iret rfl rfl rfl ?_
                    exact k0 f m147 (by exact Or.inr ⟨by omega, Or.inr ⟨by omega, Or.inr (Or.inr ⟨by omega, Or.inr ⟨by omega, swx_i f y ((by rw [← show k = tt_ m0 by omega]; exact hX)) (Or.inl ⟨by omega, rfl⟩)⟩⟩)⟩⟩) (by exact sm_52 (sm_tr hs (sm_le g48 pC52_Sw)) (fun j a_ => by by_cases c_ : j < vi_ m0 1 1; (rw [g49 j a_ c_]; exact h58 j a_ c_); (rw [g50 j (by omega)]; exact hN j (by omega))))
                  · refine pw_steps 2 (s' := (66, [some (.ref 47), some (.int (ei_ (a))), some (.int (ei_ (b))), some (.int (ei_ (k)))], [.int (ei_ (k)), .ref 47], m1)) rfl ?_
                    refine pw_call (As := [.int (ei_ (k))]) (st := []) (k := 47) rfl rfl rfl rfl rfl (Nat.le_of_ble_eq_true rfl) ?_
                    refine mw_isWay (P := (vi_ m0 1 1)) (g := (fun i => vi_ m0 2 (16 + i))) (((sm_v hs rfl).trans hP2)) (⟨by omega, by omega⟩) (by omega) (fun i a_ b_ => by rw [sm_f hs (k := 48) (fun _ => rfl)]; exact (hP3 (16 + i) (by omega) (by omega)).2.2) (fun m152 g53 g54 g55 g56 => ?_) (fun m157 g58 g59 g60 g61 => ?_)
                    · have hsw_ : sm_ pSw m0 m152 := (sm_tr hs (sm_le g53 pC52_Sw))
                      have e11_ : vi_ m152 1 1 = vi_ m0 1 1 := sm_v hsw_ (k := 1) (j := 1) rfl
                      refine pw_ifF rfl (by decide) (show ¬ (1 = 0) by decide) ?_
                      refine pw_steps 2 (s' := (74, [some (.ref 47), some (.int (ei_ (a))), some (.int (ei_ (b))), some (.int (ei_ (k)))], [.int (ei_ (a)), .ref 47], m152)) rfl ?_
                      refine pw_call (As := [.int (ei_ (a))]) (st := []) (k := 47) rfl rfl rfl rfl rfl (Nat.le_of_ble_eq_true rfl) ?_
                      refine ms_first2 (rP_fr (P := pSw) hsw_ rfl rfl (fun _ => rfl) (fun _ => rfl) p0) (fun j a_ b_ => by rw [e11_] at b_ ⊢; rw [g54 j a_ b_]; exact wy_b ⟨by omega, by omega⟩ _ _) (sm_rfl _) (rL_fr (P := pSw) hsw_ rfl rfl (fun _ => rfl) (fun _ => rfl) p3) (fun j a_ b_ => by rw [sm_f hsw_ (k := 53) (fun _ => rfl)]; exact hmf j a_ (by rw [← e11_]; exact b_)) (sb_sm hsw_ (sb_of p5 p6 ⟨by omega, by omega⟩ (by omega))) (p7) (fun x62 m163 g64 g65 g66 => ?_)
                      have hff_ := ff_sat p0 p1 p5 hsw_ (a := a) (c := k) (x := x62) ⟨by omega, by omega⟩ (by omega) g54 g56 g64
                      refine pw_steps 1 (s' := (79, [some (.ref 47), some (.int (ei_ (a))), some (.int (ei_ (b))), some (.int (ei_ (k)))], [.int (ei_ ((-2))), .int (ei_ (x62))], m163)) rfl ?_
                      refine pw_cmp rfl (by omega) (by decide) (fun (h67 : ¬ x62 = (-2)) => ?_) (fun (h67 : ¬ ¬ x62 = (-2)) => ?_)
                      · refine pw_steps 2 (s' := (56, [some (.ref 47), some (.int (ei_ (a))), some (.int (ei_ (b))), some (.int ((ei_ (k)) + (ei_ (1))))], [], m163)) rfl ?_
                        refine pw_cv (congrArg (fun z_ : Int32 => ((56, [some (.ref 47), some (.int (ei_ (a))), some (.int (ei_ (b))), some (.int z_)], [], m163) : am_S)) (ei_add rfl rfl)) ?_
                        exact ih43 _ (by omega) (k + 1) m163 f y rfl (by omega) ((sm_tr (sm_tr hs (sm_le g53 pC52_Sw)) (sm_le g65 pGo_Sw))) ((sm_v (P := pW58) (sm_tr (sm_le g53 pC52_W58) (sm_le g65 pGo_W58)) (k := 47) (j := 23) rfl).trans h23) (by intro j a_ b_; rw [sm_f (P := pW58) (sm_tr (sm_le g53 pC52_W58) (sm_le g65 pGo_W58)) (k := 58) (fun _ => rfl)]; exact h58 j a_ b_) (by intro j a_; rw [sm_f (P := pW52) (sm_le g65 pGo_W52) (k := 52) (fun _ => rfl), g55 j a_]; exact hN j a_) (by exact ((sm_v g65 rfl).trans ((sm_v g53 rfl).trans h22))) (by exact wc_n (by omega) hX (hff_.2 (by omega))) (by omega) (by intro h_ j a_ b_; rw [sm_f (P := pW59) (sm_tr (sm_le g53 pC52_W59) (sm_le g65 pGo_W59)) (k := 59) (fun _ => rfl)]; exact hF (by omega) j a_ b_)
                      · refine pw_steps 1 (s' := (83, [some (.ref 47), some (.int (ei_ (a))), some (.int (ei_ (b))), some (.int (ei_ (k)))], [.ref 47], m163)) rfl ?_
                        refine pw_get rfl rfl (fun x68 (hx68 : x68 = vi_ m163 47 22) rx68 sx68 => ?_)
                        replace hx68 : x68 = vi_ m152 47 22 := hx68.trans (sm_v g65 rfl)
                        replace hx68 : x68 = vi_ m1 47 22 := hx68.trans (sm_v g53 rfl)
                        replace hx68 : x68 = f := hx68.trans h22
                        subst x68
                        refine pw_if rfl ⟨rx68, sx68⟩ (fun (h69 : ¬ f = 0) => ?_) (fun (h69 : ¬ ¬ f = 0) => ?_)
                        · refine pw_steps 2 (s' := (95, [some (.ref 47), some (.int (ei_ (a))), some (.int (ei_ (b))), some (.int (ei_ (k)))], [.ref 47, .ref 47], m163)) rfl ?_
                          refine pw_get rfl rfl (fun x70 (hx70 : x70 = vi_ m163 47 22) rx70 sx70 => ?_)
                          replace hx70 : x70 = vi_ m152 47 22 := hx70.trans (sm_v g65 rfl)
                          replace hx70 : x70 = vi_ m1 47 22 := hx70.trans (sm_v g53 rfl)
                          replace hx70 : x70 = f := hx70.trans h22
                          subst x70
                          refine pw_steps 2 (s' := (100, [some (.ref 47), some (.int (ei_ (a))), some (.int (ei_ (b))), some (.int (ei_ (k)))], [.int ((ei_ (f)) + (ei_ (1))), .ref 47], m163)) rfl ?_
                          refine pw_cv (congrArg (fun z_ : Int32 => ((100, [some (.ref 47), some (.int (ei_ (a))), some (.int (ei_ (b))), some (.int (ei_ (k)))], [.int z_, .ref 47], m163) : am_S)) (ei_add rfl rfl)) ?_
                          refine pw_put (v := (f + 1)) rfl rfl (Or.inl rfl) ?_
                          refine pw_cv (s' := (103, [some (.ref 47), some (.int (ei_ (a))), some (.int (ei_ (b))), some (.int (ei_ (k)))], [], wi_ m163 47 (22) ((f + 1)))) rfl ?_
                          refine pw_steps 2 (s' := (56, [some (.ref 47), some (.int (ei_ (a))), some (.int (ei_ (b))), some (.int ((ei_ (k)) + (ei_ (1))))], [], wi_ m163 47 (22) ((f + 1)))) rfl ?_
                          refine pw_cv (congrArg (fun z_ : Int32 => ((56, [some (.ref 47), some (.int (ei_ (a))), some (.int (ei_ (b))), some (.int z_)], [], wi_ m163 47 (22) ((f + 1))) : am_S)) (ei_add rfl rfl)) ?_
                          exact ih43 _ (by omega) (k + 1) (wi_ m163 47 (22) ((f + 1))) (f + 1) y rfl (by omega) ((sm_w (sm_tr (sm_tr hs (sm_le g53 pC52_Sw)) (sm_le g65 pGo_Sw)) (fun _ h_ => by rw [h_]; rfl))) ((sm_v (P := pW58) (sm_w (sm_tr (sm_le g53 pC52_W58) (sm_le g65 pGo_W58)) (fun _ h_ => by rw [h_]; rfl)) (k := 47) (j := 23) rfl).trans h23) (by intro j a_ b_; rw [sm_f (P := pW58) (sm_w (sm_tr (sm_le g53 pC52_W58) (sm_le g65 pGo_W58)) (fun _ h_ => by rw [h_]; rfl)) (k := 58) (fun _ => rfl)]; exact h58 j a_ b_) (by intro j a_; rw [sm_f (P := pW52) (sm_w (sm_le g65 pGo_W52) (fun _ h_ => by rw [h_]; rfl)) (k := 52) (fun _ => rfl), g55 j a_]; exact hN j a_) (by exact (ei_i (by omega))) (by have t_ := wc_y (by omega) hX (hff_.1 (by omega)); rw [if_neg (by omega)] at t_; exact t_) (by omega) (by intro h_ j a_ b_; rw [sm_f (P := pW59) (sm_w (sm_tr (sm_le g53 pC52_W59) (sm_le g65 pGo_W59)) (fun _ h_ => by rw [h_]; rfl)) (k := 59) (fun _ => rfl)]; exact hF (by omega) j a_ b_)
                        · refine pw_steps 1 (s' := (90, [some (.ref 47), some (.int (ei_ (a))), some (.int (ei_ (b))), some (.int (ei_ (k)))], [.ref 47], m163)) rfl ?_
                          refine pw_call (As := []) (st := []) (k := 47) rfl rfl rfl rfl rfl (Nat.le_of_ble_eq_true rfl) ?_
                          refine mw_keep (P := (vi_ m0 1 1)) (((sm_v g65 rfl).trans ((sm_v g53 rfl).trans ((sm_v hs rfl).trans hP2)))) (⟨by omega, by omega⟩) (fun m171 g72 g73 => ?_)
                          refine pw_steps 2 (s' := (95, [some (.ref 47), some (.int (ei_ (a))), some (.int (ei_ (b))), some (.int (ei_ (k)))], [.ref 47, .ref 47], m171)) rfl ?_
                          refine pw_get rfl rfl (fun x74 (hx74 : x74 = vi_ m171 47 22) rx74 sx74 => ?_)
                          replace hx74 : x74 = vi_ m163 47 22 := hx74.trans (sm_v g72 rfl)
                          replace hx74 : x74 = vi_ m152 47 22 := hx74.trans (sm_v g65 rfl)
                          replace hx74 : x74 = vi_ m1 47 22 := hx74.trans (sm_v g53 rfl)
                          replace hx74 : x74 = f := hx74.trans h22
                          subst x74
                          refine pw_steps 2 (s' := (100, [some (.ref 47), some (.int (ei_ (a))), some (.int (ei_ (b))), some (.int (ei_ (k)))], [.int ((ei_ (f)) + (ei_ (1))), .ref 47], m171)) rfl ?_
                          refine pw_cv (congrArg (fun z_ : Int32 => ((100, [some (.ref 47), some (.int (ei_ (a))), some (.int (ei_ (b))), some (.int (ei_ (k)))], [.int z_, .ref 47], m171) : am_S)) (ei_add rfl rfl)) ?_
                          refine pw_put (v := (f + 1)) rfl rfl (Or.inl rfl) ?_
                          refine pw_cv (s' := (103, [some (.ref 47), some (.int (ei_ (a))), some (.int (ei_ (b))), some (.int (ei_ (k)))], [], wi_ m171 47 (22) ((f + 1)))) rfl ?_
                          refine pw_steps 2 (s' := (56, [some (.ref 47), some (.int (ei_ (a))), some (.int (ei_ (b))), some (.int ((ei_ (k)) + (ei_ (1))))], [], wi_ m171 47 (22) ((f + 1)))) rfl ?_
                          refine pw_cv (congrArg (fun z_ : Int32 => ((56, [some (.ref 47), some (.int (ei_ (a))), some (.int (ei_ (b))), some (.int z_)], [], wi_ m171 47 (22) ((f + 1))) : am_S)) (ei_add rfl rfl)) ?_
                          exact ih43 _ (by omega) (k + 1) (wi_ m171 47 (22) ((f + 1))) (f + 1) k rfl (by omega) ((sm_w (sm_tr (sm_tr (sm_tr hs (sm_le g53 pC52_Sw)) (sm_le g65 pGo_Sw)) (sm_le g72 pC59_Sw)) (fun _ h_ => by rw [h_]; rfl))) ((sm_v (P := pW58) (sm_w (sm_tr (sm_tr (sm_le g53 pC52_W58) (sm_le g65 pGo_W58)) (sm_le g72 pC59_W58)) (fun _ h_ => by rw [h_]; rfl)) (k := 47) (j := 23) rfl).trans h23) (by intro j a_ b_; rw [sm_f (P := pW58) (sm_w (sm_tr (sm_tr (sm_le g53 pC52_W58) (sm_le g65 pGo_W58)) (sm_le g72 pC59_W58)) (fun _ h_ => by rw [h_]; rfl)) (k := 58) (fun _ => rfl)]; exact h58 j a_ b_) (by intro j a_; rw [sm_f (P := pW52) (sm_w (sm_tr (sm_le g65 pGo_W52) (sm_le g72 pC59_W52)) (fun _ h_ => by rw [h_]; rfl)) (k := 52) (fun _ => rfl), g55 j a_]; exact hN j a_) (by exact (ei_i (by omega))) (by have t_ := wc_y (by omega) hX (hff_.1 (by omega)); rw [if_pos (by omega)] at t_; exact t_) (by omega) (by intro _ j a_ b_; rw [vi_ne (show (59 : Nat) ≠ 47 by decide), g73 j a_ b_, sm_v (P := pGo) g65 (k := 52) (j := j) rfl]; exact g54 j a_ b_)
                    · have hsw_ : sm_ pSw m0 m157 := (sm_tr hs (sm_le g58 pC52_Sw))
                      have e11_ : vi_ m157 1 1 = vi_ m0 1 1 := sm_v hsw_ (k := 1) (j := 1) rfl
                      refine pw_ifT rfl (by decide) (show 0 = 0 by decide) ?_
                      refine pw_steps 2 (s' := (56, [some (.ref 47), some (.int (ei_ (a))), some (.int (ei_ (b))), some (.int ((ei_ (k)) + (ei_ (1))))], [], m157)) rfl ?_
                      refine pw_cv (congrArg (fun z_ : Int32 => ((56, [some (.ref 47), some (.int (ei_ (a))), some (.int (ei_ (b))), some (.int z_)], [], m157) : am_S)) (ei_add rfl rfl)) ?_
                      exact ih43 _ (by omega) (k + 1) m157 f y rfl (by omega) ((sm_tr hs (sm_le g58 pC52_Sw))) ((sm_v (P := pW58) (sm_le g58 pC52_W58) (k := 47) (j := 23) rfl).trans h23) (by intro j a_ b_; rw [sm_f (P := pW58) (sm_le g58 pC52_W58) (k := 58) (fun _ => rfl)]; exact h58 j a_ b_) (by intro j a_; rw [sm_f (P := pW52) (sm_rfl m157) (k := 52) (fun _ => rfl), g60 j a_]; exact hN j a_) (by exact ((sm_v g58 rfl).trans h22)) (by exact wc_n (by omega) hX (fun q_ => g61 q_.1)) (by omega) (by intro h_ j a_ b_; rw [sm_f (P := pW59) (sm_le g58 pC52_W59) (k := 59) (fun _ => rfl)]; exact hF (by omega) j a_ b_)
              exact L44 _ 0 m137 0 (-1) rfl (by have t_ := tt_b p0 (by omega); omega) ((sm_tr (sm_le p4 pSc_Sw) (sm_le g38 pBw_Sw))) (by exact htt_) (by intro j a_ b_; rw [g41 j a_ b_]; exact sm_v p4 (k := 52) (j := j) rfl) (by intro j _; exact (sm_v g38 (k := 52) (j := j) rfl).trans (sm_v p4 (k := 52) (j := j) rfl)) (by exact g39) (by exact ⟨rfl, rfl⟩) (by omega) (by intro h_; exact absurd rfl h_)
            · refine pw_steps 1 (s' := (49, [some (.ref 47), some (.int (ei_ (a))), some (.int (ei_ (b))), none], [.int (ei_ ((-5)))], m)) rfl ?_
              refine pw_iret rfl rfl rfl ?_
              exact k0 (-5) m (by exact Or.inr ⟨by omega, Or.inr ⟨by omega, Or.inr (Or.inr ⟨by omega, Or.inl ⟨by omega, rfl⟩⟩)⟩⟩) (p4)
          · exact False.elim (by omega)
          · exact False.elim (by omega)
        · refine pw_steps 3 (s' := (17, [some (.ref 47), some (.int (ei_ (a))), some (.int (ei_ (b))), none], [.long ((ei_ (b)).toInt64), .ref 47], m)) rfl ?_
          refine pw_cv (congrArg (fun z_ : Int64 => ((17, [some (.ref 47), some (.int (ei_ (a))), some (.int (ei_ (b))), none], [.long z_, .ref 47], m) : am_S)) (el_i2l p8 rfl)) ?_
          refine pw_call (As := [.long (el_ (b))]) (st := []) (k := 47) rfl rfl rfl rfl rfl (Nat.le_of_ble_eq_true rfl) ?_
          refine pw_intro (I := iX9_isOne) (T := tX9_isOne) rfl rfl rfl ?_
          refine pw_steps 3 (s' := (3, [some (.ref 47), some (.long (el_ (b))), none], [.ref 47, .long (el_ (0)), .long (el_ (b))], m)) rfl ?_
          refine pw_get rfl rfl (fun x75 (hx75 : x75 = vi_ m 47 6) rx75 sx75 => ?_)
          have ox75 := hx75
          replace hx75 : x75 = vi_ m0 47 6 := hx75.trans (sm_v p4 rfl)
          replace hx75 : x75 = vi_ m0 1 1 := hx75.trans hP2
          refine pw_steps 3 (s' := (9, [some (.ref 47), some (.long (el_ (b))), none], [.long (((ei_ (x75)) - (ei_ (1))).toInt64), .long (el_ (0)), .long (el_ (b))], m)) rfl ?_
          refine pw_cv (congrArg (fun z_ : Int64 => ((9, [some (.ref 47), some (.long (el_ (b))), none], [.long z_, .long (el_ (0)), .long (el_ (b))], m) : am_S)) (el_i2l (by omega) (ei_sub rfl rfl))) ?_
          refine pw_callS (As := [.long (el_ (b)), .long (el_ (0)), .long (el_ ((x75 - 1)))]) (st := []) rfl (by decide) rfl rfl (Nat.le_of_ble_eq_true rfl) ?_
          refine mt_within (by omega) (by omega) (by omega) (fun g76 g77 => ?_) (fun g78 => ?_) (fun g79 => ?_)
          · refine pw_iret rfl rfl rfl ?_
            refine pw_ifT rfl (by decide) (show ¬ 1 = 0 by decide) ?_
            refine pw_steps 2 (s' := (27, [some (.ref 47), some (.int (ei_ (a))), some (.int (ei_ (b))), none], [.int (ei_ (a)), .ref 47], m)) rfl ?_
            refine pw_call (As := [.int (ei_ (a))]) (st := []) (k := 47) rfl rfl rfl rfl rfl (Nat.le_of_ble_eq_true rfl) ?_
            refine pw_intro (I := iX9_bytesIs) (T := tX9_bytesIs) rfl rfl rfl ?_
            refine pw_steps 1 (s' := (1, [some (.ref 47), some (.int (ei_ (a)))], [.int (ei_ (a))], m)) rfl ?_
            refine pw_callS (As := [.int (ei_ (a))]) (st := []) rfl (by decide) rfl rfl (Nat.le_of_ble_eq_true rfl) ?_
            refine pw_intro (I := iX9_isShelf) (T := tX9_isShelf) rfl rfl rfl ?_
            refine pw_steps 4 (s' := (6, [some (.int (ei_ (a)))], [.long (el_ (5)), .long (el_ (0)), .long ((ei_ (a)).toInt64)], m)) rfl ?_
            refine pw_cv (congrArg (fun z_ : Int64 => ((6, [some (.int (ei_ (a)))], [.long (el_ (5)), .long (el_ (0)), .long z_], m) : am_S)) (el_i2l p7 rfl)) ?_
            refine pw_callS (As := [.long (el_ (a)), .long (el_ (0)), .long (el_ (5))]) (st := []) rfl (by decide) rfl rfl (Nat.le_of_ble_eq_true rfl) ?_
            refine mt_within (by omega) (by omega) (by omega) (fun g80 g81 => ?_) (fun g82 => ?_) (fun g83 => ?_)
            · refine pw_iret rfl rfl rfl ?_
              refine pw_ifT rfl (by decide) (show ¬ 1 = 0 by decide) ?_
              refine pw_steps 3 (s' := (16, [some (.ref 47), some (.int (ei_ (a)))], [.int (ei_ (a)), .ref 68], m)) rfl ?_
              refine pw_ildE (x := x5) rfl rfl (by omega) ox5 ?_
              refine pw_ifT rfl ⟨rx5, sx5⟩ (show 0 ≤ x5 by omega) ?_
              refine pw_steps 3 (s' := (30, [some (.ref 47), some (.int (ei_ (a)))], [.int (ei_ (a)), .ref 68], m)) rfl ?_
              refine pw_ildE (x := x5) rfl rfl (by omega) ox5 ?_
              refine pw_steps 1 (s' := (33, [some (.ref 47), some (.int (ei_ (a)))], [.int (ei_ (50)), .int (ei_ (x5))], m)) rfl ?_
              refine pw_cmpF rfl ⟨rx5, sx5⟩ (by decide) (show ¬ (¬ x5 = 50) by omega) ?_
              refine pw_steps 2 (s' := (42, [some (.ref 47), some (.int (ei_ (a)))], [.int (ei_ (1))], m)) rfl ?_
              refine pw_iret rfl rfl rfl ?_
              refine pw_ifT rfl (by decide) (show 0 ≤ 1 by decide) ?_
              refine pw_steps 1 (s' := (40, [some (.ref 47), some (.int (ei_ (a))), some (.int (ei_ (b))), none], [.ref 47], m)) rfl ?_
              refine pw_getE (x := x75) rfl rfl ox75 ?_
              refine pw_steps 1 (s' := (44, [some (.ref 47), some (.int (ei_ (a))), some (.int (ei_ (b))), none], [.int (ei_ (5)), .int (ei_ (x75))], m)) rfl ?_
              refine pw_cmp rfl ⟨rx75, sx75⟩ (by decide) (fun (h84 : x75 ≤ 5) => ?_) (fun (h84 : ¬ (x75 ≤ 5)) => ?_)
              · refine pw_steps 1 (s' := (51, [some (.ref 47), some (.int (ei_ (a))), some (.int (ei_ (b))), none], [.ref 47], m)) rfl ?_
                refine pw_call (As := []) (st := []) (k := 47) rfl rfl rfl rfl rfl (Nat.le_of_ble_eq_true rfl) ?_
                refine mw_begw (P := (vi_ m0 1 1)) (((sm_v p4 rfl).trans hP2)) (⟨by omega, by omega⟩) (fun m185 g86 g87 g88 g89 => ?_)
                have htt_ : vi_ m185 47 23 = tt_ m0 := g88
                refine pw_steps 2 (s' := (56, [some (.ref 47), some (.int (ei_ (a))), some (.int (ei_ (b))), some (.int (ei_ (0)))], [], m185)) rfl ?_
                have L92 : ∀ (n90 : Nat) (k : Int) (m1 : am_M) (f : Int) (y : Int), (tt_ m0 - k).toNat = n90 → (0 ≤ k ∧ k ≤ tt_ m0) → (sm_ pSw m0 m1) → (vi_ m1 47 23 = tt_ m0) → (∀ j, 0 ≤ j → j < vi_ m0 1 1 → vi_ m1 58 j = vi_ m0 52 j) → (∀ j, vi_ m0 1 1 ≤ j → vi_ m1 52 j = vi_ m0 52 j) → (vi_ m1 47 22 = f) → (wc_ (sat_ m0 a) k.toNat f y) → (0 ≤ f ∧ f ≤ k) → (f ≠ 0 → ∀ j, 0 ≤ j → j < vi_ m0 1 1 → vi_ m1 59 j = wy_ (vi_ m0 1 1) y j) → pw_V q (d + 59) iX9_wore.2.2.2.1 tX9_wore Q (56, [some (.ref 47), some (.int (ei_ (a))), some (.int (ei_ (b))), some (.int (ei_ (k)))], [], m1) := by
                  intro n90
                  induction n90 using Nat.strongRecOn with
                  | _ n90 ih91 =>
                    intro k m1 f y hm_n90 hk hs h23 h58 hN h22 hX hf hF
                    have ct_ := tt_b p0 (by omega)
                    refine pw_steps 2 (s' := (58, [some (.ref 47), some (.int (ei_ (a))), some (.int (ei_ (b))), some (.int (ei_ (k)))], [.ref 47, .int (ei_ (k))], m1)) rfl ?_
                    refine pw_get rfl rfl (fun x93 (hx93 : x93 = vi_ m1 47 23) rx93 sx93 => ?_)
                    replace hx93 : x93 = tt_ m0 := hx93.trans h23
                    subst x93
                    refine pw_cmp rfl (by omega) ⟨rx93, sx93⟩ (fun (h94 : tt_ m0 ≤ k) => ?_) (fun (h94 : ¬ (tt_ m0 ≤ k)) => ?_)
                    · refine pw_steps 1 (s' := (110, [some (.ref 47), some (.int (ei_ (a))), some (.int (ei_ (b))), some (.int (ei_ (k)))], [.ref 47], m1)) rfl ?_
                      refine pw_call (As := []) (st := []) (k := 47) rfl rfl rfl rfl rfl (Nat.le_of_ble_eq_true rfl) ?_
                      refine mw_ends (P := (vi_ m0 1 1)) (((sm_v hs rfl).trans hP2)) (⟨by omega, by omega⟩) (fun m195 g96 g97 g98 => ?_)
                      refine pw_steps 1 (s' := (114, [some (.ref 47), some (.int (ei_ (a))), some (.int (ei_ (b))), some (.int (ei_ (k)))], [.int (ei_ (b))], m195)) rfl ?_
                      refine pw_ifT rfl p8 (show 0 ≤ b by omega) ?_
                      refine pw_steps 1 (s' := (125, [some (.ref 47), some (.int (ei_ (a))), some (.int (ei_ (b))), some (.int (ei_ (k)))], [.ref 47], m195)) rfl ?_
                      refine pw_get rfl rfl (fun x99 (hx99 : x99 = vi_ m195 47 22) rx99 sx99 => ?_)
                      replace hx99 : x99 = vi_ m1 47 22 := hx99.trans (sm_v g96 rfl)
                      replace hx99 : x99 = f := hx99.trans h22
                      subst x99
                      refine pw_if rfl ⟨rx99, sx99⟩ (fun (h100 : ¬ f = 0) => ?_) (fun (h100 : ¬ ¬ f = 0) => ?_)
                      · refine pw_steps 3 (s' := (141, [some (.ref 47), some (.int (ei_ (a))), some (.int (ei_ (b))), some (.int (ei_ (k)))], [.int (ei_ (b)), .ref 59], m195)) rfl ?_
                        refine pw_ild rfl rfl (by omega) (fun x101 (hx101 : x101 = vi_ m195 59 b) rx101 sx101 => ?_)
                        have ox101 := hx101
                        replace hx101 : x101 = vi_ m1 59 b := hx101.trans (sm_v g96 rfl)
                        have b102 := hF (by omega) b (by omega) (by omega)
                        refine pw_iret rfl rfl rfl ?_
                        exact k0 x101 m195 (by exact Or.inr ⟨by omega, Or.inr ⟨by omega, Or.inr (Or.inr ⟨by omega, Or.inr ⟨by omega, swx_i f y ((by rw [← show k = tt_ m0 by omega]; exact hX)) (Or.inr (Or.inr ⟨by omega, by omega, by omega⟩))⟩⟩)⟩⟩) (by exact sm_52 (sm_tr hs (sm_le g96 pC52_Sw)) (fun j a_ => by by_cases c_ : j < vi_ m0 1 1; (rw [g97 j a_ c_]; exact h58 j a_ c_); (rw [g98 j (by omega)]; exact hN j (by omega))))
                      · refine pw_steps 2 (s' := (142, [some (.ref 47), some (.int (ei_ (a))), some (.int (ei_ (b))), some (.int (ei_ (k)))], [.int (ei_ ((-2)))], m195)) rfl ?_
                        refine pw_iret rfl rfl rfl ?_
                        exact k0 (-2) m195 (by exact Or.inr ⟨by omega, Or.inr ⟨by omega, Or.inr (Or.inr ⟨by omega, Or.inr ⟨by omega, swx_i f y ((by rw [← show k = tt_ m0 by omega]; exact hX)) (Or.inr (Or.inl ⟨by omega, by omega, rfl⟩))⟩⟩)⟩⟩) (by exact sm_52 (sm_tr hs (sm_le g96 pC52_Sw)) (fun j a_ => by by_cases c_ : j < vi_ m0 1 1; (rw [g97 j a_ c_]; exact h58 j a_ c_); (rw [g98 j (by omega)]; exact hN j (by omega))))
                    · refine pw_steps 2 (s' := (66, [some (.ref 47), some (.int (ei_ (a))), some (.int (ei_ (b))), some (.int (ei_ (k)))], [.int (ei_ (k)), .ref 47], m1)) rfl ?_
                      refine pw_call (As := [.int (ei_ (k))]) (st := []) (k := 47) rfl rfl rfl rfl rfl (Nat.le_of_ble_eq_true rfl) ?_
                      refine mw_isWay (P := (vi_ m0 1 1)) (g := (fun i => vi_ m0 2 (16 + i))) (((sm_v hs rfl).trans hP2)) (⟨by omega, by omega⟩) (by omega) (fun i a_ b_ => by rw [sm_f hs (k := 48) (fun _ => rfl)]; exact (hP3 (16 + i) (by omega) (by omega)).2.2) (fun m1103 g104 g105 g106 g107 => ?_) (fun m1108 g109 g110 g111 g112 => ?_)
                      · have hsw_ : sm_ pSw m0 m1103 := (sm_tr hs (sm_le g104 pC52_Sw))
                        have e11_ : vi_ m1103 1 1 = vi_ m0 1 1 := sm_v hsw_ (k := 1) (j := 1) rfl
                        refine pw_ifF rfl (by decide) (show ¬ (1 = 0) by decide) ?_
                        refine pw_steps 2 (s' := (74, [some (.ref 47), some (.int (ei_ (a))), some (.int (ei_ (b))), some (.int (ei_ (k)))], [.int (ei_ (a)), .ref 47], m1103)) rfl ?_
                        refine pw_call (As := [.int (ei_ (a))]) (st := []) (k := 47) rfl rfl rfl rfl rfl (Nat.le_of_ble_eq_true rfl) ?_
                        refine ms_first2 (rP_fr (P := pSw) hsw_ rfl rfl (fun _ => rfl) (fun _ => rfl) p0) (fun j a_ b_ => by rw [e11_] at b_ ⊢; rw [g105 j a_ b_]; exact wy_b ⟨by omega, by omega⟩ _ _) (sm_rfl _) (rL_fr (P := pSw) hsw_ rfl rfl (fun _ => rfl) (fun _ => rfl) p3) (fun j a_ b_ => by rw [sm_f hsw_ (k := 53) (fun _ => rfl)]; exact hmf j a_ (by rw [← e11_]; exact b_)) (sb_sm hsw_ (sb_of p5 p6 ⟨by omega, by omega⟩ (by omega))) (p7) (fun x113 m1114 g115 g116 g117 => ?_)
                        have hff_ := ff_sat p0 p1 p5 hsw_ (a := a) (c := k) (x := x113) ⟨by omega, by omega⟩ (by omega) g105 g107 g115
                        refine pw_steps 1 (s' := (79, [some (.ref 47), some (.int (ei_ (a))), some (.int (ei_ (b))), some (.int (ei_ (k)))], [.int (ei_ ((-2))), .int (ei_ (x113))], m1114)) rfl ?_
                        refine pw_cmp rfl (by omega) (by decide) (fun (h118 : ¬ x113 = (-2)) => ?_) (fun (h118 : ¬ ¬ x113 = (-2)) => ?_)
                        · refine pw_steps 2 (s' := (56, [some (.ref 47), some (.int (ei_ (a))), some (.int (ei_ (b))), some (.int ((ei_ (k)) + (ei_ (1))))], [], m1114)) rfl ?_
                          refine pw_cv (congrArg (fun z_ : Int32 => ((56, [some (.ref 47), some (.int (ei_ (a))), some (.int (ei_ (b))), some (.int z_)], [], m1114) : am_S)) (ei_add rfl rfl)) ?_
                          exact ih91 _ (by omega) (k + 1) m1114 f y rfl (by omega) ((sm_tr (sm_tr hs (sm_le g104 pC52_Sw)) (sm_le g116 pGo_Sw))) ((sm_v (P := pW58) (sm_tr (sm_le g104 pC52_W58) (sm_le g116 pGo_W58)) (k := 47) (j := 23) rfl).trans h23) (by intro j a_ b_; rw [sm_f (P := pW58) (sm_tr (sm_le g104 pC52_W58) (sm_le g116 pGo_W58)) (k := 58) (fun _ => rfl)]; exact h58 j a_ b_) (by intro j a_; rw [sm_f (P := pW52) (sm_le g116 pGo_W52) (k := 52) (fun _ => rfl), g106 j a_]; exact hN j a_) (by exact ((sm_v g116 rfl).trans ((sm_v g104 rfl).trans h22))) (by exact wc_n (by omega) hX (hff_.2 (by omega))) (by omega) (by intro h_ j a_ b_; rw [sm_f (P := pW59) (sm_tr (sm_le g104 pC52_W59) (sm_le g116 pGo_W59)) (k := 59) (fun _ => rfl)]; exact hF (by omega) j a_ b_)
                        · refine pw_steps 1 (s' := (83, [some (.ref 47), some (.int (ei_ (a))), some (.int (ei_ (b))), some (.int (ei_ (k)))], [.ref 47], m1114)) rfl ?_
                          refine pw_get rfl rfl (fun x119 (hx119 : x119 = vi_ m1114 47 22) rx119 sx119 => ?_)
                          replace hx119 : x119 = vi_ m1103 47 22 := hx119.trans (sm_v g116 rfl)
                          replace hx119 : x119 = vi_ m1 47 22 := hx119.trans (sm_v g104 rfl)
                          replace hx119 : x119 = f := hx119.trans h22
                          subst x119
                          refine pw_if rfl ⟨rx119, sx119⟩ (fun (h120 : ¬ f = 0) => ?_) (fun (h120 : ¬ ¬ f = 0) => ?_)
                          · refine pw_steps 2 (s' := (95, [some (.ref 47), some (.int (ei_ (a))), some (.int (ei_ (b))), some (.int (ei_ (k)))], [.ref 47, .ref 47], m1114)) rfl ?_
                            refine pw_get rfl rfl (fun x121 (hx121 : x121 = vi_ m1114 47 22) rx121 sx121 => ?_)
                            replace hx121 : x121 = vi_ m1103 47 22 := hx121.trans (sm_v g116 rfl)
                            replace hx121 : x121 = vi_ m1 47 22 := hx121.trans (sm_v g104 rfl)
                            replace hx121 : x121 = f := hx121.trans h22
                            subst x121
                            refine pw_steps 2 (s' := (100, [some (.ref 47), some (.int (ei_ (a))), some (.int (ei_ (b))), some (.int (ei_ (k)))], [.int ((ei_ (f)) + (ei_ (1))), .ref 47], m1114)) rfl ?_
                            refine pw_cv (congrArg (fun z_ : Int32 => ((100, [some (.ref 47), some (.int (ei_ (a))), some (.int (ei_ (b))), some (.int (ei_ (k)))], [.int z_, .ref 47], m1114) : am_S)) (ei_add rfl rfl)) ?_
                            refine pw_put (v := (f + 1)) rfl rfl (Or.inl rfl) ?_
                            refine pw_cv (s' := (103, [some (.ref 47), some (.int (ei_ (a))), some (.int (ei_ (b))), some (.int (ei_ (k)))], [], wi_ m1114 47 (22) ((f + 1)))) rfl ?_
                            refine pw_steps 2 (s' := (56, [some (.ref 47), some (.int (ei_ (a))), some (.int (ei_ (b))), some (.int ((ei_ (k)) + (ei_ (1))))], [], wi_ m1114 47 (22) ((f + 1)))) rfl ?_
                            refine pw_cv (congrArg (fun z_ : Int32 => ((56, [some (.ref 47), some (.int (ei_ (a))), some (.int (ei_ (b))), some (.int z_)], [], wi_ m1114 47 (22) ((f + 1))) : am_S)) (ei_add rfl rfl)) ?_
                            exact ih91 _ (by omega) (k + 1) (wi_ m1114 47 (22) ((f + 1))) (f + 1) y rfl (by omega) ((sm_w (sm_tr (sm_tr hs (sm_le g104 pC52_Sw)) (sm_le g116 pGo_Sw)) (fun _ h_ => by rw [h_]; rfl))) ((sm_v (P := pW58) (sm_w (sm_tr (sm_le g104 pC52_W58) (sm_le g116 pGo_W58)) (fun _ h_ => by rw [h_]; rfl)) (k := 47) (j := 23) rfl).trans h23) (by intro j a_ b_; rw [sm_f (P := pW58) (sm_w (sm_tr (sm_le g104 pC52_W58) (sm_le g116 pGo_W58)) (fun _ h_ => by rw [h_]; rfl)) (k := 58) (fun _ => rfl)]; exact h58 j a_ b_) (by intro j a_; rw [sm_f (P := pW52) (sm_w (sm_le g116 pGo_W52) (fun _ h_ => by rw [h_]; rfl)) (k := 52) (fun _ => rfl), g106 j a_]; exact hN j a_) (by exact (ei_i (by omega))) (by have t_ := wc_y (by omega) hX (hff_.1 (by omega)); rw [if_neg (by omega)] at t_; exact t_) (by omega) (by intro h_ j a_ b_; rw [sm_f (P := pW59) (sm_w (sm_tr (sm_le g104 pC52_W59) (sm_le g116 pGo_W59)) (fun _ h_ => by rw [h_]; rfl)) (k := 59) (fun _ => rfl)]; exact hF (by omega) j a_ b_)
                          · refine pw_steps 1 (s' := (90, [some (.ref 47), some (.int (ei_ (a))), some (.int (ei_ (b))), some (.int (ei_ (k)))], [.ref 47], m1114)) rfl ?_
                            refine pw_call (As := []) (st := []) (k := 47) rfl rfl rfl rfl rfl (Nat.le_of_ble_eq_true rfl) ?_
                            refine mw_keep (P := (vi_ m0 1 1)) (((sm_v g116 rfl).trans ((sm_v g104 rfl).trans ((sm_v hs rfl).trans hP2)))) (⟨by omega, by omega⟩) (fun m1122 g123 g124 => ?_)
                            refine pw_steps 2 (s' := (95, [some (.ref 47), some (.int (ei_ (a))), some (.int (ei_ (b))), some (.int (ei_ (k)))], [.ref 47, .ref 47], m1122)) rfl ?_
                            refine pw_get rfl rfl (fun x125 (hx125 : x125 = vi_ m1122 47 22) rx125 sx125 => ?_)
                            replace hx125 : x125 = vi_ m1114 47 22 := hx125.trans (sm_v g123 rfl)
                            replace hx125 : x125 = vi_ m1103 47 22 := hx125.trans (sm_v g116 rfl)
                            replace hx125 : x125 = vi_ m1 47 22 := hx125.trans (sm_v g104 rfl)
                            replace hx125 : x125 = f := hx125.trans h22
                            subst x125
                            refine pw_steps 2 (s' := (100, [some (.ref 47), some (.int (ei_ (a))), some (.int (ei_ (b))), some (.int (ei_ (k)))], [.int ((ei_ (f)) + (ei_ (1))), .ref 47], m1122)) rfl ?_
                            refine pw_cv (congrArg (fun z_ : Int32 => ((100, [some (.ref 47), some (.int (ei_ (a))), some (.int (ei_ (b))), some (.int (ei_ (k)))], [.int z_, .ref 47], m1122) : am_S)) (ei_add rfl rfl)) ?_
                            refine pw_put (v := (f + 1)) rfl rfl (Or.inl rfl) ?_
                            refine pw_cv (s' := (103, [some (.ref 47), some (.int (ei_ (a))), some (.int (ei_ (b))), some (.int (ei_ (k)))], [], wi_ m1122 47 (22) ((f + 1)))) rfl ?_
                            refine pw_steps 2 (s' := (56, [some (.ref 47), some (.int (ei_ (a))), some (.int (ei_ (b))), some (.int ((ei_ (k)) + (ei_ (1))))], [], wi_ m1122 47 (22) ((f + 1)))) rfl ?_
                            refine pw_cv (congrArg (fun z_ : Int32 => ((56, [some (.ref 47), some (.int (ei_ (a))), some (.int (ei_ (b))), some (.int z_)], [], wi_ m1122 47 (22) ((f + 1))) : am_S)) (ei_add rfl rfl)) ?_
                            exact ih91 _ (by omega) (k + 1) (wi_ m1122 47 (22) ((f + 1))) (f + 1) k rfl (by omega) ((sm_w (sm_tr (sm_tr (sm_tr hs (sm_le g104 pC52_Sw)) (sm_le g116 pGo_Sw)) (sm_le g123 pC59_Sw)) (fun _ h_ => by rw [h_]; rfl))) ((sm_v (P := pW58) (sm_w (sm_tr (sm_tr (sm_le g104 pC52_W58) (sm_le g116 pGo_W58)) (sm_le g123 pC59_W58)) (fun _ h_ => by rw [h_]; rfl)) (k := 47) (j := 23) rfl).trans h23) (by intro j a_ b_; rw [sm_f (P := pW58) (sm_w (sm_tr (sm_tr (sm_le g104 pC52_W58) (sm_le g116 pGo_W58)) (sm_le g123 pC59_W58)) (fun _ h_ => by rw [h_]; rfl)) (k := 58) (fun _ => rfl)]; exact h58 j a_ b_) (by intro j a_; rw [sm_f (P := pW52) (sm_w (sm_tr (sm_le g116 pGo_W52) (sm_le g123 pC59_W52)) (fun _ h_ => by rw [h_]; rfl)) (k := 52) (fun _ => rfl), g106 j a_]; exact hN j a_) (by exact (ei_i (by omega))) (by have t_ := wc_y (by omega) hX (hff_.1 (by omega)); rw [if_pos (by omega)] at t_; exact t_) (by omega) (by intro _ j a_ b_; rw [vi_ne (show (59 : Nat) ≠ 47 by decide), g124 j a_ b_, sm_v (P := pGo) g116 (k := 52) (j := j) rfl]; exact g105 j a_ b_)
                      · have hsw_ : sm_ pSw m0 m1108 := (sm_tr hs (sm_le g109 pC52_Sw))
                        have e11_ : vi_ m1108 1 1 = vi_ m0 1 1 := sm_v hsw_ (k := 1) (j := 1) rfl
                        refine pw_ifT rfl (by decide) (show 0 = 0 by decide) ?_
                        refine pw_steps 2 (s' := (56, [some (.ref 47), some (.int (ei_ (a))), some (.int (ei_ (b))), some (.int ((ei_ (k)) + (ei_ (1))))], [], m1108)) rfl ?_
                        refine pw_cv (congrArg (fun z_ : Int32 => ((56, [some (.ref 47), some (.int (ei_ (a))), some (.int (ei_ (b))), some (.int z_)], [], m1108) : am_S)) (ei_add rfl rfl)) ?_
                        exact ih91 _ (by omega) (k + 1) m1108 f y rfl (by omega) ((sm_tr hs (sm_le g109 pC52_Sw))) ((sm_v (P := pW58) (sm_le g109 pC52_W58) (k := 47) (j := 23) rfl).trans h23) (by intro j a_ b_; rw [sm_f (P := pW58) (sm_le g109 pC52_W58) (k := 58) (fun _ => rfl)]; exact h58 j a_ b_) (by intro j a_; rw [sm_f (P := pW52) (sm_rfl m1108) (k := 52) (fun _ => rfl), g111 j a_]; exact hN j a_) (by exact ((sm_v g109 rfl).trans h22)) (by exact wc_n (by omega) hX (fun q_ => g112 q_.1)) (by omega) (by intro h_ j a_ b_; rw [sm_f (P := pW59) (sm_le g109 pC52_W59) (k := 59) (fun _ => rfl)]; exact hF (by omega) j a_ b_)
                exact L92 _ 0 m185 0 (-1) rfl (by have t_ := tt_b p0 (by omega); omega) ((sm_tr (sm_le p4 pSc_Sw) (sm_le g86 pBw_Sw))) (by exact htt_) (by intro j a_ b_; rw [g89 j a_ b_]; exact sm_v p4 (k := 52) (j := j) rfl) (by intro j _; exact (sm_v g86 (k := 52) (j := j) rfl).trans (sm_v p4 (k := 52) (j := j) rfl)) (by exact g87) (by exact ⟨rfl, rfl⟩) (by omega) (by intro h_; exact absurd rfl h_)
              · refine pw_steps 1 (s' := (49, [some (.ref 47), some (.int (ei_ (a))), some (.int (ei_ (b))), none], [.int (ei_ ((-5)))], m)) rfl ?_
                refine pw_iret rfl rfl rfl ?_
                exact k0 (-5) m (by exact Or.inr ⟨by omega, Or.inr ⟨by omega, Or.inr (Or.inr ⟨by omega, Or.inl ⟨by omega, rfl⟩⟩)⟩⟩) (p4)
            · exact False.elim (by omega)
            · exact False.elim (by omega)
          · refine pw_iret rfl rfl rfl ?_
            refine pw_ifF rfl (by decide) (show ¬ (¬ 0 = 0) by decide) ?_
            refine pw_steps 1 (s' := (24, [some (.ref 47), some (.int (ei_ (a))), some (.int (ei_ (b))), none], [.int (ei_ ((-1)))], m)) rfl ?_
            refine pw_iret rfl rfl rfl ?_
            exact k0 (-1) m (by by_cases c_ : 0 ≤ a ∧ a < 6; exact Or.inl ⟨by omega, rfl⟩; by_cases c2_ : b = -1 ∨ (0 ≤ b ∧ b < vi_ m0 1 1); exact Or.inr ⟨c2_, Or.inl ⟨c_, rfl⟩⟩; exact Or.inl ⟨by omega, rfl⟩) (p4)
          · refine pw_iret rfl rfl rfl ?_
            refine pw_ifF rfl (by decide) (show ¬ (¬ 0 = 0) by decide) ?_
            refine pw_steps 1 (s' := (24, [some (.ref 47), some (.int (ei_ (a))), some (.int (ei_ (b))), none], [.int (ei_ ((-1)))], m)) rfl ?_
            refine pw_iret rfl rfl rfl ?_
            exact k0 (-1) m (by by_cases c_ : 0 ≤ a ∧ a < 6; exact Or.inl ⟨by omega, rfl⟩; by_cases c2_ : b = -1 ∨ (0 ≤ b ∧ b < vi_ m0 1 1); exact Or.inr ⟨c2_, Or.inl ⟨c_, rfl⟩⟩; exact Or.inl ⟨by omega, rfl⟩) (p4)
    · refine pw_steps 2 (s' := (42, [some (.ref 47), some (.int (ei_ (a)))], [.int (ei_ ((-11)))], m)) rfl ?_
      refine pw_iret rfl rfl rfl ?_
      refine pw_steps 1 (s' := (6, [some (.ref 47), some (.int (ei_ (a))), some (.int (ei_ (b))), none], [.int (ei_ ((-1))), .int (ei_ ((-11)))], m)) rfl ?_
      refine pw_cmpF rfl (by decide) (by decide) (show ¬ ((-11) = (-1)) by decide) ?_
      refine pw_steps 2 (s' := (11, [some (.ref 47), some (.int (ei_ (a))), some (.int (ei_ (b))), none], [.int (ei_ ((-1))), .int (ei_ (b))], m)) rfl ?_
      refine pw_cmp rfl p8 (by decide) (fun (h126 : b = (-1)) => ?_) (fun (h126 : ¬ (b = (-1))) => ?_)
      · refine pw_steps 2 (s' := (27, [some (.ref 47), some (.int (ei_ (a))), some (.int (ei_ (b))), none], [.int (ei_ (a)), .ref 47], m)) rfl ?_
        refine pw_call (As := [.int (ei_ (a))]) (st := []) (k := 47) rfl rfl rfl rfl rfl (Nat.le_of_ble_eq_true rfl) ?_
        refine pw_intro (I := iX9_bytesIs) (T := tX9_bytesIs) rfl rfl rfl ?_
        refine pw_steps 1 (s' := (1, [some (.ref 47), some (.int (ei_ (a)))], [.int (ei_ (a))], m)) rfl ?_
        refine pw_callS (As := [.int (ei_ (a))]) (st := []) rfl (by decide) rfl rfl (Nat.le_of_ble_eq_true rfl) ?_
        refine pw_intro (I := iX9_isShelf) (T := tX9_isShelf) rfl rfl rfl ?_
        refine pw_steps 4 (s' := (6, [some (.int (ei_ (a)))], [.long (el_ (5)), .long (el_ (0)), .long ((ei_ (a)).toInt64)], m)) rfl ?_
        refine pw_cv (congrArg (fun z_ : Int64 => ((6, [some (.int (ei_ (a)))], [.long (el_ (5)), .long (el_ (0)), .long z_], m) : am_S)) (el_i2l p7 rfl)) ?_
        refine pw_callS (As := [.long (el_ (a)), .long (el_ (0)), .long (el_ (5))]) (st := []) rfl (by decide) rfl rfl (Nat.le_of_ble_eq_true rfl) ?_
        refine mt_within (by omega) (by omega) (by omega) (fun g127 g128 => ?_) (fun g129 => ?_) (fun g130 => ?_)
        · refine pw_iret rfl rfl rfl ?_
          refine pw_ifT rfl (by decide) (show ¬ 1 = 0 by decide) ?_
          refine pw_steps 3 (s' := (16, [some (.ref 47), some (.int (ei_ (a)))], [.int (ei_ (a)), .ref 68], m)) rfl ?_
          refine pw_ildE (x := x5) rfl rfl (by omega) ox5 ?_
          refine pw_ifF rfl ⟨rx5, sx5⟩ (show ¬ (0 ≤ x5) by omega) ?_
          refine pw_steps 2 (s' := (42, [some (.ref 47), some (.int (ei_ (a)))], [.int (ei_ ((-11)))], m)) rfl ?_
          refine pw_iret rfl rfl rfl ?_
          refine pw_ifF rfl (by decide) (show ¬ (0 ≤ (-11)) by decide) ?_
          refine pw_steps 2 (s' := (35, [some (.ref 47), some (.int (ei_ (a))), some (.int (ei_ (b))), none], [.int (ei_ (a)), .ref 47], m)) rfl ?_
          refine pw_call (As := [.int (ei_ (a))]) (st := []) (k := 47) rfl rfl rfl rfl rfl (Nat.le_of_ble_eq_true rfl) ?_
          refine pw_intro (I := iX9_bytesIs) (T := tX9_bytesIs) rfl rfl rfl ?_
          refine pw_steps 1 (s' := (1, [some (.ref 47), some (.int (ei_ (a)))], [.int (ei_ (a))], m)) rfl ?_
          refine pw_callS (As := [.int (ei_ (a))]) (st := []) rfl (by decide) rfl rfl (Nat.le_of_ble_eq_true rfl) ?_
          refine pw_intro (I := iX9_isShelf) (T := tX9_isShelf) rfl rfl rfl ?_
          refine pw_steps 4 (s' := (6, [some (.int (ei_ (a)))], [.long (el_ (5)), .long (el_ (0)), .long ((ei_ (a)).toInt64)], m)) rfl ?_
          refine pw_cv (congrArg (fun z_ : Int64 => ((6, [some (.int (ei_ (a)))], [.long (el_ (5)), .long (el_ (0)), .long z_], m) : am_S)) (el_i2l p7 rfl)) ?_
          refine pw_callS (As := [.long (el_ (a)), .long (el_ (0)), .long (el_ (5))]) (st := []) rfl (by decide) rfl rfl (Nat.le_of_ble_eq_true rfl) ?_
          refine mt_within (by omega) (by omega) (by omega) (fun g131 g132 => ?_) (fun g133 => ?_) (fun g134 => ?_)
          · refine pw_iret rfl rfl rfl ?_
            refine pw_ifT rfl (by decide) (show ¬ 1 = 0 by decide) ?_
            refine pw_steps 3 (s' := (16, [some (.ref 47), some (.int (ei_ (a)))], [.int (ei_ (a)), .ref 68], m)) rfl ?_
            refine pw_ildE (x := x5) rfl rfl (by omega) ox5 ?_
            refine pw_ifF rfl ⟨rx5, sx5⟩ (show ¬ (0 ≤ x5) by omega) ?_
            refine pw_steps 2 (s' := (42, [some (.ref 47), some (.int (ei_ (a)))], [.int (ei_ ((-11)))], m)) rfl ?_
            refine pw_iret rfl rfl rfl ?_
            refine pw_iret rfl rfl rfl ?_
            exact k0 (-11) m (by exact Or.inr ⟨by omega, Or.inr ⟨by omega, Or.inl ⟨by omega, rfl⟩⟩⟩) (p4)
          · exact False.elim (by omega)
          · exact False.elim (by omega)
        · exact False.elim (by omega)
        · exact False.elim (by omega)
      · refine pw_steps 3 (s' := (17, [some (.ref 47), some (.int (ei_ (a))), some (.int (ei_ (b))), none], [.long ((ei_ (b)).toInt64), .ref 47], m)) rfl ?_
        refine pw_cv (congrArg (fun z_ : Int64 => ((17, [some (.ref 47), some (.int (ei_ (a))), some (.int (ei_ (b))), none], [.long z_, .ref 47], m) : am_S)) (el_i2l p8 rfl)) ?_
        refine pw_call (As := [.long (el_ (b))]) (st := []) (k := 47) rfl rfl rfl rfl rfl (Nat.le_of_ble_eq_true rfl) ?_
        refine pw_intro (I := iX9_isOne) (T := tX9_isOne) rfl rfl rfl ?_
        refine pw_steps 3 (s' := (3, [some (.ref 47), some (.long (el_ (b))), none], [.ref 47, .long (el_ (0)), .long (el_ (b))], m)) rfl ?_
        refine pw_get rfl rfl (fun x135 (hx135 : x135 = vi_ m 47 6) rx135 sx135 => ?_)
        have ox135 := hx135
        replace hx135 : x135 = vi_ m0 47 6 := hx135.trans (sm_v p4 rfl)
        replace hx135 : x135 = vi_ m0 1 1 := hx135.trans hP2
        refine pw_steps 3 (s' := (9, [some (.ref 47), some (.long (el_ (b))), none], [.long (((ei_ (x135)) - (ei_ (1))).toInt64), .long (el_ (0)), .long (el_ (b))], m)) rfl ?_
        refine pw_cv (congrArg (fun z_ : Int64 => ((9, [some (.ref 47), some (.long (el_ (b))), none], [.long z_, .long (el_ (0)), .long (el_ (b))], m) : am_S)) (el_i2l (by omega) (ei_sub rfl rfl))) ?_
        refine pw_callS (As := [.long (el_ (b)), .long (el_ (0)), .long (el_ ((x135 - 1)))]) (st := []) rfl (by decide) rfl rfl (Nat.le_of_ble_eq_true rfl) ?_
        refine mt_within (by omega) (by omega) (by omega) (fun g136 g137 => ?_) (fun g138 => ?_) (fun g139 => ?_)
        · refine pw_iret rfl rfl rfl ?_
          refine pw_ifT rfl (by decide) (show ¬ 1 = 0 by decide) ?_
          refine pw_steps 2 (s' := (27, [some (.ref 47), some (.int (ei_ (a))), some (.int (ei_ (b))), none], [.int (ei_ (a)), .ref 47], m)) rfl ?_
          refine pw_call (As := [.int (ei_ (a))]) (st := []) (k := 47) rfl rfl rfl rfl rfl (Nat.le_of_ble_eq_true rfl) ?_
          refine pw_intro (I := iX9_bytesIs) (T := tX9_bytesIs) rfl rfl rfl ?_
          refine pw_steps 1 (s' := (1, [some (.ref 47), some (.int (ei_ (a)))], [.int (ei_ (a))], m)) rfl ?_
          refine pw_callS (As := [.int (ei_ (a))]) (st := []) rfl (by decide) rfl rfl (Nat.le_of_ble_eq_true rfl) ?_
          refine pw_intro (I := iX9_isShelf) (T := tX9_isShelf) rfl rfl rfl ?_
          refine pw_steps 4 (s' := (6, [some (.int (ei_ (a)))], [.long (el_ (5)), .long (el_ (0)), .long ((ei_ (a)).toInt64)], m)) rfl ?_
          refine pw_cv (congrArg (fun z_ : Int64 => ((6, [some (.int (ei_ (a)))], [.long (el_ (5)), .long (el_ (0)), .long z_], m) : am_S)) (el_i2l p7 rfl)) ?_
          refine pw_callS (As := [.long (el_ (a)), .long (el_ (0)), .long (el_ (5))]) (st := []) rfl (by decide) rfl rfl (Nat.le_of_ble_eq_true rfl) ?_
          refine mt_within (by omega) (by omega) (by omega) (fun g140 g141 => ?_) (fun g142 => ?_) (fun g143 => ?_)
          · refine pw_iret rfl rfl rfl ?_
            refine pw_ifT rfl (by decide) (show ¬ 1 = 0 by decide) ?_
            refine pw_steps 3 (s' := (16, [some (.ref 47), some (.int (ei_ (a)))], [.int (ei_ (a)), .ref 68], m)) rfl ?_
            refine pw_ildE (x := x5) rfl rfl (by omega) ox5 ?_
            refine pw_ifF rfl ⟨rx5, sx5⟩ (show ¬ (0 ≤ x5) by omega) ?_
            refine pw_steps 2 (s' := (42, [some (.ref 47), some (.int (ei_ (a)))], [.int (ei_ ((-11)))], m)) rfl ?_
            refine pw_iret rfl rfl rfl ?_
            refine pw_ifF rfl (by decide) (show ¬ (0 ≤ (-11)) by decide) ?_
            refine pw_steps 2 (s' := (35, [some (.ref 47), some (.int (ei_ (a))), some (.int (ei_ (b))), none], [.int (ei_ (a)), .ref 47], m)) rfl ?_
            refine pw_call (As := [.int (ei_ (a))]) (st := []) (k := 47) rfl rfl rfl rfl rfl (Nat.le_of_ble_eq_true rfl) ?_
            refine pw_intro (I := iX9_bytesIs) (T := tX9_bytesIs) rfl rfl rfl ?_
            refine pw_steps 1 (s' := (1, [some (.ref 47), some (.int (ei_ (a)))], [.int (ei_ (a))], m)) rfl ?_
            refine pw_callS (As := [.int (ei_ (a))]) (st := []) rfl (by decide) rfl rfl (Nat.le_of_ble_eq_true rfl) ?_
            refine pw_intro (I := iX9_isShelf) (T := tX9_isShelf) rfl rfl rfl ?_
            refine pw_steps 4 (s' := (6, [some (.int (ei_ (a)))], [.long (el_ (5)), .long (el_ (0)), .long ((ei_ (a)).toInt64)], m)) rfl ?_
            refine pw_cv (congrArg (fun z_ : Int64 => ((6, [some (.int (ei_ (a)))], [.long (el_ (5)), .long (el_ (0)), .long z_], m) : am_S)) (el_i2l p7 rfl)) ?_
            refine pw_callS (As := [.long (el_ (a)), .long (el_ (0)), .long (el_ (5))]) (st := []) rfl (by decide) rfl rfl (Nat.le_of_ble_eq_true rfl) ?_
            refine mt_within (by omega) (by omega) (by omega) (fun g144 g145 => ?_) (fun g146 => ?_) (fun g147 => ?_)
            · refine pw_iret rfl rfl rfl ?_
              refine pw_ifT rfl (by decide) (show ¬ 1 = 0 by decide) ?_
              refine pw_steps 3 (s' := (16, [some (.ref 47), some (.int (ei_ (a)))], [.int (ei_ (a)), .ref 68], m)) rfl ?_
              refine pw_ildE (x := x5) rfl rfl (by omega) ox5 ?_
              refine pw_ifF rfl ⟨rx5, sx5⟩ (show ¬ (0 ≤ x5) by omega) ?_
              refine pw_steps 2 (s' := (42, [some (.ref 47), some (.int (ei_ (a)))], [.int (ei_ ((-11)))], m)) rfl ?_
              refine pw_iret rfl rfl rfl ?_
              refine pw_iret rfl rfl rfl ?_
              exact k0 (-11) m (by exact Or.inr ⟨by omega, Or.inr ⟨by omega, Or.inl ⟨by omega, rfl⟩⟩⟩) (p4)
            · exact False.elim (by omega)
            · exact False.elim (by omega)
          · exact False.elim (by omega)
          · exact False.elim (by omega)
        · refine pw_iret rfl rfl rfl ?_
          refine pw_ifF rfl (by decide) (show ¬ (¬ 0 = 0) by decide) ?_
          refine pw_steps 1 (s' := (24, [some (.ref 47), some (.int (ei_ (a))), some (.int (ei_ (b))), none], [.int (ei_ ((-1)))], m)) rfl ?_
          refine pw_iret rfl rfl rfl ?_
          exact k0 (-1) m (by by_cases c_ : 0 ≤ a ∧ a < 6; exact Or.inl ⟨by omega, rfl⟩; by_cases c2_ : b = -1 ∨ (0 ≤ b ∧ b < vi_ m0 1 1); exact Or.inr ⟨c2_, Or.inl ⟨c_, rfl⟩⟩; exact Or.inl ⟨by omega, rfl⟩) (p4)
        · refine pw_iret rfl rfl rfl ?_
          refine pw_ifF rfl (by decide) (show ¬ (¬ 0 = 0) by decide) ?_
          refine pw_steps 1 (s' := (24, [some (.ref 47), some (.int (ei_ (a))), some (.int (ei_ (b))), none], [.int (ei_ ((-1)))], m)) rfl ?_
          refine pw_iret rfl rfl rfl ?_
          exact k0 (-1) m (by by_cases c_ : 0 ≤ a ∧ a < 6; exact Or.inl ⟨by omega, rfl⟩; by_cases c2_ : b = -1 ∨ (0 ≤ b ∧ b < vi_ m0 1 1); exact Or.inr ⟨c2_, Or.inl ⟨c_, rfl⟩⟩; exact Or.inl ⟨by omega, rfl⟩) (p4)
  · refine pw_iret rfl rfl rfl ?_
    refine pw_ifF rfl (by decide) (show ¬ (¬ 0 = 0) by decide) ?_
    refine pw_steps 2 (s' := (42, [some (.ref 47), some (.int (ei_ (a)))], [.int (ei_ ((-1)))], m)) rfl ?_
    refine pw_iret rfl rfl rfl ?_
    refine pw_steps 1 (s' := (6, [some (.ref 47), some (.int (ei_ (a))), some (.int (ei_ (b))), none], [.int (ei_ ((-1))), .int (ei_ ((-1)))], m)) rfl ?_
    refine pw_cmpT rfl (by decide) (by decide) (show (-1) = (-1) by decide) ?_
    refine pw_steps 1 (s' := (24, [some (.ref 47), some (.int (ei_ (a))), some (.int (ei_ (b))), none], [.int (ei_ ((-1)))], m)) rfl ?_
    refine pw_iret rfl rfl rfl ?_
    exact k0 (-1) m (by by_cases c_ : 0 ≤ a ∧ a < 6; exact Or.inl ⟨by omega, rfl⟩; by_cases c2_ : b = -1 ∨ (0 ≤ b ∧ b < vi_ m0 1 1); exact Or.inr ⟨c2_, Or.inl ⟨c_, rfl⟩⟩; exact Or.inl ⟨by omega, rfl⟩) (p4)
  · refine pw_iret rfl rfl rfl ?_
    refine pw_ifF rfl (by decide) (show ¬ (¬ 0 = 0) by decide) ?_
    refine pw_steps 2 (s' := (42, [some (.ref 47), some (.int (ei_ (a)))], [.int (ei_ ((-1)))], m)) rfl ?_
    refine pw_iret rfl rfl rfl ?_
    refine pw_steps 1 (s' := (6, [some (.ref 47), some (.int (ei_ (a))), some (.int (ei_ (b))), none], [.int (ei_ ((-1))), .int (ei_ ((-1)))], m)) rfl ?_
    refine pw_cmpT rfl (by decide) (by decide) (show (-1) = (-1) by decide) ?_
    refine pw_steps 1 (s' := (24, [some (.ref 47), some (.int (ei_ (a))), some (.int (ei_ (b))), none], [.int (ei_ ((-1)))], m)) rfl ?_
    refine pw_iret rfl rfl rfl ?_
    exact k0 (-1) m (by by_cases c_ : 0 ≤ a ∧ a < 6; exact Or.inl ⟨by omega, rfl⟩; by_cases c2_ : b = -1 ∨ (0 ≤ b ∧ b < vi_ m0 1 1); exact Or.inr ⟨c2_, Or.inl ⟨c_, rfl⟩⟩; exact Or.inl ⟨by omega, rfl⟩) (p4)

theorem op_wore {q : am_X} {d : Nat} {m : am_M} {a b : Int} (q0 : -2147483648 ≤ a ∧ a < 2147483648) (q1 : -2147483648 ≤ b ∧ b < 2147483648) (hR : rR_ m) : pw_C q (d + 60) 104 [.ref 0, .int (ei_ a), .int (ei_ b)] m (fun r1 m1 => pw_C q (d + 60) 236 [.ref 47, .int (ei_ a), .int (ei_ b)] m1 (fun r2 m2 => ∃ x : Int, r1 = some (.int (ei_ x)) ∧ r2 = some (.int (ei_ x)) ∧ rR_ m2)) := by
  obtain ⟨hp, hd, hi, ht, hl, hz, hc, ha, hs⟩ := id hR
  have h50 : vi_ m 29 2 ≤ 50 := by obtain ⟨ha1, ha2, ha3, ha4, ha5, ha6⟩ := id ha; omega
  refine cs_wore hp hd hz hl (sm_rfl m) hs h50 q0 q1 (fun x m1 e1 g1 => ?_)
  refine ms_wore hp hd hz hl g1 hs h50 q0 q1 (fun y m2 e2 g2 => ?_)
  exact ⟨x, rfl, by rw [swo_u e1 e2], rR_sm g2 hR⟩

