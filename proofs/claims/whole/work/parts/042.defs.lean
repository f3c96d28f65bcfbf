/-! ===== what stays, what the words of the law give, and what both memories hold alike ===== -/
/-- the longs and all ints but those of P stay -/
def sm_ (P : Nat → Nat → Bool) (m m1 : am_M) : Prop := (∀ k j, P k j = false → m1.1 k j = m.1 k j) ∧ m1.2 = m.2
theorem sm_rfl {P : Nat → Nat → Bool} (m : am_M) : sm_ P m m := ⟨fun _ _ _ => rfl, rfl⟩
theorem sm_tr {P : Nat → Nat → Bool} {m m1 m2 : am_M} (h : sm_ P m m1) (g : sm_ P m1 m2) : sm_ P m m2 := ⟨fun k j e => (g.1 k j e).trans (h.1 k j e), g.2.trans h.2⟩
theorem sm_le {P P' : Nat → Nat → Bool} {m m1 : am_M} (h : sm_ P m m1) (hp : ∀ k j, P' k j = false → P k j = false) : sm_ P' m m1 := ⟨fun k j e => h.1 k j (hp k j e), h.2⟩
theorem sm_w {P : Nat → Nat → Bool} {m m1 : am_M} {k : Nat} {j v : Int} (h : sm_ P m m1) (e : ∀ i, i = j.toNat → P k i = true) : sm_ P m (wi_ m1 k j v) := by
  refine ⟨fun k' j' e' => ?_, h.2⟩
  rw [← h.1 k' j' e']
  simp only [wi_, am_ui]
  by_cases hk : k' = k
  · subst hk
    rw [if_pos rfl]
    simp only [upd]
    rw [if_neg]
    intro hj
    rw [e j' hj] at e'
    cases e'
  · rw [if_neg hk]
theorem sm_v {P : Nat → Nat → Bool} {m m1 : am_M} (h : sm_ P m m1) {k : Nat} {j : Int} (e : P k j.toNat = false) : vi_ m1 k j = vi_ m k j := by
  simp only [vi_, h.1 k j.toNat e]
theorem sm_f {P : Nat → Nat → Bool} {m m1 : am_M} (h : sm_ P m m1) {k : Nat} (e : ∀ j, P k j = false) : vi_ m1 k = vi_ m k := by
  funext j
  exact sm_v h (e j.toNat)
theorem sm_l {P : Nat → Nat → Bool} {m m1 : am_M} (h : sm_ P m m1) {k : Nat} : vl_ m1 k = vl_ m k := by
  funext j
  simp only [vl_, h.2]
theorem vi_nef {m : am_M} {k k' : Nat} {j v : Int} (h : k' ≠ k) : vi_ (wi_ m k j v) k' = vi_ m k' := by
  funext i; exact vi_ne h
/-! which ints may change: P16 the law's pile; P47 the reader's; P57 the days' too; P52 ways of the model; P18 ways of the class -/
def pLw (k _j : Nat) : Bool := k == 16 || k == 17
def pPr (k j : Nat) : Bool := k == 56 || (k == 47 && (13 ≤ j && j ≤ 17))
def pRd (k j : Nat) : Bool := k == 47 && (13 ≤ j && j ≤ 17)
def pGo (k j : Nat) : Bool := k == 56 || k == 57 || (k == 47 && (13 ≤ j && j ≤ 17))
def pWy (k j : Nat) : Bool := k == 52 || k == 58 || k == 59 || k == 56 || k == 57 || (k == 47 && ((13 ≤ j && j ≤ 17) || j == 22 || j == 23))
/-- all that may change unseen -/
def pSc (k j : Nat) : Bool := k == 16 || k == 17 || (18 ≤ k && k ≤ 23) || k == 45 || k == 46 || (56 ≤ k && k ≤ 60) || (k == 47 && ((13 ≤ j && j ≤ 17) || j == 22 || j == 23))
theorem pLw_Sc : ∀ k j, pSc k j = false → pLw k j = false := by
  intro k j h
  simp only [pSc, pLw, Bool.or_eq_false_iff, beq_eq_false_iff_ne] at h ⊢
  exact ⟨h.1.1.1.1.1.1, h.1.1.1.1.1.2⟩
/-! the law's program over a pile -/
/-- n numbers from place k on -/
def dr_ (f : Int → Int) (k : Int) : Nat → List Int
  | 0 => []
  | n + 1 => f k :: dr_ f (k + 1) n
/-- the pile, its top first -/
def pl_ (f : Int → Int) : Nat → List Int
  | 0 => []
  | n + 1 => f n :: pl_ f n
theorem dr_s {f : Int → Int} {k n : Int} (h : k < n) : dr_ f k (n - k).toNat = f k :: dr_ f (k + 1) (n - (k + 1)).toNat := by
  rw [show (n - k).toNat = (n - (k + 1)).toNat + 1 by omega]; rfl
theorem dr_e {f : Int → Int} {k n : Int} (h : n ≤ k) : dr_ f k (n - k).toNat = [] := by
  rw [show (n - k).toNat = 0 by omega]; rfl
theorem dr_cg {f g : Int → Int} : ∀ (n : Nat) (k : Int), (∀ j, k ≤ j → j < k + n → f j = g j) → dr_ f k n = dr_ g k n := by
  intro n
  induction n with
  | zero => intro k _; rfl
  | succ n ih =>
    intro k h
    simp only [dr_]
    rw [h k (Int.le_refl _) (by omega), ih (k + 1) (fun j h1 h2 => h j (by omega) (by omega))]
theorem dr_app {f : Int → Int} : ∀ (a b : Nat) (k : Int), dr_ f k (a + b) = dr_ f k a ++ dr_ f (k + a) b := by
  intro a
  induction a with
  | zero => intro b k; simp [dr_]
  | succ a ih =>
    intro b k
    rw [show a + 1 + b = (a + b) + 1 by omega]
    simp only [dr_, List.cons_append]
    rw [ih b (k + 1), show k + 1 + (a : Int) = k + ((a + 1 : Nat) : Int) by omega]
theorem pl_s {f : Int → Int} {k : Int} (h : 0 < k) : pl_ f k.toNat = f (k - 1) :: pl_ f (k - 1).toNat := by
  rw [show k.toNat = (k - 1).toNat + 1 by omega]
  simp only [pl_]
  rw [Int.toNat_of_nonneg (by omega)]
theorem pl_cg {f g : Int → Int} : ∀ (n : Nat), (∀ j, 0 ≤ j → j < (n : Int) → f j = g j) → pl_ f n = pl_ g n := by
  intro n
  induction n with
  | zero => intro _; rfl
  | succ n ih =>
    intro h
    simp only [pl_]
    rw [h n (by omega) (by omega), ih (fun j h1 h2 => h j h1 (by omega))]
/-- ! and - ahead of one -/
def tn_ (s a : Int) : Int := if s = 33 then (if a = 0 then 1 else 0) else wr_ (-a)
/-- two joined -/
def jn_ (s a b : Int) : Int :=
  if s = 124 then (if a = 0 ∧ b = 0 then 0 else 1)
  else if s = 38 then (if a = 0 ∨ b = 0 then 0 else 1)
  else if s = 60 then (if a < b then 1 else 0)
  else if s = 61 then (if a = b then 1 else 0)
  else if s = 62 then (if b < a then 1 else 0)
  else if s = 43 then wr_ (a + b)
  else if s = 45 then wr_ (a - b)
  else if s = 42 then wr_ (a * b)
  else if s = 47 then (if b = 0 then 0 else wr_ (a.tdiv b))
  else if s = 37 then (if b = 0 then 0 else wr_ (a - a.tdiv b * b))
  else 0
/-- what a step lays down -/
def ly_ (v : Int → Int) (s : Int) : Int := if 256 ≤ s then s - 256 else v s
def xq_ (v : Int → Int) : List Int → List Int → Int
  | [], _ => 0
  | s :: r, st =>
    if 256 ≤ s ∨ (0 ≤ s ∧ s < 6) then xq_ v r (ly_ v s :: st)
    else if s = 59 then st.headD 0
    else if s = 33 ∨ s = 126 then (match st with
      | a :: t => xq_ v r (tn_ s a :: t)
      | [] => 0)
    else match st with
      | b :: a :: t => if s = 63 then (if a = 0 then xq_ v r t else b) else xq_ v r (jn_ s a b :: t)
      | _ => 0
/-- the values of the names -/
def nv_ (s o n c f g : Int) (i : Int) : Int := if i = 0 then s else if i = 1 then o else if i = 2 then n else if i = 3 then c else if i = 4 then f else g
def hd_ (v : Int) : Int := max 0 (min 99 v)
theorem hd_b (v : Int) : 0 ≤ hd_ v ∧ hd_ v ≤ 99 := by unfold hd_; omega
/-- how much is burnt in a day, by the class's law -/
def lw_v (m : am_M) (s o n c f g : Int) : Int := hd_ (if vi_ m 14 3 = 0 then c * s - o * 2 - f + n - 1 else xq_ (nv_ s o n c f g) (dr_ (vi_ m 15) 0 (vi_ m 14 3).toNat) [])
/-- one with p's ways who wears n, at such a cold -/
def rt_ (m : am_M) (p a n c : Int) : Int := lw_v m (vi_ m 2 a) (if vi_ m 2 (24 + p) = 1 then 0 else vi_ m 2 (8 + p)) n c (if vi_ m 2 (24 + p) = 1 then vi_ m 2 33 else 0) (if p = a then 0 else 1)
theorem rt_b (m : am_M) (p a n c : Int) : 0 ≤ rt_ m p a n c ∧ rt_ m p a n c ≤ 99 := hd_b _
theorem lw_cg {m m1 : am_M} (h1 : vi_ m1 14 3 = vi_ m 14 3) (h2 : vi_ m1 15 = vi_ m 15) (s o n c f g : Int) : lw_v m1 s o n c f g = lw_v m s o n c f g := by
  simp only [lw_v, h1, h2]
theorem rt_cg {m m1 : am_M} (h1 : vi_ m1 14 3 = vi_ m 14 3) (h2 : vi_ m1 15 = vi_ m 15) (h3 : vi_ m1 2 = vi_ m 2) (p a n c : Int) : rt_ m1 p a n c = rt_ m p a n c := by
  simp only [rt_, lw_cg h1 h2, h3]
/-- less by r a day, n days -/
def lf_ (l r n : Int) : Int := max 0 (l - r * n)
theorem lf_0 {l r : Int} (h : 0 ≤ l) : lf_ l r 0 = l := by unfold lf_; rw [Int.mul_zero]; omega
theorem lf_s {l r n : Int} (h : 0 ≤ r) : lf_ l r (n + 1) = max 0 (lf_ l r n - r) := by
  unfold lf_; rw [Int.mul_add, Int.mul_one]; omega
theorem lf_b {l r n : Int} (hl : 0 ≤ l) (h : 0 ≤ r) (hn : 0 ≤ n) : 0 ≤ lf_ l r n ∧ lf_ l r n ≤ l := by
  have : 0 ≤ r * n := Int.mul_nonneg h hn
  unfold lf_; omega
/-- x is the first of 0 .. 99 of which c holds; -2: of none -/
def fs_ (c : Int → Prop) (x : Int) : Prop := (0 ≤ x ∧ x ≤ 99 ∧ c x ∧ ∀ j, 0 ≤ j → j < x → ¬ c j) ∨ (x = -2 ∧ ∀ j, 0 ≤ j → j ≤ 99 → ¬ c j)
theorem fs_u {c : Int → Prop} {x y : Int} (h : fs_ c x) (g : fs_ c y) : x = y := by
  rcases h with ⟨a1, a2, a3, a4⟩ | ⟨a1, a2⟩
  · rcases g with ⟨b1, b2, b3, b4⟩ | ⟨b1, b2⟩
    · rcases Int.lt_trichotomy x y with h | h | h
      · exact absurd a3 (b4 x a1 h)
      · exact h
      · exact absurd b3 (a4 y b1 h)
    · exact absurd a3 (b2 x a1 a2)
  · rcases g with ⟨b1, b2, b3, b4⟩ | ⟨b1, b2⟩
    · exact absurd b3 (a2 y b1 b2)
    · omega
theorem fs_cg {c c' : Int → Prop} {x : Int} (h : fs_ c x) (e : ∀ j, 0 ≤ j → j ≤ 99 → (c j ↔ c' j)) : fs_ c' x := by
  rcases h with ⟨a1, a2, a3, a4⟩ | ⟨a1, a2⟩
  · exact Or.inl ⟨a1, a2, (e x a1 a2).mp a3, fun j h1 h2 h3 => a4 j h1 h2 ((e j h1 (by omega)).mpr h3)⟩
  · exact Or.inr ⟨a1, fun j h1 h2 h3 => a2 j h1 h2 ((e j h1 h2).mpr h3)⟩
/-- sums -/
def su_ (f : Int → Int) : Nat → Int
  | 0 => 0
  | n + 1 => su_ f n + f n
theorem su_s {f : Int → Int} {k : Int} (h : 0 ≤ k) : su_ f (k + 1).toNat = su_ f k.toNat + f k := by
  rw [show (k + 1).toNat = k.toNat + 1 by omega]
  simp only [su_]
  rw [Int.toNat_of_nonneg h]
theorem su_cg {f g : Int → Int} : ∀ (n : Nat), (∀ j, 0 ≤ j → j < (n : Int) → f j = g j) → su_ f n = su_ g n := by
  intro n
  induction n with
  | zero => intro _; rfl
  | succ n ih =>
    intro h
    simp only [su_]
    rw [h n (by omega) (by omega), ih (fun j h1 h2 => h j h1 (by omega))]
theorem su_b {f : Int → Int} {M : Int} : ∀ (n : Nat), (∀ j, 0 ≤ j → j < (n : Int) → 0 ≤ f j ∧ f j ≤ M) → 0 ≤ su_ f n ∧ su_ f n ≤ M * n := by
  intro n
  induction n with
  | zero => intro _; simp [su_]
  | succ n ih =>
    intro h
    have h1 := h n (by omega) (by omega)
    have h2 := ih (fun j h1 h2 => h j h1 (by omega))
    simp only [su_]
    rw [show M * ((n + 1 : Nat) : Int) = M * (n : Int) + M by rw [Int.natCast_add, Int.mul_add]; simp]
    omega
theorem cn_cg {f g : Int → Int} {v : Int} : ∀ (n : Nat), (∀ j, 0 ≤ j → j < (n : Int) → (f j = v ↔ g j = v)) → cn_ f v n = cn_ g v n := by
  intro n
  induction n with
  | zero => intro _; rfl
  | succ n ih =>
    intro h
    simp only [cn_]
    rw [ih (fun j h1 h2 => h j h1 (by omega))]
    have := h n (by omega) (by omega)
    by_cases hh : f n = v
    · rw [if_pos hh, if_pos (this.mp hh)]
    · rw [if_neg hh, if_neg (fun x => hh (this.mpr x))]
/-! people -/
def rP_ (m : am_M) : Prop := (0 ≤ vi_ m 1 1 ∧ vi_ m 1 1 ≤ 8) ∧ vi_ m 47 6 = vi_ m 1 1 ∧ (∀ j, 0 ≤ j → j < 34 → 0 ≤ vi_ m 2 j ∧ vi_ m 2 j ≤ 9 ∧ vi_ m 48 j = vi_ m 2 j) ∧ (∀ j, vi_ m 1 1 ≤ j → j < 8 → vi_ m 2 (24 + j) = 0)
/-- wearers of the class -/
def rW_ (m : am_M) : Prop := ∀ j, 0 ≤ j → j < 8 → 0 ≤ vi_ m 4 j ∧ vi_ m 4 j < 8 ∧ (j < vi_ m 1 1 → vi_ m 4 j < vi_ m 1 1) ∧ (vi_ m 1 1 ≤ j → vi_ m 4 j = j)
/-- how much is left, of the class -/
def rF_ (m : am_M) : Prop := ∀ j, 0 ≤ j → j < 8 → 0 ≤ vi_ m 5 j ∧ vi_ m 5 j ≤ 999 ∧ (vi_ m 1 1 ≤ j → vi_ m 5 j = 100)
/-- wearers of the model -/
def mW_ (m : am_M) : Prop := ∀ j, 0 ≤ j → j < vi_ m 1 1 → 0 ≤ vi_ m 52 j ∧ vi_ m 52 j < vi_ m 1 1
/-- the law's size -/
def rZ_ (m : am_M) : Prop := 0 ≤ vi_ m 14 3 ∧ vi_ m 14 3 ≤ 128
theorem rP_sm {P : Nat → Nat → Bool} {m m1 : am_M} (h : sm_ P m m1) (e1 : P 1 1 = false) (e2 : P 47 6 = false) (e3 : ∀ j, P 2 j = false) (e4 : ∀ j, P 48 j = false) (k : rP_ m) : rP_ m1 := by
  have a1 : vi_ m1 1 1 = vi_ m 1 1 := sm_v h e1
  have a2 : vi_ m1 47 6 = vi_ m 47 6 := sm_v h e2
  have a3 : vi_ m1 2 = vi_ m 2 := sm_f h e3
  have a4 : vi_ m1 48 = vi_ m 48 := sm_f h e4
  simp only [rP_, a1, a2, a3, a4]
  exact k
theorem rW_sm {P : Nat → Nat → Bool} {m m1 : am_M} (h : sm_ P m m1) (e1 : P 1 1 = false) (e2 : ∀ j, P 4 j = false) (k : rW_ m) : rW_ m1 := by
  have a1 : vi_ m1 1 1 = vi_ m 1 1 := sm_v h e1
  have a3 : vi_ m1 4 = vi_ m 4 := sm_f h e2
  simp only [rW_, a1, a3]
  exact k
theorem rF_sm {P : Nat → Nat → Bool} {m m1 : am_M} (h : sm_ P m m1) (e1 : P 1 1 = false) (e2 : ∀ j, P 5 j = false) (k : rF_ m) : rF_ m1 := by
  have a1 : vi_ m1 1 1 = vi_ m 1 1 := sm_v h e1
  have a3 : vi_ m1 5 = vi_ m 5 := sm_f h e2
  simp only [rF_, a1, a3]
  exact k
theorem mW_sm {P : Nat → Nat → Bool} {m m1 : am_M} (h : sm_ P m m1) (e1 : P 1 1 = false) (e2 : ∀ j, P 52 j = false) (k : mW_ m) : mW_ m1 := by
  have a1 : vi_ m1 1 1 = vi_ m 1 1 := sm_v h e1
  have a3 : vi_ m1 52 = vi_ m 52 := sm_f h e2
  simp only [mW_, a1, a3]
  exact k
theorem rZ_sm {P : Nat → Nat → Bool} {m m1 : am_M} (h : sm_ P m m1) (e1 : P 14 3 = false) (k : rZ_ m) : rZ_ m1 := by
  have a1 : vi_ m1 14 3 = vi_ m 14 3 := sm_v h e1
  simp only [rZ_, a1]
  exact k
