
/-! ===== allLast, fewest ===== -/
def bx_ (ft : Int → Prop) (cs : Int → Int) (k x : Int) : Prop := (x = -1 ∧ ∀ c, 0 ≤ c → c < k → ¬ ft c) ∨ (0 ≤ x ∧ x < k ∧ ft x ∧ (∀ c, 0 ≤ c → c < x → ft c → cs x < cs c) ∧ ∀ c, x < c → c < k → ft c → cs x ≤ cs c)
theorem bx_0 {ft : Int → Prop} {cs : Int → Int} : bx_ ft cs 0 (-1) := Or.inl ⟨rfl, fun c a b => by omega⟩
theorem bx_n {ft : Int → Prop} {cs : Int → Int} {k x : Int} (h : bx_ ft cs k x) (hk : ¬ ft k) : bx_ ft cs (k + 1) x := by
  rcases h with ⟨h1, h2⟩ | ⟨h1, h2, h3, h4, h5⟩
  · refine Or.inl ⟨h1, fun c a b => ?_⟩
    by_cases e : c = k
    · rw [e]; exact hk
    · exact h2 c a (by omega)
  · refine Or.inr ⟨h1, by omega, h3, h4, fun c a b f => ?_⟩
    by_cases e : c = k
    · rw [e] at f; exact absurd f hk
    · exact h5 c a (by omega) f
theorem bx_y {ft : Int → Prop} {cs : Int → Int} {k x : Int} (hk : 0 ≤ k) (h : bx_ ft cs k x) (hf : ft k) (hc : x = -1 ∨ cs k < cs x) : bx_ ft cs (k + 1) k := by
  rcases h with ⟨h1, h2⟩ | ⟨h1, h2, h3, h4, h5⟩
  · exact Or.inr ⟨hk, by omega, hf, fun c a b f => absurd f (h2 c a b), fun c a b f => by omega⟩
  · refine Or.inr ⟨hk, by omega, hf, fun c a b f => ?_, fun c a b f => by omega⟩
    by_cases e : c < x
    · have := h4 c a e f; omega
    · by_cases e2 : c = x
      · rw [e2]; omega
      · have := h5 c (by omega) b f; omega
theorem bx_o {ft : Int → Prop} {cs : Int → Int} {k x : Int} (h : bx_ ft cs k x) (hc : 0 ≤ x ∧ cs x ≤ cs k) : bx_ ft cs (k + 1) x := by
  rcases h with ⟨h1, h2⟩ | ⟨h1, h2, h3, h4, h5⟩
  · omega
  · refine Or.inr ⟨h1, by omega, h3, h4, fun c a b f => ?_⟩
    by_cases e : c = k
    · rw [e]; exact hc.2
    · exact h5 c a (by omega) f
theorem bx_u {ft : Int → Prop} {cs : Int → Int} {k x y : Int} (h : bx_ ft cs k x) (g : bx_ ft cs k y) : y = x := by
  rcases h with ⟨h1, h2⟩ | ⟨h1, h2, h3, h4, h5⟩ <;> rcases g with ⟨g1, g2⟩ | ⟨g1, g2, g3, g4, g5⟩
  · omega
  · exact absurd g3 (h2 y g1 g2)
  · exact absurd h3 (g2 x h1 h2)
  · by_cases e : x < y
    · have a := g4 x h1 e h3; have b := h5 y e g2 g3; omega
    · by_cases e2 : y < x
      · have a := h4 y g1 e2 g3; have b := g5 x e2 h2 h3; omega
      · omega
def tt_ (m : am_M) : Int := pr_ (vi_ m 1 1) (vi_ m 1 1).toNat
theorem tt_b {m : am_M} (hp : rP_ m) (h : vi_ m 1 1 ≤ 5) : 1 ≤ tt_ m ∧ tt_ m ≤ 3125 := pr_b ⟨hp.1.1, h⟩
def fk_ (m : am_M) (c : Int) : Prop := fi_ (wy_ (vi_ m 1 1) c) (fun i => vi_ m 2 (16 + i)) (vi_ m 1 1)
def co_ (m : am_M) (n c : Int) : Int := su_ (fun j => cA_ m n j (wy_ (vi_ m 1 1) c j) (cn_ (wy_ (vi_ m 1 1) c) (wy_ (vi_ m 1 1) c j) (vi_ m 1 1).toNat)) (vi_ m 1 1).toNat
def wB_ (m : am_M) (n c : Int) : Int := cn_ (lW_ m n c) 0 (vi_ m 1 1).toNat
def wC_ (m : am_M) (n c : Int) : Int := su_ (fun j => if lW_ m n c j < 10 * vi_ m 2 j then 1 else 0) (vi_ m 1 1).toNat
def wL_ (m : am_M) (n c : Int) : Int := su_ (lW_ m n c) (vi_ m 1 1).toNat
def wR_ (m : am_M) (c : Int) : Int := su_ (fun i => if 0 < cn_ (wy_ (vi_ m 1 1) c) i (vi_ m 1 1).toNat then 1 else 0) (vi_ m 1 1).toNat
theorem co_i {v s : Int → Int} : ∀ N : Nat, su_ (fun j => 1000 - v j + (if v j < 10 * s j then 10000 else 0) + (if v j = 0 then 100000 else 0)) N = 100000 * cn_ v 0 N + 10000 * su_ (fun j => if v j < 10 * s j then 1 else 0) N + (1000 * (N : Int) - su_ v N) := by
  intro N
  induction N with
  | zero => rfl
  | succ N ih =>
    simp only [su_, cn_]
    rw [ih]
    by_cases c1 : v N < 10 * s N
    · by_cases c2 : v N = 0
      · rw [if_pos c1, if_pos c1, if_pos c2, if_pos c2]; omega
      · rw [if_pos c1, if_pos c1, if_neg c2, if_neg c2]; omega
    · by_cases c2 : v N = 0
      · rw [if_neg c1, if_neg c1, if_pos c2, if_pos c2]; omega
      · rw [if_neg c1, if_neg c1, if_neg c2, if_neg c2]; omega
theorem co_e {m : am_M} (hp : rP_ m) (hd : rD_ m) (h5 : vi_ m 1 1 ≤ 5) {n c : Int} (hn : 0 ≤ n) : co_ m n c = 100000 * wB_ m n c + 10000 * wC_ m n c + (1000 * vi_ m 1 1 - wL_ m n c) ∧ (0 ≤ wB_ m n c ∧ wB_ m n c ≤ 5) ∧ (0 ≤ wC_ m n c ∧ wC_ m n c ≤ 5) ∧ (0 ≤ wL_ m n c ∧ wL_ m n c ≤ 999 * vi_ m 1 1) := by
  have hP := hp.1
  have e : (((vi_ m 1 1).toNat : Nat) : Int) = vi_ m 1 1 := by omega
  have t := co_i (v := lW_ m n c) (s := vi_ m 2) (vi_ m 1 1).toNat
  have b1 := cn_b (lW_ m n c) 0 (vi_ m 1 1).toNat
  have b2 := su_b (f := fun j => if lW_ m n c j < 10 * vi_ m 2 j then 1 else 0) (M := 1) (vi_ m 1 1).toNat (fun j _ _ => by
    show 0 ≤ (if lW_ m n c j < 10 * vi_ m 2 j then (1 : Int) else 0) ∧ (if lW_ m n c j < 10 * vi_ m 2 j then (1 : Int) else 0) ≤ 1
    by_cases q : lW_ m n c j < 10 * vi_ m 2 j
    · rw [if_pos q]; decide
    · rw [if_neg q]; decide)
  have b3 := su_b (f := lW_ m n c) (M := 999) (vi_ m 1 1).toNat (fun j a b => lW_b hp hd ⟨a, by omega⟩ hn)
  rw [e] at t b1 b2 b3
  refine ⟨t, ?_, ?_, ?_⟩
  · unfold wB_; omega
  · unfold wC_; omega
  · unfold wL_; omega
theorem cA_b {m : am_M} (hp : rP_ m) (hd : rD_ m) {n : Int} (hn : 0 ≤ n) : ∀ j o w, 0 ≤ j → j < vi_ m 1 1 → 0 ≤ cA_ m n j o w ∧ cA_ m n j o w ≤ 111000 := by
  intro j o w a b
  have h1 := hd.2.1 j a (by have := hp.1; omega)
  have h2 := lf_b (l := vi_ m 5 j) (r := rt_ m o j w (vi_ m 2 32)) (n := n) h1.1 (rt_b _ _ _ _ _).1 hn
  unfold cA_ cst_ le_
  omega
def sal_ (m : am_M) (a b r : Int) : Prop := (¬ ((0 ≤ a ∧ a ≤ 99) ∧ -2 ≤ b ∧ b < vi_ m 1 1) ∧ r = -1) ∨ (((0 ≤ a ∧ a ≤ 99) ∧ -2 ≤ b ∧ b < vi_ m 1 1) ∧ 5 < vi_ m 1 1 ∧ r = -5) ∨ (((0 ≤ a ∧ a ≤ 99) ∧ -2 ≤ b ∧ b < vi_ m 1 1) ∧ vi_ m 1 1 ≤ 5 ∧ ∃ x, bx_ (fk_ m) (co_ m a) (tt_ m) x ∧ ((x = -1 ∧ r = -2) ∨ (0 ≤ x ∧ r = if 0 ≤ b then wy_ (vi_ m 1 1) x b else if b = -1 then wB_ m a x else wL_ m a x)))
theorem sal_u {m : am_M} {a b r s : Int} (h : sal_ m a b r) (g : sal_ m a b s) : s = r := by
  rcases h with ⟨h1, h2⟩ | ⟨h1, h2, h3⟩ | ⟨h1, h2, x, h3, h4⟩ <;> rcases g with ⟨g1, g2⟩ | ⟨g1, g2, g3⟩ | ⟨g1, g2, y, g3, g4⟩
  · omega
  · exact absurd g1 h1
  · exact absurd g1 h1
  · exact absurd h1 g1
  · omega
  · omega
  · exact absurd h1 g1
  · omega
  · have e := bx_u h3 g3
    subst e
    rcases h4 with ⟨h5, h6⟩ | ⟨h5, h6⟩ <;> rcases g4 with ⟨g5, g6⟩ | ⟨g5, g6⟩
    · omega
    · omega
    · omega
    · rw [h6, g6]
def fx_ (ok : Int → Prop) (wr : Int → Int) (k v : Int) : Prop := (v = 9 ∨ ∃ c, (0 ≤ c ∧ c < k) ∧ ok c ∧ wr c = v) ∧ (∀ c, 0 ≤ c → c < k → ok c → v ≤ wr c) ∧ v ≤ 9
theorem fx_0 {ok : Int → Prop} {wr : Int → Int} : fx_ ok wr 0 9 := ⟨Or.inl rfl, fun c a b => by omega, by omega⟩
theorem fx_y {ok : Int → Prop} {wr : Int → Int} {k v : Int} (hk : 0 ≤ k) (h : fx_ ok wr k v) (ho : ok k) (hw : wr k < v) : fx_ ok wr (k + 1) (wr k) := by
  obtain ⟨h1, h2, h3⟩ := h
  refine ⟨Or.inr ⟨k, ⟨hk, by omega⟩, ho, rfl⟩, fun c a b o => ?_, by omega⟩
  by_cases e : c = k
  · rw [e]; exact Int.le_refl _
  · have := h2 c a (by omega) o; omega
theorem fx_n {ok : Int → Prop} {wr : Int → Int} {k v : Int} (h : fx_ ok wr k v) (ho : ¬ ok k ∨ v ≤ wr k) : fx_ ok wr (k + 1) v := by
  obtain ⟨h1, h2, h3⟩ := h
  refine ⟨?_, fun c a b o => ?_, h3⟩
  · rcases h1 with h1 | ⟨c, h4, h5⟩
    · exact Or.inl h1
    · exact Or.inr ⟨c, by omega, h5⟩
  · by_cases e : c = k
    · rw [e] at o ⊢
      rcases ho with ho | ho
      · exact absurd o ho
      · exact ho
    · exact h2 c a (by omega) o
theorem fx_u {ok : Int → Prop} {wr : Int → Int} {k v s : Int} (h : fx_ ok wr k v) (g : fx_ ok wr k s) : s = v := by
  obtain ⟨h1, h2, h3⟩ := h
  obtain ⟨g1, g2, g3⟩ := g
  have a : v ≤ s := by
    rcases g1 with g1 | ⟨c, ⟨c1, c2⟩, c3, c4⟩
    · omega
    · have := h2 c c1 c2 c3; omega
  have b : s ≤ v := by
    rcases h1 with h1 | ⟨c, ⟨c1, c2⟩, c3, c4⟩
    · omega
    · have := g2 c c1 c2 c3; omega
  omega
def okf_ (m : am_M) (n c : Int) : Prop := fk_ m c ∧ wB_ m n c = 0
def sfw_ (m : am_M) (a r : Int) : Prop := (¬ (0 ≤ a ∧ a ≤ 99) ∧ r = -1) ∨ ((0 ≤ a ∧ a ≤ 99) ∧ 5 < vi_ m 1 1 ∧ r = -5) ∨ ((0 ≤ a ∧ a ≤ 99) ∧ vi_ m 1 1 ≤ 5 ∧ ∃ v, fx_ (okf_ m a) (wR_ m) (tt_ m) v ∧ r = if 8 < v then -2 else v)
theorem sfw_u {m : am_M} {a r s : Int} (h : sfw_ m a r) (g : sfw_ m a s) : s = r := by
  rcases h with ⟨h1, h2⟩ | ⟨h1, h2, h3⟩ | ⟨h1, h2, x, h3, h4⟩ <;> rcases g with ⟨g1, g2⟩ | ⟨g1, g2, g3⟩ | ⟨g1, g2, y, g3, g4⟩
  · omega
  · omega
  · omega
  · omega
  · omega
  · omega
  · omega
  · omega
  · have e := fx_u h3 g3
    subst e
    rw [h4, g4]
theorem pBw_Sw : ∀ k j, pSw k j = false → pBw k j = false := by
  intro k j h
  have h2 := pSc_Sw k j h
  simp only [pSc, pBw, Bool.or_eq_false_iff, Bool.and_eq_false_iff, beq_eq_false_iff_ne, decide_eq_false_iff_not] at h2 ⊢
  omega
theorem pC52_Sw : ∀ k j, pSw k j = false → pC52 k j = false := by
  intro k j h
  simp only [pSw, Bool.or_eq_false_iff] at h
  exact h.2
theorem pC59_Sw : ∀ k j, pSw k j = false → pC59 k j = false := by
  intro k j h
  have h2 := pSc_Sw k j h
  simp only [pSc, pC59, Bool.or_eq_false_iff, Bool.and_eq_false_iff, beq_eq_false_iff_ne, decide_eq_false_iff_not] at h2 ⊢
  omega
theorem pGo_Sw : ∀ k j, pSw k j = false → pGo k j = false := fun k j h => pGo_Sc k j (pSc_Sw k j h)

def pOn (k _j : Nat) : Bool := k == 19 || k == 20 || k == 22
theorem pWn_On : ∀ k j, pOn k j = false → pWn k j = false := by
  intro k j h
  simp only [pWn, pOn, Bool.or_eq_false_iff, Bool.and_eq_false_iff, beq_eq_false_iff_ne, decide_eq_false_iff_not] at h ⊢
  omega

theorem pC22_On : ∀ k j, pOn k j = false → pC22 k j = false := by
  intro k j h
  simp only [pC22, pOn, Bool.or_eq_false_iff, Bool.and_eq_false_iff, beq_eq_false_iff_ne, decide_eq_false_iff_not] at h ⊢
  omega

def pN58 (k j : Nat) : Bool := (pGo k j || k == 52 || k == 59) && !(k == 47 && j == 23)
def pN52 (k j : Nat) : Bool := (pGo k j || k == 59) && !(k == 52)
def pN59 (k j : Nat) : Bool := (pGo k j || k == 52) && !(k == 59)
theorem pC52_N58 : ∀ k j, pN58 k j = false → pC52 k j = false := by
  intro k j h; simp only [pN58, pC52, pGo, Bool.or_eq_false_iff, Bool.and_eq_false_iff, beq_eq_false_iff_ne, decide_eq_false_iff_not, Bool.not_eq_false', Bool.and_eq_true, beq_iff_eq] at h ⊢; omega
theorem pC59_N58 : ∀ k j, pN58 k j = false → pC59 k j = false := by
  intro k j h; simp only [pN58, pC59, pGo, Bool.or_eq_false_iff, Bool.and_eq_false_iff, beq_eq_false_iff_ne, decide_eq_false_iff_not, Bool.not_eq_false', Bool.and_eq_true, beq_iff_eq] at h ⊢; omega
theorem pGo_N58 : ∀ k j, pN58 k j = false → pGo k j = false := by
  intro k j h; simp only [pN58, pGo, Bool.or_eq_false_iff, Bool.and_eq_false_iff, beq_eq_false_iff_ne, decide_eq_false_iff_not, Bool.not_eq_false', Bool.and_eq_true, beq_iff_eq] at h ⊢; omega
theorem pC59_N52 : ∀ k j, pN52 k j = false → pC59 k j = false := by
  intro k j h; simp only [pN52, pC59, pGo, Bool.or_eq_false_iff, Bool.and_eq_false_iff, beq_eq_false_iff_ne, decide_eq_false_iff_not, Bool.not_eq_false', beq_iff_eq] at h ⊢; omega
theorem pGo_N52 : ∀ k j, pN52 k j = false → pGo k j = false := by
  intro k j h; simp only [pN52, pGo, Bool.or_eq_false_iff, Bool.and_eq_false_iff, beq_eq_false_iff_ne, decide_eq_false_iff_not, Bool.not_eq_false', beq_iff_eq] at h ⊢; omega
theorem pC52_N59 : ∀ k j, pN59 k j = false → pC52 k j = false := by
  intro k j h; simp only [pN59, pC52, pGo, Bool.or_eq_false_iff, Bool.and_eq_false_iff, beq_eq_false_iff_ne, decide_eq_false_iff_not, Bool.not_eq_false', beq_iff_eq] at h ⊢; omega
theorem pGo_N59 : ∀ k j, pN59 k j = false → pGo k j = false := by
  intro k j h; simp only [pN59, pGo, Bool.or_eq_false_iff, Bool.and_eq_false_iff, beq_eq_false_iff_ne, decide_eq_false_iff_not, Bool.not_eq_false', beq_iff_eq] at h ⊢; omega
set_option maxHeartbeats 4000000 in
set_option maxRecDepth 20000 in
theorem cs_allLast {q : am_X} {d : Nat} {m : am_M} {Q : Option Value → am_M → Prop} {m0 : am_M} {a : Int} {b : Int}  (p0 : rP_ m0) (p1 : rD_ m0) (p2 : rZ_ m0) (p3 : rL_ m0) (p4 : sm_ pSc m0 m) (p5 : -2147483648 ≤ a ∧ a < 2147483648) (p6 : -2147483648 ≤ b ∧ b < 2147483648) (k0 : ∀ (x : Int) (m1 : am_M), (sal_ m0 a b x) → (sm_ pSc m0 m1) → Q (some (.int (ei_ (x)))) m1) : pw_C q (d + 60) 66 [.ref 0, .int (ei_ (a)), .int (ei_ (b))] m Q := by
  obtain ⟨hP1, hP2, hP3, hP4⟩ := id p0
  have hmw := mW_of p0 p1
  have hmf := mF_of p0 p1
  refine pw_intro (I := iX8_allLast) (T := tX8_allLast) rfl rfl rfl ?_
  refine pw_steps 1 (s' := (1, [some (.ref 0), some (.int (ei_ (a))), some (.int (ei_ (b))), none, none, none, none], [.int (ei_ (a))], m)) rfl ?_
  refine pw_callS (As := [.int (ei_ (a))]) (st := []) rfl (by decide) rfl rfl (Nat.le_of_ble_eq_true rfl) ?_
  refine pw_intro (I := iX8_isTo99) (T := tX8_isTo99) rfl rfl rfl ?_
  refine pw_steps 1 (s' := (1, [some (.int (ei_ (a)))], [.int (ei_ (a))], m)) rfl ?_
  refine pw_if rfl p5 (fun (h1 : a < 0) => ?_) (fun (h1 : ¬ (a < 0)) => ?_)
  · refine pw_steps 1 (s' := (15, [some (.int (ei_ (a)))], [.int (ei_ (0))], m)) rfl ?_
    refine pw_iret rfl rfl rfl ?_
    refine pw_ifT rfl (by decide) (show 0 = 0 by decide) ?_
    refine pw_steps 1 (s' := (25, [some (.ref 0), some (.int (ei_ (a))), some (.int (ei_ (b))), none, none, none, none], [.int (ei_ ((-1)))], m)) rfl ?_
    refine pw_iret rfl rfl rfl ?_
    exact k0 (-1) m (by exact Or.inl ⟨by omega, rfl⟩) (p4)
  · refine pw_steps 2 (s' := (7, [some (.int (ei_ (a)))], [.int (ei_ (99)), .int (ei_ (a))], m)) rfl ?_
    refine pw_cmp rfl p5 (by decide) (fun (h2 : 99 < a) => ?_) (fun (h2 : ¬ (99 < a)) => ?_)
    · refine pw_steps 1 (s' := (15, [some (.int (ei_ (a)))], [.int (ei_ (0))], m)) rfl ?_
      refine pw_iret rfl rfl rfl ?_
      refine pw_ifT rfl (by decide) (show 0 = 0 by decide) ?_
      refine pw_steps 1 (s' := (25, [some (.ref 0), some (.int (ei_ (a))), some (.int (ei_ (b))), none, none, none, none], [.int (ei_ ((-1)))], m)) rfl ?_
      refine pw_iret rfl rfl rfl ?_
      exact k0 (-1) m (by exact Or.inl ⟨by omega, rfl⟩) (p4)
    · refine pw_steps 2 (s' := (15, [some (.int (ei_ (a)))], [.int (ei_ (1))], m)) rfl ?_
      refine pw_iret rfl rfl rfl ?_
      refine pw_ifF rfl (by decide) (show ¬ (1 = 0) by decide) ?_
      refine pw_steps 2 (s' := (10, [some (.ref 0), some (.int (ei_ (a))), some (.int (ei_ (b))), none, none, none, none], [.int (ei_ ((-2))), .int (ei_ (b))], m)) rfl ?_
      refine pw_cmp rfl p6 (by decide) (fun (h3 : b < (-2)) => ?_) (fun (h3 : ¬ (b < (-2))) => ?_)
      · refine pw_steps 1 (s' := (25, [some (.ref 0), some (.int (ei_ (a))), some (.int (ei_ (b))), none, none, none, none], [.int (ei_ ((-1)))], m)) rfl ?_
        refine pw_iret rfl rfl rfl ?_
        exact k0 (-1) m (by exact Or.inl ⟨by omega, rfl⟩) (p4)
      · refine pw_steps 3 (s' := (18, [some (.ref 0), some (.int (ei_ (a))), some (.int (ei_ (b))), none, none, none, none], [.ref 1, .int (ei_ (b))], m)) rfl ?_
        refine pw_call (As := []) (st := [.int (ei_ (b))]) (k := 1) rfl rfl rfl rfl rfl (Nat.le_of_ble_eq_true rfl) ?_
        refine pw_intro (I := iX3_size) (T := tX3_size) rfl rfl rfl ?_
        refine pw_steps 1 (s' := (1, [some (.ref 1)], [.ref 1], m)) rfl ?_
        refine pw_get rfl rfl (fun x4 (hx4 : x4 = vi_ m 1 1) rx4 sx4 => ?_)
        have ox4 := hx4
        replace hx4 : x4 = vi_ m0 1 1 := hx4.trans (sm_v p4 rfl)
        refine pw_iret rfl rfl rfl ?_
        refine pw_cmp rfl p6 ⟨rx4, sx4⟩ (fun (h5 : b < x4) => ?_) (fun (h5 : ¬ (b < x4)) => ?_)
        · refine pw_steps 2 (s' := (30, [some (.ref 0), some (.int (ei_ (a))), some (.int (ei_ (b))), none, none, none, none], [.ref 1], m)) rfl ?_
          refine pw_call (As := []) (st := []) (k := 1) rfl rfl rfl rfl rfl (Nat.le_of_ble_eq_true rfl) ?_
          refine pw_intro (I := iX3_size) (T := tX3_size) rfl rfl rfl ?_
          refine pw_steps 1 (s' := (1, [some (.ref 1)], [.ref 1], m)) rfl ?_
          refine pw_getE (x := x4) rfl rfl ox4 ?_
          refine pw_iret rfl rfl rfl ?_
          refine pw_steps 1 (s' := (34, [some (.ref 0), some (.int (ei_ (a))), some (.int (ei_ (b))), none, none, none, none], [.int (ei_ (5)), .int (ei_ (x4))], m)) rfl ?_
          refine pw_cmp rfl ⟨rx4, sx4⟩ (by decide) (fun (h6 : x4 ≤ 5) => ?_) (fun (h6 : ¬ (x4 ≤ 5)) => ?_)
          · refine pw_steps 3 (s' := (43, [some (.ref 0), some (.int (ei_ (a))), some (.int (ei_ (b))), none, none, none, none], [.null, .int (ei_ (a)), .ref 0], m)) rfl ?_
            refine pw_call (As := [.int (ei_ (a)), .null]) (st := []) (k := 0) rfl rfl rfl rfl rfl (Nat.le_of_ble_eq_true rfl) ?_
            refine cs_bwA (p0) (p1) (p2) (p4) (by omega) (by omega) (fun m17 g8 g9 g10 g11 => ?_)
            have h18b_ := g9.1
            refine pw_steps 4 (s' := (53, [some (.ref 0), some (.int (ei_ (a))), some (.int (ei_ (b))), some (.int (ei_ (1000000))), none, none, none], [.ref 18], m17)) rfl ?_
            refine pw_call (As := []) (st := []) (k := 18) rfl rfl rfl rfl rfl (Nat.le_of_ble_eq_true rfl) ?_
            refine cw_total (P := (vi_ m0 1 1)) ((g9).1) (⟨by omega, by omega⟩) (fun x12 g13 g14 => ?_)
            have htt_ : x12 = tt_ m0 := g13
            refine pw_steps 3 (s' := (61, [some (.ref 0), some (.int (ei_ (a))), some (.int (ei_ (b))), some (.int (ei_ (1000000))), some (.int (ei_ (x12))), some (.int (ei_ (0))), none], [], m17)) rfl ?_
            have L18 : ∀ (n16 : Nat) (bb : Int) (k : Int) (u15 : Option Value) (m1 : am_M) (x : Int), (tt_ m0 - k).toNat = n16 → (0 ≤ k ∧ k ≤ tt_ m0) → (sm_ pSc m0 m1) → (vi_ m1 18 5 = vi_ m0 1 1) → (wa_ (vi_ m0 1 1) k m1) → (∀ i, 0 ≤ i → i < vi_ m0 1 1 → vi_ m1 21 i = vi_ m0 2 (16 + i)) → (∀ j o n, 0 ≤ j → j < vi_ m0 1 1 → 0 ≤ o → o < vi_ m0 1 1 → 1 ≤ n → n ≤ vi_ m0 1 1 → vi_ m1 23 (((j * 5) + o) * 5 + n - 1) = cA_ m0 a j o n) → (bx_ (fk_ m0) (co_ m0 a) k x) → (0 ≤ bb ∧ bb ≤ 1000000) → ((x = -1 ∧ bb = 1000000) ∨ (0 ≤ x ∧ bb = co_ m0 a x)) → (0 ≤ x → ∀ j, 0 ≤ j → j < vi_ m0 1 1 → vi_ m1 22 j = wy_ (vi_ m0 1 1) x j) → pw_V q (d + 59) iX8_allLast.2.2.2.1 tX8_allLast Q (61, [some (.ref 0), some (.int (ei_ (a))), some (.int (ei_ (b))), some (.int (ei_ (bb))), some (.int (ei_ (x12))), some (.int (ei_ (k))), u15], [], m1) := by
              intro n16
              induction n16 using Nat.strongRecOn with
              | _ n16 ih17 =>
                intro bb k u15 m1 x hm_n16 hk hs h18 hW hCO hTB hX hbb hb hF
                have ct_ := tt_b p0 (by omega)
                have cx_ := co_e p0 p1 (by omega) (n := a) (c := x) (by omega)
                have ck_ := co_e p0 p1 (by omega) (n := a) (c := k) (by omega)
                refine pw_steps 2 (s' := (65, [some (.ref 0), some (.int (ei_ (a))), some (.int (ei_ (b))), some (.int (ei_ (bb))), some (.int (ei_ (x12))), some (.int (ei_ (k))), u15], [.int (ei_ (x12)), .int (ei_ (k))], m1)) rfl ?_
                refine pw_cmp rfl (by omega) (by omega) (fun (h19 : x12 ≤ k) => ?_) (fun (h19 : ¬ (x12 ≤ k)) => ?_)
                · refine pw_steps 2 (s' := (124, [some (.ref 0), some (.int (ei_ (a))), some (.int (ei_ (b))), some (.int (ei_ (bb))), some (.int (ei_ (x12))), some (.int (ei_ (k))), u15], [.int (ei_ (1000000)), .int (ei_ (bb))], m1)) rfl ?_
                  refine pw_cmp rfl (by omega) (by decide) (fun (h20 : ¬ bb = 1000000) => ?_) (fun (h20 : ¬ ¬ bb = 1000000) => ?_)
                  · refine pw_steps 1 (s' := (131, [some (.ref 0), some (.int (ei_ (a))), some (.int (ei_ (b))), some (.int (ei_ (bb))), some (.int (ei_ (x12))), some (.int (ei_ (k))), u15], [.int (ei_ (b))], m1)) rfl ?_
                    refine pw_if rfl p6 (fun (h21 : b < 0) => ?_) (fun (h21 : ¬ (b < 0)) => ?_)
                    · refine pw_steps 2 (s' := (145, [some (.ref 0), some (.int (ei_ (a))), some (.int (ei_ (b))), some (.int (ei_ (bb))), some (.int (ei_ (x12))), some (.int (ei_ (k))), u15], [.int (ei_ ((-1))), .int (ei_ (b))], m1)) rfl ?_
                      refine pw_cmp rfl p6 (by decide) (fun (h22 : ¬ b = (-1)) => ?_) (fun (h22 : ¬ ¬ b = (-1)) => ?_)
                      · refine pw_steps 3 (s' := (162, [some (.ref 0), some (.int (ei_ (a))), some (.int (ei_ (b))), some (.int (ei_ (bb))), some (.int (ei_ (x12))), some (.int (ei_ (k))), u15], [.ref 1, .int (ei_ (1000))], m1)) rfl ?_
                        refine pw_call (As := []) (st := [.int (ei_ (1000))]) (k := 1) rfl rfl rfl rfl rfl (Nat.le_of_ble_eq_true rfl) ?_
                        refine pw_intro (I := iX3_size) (T := tX3_size) rfl rfl rfl ?_
                        refine pw_steps 1 (s' := (1, [some (.ref 1)], [.ref 1], m1)) rfl ?_
                        refine pw_get rfl rfl (fun x23 (hx23 : x23 = vi_ m1 1 1) rx23 sx23 => ?_)
                        have ox23 := hx23
                        replace hx23 : x23 = vi_ m0 1 1 := hx23.trans (sm_v hs rfl)
                        refine pw_iret rfl rfl rfl ?_
                        refine pw_steps 3 (s' := (170, [some (.ref 0), some (.int (ei_ (a))), some (.int (ei_ (b))), some (.int (ei_ (bb))), some (.int (ei_ (x12))), some (.int (ei_ (k))), u15], [.int (ei_ (10000)), .int (ei_ (bb)), .int ((ei_ (1000)) * (ei_ (x23)))], m1)) rfl ?_
                        refine pw_cv (congrArg (fun z_ : Int32 => ((170, [some (.ref 0), some (.int (ei_ (a))), some (.int (ei_ (b))), some (.int (ei_ (bb))), some (.int (ei_ (x12))), some (.int (ei_ (k))), u15], [.int (ei_ (10000)), .int (ei_ (bb)), .int z_], m1) : am_S)) (ei_mul rfl rfl)) ?_
                        refine pw_remN rfl (by omega) (by omega) ?_
                        refine pw_steps 1 (s' := (172, [some (.ref 0), some (.int (ei_ (a))), some (.int (ei_ (b))), some (.int (ei_ (bb))), some (.int (ei_ (x12))), some (.int (ei_ (k))), u15], [.int ((ei_ ((1000 * x23))) - (ei_ ((bb % 10000))))], m1)) rfl ?_
                        refine pw_cv (congrArg (fun z_ : Int32 => ((172, [some (.ref 0), some (.int (ei_ (a))), some (.int (ei_ (b))), some (.int (ei_ (bb))), some (.int (ei_ (x12))), some (.int (ei_ (k))), u15], [.int z_], m1) : am_S)) (ei_sub rfl rfl)) ?_
                        refine pw_iret rfl rfl rfl ?_
                        exact k0 ((1000 * x23) - (bb % 10000)) m1 (by have ce_ := co_e p0 p1 (by omega) (n := a) (c := x) (by omega); refine Or.inr (Or.inr ⟨by omega, by omega, x, (by rw [← show k = tt_ m0 by omega]; exact hX), Or.inr ⟨by omega, ?_⟩⟩); first | (rw [if_pos (by omega)]; omega) | (rw [if_neg (by omega), if_pos (by omega)]; omega) | (rw [if_neg (by omega), if_neg (by omega)]; omega)) (hs)
                      · refine pw_steps 2 (s' := (151, [some (.ref 0), some (.int (ei_ (a))), some (.int (ei_ (b))), some (.int (ei_ (bb))), some (.int (ei_ (x12))), some (.int (ei_ (k))), u15], [.int (ei_ (100000)), .int (ei_ (bb))], m1)) rfl ?_
                        refine pw_divN rfl (by omega) (by omega) ?_
                        refine pw_steps 1 (s' := (172, [some (.ref 0), some (.int (ei_ (a))), some (.int (ei_ (b))), some (.int (ei_ (bb))), some (.int (ei_ (x12))), some (.int (ei_ (k))), u15], [.int (ei_ ((bb / 100000)))], m1)) rfl ?_
                        refine pw_iret rfl rfl rfl ?_
                        exact k0 (bb / 100000) m1 (by have ce_ := co_e p0 p1 (by omega) (n := a) (c := x) (by omega); refine Or.inr (Or.inr ⟨by omega, by omega, x, (by rw [← show k = tt_ m0 by omega]; exact hX), Or.inr ⟨by omega, ?_⟩⟩); first | (rw [if_pos (by omega)]; omega) | (rw [if_neg (by omega), if_pos (by omega)]; omega) | (rw [if_neg (by omega), if_neg (by omega)]; omega)) (hs)
                    · refine pw_steps 3 (s' := (139, [some (.ref 0), some (.int (ei_ (a))), some (.int (ei_ (b))), some (.int (ei_ (bb))), some (.int (ei_ (x12))), some (.int (ei_ (k))), u15], [.int (ei_ (b)), .ref 18], m1)) rfl ?_
                      refine pw_call (As := [.int (ei_ (b))]) (st := []) (k := 18) rfl rfl rfl rfl rfl (Nat.le_of_ble_eq_true rfl) ?_
                      refine pw_intro (I := iX7_firstWearer) (T := tX7_firstWearer) rfl rfl rfl ?_
                      refine pw_steps 2 (s' := (2, [some (.ref 18), some (.int (ei_ (b)))], [.int (ei_ (b)), .ref 18], m1)) rfl ?_
                      refine pw_call (As := [.int (ei_ (b))]) (st := []) (k := 18) rfl rfl rfl rfl rfl (Nat.le_of_ble_eq_true rfl) ?_
                      refine pw_intro (I := iX7_has) (T := tX7_has) rfl rfl rfl ?_
                      refine pw_steps 1 (s' := (1, [some (.ref 18), some (.int (ei_ (b)))], [.int (ei_ (b))], m1)) rfl ?_
                      refine pw_ifF rfl p6 (show ¬ (b < 0) by omega) ?_
                      refine pw_steps 2 (s' := (6, [some (.ref 18), some (.int (ei_ (b)))], [.ref 18, .int (ei_ (b))], m1)) rfl ?_
                      refine pw_get rfl rfl (fun x24 (hx24 : x24 = vi_ m1 18 5) rx24 sx24 => ?_)
                      have ox24 := hx24
                      replace hx24 : x24 = vi_ m0 1 1 := hx24.trans h18
                      refine pw_cmpF rfl p6 ⟨rx24, sx24⟩ (show ¬ (x24 ≤ b) by omega) ?_
                      refine pw_steps 2 (s' := (17, [some (.ref 18), some (.int (ei_ (b)))], [.int (ei_ (1))], m1)) rfl ?_
                      refine pw_iret rfl rfl rfl ?_
                      refine pw_ifF rfl (by decide) (show ¬ (1 = 0) by decide) ?_
                      refine pw_steps 3 (s' := (13, [some (.ref 18), some (.int (ei_ (b)))], [.int (ei_ (b)), .ref 22], m1)) rfl ?_
                      refine pw_ild rfl rfl (by omega) (fun x25 (hx25 : x25 = vi_ m1 22 b) rx25 sx25 => ?_)
                      have b26 := hF (by omega) b (by omega) (by omega)
                      refine pw_steps 1 (s' := (18, [some (.ref 18), some (.int (ei_ (b)))], [.int (ei_ (x25))], m1)) rfl ?_
                      refine pw_iret rfl rfl rfl ?_
                      refine pw_iret rfl rfl rfl ?_
                      exact k0 x25 m1 (by have ce_ := co_e p0 p1 (by omega) (n := a) (c := x) (by omega); refine Or.inr (Or.inr ⟨by omega, by omega, x, (by rw [← show k = tt_ m0 by omega]; exact hX), Or.inr ⟨by omega, ?_⟩⟩); first | (rw [if_pos (by omega)]; omega) | (rw [if_neg (by omega), if_pos (by omega)]; omega) | (rw [if_neg (by omega), if_neg (by omega)]; omega)) (hs)
                  · refine pw_steps 1 (s' := (129, [some (.ref 0), some (.int (ei_ (a))), some (.int (ei_ (b))), some (.int (ei_ (bb))), some (.int (ei_ (x12))), some (.int (ei_ (k))), u15], [.int (ei_ ((-2)))], m1)) rfl ?_
                    refine pw_iret rfl rfl rfl ?_
                    exact k0 (-2) m1 (by have ce_ := co_e p0 p1 (by omega) (n := a) (c := x) (by omega); exact Or.inr (Or.inr ⟨by omega, by omega, x, (by rw [← show k = tt_ m0 by omega]; exact hX), Or.inl ⟨by omega, rfl⟩⟩)) (hs)
                · refine pw_steps 2 (s' := (72, [some (.ref 0), some (.int (ei_ (a))), some (.int (ei_ (b))), some (.int (ei_ (bb))), some (.int (ei_ (x12))), some (.int (ei_ (k))), u15], [.ref 18], m1)) rfl ?_
                  refine pw_call (As := []) (st := []) (k := 18) rfl rfl rfl rfl rfl (Nat.le_of_ble_eq_true rfl) ?_
                  refine cw_fits (P := (vi_ m0 1 1)) (k := k) (g := (fun i => vi_ m0 2 (16 + i))) (hW) (⟨by omega, by omega⟩) (hCO) (fun g27 => ?_) (fun g28 => ?_)
                  · refine pw_ifF rfl (by decide) (show ¬ (1 = 0) by decide) ?_
                    refine pw_steps 2 (s' := (82, [some (.ref 0), some (.int (ei_ (a))), some (.int (ei_ (b))), some (.int (ei_ (bb))), some (.int (ei_ (x12))), some (.int (ei_ (k))), u15], [.ref 18], m1)) rfl ?_
                    refine pw_call (As := []) (st := []) (k := 18) rfl rfl rfl rfl rfl (Nat.le_of_ble_eq_true rfl) ?_
                    refine cw_cost (P := (vi_ m0 1 1)) (k := k) (ct := (cA_ m0 a)) (hW) (⟨by omega, by omega⟩) (hTB) (cA_b p0 p1 (by omega)) (fun x29 g30 g31 => ?_)
                    have hco_ : x29 = co_ m0 a k := g30
                    refine pw_steps 4 (s' := (95, [some (.ref 0), some (.int (ei_ (a))), some (.int (ei_ (b))), some (.int (ei_ (bb))), some (.int (ei_ (x12))), some (.int (ei_ (k))), some (.int (ei_ (x29)))], [.int (ei_ (bb)), .int (ei_ (x29))], m1)) rfl ?_
                    refine pw_cmp rfl (by omega) (by omega) (fun (h32 : bb ≤ x29) => ?_) (fun (h32 : ¬ (bb ≤ x29)) => ?_)
                    · refine pw_steps 2 (s' := (112, [some (.ref 0), some (.int (ei_ (a))), some (.int (ei_ (b))), some (.int (ei_ (bb))), some (.int (ei_ (x12))), some (.int (ei_ (k))), some (.int (ei_ (x29)))], [.ref 18], m1)) rfl ?_
                      refine pw_call (As := []) (st := []) (k := 18) rfl rfl rfl rfl rfl (Nat.le_of_ble_eq_true rfl) ?_
                      refine cw_goOn (P := (vi_ m0 1 1)) (k := k) (hW) (⟨by omega, by omega⟩) (fun m133 g34 g35 => ?_)
                      refine pw_steps 2 (s' := (61, [some (.ref 0), some (.int (ei_ (a))), some (.int (ei_ (b))), some (.int (ei_ (bb))), some (.int (ei_ (x12))), some (.int ((ei_ (k)) + (ei_ (1)))), some (.int (ei_ (x29)))], [], m133)) rfl ?_
                      refine pw_cv (congrArg (fun z_ : Int32 => ((61, [some (.ref 0), some (.int (ei_ (a))), some (.int (ei_ (b))), some (.int (ei_ (bb))), some (.int (ei_ (x12))), some (.int z_), some (.int (ei_ (x29)))], [], m133) : am_S)) (ei_add rfl rfl)) ?_
                      exact ih17 _ (by omega) bb (k + 1) (some (.int (ei_ (x29)))) m133 x rfl (by omega) ((sm_tr hs (sm_le g34 pWn_Sc))) (by exact g35.1) (by exact g35) (by intro i a_ b_; rw [sm_f (P := pOn) (sm_le g34 pWn_On) (k := 21) (fun _ => rfl)]; exact hCO i a_ b_) (by intro j o n a1_ a2_ a3_ a4_ a5_ a6_; rw [sm_f (P := pOn) (sm_le g34 pWn_On) (k := 23) (fun _ => rfl)]; exact hTB j o n a1_ a2_ a3_ a4_ a5_ a6_) (by exact bx_o hX (by omega)) (by omega) (by omega) (by intro h_ j a_ b_; rw [sm_f (P := pWn) g34 (k := 22) (fun _ => rfl)]; exact hF (by omega) j a_ b_)
                    · refine pw_steps 4 (s' := (105, [some (.ref 0), some (.int (ei_ (a))), some (.int (ei_ (b))), some (.int (ei_ (x29))), some (.int (ei_ (x12))), some (.int (ei_ (k))), some (.int (ei_ (x29)))], [.ref 18], m1)) rfl ?_
                      refine pw_call (As := []) (st := []) (k := 18) rfl rfl rfl rfl rfl (Nat.le_of_ble_eq_true rfl) ?_
                      refine cw_mark (P := (vi_ m0 1 1)) ((hW).1) (⟨by omega, by omega⟩) (fun m136 g37 g38 => ?_)
                      refine pw_steps 2 (s' := (112, [some (.ref 0), some (.int (ei_ (a))), some (.int (ei_ (b))), some (.int (ei_ (x29))), some (.int (ei_ (x12))), some (.int (ei_ (k))), some (.int (ei_ (x29)))], [.ref 18], m136)) rfl ?_
                      refine pw_call (As := []) (st := []) (k := 18) rfl rfl rfl rfl rfl (Nat.le_of_ble_eq_true rfl) ?_
                      refine cw_goOn (P := (vi_ m0 1 1)) (k := k) (wa_fr (P := pC22) g37 rfl (fun _ => rfl) (fun _ => rfl) hW) (⟨by omega, by omega⟩) (fun m139 g40 g41 => ?_)
                      refine pw_steps 2 (s' := (61, [some (.ref 0), some (.int (ei_ (a))), some (.int (ei_ (b))), some (.int (ei_ (x29))), some (.int (ei_ (x12))), some (.int ((ei_ (k)) + (ei_ (1)))), some (.int (ei_ (x29)))], [], m139)) rfl ?_
                      refine pw_cv (congrArg (fun z_ : Int32 => ((61, [some (.ref 0), some (.int (ei_ (a))), some (.int (ei_ (b))), some (.int (ei_ (x29))), some (.int (ei_ (x12))), some (.int z_), some (.int (ei_ (x29)))], [], m139) : am_S)) (ei_add rfl rfl)) ?_
                      exact ih17 _ (by omega) x29 (k + 1) (some (.int (ei_ (x29)))) m139 k rfl (by omega) ((sm_tr (sm_tr hs (sm_le g37 pC22_Sc)) (sm_le g40 pWn_Sc))) (by exact g41.1) (by exact g41) (by intro i a_ b_; rw [sm_f (P := pOn) (sm_tr (sm_le g37 pC22_On) (sm_le g40 pWn_On)) (k := 21) (fun _ => rfl)]; exact hCO i a_ b_) (by intro j o n a1_ a2_ a3_ a4_ a5_ a6_; rw [sm_f (P := pOn) (sm_tr (sm_le g37 pC22_On) (sm_le g40 pWn_On)) (k := 23) (fun _ => rfl)]; exact hTB j o n a1_ a2_ a3_ a4_ a5_ a6_) (by exact bx_y (by omega) hX g27 (by omega)) (by omega) (by omega) (by intro _ j a_ b_; rw [sm_f (P := pWn) g40 (k := 22) (fun _ => rfl), g38 j a_ b_]; exact hW.2.1 j a_ b_)
                  · refine pw_ifT rfl (by decide) (show 0 = 0 by decide) ?_
                    refine pw_steps 4 (s' := (95, [some (.ref 0), some (.int (ei_ (a))), some (.int (ei_ (b))), some (.int (ei_ (bb))), some (.int (ei_ (x12))), some (.int (ei_ (k))), some (.int (ei_ (1000000)))], [.int (ei_ (bb)), .int (ei_ (1000000))], m1)) rfl ?_
                    refine pw_cmpT rfl (by decide) (by omega) (show bb ≤ 1000000 by omega) ?_
                    refine pw_steps 2 (s' := (112, [some (.ref 0), some (.int (ei_ (a))), some (.int (ei_ (b))), some (.int (ei_ (bb))), some (.int (ei_ (x12))), some (.int (ei_ (k))), some (.int (ei_ (1000000)))], [.ref 18], m1)) rfl ?_
                    refine pw_call (As := []) (st := []) (k := 18) rfl rfl rfl rfl rfl (Nat.le_of_ble_eq_true rfl) ?_
                    refine cw_goOn (P := (vi_ m0 1 1)) (k := k) (hW) (⟨by omega, by omega⟩) (fun m142 g43 g44 => ?_)
                    refine pw_steps 2 (s' := (61, [some (.ref 0), some (.int (ei_ (a))), some (.int (ei_ (b))), some (.int (ei_ (bb))), some (.int (ei_ (x12))), some (.int ((ei_ (k)) + (ei_ (1)))), some (.int (ei_ (1000000)))], [], m142)) rfl ?_
                    refine pw_cv (congrArg (fun z_ : Int32 => ((61, [some (.ref 0), some (.int (ei_ (a))), some (.int (ei_ (b))), some (.int (ei_ (bb))), some (.int (ei_ (x12))), some (.int z_), some (.int (ei_ (1000000)))], [], m142) : am_S)) (ei_add rfl rfl)) ?_
                    exact ih17 _ (by omega) bb (k + 1) (some (.int (ei_ (1000000)))) m142 x rfl (by omega) ((sm_tr hs (sm_le g43 pWn_Sc))) (by exact g44.1) (by exact g44) (by intro i a_ b_; rw [sm_f (P := pOn) (sm_le g43 pWn_On) (k := 21) (fun _ => rfl)]; exact hCO i a_ b_) (by intro j o n a1_ a2_ a3_ a4_ a5_ a6_; rw [sm_f (P := pOn) (sm_le g43 pWn_On) (k := 23) (fun _ => rfl)]; exact hTB j o n a1_ a2_ a3_ a4_ a5_ a6_) (by exact bx_n hX g28) (by omega) (by omega) (by intro h_ j a_ b_; rw [sm_f (P := pWn) g43 (k := 22) (fun _ => rfl)]; exact hF (by omega) j a_ b_)
            exact L18 _ 1000000 0 none m17 (-1) rfl (by have t_ := tt_b p0 (by omega); omega) (g8) (by exact h18b_) (by exact g9) (by exact g10) (by exact g11) (by exact bx_0) (by omega) (by omega) (by intro h_; omega)
          · refine pw_steps 1 (s' := (39, [some (.ref 0), some (.int (ei_ (a))), some (.int (ei_ (b))), none, none, none, none], [.int (ei_ ((-5)))], m)) rfl ?_
            refine pw_iret rfl rfl rfl ?_
            exact k0 (-5) m (by exact Or.inr (Or.inl ⟨by omega, by omega, rfl⟩)) (p4)
        · refine pw_steps 1 (s' := (25, [some (.ref 0), some (.int (ei_ (a))), some (.int (ei_ (b))), none, none, none, none], [.int (ei_ ((-1)))], m)) rfl ?_
          refine pw_iret rfl rfl rfl ?_
          exact k0 (-1) m (by exact Or.inl ⟨by omega, rfl⟩) (p4)

set_option maxHeartbeats 4000000 in
set_option maxRecDepth 20000 in
theorem ms_allLast {q : am_X} {d : Nat} {m : am_M} {Q : Option Value → am_M → Prop} {m0 : am_M} {a : Int} {b : Int}  (p0 : rP_ m0) (p1 : rD_ m0) (p2 : rZ_ m0) (p3 : rL_ m0) (p4 : sm_ pSc m0 m) (p5 : -2147483648 ≤ a ∧ a < 2147483648) (p6 : -2147483648 ≤ b ∧ b < 2147483648) (k0 : ∀ (x : Int) (m1 : am_M), (sal_ m0 a b x) → (sm_ pSc m0 m1) → Q (some (.int (ei_ (x)))) m1) : pw_C q (d + 60) 217 [.ref 47, .int (ei_ (a)), .int (ei_ (b))] m Q := by
  obtain ⟨hP1, hP2, hP3, hP4⟩ := id p0
  have hmw := mW_of p0 p1
  have hmf := mF_of p0 p1
  refine pw_intro (I := iX9_allLast) (T := tX9_allLast) rfl rfl rfl ?_
  refine pw_steps 1 (s' := (1, [some (.ref 47), some (.int (ei_ (a))), some (.int (ei_ (b))), none, none, none, none, none], [.int (ei_ (a))], m)) rfl ?_
  refine pw_callS (As := [.int (ei_ (a))]) (st := []) rfl (by decide) rfl rfl (Nat.le_of_ble_eq_true rfl) ?_
  refine pw_intro (I := iX9_isN) (T := tX9_isN) rfl rfl rfl ?_
  refine pw_steps 4 (s' := (6, [some (.int (ei_ (a)))], [.long (el_ (99)), .long (el_ (0)), .long ((ei_ (a)).toInt64)], m)) rfl ?_
  refine pw_cv (congrArg (fun z_ : Int64 => ((6, [some (.int (ei_ (a)))], [.long (el_ (99)), .long (el_ (0)), .long z_], m) : am_S)) (el_i2l p5 rfl)) ?_
  refine pw_callS (As := [.long (el_ (a)), .long (el_ (0)), .long (el_ (99))]) (st := []) rfl (by decide) rfl rfl (Nat.le_of_ble_eq_true rfl) ?_
  refine mt_within (by omega) (by omega) (by omega) (fun g1 g2 => ?_) (fun g3 => ?_) (fun g4 => ?_)
  · refine pw_iret rfl rfl rfl ?_
    refine pw_ifF rfl (by decide) (show ¬ (1 = 0) by decide) ?_
    refine pw_steps 4 (s' := (13, [some (.ref 47), some (.int (ei_ (a))), some (.int (ei_ (b))), none, none, none, none, none], [.ref 47, .long (el_ ((-2))), .long ((ei_ (b)).toInt64)], m)) rfl ?_
    refine pw_cv (congrArg (fun z_ : Int64 => ((13, [some (.ref 47), some (.int (ei_ (a))), some (.int (ei_ (b))), none, none, none, none, none], [.ref 47, .long (el_ ((-2))), .long z_], m) : am_S)) (el_i2l p6 rfl)) ?_
    refine pw_get rfl rfl (fun x5 (hx5 : x5 = vi_ m 47 6) rx5 sx5 => ?_)
    have ox5 := hx5
    replace hx5 : x5 = vi_ m0 47 6 := hx5.trans (sm_v p4 rfl)
    replace hx5 : x5 = vi_ m0 1 1 := hx5.trans hP2
    refine pw_steps 3 (s' := (19, [some (.ref 47), some (.int (ei_ (a))), some (.int (ei_ (b))), none, none, none, none, none], [.long (((ei_ (x5)) - (ei_ (1))).toInt64), .long (el_ ((-2))), .long (el_ (b))], m)) rfl ?_
    refine pw_cv (congrArg (fun z_ : Int64 => ((19, [some (.ref 47), some (.int (ei_ (a))), some (.int (ei_ (b))), none, none, none, none, none], [.long z_, .long (el_ ((-2))), .long (el_ (b))], m) : am_S)) (el_i2l (by omega) (ei_sub rfl rfl))) ?_
    refine pw_callS (As := [.long (el_ (b)), .long (el_ ((-2))), .long (el_ ((x5 - 1)))]) (st := []) rfl (by decide) rfl rfl (Nat.le_of_ble_eq_true rfl) ?_
    refine mt_within (by omega) (by omega) (by omega) (fun g6 g7 => ?_) (fun g8 => ?_) (fun g9 => ?_)
    · refine pw_ifT rfl (by decide) (show ¬ 1 = 0 by decide) ?_
      refine pw_steps 1 (s' := (28, [some (.ref 47), some (.int (ei_ (a))), some (.int (ei_ (b))), none, none, none, none, none], [.ref 47], m)) rfl ?_
      refine pw_getE (x := x5) rfl rfl ox5 ?_
      refine pw_steps 1 (s' := (32, [some (.ref 47), some (.int (ei_ (a))), some (.int (ei_ (b))), none, none, none, none, none], [.int (ei_ (5)), .int (ei_ (x5))], m)) rfl ?_
      refine pw_cmp rfl ⟨rx5, sx5⟩ (by decide) (fun (h10 : x5 ≤ 5) => ?_) (fun (h10 : ¬ (x5 ≤ 5)) => ?_)
      · refine pw_steps 1 (s' := (39, [some (.ref 47), some (.int (ei_ (a))), some (.int (ei_ (b))), none, none, none, none, none], [.ref 47], m)) rfl ?_
        refine pw_call (As := []) (st := []) (k := 47) rfl rfl rfl rfl rfl (Nat.le_of_ble_eq_true rfl) ?_
        refine mw_begw (P := (vi_ m0 1 1)) (((sm_v p4 rfl).trans hP2)) (⟨by omega, by omega⟩) (fun m111 g12 g13 g14 g15 => ?_)
        have htt_ : vi_ m111 47 23 = tt_ m0 := g14
        refine pw_steps 8 (s' := (53, [some (.ref 47), some (.int (ei_ (a))), some (.int (ei_ (b))), some (.int (ei_ ((-1)))), some (.int (ei_ (0))), some (.int (ei_ (0))), some (.int (ei_ (0))), none], [], m111)) rfl ?_
        have L19 : ∀ (n17 : Nat) (bu : Int) (cr : Int) (al : Int) (k : Int) (u16 : Option Value) (m1 : am_M) (x : Int), (tt_ m0 - k).toNat = n17 → (0 ≤ k ∧ k ≤ tt_ m0) → (sm_ pSw m0 m1) → (vi_ m1 47 23 = tt_ m0) → (∀ j, 0 ≤ j → j < vi_ m0 1 1 → vi_ m1 58 j = vi_ m0 52 j) → (∀ j, vi_ m0 1 1 ≤ j → vi_ m1 52 j = vi_ m0 52 j) → (bx_ (fk_ m0) (co_ m0 a) k x) → (-1 ≤ bu ∧ bu ≤ 5) → ((x = -1 ∧ bu = -1) ∨ (0 ≤ x ∧ bu = wB_ m0 a x ∧ cr = wC_ m0 a x ∧ al = wL_ m0 a x)) → (0 ≤ cr ∧ cr ≤ 5 ∧ 0 ≤ al ∧ al ≤ 5000) → (0 ≤ x → ∀ j, 0 ≤ j → j < vi_ m0 1 1 → vi_ m1 59 j = wy_ (vi_ m0 1 1) x j) → pw_V q (d + 59) iX9_allLast.2.2.2.1 tX9_allLast Q (53, [some (.ref 47), some (.int (ei_ (a))), some (.int (ei_ (b))), some (.int (ei_ (bu))), some (.int (ei_ (cr))), some (.int (ei_ (al))), some (.int (ei_ (k))), u16], [], m1) := by
          intro n17
          induction n17 using Nat.strongRecOn with
          | _ n17 ih18 =>
            intro bu cr al k u16 m1 x hm_n17 hk hs h23 h58 hN hX hbb hb hcr hF
            have ct_ := tt_b p0 (by omega)
            have cx_ := co_e p0 p1 (by omega) (n := a) (c := x) (by omega)
            have ck_ := co_e p0 p1 (by omega) (n := a) (c := k) (by omega)
            refine pw_steps 2 (s' := (56, [some (.ref 47), some (.int (ei_ (a))), some (.int (ei_ (b))), some (.int (ei_ (bu))), some (.int (ei_ (cr))), some (.int (ei_ (al))), some (.int (ei_ (k))), u16], [.ref 47, .int (ei_ (k))], m1)) rfl ?_
            refine pw_get rfl rfl (fun x20 (hx20 : x20 = vi_ m1 47 23) rx20 sx20 => ?_)
            replace hx20 : x20 = tt_ m0 := hx20.trans h23
            subst x20
            refine pw_cmp rfl (by omega) ⟨rx20, sx20⟩ (fun (h21 : tt_ m0 ≤ k) => ?_) (fun (h21 : ¬ (tt_ m0 ≤ k)) => ?_)
            · refine pw_steps 1 (s' := (163, [some (.ref 47), some (.int (ei_ (a))), some (.int (ei_ (b))), some (.int (ei_ (bu))), some (.int (ei_ (cr))), some (.int (ei_ (al))), some (.int (ei_ (k))), u16], [.ref 47], m1)) rfl ?_
              refine pw_call (As := []) (st := []) (k := 47) rfl rfl rfl rfl rfl (Nat.le_of_ble_eq_true rfl) ?_
              refine mw_ends (P := (vi_ m0 1 1)) (((sm_v hs rfl).trans hP2)) (⟨by omega, by omega⟩) (fun m122 g23 g24 g25 => ?_)
              refine pw_steps 1 (s' := (167, [some (.ref 47), some (.int (ei_ (a))), some (.int (ei_ (b))), some (.int (ei_ (bu))), some (.int (ei_ (cr))), some (.int (ei_ (al))), some (.int (ei_ (k))), u16], [.int (ei_ (bu))], m122)) rfl ?_
              refine pw_if rfl (by omega) (fun (h26 : 0 ≤ bu) => ?_) (fun (h26 : ¬ (0 ≤ bu)) => ?_)
              · refine pw_steps 2 (s' := (177, [some (.ref 47), some (.int (ei_ (a))), some (.int (ei_ (b))), some (.int (ei_ (bu))), some (.int (ei_ (cr))), some (.int (ei_ (al))), some (.int (ei_ (k))), u16], [.int (ei_ ((-1))), .int (ei_ (b))], m122)) rfl ?_
                refine pw_cmp rfl p6 (by decide) (fun (h27 : ¬ b = (-1)) => ?_) (fun (h27 : ¬ ¬ b = (-1)) => ?_)
                · refine pw_steps 2 (s' := (187, [some (.ref 47), some (.int (ei_ (a))), some (.int (ei_ (b))), some (.int (ei_ (bu))), some (.int (ei_ (cr))), some (.int (ei_ (al))), some (.int (ei_ (k))), u16], [.int (ei_ ((-2))), .int (ei_ (b))], m122)) rfl ?_
                  refine pw_cmp rfl p6 (by decide) (fun (h28 : ¬ b = (-2)) => ?_) (fun (h28 : ¬ ¬ b = (-2)) => ?_)
                  · refine pw_steps 3 (s' := (200, [some (.ref 47), some (.int (ei_ (a))), some (.int (ei_ (b))), some (.int (ei_ (bu))), some (.int (ei_ (cr))), some (.int (ei_ (al))), some (.int (ei_ (k))), u16], [.int (ei_ (b)), .ref 59], m122)) rfl ?_
                    refine pw_ild rfl rfl (by omega) (fun x29 (hx29 : x29 = vi_ m122 59 b) rx29 sx29 => ?_)
                    have ox29 := hx29
                    replace hx29 : x29 = vi_ m1 59 b := hx29.trans (sm_v g23 rfl)
                    have b30 := hF (by omega) b (by omega) (by omega)
                    refine pw_iret rfl rfl rfl ?_
                    exact k0 x29 m122 (by have ce_ := co_e p0 p1 (by omega) (n := a) (c := x) (by omega); refine Or.inr (Or.inr ⟨by omega, by omega, x, (by rw [← show k = tt_ m0 by omega]; exact hX), Or.inr ⟨by omega, ?_⟩⟩); first | (rw [if_pos (by omega)]; omega) | (rw [if_neg (by omega), if_pos (by omega)]; omega) | (rw [if_neg (by omega), if_neg (by omega)]; omega)) (by exact sm_52 (sm_tr hs (sm_le g23 pC52_Sw)) (fun j a_ => by by_cases c_ : j < vi_ m0 1 1; (rw [g24 j a_ c_]; exact h58 j a_ c_); (rw [g25 j (by omega)]; exact hN j (by omega))))
                  · refine pw_steps 2 (s' := (201, [some (.ref 47), some (.int (ei_ (a))), some (.int (ei_ (b))), some (.int (ei_ (bu))), some (.int (ei_ (cr))), some (.int (ei_ (al))), some (.int (ei_ (k))), u16], [.int (ei_ (al))], m122)) rfl ?_
                    refine pw_iret rfl rfl rfl ?_
                    exact k0 al m122 (by have ce_ := co_e p0 p1 (by omega) (n := a) (c := x) (by omega); refine Or.inr (Or.inr ⟨by omega, by omega, x, (by rw [← show k = tt_ m0 by omega]; exact hX), Or.inr ⟨by omega, ?_⟩⟩); first | (rw [if_pos (by omega)]; omega) | (rw [if_neg (by omega), if_pos (by omega)]; omega) | (rw [if_neg (by omega), if_neg (by omega)]; omega)) (by exact sm_52 (sm_tr hs (sm_le g23 pC52_Sw)) (fun j a_ => by by_cases c_ : j < vi_ m0 1 1; (rw [g24 j a_ c_]; exact h58 j a_ c_); (rw [g25 j (by omega)]; exact hN j (by omega))))
                · refine pw_steps 2 (s' := (201, [some (.ref 47), some (.int (ei_ (a))), some (.int (ei_ (b))), some (.int (ei_ (bu))), some (.int (ei_ (cr))), some (.int (ei_ (al))), some (.int (ei_ (k))), u16], [.int (ei_ (bu))], m122)) rfl ?_
                  refine pw_iret rfl rfl rfl ?_
                  exact k0 bu m122 (by have ce_ := co_e p0 p1 (by omega) (n := a) (c := x) (by omega); refine Or.inr (Or.inr ⟨by omega, by omega, x, (by rw [← show k = tt_ m0 by omega]; exact hX), Or.inr ⟨by omega, ?_⟩⟩); first | (rw [if_pos (by omega)]; omega) | (rw [if_neg (by omega), if_pos (by omega)]; omega) | (rw [if_neg (by omega), if_neg (by omega)]; omega)) (by exact sm_52 (sm_tr hs (sm_le g23 pC52_Sw)) (fun j a_ => by by_cases c_ : j < vi_ m0 1 1; (rw [g24 j a_ c_]; exact h58 j a_ c_); (rw [g25 j (by omega)]; exact hN j (by omega))))
              · refine pw_steps 2 (s' := (201, [some (.ref 47), some (.int (ei_ (a))), some (.int (ei_ (b))), some (.int (ei_ (bu))), some (.int (ei_ (cr))), some (.int (ei_ (al))), some (.int (ei_ (k))), u16], [.int (ei_ ((-2)))], m122)) rfl ?_
                refine pw_iret rfl rfl rfl ?_
                exact k0 (-2) m122 (by have ce_ := co_e p0 p1 (by omega) (n := a) (c := x) (by omega); exact Or.inr (Or.inr ⟨by omega, by omega, x, (by rw [← show k = tt_ m0 by omega]; exact hX), Or.inl ⟨by omega, rfl⟩⟩)) (by exact sm_52 (sm_tr hs (sm_le g23 pC52_Sw)) (fun j a_ => by by_cases c_ : j < vi_ m0 1 1; (rw [g24 j a_ c_]; exact h58 j a_ c_); (rw [g25 j (by omega)]; exact hN j (by omega))))
            · refine pw_steps 2 (s' := (65, [some (.ref 47), some (.int (ei_ (a))), some (.int (ei_ (b))), some (.int (ei_ (bu))), some (.int (ei_ (cr))), some (.int (ei_ (al))), some (.int (ei_ (k))), u16], [.int (ei_ (k)), .ref 47], m1)) rfl ?_
              refine pw_call (As := [.int (ei_ (k))]) (st := []) (k := 47) rfl rfl rfl rfl rfl (Nat.le_of_ble_eq_true rfl) ?_
              refine mw_isWay (P := (vi_ m0 1 1)) (g := (fun i => vi_ m0 2 (16 + i))) (((sm_v hs rfl).trans hP2)) (⟨by omega, by omega⟩) (by omega) (fun i a_ b_ => by rw [sm_f hs (k := 48) (fun _ => rfl)]; exact (hP3 (16 + i) (by omega) (by omega)).2.2) (fun m131 g32 g33 g34 g35 => ?_) (fun m136 g37 g38 g39 g40 => ?_)
              · have hsw_ : sm_ pSw m0 m131 := (sm_tr hs (sm_le g32 pC52_Sw))
                have e11_ : vi_ m131 1 1 = vi_ m0 1 1 := sm_v hsw_ (k := 1) (j := 1) rfl
                refine pw_ifF rfl (by decide) (show ¬ (1 = 0) by decide) ?_
                refine pw_steps 2 (s' := (73, [some (.ref 47), some (.int (ei_ (a))), some (.int (ei_ (b))), some (.int (ei_ (bu))), some (.int (ei_ (cr))), some (.int (ei_ (al))), some (.int (ei_ (k))), u16], [.int (ei_ (a)), .ref 47], m131)) rfl ?_
                refine pw_call (As := [.int (ei_ (a))]) (st := []) (k := 47) rfl rfl rfl rfl rfl (Nat.le_of_ble_eq_true rfl) ?_
                refine md_goes (rP_fr (P := pSw) hsw_ rfl rfl (fun _ => rfl) (fun _ => rfl) p0) (fun j a_ b_ => by rw [e11_] at b_ ⊢; rw [g33 j a_ b_]; exact wy_b ⟨by omega, by omega⟩ _ _) (sm_rfl _) (rL_fr (P := pSw) hsw_ rfl rfl (fun _ => rfl) (fun _ => rfl) p3) (fun j a_ b_ => by rw [sm_f hsw_ (k := 53) (fun _ => rfl)]; exact hmf j a_ (by rw [← e11_]; exact b_)) (by omega) (fun m141 g42 g43 => ?_)
                have hL_ : ∀ j, 0 ≤ j → j < vi_ m0 1 1 → vi_ m141 57 j = lW_ m0 a k j := fun j a_ b_ => (g43 j a_ (by rw [e11_]; exact b_)).trans (lW_of p0 p1 hsw_ g33 ⟨a_, b_⟩)
                refine pw_steps 1 (s' := (77, [some (.ref 47), some (.int (ei_ (a))), some (.int (ei_ (b))), some (.int (ei_ (bu))), some (.int (ei_ (cr))), some (.int (ei_ (al))), some (.int (ei_ (k))), u16], [.int (ei_ (bu))], m141)) rfl ?_
                refine pw_if rfl (by omega) (fun (h44 : 0 ≤ bu) => ?_) (fun (h44 : ¬ (0 ≤ bu)) => ?_)
                · refine pw_steps 2 (s' := (86, [some (.ref 47), some (.int (ei_ (a))), some (.int (ei_ (b))), some (.int (ei_ (bu))), some (.int (ei_ (cr))), some (.int (ei_ (al))), some (.int (ei_ (k))), u16], [.ref 47, .int (ei_ (bu))], m141)) rfl ?_
                  refine pw_call (As := []) (st := [.int (ei_ (bu))]) (k := 47) rfl rfl rfl rfl rfl (Nat.le_of_ble_eq_true rfl) ?_
                  refine md_burnt (rP_fr (P := pSw) hsw_ rfl rfl (fun _ => rfl) (fun _ => rfl) p0) (sm_le g42 pGo_Sc) (fun x45 g46 g47 => ?_)
                  have hq48 : x45 = wB_ m0 a k := g46.trans (by rw [e11_]; exact cn_cg _ (fun j a_ b_ => by rw [hL_ j a_ (by omega)]))
                  refine pw_steps 3 (s' := (94, [some (.ref 47), some (.int (ei_ (a))), some (.int (ei_ (b))), some (.int (ei_ (bu))), some (.int (ei_ (cr))), some (.int (ei_ (al))), some (.int (ei_ (k))), some (.int ((ei_ (bu)) - (ei_ (x45))))], [.int ((ei_ (bu)) - (ei_ (x45)))], m141)) rfl ?_
                  refine pw_cv (congrArg (fun z_ : Int32 => ((94, [some (.ref 47), some (.int (ei_ (a))), some (.int (ei_ (b))), some (.int (ei_ (bu))), some (.int (ei_ (cr))), some (.int (ei_ (al))), some (.int (ei_ (k))), some (.int z_)], [.int z_], m141) : am_S)) (ei_sub rfl rfl)) ?_
                  refine pw_if rfl (by omega) (fun (h49 : ¬ (bu - x45) = 0) => ?_) (fun (h49 : ¬ ¬ (bu - x45) = 0) => ?_)
                  · refine pw_steps 3 (s' := (113, [some (.ref 47), some (.int (ei_ (a))), some (.int (ei_ (b))), some (.int (ei_ (bu))), some (.int (ei_ (cr))), some (.int (ei_ (al))), some (.int (ei_ (k))), some (.int (ei_ ((bu - x45))))], [.int (ei_ ((bu - x45)))], m141)) rfl ?_
                    refine pw_ifT rfl (by omega) (show ¬ (bu - x45) = 0 by omega) ?_
                    refine pw_steps 3 (s' := (132, [some (.ref 47), some (.int (ei_ (a))), some (.int (ei_ (b))), some (.int (ei_ (bu))), some (.int (ei_ (cr))), some (.int (ei_ (al))), some (.int (ei_ (k))), some (.int (ei_ ((bu - x45))))], [.int (ei_ ((bu - x45)))], m141)) rfl ?_
                    refine pw_if rfl (by omega) (fun (h50 : (bu - x45) ≤ 0) => ?_) (fun (h50 : ¬ ((bu - x45) ≤ 0)) => ?_)
                    · refine pw_steps 2 (s' := (53, [some (.ref 47), some (.int (ei_ (a))), some (.int (ei_ (b))), some (.int (ei_ (bu))), some (.int (ei_ (cr))), some (.int (ei_ (al))), some (.int ((ei_ (k)) + (ei_ (1)))), some (.int (ei_ ((bu - x45))))], [], m141)) rfl ?_
                      refine pw_cv (congrArg (fun z_ : Int32 => ((53, [some (.ref 47), some (.int (ei_ (a))), some (.int (ei_ (b))), some (.int (ei_ (bu))), some (.int (ei_ (cr))), some (.int (ei_ (al))), some (.int z_), some (.int (ei_ ((bu - x45))))], [], m141) : am_S)) (ei_add rfl rfl)) ?_
                      exact ih18 _ (by omega) bu cr al (k + 1) (some (.int (ei_ ((bu - x45))))) m141 x rfl (by omega) ((sm_tr (sm_tr hs (sm_le g32 pC52_Sw)) (sm_le g42 pGo_Sw))) ((sm_v (P := pN58) (sm_tr (sm_le g32 pC52_N58) (sm_le g42 pGo_N58)) (k := 47) (j := 23) rfl).trans h23) (by intro j a_ b_; rw [sm_f (P := pN58) (sm_tr (sm_le g32 pC52_N58) (sm_le g42 pGo_N58)) (k := 58) (fun _ => rfl)]; exact h58 j a_ b_) (by intro j a_; rw [sm_f (P := pN52) (sm_le g42 pGo_N52) (k := 52) (fun _ => rfl), g34 j a_]; exact hN j a_) (by exact bx_o hX (by omega)) (by omega) (by omega) (by omega) (by intro h_ j a_ b_; rw [sm_f (P := pN59) (sm_tr (sm_le g32 pC52_N59) (sm_le g42 pGo_N59)) (k := 59) (fun _ => rfl)]; exact hF (by omega) j a_ b_)
                    · refine pw_steps 1 (s' := (136, [some (.ref 47), some (.int (ei_ (a))), some (.int (ei_ (b))), some (.int (ei_ (bu))), some (.int (ei_ (cr))), some (.int (ei_ (al))), some (.int (ei_ (k))), some (.int (ei_ ((bu - x45))))], [.ref 47], m141)) rfl ?_
                      refine pw_call (As := []) (st := []) (k := 47) rfl rfl rfl rfl rfl (Nat.le_of_ble_eq_true rfl) ?_
                      refine md_burnt (rP_fr (P := pSw) hsw_ rfl rfl (fun _ => rfl) (fun _ => rfl) p0) (sm_le g42 pGo_Sc) (fun x51 g52 g53 => ?_)
                      have hq54 : x51 = wB_ m0 a k := g52.trans (by rw [e11_]; exact cn_cg _ (fun j a_ b_ => by rw [hL_ j a_ (by omega)]))
                      refine pw_steps 2 (s' := (141, [some (.ref 47), some (.int (ei_ (a))), some (.int (ei_ (b))), some (.int (ei_ (x51))), some (.int (ei_ (cr))), some (.int (ei_ (al))), some (.int (ei_ (k))), some (.int (ei_ ((bu - x45))))], [.ref 47], m141)) rfl ?_
                      refine pw_call (As := []) (st := []) (k := 47) rfl rfl rfl rfl rfl (Nat.le_of_ble_eq_true rfl) ?_
                      refine md_cracked (rP_fr (P := pSw) hsw_ rfl rfl (fun _ => rfl) (fun _ => rfl) p0) (sm_le g42 pGo_Sc) (fun x55 g56 g57 => ?_)
                      have hq58 : x55 = wC_ m0 a k := g56.trans (by rw [e11_, sm_f hsw_ (k := 2) (fun _ => rfl)]; exact su_cg _ (fun j a_ b_ => by rw [hL_ j a_ (by omega)]))
                      refine pw_steps 2 (s' := (147, [some (.ref 47), some (.int (ei_ (a))), some (.int (ei_ (b))), some (.int (ei_ (x51))), some (.int (ei_ (x55))), some (.int (ei_ (al))), some (.int (ei_ (k))), some (.int (ei_ ((bu - x45))))], [.ref 47], m141)) rfl ?_
                      refine pw_call (As := []) (st := []) (k := 47) rfl rfl rfl rfl rfl (Nat.le_of_ble_eq_true rfl) ?_
                      refine md_all (rP_fr (P := pSw) hsw_ rfl rfl (fun _ => rfl) (fun _ => rfl) p0) (sm_le g42 pGo_Sc) (fun j a_ b_ => by rw [e11_] at b_; rw [hL_ j a_ b_]; have t_ := lW_b p0 p1 (n := a) (c := k) (j := j) ⟨a_, b_⟩ (by omega); omega) (fun x59 g60 g61 => ?_)
                      have hq62 : x59 = wL_ m0 a k := g60.trans (by rw [e11_]; exact su_cg _ (fun j a_ b_ => hL_ j a_ (by omega)))
                      refine pw_steps 2 (s' := (153, [some (.ref 47), some (.int (ei_ (a))), some (.int (ei_ (b))), some (.int (ei_ (x51))), some (.int (ei_ (x55))), some (.int (ei_ (x59))), some (.int (ei_ (k))), some (.int (ei_ ((bu - x45))))], [.ref 47], m141)) rfl ?_
                      refine pw_call (As := []) (st := []) (k := 47) rfl rfl rfl rfl rfl (Nat.le_of_ble_eq_true rfl) ?_
                      refine mw_keep (P := (vi_ m0 1 1)) (((sm_v g42 rfl).trans ((sm_v g32 rfl).trans ((sm_v hs rfl).trans hP2)))) (⟨by omega, by omega⟩) (fun m163 g64 g65 => ?_)
                      refine pw_steps 2 (s' := (53, [some (.ref 47), some (.int (ei_ (a))), some (.int (ei_ (b))), some (.int (ei_ (x51))), some (.int (ei_ (x55))), some (.int (ei_ (x59))), some (.int ((ei_ (k)) + (ei_ (1)))), some (.int (ei_ ((bu - x45))))], [], m163)) rfl ?_
                      refine pw_cv (congrArg (fun z_ : Int32 => ((53, [some (.ref 47), some (.int (ei_ (a))), some (.int (ei_ (b))), some (.int (ei_ (x51))), some (.int (ei_ (x55))), some (.int (ei_ (x59))), some (.int z_), some (.int (ei_ ((bu - x45))))], [], m163) : am_S)) (ei_add rfl rfl)) ?_
                      exact ih18 _ (by omega) x51 x55 x59 (k + 1) (some (.int (ei_ ((bu - x45))))) m163 k rfl (by omega) ((sm_tr (sm_tr (sm_tr hs (sm_le g32 pC52_Sw)) (sm_le g42 pGo_Sw)) (sm_le g64 pC59_Sw))) ((sm_v (P := pN58) (sm_tr (sm_tr (sm_le g32 pC52_N58) (sm_le g42 pGo_N58)) (sm_le g64 pC59_N58)) (k := 47) (j := 23) rfl).trans h23) (by intro j a_ b_; rw [sm_f (P := pN58) (sm_tr (sm_tr (sm_le g32 pC52_N58) (sm_le g42 pGo_N58)) (sm_le g64 pC59_N58)) (k := 58) (fun _ => rfl)]; exact h58 j a_ b_) (by intro j a_; rw [sm_f (P := pN52) (sm_tr (sm_le g42 pGo_N52) (sm_le g64 pC59_N52)) (k := 52) (fun _ => rfl), g34 j a_]; exact hN j a_) (by exact bx_y (by omega) hX g35 (by omega)) (by omega) (by omega) (by omega) (by intro _ j a_ b_; rw [g65 j a_ b_, sm_v (P := pGo) g42 (k := 52) (j := j) rfl]; exact g33 j a_ b_)
                  · refine pw_steps 2 (s' := (100, [some (.ref 47), some (.int (ei_ (a))), some (.int (ei_ (b))), some (.int (ei_ (bu))), some (.int (ei_ (cr))), some (.int (ei_ (al))), some (.int (ei_ (k))), some (.int (ei_ ((bu - x45))))], [.ref 47, .int (ei_ (cr))], m141)) rfl ?_
                    refine pw_call (As := []) (st := [.int (ei_ (cr))]) (k := 47) rfl rfl rfl rfl rfl (Nat.le_of_ble_eq_true rfl) ?_
                    refine md_cracked (rP_fr (P := pSw) hsw_ rfl rfl (fun _ => rfl) (fun _ => rfl) p0) (sm_le g42 pGo_Sc) (fun x66 g67 g68 => ?_)
                    have hq69 : x66 = wC_ m0 a k := g67.trans (by rw [e11_, sm_f hsw_ (k := 2) (fun _ => rfl)]; exact su_cg _ (fun j a_ b_ => by rw [hL_ j a_ (by omega)]))
                    refine pw_steps 4 (s' := (113, [some (.ref 47), some (.int (ei_ (a))), some (.int (ei_ (b))), some (.int (ei_ (bu))), some (.int (ei_ (cr))), some (.int (ei_ (al))), some (.int (ei_ (k))), some (.int ((ei_ (cr)) - (ei_ (x66))))], [.int ((ei_ (cr)) - (ei_ (x66)))], m141)) rfl ?_
                    refine pw_cv (congrArg (fun z_ : Int32 => ((113, [some (.ref 47), some (.int (ei_ (a))), some (.int (ei_ (b))), some (.int (ei_ (bu))), some (.int (ei_ (cr))), some (.int (ei_ (al))), some (.int (ei_ (k))), some (.int z_)], [.int z_], m141) : am_S)) (ei_sub rfl rfl)) ?_
                    refine pw_if rfl (by omega) (fun (h70 : ¬ (cr - x66) = 0) => ?_) (fun (h70 : ¬ ¬ (cr - x66) = 0) => ?_)
                    · refine pw_steps 3 (s' := (132, [some (.ref 47), some (.int (ei_ (a))), some (.int (ei_ (b))), some (.int (ei_ (bu))), some (.int (ei_ (cr))), some (.int (ei_ (al))), some (.int (ei_ (k))), some (.int (ei_ ((cr - x66))))], [.int (ei_ ((cr - x66)))], m141)) rfl ?_
                      refine pw_if rfl (by omega) (fun (h71 : (cr - x66) ≤ 0) => ?_) (fun (h71 : ¬ ((cr - x66) ≤ 0)) => ?_)
                      · refine pw_steps 2 (s' := (53, [some (.ref 47), some (.int (ei_ (a))), some (.int (ei_ (b))), some (.int (ei_ (bu))), some (.int (ei_ (cr))), some (.int (ei_ (al))), some (.int ((ei_ (k)) + (ei_ (1)))), some (.int (ei_ ((cr - x66))))], [], m141)) rfl ?_
                        refine pw_cv (congrArg (fun z_ : Int32 => ((53, [some (.ref 47), some (.int (ei_ (a))), some (.int (ei_ (b))), some (.int (ei_ (bu))), some (.int (ei_ (cr))), some (.int (ei_ (al))), some (.int z_), some (.int (ei_ ((cr - x66))))], [], m141) : am_S)) (ei_add rfl rfl)) ?_
                        exact ih18 _ (by omega) bu cr al (k + 1) (some (.int (ei_ ((cr - x66))))) m141 x rfl (by omega) ((sm_tr (sm_tr hs (sm_le g32 pC52_Sw)) (sm_le g42 pGo_Sw))) ((sm_v (P := pN58) (sm_tr (sm_le g32 pC52_N58) (sm_le g42 pGo_N58)) (k := 47) (j := 23) rfl).trans h23) (by intro j a_ b_; rw [sm_f (P := pN58) (sm_tr (sm_le g32 pC52_N58) (sm_le g42 pGo_N58)) (k := 58) (fun _ => rfl)]; exact h58 j a_ b_) (by intro j a_; rw [sm_f (P := pN52) (sm_le g42 pGo_N52) (k := 52) (fun _ => rfl), g34 j a_]; exact hN j a_) (by exact bx_o hX (by omega)) (by omega) (by omega) (by omega) (by intro h_ j a_ b_; rw [sm_f (P := pN59) (sm_tr (sm_le g32 pC52_N59) (sm_le g42 pGo_N59)) (k := 59) (fun _ => rfl)]; exact hF (by omega) j a_ b_)
                      · refine pw_steps 1 (s' := (136, [some (.ref 47), some (.int (ei_ (a))), some (.int (ei_ (b))), some (.int (ei_ (bu))), some (.int (ei_ (cr))), some (.int (ei_ (al))), some (.int (ei_ (k))), some (.int (ei_ ((cr - x66))))], [.ref 47], m141)) rfl ?_
                        refine pw_call (As := []) (st := []) (k := 47) rfl rfl rfl rfl rfl (Nat.le_of_ble_eq_true rfl) ?_
                        refine md_burnt (rP_fr (P := pSw) hsw_ rfl rfl (fun _ => rfl) (fun _ => rfl) p0) (sm_le g42 pGo_Sc) (fun x72 g73 g74 => ?_)
                        have hq75 : x72 = wB_ m0 a k := g73.trans (by rw [e11_]; exact cn_cg _ (fun j a_ b_ => by rw [hL_ j a_ (by omega)]))
                        refine pw_steps 2 (s' := (141, [some (.ref 47), some (.int (ei_ (a))), some (.int (ei_ (b))), some (.int (ei_ (x72))), some (.int (ei_ (cr))), some (.int (ei_ (al))), some (.int (ei_ (k))), some (.int (ei_ ((cr - x66))))], [.ref 47], m141)) rfl ?_
                        refine pw_call (As := []) (st := []) (k := 47) rfl rfl rfl rfl rfl (Nat.le_of_ble_eq_true rfl) ?_
                        refine md_cracked (rP_fr (P := pSw) hsw_ rfl rfl (fun _ => rfl) (fun _ => rfl) p0) (sm_le g42 pGo_Sc) (fun x76 g77 g78 => ?_)
                        have hq79 : x76 = wC_ m0 a k := g77.trans (by rw [e11_, sm_f hsw_ (k := 2) (fun _ => rfl)]; exact su_cg _ (fun j a_ b_ => by rw [hL_ j a_ (by omega)]))
                        refine pw_steps 2 (s' := (147, [some (.ref 47), some (.int (ei_ (a))), some (.int (ei_ (b))), some (.int (ei_ (x72))), some (.int (ei_ (x76))), some (.int (ei_ (al))), some (.int (ei_ (k))), some (.int (ei_ ((cr - x66))))], [.ref 47], m141)) rfl ?_
                        refine pw_call (As := []) (st := []) (k := 47) rfl rfl rfl rfl rfl (Nat.le_of_ble_eq_true rfl) ?_
                        refine md_all (rP_fr (P := pSw) hsw_ rfl rfl (fun _ => rfl) (fun _ => rfl) p0) (sm_le g42 pGo_Sc) (fun j a_ b_ => by rw [e11_] at b_; rw [hL_ j a_ b_]; have t_ := lW_b p0 p1 (n := a) (c := k) (j := j) ⟨a_, b_⟩ (by omega); omega) (fun x80 g81 g82 => ?_)
                        have hq83 : x80 = wL_ m0 a k := g81.trans (by rw [e11_]; exact su_cg _ (fun j a_ b_ => hL_ j a_ (by omega)))
                        refine pw_steps 2 (s' := (153, [some (.ref 47), some (.int (ei_ (a))), some (.int (ei_ (b))), some (.int (ei_ (x72))), some (.int (ei_ (x76))), some (.int (ei_ (x80))), some (.int (ei_ (k))), some (.int (ei_ ((cr - x66))))], [.ref 47], m141)) rfl ?_
                        refine pw_call (As := []) (st := []) (k := 47) rfl rfl rfl rfl rfl (Nat.le_of_ble_eq_true rfl) ?_
                        refine mw_keep (P := (vi_ m0 1 1)) (((sm_v g42 rfl).trans ((sm_v g32 rfl).trans ((sm_v hs rfl).trans hP2)))) (⟨by omega, by omega⟩) (fun m184 g85 g86 => ?_)
                        refine pw_steps 2 (s' := (53, [some (.ref 47), some (.int (ei_ (a))), some (.int (ei_ (b))), some (.int (ei_ (x72))), some (.int (ei_ (x76))), some (.int (ei_ (x80))), some (.int ((ei_ (k)) + (ei_ (1)))), some (.int (ei_ ((cr - x66))))], [], m184)) rfl ?_
                        refine pw_cv (congrArg (fun z_ : Int32 => ((53, [some (.ref 47), some (.int (ei_ (a))), some (.int (ei_ (b))), some (.int (ei_ (x72))), some (.int (ei_ (x76))), some (.int (ei_ (x80))), some (.int z_), some (.int (ei_ ((cr - x66))))], [], m184) : am_S)) (ei_add rfl rfl)) ?_
                        exact ih18 _ (by omega) x72 x76 x80 (k + 1) (some (.int (ei_ ((cr - x66))))) m184 k rfl (by omega) ((sm_tr (sm_tr (sm_tr hs (sm_le g32 pC52_Sw)) (sm_le g42 pGo_Sw)) (sm_le g85 pC59_Sw))) ((sm_v (P := pN58) (sm_tr (sm_tr (sm_le g32 pC52_N58) (sm_le g42 pGo_N58)) (sm_le g85 pC59_N58)) (k := 47) (j := 23) rfl).trans h23) (by intro j a_ b_; rw [sm_f (P := pN58) (sm_tr (sm_tr (sm_le g32 pC52_N58) (sm_le g42 pGo_N58)) (sm_le g85 pC59_N58)) (k := 58) (fun _ => rfl)]; exact h58 j a_ b_) (by intro j a_; rw [sm_f (P := pN52) (sm_tr (sm_le g42 pGo_N52) (sm_le g85 pC59_N52)) (k := 52) (fun _ => rfl), g34 j a_]; exact hN j a_) (by exact bx_y (by omega) hX g35 (by omega)) (by omega) (by omega) (by omega) (by intro _ j a_ b_; rw [g86 j a_ b_, sm_v (P := pGo) g42 (k := 52) (j := j) rfl]; exact g33 j a_ b_)
                    · refine pw_steps 1 (s' := (117, [some (.ref 47), some (.int (ei_ (a))), some (.int (ei_ (b))), some (.int (ei_ (bu))), some (.int (ei_ (cr))), some (.int (ei_ (al))), some (.int (ei_ (k))), some (.int (ei_ ((cr - x66))))], [.ref 47], m141)) rfl ?_
                      refine pw_call (As := []) (st := []) (k := 47) rfl rfl rfl rfl rfl (Nat.le_of_ble_eq_true rfl) ?_
                      refine md_all (rP_fr (P := pSw) hsw_ rfl rfl (fun _ => rfl) (fun _ => rfl) p0) (sm_le g42 pGo_Sc) (fun j a_ b_ => by rw [e11_] at b_; rw [hL_ j a_ b_]; have t_ := lW_b p0 p1 (n := a) (c := k) (j := j) ⟨a_, b_⟩ (by omega); omega) (fun x87 g88 g89 => ?_)
                      have hq90 : x87 = wL_ m0 a k := g88.trans (by rw [e11_]; exact su_cg _ (fun j a_ b_ => hL_ j a_ (by omega)))
                      refine pw_steps 5 (s' := (132, [some (.ref 47), some (.int (ei_ (a))), some (.int (ei_ (b))), some (.int (ei_ (bu))), some (.int (ei_ (cr))), some (.int (ei_ (al))), some (.int (ei_ (k))), some (.int ((ei_ (x87)) - (ei_ (al))))], [.int ((ei_ (x87)) - (ei_ (al)))], m141)) rfl ?_
                      refine pw_cv (congrArg (fun z_ : Int32 => ((132, [some (.ref 47), some (.int (ei_ (a))), some (.int (ei_ (b))), some (.int (ei_ (bu))), some (.int (ei_ (cr))), some (.int (ei_ (al))), some (.int (ei_ (k))), some (.int z_)], [.int z_], m141) : am_S)) (ei_sub rfl rfl)) ?_
                      refine pw_if rfl (by omega) (fun (h91 : (x87 - al) ≤ 0) => ?_) (fun (h91 : ¬ ((x87 - al) ≤ 0)) => ?_)
                      · refine pw_steps 2 (s' := (53, [some (.ref 47), some (.int (ei_ (a))), some (.int (ei_ (b))), some (.int (ei_ (bu))), some (.int (ei_ (cr))), some (.int (ei_ (al))), some (.int ((ei_ (k)) + (ei_ (1)))), some (.int (ei_ ((x87 - al))))], [], m141)) rfl ?_
                        refine pw_cv (congrArg (fun z_ : Int32 => ((53, [some (.ref 47), some (.int (ei_ (a))), some (.int (ei_ (b))), some (.int (ei_ (bu))), some (.int (ei_ (cr))), some (.int (ei_ (al))), some (.int z_), some (.int (ei_ ((x87 - al))))], [], m141) : am_S)) (ei_add rfl rfl)) ?_
                        exact ih18 _ (by omega) bu cr al (k + 1) (some (.int (ei_ ((x87 - al))))) m141 x rfl (by omega) ((sm_tr (sm_tr hs (sm_le g32 pC52_Sw)) (sm_le g42 pGo_Sw))) ((sm_v (P := pN58) (sm_tr (sm_le g32 pC52_N58) (sm_le g42 pGo_N58)) (k := 47) (j := 23) rfl).trans h23) (by intro j a_ b_; rw [sm_f (P := pN58) (sm_tr (sm_le g32 pC52_N58) (sm_le g42 pGo_N58)) (k := 58) (fun _ => rfl)]; exact h58 j a_ b_) (by intro j a_; rw [sm_f (P := pN52) (sm_le g42 pGo_N52) (k := 52) (fun _ => rfl), g34 j a_]; exact hN j a_) (by exact bx_o hX (by omega)) (by omega) (by omega) (by omega) (by intro h_ j a_ b_; rw [sm_f (P := pN59) (sm_tr (sm_le g32 pC52_N59) (sm_le g42 pGo_N59)) (k := 59) (fun _ => rfl)]; exact hF (by omega) j a_ b_)
                      · refine pw_steps 1 (s' := (136, [some (.ref 47), some (.int (ei_ (a))), some (.int (ei_ (b))), some (.int (ei_ (bu))), some (.int (ei_ (cr))), some (.int (ei_ (al))), some (.int (ei_ (k))), some (.int (ei_ ((x87 - al))))], [.ref 47], m141)) rfl ?_
                        refine pw_call (As := []) (st := []) (k := 47) rfl rfl rfl rfl rfl (Nat.le_of_ble_eq_true rfl) ?_
                        refine md_burnt (rP_fr (P := pSw) hsw_ rfl rfl (fun _ => rfl) (fun _ => rfl) p0) (sm_le g42 pGo_Sc) (fun x92 g93 g94 => ?_)
                        have hq95 : x92 = wB_ m0 a k := g93.trans (by rw [e11_]; exact cn_cg _ (fun j a_ b_ => by rw [hL_ j a_ (by omega)]))
                        refine pw_steps 2 (s' := (141, [some (.ref 47), some (.int (ei_ (a))), some (.int (ei_ (b))), some (.int (ei_ (x92))), some (.int (ei_ (cr))), some (.int (ei_ (al))), some (.int (ei_ (k))), some (.int (ei_ ((x87 - al))))], [.ref 47], m141)) rfl ?_
                        refine pw_call (As := []) (st := []) (k := 47) rfl rfl rfl rfl rfl (Nat.le_of_ble_eq_true rfl) ?_
                        refine md_cracked (rP_fr (P := pSw) hsw_ rfl rfl (fun _ => rfl) (fun _ => rfl) p0) (sm_le g42 pGo_Sc) (fun x96 g97 g98 => ?_)
                        have hq99 : x96 = wC_ m0 a k := g97.trans (by rw [e11_, sm_f hsw_ (k := 2) (fun _ => rfl)]; exact su_cg _ (fun j a_ b_ => by rw [hL_ j a_ (by omega)]))
                        refine pw_steps 2 (s' := (147, [some (.ref 47), some (.int (ei_ (a))), some (.int (ei_ (b))), some (.int (ei_ (x92))), some (.int (ei_ (x96))), some (.int (ei_ (al))), some (.int (ei_ (k))), some (.int (ei_ ((x87 - al))))], [.ref 47], m141)) rfl ?_
                        refine pw_call (As := []) (st := []) (k := 47) rfl rfl rfl rfl rfl (Nat.le_of_ble_eq_true rfl) ?_
                        refine md_all (rP_fr (P := pSw) hsw_ rfl rfl (fun _ => rfl) (fun _ => rfl) p0) (sm_le g42 pGo_Sc) (fun j a_ b_ => by rw [e11_] at b_; rw [hL_ j a_ b_]; have t_ := lW_b p0 p1 (n := a) (c := k) (j := j) ⟨a_, b_⟩ (by omega); omega) (fun x100 g101 g102 => ?_)
                        have hq103 : x100 = wL_ m0 a k := g101.trans (by rw [e11_]; exact su_cg _ (fun j a_ b_ => hL_ j a_ (by omega)))
                        refine pw_steps 2 (s' := (153, [some (.ref 47), some (.int (ei_ (a))), some (.int (ei_ (b))), some (.int (ei_ (x92))), some (.int (ei_ (x96))), some (.int (ei_ (x100))), some (.int (ei_ (k))), some (.int (ei_ ((x87 - al))))], [.ref 47], m141)) rfl ?_
                        refine pw_call (As := []) (st := []) (k := 47) rfl rfl rfl rfl rfl (Nat.le_of_ble_eq_true rfl) ?_
                        refine mw_keep (P := (vi_ m0 1 1)) (((sm_v g42 rfl).trans ((sm_v g32 rfl).trans ((sm_v hs rfl).trans hP2)))) (⟨by omega, by omega⟩) (fun m1104 g105 g106 => ?_)
                        refine pw_steps 2 (s' := (53, [some (.ref 47), some (.int (ei_ (a))), some (.int (ei_ (b))), some (.int (ei_ (x92))), some (.int (ei_ (x96))), some (.int (ei_ (x100))), some (.int ((ei_ (k)) + (ei_ (1)))), some (.int (ei_ ((x87 - al))))], [], m1104)) rfl ?_
                        refine pw_cv (congrArg (fun z_ : Int32 => ((53, [some (.ref 47), some (.int (ei_ (a))), some (.int (ei_ (b))), some (.int (ei_ (x92))), some (.int (ei_ (x96))), some (.int (ei_ (x100))), some (.int z_), some (.int (ei_ ((x87 - al))))], [], m1104) : am_S)) (ei_add rfl rfl)) ?_
                        exact ih18 _ (by omega) x92 x96 x100 (k + 1) (some (.int (ei_ ((x87 - al))))) m1104 k rfl (by omega) ((sm_tr (sm_tr (sm_tr hs (sm_le g32 pC52_Sw)) (sm_le g42 pGo_Sw)) (sm_le g105 pC59_Sw))) ((sm_v (P := pN58) (sm_tr (sm_tr (sm_le g32 pC52_N58) (sm_le g42 pGo_N58)) (sm_le g105 pC59_N58)) (k := 47) (j := 23) rfl).trans h23) (by intro j a_ b_; rw [sm_f (P := pN58) (sm_tr (sm_tr (sm_le g32 pC52_N58) (sm_le g42 pGo_N58)) (sm_le g105 pC59_N58)) (k := 58) (fun _ => rfl)]; exact h58 j a_ b_) (by intro j a_; rw [sm_f (P := pN52) (sm_tr (sm_le g42 pGo_N52) (sm_le g105 pC59_N52)) (k := 52) (fun _ => rfl), g34 j a_]; exact hN j a_) (by exact bx_y (by omega) hX g35 (by omega)) (by omega) (by omega) (by omega) (by intro _ j a_ b_; rw [g106 j a_ b_, sm_v (P := pGo) g42 (k := 52) (j := j) rfl]; exact g33 j a_ b_)
                · refine pw_steps 4 (s' := (94, [some (.ref 47), some (.int (ei_ (a))), some (.int (ei_ (b))), some (.int (ei_ (bu))), some (.int (ei_ (cr))), some (.int (ei_ (al))), some (.int (ei_ (k))), some (.int (ei_ (1)))], [.int (ei_ (1))], m141)) rfl ?_
                  refine pw_ifT rfl (by decide) (show ¬ 1 = 0 by decide) ?_
                  refine pw_steps 3 (s' := (113, [some (.ref 47), some (.int (ei_ (a))), some (.int (ei_ (b))), some (.int (ei_ (bu))), some (.int (ei_ (cr))), some (.int (ei_ (al))), some (.int (ei_ (k))), some (.int (ei_ (1)))], [.int (ei_ (1))], m141)) rfl ?_
                  refine pw_ifT rfl (by decide) (show ¬ 1 = 0 by decide) ?_
                  refine pw_steps 3 (s' := (132, [some (.ref 47), some (.int (ei_ (a))), some (.int (ei_ (b))), some (.int (ei_ (bu))), some (.int (ei_ (cr))), some (.int (ei_ (al))), some (.int (ei_ (k))), some (.int (ei_ (1)))], [.int (ei_ (1))], m141)) rfl ?_
                  refine pw_ifF rfl (by decide) (show ¬ (1 ≤ 0) by decide) ?_
                  refine pw_steps 1 (s' := (136, [some (.ref 47), some (.int (ei_ (a))), some (.int (ei_ (b))), some (.int (ei_ (bu))), some (.int (ei_ (cr))), some (.int (ei_ (al))), some (.int (ei_ (k))), some (.int (ei_ (1)))], [.ref 47], m141)) rfl ?_
                  refine pw_call (As := []) (st := []) (k := 47) rfl rfl rfl rfl rfl (Nat.le_of_ble_eq_true rfl) ?_
                  refine md_burnt (rP_fr (P := pSw) hsw_ rfl rfl (fun _ => rfl) (fun _ => rfl) p0) (sm_le g42 pGo_Sc) (fun x107 g108 g109 => ?_)
                  have hq110 : x107 = wB_ m0 a k := g108.trans (by rw [e11_]; exact cn_cg _ (fun j a_ b_ => by rw [hL_ j a_ (by omega)]))
                  refine pw_steps 2 (s' := (141, [some (.ref 47), some (.int (ei_ (a))), some (.int (ei_ (b))), some (.int (ei_ (x107))), some (.int (ei_ (cr))), some (.int (ei_ (al))), some (.int (ei_ (k))), some (.int (ei_ (1)))], [.ref 47], m141)) rfl ?_
                  refine pw_call (As := []) (st := []) (k := 47) rfl rfl rfl rfl rfl (Nat.le_of_ble_eq_true rfl) ?_
                  refine md_cracked (rP_fr (P := pSw) hsw_ rfl rfl (fun _ => rfl) (fun _ => rfl) p0) (sm_le g42 pGo_Sc) (fun x111 g112 g113 => ?_)
                  have hq114 : x111 = wC_ m0 a k := g112.trans (by rw [e11_, sm_f hsw_ (k := 2) (fun _ => rfl)]; exact su_cg _ (fun j a_ b_ => by rw [hL_ j a_ (by omega)]))
                  refine pw_steps 2 (s' := (147, [some (.ref 47), some (.int (ei_ (a))), some (.int (ei_ (b))), some (.int (ei_ (x107))), some (.int (ei_ (x111))), some (.int (ei_ (al))), some (.int (ei_ (k))), some (.int (ei_ (1)))], [.ref 47], m141)) rfl ?_
                  refine pw_call (As := []) (st := []) (k := 47) rfl rfl rfl rfl rfl (Nat.le_of_ble_eq_true rfl) ?_
                  refine md_all (rP_fr (P := pSw) hsw_ rfl rfl (fun _ => rfl) (fun _ => rfl) p0) (sm_le g42 pGo_Sc) (fun j a_ b_ => by rw [e11_] at b_; rw [hL_ j a_ b_]; have t_ := lW_b p0 p1 (n := a) (c := k) (j := j) ⟨a_, b_⟩ (by omega); omega) (fun x115 g116 g117 => ?_)
                  have hq118 : x115 = wL_ m0 a k := g116.trans (by rw [e11_]; exact su_cg _ (fun j a_ b_ => hL_ j a_ (by omega)))
                  refine pw_steps 2 (s' := (153, [some (.ref 47), some (.int (ei_ (a))), some (.int (ei_ (b))), some (.int (ei_ (x107))), some (.int (ei_ (x111))), some (.int (ei_ (x115))), some (.int (ei_ (k))), some (.int (ei_ (1)))], [.ref 47], m141)) rfl ?_
                  refine pw_call (As := []) (st := []) (k := 47) rfl rfl rfl rfl rfl (Nat.le_of_ble_eq_true rfl) ?_
                  refine mw_keep (P := (vi_ m0 1 1)) (((sm_v g42 rfl).trans ((sm_v g32 rfl).trans ((sm_v hs rfl).trans hP2)))) (⟨by omega, by omega⟩) (fun m1119 g120 g121 => ?_)
                  refine pw_steps 2 (s' := (53, [some (.ref 47), some (.int (ei_ (a))), some (.int (ei_ (b))), some (.int (ei_ (x107))), some (.int (ei_ (x111))), some (.int (ei_ (x115))), some (.int ((ei_ (k)) + (ei_ (1)))), some (.int (ei_ (1)))], [], m1119)) rfl ?_
                  refine pw_cv (congrArg (fun z_ : Int32 => ((53, [some (.ref 47), some (.int (ei_ (a))), some (.int (ei_ (b))), some (.int (ei_ (x107))), some (.int (ei_ (x111))), some (.int (ei_ (x115))), some (.int z_), some (.int (ei_ (1)))], [], m1119) : am_S)) (ei_add rfl rfl)) ?_
                  exact ih18 _ (by omega) x107 x111 x115 (k + 1) (some (.int (ei_ (1)))) m1119 k rfl (by omega) ((sm_tr (sm_tr (sm_tr hs (sm_le g32 pC52_Sw)) (sm_le g42 pGo_Sw)) (sm_le g120 pC59_Sw))) ((sm_v (P := pN58) (sm_tr (sm_tr (sm_le g32 pC52_N58) (sm_le g42 pGo_N58)) (sm_le g120 pC59_N58)) (k := 47) (j := 23) rfl).trans h23) (by intro j a_ b_; rw [sm_f (P := pN58) (sm_tr (sm_tr (sm_le g32 pC52_N58) (sm_le g42 pGo_N58)) (sm_le g120 pC59_N58)) (k := 58) (fun _ => rfl)]; exact h58 j a_ b_) (by intro j a_; rw [sm_f (P := pN52) (sm_tr (sm_le g42 pGo_N52) (sm_le g120 pC59_N52)) (k := 52) (fun _ => rfl), g34 j a_]; exact hN j a_) (by exact bx_y (by omega) hX g35 (by omega)) (by omega) (by omega) (by omega) (by intro _ j a_ b_; rw [g121 j a_ b_, sm_v (P := pGo) g42 (k := 52) (j := j) rfl]; exact g33 j a_ b_)
              · have hsw_ : sm_ pSw m0 m136 := (sm_tr hs (sm_le g37 pC52_Sw))
                have e11_ : vi_ m136 1 1 = vi_ m0 1 1 := sm_v hsw_ (k := 1) (j := 1) rfl
                refine pw_ifT rfl (by decide) (show 0 = 0 by decide) ?_
                refine pw_steps 2 (s' := (53, [some (.ref 47), some (.int (ei_ (a))), some (.int (ei_ (b))), some (.int (ei_ (bu))), some (.int (ei_ (cr))), some (.int (ei_ (al))), some (.int ((ei_ (k)) + (ei_ (1)))), u16], [], m136)) rfl ?_
                refine pw_cv (congrArg (fun z_ : Int32 => ((53, [some (.ref 47), some (.int (ei_ (a))), some (.int (ei_ (b))), some (.int (ei_ (bu))), some (.int (ei_ (cr))), some (.int (ei_ (al))), some (.int z_), u16], [], m136) : am_S)) (ei_add rfl rfl)) ?_
                exact ih18 _ (by omega) bu cr al (k + 1) u16 m136 x rfl (by omega) ((sm_tr hs (sm_le g37 pC52_Sw))) ((sm_v (P := pN58) (sm_le g37 pC52_N58) (k := 47) (j := 23) rfl).trans h23) (by intro j a_ b_; rw [sm_f (P := pN58) (sm_le g37 pC52_N58) (k := 58) (fun _ => rfl)]; exact h58 j a_ b_) (by intro j a_; rw [sm_f (P := pN52) (sm_rfl m136) (k := 52) (fun _ => rfl), g39 j a_]; exact hN j a_) (by exact bx_n hX g40) (by omega) (by omega) (by omega) (by intro h_ j a_ b_; rw [sm_f (P := pN59) (sm_le g37 pC52_N59) (k := 59) (fun _ => rfl)]; exact hF (by omega) j a_ b_)
        exact L19 _ (-1) 0 0 0 none m111 (-1) rfl (by have t_ := tt_b p0 (by omega); omega) ((sm_tr (sm_le p4 pSc_Sw) (sm_le g12 pBw_Sw))) (by exact htt_) (by intro j a_ b_; rw [g15 j a_ b_]; exact sm_v p4 (k := 52) (j := j) rfl) (by intro j _; exact (sm_v g12 (k := 52) (j := j) rfl).trans (sm_v p4 (k := 52) (j := j) rfl)) (by exact bx_0) (by omega) (by omega) (by omega) (by intro h_; omega)
      · refine pw_steps 1 (s' := (37, [some (.ref 47), some (.int (ei_ (a))), some (.int (ei_ (b))), none, none, none, none, none], [.int (ei_ ((-5)))], m)) rfl ?_
        refine pw_iret rfl rfl rfl ?_
        exact k0 (-5) m (by exact Or.inr (Or.inl ⟨by omega, by omega, rfl⟩)) (p4)
    · refine pw_ifF rfl (by decide) (show ¬ (¬ 0 = 0) by decide) ?_
      refine pw_steps 1 (s' := (26, [some (.ref 47), some (.int (ei_ (a))), some (.int (ei_ (b))), none, none, none, none, none], [.int (ei_ ((-1)))], m)) rfl ?_
      refine pw_iret rfl rfl rfl ?_
      exact k0 (-1) m (by exact Or.inl ⟨by omega, rfl⟩) (p4)
    · refine pw_ifF rfl (by decide) (show ¬ (¬ 0 = 0) by decide) ?_
      refine pw_steps 1 (s' := (26, [some (.ref 47), some (.int (ei_ (a))), some (.int (ei_ (b))), none, none, none, none, none], [.int (ei_ ((-1)))], m)) rfl ?_
      refine pw_iret rfl rfl rfl ?_
      exact k0 (-1) m (by exact Or.inl ⟨by omega, rfl⟩) (p4)
  · refine pw_iret rfl rfl rfl ?_
    refine pw_ifT rfl (by decide) (show 0 = 0 by decide) ?_
    refine pw_steps 1 (s' := (26, [some (.ref 47), some (.int (ei_ (a))), some (.int (ei_ (b))), none, none, none, none, none], [.int (ei_ ((-1)))], m)) rfl ?_
    refine pw_iret rfl rfl rfl ?_
    exact k0 (-1) m (by exact Or.inl ⟨by omega, rfl⟩) (p4)
  · refine pw_iret rfl rfl rfl ?_
    refine pw_ifT rfl (by decide) (show 0 = 0 by decide) ?_
    refine pw_steps 1 (s' := (26, [some (.ref 47), some (.int (ei_ (a))), some (.int (ei_ (b))), none, none, none, none, none], [.int (ei_ ((-1)))], m)) rfl ?_
    refine pw_iret rfl rfl rfl ?_
    exact k0 (-1) m (by exact Or.inl ⟨by omega, rfl⟩) (p4)

theorem op_allLast {q : am_X} {d : Nat} {m : am_M} {a : Int} {b : Int} (q0 : -2147483648 ≤ a ∧ a < 2147483648) (q1 : -2147483648 ≤ b ∧ b < 2147483648) (hR : rR_ m) : pw_C q (d + 60) 66 [.ref 0, .int (ei_ a), .int (ei_ b)] m (fun r1 m1 => pw_C q (d + 60) 217 [.ref 47, .int (ei_ a), .int (ei_ b)] m1 (fun r2 m2 => ∃ x : Int, r1 = some (.int (ei_ x)) ∧ r2 = some (.int (ei_ x)) ∧ rR_ m2)) := by
  obtain ⟨hp, hd, hi, ht, hl, hz, hc, ha, hs⟩ := id hR
  refine cs_allLast hp hd hz hl (sm_rfl m) q0 q1 (fun x m1 e1 g1 => ?_)
  refine ms_allLast hp hd hz hl g1 q0 q1 (fun y m2 e2 g2 => ?_)
  exact ⟨x, rfl, by rw [sal_u e1 e2], rR_sm g2 hR⟩

set_option maxHeartbeats 4000000 in
set_option maxRecDepth 20000 in
theorem cs_fewest {q : am_X} {d : Nat} {m : am_M} {Q : Option Value → am_M → Prop} {m0 : am_M} {a : Int}  (p0 : rP_ m0) (p1 : rD_ m0) (p2 : rZ_ m0) (p3 : rL_ m0) (p4 : sm_ pSc m0 m) (p5 : -2147483648 ≤ a ∧ a < 2147483648) (k0 : ∀ (x : Int) (m1 : am_M), (sfw_ m0 a x) → (sm_ pSc m0 m1) → Q (some (.int (ei_ (x)))) m1) : pw_C q (d + 60) 83 [.ref 0, .int (ei_ (a))] m Q := by
  obtain ⟨hP1, hP2, hP3, hP4⟩ := id p0
  have hmw := mW_of p0 p1
  have hmf := mF_of p0 p1
  refine pw_intro (I := iX8_fewest) (T := tX8_fewest) rfl rfl rfl ?_
  refine pw_steps 1 (s' := (1, [some (.ref 0), some (.int (ei_ (a))), none, none, none], [.int (ei_ (a))], m)) rfl ?_
  refine pw_callS (As := [.int (ei_ (a))]) (st := []) rfl (by decide) rfl rfl (Nat.le_of_ble_eq_true rfl) ?_
  refine pw_intro (I := iX8_isTo99) (T := tX8_isTo99) rfl rfl rfl ?_
  refine pw_steps 1 (s' := (1, [some (.int (ei_ (a)))], [.int (ei_ (a))], m)) rfl ?_
  refine pw_if rfl p5 (fun (h1 : a < 0) => ?_) (fun (h1 : ¬ (a < 0)) => ?_)
  · refine pw_steps 1 (s' := (15, [some (.int (ei_ (a)))], [.int (ei_ (0))], m)) rfl ?_
    refine pw_iret rfl rfl rfl ?_
    refine pw_ifF rfl (by decide) (show ¬ (¬ 0 = 0) by decide) ?_
    refine pw_steps 1 (s' := (8, [some (.ref 0), some (.int (ei_ (a))), none, none, none], [.int (ei_ ((-1)))], m)) rfl ?_
    refine pw_iret rfl rfl rfl ?_
    exact k0 (-1) m (by exact Or.inl ⟨by omega, rfl⟩) (p4)
  · refine pw_steps 2 (s' := (7, [some (.int (ei_ (a)))], [.int (ei_ (99)), .int (ei_ (a))], m)) rfl ?_
    refine pw_cmp rfl p5 (by decide) (fun (h2 : 99 < a) => ?_) (fun (h2 : ¬ (99 < a)) => ?_)
    · refine pw_steps 1 (s' := (15, [some (.int (ei_ (a)))], [.int (ei_ (0))], m)) rfl ?_
      refine pw_iret rfl rfl rfl ?_
      refine pw_ifF rfl (by decide) (show ¬ (¬ 0 = 0) by decide) ?_
      refine pw_steps 1 (s' := (8, [some (.ref 0), some (.int (ei_ (a))), none, none, none], [.int (ei_ ((-1)))], m)) rfl ?_
      refine pw_iret rfl rfl rfl ?_
      exact k0 (-1) m (by exact Or.inl ⟨by omega, rfl⟩) (p4)
    · refine pw_steps 2 (s' := (15, [some (.int (ei_ (a)))], [.int (ei_ (1))], m)) rfl ?_
      refine pw_iret rfl rfl rfl ?_
      refine pw_ifT rfl (by decide) (show ¬ 1 = 0 by decide) ?_
      refine pw_steps 2 (s' := (13, [some (.ref 0), some (.int (ei_ (a))), none, none, none], [.ref 1], m)) rfl ?_
      refine pw_call (As := []) (st := []) (k := 1) rfl rfl rfl rfl rfl (Nat.le_of_ble_eq_true rfl) ?_
      refine pw_intro (I := iX3_size) (T := tX3_size) rfl rfl rfl ?_
      refine pw_steps 1 (s' := (1, [some (.ref 1)], [.ref 1], m)) rfl ?_
      refine pw_get rfl rfl (fun x3 (hx3 : x3 = vi_ m 1 1) rx3 sx3 => ?_)
      have ox3 := hx3
      replace hx3 : x3 = vi_ m0 1 1 := hx3.trans (sm_v p4 rfl)
      refine pw_iret rfl rfl rfl ?_
      refine pw_steps 1 (s' := (17, [some (.ref 0), some (.int (ei_ (a))), none, none, none], [.int (ei_ (5)), .int (ei_ (x3))], m)) rfl ?_
      refine pw_cmp rfl ⟨rx3, sx3⟩ (by decide) (fun (h4 : x3 ≤ 5) => ?_) (fun (h4 : ¬ (x3 ≤ 5)) => ?_)
      · refine pw_steps 3 (s' := (26, [some (.ref 0), some (.int (ei_ (a))), none, none, none], [.null, .int (ei_ (a)), .ref 0], m)) rfl ?_
        refine pw_call (As := [.int (ei_ (a)), .null]) (st := []) (k := 0) rfl rfl rfl rfl rfl (Nat.le_of_ble_eq_true rfl) ?_
        refine cs_bwA (p0) (p1) (p2) (p4) (by omega) (by omega) (fun m15 g6 g7 g8 g9 => ?_)
        have h18b_ := g7.1
        refine pw_steps 4 (s' := (36, [some (.ref 0), some (.int (ei_ (a))), some (.int (ei_ (9))), none, none], [.ref 18], m15)) rfl ?_
        refine pw_call (As := []) (st := []) (k := 18) rfl rfl rfl rfl rfl (Nat.le_of_ble_eq_true rfl) ?_
        refine cw_total (P := (vi_ m0 1 1)) ((g7).1) (⟨by omega, by omega⟩) (fun x10 g11 g12 => ?_)
        have htt_ : x10 = tt_ m0 := g11
        refine pw_steps 3 (s' := (43, [some (.ref 0), some (.int (ei_ (a))), some (.int (ei_ (9))), some (.int (ei_ (x10))), some (.int (ei_ (0)))], [], m15)) rfl ?_
        have L15 : ∀ (n13 : Nat) (ll : Int) (k : Int) (m1 : am_M) (vv : Int), (tt_ m0 - k).toNat = n13 → (0 ≤ k ∧ k ≤ tt_ m0) → (sm_ pSc m0 m1) → (vi_ m1 18 5 = vi_ m0 1 1) → (wa_ (vi_ m0 1 1) k m1) → (∀ i, 0 ≤ i → i < vi_ m0 1 1 → vi_ m1 21 i = vi_ m0 2 (16 + i)) → (∀ j o n, 0 ≤ j → j < vi_ m0 1 1 → 0 ≤ o → o < vi_ m0 1 1 → 1 ≤ n → n ≤ vi_ m0 1 1 → vi_ m1 23 (((j * 5) + o) * 5 + n - 1) = cA_ m0 a j o n) → (fx_ (okf_ m0 a) (wR_ m0) k vv) → (0 ≤ ll ∧ ll ≤ 9 ∧ vv = ll) → pw_V q (d + 59) iX8_fewest.2.2.2.1 tX8_fewest Q (43, [some (.ref 0), some (.int (ei_ (a))), some (.int (ei_ (ll))), some (.int (ei_ (x10))), some (.int (ei_ (k)))], [], m1) := by
          intro n13
          induction n13 using Nat.strongRecOn with
          | _ n13 ih14 =>
            intro ll k m1 vv hm_n13 hk hs h18 hW hCO hTB hX hbb
            have ct_ := tt_b p0 (by omega)
            have ck_ := co_e p0 p1 (by omega) (n := a) (c := k) (by omega)
            refine pw_steps 2 (s' := (46, [some (.ref 0), some (.int (ei_ (a))), some (.int (ei_ (ll))), some (.int (ei_ (x10))), some (.int (ei_ (k)))], [.int (ei_ (x10)), .int (ei_ (k))], m1)) rfl ?_
            refine pw_cmp rfl (by omega) (by omega) (fun (h16 : x10 ≤ k) => ?_) (fun (h16 : ¬ (x10 ≤ k)) => ?_)
            · refine pw_steps 2 (s' := (106, [some (.ref 0), some (.int (ei_ (a))), some (.int (ei_ (ll))), some (.int (ei_ (x10))), some (.int (ei_ (k)))], [.int (ei_ (8)), .int (ei_ (ll))], m1)) rfl ?_
              refine pw_cmp rfl (by omega) (by decide) (fun (h17 : ll ≤ 8) => ?_) (fun (h17 : ¬ (ll ≤ 8)) => ?_)
              · refine pw_steps 1 (s' := (115, [some (.ref 0), some (.int (ei_ (a))), some (.int (ei_ (ll))), some (.int (ei_ (x10))), some (.int (ei_ (k)))], [.int (ei_ (ll))], m1)) rfl ?_
                refine pw_iret rfl rfl rfl ?_
                exact k0 ll m1 (by refine Or.inr (Or.inr ⟨by omega, by omega, vv, (by rw [← show k = tt_ m0 by omega]; exact hX), ?_⟩); first | (rw [if_pos (by omega)]; done) | (rw [if_neg (by omega)]; omega) | (rw [if_pos (by omega)]; omega) | (rcases hb with hb | hb; (rw [if_pos (by omega)]; omega); (rw [if_neg (by omega)]; omega))) (hs)
              · refine pw_steps 2 (s' := (115, [some (.ref 0), some (.int (ei_ (a))), some (.int (ei_ (ll))), some (.int (ei_ (x10))), some (.int (ei_ (k)))], [.int (ei_ ((-2)))], m1)) rfl ?_
                refine pw_iret rfl rfl rfl ?_
                exact k0 (-2) m1 (by refine Or.inr (Or.inr ⟨by omega, by omega, vv, (by rw [← show k = tt_ m0 by omega]; exact hX), ?_⟩); first | (rw [if_pos (by omega)]; done) | (rw [if_neg (by omega)]; omega) | (rw [if_pos (by omega)]; omega) | (rcases hb with hb | hb; (rw [if_pos (by omega)]; omega); (rw [if_neg (by omega)]; omega))) (hs)
            · refine pw_steps 2 (s' := (53, [some (.ref 0), some (.int (ei_ (a))), some (.int (ei_ (ll))), some (.int (ei_ (x10))), some (.int (ei_ (k)))], [.ref 18], m1)) rfl ?_
              refine pw_call (As := []) (st := []) (k := 18) rfl rfl rfl rfl rfl (Nat.le_of_ble_eq_true rfl) ?_
              refine cw_wears (P := (vi_ m0 1 1)) (k := k) (hW) (⟨by omega, by omega⟩) (fun x18 g19 g20 => ?_)
              have hwr21 : x18 = wR_ m0 k := g19
              refine pw_steps 1 (s' := (57, [some (.ref 0), some (.int (ei_ (a))), some (.int (ei_ (ll))), some (.int (ei_ (x10))), some (.int (ei_ (k)))], [.int (ei_ (ll)), .int (ei_ (x18))], m1)) rfl ?_
              refine pw_cmp rfl (by omega) (by omega) (fun (h22 : ll ≤ x18) => ?_) (fun (h22 : ¬ (ll ≤ x18)) => ?_)
              · refine pw_steps 2 (s' := (94, [some (.ref 0), some (.int (ei_ (a))), some (.int (ei_ (ll))), some (.int (ei_ (x10))), some (.int (ei_ (k)))], [.ref 18], m1)) rfl ?_
                refine pw_call (As := []) (st := []) (k := 18) rfl rfl rfl rfl rfl (Nat.le_of_ble_eq_true rfl) ?_
                refine cw_goOn (P := (vi_ m0 1 1)) (k := k) (hW) (⟨by omega, by omega⟩) (fun m123 g24 g25 => ?_)
                refine pw_steps 2 (s' := (43, [some (.ref 0), some (.int (ei_ (a))), some (.int (ei_ (ll))), some (.int (ei_ (x10))), some (.int ((ei_ (k)) + (ei_ (1))))], [], m123)) rfl ?_
                refine pw_cv (congrArg (fun z_ : Int32 => ((43, [some (.ref 0), some (.int (ei_ (a))), some (.int (ei_ (ll))), some (.int (ei_ (x10))), some (.int z_)], [], m123) : am_S)) (ei_add rfl rfl)) ?_
                exact ih14 _ (by omega) ll (k + 1) m123 vv rfl (by omega) ((sm_tr hs (sm_le g24 pWn_Sc))) (by exact g25.1) (by exact g25) (by intro i a_ b_; rw [sm_f (P := pOn) (sm_le g24 pWn_On) (k := 21) (fun _ => rfl)]; exact hCO i a_ b_) (by intro j o n a1_ a2_ a3_ a4_ a5_ a6_; rw [sm_f (P := pOn) (sm_le g24 pWn_On) (k := 23) (fun _ => rfl)]; exact hTB j o n a1_ a2_ a3_ a4_ a5_ a6_) (by exact fx_n hX (by first | exact Or.inr (by omega) | exact Or.inl (fun h_ => by have t_ := h_.2; omega))) (by omega)
              · refine pw_steps 2 (s' := (64, [some (.ref 0), some (.int (ei_ (a))), some (.int (ei_ (ll))), some (.int (ei_ (x10))), some (.int (ei_ (k)))], [.ref 18], m1)) rfl ?_
                refine pw_call (As := []) (st := []) (k := 18) rfl rfl rfl rfl rfl (Nat.le_of_ble_eq_true rfl) ?_
                refine cw_fits (P := (vi_ m0 1 1)) (k := k) (g := (fun i => vi_ m0 2 (16 + i))) (hW) (⟨by omega, by omega⟩) (hCO) (fun g26 => ?_) (fun g27 => ?_)
                · refine pw_ifF rfl (by decide) (show ¬ (1 = 0) by decide) ?_
                  refine pw_steps 2 (s' := (74, [some (.ref 0), some (.int (ei_ (a))), some (.int (ei_ (ll))), some (.int (ei_ (x10))), some (.int (ei_ (k)))], [.ref 18], m1)) rfl ?_
                  refine pw_call (As := []) (st := []) (k := 18) rfl rfl rfl rfl rfl (Nat.le_of_ble_eq_true rfl) ?_
                  refine cw_cost (P := (vi_ m0 1 1)) (k := k) (ct := (cA_ m0 a)) (hW) (⟨by omega, by omega⟩) (hTB) (cA_b p0 p1 (by omega)) (fun x28 g29 g30 => ?_)
                  have hco_ : x28 = co_ m0 a k := g29
                  refine pw_steps 1 (s' := (79, [some (.ref 0), some (.int (ei_ (a))), some (.int (ei_ (ll))), some (.int (ei_ (x10))), some (.int (ei_ (k)))], [.int (ei_ (100000)), .int (ei_ (x28))], m1)) rfl ?_
                  refine pw_cmp rfl (by omega) (by decide) (fun (h31 : 100000 ≤ x28) => ?_) (fun (h31 : ¬ (100000 ≤ x28)) => ?_)
                  · refine pw_steps 2 (s' := (94, [some (.ref 0), some (.int (ei_ (a))), some (.int (ei_ (ll))), some (.int (ei_ (x10))), some (.int (ei_ (k)))], [.ref 18], m1)) rfl ?_
                    refine pw_call (As := []) (st := []) (k := 18) rfl rfl rfl rfl rfl (Nat.le_of_ble_eq_true rfl) ?_
                    refine cw_goOn (P := (vi_ m0 1 1)) (k := k) (hW) (⟨by omega, by omega⟩) (fun m132 g33 g34 => ?_)
                    refine pw_steps 2 (s' := (43, [some (.ref 0), some (.int (ei_ (a))), some (.int (ei_ (ll))), some (.int (ei_ (x10))), some (.int ((ei_ (k)) + (ei_ (1))))], [], m132)) rfl ?_
                    refine pw_cv (congrArg (fun z_ : Int32 => ((43, [some (.ref 0), some (.int (ei_ (a))), some (.int (ei_ (ll))), some (.int (ei_ (x10))), some (.int z_)], [], m132) : am_S)) (ei_add rfl rfl)) ?_
                    exact ih14 _ (by omega) ll (k + 1) m132 vv rfl (by omega) ((sm_tr hs (sm_le g33 pWn_Sc))) (by exact g34.1) (by exact g34) (by intro i a_ b_; rw [sm_f (P := pOn) (sm_le g33 pWn_On) (k := 21) (fun _ => rfl)]; exact hCO i a_ b_) (by intro j o n a1_ a2_ a3_ a4_ a5_ a6_; rw [sm_f (P := pOn) (sm_le g33 pWn_On) (k := 23) (fun _ => rfl)]; exact hTB j o n a1_ a2_ a3_ a4_ a5_ a6_) (by exact fx_n hX (by first | exact Or.inr (by omega) | exact Or.inl (fun h_ => by have t_ := h_.2; omega))) (by omega)
                  · refine pw_steps 2 (s' := (86, [some (.ref 0), some (.int (ei_ (a))), some (.int (ei_ (ll))), some (.int (ei_ (x10))), some (.int (ei_ (k)))], [.ref 18], m1)) rfl ?_
                    refine pw_call (As := []) (st := []) (k := 18) rfl rfl rfl rfl rfl (Nat.le_of_ble_eq_true rfl) ?_
                    refine cw_wears (P := (vi_ m0 1 1)) (k := k) (hW) (⟨by omega, by omega⟩) (fun x35 g36 g37 => ?_)
                    have hwr38 : x35 = wR_ m0 k := g36
                    refine pw_steps 3 (s' := (94, [some (.ref 0), some (.int (ei_ (a))), some (.int (ei_ (x35))), some (.int (ei_ (x10))), some (.int (ei_ (k)))], [.ref 18], m1)) rfl ?_
                    refine pw_call (As := []) (st := []) (k := 18) rfl rfl rfl rfl rfl (Nat.le_of_ble_eq_true rfl) ?_
                    refine cw_goOn (P := (vi_ m0 1 1)) (k := k) (hW) (⟨by omega, by omega⟩) (fun m139 g40 g41 => ?_)
                    refine pw_steps 2 (s' := (43, [some (.ref 0), some (.int (ei_ (a))), some (.int (ei_ (x35))), some (.int (ei_ (x10))), some (.int ((ei_ (k)) + (ei_ (1))))], [], m139)) rfl ?_
                    refine pw_cv (congrArg (fun z_ : Int32 => ((43, [some (.ref 0), some (.int (ei_ (a))), some (.int (ei_ (x35))), some (.int (ei_ (x10))), some (.int z_)], [], m139) : am_S)) (ei_add rfl rfl)) ?_
                    exact ih14 _ (by omega) x35 (k + 1) m139 (wR_ m0 k) rfl (by omega) ((sm_tr hs (sm_le g40 pWn_Sc))) (by exact g41.1) (by exact g41) (by intro i a_ b_; rw [sm_f (P := pOn) (sm_le g40 pWn_On) (k := 21) (fun _ => rfl)]; exact hCO i a_ b_) (by intro j o n a1_ a2_ a3_ a4_ a5_ a6_; rw [sm_f (P := pOn) (sm_le g40 pWn_On) (k := 23) (fun _ => rfl)]; exact hTB j o n a1_ a2_ a3_ a4_ a5_ a6_) (by exact fx_y (by omega) hX ⟨g26, by omega⟩ (by omega)) (by omega)
                · refine pw_ifT rfl (by decide) (show 0 = 0 by decide) ?_
                  refine pw_steps 2 (s' := (94, [some (.ref 0), some (.int (ei_ (a))), some (.int (ei_ (ll))), some (.int (ei_ (x10))), some (.int (ei_ (k)))], [.ref 18], m1)) rfl ?_
                  refine pw_call (As := []) (st := []) (k := 18) rfl rfl rfl rfl rfl (Nat.le_of_ble_eq_true rfl) ?_
                  refine cw_goOn (P := (vi_ m0 1 1)) (k := k) (hW) (⟨by omega, by omega⟩) (fun m142 g43 g44 => ?_)
                  refine pw_steps 2 (s' := (43, [some (.ref 0), some (.int (ei_ (a))), some (.int (ei_ (ll))), some (.int (ei_ (x10))), some (.int ((ei_ (k)) + (ei_ (1))))], [], m142)) rfl ?_
                  refine pw_cv (congrArg (fun z_ : Int32 => ((43, [some (.ref 0), some (.int (ei_ (a))), some (.int (ei_ (ll))), some (.int (ei_ (x10))), some (.int z_)], [], m142) : am_S)) (ei_add rfl rfl)) ?_
                  exact ih14 _ (by omega) ll (k + 1) m142 vv rfl (by omega) ((sm_tr hs (sm_le g43 pWn_Sc))) (by exact g44.1) (by exact g44) (by intro i a_ b_; rw [sm_f (P := pOn) (sm_le g43 pWn_On) (k := 21) (fun _ => rfl)]; exact hCO i a_ b_) (by intro j o n a1_ a2_ a3_ a4_ a5_ a6_; rw [sm_f (P := pOn) (sm_le g43 pWn_On) (k := 23) (fun _ => rfl)]; exact hTB j o n a1_ a2_ a3_ a4_ a5_ a6_) (by exact fx_n hX (Or.inl (fun h_ => g27 h_.1))) (by omega)
        exact L15 _ 9 0 m15 9 rfl (by have t_ := tt_b p0 (by omega); omega) (g6) (by exact h18b_) (by exact g7) (by exact g8) (by exact g9) (by exact fx_0) (by omega)
      · refine pw_steps 1 (s' := (22, [some (.ref 0), some (.int (ei_ (a))), none, none, none], [.int (ei_ ((-5)))], m)) rfl ?_
        refine pw_iret rfl rfl rfl ?_
        exact k0 (-5) m (by exact Or.inr (Or.inl ⟨by omega, by omega, rfl⟩)) (p4)

set_option maxHeartbeats 4000000 in
set_option maxRecDepth 20000 in
theorem ms_fewest {q : am_X} {d : Nat} {m : am_M} {Q : Option Value → am_M → Prop} {m0 : am_M} {a : Int}  (p0 : rP_ m0) (p1 : rD_ m0) (p2 : rZ_ m0) (p3 : rL_ m0) (p4 : sm_ pSc m0 m) (p5 : -2147483648 ≤ a ∧ a < 2147483648) (k0 : ∀ (x : Int) (m1 : am_M), (sfw_ m0 a x) → (sm_ pSc m0 m1) → Q (some (.int (ei_ (x)))) m1) : pw_C q (d + 60) 222 [.ref 47, .int (ei_ (a))] m Q := by
  obtain ⟨hP1, hP2, hP3, hP4⟩ := id p0
  have hmw := mW_of p0 p1
  have hmf := mF_of p0 p1
  refine pw_intro (I := iX9_fewest) (T := tX9_fewest) rfl rfl rfl ?_
  refine pw_steps 1 (s' := (1, [some (.ref 47), some (.int (ei_ (a))), none, none, none, none], [.int (ei_ (a))], m)) rfl ?_
  refine pw_callS (As := [.int (ei_ (a))]) (st := []) rfl (by decide) rfl rfl (Nat.le_of_ble_eq_true rfl) ?_
  refine pw_intro (I := iX9_isN) (T := tX9_isN) rfl rfl rfl ?_
  refine pw_steps 4 (s' := (6, [some (.int (ei_ (a)))], [.long (el_ (99)), .long (el_ (0)), .long ((ei_ (a)).toInt64)], m)) rfl ?_
  refine pw_cv (congrArg (fun z_ : Int64 => ((6, [some (.int (ei_ (a)))], [.long (el_ (99)), .long (el_ (0)), .long z_], m) : am_S)) (el_i2l p5 rfl)) ?_
  refine pw_callS (As := [.long (el_ (a)), .long (el_ (0)), .long (el_ (99))]) (st := []) rfl (by decide) rfl rfl (Nat.le_of_ble_eq_true rfl) ?_
  refine mt_within (by omega) (by omega) (by omega) (fun g1 g2 => ?_) (fun g3 => ?_) (fun g4 => ?_)
  · refine pw_iret rfl rfl rfl ?_
    refine pw_ifT rfl (by decide) (show ¬ 1 = 0 by decide) ?_
    refine pw_steps 1 (s' := (10, [some (.ref 47), some (.int (ei_ (a))), none, none, none, none], [.ref 47], m)) rfl ?_
    refine pw_get rfl rfl (fun x5 (hx5 : x5 = vi_ m 47 6) rx5 sx5 => ?_)
    have ox5 := hx5
    replace hx5 : x5 = vi_ m0 47 6 := hx5.trans (sm_v p4 rfl)
    replace hx5 : x5 = vi_ m0 1 1 := hx5.trans hP2
    refine pw_steps 1 (s' := (14, [some (.ref 47), some (.int (ei_ (a))), none, none, none, none], [.int (ei_ (5)), .int (ei_ (x5))], m)) rfl ?_
    refine pw_cmp rfl ⟨rx5, sx5⟩ (by decide) (fun (h6 : x5 ≤ 5) => ?_) (fun (h6 : ¬ (x5 ≤ 5)) => ?_)
    · refine pw_steps 1 (s' := (21, [some (.ref 47), some (.int (ei_ (a))), none, none, none, none], [.ref 47], m)) rfl ?_
      refine pw_call (As := []) (st := []) (k := 47) rfl rfl rfl rfl rfl (Nat.le_of_ble_eq_true rfl) ?_
      refine mw_begw (P := (vi_ m0 1 1)) (((sm_v p4 rfl).trans hP2)) (⟨by omega, by omega⟩) (fun m17 g8 g9 g10 g11 => ?_)
      have htt_ : vi_ m17 47 23 = tt_ m0 := g10
      refine pw_steps 4 (s' := (29, [some (.ref 47), some (.int (ei_ (a))), some (.int (ei_ ((-2)))), some (.int (ei_ (0))), none, none], [], m17)) rfl ?_
      have L16 : ∀ (n14 : Nat) (be : Int) (k : Int) (u12 : Option Value) (u13 : Option Value) (m1 : am_M) (vv : Int), (tt_ m0 - k).toNat = n14 → (0 ≤ k ∧ k ≤ tt_ m0) → (sm_ pSw m0 m1) → (vi_ m1 47 23 = tt_ m0) → (∀ j, 0 ≤ j → j < vi_ m0 1 1 → vi_ m1 58 j = vi_ m0 52 j) → (∀ j, vi_ m0 1 1 ≤ j → vi_ m1 52 j = vi_ m0 52 j) → (fx_ (okf_ m0 a) (wR_ m0) k vv) → ((vv = 9 ∧ be = -2) ∨ (0 ≤ vv ∧ vv ≤ 8 ∧ be = vv)) → (-2 ≤ be ∧ be ≤ 8) → pw_V q (d + 59) iX9_fewest.2.2.2.1 tX9_fewest Q (29, [some (.ref 47), some (.int (ei_ (a))), some (.int (ei_ (be))), some (.int (ei_ (k))), u12, u13], [], m1) := by
        intro n14
        induction n14 using Nat.strongRecOn with
        | _ n14 ih15 =>
          intro be k u12 u13 m1 vv hm_n14 hk hs h23 h58 hN hX hb hbb
          have ct_ := tt_b p0 (by omega)
          have ck_ := co_e p0 p1 (by omega) (n := a) (c := k) (by omega)
          refine pw_steps 2 (s' := (31, [some (.ref 47), some (.int (ei_ (a))), some (.int (ei_ (be))), some (.int (ei_ (k))), u12, u13], [.ref 47, .int (ei_ (k))], m1)) rfl ?_
          refine pw_get rfl rfl (fun x17 (hx17 : x17 = vi_ m1 47 23) rx17 sx17 => ?_)
          replace hx17 : x17 = tt_ m0 := hx17.trans h23
          subst x17
          refine pw_cmp rfl (by omega) ⟨rx17, sx17⟩ (fun (h18 : tt_ m0 ≤ k) => ?_) (fun (h18 : ¬ (tt_ m0 ≤ k)) => ?_)
          · refine pw_steps 1 (s' := (121, [some (.ref 47), some (.int (ei_ (a))), some (.int (ei_ (be))), some (.int (ei_ (k))), u12, u13], [.ref 47], m1)) rfl ?_
            refine pw_call (As := []) (st := []) (k := 47) rfl rfl rfl rfl rfl (Nat.le_of_ble_eq_true rfl) ?_
            refine mw_ends (P := (vi_ m0 1 1)) (((sm_v hs rfl).trans hP2)) (⟨by omega, by omega⟩) (fun m119 g20 g21 g22 => ?_)
            refine pw_steps 1 (s' := (125, [some (.ref 47), some (.int (ei_ (a))), some (.int (ei_ (be))), some (.int (ei_ (k))), u12, u13], [.int (ei_ (be))], m119)) rfl ?_
            refine pw_iret rfl rfl rfl ?_
            exact k0 be m119 (by refine Or.inr (Or.inr ⟨by omega, by omega, vv, (by rw [← show k = tt_ m0 by omega]; exact hX), ?_⟩); first | (rw [if_pos (by omega)]; done) | (rw [if_neg (by omega)]; omega) | (rw [if_pos (by omega)]; omega) | (rcases hb with hb | hb; (rw [if_pos (by omega)]; omega); (rw [if_neg (by omega)]; omega))) (by exact sm_52 (sm_tr hs (sm_le g20 pC52_Sw)) (fun j a_ => by by_cases c_ : j < vi_ m0 1 1; (rw [g21 j a_ c_]; exact h58 j a_ c_); (rw [g22 j (by omega)]; exact hN j (by omega))))
          · refine pw_steps 2 (s' := (39, [some (.ref 47), some (.int (ei_ (a))), some (.int (ei_ (be))), some (.int (ei_ (k))), u12, u13], [.int (ei_ (k)), .ref 47], m1)) rfl ?_
            refine pw_call (As := [.int (ei_ (k))]) (st := []) (k := 47) rfl rfl rfl rfl rfl (Nat.le_of_ble_eq_true rfl) ?_
            refine mw_isWay (P := (vi_ m0 1 1)) (g := (fun i => vi_ m0 2 (16 + i))) (((sm_v hs rfl).trans hP2)) (⟨by omega, by omega⟩) (by omega) (fun i a_ b_ => by rw [sm_f hs (k := 48) (fun _ => rfl)]; exact (hP3 (16 + i) (by omega) (by omega)).2.2) (fun m123 g24 g25 g26 g27 => ?_) (fun m128 g29 g30 g31 g32 => ?_)
            · have hsw_ : sm_ pSw m0 m123 := (sm_tr hs (sm_le g24 pC52_Sw))
              have e11_ : vi_ m123 1 1 = vi_ m0 1 1 := sm_v hsw_ (k := 1) (j := 1) rfl
              refine pw_ifF rfl (by decide) (show ¬ (1 = 0) by decide) ?_
              refine pw_steps 4 (s' := (51, [some (.ref 47), some (.int (ei_ (a))), some (.int (ei_ (be))), some (.int (ei_ (k))), some (.int (ei_ (0))), some (.int (ei_ (0)))], [], m123)) rfl ?_
              have L35 : ∀ (n33 : Nat) (wh : Int) (pp : Int), (vi_ m0 1 1 - pp).toNat = n33 → (0 ≤ pp ∧ pp ≤ vi_ m0 1 1 ∧ 0 ≤ wh ∧ wh ≤ pp) → (wh = su_ (fun i => if 0 < cn_ (wy_ (vi_ m0 1 1) k) i (vi_ m0 1 1).toNat then 1 else 0) pp.toNat) → pw_V q (d + 59) iX9_fewest.2.2.2.1 tX9_fewest Q (51, [some (.ref 47), some (.int (ei_ (a))), some (.int (ei_ (be))), some (.int (ei_ (k))), some (.int (ei_ (wh))), some (.int (ei_ (pp)))], [], m123) := by
                intro n33
                induction n33 using Nat.strongRecOn with
                | _ n33 ih34 =>
                  intro wh pp hm_n33 hpp hv
                  refine pw_steps 2 (s' := (54, [some (.ref 47), some (.int (ei_ (a))), some (.int (ei_ (be))), some (.int (ei_ (k))), some (.int (ei_ (wh))), some (.int (ei_ (pp)))], [.ref 47, .int (ei_ (pp))], m123)) rfl ?_
                  refine pw_get rfl rfl (fun x36 (hx36 : x36 = vi_ m123 47 6) rx36 sx36 => ?_)
                  have ox36 := hx36
                  replace hx36 : x36 = vi_ m1 47 6 := hx36.trans (sm_v g24 rfl)
                  replace hx36 : x36 = vi_ m0 47 6 := hx36.trans (sm_v hs rfl)
                  replace hx36 : x36 = vi_ m0 1 1 := hx36.trans hP2
                  refine pw_cmp rfl (by omega) ⟨rx36, sx36⟩ (fun (h37 : x36 ≤ pp) => ?_) (fun (h37 : ¬ (x36 ≤ pp)) => ?_)
                  · have hwR_ : wh = wR_ m0 k := by rw [hv, show pp = vi_ m0 1 1 by omega]; rfl
                    refine pw_steps 1 (s' := (86, [some (.ref 47), some (.int (ei_ (a))), some (.int (ei_ (be))), some (.int (ei_ (k))), some (.int (ei_ (wh))), some (.int (ei_ (pp)))], [.int (ei_ (be))], m123)) rfl ?_
                    refine pw_if rfl (by omega) (fun (h38 : be < 0) => ?_) (fun (h38 : ¬ (be < 0)) => ?_)
                    · refine pw_steps 2 (s' := (97, [some (.ref 47), some (.int (ei_ (a))), some (.int (ei_ (be))), some (.int (ei_ (k))), some (.int (ei_ (wh))), some (.int (ei_ (pp)))], [.int (ei_ (a)), .ref 47], m123)) rfl ?_
                      refine pw_call (As := [.int (ei_ (a))]) (st := []) (k := 47) rfl rfl rfl rfl rfl (Nat.le_of_ble_eq_true rfl) ?_
                      refine md_goes (rP_fr (P := pSw) hsw_ rfl rfl (fun _ => rfl) (fun _ => rfl) p0) (fun j a_ b_ => by rw [e11_] at b_ ⊢; rw [g25 j a_ b_]; exact wy_b ⟨by omega, by omega⟩ _ _) (sm_rfl _) (rL_fr (P := pSw) hsw_ rfl rfl (fun _ => rfl) (fun _ => rfl) p3) (fun j a_ b_ => by rw [sm_f hsw_ (k := 53) (fun _ => rfl)]; exact hmf j a_ (by rw [← e11_]; exact b_)) (by omega) (fun m139 g40 g41 => ?_)
                      have hL_ : ∀ j, 0 ≤ j → j < vi_ m0 1 1 → vi_ m139 57 j = lW_ m0 a k j := fun j a_ b_ => (g41 j a_ (by rw [e11_]; exact b_)).trans (lW_of p0 p1 hsw_ g25 ⟨a_, b_⟩)
                      refine pw_steps 1 (s' := (101, [some (.ref 47), some (.int (ei_ (a))), some (.int (ei_ (be))), some (.int (ei_ (k))), some (.int (ei_ (wh))), some (.int (ei_ (pp)))], [.ref 47], m139)) rfl ?_
                      refine pw_call (As := []) (st := []) (k := 47) rfl rfl rfl rfl rfl (Nat.le_of_ble_eq_true rfl) ?_
                      refine md_burnt (rP_fr (P := pSw) hsw_ rfl rfl (fun _ => rfl) (fun _ => rfl) p0) (sm_le g40 pGo_Sc) (fun x42 g43 g44 => ?_)
                      have hq45 : x42 = wB_ m0 a k := g43.trans (by rw [e11_]; exact cn_cg _ (fun j a_ b_ => by rw [hL_ j a_ (by omega)]))
                      refine pw_if rfl (by omega) (fun (h46 : ¬ x42 = 0) => ?_) (fun (h46 : ¬ ¬ x42 = 0) => ?_)
                      · refine pw_steps 4 (s' := (29, [some (.ref 47), some (.int (ei_ (a))), some (.int (ei_ (be))), some (.int ((ei_ (k)) + (ei_ (1)))), some (.int (ei_ (wh))), some (.int (ei_ (pp)))], [], m139)) rfl ?_
                        refine pw_cv (congrArg (fun z_ : Int32 => ((29, [some (.ref 47), some (.int (ei_ (a))), some (.int (ei_ (be))), some (.int z_), some (.int (ei_ (wh))), some (.int (ei_ (pp)))], [], m139) : am_S)) (ei_add rfl rfl)) ?_
                        exact ih15 _ (by omega) be (k + 1) (some (.int (ei_ (wh)))) (some (.int (ei_ (pp)))) m139 vv rfl (by omega) ((sm_tr (sm_tr hs (sm_le g24 pC52_Sw)) (sm_le g40 pGo_Sw))) ((sm_v (P := pN58) (sm_tr (sm_le g24 pC52_N58) (sm_le g40 pGo_N58)) (k := 47) (j := 23) rfl).trans h23) (by intro j a_ b_; rw [sm_f (P := pN58) (sm_tr (sm_le g24 pC52_N58) (sm_le g40 pGo_N58)) (k := 58) (fun _ => rfl)]; exact h58 j a_ b_) (by intro j a_; rw [sm_f (P := pN52) (sm_le g40 pGo_N52) (k := 52) (fun _ => rfl), g26 j a_]; exact hN j a_) (by exact fx_n hX (by first | exact Or.inr (by omega) | exact Or.inl (fun h_ => by have t_ := h_.2; omega))) (by omega) (by omega)
                      · refine pw_steps 5 (s' := (29, [some (.ref 47), some (.int (ei_ (a))), some (.int (ei_ (wh))), some (.int ((ei_ (k)) + (ei_ (1)))), some (.int (ei_ (wh))), some (.int (ei_ (pp)))], [], m139)) rfl ?_
                        refine pw_cv (congrArg (fun z_ : Int32 => ((29, [some (.ref 47), some (.int (ei_ (a))), some (.int (ei_ (wh))), some (.int z_), some (.int (ei_ (wh))), some (.int (ei_ (pp)))], [], m139) : am_S)) (ei_add rfl rfl)) ?_
                        exact ih15 _ (by omega) wh (k + 1) (some (.int (ei_ (wh)))) (some (.int (ei_ (pp)))) m139 (wR_ m0 k) rfl (by omega) ((sm_tr (sm_tr hs (sm_le g24 pC52_Sw)) (sm_le g40 pGo_Sw))) ((sm_v (P := pN58) (sm_tr (sm_le g24 pC52_N58) (sm_le g40 pGo_N58)) (k := 47) (j := 23) rfl).trans h23) (by intro j a_ b_; rw [sm_f (P := pN58) (sm_tr (sm_le g24 pC52_N58) (sm_le g40 pGo_N58)) (k := 58) (fun _ => rfl)]; exact h58 j a_ b_) (by intro j a_; rw [sm_f (P := pN52) (sm_le g40 pGo_N52) (k := 52) (fun _ => rfl), g26 j a_]; exact hN j a_) (by exact fx_y (by omega) hX ⟨g27, by omega⟩ (by omega)) (by omega) (by omega)
                    · refine pw_steps 2 (s' := (92, [some (.ref 47), some (.int (ei_ (a))), some (.int (ei_ (be))), some (.int (ei_ (k))), some (.int (ei_ (wh))), some (.int (ei_ (pp)))], [.int (ei_ (be)), .int (ei_ (wh))], m123)) rfl ?_
                      refine pw_cmp rfl (by omega) (by omega) (fun (h47 : be ≤ wh) => ?_) (fun (h47 : ¬ (be ≤ wh)) => ?_)
                      · refine pw_steps 2 (s' := (29, [some (.ref 47), some (.int (ei_ (a))), some (.int (ei_ (be))), some (.int ((ei_ (k)) + (ei_ (1)))), some (.int (ei_ (wh))), some (.int (ei_ (pp)))], [], m123)) rfl ?_
                        refine pw_cv (congrArg (fun z_ : Int32 => ((29, [some (.ref 47), some (.int (ei_ (a))), some (.int (ei_ (be))), some (.int z_), some (.int (ei_ (wh))), some (.int (ei_ (pp)))], [], m123) : am_S)) (ei_add rfl rfl)) ?_
                        exact ih15 _ (by omega) be (k + 1) (some (.int (ei_ (wh)))) (some (.int (ei_ (pp)))) m123 vv rfl (by omega) ((sm_tr hs (sm_le g24 pC52_Sw))) ((sm_v (P := pN58) (sm_le g24 pC52_N58) (k := 47) (j := 23) rfl).trans h23) (by intro j a_ b_; rw [sm_f (P := pN58) (sm_le g24 pC52_N58) (k := 58) (fun _ => rfl)]; exact h58 j a_ b_) (by intro j a_; rw [sm_f (P := pN52) (sm_rfl m123) (k := 52) (fun _ => rfl), g26 j a_]; exact hN j a_) (by exact fx_n hX (by first | exact Or.inr (by omega) | exact Or.inl (fun h_ => by have t_ := h_.2; omega))) (by omega) (by omega)
                      · refine pw_steps 2 (s' := (97, [some (.ref 47), some (.int (ei_ (a))), some (.int (ei_ (be))), some (.int (ei_ (k))), some (.int (ei_ (wh))), some (.int (ei_ (pp)))], [.int (ei_ (a)), .ref 47], m123)) rfl ?_
                        refine pw_call (As := [.int (ei_ (a))]) (st := []) (k := 47) rfl rfl rfl rfl rfl (Nat.le_of_ble_eq_true rfl) ?_
                        refine md_goes (rP_fr (P := pSw) hsw_ rfl rfl (fun _ => rfl) (fun _ => rfl) p0) (fun j a_ b_ => by rw [e11_] at b_ ⊢; rw [g25 j a_ b_]; exact wy_b ⟨by omega, by omega⟩ _ _) (sm_rfl _) (rL_fr (P := pSw) hsw_ rfl rfl (fun _ => rfl) (fun _ => rfl) p3) (fun j a_ b_ => by rw [sm_f hsw_ (k := 53) (fun _ => rfl)]; exact hmf j a_ (by rw [← e11_]; exact b_)) (by omega) (fun m148 g49 g50 => ?_)
                        have hL_ : ∀ j, 0 ≤ j → j < vi_ m0 1 1 → vi_ m148 57 j = lW_ m0 a k j := fun j a_ b_ => (g50 j a_ (by rw [e11_]; exact b_)).trans (lW_of p0 p1 hsw_ g25 ⟨a_, b_⟩)
                        refine pw_steps 1 (s' := (101, [some (.ref 47), some (.int (ei_ (a))), some (.int (ei_ (be))), some (.int (ei_ (k))), some (.int (ei_ (wh))), some (.int (ei_ (pp)))], [.ref 47], m148)) rfl ?_
                        refine pw_call (As := []) (st := []) (k := 47) rfl rfl rfl rfl rfl (Nat.le_of_ble_eq_true rfl) ?_
                        refine md_burnt (rP_fr (P := pSw) hsw_ rfl rfl (fun _ => rfl) (fun _ => rfl) p0) (sm_le g49 pGo_Sc) (fun x51 g52 g53 => ?_)
                        have hq54 : x51 = wB_ m0 a k := g52.trans (by rw [e11_]; exact cn_cg _ (fun j a_ b_ => by rw [hL_ j a_ (by omega)]))
                        refine pw_if rfl (by omega) (fun (h55 : ¬ x51 = 0) => ?_) (fun (h55 : ¬ ¬ x51 = 0) => ?_)
                        · refine pw_steps 4 (s' := (29, [some (.ref 47), some (.int (ei_ (a))), some (.int (ei_ (be))), some (.int ((ei_ (k)) + (ei_ (1)))), some (.int (ei_ (wh))), some (.int (ei_ (pp)))], [], m148)) rfl ?_
                          refine pw_cv (congrArg (fun z_ : Int32 => ((29, [some (.ref 47), some (.int (ei_ (a))), some (.int (ei_ (be))), some (.int z_), some (.int (ei_ (wh))), some (.int (ei_ (pp)))], [], m148) : am_S)) (ei_add rfl rfl)) ?_
                          exact ih15 _ (by omega) be (k + 1) (some (.int (ei_ (wh)))) (some (.int (ei_ (pp)))) m148 vv rfl (by omega) ((sm_tr (sm_tr hs (sm_le g24 pC52_Sw)) (sm_le g49 pGo_Sw))) ((sm_v (P := pN58) (sm_tr (sm_le g24 pC52_N58) (sm_le g49 pGo_N58)) (k := 47) (j := 23) rfl).trans h23) (by intro j a_ b_; rw [sm_f (P := pN58) (sm_tr (sm_le g24 pC52_N58) (sm_le g49 pGo_N58)) (k := 58) (fun _ => rfl)]; exact h58 j a_ b_) (by intro j a_; rw [sm_f (P := pN52) (sm_le g49 pGo_N52) (k := 52) (fun _ => rfl), g26 j a_]; exact hN j a_) (by exact fx_n hX (by first | exact Or.inr (by omega) | exact Or.inl (fun h_ => by have t_ := h_.2; omega))) (by omega) (by omega)
                        · refine pw_steps 5 (s' := (29, [some (.ref 47), some (.int (ei_ (a))), some (.int (ei_ (wh))), some (.int ((ei_ (k)) + (ei_ (1)))), some (.int (ei_ (wh))), some (.int (ei_ (pp)))], [], m148)) rfl ?_
                          refine pw_cv (congrArg (fun z_ : Int32 => ((29, [some (.ref 47), some (.int (ei_ (a))), some (.int (ei_ (wh))), some (.int z_), some (.int (ei_ (wh))), some (.int (ei_ (pp)))], [], m148) : am_S)) (ei_add rfl rfl)) ?_
                          exact ih15 _ (by omega) wh (k + 1) (some (.int (ei_ (wh)))) (some (.int (ei_ (pp)))) m148 (wR_ m0 k) rfl (by omega) ((sm_tr (sm_tr hs (sm_le g24 pC52_Sw)) (sm_le g49 pGo_Sw))) ((sm_v (P := pN58) (sm_tr (sm_le g24 pC52_N58) (sm_le g49 pGo_N58)) (k := 47) (j := 23) rfl).trans h23) (by intro j a_ b_; rw [sm_f (P := pN58) (sm_tr (sm_le g24 pC52_N58) (sm_le g49 pGo_N58)) (k := 58) (fun _ => rfl)]; exact h58 j a_ b_) (by intro j a_; rw [sm_f (P := pN52) (sm_le g49 pGo_N52) (k := 52) (fun _ => rfl), g26 j a_]; exact hN j a_) (by exact fx_y (by omega) hX ⟨g27, by omega⟩ (by omega)) (by omega) (by omega)
                  · refine pw_steps 3 (s' := (65, [some (.ref 47), some (.int (ei_ (a))), some (.int (ei_ (be))), some (.int (ei_ (k))), some (.int (ei_ (wh))), some (.int (ei_ (pp)))], [.int (ei_ (pp)), .ref 47, .int (ei_ (wh))], m123)) rfl ?_
                    refine pw_call (As := [.int (ei_ (pp))]) (st := [.int (ei_ (wh))]) (k := 47) rfl rfl rfl rfl rfl (Nat.le_of_ble_eq_true rfl) ?_
                    refine mw_many2 (P := (vi_ m0 1 1)) (((sm_v g24 rfl).trans ((sm_v hs rfl).trans hP2))) (⟨by omega, by omega⟩) (by omega) (fun x56 g57 g58 => ?_)
                    have hm259 : x56 = cn_ (wy_ (vi_ m0 1 1) k) pp (vi_ m0 1 1).toNat := g57.trans (cn_cg _ (fun j a_ b_ => by rw [g25 j a_ (by omega)]))
                    refine pw_if rfl (by omega) (fun (h60 : x56 ≤ 0) => ?_) (fun (h60 : ¬ (x56 ≤ 0)) => ?_)
                    · refine pw_steps 5 (s' := (51, [some (.ref 47), some (.int (ei_ (a))), some (.int (ei_ (be))), some (.int (ei_ (k))), some (.int ((ei_ (wh)) + (ei_ (0)))), some (.int ((ei_ (pp)) + (ei_ (1))))], [], m123)) rfl ?_
                      refine pw_cv (congrArg (fun z_ : Int32 => ((51, [some (.ref 47), some (.int (ei_ (a))), some (.int (ei_ (be))), some (.int (ei_ (k))), some (.int z_), some (.int ((ei_ (pp)) + (ei_ (1))))], [], m123) : am_S)) (ei_add rfl rfl)) ?_
                      refine pw_cv (congrArg (fun z_ : Int32 => ((51, [some (.ref 47), some (.int (ei_ (a))), some (.int (ei_ (be))), some (.int (ei_ (k))), some (.int (ei_ ((wh + 0)))), some (.int z_)], [], m123) : am_S)) (ei_add rfl rfl)) ?_
                      exact ih34 _ (by omega) (wh + 0) (pp + 1) rfl (by omega) (by rw [su_s (by omega), ← hv]; first | (rw [if_pos (by omega)]; done) | (rw [if_neg (by omega)]; done))
                    · refine pw_steps 6 (s' := (51, [some (.ref 47), some (.int (ei_ (a))), some (.int (ei_ (be))), some (.int (ei_ (k))), some (.int ((ei_ (wh)) + (ei_ (1)))), some (.int ((ei_ (pp)) + (ei_ (1))))], [], m123)) rfl ?_
                      refine pw_cv (congrArg (fun z_ : Int32 => ((51, [some (.ref 47), some (.int (ei_ (a))), some (.int (ei_ (be))), some (.int (ei_ (k))), some (.int z_), some (.int ((ei_ (pp)) + (ei_ (1))))], [], m123) : am_S)) (ei_add rfl rfl)) ?_
                      refine pw_cv (congrArg (fun z_ : Int32 => ((51, [some (.ref 47), some (.int (ei_ (a))), some (.int (ei_ (be))), some (.int (ei_ (k))), some (.int (ei_ ((wh + 1)))), some (.int z_)], [], m123) : am_S)) (ei_add rfl rfl)) ?_
                      exact ih34 _ (by omega) (wh + 1) (pp + 1) rfl (by omega) (by rw [su_s (by omega), ← hv]; first | (rw [if_pos (by omega)]; done) | (rw [if_neg (by omega)]; done))
              exact L35 _ 0 0 rfl (by omega) (by rfl)
            · have hsw_ : sm_ pSw m0 m128 := (sm_tr hs (sm_le g29 pC52_Sw))
              have e11_ : vi_ m128 1 1 = vi_ m0 1 1 := sm_v hsw_ (k := 1) (j := 1) rfl
              refine pw_ifT rfl (by decide) (show 0 = 0 by decide) ?_
              refine pw_steps 2 (s' := (29, [some (.ref 47), some (.int (ei_ (a))), some (.int (ei_ (be))), some (.int ((ei_ (k)) + (ei_ (1)))), u12, u13], [], m128)) rfl ?_
              refine pw_cv (congrArg (fun z_ : Int32 => ((29, [some (.ref 47), some (.int (ei_ (a))), some (.int (ei_ (be))), some (.int z_), u12, u13], [], m128) : am_S)) (ei_add rfl rfl)) ?_
              exact ih15 _ (by omega) be (k + 1) u12 u13 m128 vv rfl (by omega) ((sm_tr hs (sm_le g29 pC52_Sw))) ((sm_v (P := pN58) (sm_le g29 pC52_N58) (k := 47) (j := 23) rfl).trans h23) (by intro j a_ b_; rw [sm_f (P := pN58) (sm_le g29 pC52_N58) (k := 58) (fun _ => rfl)]; exact h58 j a_ b_) (by intro j a_; rw [sm_f (P := pN52) (sm_rfl m128) (k := 52) (fun _ => rfl), g31 j a_]; exact hN j a_) (by exact fx_n hX (Or.inl (fun h_ => g32 h_.1))) (by omega) (by omega)
      exact L16 _ (-2) 0 none none m17 9 rfl (by have t_ := tt_b p0 (by omega); omega) ((sm_tr (sm_le p4 pSc_Sw) (sm_le g8 pBw_Sw))) (by exact htt_) (by intro j a_ b_; rw [g11 j a_ b_]; exact sm_v p4 (k := 52) (j := j) rfl) (by intro j _; exact (sm_v g8 (k := 52) (j := j) rfl).trans (sm_v p4 (k := 52) (j := j) rfl)) (by exact fx_0) (by omega) (by omega)
    · refine pw_steps 1 (s' := (19, [some (.ref 47), some (.int (ei_ (a))), none, none, none, none], [.int (ei_ ((-5)))], m)) rfl ?_
      refine pw_iret rfl rfl rfl ?_
      exact k0 (-5) m (by exact Or.inr (Or.inl ⟨by omega, by omega, rfl⟩)) (p4)
  · refine pw_iret rfl rfl rfl ?_
    refine pw_ifF rfl (by decide) (show ¬ (¬ 0 = 0) by decide) ?_
    refine pw_steps 1 (s' := (8, [some (.ref 47), some (.int (ei_ (a))), none, none, none, none], [.int (ei_ ((-1)))], m)) rfl ?_
    refine pw_iret rfl rfl rfl ?_
    exact k0 (-1) m (by exact Or.inl ⟨by omega, rfl⟩) (p4)
  · refine pw_iret rfl rfl rfl ?_
    refine pw_ifF rfl (by decide) (show ¬ (¬ 0 = 0) by decide) ?_
    refine pw_steps 1 (s' := (8, [some (.ref 47), some (.int (ei_ (a))), none, none, none, none], [.int (ei_ ((-1)))], m)) rfl ?_
    refine pw_iret rfl rfl rfl ?_
    exact k0 (-1) m (by exact Or.inl ⟨by omega, rfl⟩) (p4)

theorem op_fewest {q : am_X} {d : Nat} {m : am_M} {a : Int} (q0 : -2147483648 ≤ a ∧ a < 2147483648) (hR : rR_ m) : pw_C q (d + 60) 83 [.ref 0, .int (ei_ a)] m (fun r1 m1 => pw_C q (d + 60) 222 [.ref 47, .int (ei_ a)] m1 (fun r2 m2 => ∃ x : Int, r1 = some (.int (ei_ x)) ∧ r2 = some (.int (ei_ x)) ∧ rR_ m2)) := by
  obtain ⟨hp, hd, hi, ht, hl, hz, hc, ha, hs⟩ := id hR
  refine cs_fewest hp hd hz hl (sm_rfl m) q0 (fun x m1 e1 g1 => ?_)
  refine ms_fewest hp hd hz hl g1 q0 (fun y m2 e2 g2 => ?_)
  exact ⟨x, rfl, by rw [sfw_u e1 e2], rR_sm g2 hR⟩

