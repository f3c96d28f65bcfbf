/-! ===== CLASS: Law ===== -/
def pPi (k _j : Nat) : Bool := k == 16
theorem pPi_Lw : ∀ k j, pLw k j = false → pPi k j = false := by
  intro k j h
  simp only [pPi, pLw, Bool.or_eq_false_iff] at h ⊢
  exact h.1

set_option maxHeartbeats 4000000 in
set_option maxRecDepth 20000 in
theorem cw_held {q : am_X} {d : Nat} {m : am_M} {Q : Option Value → am_M → Prop} {v : Int}  (p0 : -2147483648 ≤ v ∧ v < 2147483648) (k0 : ∀ (x : Int), (x = hd_ v) → Q (some (.int (ei_ (x)))) m) : pw_C q (d + 1) 49 [.int (ei_ (v))] m Q := by
  refine pw_intro (I := iX4_held) (T := tX4_held) rfl rfl rfl ?_
  refine pw_steps 5 (s' := (10, [some (.int (ei_ (v)))], [.int ((if (ei_ (0)) < ((if (ei_ (v)) < (ei_ (99)) then ei_ (v) else ei_ (99))) then (if (ei_ (v)) < (ei_ (99)) then ei_ (v) else ei_ (99)) else ei_ (0)))], m)) rfl ?_
  refine pw_cv (congrArg (fun z_ : Int32 => ((10, [some (.int (ei_ (v)))], [.int z_], m) : am_S)) (ei_max (by decide) (by omega) rfl (ei_min (by decide) p0 rfl rfl))) ?_
  refine pw_iret rfl rfl rfl ?_
  exact k0 (max 0 (min 99 v)) (by rfl)

set_option maxHeartbeats 4000000 in
set_option maxRecDepth 20000 in
theorem cw_turned {q : am_X} {d : Nat} {m : am_M} {Q : Option Value → am_M → Prop} {s : Int} {a : Int}  (p0 : -2147483648 ≤ s ∧ s < 2147483648) (p1 : -2147483648 ≤ a ∧ a < 2147483648) (p2 : s = 33 ∨ s = 126) (k0 : ∀ (x : Int), (x = tn_ s a) → (-2147483648 ≤ x ∧ x < 2147483648) → Q (some (.int (ei_ (x)))) m) : pw_C q (d + 1) 53 [.int (ei_ (s)), .int (ei_ (a))] m Q := by
  refine pw_intro (I := iX4_turned) (T := tX4_turned) rfl rfl rfl ?_
  refine pw_steps 2 (s' := (3, [some (.int (ei_ (s))), some (.int (ei_ (a)))], [.int (ei_ (33)), .int (ei_ (s))], m)) rfl ?_
  refine pw_cmp rfl p0 (by decide) (fun (h1 : ¬ s = 33) => ?_) (fun (h1 : ¬ ¬ s = 33) => ?_)
  · refine pw_steps 2 (s' := (18, [some (.int (ei_ (s))), some (.int (ei_ (a)))], [.int (-(ei_ (a)))], m)) rfl ?_
    refine pw_cv (congrArg (fun z_ : Int32 => ((18, [some (.int (ei_ (s))), some (.int (ei_ (a)))], [.int z_], m) : am_S)) (ei_neg rfl)) ?_
    refine pw_iret rfl rfl rfl ?_
    rw [← ei_wr (-a)]
    exact k0 (wr_ (-a)) (by first | decide | exact wr_r _ | (unfold tn_; omega)) (by first | decide | exact wr_r _ | (unfold tn_; omega))
  · refine pw_steps 1 (s' := (7, [some (.int (ei_ (s))), some (.int (ei_ (a)))], [.int (ei_ (a))], m)) rfl ?_
    refine pw_if rfl p1 (fun (h2 : ¬ a = 0) => ?_) (fun (h2 : ¬ ¬ a = 0) => ?_)
    · refine pw_steps 1 (s' := (15, [some (.int (ei_ (s))), some (.int (ei_ (a)))], [.int (ei_ (0))], m)) rfl ?_
      refine pw_iret rfl rfl rfl ?_
      exact k0 0 (by first | decide | exact wr_r _ | (unfold tn_; omega)) (by first | decide | exact wr_r _ | (unfold tn_; omega))
    · refine pw_steps 2 (s' := (15, [some (.int (ei_ (s))), some (.int (ei_ (a)))], [.int (ei_ (1))], m)) rfl ?_
      refine pw_iret rfl rfl rfl ?_
      exact k0 1 (by first | decide | exact wr_r _ | (unfold tn_; omega)) (by first | decide | exact wr_r _ | (unfold tn_; omega))

set_option maxHeartbeats 4000000 in
set_option maxRecDepth 20000 in
theorem cw_joined {q : am_X} {d : Nat} {m : am_M} {Q : Option Value → am_M → Prop} {s : Int} {a : Int} {b : Int}  (p0 : -2147483648 ≤ s ∧ s < 2147483648) (p1 : -2147483648 ≤ a ∧ a < 2147483648) (p2 : -2147483648 ≤ b ∧ b < 2147483648) (k0 : ∀ (x : Int), (x = jn_ s a b) → (-2147483648 ≤ x ∧ x < 2147483648) → Q (some (.int (ei_ (x)))) m) : pw_C q (d + 1) 54 [.int (ei_ (s)), .int (ei_ (a)), .int (ei_ (b))] m Q := by
  refine pw_intro (I := iX4_joined) (T := tX4_joined) rfl rfl rfl ?_
  refine pw_steps 1 (s' := (1, [some (.int (ei_ (s))), some (.int (ei_ (a))), some (.int (ei_ (b)))], [.int (ei_ (s))], m)) rfl ?_
  rcases (show s = 37 ∨ s = 38 ∨ s = 42 ∨ s = 43 ∨ s = 45 ∨ s = 47 ∨ s = 60 ∨ s = 61 ∨ s = 62 ∨ s = 124 ∨ (¬ s = 37 ∧ ¬ s = 38 ∧ ¬ s = 42 ∧ ¬ s = 43 ∧ ¬ s = 45 ∧ ¬ s = 47 ∧ ¬ s = 60 ∧ ¬ s = 61 ∧ ¬ s = 62 ∧ ¬ s = 124) by omega) with h1 | h1 | h1 | h1 | h1 | h1 | h1 | h1 | h1 | h1 | h1
  · refine pw_look (t := 177) rfl p0 (by rw [h1]; rfl) ?_
    refine pw_steps 1 (s' := (178, [some (.int (ei_ (s))), some (.int (ei_ (a))), some (.int (ei_ (b)))], [.int (ei_ (b))], m)) rfl ?_
    refine pw_if rfl p2 (fun (h2 : ¬ b = 0) => ?_) (fun (h2 : ¬ ¬ b = 0) => ?_)
    · refine pw_steps 2 (s' := (187, [some (.int (ei_ (s))), some (.int (ei_ (a))), some (.int (ei_ (b)))], [.int (ei_ (b)), .int (ei_ (a))], m)) rfl ?_
      refine pw_rem rfl p1 p2 (by omega) ?_
      refine pw_iret rfl rfl rfl ?_
      rw [← ei_wr (a - a.tdiv b * b)]
      exact k0 (wr_ (a - a.tdiv b * b)) (by first | decide | exact wr_r _ | (unfold jn_; omega)) (by first | decide | exact wr_r _ | (unfold jn_; omega))
    · refine pw_steps 2 (s' := (188, [some (.int (ei_ (s))), some (.int (ei_ (a))), some (.int (ei_ (b)))], [.int (ei_ (0))], m)) rfl ?_
      refine pw_iret rfl rfl rfl ?_
      exact k0 0 (by first | decide | exact wr_r _ | (unfold jn_; omega)) (by first | decide | exact wr_r _ | (unfold jn_; omega))
  · refine pw_look (t := 106) rfl p0 (by rw [h1]; rfl) ?_
    refine pw_steps 1 (s' := (107, [some (.int (ei_ (s))), some (.int (ei_ (a))), some (.int (ei_ (b)))], [.int (ei_ (a))], m)) rfl ?_
    refine pw_if rfl p1 (fun (h3 : a = 0) => ?_) (fun (h3 : ¬ (a = 0)) => ?_)
    · refine pw_steps 1 (s' := (119, [some (.int (ei_ (s))), some (.int (ei_ (a))), some (.int (ei_ (b)))], [.int (ei_ (0))], m)) rfl ?_
      refine pw_iret rfl rfl rfl ?_
      exact k0 0 (by first | decide | exact wr_r _ | (unfold jn_; omega)) (by first | decide | exact wr_r _ | (unfold jn_; omega))
    · refine pw_steps 1 (s' := (111, [some (.int (ei_ (s))), some (.int (ei_ (a))), some (.int (ei_ (b)))], [.int (ei_ (b))], m)) rfl ?_
      refine pw_if rfl p2 (fun (h4 : b = 0) => ?_) (fun (h4 : ¬ (b = 0)) => ?_)
      · refine pw_steps 1 (s' := (119, [some (.int (ei_ (s))), some (.int (ei_ (a))), some (.int (ei_ (b)))], [.int (ei_ (0))], m)) rfl ?_
        refine pw_iret rfl rfl rfl ?_
        exact k0 0 (by first | decide | exact wr_r _ | (unfold jn_; omega)) (by first | decide | exact wr_r _ | (unfold jn_; omega))
      · refine pw_steps 2 (s' := (119, [some (.int (ei_ (s))), some (.int (ei_ (a))), some (.int (ei_ (b)))], [.int (ei_ (1))], m)) rfl ?_
        refine pw_iret rfl rfl rfl ?_
        exact k0 1 (by first | decide | exact wr_r _ | (unfold jn_; omega)) (by first | decide | exact wr_r _ | (unfold jn_; omega))
  · refine pw_look (t := 161) rfl p0 (by rw [h1]; rfl) ?_
    refine pw_steps 3 (s' := (164, [some (.int (ei_ (s))), some (.int (ei_ (a))), some (.int (ei_ (b)))], [.int ((ei_ (a)) * (ei_ (b)))], m)) rfl ?_
    refine pw_cv (congrArg (fun z_ : Int32 => ((164, [some (.int (ei_ (s))), some (.int (ei_ (a))), some (.int (ei_ (b)))], [.int z_], m) : am_S)) (ei_mul rfl rfl)) ?_
    refine pw_iret rfl rfl rfl ?_
    rw [← ei_wr (a * b)]
    exact k0 (wr_ (a * b)) (by first | decide | exact wr_r _ | (unfold jn_; omega)) (by first | decide | exact wr_r _ | (unfold jn_; omega))
  · refine pw_look (t := 153) rfl p0 (by rw [h1]; rfl) ?_
    refine pw_steps 3 (s' := (156, [some (.int (ei_ (s))), some (.int (ei_ (a))), some (.int (ei_ (b)))], [.int ((ei_ (a)) + (ei_ (b)))], m)) rfl ?_
    refine pw_cv (congrArg (fun z_ : Int32 => ((156, [some (.int (ei_ (s))), some (.int (ei_ (a))), some (.int (ei_ (b)))], [.int z_], m) : am_S)) (ei_add rfl rfl)) ?_
    refine pw_iret rfl rfl rfl ?_
    rw [← ei_wr (a + b)]
    exact k0 (wr_ (a + b)) (by first | decide | exact wr_r _ | (unfold jn_; omega)) (by first | decide | exact wr_r _ | (unfold jn_; omega))
  · refine pw_look (t := 157) rfl p0 (by rw [h1]; rfl) ?_
    refine pw_steps 3 (s' := (160, [some (.int (ei_ (s))), some (.int (ei_ (a))), some (.int (ei_ (b)))], [.int ((ei_ (a)) - (ei_ (b)))], m)) rfl ?_
    refine pw_cv (congrArg (fun z_ : Int32 => ((160, [some (.int (ei_ (s))), some (.int (ei_ (a))), some (.int (ei_ (b)))], [.int z_], m) : am_S)) (ei_sub rfl rfl)) ?_
    refine pw_iret rfl rfl rfl ?_
    rw [← ei_wr (a - b)]
    exact k0 (wr_ (a - b)) (by first | decide | exact wr_r _ | (unfold jn_; omega)) (by first | decide | exact wr_r _ | (unfold jn_; omega))
  · refine pw_look (t := 165) rfl p0 (by rw [h1]; rfl) ?_
    refine pw_steps 1 (s' := (166, [some (.int (ei_ (s))), some (.int (ei_ (a))), some (.int (ei_ (b)))], [.int (ei_ (b))], m)) rfl ?_
    refine pw_if rfl p2 (fun (h5 : ¬ b = 0) => ?_) (fun (h5 : ¬ ¬ b = 0) => ?_)
    · refine pw_steps 2 (s' := (175, [some (.int (ei_ (s))), some (.int (ei_ (a))), some (.int (ei_ (b)))], [.int (ei_ (b)), .int (ei_ (a))], m)) rfl ?_
      refine pw_div rfl p1 p2 (by omega) ?_
      refine pw_iret rfl rfl rfl ?_
      rw [← ei_wr (a.tdiv b)]
      exact k0 (wr_ (a.tdiv b)) (by first | decide | exact wr_r _ | (unfold jn_; omega)) (by first | decide | exact wr_r _ | (unfold jn_; omega))
    · refine pw_steps 2 (s' := (176, [some (.int (ei_ (s))), some (.int (ei_ (a))), some (.int (ei_ (b)))], [.int (ei_ (0))], m)) rfl ?_
      refine pw_iret rfl rfl rfl ?_
      exact k0 0 (by first | decide | exact wr_r _ | (unfold jn_; omega)) (by first | decide | exact wr_r _ | (unfold jn_; omega))
  · refine pw_look (t := 120) rfl p0 (by rw [h1]; rfl) ?_
    refine pw_steps 2 (s' := (122, [some (.int (ei_ (s))), some (.int (ei_ (a))), some (.int (ei_ (b)))], [.int (ei_ (b)), .int (ei_ (a))], m)) rfl ?_
    refine pw_cmp rfl p1 p2 (fun (h6 : b ≤ a) => ?_) (fun (h6 : ¬ (b ≤ a)) => ?_)
    · refine pw_steps 1 (s' := (130, [some (.int (ei_ (s))), some (.int (ei_ (a))), some (.int (ei_ (b)))], [.int (ei_ (0))], m)) rfl ?_
      refine pw_iret rfl rfl rfl ?_
      exact k0 0 (by first | decide | exact wr_r _ | (unfold jn_; omega)) (by first | decide | exact wr_r _ | (unfold jn_; omega))
    · refine pw_steps 2 (s' := (130, [some (.int (ei_ (s))), some (.int (ei_ (a))), some (.int (ei_ (b)))], [.int (ei_ (1))], m)) rfl ?_
      refine pw_iret rfl rfl rfl ?_
      exact k0 1 (by first | decide | exact wr_r _ | (unfold jn_; omega)) (by first | decide | exact wr_r _ | (unfold jn_; omega))
  · refine pw_look (t := 131) rfl p0 (by rw [h1]; rfl) ?_
    refine pw_steps 2 (s' := (133, [some (.int (ei_ (s))), some (.int (ei_ (a))), some (.int (ei_ (b)))], [.int (ei_ (b)), .int (ei_ (a))], m)) rfl ?_
    refine pw_cmp rfl p1 p2 (fun (h7 : ¬ a = b) => ?_) (fun (h7 : ¬ ¬ a = b) => ?_)
    · refine pw_steps 1 (s' := (141, [some (.int (ei_ (s))), some (.int (ei_ (a))), some (.int (ei_ (b)))], [.int (ei_ (0))], m)) rfl ?_
      refine pw_iret rfl rfl rfl ?_
      exact k0 0 (by first | decide | exact wr_r _ | (unfold jn_; omega)) (by first | decide | exact wr_r _ | (unfold jn_; omega))
    · refine pw_steps 2 (s' := (141, [some (.int (ei_ (s))), some (.int (ei_ (a))), some (.int (ei_ (b)))], [.int (ei_ (1))], m)) rfl ?_
      refine pw_iret rfl rfl rfl ?_
      exact k0 1 (by first | decide | exact wr_r _ | (unfold jn_; omega)) (by first | decide | exact wr_r _ | (unfold jn_; omega))
  · refine pw_look (t := 142) rfl p0 (by rw [h1]; rfl) ?_
    refine pw_steps 2 (s' := (144, [some (.int (ei_ (s))), some (.int (ei_ (a))), some (.int (ei_ (b)))], [.int (ei_ (b)), .int (ei_ (a))], m)) rfl ?_
    refine pw_cmp rfl p1 p2 (fun (h8 : a ≤ b) => ?_) (fun (h8 : ¬ (a ≤ b)) => ?_)
    · refine pw_steps 1 (s' := (152, [some (.int (ei_ (s))), some (.int (ei_ (a))), some (.int (ei_ (b)))], [.int (ei_ (0))], m)) rfl ?_
      refine pw_iret rfl rfl rfl ?_
      exact k0 0 (by first | decide | exact wr_r _ | (unfold jn_; omega)) (by first | decide | exact wr_r _ | (unfold jn_; omega))
    · refine pw_steps 2 (s' := (152, [some (.int (ei_ (s))), some (.int (ei_ (a))), some (.int (ei_ (b)))], [.int (ei_ (1))], m)) rfl ?_
      refine pw_iret rfl rfl rfl ?_
      exact k0 1 (by first | decide | exact wr_r _ | (unfold jn_; omega)) (by first | decide | exact wr_r _ | (unfold jn_; omega))
  · refine pw_look (t := 92) rfl p0 (by rw [h1]; rfl) ?_
    refine pw_steps 1 (s' := (93, [some (.int (ei_ (s))), some (.int (ei_ (a))), some (.int (ei_ (b)))], [.int (ei_ (a))], m)) rfl ?_
    refine pw_if rfl p1 (fun (h9 : ¬ a = 0) => ?_) (fun (h9 : ¬ ¬ a = 0) => ?_)
    · refine pw_steps 2 (s' := (105, [some (.int (ei_ (s))), some (.int (ei_ (a))), some (.int (ei_ (b)))], [.int (ei_ (1))], m)) rfl ?_
      refine pw_iret rfl rfl rfl ?_
      exact k0 1 (by first | decide | exact wr_r _ | (unfold jn_; omega)) (by first | decide | exact wr_r _ | (unfold jn_; omega))
    · refine pw_steps 1 (s' := (97, [some (.int (ei_ (s))), some (.int (ei_ (a))), some (.int (ei_ (b)))], [.int (ei_ (b))], m)) rfl ?_
      refine pw_if rfl p2 (fun (h10 : b = 0) => ?_) (fun (h10 : ¬ (b = 0)) => ?_)
      · refine pw_steps 1 (s' := (105, [some (.int (ei_ (s))), some (.int (ei_ (a))), some (.int (ei_ (b)))], [.int (ei_ (0))], m)) rfl ?_
        refine pw_iret rfl rfl rfl ?_
        exact k0 0 (by first | decide | exact wr_r _ | (unfold jn_; omega)) (by first | decide | exact wr_r _ | (unfold jn_; omega))
      · refine pw_steps 2 (s' := (105, [some (.int (ei_ (s))), some (.int (ei_ (a))), some (.int (ei_ (b)))], [.int (ei_ (1))], m)) rfl ?_
        refine pw_iret rfl rfl rfl ?_
        exact k0 1 (by first | decide | exact wr_r _ | (unfold jn_; omega)) (by first | decide | exact wr_r _ | (unfold jn_; omega))
  · refine pw_look (t := 189) rfl p0 (by simp only [am_lk, List.drop, List.headD, h1, if_false]) ?_
    refine pw_steps 1 (s' := (190, [some (.int (ei_ (s))), some (.int (ei_ (a))), some (.int (ei_ (b)))], [.int (ei_ (0))], m)) rfl ?_
    refine pw_iret rfl rfl rfl ?_
    exact k0 0 (by first | decide | exact wr_r _ | (unfold jn_; omega)) (by first | decide | exact wr_r _ | (unfold jn_; omega))


theorem pl_w1 {m : am_M} {h v : Int} (h0 : 0 ≤ h) (r : -2147483648 ≤ v ∧ v < 2147483648) : pl_ (vi_ (wi_ m 16 h v) 16) (h + 1).toNat = v :: pl_ (vi_ m 16) h.toNat := by
  rw [pl_s (by omega), show h + 1 - 1 = h by omega, vi_up r h0 h0, if_pos rfl]
  refine congrArg _ (pl_cg _ (fun j h1 h2 => ?_))
  rw [vi_up r h0 h1, if_neg (by omega)]
theorem xw_laid {m1 : am_M} {v f : Int → Int} {k n h h' x y X : Int} (hk : k < n) (h0 : 0 ≤ h) (hf : x = f k) (c : 256 ≤ x ∨ (0 ≤ x ∧ x < 6)) (hy : y = ly_ v x) (ry : -2147483648 ≤ y ∧ y < 2147483648) (hh : h' = h + 1) (e : xq_ v (dr_ f k (n - k).toNat) (pl_ (vi_ m1 16) h.toNat) = X) : xq_ v (dr_ f (k + 1) (n - (k + 1)).toNat) (pl_ (vi_ (wi_ m1 16 h y) 16) h'.toNat) = X := by
  rw [hh, pl_w1 h0 ry, ← e, dr_s hk, ← hf]
  simp only [xq_]
  rw [if_pos c, hy]
theorem xw_turn {m1 : am_M} {v f : Int → Int} {k n h i x y a X : Int} (hk : k < n) (h0 : 1 ≤ h) (hf : x = f k) (c : x = 33 ∨ x = 126) (hi : i = h - 1) (hy : y = tn_ x a) (ha : a = vi_ m1 16 i) (ry : -2147483648 ≤ y ∧ y < 2147483648) (e : xq_ v (dr_ f k (n - k).toNat) (pl_ (vi_ m1 16) h.toNat) = X) : xq_ v (dr_ f (k + 1) (n - (k + 1)).toNat) (pl_ (vi_ (wi_ m1 16 i y) 16) h.toNat) = X := by
  subst hi
  have t := pl_w1 (m := m1) (h := h - 1) (v := y) (by omega) ry
  rw [show h - 1 + 1 = h by omega] at t
  rw [t, ← e, dr_s hk, ← hf, pl_s (by omega : 0 < h)]
  simp only [xq_]
  rw [if_neg (by omega), if_neg (by omega), if_pos c, hy, ha]
theorem xw_join {m1 : am_M} {v f : Int → Int} {k n h h' i j x y a b X : Int} (hk : k < n) (h0 : 2 ≤ h) (hf : x = f k) (c : ¬ (256 ≤ x ∨ (0 ≤ x ∧ x < 6)) ∧ ¬ x = 59 ∧ ¬ (x = 33 ∨ x = 126) ∧ ¬ x = 63) (hi : i = h - 2) (hj : j = h - 1) (hh : h' = h - 1) (hy : y = jn_ x a b) (ha : a = vi_ m1 16 i) (hb : b = vi_ m1 16 j) (ry : -2147483648 ≤ y ∧ y < 2147483648) (e : xq_ v (dr_ f k (n - k).toNat) (pl_ (vi_ m1 16) h.toNat) = X) : xq_ v (dr_ f (k + 1) (n - (k + 1)).toNat) (pl_ (vi_ (wi_ m1 16 i y) 16) h'.toNat) = X := by
  subst hi hj hh
  have t := pl_w1 (m := m1) (h := h - 2) (v := y) (by omega) ry
  rw [show h - 2 + 1 = h - 1 by omega] at t
  rw [t, ← e, dr_s hk, ← hf, pl_s (by omega : 0 < h), pl_s (by omega : 0 < h - 1), show h - 1 - 1 = h - 2 by omega]
  simp only [xq_]
  rw [if_neg c.1, if_neg c.2.1, if_neg c.2.2.1, if_neg c.2.2.2, hy, ha, hb]
theorem xw_chc {m1 : am_M} {v f : Int → Int} {k n h h' i x a X : Int} (hk : k < n) (h0 : 2 ≤ h) (hf : x = f k) (c : x = 63) (hi : i = h - 2) (hh : h' = h - 2) (ha : a = vi_ m1 16 i) (a0 : a = 0) (e : xq_ v (dr_ f k (n - k).toNat) (pl_ (vi_ m1 16) h.toNat) = X) : xq_ v (dr_ f (k + 1) (n - (k + 1)).toNat) (pl_ (vi_ m1 16) h'.toNat) = X := by
  subst hi hh
  rw [← e, dr_s hk, ← hf, pl_s (by omega : 0 < h), pl_s (by omega : 0 < h - 1), show h - 1 - 1 = h - 2 by omega]
  simp only [xq_]
  rw [if_neg (by omega), if_neg (by omega), if_neg (by omega), if_pos c, if_pos (by omega)]
theorem xw_end {m1 : am_M} {v f : Int → Int} {k n h i x y X : Int} (hk : k < n) (h0 : 1 ≤ h) (hf : x = f k) (c : x = 59) (hi : i = h - 1) (hy : y = vi_ m1 16 i) (e : xq_ v (dr_ f k (n - k).toNat) (pl_ (vi_ m1 16) h.toNat) = X) : y = X := by
  subst hi
  rw [hy, ← e, dr_s hk, ← hf, pl_s (by omega : 0 < h)]
  simp only [xq_]
  rw [if_neg (by omega), if_pos c]
  rfl
theorem xw_chE {m1 : am_M} {v f : Int → Int} {k n h i j x a y X : Int} (hk : k < n) (h0 : 2 ≤ h) (hf : x = f k) (c : x = 63) (hi : i = h - 2) (ha : a = vi_ m1 16 i) (a0 : ¬ a = 0) (hj : j = h - 1) (hy : y = vi_ m1 16 j) (e : xq_ v (dr_ f k (n - k).toNat) (pl_ (vi_ m1 16) h.toNat) = X) : y = X := by
  subst hi hj
  rw [hy, ← e, dr_s hk, ← hf, pl_s (by omega : 0 < h), pl_s (by omega : 0 < h - 1), show h - 1 - 1 = h - 2 by omega]
  simp only [xq_]
  rw [if_neg (by omega), if_neg (by omega), if_neg (by omega), if_pos c, if_neg (by omega)]
theorem xw_few {m1 : am_M} {v f : Int → Int} {k n h x X : Int} (hk : k < n) (h0 : 0 ≤ h) (hf : x = f k) (c : ¬ (256 ≤ x ∨ (0 ≤ x ∧ x < 6))) (hh : h < (if x = 59 ∨ x = 33 ∨ x = 126 then 1 else 2)) (e : xq_ v (dr_ f k (n - k).toNat) (pl_ (vi_ m1 16) h.toNat) = X) : 0 = X := by
  rw [← e, dr_s hk, ← hf]
  have hc : h = 0 ∨ (h = 1 ∧ ¬ x = 59 ∧ ¬ (x = 33 ∨ x = 126)) := by omega
  rcases hc with hc | ⟨hc, c2, c3⟩
  · subst hc
    simp only [xq_, pl_, Int.toNat_zero]
    rw [if_neg c]
    by_cases h1 : x = 59
    · rw [if_pos h1]; rfl
    · rw [if_neg h1]
      by_cases h2 : x = 33 ∨ x = 126
      · rw [if_pos h2]
      · rw [if_neg h2]
  · subst hc
    simp only [xq_, pl_, Int.toNat_one]
    rw [if_neg c, if_neg c2, if_neg c3]
theorem xw_0 {v f : Int → Int} {k n X : Int} {st : List Int} (hk : n ≤ k) (e : xq_ v (dr_ f k (n - k).toNat) st = X) : 0 = X := by
  rw [← e, dr_e hk]
  cases st <;> rfl

set_option maxHeartbeats 4000000 in
set_option maxRecDepth 20000 in
theorem cw_workOut {q : am_X} {d : Nat} {m : am_M} {Q : Option Value → am_M → Prop}   (p0 : rZ_ m) (k0 : ∀ (x : Int) (m1 : am_M), (sm_ pPi m m1) → (x = xq_ (vi_ m 17) (dr_ (vi_ m 15) 0 (vi_ m 14 3).toNat) []) → (-2147483648 ≤ x ∧ x < 2147483648) → Q (some (.int (ei_ (x)))) m1) : pw_C q (d + 3) 50 [.ref 14] m Q := by
  have hz1 := p0.1
  have hz2 := p0.2
  refine pw_intro (I := iX4_workOut) (T := tX4_workOut) rfl rfl rfl ?_
  refine pw_steps 4 (s' := (4, [some (.ref 14), some (.int (ei_ (0))), some (.int (ei_ (0))), none, none, none], [], m)) rfl ?_
  have L6 : ∀ (n4 : Nat) (h : Int) (k : Int) (u1 : Option Value) (u2 : Option Value) (u3 : Option Value) (m1 : am_M), (vi_ m 14 3 - k).toNat = n4 → (0 ≤ k ∧ k ≤ vi_ m 14 3 ∧ 0 ≤ h ∧ h ≤ k) → (sm_ pPi m m1) → (xq_ (vi_ m 17) (dr_ (vi_ m 15) k (vi_ m 14 3 - k).toNat) (pl_ (vi_ m1 16) h.toNat) = xq_ (vi_ m 17) (dr_ (vi_ m 15) 0 (vi_ m 14 3).toNat) []) → pw_V q (d + 2) iX4_workOut.2.2.2.1 tX4_workOut Q (4, [some (.ref 14), some (.int (ei_ (h))), some (.int (ei_ (k))), u1, u2, u3], [], m1) := by
    intro n4
    induction n4 using Nat.strongRecOn with
    | _ n4 ih5 =>
      intro h k u1 u2 u3 m1 hm_n4 v7 hs hq
      refine pw_steps 2 (s' := (6, [some (.ref 14), some (.int (ei_ (h))), some (.int (ei_ (k))), u1, u2, u3], [.ref 14, .int (ei_ (k))], m1)) rfl ?_
      refine pw_get rfl rfl (fun x8 (hx8 : x8 = vi_ m1 14 3) rx8 sx8 => ?_)
      replace hx8 : x8 = vi_ m 14 3 := hx8.trans (sm_v hs rfl)
      refine pw_cmp rfl (by omega) ⟨rx8, sx8⟩ (fun (h9 : x8 ≤ k) => ?_) (fun (h9 : ¬ (x8 ≤ k)) => ?_)
      · refine pw_steps 1 (s' := (211, [some (.ref 14), some (.int (ei_ (h))), some (.int (ei_ (k))), u1, u2, u3], [.int (ei_ (0))], m1)) rfl ?_
        refine pw_iret rfl rfl rfl ?_
        exact k0 0 m1 (by exact hs) (by exact xw_0 (by omega) hq) (by omega)
      · refine pw_steps 3 (s' := (17, [some (.ref 14), some (.int (ei_ (h))), some (.int (ei_ (k))), u1, u2, u3], [.int (ei_ (k)), .ref 15], m1)) rfl ?_
        refine pw_ild rfl rfl (by omega) (fun x10 (hx10 : x10 = vi_ m1 15 k) rx10 sx10 => ?_)
        replace hx10 : x10 = vi_ m 15 k := hx10.trans (sm_v hs rfl)
        refine pw_steps 2 (s' := (20, [some (.ref 14), some (.int (ei_ (h))), some (.int (ei_ (k))), some (.int (ei_ (x10))), u2, u3], [.int (ei_ (x10))], m1)) rfl ?_
        refine pw_callS (As := [.int (ei_ (x10))]) (st := []) rfl (by decide) rfl rfl (Nat.le_of_ble_eq_true rfl) ?_
        refine pw_intro (I := iX4_isLaid) (T := tX4_isLaid) rfl rfl rfl ?_
        refine pw_steps 2 (s' := (4, [some (.int (ei_ (x10)))], [.int (ei_ (256)), .int (ei_ (x10))], m1)) rfl ?_
        refine pw_cmp rfl ⟨rx10, sx10⟩ (by decide) (fun (h11 : 256 ≤ x10) => ?_) (fun (h11 : ¬ (256 ≤ x10)) => ?_)
        · refine pw_steps 2 (s' := (22, [some (.int (ei_ (x10)))], [.int (ei_ (1))], m1)) rfl ?_
          refine pw_iret rfl rfl rfl ?_
          refine pw_steps 2 (s' := (27, [some (.ref 14), some (.int (ei_ (h))), some (.int (ei_ (k))), some (.int (ei_ (x10))), some (.int (ei_ (1))), u3], [.int (ei_ (1))], m1)) rfl ?_
          refine pw_ifF rfl (by decide) (show ¬ (1 = 0) by decide) ?_
          refine pw_steps 5 (s' := (43, [some (.ref 14), some (.int (ei_ (h))), some (.int (ei_ (k))), some (.int (ei_ (x10))), some (.int (ei_ (1))), some (.int (ei_ (0)))], [.int (ei_ (0)), .int (ei_ (h))], m1)) rfl ?_
          refine pw_cmpF rfl (by omega) (by decide) (show ¬ (h < 0) by omega) ?_
          refine pw_steps 2 (s' := (50, [some (.ref 14), some (.int (ei_ (h))), some (.int (ei_ (k))), some (.int (ei_ (x10))), some (.int (ei_ (1))), some (.int (ei_ (0)))], [.int (ei_ (128)), .int (ei_ (h))], m1)) rfl ?_
          refine pw_cmpT rfl (by omega) (by decide) (show h < 128 by omega) ?_
          refine pw_steps 1 (s' := (57, [some (.ref 14), some (.int (ei_ (h))), some (.int (ei_ (k))), some (.int (ei_ (x10))), some (.int (ei_ (1))), some (.int (ei_ (0)))], [.int (ei_ (1))], m1)) rfl ?_
          refine pw_ifF rfl (by decide) (show ¬ (1 = 0) by decide) ?_
          refine pw_steps 5 (s' := (69, [some (.ref 14), some (.int (ei_ (h))), some (.int (ei_ (k))), some (.int (ei_ (x10))), some (.int (ei_ (1))), some (.int (ei_ (0)))], [.int (ei_ (256)), .int (ei_ (x10)), .int (ei_ (h)), .ref 16], m1)) rfl ?_
          refine pw_cmpF rfl ⟨rx10, sx10⟩ (by decide) (show ¬ (x10 < 256) by omega) ?_
          refine pw_steps 4 (s' := (86, [some (.ref 14), some (.int (ei_ (h))), some (.int (ei_ (k))), some (.int (ei_ (x10))), some (.int (ei_ (1))), some (.int (ei_ (0)))], [.int ((ei_ (x10)) - (ei_ (256))), .int (ei_ (h)), .ref 16], m1)) rfl ?_
          refine pw_cv (congrArg (fun z_ : Int32 => ((86, [some (.ref 14), some (.int (ei_ (h))), some (.int (ei_ (k))), some (.int (ei_ (x10))), some (.int (ei_ (1))), some (.int (ei_ (0)))], [.int z_, .int (ei_ (h)), .ref 16], m1) : am_S)) (ei_sub rfl rfl)) ?_
          refine pw_ist rfl rfl (by omega) ?_
          refine pw_steps 4 (s' := (4, [some (.ref 14), some (.int ((ei_ (h)) + (ei_ (1)))), some (.int ((ei_ (k)) + (ei_ (1)))), some (.int (ei_ (x10))), some (.int (ei_ (1))), some (.int (ei_ (0)))], [], wi_ m1 16 (h) ((x10 - 256)))) rfl ?_
          refine pw_cv (congrArg (fun z_ : Int32 => ((4, [some (.ref 14), some (.int z_), some (.int ((ei_ (k)) + (ei_ (1)))), some (.int (ei_ (x10))), some (.int (ei_ (1))), some (.int (ei_ (0)))], [], wi_ m1 16 (h) ((x10 - 256))) : am_S)) (ei_add rfl rfl)) ?_
          refine pw_cv (congrArg (fun z_ : Int32 => ((4, [some (.ref 14), some (.int (ei_ ((h + 1)))), some (.int z_), some (.int (ei_ (x10))), some (.int (ei_ (1))), some (.int (ei_ (0)))], [], wi_ m1 16 (h) ((x10 - 256))) : am_S)) (ei_add rfl rfl)) ?_
          exact ih5 _ (by omega) (h + 1) (k + 1) (some (.int (ei_ (x10)))) (some (.int (ei_ (1)))) (some (.int (ei_ (0)))) (wi_ m1 16 (h) ((x10 - 256))) rfl (by omega) (by exact sm_w hs (fun _ _ => rfl)) (by exact xw_laid (by omega) (by omega) hx10 (by omega) (by unfold ly_; omega) (by omega) (by omega) hq)
        · refine pw_steps 1 (s' := (8, [some (.int (ei_ (x10)))], [.int (ei_ (x10))], m1)) rfl ?_
          refine pw_if rfl ⟨rx10, sx10⟩ (fun (h12 : x10 < 0) => ?_) (fun (h12 : ¬ (x10 < 0)) => ?_)
          · refine pw_steps 1 (s' := (22, [some (.int (ei_ (x10)))], [.int (ei_ (0))], m1)) rfl ?_
            refine pw_iret rfl rfl rfl ?_
            refine pw_steps 2 (s' := (27, [some (.ref 14), some (.int (ei_ (h))), some (.int (ei_ (k))), some (.int (ei_ (x10))), some (.int (ei_ (0))), u3], [.int (ei_ (0))], m1)) rfl ?_
            refine pw_ifT rfl (by decide) (show 0 = 0 by decide) ?_
            refine pw_steps 1 (s' := (35, [some (.ref 14), some (.int (ei_ (h))), some (.int (ei_ (k))), some (.int (ei_ (x10))), some (.int (ei_ (0))), u3], [.int (ei_ (x10))], m1)) rfl ?_
            refine pw_callS (As := [.int (ei_ (x10))]) (st := []) rfl (by decide) rfl rfl (Nat.le_of_ble_eq_true rfl) ?_
            refine pw_intro (I := iX4_needed) (T := tX4_needed) rfl rfl rfl ?_
            refine pw_steps 2 (s' := (3, [some (.int (ei_ (x10)))], [.int (ei_ (59)), .int (ei_ (x10))], m1)) rfl ?_
            refine pw_cmpF rfl ⟨rx10, sx10⟩ (by decide) (show ¬ (x10 = 59) by omega) ?_
            refine pw_steps 2 (s' := (9, [some (.int (ei_ (x10)))], [.int (ei_ (33)), .int (ei_ (x10))], m1)) rfl ?_
            refine pw_cmpF rfl ⟨rx10, sx10⟩ (by decide) (show ¬ (x10 = 33) by omega) ?_
            refine pw_steps 2 (s' := (15, [some (.int (ei_ (x10)))], [.int (ei_ (126)), .int (ei_ (x10))], m1)) rfl ?_
            refine pw_cmp rfl ⟨rx10, sx10⟩ (by decide) (fun (h13 : ¬ x10 = 126) => ?_) (fun (h13 : ¬ ¬ x10 = 126) => ?_)
            · refine pw_steps 1 (s' := (23, [some (.int (ei_ (x10)))], [.int (ei_ (2))], m1)) rfl ?_
              refine pw_iret rfl rfl rfl ?_
              refine pw_steps 3 (s' := (43, [some (.ref 14), some (.int (ei_ (h))), some (.int (ei_ (k))), some (.int (ei_ (x10))), some (.int (ei_ (0))), some (.int (ei_ (2)))], [.int (ei_ (2)), .int (ei_ (h))], m1)) rfl ?_
              refine pw_cmp rfl (by omega) (by decide) (fun (h14 : h < 2) => ?_) (fun (h14 : ¬ (h < 2)) => ?_)
              · refine pw_steps 1 (s' := (54, [some (.ref 14), some (.int (ei_ (h))), some (.int (ei_ (k))), some (.int (ei_ (x10))), some (.int (ei_ (0))), some (.int (ei_ (2)))], [.int (ei_ (0))], m1)) rfl ?_
                refine pw_iret rfl rfl rfl ?_
                exact k0 0 m1 (by exact hs) (by exact xw_few (by omega) (by omega) hx10 (by omega) (by split <;> omega) hq) (by omega)
              · refine pw_steps 2 (s' := (50, [some (.ref 14), some (.int (ei_ (h))), some (.int (ei_ (k))), some (.int (ei_ (x10))), some (.int (ei_ (0))), some (.int (ei_ (2)))], [.int (ei_ (128)), .int (ei_ (h))], m1)) rfl ?_
                refine pw_cmpT rfl (by omega) (by decide) (show h < 128 by omega) ?_
                refine pw_steps 1 (s' := (57, [some (.ref 14), some (.int (ei_ (h))), some (.int (ei_ (k))), some (.int (ei_ (x10))), some (.int (ei_ (0))), some (.int (ei_ (2)))], [.int (ei_ (0))], m1)) rfl ?_
                refine pw_ifT rfl (by decide) (show 0 = 0 by decide) ?_
                refine pw_steps 2 (s' := (96, [some (.ref 14), some (.int (ei_ (h))), some (.int (ei_ (k))), some (.int (ei_ (x10))), some (.int (ei_ (0))), some (.int (ei_ (2)))], [.int (ei_ (59)), .int (ei_ (x10))], m1)) rfl ?_
                refine pw_cmp rfl ⟨rx10, sx10⟩ (by decide) (fun (h15 : ¬ x10 = 59) => ?_) (fun (h15 : ¬ ¬ x10 = 59) => ?_)
                · refine pw_steps 2 (s' := (111, [some (.ref 14), some (.int (ei_ (h))), some (.int (ei_ (k))), some (.int (ei_ (x10))), some (.int (ei_ (0))), some (.int (ei_ (2)))], [.int (ei_ (33)), .int (ei_ (x10))], m1)) rfl ?_
                  refine pw_cmpF rfl ⟨rx10, sx10⟩ (by decide) (show ¬ (x10 = 33) by omega) ?_
                  refine pw_steps 2 (s' := (117, [some (.ref 14), some (.int (ei_ (h))), some (.int (ei_ (k))), some (.int (ei_ (x10))), some (.int (ei_ (0))), some (.int (ei_ (2)))], [.int (ei_ (126)), .int (ei_ (x10))], m1)) rfl ?_
                  refine pw_cmp rfl ⟨rx10, sx10⟩ (by decide) (fun (h16 : ¬ x10 = 126) => ?_) (fun (h16 : ¬ ¬ x10 = 126) => ?_)
                  · refine pw_steps 2 (s' := (146, [some (.ref 14), some (.int (ei_ (h))), some (.int (ei_ (k))), some (.int (ei_ (x10))), some (.int (ei_ (0))), some (.int (ei_ (2)))], [.int (ei_ (63)), .int (ei_ (x10))], m1)) rfl ?_
                    refine pw_cmpF rfl ⟨rx10, sx10⟩ (by decide) (show ¬ (x10 = 63) by omega) ?_
                    refine pw_steps 12 (s' := (167, [some (.ref 14), some (.int ((ei_ (h)) + (ei_ ((-1))))), some (.int (ei_ (k))), some (.int (ei_ (x10))), some (.int (ei_ (0))), some (.int (ei_ (2)))], [.int (((ei_ (h)) + (ei_ ((-1)))) - (ei_ (1))), .ref 16, .int (ei_ (x10)), .int (((ei_ (h)) + (ei_ ((-1)))) - (ei_ (1))), .ref 16], m1)) rfl ?_
                    refine pw_cv (congrArg (fun z_ : Int32 => ((167, [some (.ref 14), some (.int ((ei_ (h)) + (ei_ ((-1))))), some (.int (ei_ (k))), some (.int (ei_ (x10))), some (.int (ei_ (0))), some (.int (ei_ (2)))], [.int z_, .ref 16, .int (ei_ (x10)), .int (((ei_ (h)) + (ei_ ((-1)))) - (ei_ (1))), .ref 16], m1) : am_S)) (ei_sub (ei_add rfl rfl) rfl)) ?_
                    refine pw_cv (congrArg (fun z_ : Int32 => ((167, [some (.ref 14), some (.int ((ei_ (h)) + (ei_ ((-1))))), some (.int (ei_ (k))), some (.int (ei_ (x10))), some (.int (ei_ (0))), some (.int (ei_ (2)))], [.int (ei_ (((h + (-1)) - 1))), .ref 16, .int (ei_ (x10)), .int z_, .ref 16], m1) : am_S)) (ei_sub (ei_add rfl rfl) rfl)) ?_
                    refine pw_cv (congrArg (fun z_ : Int32 => ((167, [some (.ref 14), some (.int z_), some (.int (ei_ (k))), some (.int (ei_ (x10))), some (.int (ei_ (0))), some (.int (ei_ (2)))], [.int (ei_ (((h + (-1)) - 1))), .ref 16, .int (ei_ (x10)), .int (ei_ (((h + (-1)) - 1))), .ref 16], m1) : am_S)) (ei_add rfl rfl)) ?_
                    refine pw_ild rfl rfl (by omega) (fun x17 (hx17 : x17 = vi_ m1 16 ((h + (-1)) - 1)) rx17 sx17 => ?_)
                    refine pw_steps 3 (s' := (173, [some (.ref 14), some (.int (ei_ ((h + (-1))))), some (.int (ei_ (k))), some (.int (ei_ (x10))), some (.int (ei_ (0))), some (.int (ei_ (2)))], [.int (ei_ ((h + (-1)))), .ref 16, .int (ei_ (x17)), .int (ei_ (x10)), .int (ei_ (((h + (-1)) - 1))), .ref 16], m1)) rfl ?_
                    refine pw_ild rfl rfl (by omega) (fun x18 (hx18 : x18 = vi_ m1 16 (h + (-1))) rx18 sx18 => ?_)
                    refine pw_callS (As := [.int (ei_ (x10)), .int (ei_ (x17)), .int (ei_ (x18))]) (st := [.int (ei_ (((h + (-1)) - 1))), .ref 16]) rfl (by decide) rfl rfl (Nat.le_of_ble_eq_true rfl) ?_
                    refine cw_joined (by omega) (by omega) (by omega) (fun x19 g20 g21 => ?_)
                    refine pw_ist rfl rfl (by omega) ?_
                    refine pw_steps 3 (s' := (4, [some (.ref 14), some (.int (ei_ ((h + (-1))))), some (.int ((ei_ (k)) + (ei_ (1)))), some (.int (ei_ (x10))), some (.int (ei_ (0))), some (.int (ei_ (2)))], [], wi_ m1 16 (((h + (-1)) - 1)) (x19))) rfl ?_
                    refine pw_cv (congrArg (fun z_ : Int32 => ((4, [some (.ref 14), some (.int (ei_ ((h + (-1))))), some (.int z_), some (.int (ei_ (x10))), some (.int (ei_ (0))), some (.int (ei_ (2)))], [], wi_ m1 16 (((h + (-1)) - 1)) (x19)) : am_S)) (ei_add rfl rfl)) ?_
                    exact ih5 _ (by omega) (h + (-1)) (k + 1) (some (.int (ei_ (x10)))) (some (.int (ei_ (0)))) (some (.int (ei_ (2)))) (wi_ m1 16 (((h + (-1)) - 1)) (x19)) rfl (by omega) (by exact sm_w hs (fun _ _ => rfl)) (by exact xw_join (by omega) (by omega) hx10 (by omega) (by omega) (by omega) (by omega) g20 hx17 hx18 (by omega) hq)
                  · refine pw_steps 11 (s' := (135, [some (.ref 14), some (.int (ei_ (h))), some (.int (ei_ (k))), some (.int (ei_ (x10))), some (.int (ei_ (0))), some (.int (ei_ (2)))], [.int ((ei_ (h)) - (ei_ (1))), .ref 16, .int (ei_ (x10)), .int ((ei_ (h)) - (ei_ (1))), .ref 16], m1)) rfl ?_
                    refine pw_cv (congrArg (fun z_ : Int32 => ((135, [some (.ref 14), some (.int (ei_ (h))), some (.int (ei_ (k))), some (.int (ei_ (x10))), some (.int (ei_ (0))), some (.int (ei_ (2)))], [.int z_, .ref 16, .int (ei_ (x10)), .int ((ei_ (h)) - (ei_ (1))), .ref 16], m1) : am_S)) (ei_sub rfl rfl)) ?_
                    refine pw_cv (congrArg (fun z_ : Int32 => ((135, [some (.ref 14), some (.int (ei_ (h))), some (.int (ei_ (k))), some (.int (ei_ (x10))), some (.int (ei_ (0))), some (.int (ei_ (2)))], [.int (ei_ ((h - 1))), .ref 16, .int (ei_ (x10)), .int z_, .ref 16], m1) : am_S)) (ei_sub rfl rfl)) ?_
                    refine pw_ild rfl rfl (by omega) (fun x22 (hx22 : x22 = vi_ m1 16 (h - 1)) rx22 sx22 => ?_)
                    refine pw_callS (As := [.int (ei_ (x10)), .int (ei_ (x22))]) (st := [.int (ei_ ((h - 1))), .ref 16]) rfl (by decide) rfl rfl (Nat.le_of_ble_eq_true rfl) ?_
                    refine cw_turned (by omega) (by omega) (by omega) (fun x23 g24 g25 => ?_)
                    refine pw_ist rfl rfl (by omega) ?_
                    refine pw_steps 3 (s' := (4, [some (.ref 14), some (.int (ei_ (h))), some (.int ((ei_ (k)) + (ei_ (1)))), some (.int (ei_ (x10))), some (.int (ei_ (0))), some (.int (ei_ (2)))], [], wi_ m1 16 ((h - 1)) (x23))) rfl ?_
                    refine pw_cv (congrArg (fun z_ : Int32 => ((4, [some (.ref 14), some (.int (ei_ (h))), some (.int z_), some (.int (ei_ (x10))), some (.int (ei_ (0))), some (.int (ei_ (2)))], [], wi_ m1 16 ((h - 1)) (x23)) : am_S)) (ei_add rfl rfl)) ?_
                    exact ih5 _ (by omega) h (k + 1) (some (.int (ei_ (x10)))) (some (.int (ei_ (0)))) (some (.int (ei_ (2)))) (wi_ m1 16 ((h - 1)) (x23)) rfl (by omega) (by exact sm_w hs (fun _ _ => rfl)) (by exact xw_turn (by omega) (by omega) hx10 (by omega) (by omega) g24 hx22 (by omega) hq)
                · refine pw_steps 5 (s' := (106, [some (.ref 14), some (.int (ei_ (h))), some (.int (ei_ (k))), some (.int (ei_ (x10))), some (.int (ei_ (0))), some (.int (ei_ (2)))], [.int ((ei_ (h)) - (ei_ (1))), .ref 16], m1)) rfl ?_
                  refine pw_cv (congrArg (fun z_ : Int32 => ((106, [some (.ref 14), some (.int (ei_ (h))), some (.int (ei_ (k))), some (.int (ei_ (x10))), some (.int (ei_ (0))), some (.int (ei_ (2)))], [.int z_, .ref 16], m1) : am_S)) (ei_sub rfl rfl)) ?_
                  refine pw_ild rfl rfl (by omega) (fun x26 (hx26 : x26 = vi_ m1 16 (h - 1)) rx26 sx26 => ?_)
                  refine pw_iret rfl rfl rfl ?_
                  exact k0 x26 m1 (by exact hs) (by exact xw_end (by omega) (by omega) hx10 (by omega) (by omega) hx26 hq) (by omega)
            · refine pw_steps 2 (s' := (23, [some (.int (ei_ (x10)))], [.int (ei_ (1))], m1)) rfl ?_
              refine pw_iret rfl rfl rfl ?_
              refine pw_steps 3 (s' := (43, [some (.ref 14), some (.int (ei_ (h))), some (.int (ei_ (k))), some (.int (ei_ (x10))), some (.int (ei_ (0))), some (.int (ei_ (1)))], [.int (ei_ (1)), .int (ei_ (h))], m1)) rfl ?_
              refine pw_cmp rfl (by omega) (by decide) (fun (h27 : h < 1) => ?_) (fun (h27 : ¬ (h < 1)) => ?_)
              · refine pw_steps 1 (s' := (54, [some (.ref 14), some (.int (ei_ (h))), some (.int (ei_ (k))), some (.int (ei_ (x10))), some (.int (ei_ (0))), some (.int (ei_ (1)))], [.int (ei_ (0))], m1)) rfl ?_
                refine pw_iret rfl rfl rfl ?_
                exact k0 0 m1 (by exact hs) (by exact xw_few (by omega) (by omega) hx10 (by omega) (by split <;> omega) hq) (by omega)
              · refine pw_steps 2 (s' := (50, [some (.ref 14), some (.int (ei_ (h))), some (.int (ei_ (k))), some (.int (ei_ (x10))), some (.int (ei_ (0))), some (.int (ei_ (1)))], [.int (ei_ (128)), .int (ei_ (h))], m1)) rfl ?_
                refine pw_cmpT rfl (by omega) (by decide) (show h < 128 by omega) ?_
                refine pw_steps 1 (s' := (57, [some (.ref 14), some (.int (ei_ (h))), some (.int (ei_ (k))), some (.int (ei_ (x10))), some (.int (ei_ (0))), some (.int (ei_ (1)))], [.int (ei_ (0))], m1)) rfl ?_
                refine pw_ifT rfl (by decide) (show 0 = 0 by decide) ?_
                refine pw_steps 2 (s' := (96, [some (.ref 14), some (.int (ei_ (h))), some (.int (ei_ (k))), some (.int (ei_ (x10))), some (.int (ei_ (0))), some (.int (ei_ (1)))], [.int (ei_ (59)), .int (ei_ (x10))], m1)) rfl ?_
                refine pw_cmp rfl ⟨rx10, sx10⟩ (by decide) (fun (h28 : ¬ x10 = 59) => ?_) (fun (h28 : ¬ ¬ x10 = 59) => ?_)
                · refine pw_steps 2 (s' := (111, [some (.ref 14), some (.int (ei_ (h))), some (.int (ei_ (k))), some (.int (ei_ (x10))), some (.int (ei_ (0))), some (.int (ei_ (1)))], [.int (ei_ (33)), .int (ei_ (x10))], m1)) rfl ?_
                  refine pw_cmpF rfl ⟨rx10, sx10⟩ (by decide) (show ¬ (x10 = 33) by omega) ?_
                  refine pw_steps 2 (s' := (117, [some (.ref 14), some (.int (ei_ (h))), some (.int (ei_ (k))), some (.int (ei_ (x10))), some (.int (ei_ (0))), some (.int (ei_ (1)))], [.int (ei_ (126)), .int (ei_ (x10))], m1)) rfl ?_
                  refine pw_cmp rfl ⟨rx10, sx10⟩ (by decide) (fun (h29 : ¬ x10 = 126) => ?_) (fun (h29 : ¬ ¬ x10 = 126) => ?_)
                  · refine pw_steps 2 (s' := (146, [some (.ref 14), some (.int (ei_ (h))), some (.int (ei_ (k))), some (.int (ei_ (x10))), some (.int (ei_ (0))), some (.int (ei_ (1)))], [.int (ei_ (63)), .int (ei_ (x10))], m1)) rfl ?_
                    refine pw_cmpF rfl ⟨rx10, sx10⟩ (by decide) (show ¬ (x10 = 63) by omega) ?_
                    refine pw_steps 12 (s' := (167, [some (.ref 14), some (.int ((ei_ (h)) + (ei_ ((-1))))), some (.int (ei_ (k))), some (.int (ei_ (x10))), some (.int (ei_ (0))), some (.int (ei_ (1)))], [.int (((ei_ (h)) + (ei_ ((-1)))) - (ei_ (1))), .ref 16, .int (ei_ (x10)), .int (((ei_ (h)) + (ei_ ((-1)))) - (ei_ (1))), .ref 16], m1)) rfl ?_
                    refine pw_cv (congrArg (fun z_ : Int32 => ((167, [some (.ref 14), some (.int ((ei_ (h)) + (ei_ ((-1))))), some (.int (ei_ (k))), some (.int (ei_ (x10))), some (.int (ei_ (0))), some (.int (ei_ (1)))], [.int z_, .ref 16, .int (ei_ (x10)), .int (((ei_ (h)) + (ei_ ((-1)))) - (ei_ (1))), .ref 16], m1) : am_S)) (ei_sub (ei_add rfl rfl) rfl)) ?_
                    refine pw_cv (congrArg (fun z_ : Int32 => ((167, [some (.ref 14), some (.int ((ei_ (h)) + (ei_ ((-1))))), some (.int (ei_ (k))), some (.int (ei_ (x10))), some (.int (ei_ (0))), some (.int (ei_ (1)))], [.int (ei_ (((h + (-1)) - 1))), .ref 16, .int (ei_ (x10)), .int z_, .ref 16], m1) : am_S)) (ei_sub (ei_add rfl rfl) rfl)) ?_
                    refine pw_cv (congrArg (fun z_ : Int32 => ((167, [some (.ref 14), some (.int z_), some (.int (ei_ (k))), some (.int (ei_ (x10))), some (.int (ei_ (0))), some (.int (ei_ (1)))], [.int (ei_ (((h + (-1)) - 1))), .ref 16, .int (ei_ (x10)), .int (ei_ (((h + (-1)) - 1))), .ref 16], m1) : am_S)) (ei_add rfl rfl)) ?_
                    refine pw_ild rfl rfl (by omega) (fun x30 (hx30 : x30 = vi_ m1 16 ((h + (-1)) - 1)) rx30 sx30 => ?_)
                    refine pw_steps 3 (s' := (173, [some (.ref 14), some (.int (ei_ ((h + (-1))))), some (.int (ei_ (k))), some (.int (ei_ (x10))), some (.int (ei_ (0))), some (.int (ei_ (1)))], [.int (ei_ ((h + (-1)))), .ref 16, .int (ei_ (x30)), .int (ei_ (x10)), .int (ei_ (((h + (-1)) - 1))), .ref 16], m1)) rfl ?_
                    refine pw_ild rfl rfl (by omega) (fun x31 (hx31 : x31 = vi_ m1 16 (h + (-1))) rx31 sx31 => ?_)
                    refine pw_callS (As := [.int (ei_ (x10)), .int (ei_ (x30)), .int (ei_ (x31))]) (st := [.int (ei_ (((h + (-1)) - 1))), .ref 16]) rfl (by decide) rfl rfl (Nat.le_of_ble_eq_true rfl) ?_
                    refine cw_joined (by omega) (by omega) (by omega) (fun x32 g33 g34 => ?_)
                    refine pw_ist rfl rfl (by omega) ?_
                    refine pw_steps 3 (s' := (4, [some (.ref 14), some (.int (ei_ ((h + (-1))))), some (.int ((ei_ (k)) + (ei_ (1)))), some (.int (ei_ (x10))), some (.int (ei_ (0))), some (.int (ei_ (1)))], [], wi_ m1 16 (((h + (-1)) - 1)) (x32))) rfl ?_
                    refine pw_cv (congrArg (fun z_ : Int32 => ((4, [some (.ref 14), some (.int (ei_ ((h + (-1))))), some (.int z_), some (.int (ei_ (x10))), some (.int (ei_ (0))), some (.int (ei_ (1)))], [], wi_ m1 16 (((h + (-1)) - 1)) (x32)) : am_S)) (ei_add rfl rfl)) ?_
                    exact ih5 _ (by omega) (h + (-1)) (k + 1) (some (.int (ei_ (x10)))) (some (.int (ei_ (0)))) (some (.int (ei_ (1)))) (wi_ m1 16 (((h + (-1)) - 1)) (x32)) rfl (by omega) (by exact sm_w hs (fun _ _ => rfl)) (by exact xw_join (by omega) (by omega) hx10 (by omega) (by omega) (by omega) (by omega) g33 hx30 hx31 (by omega) hq)
                  · refine pw_steps 11 (s' := (135, [some (.ref 14), some (.int (ei_ (h))), some (.int (ei_ (k))), some (.int (ei_ (x10))), some (.int (ei_ (0))), some (.int (ei_ (1)))], [.int ((ei_ (h)) - (ei_ (1))), .ref 16, .int (ei_ (x10)), .int ((ei_ (h)) - (ei_ (1))), .ref 16], m1)) rfl ?_
                    refine pw_cv (congrArg (fun z_ : Int32 => ((135, [some (.ref 14), some (.int (ei_ (h))), some (.int (ei_ (k))), some (.int (ei_ (x10))), some (.int (ei_ (0))), some (.int (ei_ (1)))], [.int z_, .ref 16, .int (ei_ (x10)), .int ((ei_ (h)) - (ei_ (1))), .ref 16], m1) : am_S)) (ei_sub rfl rfl)) ?_
                    refine pw_cv (congrArg (fun z_ : Int32 => ((135, [some (.ref 14), some (.int (ei_ (h))), some (.int (ei_ (k))), some (.int (ei_ (x10))), some (.int (ei_ (0))), some (.int (ei_ (1)))], [.int (ei_ ((h - 1))), .ref 16, .int (ei_ (x10)), .int z_, .ref 16], m1) : am_S)) (ei_sub rfl rfl)) ?_
                    refine pw_ild rfl rfl (by omega) (fun x35 (hx35 : x35 = vi_ m1 16 (h - 1)) rx35 sx35 => ?_)
                    refine pw_callS (As := [.int (ei_ (x10)), .int (ei_ (x35))]) (st := [.int (ei_ ((h - 1))), .ref 16]) rfl (by decide) rfl rfl (Nat.le_of_ble_eq_true rfl) ?_
                    refine cw_turned (by omega) (by omega) (by omega) (fun x36 g37 g38 => ?_)
                    refine pw_ist rfl rfl (by omega) ?_
                    refine pw_steps 3 (s' := (4, [some (.ref 14), some (.int (ei_ (h))), some (.int ((ei_ (k)) + (ei_ (1)))), some (.int (ei_ (x10))), some (.int (ei_ (0))), some (.int (ei_ (1)))], [], wi_ m1 16 ((h - 1)) (x36))) rfl ?_
                    refine pw_cv (congrArg (fun z_ : Int32 => ((4, [some (.ref 14), some (.int (ei_ (h))), some (.int z_), some (.int (ei_ (x10))), some (.int (ei_ (0))), some (.int (ei_ (1)))], [], wi_ m1 16 ((h - 1)) (x36)) : am_S)) (ei_add rfl rfl)) ?_
                    exact ih5 _ (by omega) h (k + 1) (some (.int (ei_ (x10)))) (some (.int (ei_ (0)))) (some (.int (ei_ (1)))) (wi_ m1 16 ((h - 1)) (x36)) rfl (by omega) (by exact sm_w hs (fun _ _ => rfl)) (by exact xw_turn (by omega) (by omega) hx10 (by omega) (by omega) g37 hx35 (by omega) hq)
                · refine pw_steps 5 (s' := (106, [some (.ref 14), some (.int (ei_ (h))), some (.int (ei_ (k))), some (.int (ei_ (x10))), some (.int (ei_ (0))), some (.int (ei_ (1)))], [.int ((ei_ (h)) - (ei_ (1))), .ref 16], m1)) rfl ?_
                  refine pw_cv (congrArg (fun z_ : Int32 => ((106, [some (.ref 14), some (.int (ei_ (h))), some (.int (ei_ (k))), some (.int (ei_ (x10))), some (.int (ei_ (0))), some (.int (ei_ (1)))], [.int z_, .ref 16], m1) : am_S)) (ei_sub rfl rfl)) ?_
                  refine pw_ild rfl rfl (by omega) (fun x39 (hx39 : x39 = vi_ m1 16 (h - 1)) rx39 sx39 => ?_)
                  refine pw_iret rfl rfl rfl ?_
                  exact k0 x39 m1 (by exact hs) (by exact xw_end (by omega) (by omega) hx10 (by omega) (by omega) hx39 hq) (by omega)
          · refine pw_steps 2 (s' := (14, [some (.int (ei_ (x10)))], [.int (ei_ (6)), .int (ei_ (x10))], m1)) rfl ?_
            refine pw_cmp rfl ⟨rx10, sx10⟩ (by decide) (fun (h40 : 6 ≤ x10) => ?_) (fun (h40 : ¬ (6 ≤ x10)) => ?_)
            · refine pw_steps 1 (s' := (22, [some (.int (ei_ (x10)))], [.int (ei_ (0))], m1)) rfl ?_
              refine pw_iret rfl rfl rfl ?_
              refine pw_steps 2 (s' := (27, [some (.ref 14), some (.int (ei_ (h))), some (.int (ei_ (k))), some (.int (ei_ (x10))), some (.int (ei_ (0))), u3], [.int (ei_ (0))], m1)) rfl ?_
              refine pw_ifT rfl (by decide) (show 0 = 0 by decide) ?_
              refine pw_steps 1 (s' := (35, [some (.ref 14), some (.int (ei_ (h))), some (.int (ei_ (k))), some (.int (ei_ (x10))), some (.int (ei_ (0))), u3], [.int (ei_ (x10))], m1)) rfl ?_
              refine pw_callS (As := [.int (ei_ (x10))]) (st := []) rfl (by decide) rfl rfl (Nat.le_of_ble_eq_true rfl) ?_
              refine pw_intro (I := iX4_needed) (T := tX4_needed) rfl rfl rfl ?_
              refine pw_steps 2 (s' := (3, [some (.int (ei_ (x10)))], [.int (ei_ (59)), .int (ei_ (x10))], m1)) rfl ?_
              refine pw_cmp rfl ⟨rx10, sx10⟩ (by decide) (fun (h41 : x10 = 59) => ?_) (fun (h41 : ¬ (x10 = 59)) => ?_)
              · refine pw_steps 2 (s' := (23, [some (.int (ei_ (x10)))], [.int (ei_ (1))], m1)) rfl ?_
                refine pw_iret rfl rfl rfl ?_
                refine pw_steps 3 (s' := (43, [some (.ref 14), some (.int (ei_ (h))), some (.int (ei_ (k))), some (.int (ei_ (x10))), some (.int (ei_ (0))), some (.int (ei_ (1)))], [.int (ei_ (1)), .int (ei_ (h))], m1)) rfl ?_
                refine pw_cmp rfl (by omega) (by decide) (fun (h42 : h < 1) => ?_) (fun (h42 : ¬ (h < 1)) => ?_)
                · refine pw_steps 1 (s' := (54, [some (.ref 14), some (.int (ei_ (h))), some (.int (ei_ (k))), some (.int (ei_ (x10))), some (.int (ei_ (0))), some (.int (ei_ (1)))], [.int (ei_ (0))], m1)) rfl ?_
                  refine pw_iret rfl rfl rfl ?_
                  exact k0 0 m1 (by exact hs) (by exact xw_few (by omega) (by omega) hx10 (by omega) (by split <;> omega) hq) (by omega)
                · refine pw_steps 2 (s' := (50, [some (.ref 14), some (.int (ei_ (h))), some (.int (ei_ (k))), some (.int (ei_ (x10))), some (.int (ei_ (0))), some (.int (ei_ (1)))], [.int (ei_ (128)), .int (ei_ (h))], m1)) rfl ?_
                  refine pw_cmpT rfl (by omega) (by decide) (show h < 128 by omega) ?_
                  refine pw_steps 1 (s' := (57, [some (.ref 14), some (.int (ei_ (h))), some (.int (ei_ (k))), some (.int (ei_ (x10))), some (.int (ei_ (0))), some (.int (ei_ (1)))], [.int (ei_ (0))], m1)) rfl ?_
                  refine pw_ifT rfl (by decide) (show 0 = 0 by decide) ?_
                  refine pw_steps 2 (s' := (96, [some (.ref 14), some (.int (ei_ (h))), some (.int (ei_ (k))), some (.int (ei_ (x10))), some (.int (ei_ (0))), some (.int (ei_ (1)))], [.int (ei_ (59)), .int (ei_ (x10))], m1)) rfl ?_
                  refine pw_cmpF rfl ⟨rx10, sx10⟩ (by decide) (show ¬ (¬ x10 = 59) by omega) ?_
                  refine pw_steps 5 (s' := (106, [some (.ref 14), some (.int (ei_ (h))), some (.int (ei_ (k))), some (.int (ei_ (x10))), some (.int (ei_ (0))), some (.int (ei_ (1)))], [.int ((ei_ (h)) - (ei_ (1))), .ref 16], m1)) rfl ?_
                  refine pw_cv (congrArg (fun z_ : Int32 => ((106, [some (.ref 14), some (.int (ei_ (h))), some (.int (ei_ (k))), some (.int (ei_ (x10))), some (.int (ei_ (0))), some (.int (ei_ (1)))], [.int z_, .ref 16], m1) : am_S)) (ei_sub rfl rfl)) ?_
                  refine pw_ild rfl rfl (by omega) (fun x43 (hx43 : x43 = vi_ m1 16 (h - 1)) rx43 sx43 => ?_)
                  refine pw_iret rfl rfl rfl ?_
                  exact k0 x43 m1 (by exact hs) (by exact xw_end (by omega) (by omega) hx10 (by omega) (by omega) hx43 hq) (by omega)
              · refine pw_steps 2 (s' := (9, [some (.int (ei_ (x10)))], [.int (ei_ (33)), .int (ei_ (x10))], m1)) rfl ?_
                refine pw_cmp rfl ⟨rx10, sx10⟩ (by decide) (fun (h44 : x10 = 33) => ?_) (fun (h44 : ¬ (x10 = 33)) => ?_)
                · refine pw_steps 2 (s' := (23, [some (.int (ei_ (x10)))], [.int (ei_ (1))], m1)) rfl ?_
                  refine pw_iret rfl rfl rfl ?_
                  refine pw_steps 3 (s' := (43, [some (.ref 14), some (.int (ei_ (h))), some (.int (ei_ (k))), some (.int (ei_ (x10))), some (.int (ei_ (0))), some (.int (ei_ (1)))], [.int (ei_ (1)), .int (ei_ (h))], m1)) rfl ?_
                  refine pw_cmp rfl (by omega) (by decide) (fun (h45 : h < 1) => ?_) (fun (h45 : ¬ (h < 1)) => ?_)
                  · refine pw_steps 1 (s' := (54, [some (.ref 14), some (.int (ei_ (h))), some (.int (ei_ (k))), some (.int (ei_ (x10))), some (.int (ei_ (0))), some (.int (ei_ (1)))], [.int (ei_ (0))], m1)) rfl ?_
                    refine pw_iret rfl rfl rfl ?_
                    exact k0 0 m1 (by exact hs) (by exact xw_few (by omega) (by omega) hx10 (by omega) (by split <;> omega) hq) (by omega)
                  · refine pw_steps 2 (s' := (50, [some (.ref 14), some (.int (ei_ (h))), some (.int (ei_ (k))), some (.int (ei_ (x10))), some (.int (ei_ (0))), some (.int (ei_ (1)))], [.int (ei_ (128)), .int (ei_ (h))], m1)) rfl ?_
                    refine pw_cmpT rfl (by omega) (by decide) (show h < 128 by omega) ?_
                    refine pw_steps 1 (s' := (57, [some (.ref 14), some (.int (ei_ (h))), some (.int (ei_ (k))), some (.int (ei_ (x10))), some (.int (ei_ (0))), some (.int (ei_ (1)))], [.int (ei_ (0))], m1)) rfl ?_
                    refine pw_ifT rfl (by decide) (show 0 = 0 by decide) ?_
                    refine pw_steps 2 (s' := (96, [some (.ref 14), some (.int (ei_ (h))), some (.int (ei_ (k))), some (.int (ei_ (x10))), some (.int (ei_ (0))), some (.int (ei_ (1)))], [.int (ei_ (59)), .int (ei_ (x10))], m1)) rfl ?_
                    refine pw_cmp rfl ⟨rx10, sx10⟩ (by decide) (fun (h46 : ¬ x10 = 59) => ?_) (fun (h46 : ¬ ¬ x10 = 59) => ?_)
                    · refine pw_steps 2 (s' := (111, [some (.ref 14), some (.int (ei_ (h))), some (.int (ei_ (k))), some (.int (ei_ (x10))), some (.int (ei_ (0))), some (.int (ei_ (1)))], [.int (ei_ (33)), .int (ei_ (x10))], m1)) rfl ?_
                      refine pw_cmpT rfl ⟨rx10, sx10⟩ (by decide) (show x10 = 33 by omega) ?_
                      refine pw_steps 11 (s' := (135, [some (.ref 14), some (.int (ei_ (h))), some (.int (ei_ (k))), some (.int (ei_ (x10))), some (.int (ei_ (0))), some (.int (ei_ (1)))], [.int ((ei_ (h)) - (ei_ (1))), .ref 16, .int (ei_ (x10)), .int ((ei_ (h)) - (ei_ (1))), .ref 16], m1)) rfl ?_
                      refine pw_cv (congrArg (fun z_ : Int32 => ((135, [some (.ref 14), some (.int (ei_ (h))), some (.int (ei_ (k))), some (.int (ei_ (x10))), some (.int (ei_ (0))), some (.int (ei_ (1)))], [.int z_, .ref 16, .int (ei_ (x10)), .int ((ei_ (h)) - (ei_ (1))), .ref 16], m1) : am_S)) (ei_sub rfl rfl)) ?_
                      refine pw_cv (congrArg (fun z_ : Int32 => ((135, [some (.ref 14), some (.int (ei_ (h))), some (.int (ei_ (k))), some (.int (ei_ (x10))), some (.int (ei_ (0))), some (.int (ei_ (1)))], [.int (ei_ ((h - 1))), .ref 16, .int (ei_ (x10)), .int z_, .ref 16], m1) : am_S)) (ei_sub rfl rfl)) ?_
                      refine pw_ild rfl rfl (by omega) (fun x47 (hx47 : x47 = vi_ m1 16 (h - 1)) rx47 sx47 => ?_)
                      refine pw_callS (As := [.int (ei_ (x10)), .int (ei_ (x47))]) (st := [.int (ei_ ((h - 1))), .ref 16]) rfl (by decide) rfl rfl (Nat.le_of_ble_eq_true rfl) ?_
                      refine cw_turned (by omega) (by omega) (by omega) (fun x48 g49 g50 => ?_)
                      refine pw_ist rfl rfl (by omega) ?_
                      refine pw_steps 3 (s' := (4, [some (.ref 14), some (.int (ei_ (h))), some (.int ((ei_ (k)) + (ei_ (1)))), some (.int (ei_ (x10))), some (.int (ei_ (0))), some (.int (ei_ (1)))], [], wi_ m1 16 ((h - 1)) (x48))) rfl ?_
                      refine pw_cv (congrArg (fun z_ : Int32 => ((4, [some (.ref 14), some (.int (ei_ (h))), some (.int z_), some (.int (ei_ (x10))), some (.int (ei_ (0))), some (.int (ei_ (1)))], [], wi_ m1 16 ((h - 1)) (x48)) : am_S)) (ei_add rfl rfl)) ?_
                      exact ih5 _ (by omega) h (k + 1) (some (.int (ei_ (x10)))) (some (.int (ei_ (0)))) (some (.int (ei_ (1)))) (wi_ m1 16 ((h - 1)) (x48)) rfl (by omega) (by exact sm_w hs (fun _ _ => rfl)) (by exact xw_turn (by omega) (by omega) hx10 (by omega) (by omega) g49 hx47 (by omega) hq)
                    · refine pw_steps 5 (s' := (106, [some (.ref 14), some (.int (ei_ (h))), some (.int (ei_ (k))), some (.int (ei_ (x10))), some (.int (ei_ (0))), some (.int (ei_ (1)))], [.int ((ei_ (h)) - (ei_ (1))), .ref 16], m1)) rfl ?_
                      refine pw_cv (congrArg (fun z_ : Int32 => ((106, [some (.ref 14), some (.int (ei_ (h))), some (.int (ei_ (k))), some (.int (ei_ (x10))), some (.int (ei_ (0))), some (.int (ei_ (1)))], [.int z_, .ref 16], m1) : am_S)) (ei_sub rfl rfl)) ?_
                      refine pw_ild rfl rfl (by omega) (fun x51 (hx51 : x51 = vi_ m1 16 (h - 1)) rx51 sx51 => ?_)
                      refine pw_iret rfl rfl rfl ?_
                      exact k0 x51 m1 (by exact hs) (by exact xw_end (by omega) (by omega) hx10 (by omega) (by omega) hx51 hq) (by omega)
                · refine pw_steps 2 (s' := (15, [some (.int (ei_ (x10)))], [.int (ei_ (126)), .int (ei_ (x10))], m1)) rfl ?_
                  refine pw_cmp rfl ⟨rx10, sx10⟩ (by decide) (fun (h52 : ¬ x10 = 126) => ?_) (fun (h52 : ¬ ¬ x10 = 126) => ?_)
                  · refine pw_steps 1 (s' := (23, [some (.int (ei_ (x10)))], [.int (ei_ (2))], m1)) rfl ?_
                    refine pw_iret rfl rfl rfl ?_
                    refine pw_steps 3 (s' := (43, [some (.ref 14), some (.int (ei_ (h))), some (.int (ei_ (k))), some (.int (ei_ (x10))), some (.int (ei_ (0))), some (.int (ei_ (2)))], [.int (ei_ (2)), .int (ei_ (h))], m1)) rfl ?_
                    refine pw_cmp rfl (by omega) (by decide) (fun (h53 : h < 2) => ?_) (fun (h53 : ¬ (h < 2)) => ?_)
                    · refine pw_steps 1 (s' := (54, [some (.ref 14), some (.int (ei_ (h))), some (.int (ei_ (k))), some (.int (ei_ (x10))), some (.int (ei_ (0))), some (.int (ei_ (2)))], [.int (ei_ (0))], m1)) rfl ?_
                      refine pw_iret rfl rfl rfl ?_
                      exact k0 0 m1 (by exact hs) (by exact xw_few (by omega) (by omega) hx10 (by omega) (by split <;> omega) hq) (by omega)
                    · refine pw_steps 2 (s' := (50, [some (.ref 14), some (.int (ei_ (h))), some (.int (ei_ (k))), some (.int (ei_ (x10))), some (.int (ei_ (0))), some (.int (ei_ (2)))], [.int (ei_ (128)), .int (ei_ (h))], m1)) rfl ?_
                      refine pw_cmpT rfl (by omega) (by decide) (show h < 128 by omega) ?_
                      refine pw_steps 1 (s' := (57, [some (.ref 14), some (.int (ei_ (h))), some (.int (ei_ (k))), some (.int (ei_ (x10))), some (.int (ei_ (0))), some (.int (ei_ (2)))], [.int (ei_ (0))], m1)) rfl ?_
                      refine pw_ifT rfl (by decide) (show 0 = 0 by decide) ?_
                      refine pw_steps 2 (s' := (96, [some (.ref 14), some (.int (ei_ (h))), some (.int (ei_ (k))), some (.int (ei_ (x10))), some (.int (ei_ (0))), some (.int (ei_ (2)))], [.int (ei_ (59)), .int (ei_ (x10))], m1)) rfl ?_
                      refine pw_cmp rfl ⟨rx10, sx10⟩ (by decide) (fun (h54 : ¬ x10 = 59) => ?_) (fun (h54 : ¬ ¬ x10 = 59) => ?_)
                      · refine pw_steps 2 (s' := (111, [some (.ref 14), some (.int (ei_ (h))), some (.int (ei_ (k))), some (.int (ei_ (x10))), some (.int (ei_ (0))), some (.int (ei_ (2)))], [.int (ei_ (33)), .int (ei_ (x10))], m1)) rfl ?_
                        refine pw_cmpF rfl ⟨rx10, sx10⟩ (by decide) (show ¬ (x10 = 33) by omega) ?_
                        refine pw_steps 2 (s' := (117, [some (.ref 14), some (.int (ei_ (h))), some (.int (ei_ (k))), some (.int (ei_ (x10))), some (.int (ei_ (0))), some (.int (ei_ (2)))], [.int (ei_ (126)), .int (ei_ (x10))], m1)) rfl ?_
                        refine pw_cmp rfl ⟨rx10, sx10⟩ (by decide) (fun (h55 : ¬ x10 = 126) => ?_) (fun (h55 : ¬ ¬ x10 = 126) => ?_)
                        · refine pw_steps 2 (s' := (146, [some (.ref 14), some (.int (ei_ (h))), some (.int (ei_ (k))), some (.int (ei_ (x10))), some (.int (ei_ (0))), some (.int (ei_ (2)))], [.int (ei_ (63)), .int (ei_ (x10))], m1)) rfl ?_
                          refine pw_cmp rfl ⟨rx10, sx10⟩ (by decide) (fun (h56 : x10 = 63) => ?_) (fun (h56 : ¬ (x10 = 63)) => ?_)
                          · refine pw_steps 5 (s' := (188, [some (.ref 14), some (.int (ei_ (h))), some (.int (ei_ (k))), some (.int (ei_ (x10))), some (.int (ei_ (0))), some (.int (ei_ (2)))], [.int ((ei_ (h)) - (ei_ (2))), .ref 16], m1)) rfl ?_
                            refine pw_cv (congrArg (fun z_ : Int32 => ((188, [some (.ref 14), some (.int (ei_ (h))), some (.int (ei_ (k))), some (.int (ei_ (x10))), some (.int (ei_ (0))), some (.int (ei_ (2)))], [.int z_, .ref 16], m1) : am_S)) (ei_sub rfl rfl)) ?_
                            refine pw_ild rfl rfl (by omega) (fun x57 (hx57 : x57 = vi_ m1 16 (h - 2)) rx57 sx57 => ?_)
                            refine pw_if rfl ⟨rx57, sx57⟩ (fun (h58 : x57 = 0) => ?_) (fun (h58 : ¬ (x57 = 0)) => ?_)
                            · refine pw_steps 3 (s' := (4, [some (.ref 14), some (.int ((ei_ (h)) + (ei_ ((-2))))), some (.int ((ei_ (k)) + (ei_ (1)))), some (.int (ei_ (x10))), some (.int (ei_ (0))), some (.int (ei_ (2)))], [], m1)) rfl ?_
                              refine pw_cv (congrArg (fun z_ : Int32 => ((4, [some (.ref 14), some (.int z_), some (.int ((ei_ (k)) + (ei_ (1)))), some (.int (ei_ (x10))), some (.int (ei_ (0))), some (.int (ei_ (2)))], [], m1) : am_S)) (ei_add rfl rfl)) ?_
                              refine pw_cv (congrArg (fun z_ : Int32 => ((4, [some (.ref 14), some (.int (ei_ ((h + (-2))))), some (.int z_), some (.int (ei_ (x10))), some (.int (ei_ (0))), some (.int (ei_ (2)))], [], m1) : am_S)) (ei_add rfl rfl)) ?_
                              exact ih5 _ (by omega) (h + (-2)) (k + 1) (some (.int (ei_ (x10)))) (some (.int (ei_ (0)))) (some (.int (ei_ (2)))) m1 rfl (by omega) (by exact hs) (by exact xw_chc (by omega) (by omega) hx10 (by omega) (by omega) (by omega) hx57 (by omega) hq)
                            · refine pw_steps 5 (s' := (199, [some (.ref 14), some (.int (ei_ (h))), some (.int (ei_ (k))), some (.int (ei_ (x10))), some (.int (ei_ (0))), some (.int (ei_ (2)))], [.int ((ei_ (h)) - (ei_ (1))), .ref 16], m1)) rfl ?_
                              refine pw_cv (congrArg (fun z_ : Int32 => ((199, [some (.ref 14), some (.int (ei_ (h))), some (.int (ei_ (k))), some (.int (ei_ (x10))), some (.int (ei_ (0))), some (.int (ei_ (2)))], [.int z_, .ref 16], m1) : am_S)) (ei_sub rfl rfl)) ?_
                              refine pw_ild rfl rfl (by omega) (fun x59 (hx59 : x59 = vi_ m1 16 (h - 1)) rx59 sx59 => ?_)
                              refine pw_iret rfl rfl rfl ?_
                              exact k0 x59 m1 (by exact hs) (by exact xw_chE (by omega) (by omega) hx10 (by omega) (by omega) hx57 (by omega) (by omega) hx59 hq) (by omega)
                          · refine pw_steps 12 (s' := (167, [some (.ref 14), some (.int ((ei_ (h)) + (ei_ ((-1))))), some (.int (ei_ (k))), some (.int (ei_ (x10))), some (.int (ei_ (0))), some (.int (ei_ (2)))], [.int (((ei_ (h)) + (ei_ ((-1)))) - (ei_ (1))), .ref 16, .int (ei_ (x10)), .int (((ei_ (h)) + (ei_ ((-1)))) - (ei_ (1))), .ref 16], m1)) rfl ?_
                            refine pw_cv (congrArg (fun z_ : Int32 => ((167, [some (.ref 14), some (.int ((ei_ (h)) + (ei_ ((-1))))), some (.int (ei_ (k))), some (.int (ei_ (x10))), some (.int (ei_ (0))), some (.int (ei_ (2)))], [.int z_, .ref 16, .int (ei_ (x10)), .int (((ei_ (h)) + (ei_ ((-1)))) - (ei_ (1))), .ref 16], m1) : am_S)) (ei_sub (ei_add rfl rfl) rfl)) ?_
                            refine pw_cv (congrArg (fun z_ : Int32 => ((167, [some (.ref 14), some (.int ((ei_ (h)) + (ei_ ((-1))))), some (.int (ei_ (k))), some (.int (ei_ (x10))), some (.int (ei_ (0))), some (.int (ei_ (2)))], [.int (ei_ (((h + (-1)) - 1))), .ref 16, .int (ei_ (x10)), .int z_, .ref 16], m1) : am_S)) (ei_sub (ei_add rfl rfl) rfl)) ?_
                            refine pw_cv (congrArg (fun z_ : Int32 => ((167, [some (.ref 14), some (.int z_), some (.int (ei_ (k))), some (.int (ei_ (x10))), some (.int (ei_ (0))), some (.int (ei_ (2)))], [.int (ei_ (((h + (-1)) - 1))), .ref 16, .int (ei_ (x10)), .int (ei_ (((h + (-1)) - 1))), .ref 16], m1) : am_S)) (ei_add rfl rfl)) ?_
                            refine pw_ild rfl rfl (by omega) (fun x60 (hx60 : x60 = vi_ m1 16 ((h + (-1)) - 1)) rx60 sx60 => ?_)
                            refine pw_steps 3 (s' := (173, [some (.ref 14), some (.int (ei_ ((h + (-1))))), some (.int (ei_ (k))), some (.int (ei_ (x10))), some (.int (ei_ (0))), some (.int (ei_ (2)))], [.int (ei_ ((h + (-1)))), .ref 16, .int (ei_ (x60)), .int (ei_ (x10)), .int (ei_ (((h + (-1)) - 1))), .ref 16], m1)) rfl ?_
                            refine pw_ild rfl rfl (by omega) (fun x61 (hx61 : x61 = vi_ m1 16 (h + (-1))) rx61 sx61 => ?_)
                            refine pw_callS (As := [.int (ei_ (x10)), .int (ei_ (x60)), .int (ei_ (x61))]) (st := [.int (ei_ (((h + (-1)) - 1))), .ref 16]) rfl (by decide) rfl rfl (Nat.le_of_ble_eq_true rfl) ?_
                            refine cw_joined (by omega) (by omega) (by omega) (fun x62 g63 g64 => ?_)
                            refine pw_ist rfl rfl (by omega) ?_
                            refine pw_steps 3 (s' := (4, [some (.ref 14), some (.int (ei_ ((h + (-1))))), some (.int ((ei_ (k)) + (ei_ (1)))), some (.int (ei_ (x10))), some (.int (ei_ (0))), some (.int (ei_ (2)))], [], wi_ m1 16 (((h + (-1)) - 1)) (x62))) rfl ?_
                            refine pw_cv (congrArg (fun z_ : Int32 => ((4, [some (.ref 14), some (.int (ei_ ((h + (-1))))), some (.int z_), some (.int (ei_ (x10))), some (.int (ei_ (0))), some (.int (ei_ (2)))], [], wi_ m1 16 (((h + (-1)) - 1)) (x62)) : am_S)) (ei_add rfl rfl)) ?_
                            exact ih5 _ (by omega) (h + (-1)) (k + 1) (some (.int (ei_ (x10)))) (some (.int (ei_ (0)))) (some (.int (ei_ (2)))) (wi_ m1 16 (((h + (-1)) - 1)) (x62)) rfl (by omega) (by exact sm_w hs (fun _ _ => rfl)) (by exact xw_join (by omega) (by omega) hx10 (by omega) (by omega) (by omega) (by omega) g63 hx60 hx61 (by omega) hq)
                        · refine pw_steps 11 (s' := (135, [some (.ref 14), some (.int (ei_ (h))), some (.int (ei_ (k))), some (.int (ei_ (x10))), some (.int (ei_ (0))), some (.int (ei_ (2)))], [.int ((ei_ (h)) - (ei_ (1))), .ref 16, .int (ei_ (x10)), .int ((ei_ (h)) - (ei_ (1))), .ref 16], m1)) rfl ?_
                          refine pw_cv (congrArg (fun z_ : Int32 => ((135, [some (.ref 14), some (.int (ei_ (h))), some (.int (ei_ (k))), some (.int (ei_ (x10))), some (.int (ei_ (0))), some (.int (ei_ (2)))], [.int z_, .ref 16, .int (ei_ (x10)), .int ((ei_ (h)) - (ei_ (1))), .ref 16], m1) : am_S)) (ei_sub rfl rfl)) ?_
                          refine pw_cv (congrArg (fun z_ : Int32 => ((135, [some (.ref 14), some (.int (ei_ (h))), some (.int (ei_ (k))), some (.int (ei_ (x10))), some (.int (ei_ (0))), some (.int (ei_ (2)))], [.int (ei_ ((h - 1))), .ref 16, .int (ei_ (x10)), .int z_, .ref 16], m1) : am_S)) (ei_sub rfl rfl)) ?_
                          refine pw_ild rfl rfl (by omega) (fun x65 (hx65 : x65 = vi_ m1 16 (h - 1)) rx65 sx65 => ?_)
                          refine pw_callS (As := [.int (ei_ (x10)), .int (ei_ (x65))]) (st := [.int (ei_ ((h - 1))), .ref 16]) rfl (by decide) rfl rfl (Nat.le_of_ble_eq_true rfl) ?_
                          refine cw_turned (by omega) (by omega) (by omega) (fun x66 g67 g68 => ?_)
                          refine pw_ist rfl rfl (by omega) ?_
                          refine pw_steps 3 (s' := (4, [some (.ref 14), some (.int (ei_ (h))), some (.int ((ei_ (k)) + (ei_ (1)))), some (.int (ei_ (x10))), some (.int (ei_ (0))), some (.int (ei_ (2)))], [], wi_ m1 16 ((h - 1)) (x66))) rfl ?_
                          refine pw_cv (congrArg (fun z_ : Int32 => ((4, [some (.ref 14), some (.int (ei_ (h))), some (.int z_), some (.int (ei_ (x10))), some (.int (ei_ (0))), some (.int (ei_ (2)))], [], wi_ m1 16 ((h - 1)) (x66)) : am_S)) (ei_add rfl rfl)) ?_
                          exact ih5 _ (by omega) h (k + 1) (some (.int (ei_ (x10)))) (some (.int (ei_ (0)))) (some (.int (ei_ (2)))) (wi_ m1 16 ((h - 1)) (x66)) rfl (by omega) (by exact sm_w hs (fun _ _ => rfl)) (by exact xw_turn (by omega) (by omega) hx10 (by omega) (by omega) g67 hx65 (by omega) hq)
                      · refine pw_steps 5 (s' := (106, [some (.ref 14), some (.int (ei_ (h))), some (.int (ei_ (k))), some (.int (ei_ (x10))), some (.int (ei_ (0))), some (.int (ei_ (2)))], [.int ((ei_ (h)) - (ei_ (1))), .ref 16], m1)) rfl ?_
                        refine pw_cv (congrArg (fun z_ : Int32 => ((106, [some (.ref 14), some (.int (ei_ (h))), some (.int (ei_ (k))), some (.int (ei_ (x10))), some (.int (ei_ (0))), some (.int (ei_ (2)))], [.int z_, .ref 16], m1) : am_S)) (ei_sub rfl rfl)) ?_
                        refine pw_ild rfl rfl (by omega) (fun x69 (hx69 : x69 = vi_ m1 16 (h - 1)) rx69 sx69 => ?_)
                        refine pw_iret rfl rfl rfl ?_
                        exact k0 x69 m1 (by exact hs) (by exact xw_end (by omega) (by omega) hx10 (by omega) (by omega) hx69 hq) (by omega)
                  · refine pw_steps 2 (s' := (23, [some (.int (ei_ (x10)))], [.int (ei_ (1))], m1)) rfl ?_
                    refine pw_iret rfl rfl rfl ?_
                    refine pw_steps 3 (s' := (43, [some (.ref 14), some (.int (ei_ (h))), some (.int (ei_ (k))), some (.int (ei_ (x10))), some (.int (ei_ (0))), some (.int (ei_ (1)))], [.int (ei_ (1)), .int (ei_ (h))], m1)) rfl ?_
                    refine pw_cmp rfl (by omega) (by decide) (fun (h70 : h < 1) => ?_) (fun (h70 : ¬ (h < 1)) => ?_)
                    · refine pw_steps 1 (s' := (54, [some (.ref 14), some (.int (ei_ (h))), some (.int (ei_ (k))), some (.int (ei_ (x10))), some (.int (ei_ (0))), some (.int (ei_ (1)))], [.int (ei_ (0))], m1)) rfl ?_
                      refine pw_iret rfl rfl rfl ?_
                      exact k0 0 m1 (by exact hs) (by exact xw_few (by omega) (by omega) hx10 (by omega) (by split <;> omega) hq) (by omega)
                    · refine pw_steps 2 (s' := (50, [some (.ref 14), some (.int (ei_ (h))), some (.int (ei_ (k))), some (.int (ei_ (x10))), some (.int (ei_ (0))), some (.int (ei_ (1)))], [.int (ei_ (128)), .int (ei_ (h))], m1)) rfl ?_
                      refine pw_cmpT rfl (by omega) (by decide) (show h < 128 by omega) ?_
                      refine pw_steps 1 (s' := (57, [some (.ref 14), some (.int (ei_ (h))), some (.int (ei_ (k))), some (.int (ei_ (x10))), some (.int (ei_ (0))), some (.int (ei_ (1)))], [.int (ei_ (0))], m1)) rfl ?_
                      refine pw_ifT rfl (by decide) (show 0 = 0 by decide) ?_
                      refine pw_steps 2 (s' := (96, [some (.ref 14), some (.int (ei_ (h))), some (.int (ei_ (k))), some (.int (ei_ (x10))), some (.int (ei_ (0))), some (.int (ei_ (1)))], [.int (ei_ (59)), .int (ei_ (x10))], m1)) rfl ?_
                      refine pw_cmp rfl ⟨rx10, sx10⟩ (by decide) (fun (h71 : ¬ x10 = 59) => ?_) (fun (h71 : ¬ ¬ x10 = 59) => ?_)
                      · refine pw_steps 2 (s' := (111, [some (.ref 14), some (.int (ei_ (h))), some (.int (ei_ (k))), some (.int (ei_ (x10))), some (.int (ei_ (0))), some (.int (ei_ (1)))], [.int (ei_ (33)), .int (ei_ (x10))], m1)) rfl ?_
                        refine pw_cmpF rfl ⟨rx10, sx10⟩ (by decide) (show ¬ (x10 = 33) by omega) ?_
                        refine pw_steps 2 (s' := (117, [some (.ref 14), some (.int (ei_ (h))), some (.int (ei_ (k))), some (.int (ei_ (x10))), some (.int (ei_ (0))), some (.int (ei_ (1)))], [.int (ei_ (126)), .int (ei_ (x10))], m1)) rfl ?_
                        refine pw_cmp rfl ⟨rx10, sx10⟩ (by decide) (fun (h72 : ¬ x10 = 126) => ?_) (fun (h72 : ¬ ¬ x10 = 126) => ?_)
                        · refine pw_steps 2 (s' := (146, [some (.ref 14), some (.int (ei_ (h))), some (.int (ei_ (k))), some (.int (ei_ (x10))), some (.int (ei_ (0))), some (.int (ei_ (1)))], [.int (ei_ (63)), .int (ei_ (x10))], m1)) rfl ?_
                          refine pw_cmp rfl ⟨rx10, sx10⟩ (by decide) (fun (h73 : x10 = 63) => ?_) (fun (h73 : ¬ (x10 = 63)) => ?_)
                          · refine pw_steps 5 (s' := (188, [some (.ref 14), some (.int (ei_ (h))), some (.int (ei_ (k))), some (.int (ei_ (x10))), some (.int (ei_ (0))), some (.int (ei_ (1)))], [.int ((ei_ (h)) - (ei_ (2))), .ref 16], m1)) rfl ?_
                            refine pw_cv (congrArg (fun z_ : Int32 => ((188, [some (.ref 14), some (.int (ei_ (h))), some (.int (ei_ (k))), some (.int (ei_ (x10))), some (.int (ei_ (0))), some (.int (ei_ (1)))], [.int z_, .ref 16], m1) : am_S)) (ei_sub rfl rfl)) ?_
                            refine pw_ild rfl rfl (by omega) (fun x74 (hx74 : x74 = vi_ m1 16 (h - 2)) rx74 sx74 => ?_)
                            refine pw_if rfl ⟨rx74, sx74⟩ (fun (h75 : x74 = 0) => ?_) (fun (h75 : ¬ (x74 = 0)) => ?_)
                            · refine pw_steps 3 (s' := (4, [some (.ref 14), some (.int ((ei_ (h)) + (ei_ ((-2))))), some (.int ((ei_ (k)) + (ei_ (1)))), some (.int (ei_ (x10))), some (.int (ei_ (0))), some (.int (ei_ (1)))], [], m1)) rfl ?_
                              refine pw_cv (congrArg (fun z_ : Int32 => ((4, [some (.ref 14), some (.int z_), some (.int ((ei_ (k)) + (ei_ (1)))), some (.int (ei_ (x10))), some (.int (ei_ (0))), some (.int (ei_ (1)))], [], m1) : am_S)) (ei_add rfl rfl)) ?_
                              refine pw_cv (congrArg (fun z_ : Int32 => ((4, [some (.ref 14), some (.int (ei_ ((h + (-2))))), some (.int z_), some (.int (ei_ (x10))), some (.int (ei_ (0))), some (.int (ei_ (1)))], [], m1) : am_S)) (ei_add rfl rfl)) ?_
                              exact ih5 _ (by omega) (h + (-2)) (k + 1) (some (.int (ei_ (x10)))) (some (.int (ei_ (0)))) (some (.int (ei_ (1)))) m1 rfl (by omega) (by exact hs) (by exact xw_chc (by omega) (by omega) hx10 (by omega) (by omega) (by omega) hx74 (by omega) hq)
                            · refine pw_steps 5 (s' := (199, [some (.ref 14), some (.int (ei_ (h))), some (.int (ei_ (k))), some (.int (ei_ (x10))), some (.int (ei_ (0))), some (.int (ei_ (1)))], [.int ((ei_ (h)) - (ei_ (1))), .ref 16], m1)) rfl ?_
                              refine pw_cv (congrArg (fun z_ : Int32 => ((199, [some (.ref 14), some (.int (ei_ (h))), some (.int (ei_ (k))), some (.int (ei_ (x10))), some (.int (ei_ (0))), some (.int (ei_ (1)))], [.int z_, .ref 16], m1) : am_S)) (ei_sub rfl rfl)) ?_
                              refine pw_ild rfl rfl (by omega) (fun x76 (hx76 : x76 = vi_ m1 16 (h - 1)) rx76 sx76 => ?_)
                              refine pw_iret rfl rfl rfl ?_
                              exact k0 x76 m1 (by exact hs) (by exact xw_chE (by omega) (by omega) hx10 (by omega) (by omega) hx74 (by omega) (by omega) hx76 hq) (by omega)
                          · refine pw_steps 12 (s' := (167, [some (.ref 14), some (.int ((ei_ (h)) + (ei_ ((-1))))), some (.int (ei_ (k))), some (.int (ei_ (x10))), some (.int (ei_ (0))), some (.int (ei_ (1)))], [.int (((ei_ (h)) + (ei_ ((-1)))) - (ei_ (1))), .ref 16, .int (ei_ (x10)), .int (((ei_ (h)) + (ei_ ((-1)))) - (ei_ (1))), .ref 16], m1)) rfl ?_
                            refine pw_cv (congrArg (fun z_ : Int32 => ((167, [some (.ref 14), some (.int ((ei_ (h)) + (ei_ ((-1))))), some (.int (ei_ (k))), some (.int (ei_ (x10))), some (.int (ei_ (0))), some (.int (ei_ (1)))], [.int z_, .ref 16, .int (ei_ (x10)), .int (((ei_ (h)) + (ei_ ((-1)))) - (ei_ (1))), .ref 16], m1) : am_S)) (ei_sub (ei_add rfl rfl) rfl)) ?_
                            refine pw_cv (congrArg (fun z_ : Int32 => ((167, [some (.ref 14), some (.int ((ei_ (h)) + (ei_ ((-1))))), some (.int (ei_ (k))), some (.int (ei_ (x10))), some (.int (ei_ (0))), some (.int (ei_ (1)))], [.int (ei_ (((h + (-1)) - 1))), .ref 16, .int (ei_ (x10)), .int z_, .ref 16], m1) : am_S)) (ei_sub (ei_add rfl rfl) rfl)) ?_
                            refine pw_cv (congrArg (fun z_ : Int32 => ((167, [some (.ref 14), some (.int z_), some (.int (ei_ (k))), some (.int (ei_ (x10))), some (.int (ei_ (0))), some (.int (ei_ (1)))], [.int (ei_ (((h + (-1)) - 1))), .ref 16, .int (ei_ (x10)), .int (ei_ (((h + (-1)) - 1))), .ref 16], m1) : am_S)) (ei_add rfl rfl)) ?_
                            refine pw_ild rfl rfl (by omega) (fun x77 (hx77 : x77 = vi_ m1 16 ((h + (-1)) - 1)) rx77 sx77 => ?_)
                            refine pw_steps 3 (s' := (173, [some (.ref 14), some (.int (ei_ ((h + (-1))))), some (.int (ei_ (k))), some (.int (ei_ (x10))), some (.int (ei_ (0))), some (.int (ei_ (1)))], [.int (ei_ ((h + (-1)))), .ref 16, .int (ei_ (x77)), .int (ei_ (x10)), .int (ei_ (((h + (-1)) - 1))), .ref 16], m1)) rfl ?_
                            refine pw_ild rfl rfl (by omega) (fun x78 (hx78 : x78 = vi_ m1 16 (h + (-1))) rx78 sx78 => ?_)
                            refine pw_callS (As := [.int (ei_ (x10)), .int (ei_ (x77)), .int (ei_ (x78))]) (st := [.int (ei_ (((h + (-1)) - 1))), .ref 16]) rfl (by decide) rfl rfl (Nat.le_of_ble_eq_true rfl) ?_
                            refine cw_joined (by omega) (by omega) (by omega) (fun x79 g80 g81 => ?_)
                            refine pw_ist rfl rfl (by omega) ?_
                            refine pw_steps 3 (s' := (4, [some (.ref 14), some (.int (ei_ ((h + (-1))))), some (.int ((ei_ (k)) + (ei_ (1)))), some (.int (ei_ (x10))), some (.int (ei_ (0))), some (.int (ei_ (1)))], [], wi_ m1 16 (((h + (-1)) - 1)) (x79))) rfl ?_
                            refine pw_cv (congrArg (fun z_ : Int32 => ((4, [some (.ref 14), some (.int (ei_ ((h + (-1))))), some (.int z_), some (.int (ei_ (x10))), some (.int (ei_ (0))), some (.int (ei_ (1)))], [], wi_ m1 16 (((h + (-1)) - 1)) (x79)) : am_S)) (ei_add rfl rfl)) ?_
                            exact ih5 _ (by omega) (h + (-1)) (k + 1) (some (.int (ei_ (x10)))) (some (.int (ei_ (0)))) (some (.int (ei_ (1)))) (wi_ m1 16 (((h + (-1)) - 1)) (x79)) rfl (by omega) (by exact sm_w hs (fun _ _ => rfl)) (by exact xw_join (by omega) (by omega) hx10 (by omega) (by omega) (by omega) (by omega) g80 hx77 hx78 (by omega) hq)
                        · refine pw_steps 11 (s' := (135, [some (.ref 14), some (.int (ei_ (h))), some (.int (ei_ (k))), some (.int (ei_ (x10))), some (.int (ei_ (0))), some (.int (ei_ (1)))], [.int ((ei_ (h)) - (ei_ (1))), .ref 16, .int (ei_ (x10)), .int ((ei_ (h)) - (ei_ (1))), .ref 16], m1)) rfl ?_
                          refine pw_cv (congrArg (fun z_ : Int32 => ((135, [some (.ref 14), some (.int (ei_ (h))), some (.int (ei_ (k))), some (.int (ei_ (x10))), some (.int (ei_ (0))), some (.int (ei_ (1)))], [.int z_, .ref 16, .int (ei_ (x10)), .int ((ei_ (h)) - (ei_ (1))), .ref 16], m1) : am_S)) (ei_sub rfl rfl)) ?_
                          refine pw_cv (congrArg (fun z_ : Int32 => ((135, [some (.ref 14), some (.int (ei_ (h))), some (.int (ei_ (k))), some (.int (ei_ (x10))), some (.int (ei_ (0))), some (.int (ei_ (1)))], [.int (ei_ ((h - 1))), .ref 16, .int (ei_ (x10)), .int z_, .ref 16], m1) : am_S)) (ei_sub rfl rfl)) ?_
                          refine pw_ild rfl rfl (by omega) (fun x82 (hx82 : x82 = vi_ m1 16 (h - 1)) rx82 sx82 => ?_)
                          refine pw_callS (As := [.int (ei_ (x10)), .int (ei_ (x82))]) (st := [.int (ei_ ((h - 1))), .ref 16]) rfl (by decide) rfl rfl (Nat.le_of_ble_eq_true rfl) ?_
                          refine cw_turned (by omega) (by omega) (by omega) (fun x83 g84 g85 => ?_)
                          refine pw_ist rfl rfl (by omega) ?_
                          refine pw_steps 3 (s' := (4, [some (.ref 14), some (.int (ei_ (h))), some (.int ((ei_ (k)) + (ei_ (1)))), some (.int (ei_ (x10))), some (.int (ei_ (0))), some (.int (ei_ (1)))], [], wi_ m1 16 ((h - 1)) (x83))) rfl ?_
                          refine pw_cv (congrArg (fun z_ : Int32 => ((4, [some (.ref 14), some (.int (ei_ (h))), some (.int z_), some (.int (ei_ (x10))), some (.int (ei_ (0))), some (.int (ei_ (1)))], [], wi_ m1 16 ((h - 1)) (x83)) : am_S)) (ei_add rfl rfl)) ?_
                          exact ih5 _ (by omega) h (k + 1) (some (.int (ei_ (x10)))) (some (.int (ei_ (0)))) (some (.int (ei_ (1)))) (wi_ m1 16 ((h - 1)) (x83)) rfl (by omega) (by exact sm_w hs (fun _ _ => rfl)) (by exact xw_turn (by omega) (by omega) hx10 (by omega) (by omega) g84 hx82 (by omega) hq)
                      · refine pw_steps 5 (s' := (106, [some (.ref 14), some (.int (ei_ (h))), some (.int (ei_ (k))), some (.int (ei_ (x10))), some (.int (ei_ (0))), some (.int (ei_ (1)))], [.int ((ei_ (h)) - (ei_ (1))), .ref 16], m1)) rfl ?_
                        refine pw_cv (congrArg (fun z_ : Int32 => ((106, [some (.ref 14), some (.int (ei_ (h))), some (.int (ei_ (k))), some (.int (ei_ (x10))), some (.int (ei_ (0))), some (.int (ei_ (1)))], [.int z_, .ref 16], m1) : am_S)) (ei_sub rfl rfl)) ?_
                        refine pw_ild rfl rfl (by omega) (fun x86 (hx86 : x86 = vi_ m1 16 (h - 1)) rx86 sx86 => ?_)
                        refine pw_iret rfl rfl rfl ?_
                        exact k0 x86 m1 (by exact hs) (by exact xw_end (by omega) (by omega) hx10 (by omega) (by omega) hx86 hq) (by omega)
            · refine pw_steps 2 (s' := (22, [some (.int (ei_ (x10)))], [.int (ei_ (1))], m1)) rfl ?_
              refine pw_iret rfl rfl rfl ?_
              refine pw_steps 2 (s' := (27, [some (.ref 14), some (.int (ei_ (h))), some (.int (ei_ (k))), some (.int (ei_ (x10))), some (.int (ei_ (1))), u3], [.int (ei_ (1))], m1)) rfl ?_
              refine pw_ifF rfl (by decide) (show ¬ (1 = 0) by decide) ?_
              refine pw_steps 5 (s' := (43, [some (.ref 14), some (.int (ei_ (h))), some (.int (ei_ (k))), some (.int (ei_ (x10))), some (.int (ei_ (1))), some (.int (ei_ (0)))], [.int (ei_ (0)), .int (ei_ (h))], m1)) rfl ?_
              refine pw_cmpF rfl (by omega) (by decide) (show ¬ (h < 0) by omega) ?_
              refine pw_steps 2 (s' := (50, [some (.ref 14), some (.int (ei_ (h))), some (.int (ei_ (k))), some (.int (ei_ (x10))), some (.int (ei_ (1))), some (.int (ei_ (0)))], [.int (ei_ (128)), .int (ei_ (h))], m1)) rfl ?_
              refine pw_cmpT rfl (by omega) (by decide) (show h < 128 by omega) ?_
              refine pw_steps 1 (s' := (57, [some (.ref 14), some (.int (ei_ (h))), some (.int (ei_ (k))), some (.int (ei_ (x10))), some (.int (ei_ (1))), some (.int (ei_ (0)))], [.int (ei_ (1))], m1)) rfl ?_
              refine pw_ifF rfl (by decide) (show ¬ (1 = 0) by decide) ?_
              refine pw_steps 5 (s' := (69, [some (.ref 14), some (.int (ei_ (h))), some (.int (ei_ (k))), some (.int (ei_ (x10))), some (.int (ei_ (1))), some (.int (ei_ (0)))], [.int (ei_ (256)), .int (ei_ (x10)), .int (ei_ (h)), .ref 16], m1)) rfl ?_
              refine pw_cmpT rfl ⟨rx10, sx10⟩ (by decide) (show x10 < 256 by omega) ?_
              refine pw_steps 3 (s' := (85, [some (.ref 14), some (.int (ei_ (h))), some (.int (ei_ (k))), some (.int (ei_ (x10))), some (.int (ei_ (1))), some (.int (ei_ (0)))], [.int (ei_ (x10)), .ref 17, .int (ei_ (h)), .ref 16], m1)) rfl ?_
              refine pw_ild rfl rfl (by omega) (fun x87 (hx87 : x87 = vi_ m1 17 x10) rx87 sx87 => ?_)
              replace hx87 : x87 = vi_ m 17 x10 := hx87.trans (sm_v hs rfl)
              refine pw_ist rfl rfl (by omega) ?_
              refine pw_steps 4 (s' := (4, [some (.ref 14), some (.int ((ei_ (h)) + (ei_ (1)))), some (.int ((ei_ (k)) + (ei_ (1)))), some (.int (ei_ (x10))), some (.int (ei_ (1))), some (.int (ei_ (0)))], [], wi_ m1 16 (h) (x87))) rfl ?_
              refine pw_cv (congrArg (fun z_ : Int32 => ((4, [some (.ref 14), some (.int z_), some (.int ((ei_ (k)) + (ei_ (1)))), some (.int (ei_ (x10))), some (.int (ei_ (1))), some (.int (ei_ (0)))], [], wi_ m1 16 (h) (x87)) : am_S)) (ei_add rfl rfl)) ?_
              refine pw_cv (congrArg (fun z_ : Int32 => ((4, [some (.ref 14), some (.int (ei_ ((h + 1)))), some (.int z_), some (.int (ei_ (x10))), some (.int (ei_ (1))), some (.int (ei_ (0)))], [], wi_ m1 16 (h) (x87)) : am_S)) (ei_add rfl rfl)) ?_
              exact ih5 _ (by omega) (h + 1) (k + 1) (some (.int (ei_ (x10)))) (some (.int (ei_ (1)))) (some (.int (ei_ (0)))) (wi_ m1 16 (h) (x87)) rfl (by omega) (by exact sm_w hs (fun _ _ => rfl)) (by exact xw_laid (by omega) (by omega) hx10 (by omega) (by unfold ly_; omega) (by omega) (by omega) hq)
  exact L6 _ 0 0 none none none m rfl (by omega) (by exact sm_rfl m) (by rw [Int.sub_zero]; rfl)

