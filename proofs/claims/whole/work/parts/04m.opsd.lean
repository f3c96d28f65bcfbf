
/-! ===== operations that only ask, with loops: one answer for both ===== -/
theorem cn_su {f : Int → Int} {v : Int} : ∀ n : Nat, cn_ f v n = su_ (fun j => if f j = v then 1 else 0) n := by
  intro n
  induction n with
  | zero => rfl
  | succ n ih => simp only [cn_, su_, ih]
def wt_ (m : am_M) (n w j : Int) : Int := if w = 2 then lf_ (vi_ m 5 j) (rn_ m j) n else if w = 1 then (if lf_ (vi_ m 5 j) (rn_ m j) n = 0 then 1 else 0) else (if lf_ (vi_ m 5 j) (rn_ m j) n < 10 * vi_ m 2 j then 1 else 0)
def sw_ (m : am_M) (n w : Int) : Int := if 0 ≤ n ∧ n ≤ 99 ∧ 0 ≤ w ∧ w ≤ 2 then su_ (wt_ m n w) (vi_ m 1 1).toNat else -1
/-- the first day behind which less than b is left -/
def fr_ (l r b : Int) : Nat → Int → Int
  | 0, _ => -2
  | k + 1, x => if lf_ l r x < b then x else fr_ l r b k (x + 1)
def fd_ (l r b : Int) : Int := fr_ l r b 100 0
theorem fr_s {l r b : Int} : ∀ (k : Nat) (x : Int), 0 ≤ x → x + k = 100 → (∀ j, 0 ≤ j → j < x → ¬ lf_ l r j < b) → fs_ (fun j => lf_ l r j < b) (fr_ l r b k x) := by
  intro k
  induction k with
  | zero => intro x h1 h2 h3; exact Or.inr ⟨rfl, fun j a c => h3 j a (by omega)⟩
  | succ k ih =>
    intro x h1 h2 h3
    simp only [fr_]
    by_cases h : lf_ l r x < b
    · rw [if_pos h]; exact Or.inl ⟨h1, by omega, h, h3⟩
    · rw [if_neg h]
      refine ih (x + 1) (by omega) (by omega) (fun j a c => ?_)
      by_cases e : j = x
      · rw [e]; exact h
      · exact h3 j a (by omega)
theorem fs_n {c : Int → Prop} {x : Int} (h : fs_ c x) : x = -2 ∨ 0 ≤ x := by
  rcases h with ⟨h, _⟩ | ⟨h, _⟩
  · exact Or.inr h
  · exact Or.inl h
theorem fd_s (l r b : Int) : fs_ (fun j => lf_ l r j < b) (fd_ l r b) := fr_s 100 0 (by omega) (by omega) (fun j a c => by omega)
/-- of the first n: which has the least day, the day -/
def la_ (g : Int → Int) : Nat → Int × Int
  | 0 => (-2, 100)
  | n + 1 => if 0 ≤ g n ∧ g n < (la_ g n).2 then ((n : Int), g n) else la_ g n
theorem la_s {g : Int → Int} {k b f : Int} (h : 0 ≤ k) (e : (b, f) = la_ g k.toNat) : la_ g (k + 1).toNat = if 0 ≤ g k ∧ g k < f then (k, g k) else (b, f) := by
  rw [show (k + 1).toNat = k.toNat + 1 by omega]
  simp only [la_, ← e]
  rw [Int.toNat_of_nonneg h]
def sl_l (m : am_M) : Int := (la_ (fun j => fd_ (vi_ m 5 j) (rn_ m j) 1) (vi_ m 1 1).toNat).1
/-- of the first n: who has most, how many -/
def cr_ (g : Int → Int) : Nat → Int × Int
  | 0 => (-2, 0)
  | n + 1 => if (cr_ g n).2 < g n then ((n : Int), g n) else cr_ g n
theorem cr_s {g : Int → Int} {k b f : Int} (h : 0 ≤ k) (e : (b, f) = cr_ g k.toNat) : cr_ g (k + 1).toNat = if f < g k then (k, g k) else (b, f) := by
  rw [show (k + 1).toNat = k.toNat + 1 by omega]
  simp only [cr_, ← e]
  rw [Int.toNat_of_nonneg h]
def sc_c (m : am_M) (w : Int) : Int := if 0 ≤ w ∧ w ≤ 1 then (if w = 0 then (cr_ (fun j => cn_ (vi_ m 4) j 8) (vi_ m 1 1).toNat).2 else (cr_ (fun j => cn_ (vi_ m 4) j 8) (vi_ m 1 1).toNat).1) else -1

set_option maxHeartbeats 4000000 in
set_option maxRecDepth 20000 in
theorem cs_winter {q : am_X} {d : Nat} {m : am_M} {Q : Option Value → am_M → Prop} {m0 : am_M} {a : Int} {b : Int}  (p0 : rP_ m0) (p1 : rD_ m0) (p2 : rZ_ m0) (p3 : rL_ m0) (p4 : sm_ pSc m0 m) (p5 : -2147483648 ≤ a ∧ a < 2147483648) (p6 : -2147483648 ≤ b ∧ b < 2147483648) (k0 : ∀ (x : Int) (m1 : am_M), (x = sw_ m0 a b) → (sm_ pSc m0 m1) → Q (some (.int (ei_ (x)))) m1) : pw_C q (d + 60) 59 [.ref 0, .int (ei_ (a)), .int (ei_ (b))] m Q := by
  obtain ⟨hP1, hP2, hP3, hP4⟩ := id p0
  have hmw := mW_of p0 p1
  have hmf := mF_of p0 p1
  refine pw_intro (I := iX8_winter) (T := tX8_winter) rfl rfl rfl ?_
  refine pw_steps 1 (s' := (1, [some (.ref 0), some (.int (ei_ (a))), some (.int (ei_ (b))), none, none, none], [.int (ei_ (a))], m)) rfl ?_
  refine pw_callS (As := [.int (ei_ (a))]) (st := []) rfl (by decide) rfl rfl (Nat.le_of_ble_eq_true rfl) ?_
  refine pw_intro (I := iX8_isTo99) (T := tX8_isTo99) rfl rfl rfl ?_
  refine pw_steps 1 (s' := (1, [some (.int (ei_ (a)))], [.int (ei_ (a))], m)) rfl ?_
  refine pw_if rfl p5 (fun (h1 : a < 0) => ?_) (fun (h1 : ¬ (a < 0)) => ?_)
  · refine pw_steps 1 (s' := (15, [some (.int (ei_ (a)))], [.int (ei_ (0))], m)) rfl ?_
    refine pw_iret rfl rfl rfl ?_
    refine pw_ifT rfl (by decide) (show 0 = 0 by decide) ?_
    refine pw_steps 1 (s' := (17, [some (.ref 0), some (.int (ei_ (a))), some (.int (ei_ (b))), none, none, none], [.int (ei_ ((-1)))], m)) rfl ?_
    refine pw_iret rfl rfl rfl ?_
    exact k0 (-1) m (by unfold sw_; rw [if_neg (by omega)]) (p4)
  · refine pw_steps 2 (s' := (7, [some (.int (ei_ (a)))], [.int (ei_ (99)), .int (ei_ (a))], m)) rfl ?_
    refine pw_cmp rfl p5 (by decide) (fun (h2 : 99 < a) => ?_) (fun (h2 : ¬ (99 < a)) => ?_)
    · refine pw_steps 1 (s' := (15, [some (.int (ei_ (a)))], [.int (ei_ (0))], m)) rfl ?_
      refine pw_iret rfl rfl rfl ?_
      refine pw_ifT rfl (by decide) (show 0 = 0 by decide) ?_
      refine pw_steps 1 (s' := (17, [some (.ref 0), some (.int (ei_ (a))), some (.int (ei_ (b))), none, none, none], [.int (ei_ ((-1)))], m)) rfl ?_
      refine pw_iret rfl rfl rfl ?_
      exact k0 (-1) m (by unfold sw_; rw [if_neg (by omega)]) (p4)
    · refine pw_steps 2 (s' := (15, [some (.int (ei_ (a)))], [.int (ei_ (1))], m)) rfl ?_
      refine pw_iret rfl rfl rfl ?_
      refine pw_ifF rfl (by decide) (show ¬ (1 = 0) by decide) ?_
      refine pw_steps 1 (s' := (8, [some (.ref 0), some (.int (ei_ (a))), some (.int (ei_ (b))), none, none, none], [.int (ei_ (b))], m)) rfl ?_
      refine pw_if rfl p6 (fun (h3 : b < 0) => ?_) (fun (h3 : ¬ (b < 0)) => ?_)
      · refine pw_steps 1 (s' := (17, [some (.ref 0), some (.int (ei_ (a))), some (.int (ei_ (b))), none, none, none], [.int (ei_ ((-1)))], m)) rfl ?_
        refine pw_iret rfl rfl rfl ?_
        exact k0 (-1) m (by unfold sw_; rw [if_neg (by omega)]) (p4)
      · refine pw_steps 2 (s' := (13, [some (.ref 0), some (.int (ei_ (a))), some (.int (ei_ (b))), none, none, none], [.int (ei_ (2)), .int (ei_ (b))], m)) rfl ?_
        refine pw_cmp rfl p6 (by decide) (fun (h4 : b ≤ 2) => ?_) (fun (h4 : ¬ (b ≤ 2)) => ?_)
        · refine pw_steps 4 (s' := (23, [some (.ref 0), some (.int (ei_ (a))), some (.int (ei_ (b))), some (.int (ei_ (0))), some (.int (ei_ (0))), none], [], m)) rfl ?_
          have L8 : ∀ (n6 : Nat) (w : Int) (k : Int) (u5 : Option Value) (m1 : am_M), (vi_ m0 1 1 - k).toNat = n6 → (0 ≤ k ∧ k ≤ vi_ m0 1 1 ∧ 0 ≤ w ∧ w ≤ 999 * k) → (sm_ pSc m0 m1) → (w = su_ (wt_ m0 a b) k.toNat) → pw_V q (d + 59) iX8_winter.2.2.2.1 tX8_winter Q (23, [some (.ref 0), some (.int (ei_ (a))), some (.int (ei_ (b))), some (.int (ei_ (w))), some (.int (ei_ (k))), u5], [], m1) := by
            intro n6
            induction n6 using Nat.strongRecOn with
            | _ n6 ih7 =>
              intro w k u5 m1 hm_n6 v9 hs hv
              refine pw_steps 3 (s' := (29, [some (.ref 0), some (.int (ei_ (a))), some (.int (ei_ (b))), some (.int (ei_ (w))), some (.int (ei_ (k))), u5], [.ref 1, .int (ei_ (k))], m1)) rfl ?_
              refine pw_call (As := []) (st := [.int (ei_ (k))]) (k := 1) rfl rfl rfl rfl rfl (Nat.le_of_ble_eq_true rfl) ?_
              refine pw_intro (I := iX3_size) (T := tX3_size) rfl rfl rfl ?_
              refine pw_steps 1 (s' := (1, [some (.ref 1)], [.ref 1], m1)) rfl ?_
              refine pw_get rfl rfl (fun x10 (hx10 : x10 = vi_ m1 1 1) rx10 sx10 => ?_)
              have ox10 := hx10
              replace hx10 : x10 = vi_ m0 1 1 := hx10.trans (sm_v hs rfl)
              refine pw_iret rfl rfl rfl ?_
              refine pw_cmp rfl (by omega) ⟨rx10, sx10⟩ (fun (h11 : x10 ≤ k) => ?_) (fun (h11 : ¬ (x10 ≤ k)) => ?_)
              · refine pw_steps 1 (s' := (91, [some (.ref 0), some (.int (ei_ (a))), some (.int (ei_ (b))), some (.int (ei_ (w))), some (.int (ei_ (k))), u5], [.int (ei_ (w))], m1)) rfl ?_
                refine pw_iret rfl rfl rfl ?_
                exact k0 w m1 (by unfold sw_; rw [if_pos (by omega), ← show k = vi_ m0 1 1 by omega]; exact hv) (hs)
              · refine pw_steps 3 (s' := (39, [some (.ref 0), some (.int (ei_ (a))), some (.int (ei_ (b))), some (.int (ei_ (w))), some (.int (ei_ (k))), u5], [.int (ei_ (a)), .int (ei_ (k)), .ref 0], m1)) rfl ?_
                refine pw_call (As := [.int (ei_ (k)), .int (ei_ (a))]) (st := []) (k := 0) rfl rfl rfl rfl rfl (Nat.le_of_ble_eq_true rfl) ?_
                refine cw_leftAfter (p0) (p2) (hs) (p1.1) (p1.2.1) (by omega) (by omega) (fun x12 m113 g14 g15 g16 => ?_)
                refine pw_steps 3 (s' := (46, [some (.ref 0), some (.int (ei_ (a))), some (.int (ei_ (b))), some (.int (ei_ (w))), some (.int (ei_ (k))), some (.int (ei_ (x12)))], [.int (ei_ (2)), .int (ei_ (b))], m113)) rfl ?_
                refine pw_cmp rfl p6 (by decide) (fun (h17 : ¬ b = 2) => ?_) (fun (h17 : ¬ ¬ b = 2) => ?_)
                · refine pw_steps 2 (s' := (59, [some (.ref 0), some (.int (ei_ (a))), some (.int (ei_ (b))), some (.int (ei_ (w))), some (.int (ei_ (k))), some (.int (ei_ (x12)))], [.int (ei_ (1)), .int (ei_ (b))], m113)) rfl ?_
                  refine pw_cmp rfl p6 (by decide) (fun (h18 : ¬ b = 1) => ?_) (fun (h18 : ¬ ¬ b = 1) => ?_)
                  · refine pw_steps 3 (s' := (75, [some (.ref 0), some (.int (ei_ (a))), some (.int (ei_ (b))), some (.int (ei_ (w))), some (.int (ei_ (k))), some (.int (ei_ (x12)))], [.int (ei_ (x12)), .int (ei_ (k)), .ref 0], m113)) rfl ?_
                    refine pw_call (As := [.int (ei_ (k)), .int (ei_ (x12))]) (st := []) (k := 0) rfl rfl rfl rfl rfl (Nat.le_of_ble_eq_true rfl) ?_
                    refine pw_intro (I := iX8_cracks) (T := tX8_cracks) rfl rfl rfl ?_
                    refine pw_steps 6 (s' := (9, [some (.ref 0), some (.int (ei_ (k))), some (.int (ei_ (x12)))], [.int (ei_ (0)), .int (ei_ (k)), .ref 1, .int (ei_ (10)), .int (ei_ (x12))], m113)) rfl ?_
                    refine pw_call (As := [.int (ei_ (k)), .int (ei_ (0))]) (st := [.int (ei_ (10)), .int (ei_ (x12))]) (k := 1) rfl rfl rfl rfl rfl (Nat.le_of_ble_eq_true rfl) ?_
                    refine cw_told0 (p0) (g15) (by omega) (fun x19 g20 g21 => ?_)
                    refine pw_steps 1 (s' := (13, [some (.ref 0), some (.int (ei_ (k))), some (.int (ei_ (x12)))], [.int ((ei_ (10)) * (ei_ (x19))), .int (ei_ (x12))], m113)) rfl ?_
                    refine pw_cv (congrArg (fun z_ : Int32 => ((13, [some (.ref 0), some (.int (ei_ (k))), some (.int (ei_ (x12)))], [.int z_, .int (ei_ (x12))], m113) : am_S)) (ei_mul rfl rfl)) ?_
                    refine pw_cmp rfl (by omega) (by omega) (fun (h22 : (10 * x19) ≤ x12) => ?_) (fun (h22 : ¬ ((10 * x19) ≤ x12)) => ?_)
                    · refine pw_steps 1 (s' := (21, [some (.ref 0), some (.int (ei_ (k))), some (.int (ei_ (x12)))], [.int (ei_ (0))], m113)) rfl ?_
                      refine pw_iret rfl rfl rfl ?_
                      refine pw_ifT rfl (by decide) (show 0 = 0 by decide) ?_
                      refine pw_steps 2 (s' := (23, [some (.ref 0), some (.int (ei_ (a))), some (.int (ei_ (b))), some (.int (ei_ (w))), some (.int ((ei_ (k)) + (ei_ (1)))), some (.int (ei_ (x12)))], [], m113)) rfl ?_
                      refine pw_cv (congrArg (fun z_ : Int32 => ((23, [some (.ref 0), some (.int (ei_ (a))), some (.int (ei_ (b))), some (.int (ei_ (w))), some (.int z_), some (.int (ei_ (x12)))], [], m113) : am_S)) (ei_add rfl rfl)) ?_
                      exact ih7 _ (by omega) w (k + 1) (some (.int (ei_ (x12)))) m113 rfl (by omega) (g15) (by have e1_ := g14; have e2_ := g20; rw [su_s (by omega), ← hv]; unfold wt_; omega)
                    · refine pw_steps 2 (s' := (21, [some (.ref 0), some (.int (ei_ (k))), some (.int (ei_ (x12)))], [.int (ei_ (1))], m113)) rfl ?_
                      refine pw_iret rfl rfl rfl ?_
                      refine pw_ifF rfl (by decide) (show ¬ (1 = 0) by decide) ?_
                      refine pw_steps 3 (s' := (23, [some (.ref 0), some (.int (ei_ (a))), some (.int (ei_ (b))), some (.int ((ei_ (w)) + (ei_ (1)))), some (.int ((ei_ (k)) + (ei_ (1)))), some (.int (ei_ (x12)))], [], m113)) rfl ?_
                      refine pw_cv (congrArg (fun z_ : Int32 => ((23, [some (.ref 0), some (.int (ei_ (a))), some (.int (ei_ (b))), some (.int z_), some (.int ((ei_ (k)) + (ei_ (1)))), some (.int (ei_ (x12)))], [], m113) : am_S)) (ei_add rfl rfl)) ?_
                      refine pw_cv (congrArg (fun z_ : Int32 => ((23, [some (.ref 0), some (.int (ei_ (a))), some (.int (ei_ (b))), some (.int (ei_ ((w + 1)))), some (.int z_), some (.int (ei_ (x12)))], [], m113) : am_S)) (ei_add rfl rfl)) ?_
                      exact ih7 _ (by omega) (w + 1) (k + 1) (some (.int (ei_ (x12)))) m113 rfl (by omega) (g15) (by have e1_ := g14; have e2_ := g20; rw [su_s (by omega), ← hv]; unfold wt_; omega)
                  · refine pw_steps 1 (s' := (64, [some (.ref 0), some (.int (ei_ (a))), some (.int (ei_ (b))), some (.int (ei_ (w))), some (.int (ei_ (k))), some (.int (ei_ (x12)))], [.int (ei_ (x12))], m113)) rfl ?_
                    refine pw_if rfl (by omega) (fun (h23 : ¬ x12 = 0) => ?_) (fun (h23 : ¬ ¬ x12 = 0) => ?_)
                    · refine pw_steps 2 (s' := (23, [some (.ref 0), some (.int (ei_ (a))), some (.int (ei_ (b))), some (.int (ei_ (w))), some (.int ((ei_ (k)) + (ei_ (1)))), some (.int (ei_ (x12)))], [], m113)) rfl ?_
                      refine pw_cv (congrArg (fun z_ : Int32 => ((23, [some (.ref 0), some (.int (ei_ (a))), some (.int (ei_ (b))), some (.int (ei_ (w))), some (.int z_), some (.int (ei_ (x12)))], [], m113) : am_S)) (ei_add rfl rfl)) ?_
                      exact ih7 _ (by omega) w (k + 1) (some (.int (ei_ (x12)))) m113 rfl (by omega) (g15) (by have e1_ := g14; rw [su_s (by omega), ← hv]; unfold wt_; omega)
                    · refine pw_steps 4 (s' := (23, [some (.ref 0), some (.int (ei_ (a))), some (.int (ei_ (b))), some (.int ((ei_ (w)) + (ei_ (1)))), some (.int ((ei_ (k)) + (ei_ (1)))), some (.int (ei_ (x12)))], [], m113)) rfl ?_
                      refine pw_cv (congrArg (fun z_ : Int32 => ((23, [some (.ref 0), some (.int (ei_ (a))), some (.int (ei_ (b))), some (.int z_), some (.int ((ei_ (k)) + (ei_ (1)))), some (.int (ei_ (x12)))], [], m113) : am_S)) (ei_add rfl rfl)) ?_
                      refine pw_cv (congrArg (fun z_ : Int32 => ((23, [some (.ref 0), some (.int (ei_ (a))), some (.int (ei_ (b))), some (.int (ei_ ((w + 1)))), some (.int z_), some (.int (ei_ (x12)))], [], m113) : am_S)) (ei_add rfl rfl)) ?_
                      exact ih7 _ (by omega) (w + 1) (k + 1) (some (.int (ei_ (x12)))) m113 rfl (by omega) (g15) (by have e1_ := g14; rw [su_s (by omega), ← hv]; unfold wt_; omega)
                · refine pw_steps 7 (s' := (23, [some (.ref 0), some (.int (ei_ (a))), some (.int (ei_ (b))), some (.int ((ei_ (w)) + (ei_ (x12)))), some (.int ((ei_ (k)) + (ei_ (1)))), some (.int (ei_ (x12)))], [], m113)) rfl ?_
                  refine pw_cv (congrArg (fun z_ : Int32 => ((23, [some (.ref 0), some (.int (ei_ (a))), some (.int (ei_ (b))), some (.int z_), some (.int ((ei_ (k)) + (ei_ (1)))), some (.int (ei_ (x12)))], [], m113) : am_S)) (ei_add rfl rfl)) ?_
                  refine pw_cv (congrArg (fun z_ : Int32 => ((23, [some (.ref 0), some (.int (ei_ (a))), some (.int (ei_ (b))), some (.int (ei_ ((w + x12)))), some (.int z_), some (.int (ei_ (x12)))], [], m113) : am_S)) (ei_add rfl rfl)) ?_
                  exact ih7 _ (by omega) (w + x12) (k + 1) (some (.int (ei_ (x12)))) m113 rfl (by omega) (g15) (by have e1_ := g14; rw [su_s (by omega), ← hv]; unfold wt_; omega)
          exact L8 _ 0 0 none m rfl (by omega) (p4) (by rfl)
        · refine pw_steps 1 (s' := (17, [some (.ref 0), some (.int (ei_ (a))), some (.int (ei_ (b))), none, none, none], [.int (ei_ ((-1)))], m)) rfl ?_
          refine pw_iret rfl rfl rfl ?_
          exact k0 (-1) m (by unfold sw_; rw [if_neg (by omega)]) (p4)

set_option maxHeartbeats 4000000 in
set_option maxRecDepth 20000 in
theorem ms_winter {q : am_X} {d : Nat} {m : am_M} {Q : Option Value → am_M → Prop} {m0 : am_M} {a : Int} {b : Int}  (p0 : rP_ m0) (p1 : rD_ m0) (p2 : rZ_ m0) (p3 : rL_ m0) (p4 : sm_ pSc m0 m) (p5 : -2147483648 ≤ a ∧ a < 2147483648) (p6 : -2147483648 ≤ b ∧ b < 2147483648) (k0 : ∀ (x : Int) (m1 : am_M), (x = sw_ m0 a b) → (sm_ pSc m0 m1) → Q (some (.int (ei_ (x)))) m1) : pw_C q (d + 60) 209 [.ref 47, .int (ei_ (a)), .int (ei_ (b))] m Q := by
  obtain ⟨hP1, hP2, hP3, hP4⟩ := id p0
  have hmw := mW_of p0 p1
  have hmf := mF_of p0 p1
  refine pw_intro (I := iX9_winter) (T := tX9_winter) rfl rfl rfl ?_
  refine pw_steps 1 (s' := (1, [some (.ref 47), some (.int (ei_ (a))), some (.int (ei_ (b)))], [.int (ei_ (a))], m)) rfl ?_
  refine pw_callS (As := [.int (ei_ (a))]) (st := []) rfl (by decide) rfl rfl (Nat.le_of_ble_eq_true rfl) ?_
  refine pw_intro (I := iX9_isN) (T := tX9_isN) rfl rfl rfl ?_
  refine pw_steps 4 (s' := (6, [some (.int (ei_ (a)))], [.long (el_ (99)), .long (el_ (0)), .long ((ei_ (a)).toInt64)], m)) rfl ?_
  refine pw_cv (congrArg (fun z_ : Int64 => ((6, [some (.int (ei_ (a)))], [.long (el_ (99)), .long (el_ (0)), .long z_], m) : am_S)) (el_i2l p5 rfl)) ?_
  refine pw_callS (As := [.long (el_ (a)), .long (el_ (0)), .long (el_ (99))]) (st := []) rfl (by decide) rfl rfl (Nat.le_of_ble_eq_true rfl) ?_
  refine mt_within (by omega) (by omega) (by omega) (fun g1 g2 => ?_) (fun g3 => ?_) (fun g4 => ?_)
  · refine pw_iret rfl rfl rfl ?_
    refine pw_ifF rfl (by decide) (show ¬ (1 = 0) by decide) ?_
    refine pw_steps 4 (s' := (13, [some (.ref 47), some (.int (ei_ (a))), some (.int (ei_ (b)))], [.long (el_ (2)), .long (el_ (0)), .long ((ei_ (b)).toInt64)], m)) rfl ?_
    refine pw_cv (congrArg (fun z_ : Int64 => ((13, [some (.ref 47), some (.int (ei_ (a))), some (.int (ei_ (b)))], [.long (el_ (2)), .long (el_ (0)), .long z_], m) : am_S)) (el_i2l p6 rfl)) ?_
    refine pw_callS (As := [.long (el_ (b)), .long (el_ (0)), .long (el_ (2))]) (st := []) rfl (by decide) rfl rfl (Nat.le_of_ble_eq_true rfl) ?_
    refine mt_within (by omega) (by omega) (by omega) (fun g5 g6 => ?_) (fun g7 => ?_) (fun g8 => ?_)
    · refine pw_ifT rfl (by decide) (show ¬ 1 = 0 by decide) ?_
      refine pw_steps 2 (s' := (23, [some (.ref 47), some (.int (ei_ (a))), some (.int (ei_ (b)))], [.int (ei_ (a)), .ref 47], m)) rfl ?_
      refine pw_call (As := [.int (ei_ (a))]) (st := []) (k := 47) rfl rfl rfl rfl rfl (Nat.le_of_ble_eq_true rfl) ?_
      refine md_goes (p0) (hmw) (p4) (p3) (hmf) (by omega) (fun m19 g10 g11 => ?_)
      refine pw_steps 1 (s' := (27, [some (.ref 47), some (.int (ei_ (a))), some (.int (ei_ (b)))], [.int (ei_ (b))], m19)) rfl ?_
      refine pw_if rfl p6 (fun (h12 : ¬ b = 0) => ?_) (fun (h12 : ¬ ¬ b = 0) => ?_)
      · refine pw_steps 2 (s' := (39, [some (.ref 47), some (.int (ei_ (a))), some (.int (ei_ (b)))], [.int (ei_ (1)), .int (ei_ (b))], m19)) rfl ?_
        refine pw_cmp rfl p6 (by decide) (fun (h13 : ¬ b = 1) => ?_) (fun (h13 : ¬ ¬ b = 1) => ?_)
        · refine pw_steps 1 (s' := (50, [some (.ref 47), some (.int (ei_ (a))), some (.int (ei_ (b)))], [.ref 47], m19)) rfl ?_
          refine pw_call (As := []) (st := []) (k := 47) rfl rfl rfl rfl rfl (Nat.le_of_ble_eq_true rfl) ?_
          refine md_all (p0) ((sm_tr p4 (sm_le g10 pGo_Sc))) (fun j a_ b_ => by rw [g11 j a_ b_, lf_mc p0 p1 ⟨a_, b_⟩]; have h1_ := p1.2.1 j a_ (by omega); have h3_ := lf_b (l := vi_ m0 5 j) (r := rn_ m0 j) (n := a) h1_.1 (rn_b m0 j).1 (by omega); omega) (fun x14 g15 g16 => ?_)
          refine pw_iret rfl rfl rfl ?_
          exact k0 x14 m19 (by unfold sw_; rw [if_pos (by omega), g15]; (try rw [cn_su]); exact su_cg _ (by intro j a_ b_; have e_ := g11 j a_ (by omega); rw [lf_mc p0 p1 ⟨a_, by omega⟩] at e_; show _ = wt_ m0 a b j; unfold wt_; omega)) ((sm_tr p4 (sm_le g10 pGo_Sc)))
        · refine pw_steps 1 (s' := (43, [some (.ref 47), some (.int (ei_ (a))), some (.int (ei_ (b)))], [.ref 47], m19)) rfl ?_
          refine pw_call (As := []) (st := []) (k := 47) rfl rfl rfl rfl rfl (Nat.le_of_ble_eq_true rfl) ?_
          refine md_burnt (p0) ((sm_tr p4 (sm_le g10 pGo_Sc))) (fun x17 g18 g19 => ?_)
          refine pw_steps 1 (s' := (53, [some (.ref 47), some (.int (ei_ (a))), some (.int (ei_ (b)))], [.int (ei_ (x17))], m19)) rfl ?_
          refine pw_iret rfl rfl rfl ?_
          exact k0 x17 m19 (by unfold sw_; rw [if_pos (by omega), g18]; (try rw [cn_su]); exact su_cg _ (by intro j a_ b_; have e_ := g11 j a_ (by omega); rw [lf_mc p0 p1 ⟨a_, by omega⟩] at e_; show _ = wt_ m0 a b j; unfold wt_; omega)) ((sm_tr p4 (sm_le g10 pGo_Sc)))
      · refine pw_steps 1 (s' := (31, [some (.ref 47), some (.int (ei_ (a))), some (.int (ei_ (b)))], [.ref 47], m19)) rfl ?_
        refine pw_call (As := []) (st := []) (k := 47) rfl rfl rfl rfl rfl (Nat.le_of_ble_eq_true rfl) ?_
        refine md_cracked (p0) ((sm_tr p4 (sm_le g10 pGo_Sc))) (fun x20 g21 g22 => ?_)
        refine pw_steps 1 (s' := (53, [some (.ref 47), some (.int (ei_ (a))), some (.int (ei_ (b)))], [.int (ei_ (x20))], m19)) rfl ?_
        refine pw_iret rfl rfl rfl ?_
        exact k0 x20 m19 (by unfold sw_; rw [if_pos (by omega), g21]; (try rw [cn_su]); exact su_cg _ (by intro j a_ b_; have e_ := g11 j a_ (by omega); rw [lf_mc p0 p1 ⟨a_, by omega⟩] at e_; show _ = wt_ m0 a b j; unfold wt_; omega)) ((sm_tr p4 (sm_le g10 pGo_Sc)))
    · refine pw_ifF rfl (by decide) (show ¬ (¬ 0 = 0) by decide) ?_
      refine pw_steps 1 (s' := (20, [some (.ref 47), some (.int (ei_ (a))), some (.int (ei_ (b)))], [.int (ei_ ((-1)))], m)) rfl ?_
      refine pw_iret rfl rfl rfl ?_
      exact k0 (-1) m (by unfold sw_; rw [if_neg (by omega)]) (p4)
    · refine pw_ifF rfl (by decide) (show ¬ (¬ 0 = 0) by decide) ?_
      refine pw_steps 1 (s' := (20, [some (.ref 47), some (.int (ei_ (a))), some (.int (ei_ (b)))], [.int (ei_ ((-1)))], m)) rfl ?_
      refine pw_iret rfl rfl rfl ?_
      exact k0 (-1) m (by unfold sw_; rw [if_neg (by omega)]) (p4)
  · refine pw_iret rfl rfl rfl ?_
    refine pw_ifT rfl (by decide) (show 0 = 0 by decide) ?_
    refine pw_steps 1 (s' := (20, [some (.ref 47), some (.int (ei_ (a))), some (.int (ei_ (b)))], [.int (ei_ ((-1)))], m)) rfl ?_
    refine pw_iret rfl rfl rfl ?_
    exact k0 (-1) m (by unfold sw_; rw [if_neg (by omega)]) (p4)
  · refine pw_iret rfl rfl rfl ?_
    refine pw_ifT rfl (by decide) (show 0 = 0 by decide) ?_
    refine pw_steps 1 (s' := (20, [some (.ref 47), some (.int (ei_ (a))), some (.int (ei_ (b)))], [.int (ei_ ((-1)))], m)) rfl ?_
    refine pw_iret rfl rfl rfl ?_
    exact k0 (-1) m (by unfold sw_; rw [if_neg (by omega)]) (p4)

theorem op_winter {q : am_X} {d : Nat} {m : am_M} {a : Int} {b : Int} (q0 : -2147483648 ≤ a ∧ a < 2147483648) (q1 : -2147483648 ≤ b ∧ b < 2147483648) (hR : rR_ m) : pw_C q (d + 60) 59 [.ref 0, .int (ei_ a), .int (ei_ b)] m (fun r1 m1 => pw_C q (d + 60) 209 [.ref 47, .int (ei_ a), .int (ei_ b)] m1 (fun r2 m2 => ∃ x : Int, r1 = some (.int (ei_ x)) ∧ r2 = some (.int (ei_ x)) ∧ rR_ m2)) := by
  obtain ⟨hp, hd, hi, ht, hl, hz, hc, ha, hs⟩ := id hR
  refine cs_winter hp hd hz hl (sm_rfl m) q0 q1 (fun x m1 e1 g1 => ?_)
  refine ms_winter hp hd hz hl g1 q0 q1 (fun y m2 e2 g2 => ?_)
  exact ⟨x, rfl, by rw [e2, ← e1], rR_sm g2 hR⟩

set_option maxHeartbeats 4000000 in
set_option maxRecDepth 20000 in
theorem cs_last {q : am_X} {d : Nat} {m : am_M} {Q : Option Value → am_M → Prop} {m0 : am_M}  (p0 : rP_ m0) (p1 : rD_ m0) (p2 : rZ_ m0) (p3 : rL_ m0) (p4 : sm_ pSc m0 m) (k0 : ∀ (x : Int) (m1 : am_M), (x = sl_l m0) → (sm_ pSc m0 m1) → Q (some (.int (ei_ (x)))) m1) : pw_C q (d + 60) 63 [.ref 0] m Q := by
  obtain ⟨hP1, hP2, hP3, hP4⟩ := id p0
  have hmw := mW_of p0 p1
  have hmf := mF_of p0 p1
  refine pw_intro (I := iX8_last) (T := tX8_last) rfl rfl rfl ?_
  refine pw_steps 6 (s' := (8, [some (.ref 0), some (.int (ei_ ((-2)))), some (.int (ei_ (100))), some (.int (ei_ (0))), none], [], m)) rfl ?_
  have L4 : ∀ (n2 : Nat) (b : Int) (f : Int) (k : Int) (u1 : Option Value) (m1 : am_M), (vi_ m0 1 1 - k).toNat = n2 → (0 ≤ k ∧ k ≤ vi_ m0 1 1 ∧ -2 ≤ b ∧ b ≤ 8 ∧ 0 ≤ f ∧ f ≤ 100) → (sm_ pSc m0 m1) → ((b, f) = la_ (fun j => fd_ (vi_ m0 5 j) (rn_ m0 j) 1) k.toNat) → pw_V q (d + 59) iX8_last.2.2.2.1 tX8_last Q (8, [some (.ref 0), some (.int (ei_ (b))), some (.int (ei_ (f))), some (.int (ei_ (k))), u1], [], m1) := by
    intro n2
    induction n2 using Nat.strongRecOn with
    | _ n2 ih3 =>
      intro b f k u1 m1 hm_n2 v5 hs hv
      refine pw_steps 3 (s' := (13, [some (.ref 0), some (.int (ei_ (b))), some (.int (ei_ (f))), some (.int (ei_ (k))), u1], [.ref 1, .int (ei_ (k))], m1)) rfl ?_
      refine pw_call (As := []) (st := [.int (ei_ (k))]) (k := 1) rfl rfl rfl rfl rfl (Nat.le_of_ble_eq_true rfl) ?_
      refine pw_intro (I := iX3_size) (T := tX3_size) rfl rfl rfl ?_
      refine pw_steps 1 (s' := (1, [some (.ref 1)], [.ref 1], m1)) rfl ?_
      refine pw_get rfl rfl (fun x6 (hx6 : x6 = vi_ m1 1 1) rx6 sx6 => ?_)
      have ox6 := hx6
      replace hx6 : x6 = vi_ m0 1 1 := hx6.trans (sm_v hs rfl)
      refine pw_iret rfl rfl rfl ?_
      refine pw_cmp rfl (by omega) ⟨rx6, sx6⟩ (fun (h7 : x6 ≤ k) => ?_) (fun (h7 : ¬ (x6 ≤ k)) => ?_)
      · refine pw_steps 1 (s' := (52, [some (.ref 0), some (.int (ei_ (b))), some (.int (ei_ (f))), some (.int (ei_ (k))), u1], [.int (ei_ (b))], m1)) rfl ?_
        refine pw_iret rfl rfl rfl ?_
        exact k0 b m1 (by unfold sl_l; rw [← show k = vi_ m0 1 1 by omega, ← hv]) (hs)
      · refine pw_steps 3 (s' := (22, [some (.ref 0), some (.int (ei_ (b))), some (.int (ei_ (f))), some (.int (ei_ (k))), u1], [.int (ei_ (1)), .int (ei_ (k)), .ref 0], m1)) rfl ?_
        refine pw_call (As := [.int (ei_ (k)), .int (ei_ (1))]) (st := []) (k := 0) rfl rfl rfl rfl rfl (Nat.le_of_ble_eq_true rfl) ?_
        refine cw_firstDay (p0) (p2) (hs) (p1.1) (p1.2.1) (by omega) (by omega) (fun x8 m19 g10 g11 g12 => ?_)
        have hn_ := fs_n g10
        refine pw_steps 3 (s' := (31, [some (.ref 0), some (.int (ei_ (b))), some (.int (ei_ (f))), some (.int (ei_ (k))), some (.int (ei_ (x8)))], [.int (ei_ ((-2))), .int (ei_ (x8))], m19)) rfl ?_
        refine pw_cmp rfl (by omega) (by decide) (fun (h13 : x8 = (-2)) => ?_) (fun (h13 : ¬ (x8 = (-2))) => ?_)
        · refine pw_steps 2 (s' := (8, [some (.ref 0), some (.int (ei_ (b))), some (.int (ei_ (f))), some (.int ((ei_ (k)) + (ei_ (1)))), some (.int (ei_ (x8)))], [], m19)) rfl ?_
          refine pw_cv (congrArg (fun z_ : Int32 => ((8, [some (.ref 0), some (.int (ei_ (b))), some (.int (ei_ (f))), some (.int z_), some (.int (ei_ (x8)))], [], m19) : am_S)) (ei_add rfl rfl)) ?_
          exact ih3 _ (by omega) b f (k + 1) (some (.int (ei_ (x8)))) m19 rfl (by omega) (g11) (by have hd_ := fs_u g10 (fs_cg (fd_s (vi_ m0 5 k) (rn_ m0 k) 1) (fun j a_ b_ => by have h1_ := lf_b (l := vi_ m0 5 k) (r := rn_ m0 k) (n := j) (p1.2.1 k (by omega) (by omega)).1 (rn_b m0 k).1 a_; omega)); rw [la_s (by omega) hv]; rw [← hd_]; first | (rw [if_pos (by omega)]; done) | (rw [if_neg (by omega)]; done))
        · refine pw_steps 2 (s' := (37, [some (.ref 0), some (.int (ei_ (b))), some (.int (ei_ (f))), some (.int (ei_ (k))), some (.int (ei_ (x8)))], [.int (ei_ (f)), .int (ei_ (x8))], m19)) rfl ?_
          refine pw_cmp rfl (by omega) (by omega) (fun (h14 : f ≤ x8) => ?_) (fun (h14 : ¬ (f ≤ x8)) => ?_)
          · refine pw_steps 2 (s' := (8, [some (.ref 0), some (.int (ei_ (b))), some (.int (ei_ (f))), some (.int ((ei_ (k)) + (ei_ (1)))), some (.int (ei_ (x8)))], [], m19)) rfl ?_
            refine pw_cv (congrArg (fun z_ : Int32 => ((8, [some (.ref 0), some (.int (ei_ (b))), some (.int (ei_ (f))), some (.int z_), some (.int (ei_ (x8)))], [], m19) : am_S)) (ei_add rfl rfl)) ?_
            exact ih3 _ (by omega) b f (k + 1) (some (.int (ei_ (x8)))) m19 rfl (by omega) (g11) (by have hd_ := fs_u g10 (fs_cg (fd_s (vi_ m0 5 k) (rn_ m0 k) 1) (fun j a_ b_ => by have h1_ := lf_b (l := vi_ m0 5 k) (r := rn_ m0 k) (n := j) (p1.2.1 k (by omega) (by omega)).1 (rn_b m0 k).1 a_; omega)); rw [la_s (by omega) hv]; rw [← hd_]; first | (rw [if_pos (by omega)]; done) | (rw [if_neg (by omega)]; done))
          · refine pw_steps 6 (s' := (8, [some (.ref 0), some (.int (ei_ (k))), some (.int (ei_ (x8))), some (.int ((ei_ (k)) + (ei_ (1)))), some (.int (ei_ (x8)))], [], m19)) rfl ?_
            refine pw_cv (congrArg (fun z_ : Int32 => ((8, [some (.ref 0), some (.int (ei_ (k))), some (.int (ei_ (x8))), some (.int z_), some (.int (ei_ (x8)))], [], m19) : am_S)) (ei_add rfl rfl)) ?_
            exact ih3 _ (by omega) k x8 (k + 1) (some (.int (ei_ (x8)))) m19 rfl (by omega) (g11) (by have hd_ := fs_u g10 (fs_cg (fd_s (vi_ m0 5 k) (rn_ m0 k) 1) (fun j a_ b_ => by have h1_ := lf_b (l := vi_ m0 5 k) (r := rn_ m0 k) (n := j) (p1.2.1 k (by omega) (by omega)).1 (rn_b m0 k).1 a_; omega)); rw [la_s (by omega) hv]; rw [← hd_]; first | (rw [if_pos (by omega)]; done) | (rw [if_neg (by omega)]; done))
  exact L4 _ (-2) 100 0 none m rfl (by omega) (p4) (by rfl)

set_option maxHeartbeats 4000000 in
set_option maxRecDepth 20000 in
theorem ms_last {q : am_X} {d : Nat} {m : am_M} {Q : Option Value → am_M → Prop} {m0 : am_M}  (p0 : rP_ m0) (p1 : rD_ m0) (p2 : rZ_ m0) (p3 : rL_ m0) (p4 : sm_ pSc m0 m) (k0 : ∀ (x : Int) (m1 : am_M), (x = sl_l m0) → (sm_ pSc m0 m1) → Q (some (.int (ei_ (x)))) m1) : pw_C q (d + 60) 215 [.ref 47] m Q := by
  obtain ⟨hP1, hP2, hP3, hP4⟩ := id p0
  have hmw := mW_of p0 p1
  have hmf := mF_of p0 p1
  refine pw_intro (I := iX9_last) (T := tX9_last) rfl rfl rfl ?_
  refine pw_steps 6 (s' := (8, [some (.ref 47), some (.int (ei_ ((-2)))), some (.int (ei_ (100))), some (.int (ei_ (0))), none], [], m)) rfl ?_
  have L4 : ∀ (n2 : Nat) (b : Int) (f : Int) (k : Int) (u1 : Option Value) (m1 : am_M), (vi_ m0 1 1 - k).toNat = n2 → (0 ≤ k ∧ k ≤ vi_ m0 1 1 ∧ -2 ≤ b ∧ b ≤ 8 ∧ 0 ≤ f ∧ f ≤ 100) → (sm_ pSc m0 m1) → ((b, f) = la_ (fun j => fd_ (vi_ m0 5 j) (rn_ m0 j) 1) k.toNat) → pw_V q (d + 59) iX9_last.2.2.2.1 tX9_last Q (8, [some (.ref 47), some (.int (ei_ (b))), some (.int (ei_ (f))), some (.int (ei_ (k))), u1], [], m1) := by
    intro n2
    induction n2 using Nat.strongRecOn with
    | _ n2 ih3 =>
      intro b f k u1 m1 hm_n2 v5 hs hv
      refine pw_steps 2 (s' := (10, [some (.ref 47), some (.int (ei_ (b))), some (.int (ei_ (f))), some (.int (ei_ (k))), u1], [.ref 47, .int (ei_ (k))], m1)) rfl ?_
      refine pw_get rfl rfl (fun x6 (hx6 : x6 = vi_ m1 47 6) rx6 sx6 => ?_)
      have ox6 := hx6
      replace hx6 : x6 = vi_ m0 47 6 := hx6.trans (sm_v hs rfl)
      refine pw_cmp rfl (by omega) ⟨rx6, sx6⟩ (fun (h7 : x6 ≤ k) => ?_) (fun (h7 : ¬ (x6 ≤ k)) => ?_)
      · refine pw_steps 1 (s' := (66, [some (.ref 47), some (.int (ei_ (b))), some (.int (ei_ (f))), some (.int (ei_ (k))), u1], [.int (ei_ (b))], m1)) rfl ?_
        refine pw_iret rfl rfl rfl ?_
        exact k0 b m1 (by unfold sl_l; rw [← show k = vi_ m0 1 1 by omega, ← hv]) (hs)
      · refine pw_steps 3 (s' := (19, [some (.ref 47), some (.int (ei_ (b))), some (.int (ei_ (f))), some (.int (ei_ (k))), u1], [.int (ei_ (1)), .int (ei_ (k)), .ref 47], m1)) rfl ?_
        refine pw_call (As := [.int (ei_ (k)), .int (ei_ (1))]) (st := []) (k := 47) rfl rfl rfl rfl rfl (Nat.le_of_ble_eq_true rfl) ?_
        refine md_less (p0) (hmw) (hs) (p3) (hmf) (by omega) (by omega) (fun x8 m19 g10 g11 g12 => ?_)
        have hn_ := fs_n g10
        refine pw_steps 2 (s' := (26, [some (.ref 47), some (.int (ei_ (b))), some (.int (ei_ (f))), some (.int (ei_ (k))), some (.int (ei_ (x8)))], [.int (ei_ (x8))], m19)) rfl ?_
        refine pw_if rfl (by omega) (fun (h13 : x8 < 0) => ?_) (fun (h13 : ¬ (x8 < 0)) => ?_)
        · refine pw_steps 3 (s' := (43, [some (.ref 47), some (.int (ei_ (b))), some (.int (ei_ (f))), some (.int (ei_ (k))), some (.int (ei_ (x8)))], [.int (ei_ (x8))], m19)) rfl ?_
          refine pw_ifT rfl (by omega) (show x8 < 0 by omega) ?_
          refine pw_steps 4 (s' := (8, [some (.ref 47), some (.int (ei_ (b))), some (.int (ei_ (f))), some (.int ((ei_ (k)) + (ei_ (1)))), some (.int (ei_ (x8)))], [], m19)) rfl ?_
          refine pw_cv (congrArg (fun z_ : Int32 => ((8, [some (.ref 47), some (.int (ei_ (b))), some (.int (ei_ (f))), some (.int z_), some (.int (ei_ (x8)))], [], m19) : am_S)) (ei_add rfl rfl)) ?_
          exact ih3 _ (by omega) b f (k + 1) (some (.int (ei_ (x8)))) m19 rfl (by omega) ((sm_tr hs (sm_le g11 pGo_Sc))) (by have hd_ := fs_u g10 (fs_cg (fd_s (vi_ m0 5 k) (rn_ m0 k) 1) (fun j a_ b_ => by rw [lf_mc p0 p1 ⟨by omega, by omega⟩])); rw [la_s (by omega) hv]; rw [← hd_]; first | (rw [if_pos (by omega)]; done) | (rw [if_neg (by omega)]; done))
        · refine pw_steps 2 (s' := (32, [some (.ref 47), some (.int (ei_ (b))), some (.int (ei_ (f))), some (.int (ei_ (k))), some (.int (ei_ (x8)))], [.int (ei_ (f)), .int (ei_ (x8))], m19)) rfl ?_
          refine pw_cmp rfl (by omega) (by omega) (fun (h14 : f ≤ x8) => ?_) (fun (h14 : ¬ (f ≤ x8)) => ?_)
          · refine pw_steps 3 (s' := (43, [some (.ref 47), some (.int (ei_ (b))), some (.int (ei_ (f))), some (.int (ei_ (k))), some (.int (ei_ (x8)))], [.int (ei_ (x8))], m19)) rfl ?_
            refine pw_ifF rfl (by omega) (show ¬ (x8 < 0) by omega) ?_
            refine pw_steps 2 (s' := (49, [some (.ref 47), some (.int (ei_ (b))), some (.int (ei_ (f))), some (.int (ei_ (k))), some (.int (ei_ (x8)))], [.int (ei_ (f)), .int (ei_ (x8))], m19)) rfl ?_
            refine pw_cmpT rfl (by omega) (by omega) (show f ≤ x8 by omega) ?_
            refine pw_steps 4 (s' := (8, [some (.ref 47), some (.int (ei_ (b))), some (.int (ei_ (f))), some (.int ((ei_ (k)) + (ei_ (1)))), some (.int (ei_ (x8)))], [], m19)) rfl ?_
            refine pw_cv (congrArg (fun z_ : Int32 => ((8, [some (.ref 47), some (.int (ei_ (b))), some (.int (ei_ (f))), some (.int z_), some (.int (ei_ (x8)))], [], m19) : am_S)) (ei_add rfl rfl)) ?_
            exact ih3 _ (by omega) b f (k + 1) (some (.int (ei_ (x8)))) m19 rfl (by omega) ((sm_tr hs (sm_le g11 pGo_Sc))) (by have hd_ := fs_u g10 (fs_cg (fd_s (vi_ m0 5 k) (rn_ m0 k) 1) (fun j a_ b_ => by rw [lf_mc p0 p1 ⟨by omega, by omega⟩])); rw [la_s (by omega) hv]; rw [← hd_]; first | (rw [if_pos (by omega)]; done) | (rw [if_neg (by omega)]; done))
          · refine pw_steps 4 (s' := (43, [some (.ref 47), some (.int (ei_ (k))), some (.int (ei_ (f))), some (.int (ei_ (k))), some (.int (ei_ (x8)))], [.int (ei_ (x8))], m19)) rfl ?_
            refine pw_ifF rfl (by omega) (show ¬ (x8 < 0) by omega) ?_
            refine pw_steps 2 (s' := (49, [some (.ref 47), some (.int (ei_ (k))), some (.int (ei_ (f))), some (.int (ei_ (k))), some (.int (ei_ (x8)))], [.int (ei_ (f)), .int (ei_ (x8))], m19)) rfl ?_
            refine pw_cmpF rfl (by omega) (by omega) (show ¬ (f ≤ x8) by omega) ?_
            refine pw_steps 5 (s' := (8, [some (.ref 47), some (.int (ei_ (k))), some (.int (ei_ (x8))), some (.int ((ei_ (k)) + (ei_ (1)))), some (.int (ei_ (x8)))], [], m19)) rfl ?_
            refine pw_cv (congrArg (fun z_ : Int32 => ((8, [some (.ref 47), some (.int (ei_ (k))), some (.int (ei_ (x8))), some (.int z_), some (.int (ei_ (x8)))], [], m19) : am_S)) (ei_add rfl rfl)) ?_
            exact ih3 _ (by omega) k x8 (k + 1) (some (.int (ei_ (x8)))) m19 rfl (by omega) ((sm_tr hs (sm_le g11 pGo_Sc))) (by have hd_ := fs_u g10 (fs_cg (fd_s (vi_ m0 5 k) (rn_ m0 k) 1) (fun j a_ b_ => by rw [lf_mc p0 p1 ⟨by omega, by omega⟩])); rw [la_s (by omega) hv]; rw [← hd_]; first | (rw [if_pos (by omega)]; done) | (rw [if_neg (by omega)]; done))
  exact L4 _ (-2) 100 0 none m rfl (by omega) (p4) (by rfl)

theorem op_last {q : am_X} {d : Nat} {m : am_M}   (hR : rR_ m) : pw_C q (d + 60) 63 [.ref 0] m (fun r1 m1 => pw_C q (d + 60) 215 [.ref 47] m1 (fun r2 m2 => ∃ x : Int, r1 = some (.int (ei_ x)) ∧ r2 = some (.int (ei_ x)) ∧ rR_ m2)) := by
  obtain ⟨hp, hd, hi, ht, hl, hz, hc, ha, hs⟩ := id hR
  refine cs_last hp hd hz hl (sm_rfl m)  (fun x m1 e1 g1 => ?_)
  refine ms_last hp hd hz hl g1  (fun y m2 e2 g2 => ?_)
  exact ⟨x, rfl, by rw [e2, ← e1], rR_sm g2 hR⟩

set_option maxHeartbeats 4000000 in
set_option maxRecDepth 20000 in
theorem cs_crowd {q : am_X} {d : Nat} {m : am_M} {Q : Option Value → am_M → Prop} {m0 : am_M} {a : Int}  (p0 : rP_ m0) (p1 : rD_ m0) (p2 : rZ_ m0) (p3 : rL_ m0) (p4 : sm_ pSc m0 m) (p5 : -2147483648 ≤ a ∧ a < 2147483648) (k0 : ∀ (x : Int) (m1 : am_M), (x = sc_c m0 a) → (sm_ pSc m0 m1) → Q (some (.int (ei_ (x)))) m1) : pw_C q (d + 60) 89 [.ref 0, .int (ei_ (a))] m Q := by
  obtain ⟨hP1, hP2, hP3, hP4⟩ := id p0
  have hmw := mW_of p0 p1
  have hmf := mF_of p0 p1
  refine pw_intro (I := iX8_crowd) (T := tX8_crowd) rfl rfl rfl ?_
  refine pw_steps 1 (s' := (1, [some (.ref 0), some (.int (ei_ (a))), none, none, none, none], [.int (ei_ (a))], m)) rfl ?_
  refine pw_if rfl p5 (fun (h1 : a < 0) => ?_) (fun (h1 : ¬ (a < 0)) => ?_)
  · refine pw_steps 1 (s' := (10, [some (.ref 0), some (.int (ei_ (a))), none, none, none, none], [.int (ei_ ((-1)))], m)) rfl ?_
    refine pw_iret rfl rfl rfl ?_
    exact k0 (-1) m (by unfold sc_c; rw [if_neg (by omega)]) (p4)
  · refine pw_steps 2 (s' := (6, [some (.ref 0), some (.int (ei_ (a))), none, none, none, none], [.int (ei_ (1)), .int (ei_ (a))], m)) rfl ?_
    refine pw_cmp rfl p5 (by decide) (fun (h2 : a ≤ 1) => ?_) (fun (h2 : ¬ (a ≤ 1)) => ?_)
    · refine pw_steps 6 (s' := (19, [some (.ref 0), some (.int (ei_ (a))), some (.int (ei_ ((-2)))), some (.int (ei_ (0))), some (.int (ei_ (0))), none], [], m)) rfl ?_
      have L6 : ∀ (n4 : Nat) (b : Int) (f : Int) (k : Int) (u3 : Option Value), (vi_ m0 1 1 - k).toNat = n4 → (0 ≤ k ∧ k ≤ vi_ m0 1 1 ∧ -2 ≤ b ∧ b ≤ 8 ∧ 0 ≤ f ∧ f ≤ 8) → ((b, f) = cr_ (fun j => cn_ (vi_ m0 4) j 8) k.toNat) → pw_V q (d + 59) iX8_crowd.2.2.2.1 tX8_crowd Q (19, [some (.ref 0), some (.int (ei_ (a))), some (.int (ei_ (b))), some (.int (ei_ (f))), some (.int (ei_ (k))), u3], [], m) := by
        intro n4
        induction n4 using Nat.strongRecOn with
        | _ n4 ih5 =>
          intro b f k u3 hm_n4 v7 hv
          refine pw_steps 3 (s' := (25, [some (.ref 0), some (.int (ei_ (a))), some (.int (ei_ (b))), some (.int (ei_ (f))), some (.int (ei_ (k))), u3], [.ref 1, .int (ei_ (k))], m)) rfl ?_
          refine pw_call (As := []) (st := [.int (ei_ (k))]) (k := 1) rfl rfl rfl rfl rfl (Nat.le_of_ble_eq_true rfl) ?_
          refine pw_intro (I := iX3_size) (T := tX3_size) rfl rfl rfl ?_
          refine pw_steps 1 (s' := (1, [some (.ref 1)], [.ref 1], m)) rfl ?_
          refine pw_get rfl rfl (fun x8 (hx8 : x8 = vi_ m 1 1) rx8 sx8 => ?_)
          have ox8 := hx8
          replace hx8 : x8 = vi_ m0 1 1 := hx8.trans (sm_v p4 rfl)
          refine pw_iret rfl rfl rfl ?_
          refine pw_cmp rfl (by omega) ⟨rx8, sx8⟩ (fun (h9 : x8 ≤ k) => ?_) (fun (h9 : ¬ (x8 ≤ k)) => ?_)
          · refine pw_steps 1 (s' := (61, [some (.ref 0), some (.int (ei_ (a))), some (.int (ei_ (b))), some (.int (ei_ (f))), some (.int (ei_ (k))), u3], [.int (ei_ (a))], m)) rfl ?_
            refine pw_if rfl p5 (fun (h10 : ¬ a = 0) => ?_) (fun (h10 : ¬ ¬ a = 0) => ?_)
            · refine pw_steps 1 (s' := (69, [some (.ref 0), some (.int (ei_ (a))), some (.int (ei_ (b))), some (.int (ei_ (f))), some (.int (ei_ (k))), u3], [.int (ei_ (b))], m)) rfl ?_
              refine pw_iret rfl rfl rfl ?_
              exact k0 b m (by unfold sc_c; rw [if_pos (by omega), ← show k = vi_ m0 1 1 by omega, ← hv]; first | (rw [if_pos (by omega)]; done) | (rw [if_neg (by omega)]; done)) (p4)
            · refine pw_steps 2 (s' := (69, [some (.ref 0), some (.int (ei_ (a))), some (.int (ei_ (b))), some (.int (ei_ (f))), some (.int (ei_ (k))), u3], [.int (ei_ (f))], m)) rfl ?_
              refine pw_iret rfl rfl rfl ?_
              exact k0 f m (by unfold sc_c; rw [if_pos (by omega), ← show k = vi_ m0 1 1 by omega, ← hv]; first | (rw [if_pos (by omega)]; done) | (rw [if_neg (by omega)]; done)) (p4)
          · refine pw_steps 3 (s' := (37, [some (.ref 0), some (.int (ei_ (a))), some (.int (ei_ (b))), some (.int (ei_ (f))), some (.int (ei_ (k))), u3], [.int (ei_ (k)), .ref 3], m)) rfl ?_
            refine pw_call (As := [.int (ei_ (k))]) (st := []) (k := 3) rfl rfl rfl rfl rfl (Nat.le_of_ble_eq_true rfl) ?_
            refine cw_worn (p4) (by omega) (fun x11 g12 g13 => ?_)
            refine pw_steps 3 (s' := (45, [some (.ref 0), some (.int (ei_ (a))), some (.int (ei_ (b))), some (.int (ei_ (f))), some (.int (ei_ (k))), some (.int (ei_ (x11)))], [.int (ei_ (f)), .int (ei_ (x11))], m)) rfl ?_
            refine pw_cmp rfl (by omega) (by omega) (fun (h14 : x11 ≤ f) => ?_) (fun (h14 : ¬ (x11 ≤ f)) => ?_)
            · refine pw_steps 2 (s' := (19, [some (.ref 0), some (.int (ei_ (a))), some (.int (ei_ (b))), some (.int (ei_ (f))), some (.int ((ei_ (k)) + (ei_ (1)))), some (.int (ei_ (x11)))], [], m)) rfl ?_
              refine pw_cv (congrArg (fun z_ : Int32 => ((19, [some (.ref 0), some (.int (ei_ (a))), some (.int (ei_ (b))), some (.int (ei_ (f))), some (.int z_), some (.int (ei_ (x11)))], [], m) : am_S)) (ei_add rfl rfl)) ?_
              exact ih5 _ (by omega) b f (k + 1) (some (.int (ei_ (x11)))) rfl (by omega) (by have hd_ := g12; rw [cr_s (by omega) hv]; rw [← hd_]; first | (rw [if_pos (by omega)]; done) | (rw [if_neg (by omega)]; done))
            · refine pw_steps 6 (s' := (19, [some (.ref 0), some (.int (ei_ (a))), some (.int (ei_ (k))), some (.int (ei_ (x11))), some (.int ((ei_ (k)) + (ei_ (1)))), some (.int (ei_ (x11)))], [], m)) rfl ?_
              refine pw_cv (congrArg (fun z_ : Int32 => ((19, [some (.ref 0), some (.int (ei_ (a))), some (.int (ei_ (k))), some (.int (ei_ (x11))), some (.int z_), some (.int (ei_ (x11)))], [], m) : am_S)) (ei_add rfl rfl)) ?_
              exact ih5 _ (by omega) k x11 (k + 1) (some (.int (ei_ (x11)))) rfl (by omega) (by have hd_ := g12; rw [cr_s (by omega) hv]; rw [← hd_]; first | (rw [if_pos (by omega)]; done) | (rw [if_neg (by omega)]; done))
      exact L6 _ (-2) 0 0 none rfl (by omega) (by rfl)
    · refine pw_steps 1 (s' := (10, [some (.ref 0), some (.int (ei_ (a))), none, none, none, none], [.int (ei_ ((-1)))], m)) rfl ?_
      refine pw_iret rfl rfl rfl ?_
      exact k0 (-1) m (by unfold sc_c; rw [if_neg (by omega)]) (p4)

set_option maxHeartbeats 4000000 in
set_option maxRecDepth 20000 in
theorem ms_crowd {q : am_X} {d : Nat} {m : am_M} {Q : Option Value → am_M → Prop} {m0 : am_M} {a : Int}  (p0 : rP_ m0) (p1 : rD_ m0) (p2 : rZ_ m0) (p3 : rL_ m0) (p4 : sm_ pSc m0 m) (p5 : -2147483648 ≤ a ∧ a < 2147483648) (k0 : ∀ (x : Int) (m1 : am_M), (x = sc_c m0 a) → (sm_ pSc m0 m1) → Q (some (.int (ei_ (x)))) m1) : pw_C q (d + 60) 227 [.ref 47, .int (ei_ (a))] m Q := by
  obtain ⟨hP1, hP2, hP3, hP4⟩ := id p0
  have hmw := mW_of p0 p1
  have hmf := mF_of p0 p1
  refine pw_intro (I := iX9_crowd) (T := tX9_crowd) rfl rfl rfl ?_
  refine pw_steps 4 (s' := (4, [some (.ref 47), some (.int (ei_ (a))), none, none, none, none], [.long (el_ (1)), .long (el_ (0)), .long ((ei_ (a)).toInt64)], m)) rfl ?_
  refine pw_cv (congrArg (fun z_ : Int64 => ((4, [some (.ref 47), some (.int (ei_ (a))), none, none, none, none], [.long (el_ (1)), .long (el_ (0)), .long z_], m) : am_S)) (el_i2l p5 rfl)) ?_
  refine pw_callS (As := [.long (el_ (a)), .long (el_ (0)), .long (el_ (1))]) (st := []) rfl (by decide) rfl rfl (Nat.le_of_ble_eq_true rfl) ?_
  refine mt_within (by omega) (by omega) (by omega) (fun g1 g2 => ?_) (fun g3 => ?_) (fun g4 => ?_)
  · refine pw_ifT rfl (by decide) (show ¬ 1 = 0 by decide) ?_
    refine pw_steps 6 (s' := (20, [some (.ref 47), some (.int (ei_ (a))), some (.int (ei_ ((-2)))), some (.int (ei_ (0))), some (.int (ei_ (0))), none], [], m)) rfl ?_
    have L8 : ∀ (n6 : Nat) (b : Int) (f : Int) (k : Int) (u5 : Option Value), (vi_ m0 1 1 - k).toNat = n6 → (0 ≤ k ∧ k ≤ vi_ m0 1 1 ∧ -2 ≤ b ∧ b ≤ 8 ∧ 0 ≤ f ∧ f ≤ 8) → ((b, f) = cr_ (fun j => cn_ (vi_ m0 4) j 8) k.toNat) → pw_V q (d + 59) iX9_crowd.2.2.2.1 tX9_crowd Q (20, [some (.ref 47), some (.int (ei_ (a))), some (.int (ei_ (b))), some (.int (ei_ (f))), some (.int (ei_ (k))), u5], [], m) := by
      intro n6
      induction n6 using Nat.strongRecOn with
      | _ n6 ih7 =>
        intro b f k u5 hm_n6 v9 hv
        refine pw_steps 2 (s' := (23, [some (.ref 47), some (.int (ei_ (a))), some (.int (ei_ (b))), some (.int (ei_ (f))), some (.int (ei_ (k))), u5], [.ref 47, .int (ei_ (k))], m)) rfl ?_
        refine pw_get rfl rfl (fun x10 (hx10 : x10 = vi_ m 47 6) rx10 sx10 => ?_)
        have ox10 := hx10
        replace hx10 : x10 = vi_ m0 47 6 := hx10.trans (sm_v p4 rfl)
        refine pw_cmp rfl (by omega) ⟨rx10, sx10⟩ (fun (h11 : x10 ≤ k) => ?_) (fun (h11 : ¬ (x10 ≤ k)) => ?_)
        · refine pw_steps 1 (s' := (70, [some (.ref 47), some (.int (ei_ (a))), some (.int (ei_ (b))), some (.int (ei_ (f))), some (.int (ei_ (k))), u5], [.int (ei_ (a))], m)) rfl ?_
          refine pw_if rfl p5 (fun (h12 : ¬ a = 0) => ?_) (fun (h12 : ¬ ¬ a = 0) => ?_)
          · refine pw_steps 1 (s' := (78, [some (.ref 47), some (.int (ei_ (a))), some (.int (ei_ (b))), some (.int (ei_ (f))), some (.int (ei_ (k))), u5], [.int (ei_ (b))], m)) rfl ?_
            refine pw_iret rfl rfl rfl ?_
            exact k0 b m (by unfold sc_c; rw [if_pos (by omega), ← show k = vi_ m0 1 1 by omega, ← hv]; first | (rw [if_pos (by omega)]; done) | (rw [if_neg (by omega)]; done)) (p4)
          · refine pw_steps 2 (s' := (78, [some (.ref 47), some (.int (ei_ (a))), some (.int (ei_ (b))), some (.int (ei_ (f))), some (.int (ei_ (k))), u5], [.int (ei_ (f))], m)) rfl ?_
            refine pw_iret rfl rfl rfl ?_
            exact k0 f m (by unfold sc_c; rw [if_pos (by omega), ← show k = vi_ m0 1 1 by omega, ← hv]; first | (rw [if_pos (by omega)]; done) | (rw [if_neg (by omega)]; done)) (p4)
        · refine pw_steps 2 (s' := (32, [some (.ref 47), some (.int (ei_ (a))), some (.int (ei_ (b))), some (.int (ei_ (f))), some (.int (ei_ (k))), u5], [.int (ei_ (k)), .ref 47], m)) rfl ?_
          refine pw_call (As := [.int (ei_ (k))]) (st := []) (k := 47) rfl rfl rfl rfl rfl (Nat.le_of_ble_eq_true rfl) ?_
          refine mw_many (p0) (p4) (by omega) (fun x13 g14 g15 => ?_)
          rw [cn_mc p0 p1 ⟨by omega, by omega⟩] at g14
          refine pw_steps 3 (s' := (40, [some (.ref 47), some (.int (ei_ (a))), some (.int (ei_ (b))), some (.int (ei_ (f))), some (.int (ei_ (k))), some (.int (ei_ (x13)))], [.int (ei_ (f)), .int (ei_ (x13))], m)) rfl ?_
          refine pw_cmp rfl (by omega) (by omega) (fun (h16 : x13 ≤ f) => ?_) (fun (h16 : ¬ (x13 ≤ f)) => ?_)
          · refine pw_steps 4 (s' := (53, [some (.ref 47), some (.int (ei_ (a))), some (.int (ei_ (b))), some (.int (ei_ (f))), some (.int (ei_ (k))), some (.int (ei_ (x13)))], [.int (ei_ (f)), .int (ei_ (x13))], m)) rfl ?_
            refine pw_cmpT rfl (by omega) (by omega) (show x13 ≤ f by omega) ?_
            refine pw_steps 4 (s' := (20, [some (.ref 47), some (.int (ei_ (a))), some (.int (ei_ (b))), some (.int (ei_ (f))), some (.int ((ei_ (k)) + (ei_ (1)))), some (.int (ei_ (x13)))], [], m)) rfl ?_
            refine pw_cv (congrArg (fun z_ : Int32 => ((20, [some (.ref 47), some (.int (ei_ (a))), some (.int (ei_ (b))), some (.int (ei_ (f))), some (.int z_), some (.int (ei_ (x13)))], [], m) : am_S)) (ei_add rfl rfl)) ?_
            exact ih7 _ (by omega) b f (k + 1) (some (.int (ei_ (x13)))) rfl (by omega) (by have hd_ := g14; rw [cr_s (by omega) hv]; rw [← hd_]; first | (rw [if_pos (by omega)]; done) | (rw [if_neg (by omega)]; done))
          · refine pw_steps 5 (s' := (53, [some (.ref 47), some (.int (ei_ (a))), some (.int (ei_ (k))), some (.int (ei_ (f))), some (.int (ei_ (k))), some (.int (ei_ (x13)))], [.int (ei_ (f)), .int (ei_ (x13))], m)) rfl ?_
            refine pw_cmpF rfl (by omega) (by omega) (show ¬ (x13 ≤ f) by omega) ?_
            refine pw_steps 5 (s' := (20, [some (.ref 47), some (.int (ei_ (a))), some (.int (ei_ (k))), some (.int (ei_ (x13))), some (.int ((ei_ (k)) + (ei_ (1)))), some (.int (ei_ (x13)))], [], m)) rfl ?_
            refine pw_cv (congrArg (fun z_ : Int32 => ((20, [some (.ref 47), some (.int (ei_ (a))), some (.int (ei_ (k))), some (.int (ei_ (x13))), some (.int z_), some (.int (ei_ (x13)))], [], m) : am_S)) (ei_add rfl rfl)) ?_
            exact ih7 _ (by omega) k x13 (k + 1) (some (.int (ei_ (x13)))) rfl (by omega) (by have hd_ := g14; rw [cr_s (by omega) hv]; rw [← hd_]; first | (rw [if_pos (by omega)]; done) | (rw [if_neg (by omega)]; done))
    exact L8 _ (-2) 0 0 none rfl (by omega) (by rfl)
  · refine pw_ifF rfl (by decide) (show ¬ (¬ 0 = 0) by decide) ?_
    refine pw_steps 1 (s' := (11, [some (.ref 47), some (.int (ei_ (a))), none, none, none, none], [.int (ei_ ((-1)))], m)) rfl ?_
    refine pw_iret rfl rfl rfl ?_
    exact k0 (-1) m (by unfold sc_c; rw [if_neg (by omega)]) (p4)
  · refine pw_ifF rfl (by decide) (show ¬ (¬ 0 = 0) by decide) ?_
    refine pw_steps 1 (s' := (11, [some (.ref 47), some (.int (ei_ (a))), none, none, none, none], [.int (ei_ ((-1)))], m)) rfl ?_
    refine pw_iret rfl rfl rfl ?_
    exact k0 (-1) m (by unfold sc_c; rw [if_neg (by omega)]) (p4)

theorem op_crowd {q : am_X} {d : Nat} {m : am_M} {a : Int} (q0 : -2147483648 ≤ a ∧ a < 2147483648) (hR : rR_ m) : pw_C q (d + 60) 89 [.ref 0, .int (ei_ a)] m (fun r1 m1 => pw_C q (d + 60) 227 [.ref 47, .int (ei_ a)] m1 (fun r2 m2 => ∃ x : Int, r1 = some (.int (ei_ x)) ∧ r2 = some (.int (ei_ x)) ∧ rR_ m2)) := by
  obtain ⟨hp, hd, hi, ht, hl, hz, hc, ha, hs⟩ := id hR
  refine cs_crowd hp hd hz hl (sm_rfl m) q0 (fun x m1 e1 g1 => ?_)
  refine ms_crowd hp hd hz hl g1 q0 (fun y m2 e2 g2 => ?_)
  exact ⟨x, rfl, by rw [e2, ← e1], rR_sm g2 hR⟩

