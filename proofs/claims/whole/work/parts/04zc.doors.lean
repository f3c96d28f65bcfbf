
/-! ===== doors ===== -/
def lw_w (m : am_M) (n x w : Int) : Int := lf_ (vi_ m 5 x) (rt_ m w x (cn_ (vi_ m 4) w 8) (vi_ m 2 32)) n
def gn_ (m : am_M) (n a b : Int) : Int := (lw_w m n a (vi_ m 4 b) + lw_w m n b (vi_ m 4 a)) - (lw_w m n a (vi_ m 4 a) + lw_w m n b (vi_ m 4 b))
def di_ (m : am_M) (n a : Int) (s : Int × Int) : Nat → Int × Int
  | 0 => s
  | k + 1 => if (di_ m n a s k).2 < gn_ m n a (a + 1 + k) then (10 * a + (a + 1 + k), gn_ m n a (a + 1 + k)) else di_ m n a s k
def do_ (m : am_M) (n : Int) : Nat → Int × Int
  | 0 => (-2, 0)
  | k + 1 => di_ m n k (do_ m n k) (vi_ m 1 1 - (k + 1)).toNat
theorem di_s {m : am_M} {n a b : Int} {s : Int × Int} (h : a + 1 ≤ b) : di_ m n a s (b + 1 - (a + 1)).toNat = if (di_ m n a s (b - (a + 1)).toNat).2 < gn_ m n a b then (10 * a + b, gn_ m n a b) else di_ m n a s (b - (a + 1)).toNat := by
  rw [show (b + 1 - (a + 1)).toNat = (b - (a + 1)).toNat + 1 by omega]
  simp only [di_]
  rw [show a + 1 + ((b - (a + 1)).toNat : Int) = b by omega]
theorem do_s {m : am_M} {n a : Int} (h : 0 ≤ a) : do_ m n (a + 1).toNat = di_ m n a (do_ m n a.toNat) (vi_ m 1 1 - (a + 1)).toNat := by
  rw [show (a + 1).toNat = a.toNat + 1 by omega]
  simp only [do_]
  rw [Int.toNat_of_nonneg h]
def sd_d (m : am_M) (n : Int) : Int := if 0 ≤ n ∧ n ≤ 99 then (do_ m n (vi_ m 1 1).toNat).1 else -1
theorem cn_set2 {f g : Int → Int} {a q w : Int} (ha : 0 ≤ a) (hg : ∀ j, 0 ≤ j → g j = if j = a then q else f j) : ∀ n : Nat, cn_ g w n = cn_ f w n + (if a < (n : Int) then (if q = w then 1 else 0) - (if f a = w then 1 else 0) else 0) := by
  intro n
  induction n with
  | zero => rw [if_neg (by omega)]; rfl
  | succ n ih =>
    simp only [cn_]
    rw [ih, hg n (by omega)]
    by_cases c : (n : Int) = a
    · have hfa : f (n : Int) = f a := by rw [c]
      rw [if_pos c]
      omega
    · rw [if_neg c]
      omega
theorem su_set {f g : Int → Int} {a : Int} (ha : 0 ≤ a) (hg : ∀ j, 0 ≤ j → j ≠ a → g j = f j) : ∀ n : Nat, su_ g n = su_ f n + (if a < (n : Int) then g a - f a else 0) := by
  intro n
  induction n with
  | zero => rw [if_neg (by omega)]; rfl
  | succ n ih =>
    simp only [su_]
    rw [ih]
    by_cases c : (n : Int) = a
    · have h1 : f (n : Int) = f a := by rw [c]
      have h2 : g (n : Int) = g a := by rw [c]
      omega
    · rw [hg n (by omega) c]
      omega
theorem lw_b (m : am_M) (hd : rD_ m) {n x w : Int} (hx : 0 ≤ x ∧ x < 8) (hn : 0 ≤ n) : 0 ≤ lw_w m n x w ∧ lw_w m n x w ≤ 999 := by
  have h1 := hd.2.1 x hx.1 hx.2
  have h2 := rt_b m w x (cn_ (vi_ m 4) w 8) (vi_ m 2 32)
  have h3 := lf_b (l := vi_ m 5 x) (r := rt_ m w x (cn_ (vi_ m 4) w 8) (vi_ m 2 32)) (n := n) h1.1 h2.1 hn
  unfold lw_w
  omega

set_option maxHeartbeats 4000000 in
set_option maxRecDepth 20000 in
theorem cs_lw {q : am_X} {d : Nat} {m : am_M} {Q : Option Value → am_M → Prop} {m0 : am_M} {x : Int} {w : Int} {n : Int}  (p0 : rP_ m0) (p1 : rD_ m0) (p2 : rZ_ m0) (p3 : sm_ pSc m0 m) (p4 : 0 ≤ x ∧ x < vi_ m0 1 1) (p5 : 0 ≤ w ∧ w < vi_ m0 1 1) (p6 : 0 ≤ n ∧ n ≤ 99) (k0 : ∀ (r : Int) (m1 : am_M), (r = lw_w m0 n x w) → (sm_ pSc m0 m1) → (0 ≤ r ∧ r ≤ 999) → Q (some (.int (ei_ (r)))) m1) : pw_C q (d + 7) 100 [.ref 0, .int (ei_ (x)), .int (ei_ (w)), .int (ei_ (n))] m Q := by
  obtain ⟨hP1, hP2, hP3, hP4⟩ := id p0
  refine pw_intro (I := iX8_leftWith) (T := tX8_leftWith) rfl rfl rfl ?_
  refine pw_steps 6 (s' := (8, [some (.ref 0), some (.int (ei_ (x))), some (.int (ei_ (w))), some (.int (ei_ (n))), none], [.int (ei_ (w)), .ref 3, .int (ei_ (w)), .int (ei_ (x)), .ref 0], m)) rfl ?_
  refine pw_call (As := [.int (ei_ (w))]) (st := [.int (ei_ (w)), .int (ei_ (x)), .ref 0]) (k := 3) rfl rfl rfl rfl rfl (Nat.le_of_ble_eq_true rfl) ?_
  refine cw_worn (p3) (by omega) (fun x1 g2 g3 => ?_)
  refine pw_steps 2 (s' := (15, [some (.ref 0), some (.int (ei_ (x))), some (.int (ei_ (w))), some (.int (ei_ (n))), none], [.ref 1, .int (ei_ (x1)), .int (ei_ (w)), .int (ei_ (x)), .ref 0], m)) rfl ?_
  refine pw_call (As := []) (st := [.int (ei_ (x1)), .int (ei_ (w)), .int (ei_ (x)), .ref 0]) (k := 1) rfl rfl rfl rfl rfl (Nat.le_of_ble_eq_true rfl) ?_
  refine pw_intro (I := iX3_cold) (T := tX3_cold) rfl rfl rfl ?_
  refine pw_steps 3 (s' := (3, [some (.ref 1)], [.int (ei_ (4)), .int (ei_ (0)), .ref 1], m)) rfl ?_
  refine pw_call (As := [.int (ei_ (0)), .int (ei_ (4))]) (st := []) (k := 1) rfl rfl rfl rfl rfl (Nat.le_of_ble_eq_true rfl) ?_
  refine cw_told4 (p0) (p3) (fun x4 g5 g6 => ?_)
  refine pw_iret rfl rfl rfl ?_
  refine pw_call (As := [.int (ei_ (x)), .int (ei_ (w)), .int (ei_ (x1)), .int (ei_ (x4))]) (st := []) (k := 0) rfl rfl rfl rfl rfl (Nat.le_of_ble_eq_true rfl) ?_
  refine cw_rate (p0) (p2) (p3) (p4) (p5) (by omega) (by omega) (fun x7 m18 g9 g10 g11 => ?_)
  refine pw_steps 6 (s' := (31, [some (.ref 0), some (.int (ei_ (x))), some (.int (ei_ (w))), some (.int (ei_ (n))), some (.int (ei_ (x7)))], [.int (ei_ (n)), .int (ei_ (x7)), .int (ei_ (x)), .ref 3], m18)) rfl ?_
  refine pw_call (As := [.int (ei_ (x)), .int (ei_ (x7)), .int (ei_ (n))]) (st := []) (k := 3) rfl rfl rfl rfl rfl (Nat.le_of_ble_eq_true rfl) ?_
  refine cw_leftBy (p1.2.1) (g10) (by omega) (by omega) (p6) (fun x12 g13 g14 => ?_)
  refine pw_iret rfl rfl rfl ?_
  exact k0 x12 m18 (by unfold lw_w; rw [g13, g9, g2, g5]) (g10) (by omega)

set_option maxHeartbeats 4000000 in
set_option maxRecDepth 20000 in
theorem cs_gain {q : am_X} {d : Nat} {m : am_M} {Q : Option Value → am_M → Prop} {m0 : am_M} {a : Int} {b : Int} {n : Int}  (p0 : rP_ m0) (p1 : rD_ m0) (p2 : rZ_ m0) (p3 : sm_ pSc m0 m) (p4 : 0 ≤ a ∧ a < vi_ m0 1 1) (p5 : 0 ≤ b ∧ b < vi_ m0 1 1) (p6 : 0 ≤ n ∧ n ≤ 99) (k0 : ∀ (r : Int) (m1 : am_M), (r = gn_ m0 n a b) → (sm_ pSc m0 m1) → (-2000 ≤ r ∧ r ≤ 2000) → Q (some (.int (ei_ (r)))) m1) : pw_C q (d + 8) 99 [.ref 0, .int (ei_ (a)), .int (ei_ (b)), .int (ei_ (n))] m Q := by
  obtain ⟨hP1, hP2, hP3, hP4⟩ := id p0
  refine pw_intro (I := iX8_gainOfExchange) (T := tX8_gainOfExchange) rfl rfl rfl ?_
  refine pw_steps 3 (s' := (5, [some (.ref 0), some (.int (ei_ (a))), some (.int (ei_ (b))), some (.int (ei_ (n))), none, none, none], [.int (ei_ (a)), .ref 3], m)) rfl ?_
  refine pw_call (As := [.int (ei_ (a))]) (st := []) (k := 3) rfl rfl rfl rfl rfl (Nat.le_of_ble_eq_true rfl) ?_
  refine cw_wearer2 (p3) (by omega) (fun x1 g2 g3 => ?_)
  have hw4 := p1.1 a (by omega) (by omega)
  refine pw_steps 4 (s' := (15, [some (.ref 0), some (.int (ei_ (a))), some (.int (ei_ (b))), some (.int (ei_ (n))), some (.int (ei_ (x1))), none, none], [.int (ei_ (b)), .ref 3], m)) rfl ?_
  refine pw_call (As := [.int (ei_ (b))]) (st := []) (k := 3) rfl rfl rfl rfl rfl (Nat.le_of_ble_eq_true rfl) ?_
  refine cw_wearer2 (p3) (by omega) (fun x5 g6 g7 => ?_)
  have hw8 := p1.1 b (by omega) (by omega)
  refine pw_steps 5 (s' := (25, [some (.ref 0), some (.int (ei_ (a))), some (.int (ei_ (b))), some (.int (ei_ (n))), some (.int (ei_ (x1))), some (.int (ei_ (x5))), none], [.int (ei_ (n)), .int (ei_ (x1)), .int (ei_ (a)), .ref 0], m)) rfl ?_
  refine pw_call (As := [.int (ei_ (a)), .int (ei_ (x1)), .int (ei_ (n))]) (st := []) (k := 0) rfl rfl rfl rfl rfl (Nat.le_of_ble_eq_true rfl) ?_
  refine cs_lw (p0) (p1) (p2) (p3) (p4) (by omega) (p6) (fun r9 m110 g11 g12 g13 => ?_)
  refine pw_steps 4 (s' := (33, [some (.ref 0), some (.int (ei_ (a))), some (.int (ei_ (b))), some (.int (ei_ (n))), some (.int (ei_ (x1))), some (.int (ei_ (x5))), none], [.int (ei_ (n)), .int (ei_ (x5)), .int (ei_ (b)), .ref 0, .int (ei_ (r9))], m110)) rfl ?_
  refine pw_call (As := [.int (ei_ (b)), .int (ei_ (x5)), .int (ei_ (n))]) (st := [.int (ei_ (r9))]) (k := 0) rfl rfl rfl rfl rfl (Nat.le_of_ble_eq_true rfl) ?_
  refine cs_lw (p0) (p1) (p2) (g12) (p5) (by omega) (p6) (fun r14 m115 g16 g17 g18 => ?_)
  refine pw_steps 6 (s' := (44, [some (.ref 0), some (.int (ei_ (a))), some (.int (ei_ (b))), some (.int (ei_ (n))), some (.int (ei_ (x1))), some (.int (ei_ (x5))), some (.int ((ei_ (r9)) + (ei_ (r14))))], [.int (ei_ (n)), .int (ei_ (x5)), .int (ei_ (a)), .ref 0], m115)) rfl ?_
  refine pw_cv (congrArg (fun z_ : Int32 => ((44, [some (.ref 0), some (.int (ei_ (a))), some (.int (ei_ (b))), some (.int (ei_ (n))), some (.int (ei_ (x1))), some (.int (ei_ (x5))), some (.int z_)], [.int (ei_ (n)), .int (ei_ (x5)), .int (ei_ (a)), .ref 0], m115) : am_S)) (ei_add rfl rfl)) ?_
  refine pw_call (As := [.int (ei_ (a)), .int (ei_ (x5)), .int (ei_ (n))]) (st := []) (k := 0) rfl rfl rfl rfl rfl (Nat.le_of_ble_eq_true rfl) ?_
  refine cs_lw (p0) (p1) (p2) (g17) (p4) (by omega) (p6) (fun r19 m120 g21 g22 g23 => ?_)
  refine pw_steps 4 (s' := (52, [some (.ref 0), some (.int (ei_ (a))), some (.int (ei_ (b))), some (.int (ei_ (n))), some (.int (ei_ (x1))), some (.int (ei_ (x5))), some (.int (ei_ ((r9 + r14))))], [.int (ei_ (n)), .int (ei_ (x1)), .int (ei_ (b)), .ref 0, .int (ei_ (r19))], m120)) rfl ?_
  refine pw_call (As := [.int (ei_ (b)), .int (ei_ (x1)), .int (ei_ (n))]) (st := [.int (ei_ (r19))]) (k := 0) rfl rfl rfl rfl rfl (Nat.le_of_ble_eq_true rfl) ?_
  refine cs_lw (p0) (p1) (p2) (g22) (p5) (by omega) (p6) (fun r24 m125 g26 g27 g28 => ?_)
  refine pw_steps 3 (s' := (59, [some (.ref 0), some (.int (ei_ (a))), some (.int (ei_ (b))), some (.int (ei_ (n))), some (.int (ei_ (x1))), some (.int (ei_ (x5))), some (.int (ei_ ((r9 + r14))))], [.int (((ei_ (r19)) + (ei_ (r24))) - (ei_ ((r9 + r14))))], m125)) rfl ?_
  refine pw_cv (congrArg (fun z_ : Int32 => ((59, [some (.ref 0), some (.int (ei_ (a))), some (.int (ei_ (b))), some (.int (ei_ (n))), some (.int (ei_ (x1))), some (.int (ei_ (x5))), some (.int (ei_ ((r9 + r14))))], [.int z_], m125) : am_S)) (ei_sub (ei_add rfl rfl) rfl)) ?_
  refine pw_iret rfl rfl rfl ?_
  exact k0 ((r19 + r24) - (r9 + r14)) m125 (by unfold gn_; rw [← g2, ← g6, ← g11, ← g16, ← g21, ← g26]) (g27) (by omega)

set_option maxHeartbeats 4000000 in
set_option maxRecDepth 20000 in
theorem cs_doors {q : am_X} {d : Nat} {m : am_M} {Q : Option Value → am_M → Prop} {m0 : am_M} {a : Int}  (p0 : rP_ m0) (p1 : rD_ m0) (p2 : rZ_ m0) (p3 : rL_ m0) (p4 : sm_ pSc m0 m) (p5 : -2147483648 ≤ a ∧ a < 2147483648) (k0 : ∀ (x : Int) (m1 : am_M), (x = sd_d m0 a) → (sm_ pSc m0 m1) → Q (some (.int (ei_ (x)))) m1) : pw_C q (d + 60) 98 [.ref 0, .int (ei_ (a))] m Q := by
  obtain ⟨hP1, hP2, hP3, hP4⟩ := id p0
  have hmw := mW_of p0 p1
  have hmf := mF_of p0 p1
  refine pw_intro (I := iX8_doors) (T := tX8_doors) rfl rfl rfl ?_
  refine pw_steps 1 (s' := (1, [some (.ref 0), some (.int (ei_ (a))), none, none, none, none, none], [.int (ei_ (a))], m)) rfl ?_
  refine pw_callS (As := [.int (ei_ (a))]) (st := []) rfl (by decide) rfl rfl (Nat.le_of_ble_eq_true rfl) ?_
  refine pw_intro (I := iX8_isTo99) (T := tX8_isTo99) rfl rfl rfl ?_
  refine pw_steps 1 (s' := (1, [some (.int (ei_ (a)))], [.int (ei_ (a))], m)) rfl ?_
  refine pw_if rfl p5 (fun (h1 : a < 0) => ?_) (fun (h1 : ¬ (a < 0)) => ?_)
  · refine pw_steps 1 (s' := (15, [some (.int (ei_ (a)))], [.int (ei_ (0))], m)) rfl ?_
    refine pw_iret rfl rfl rfl ?_
    refine pw_ifF rfl (by decide) (show ¬ (¬ 0 = 0) by decide) ?_
    refine pw_steps 1 (s' := (8, [some (.ref 0), some (.int (ei_ (a))), none, none, none, none, none], [.int (ei_ ((-1)))], m)) rfl ?_
    refine pw_iret rfl rfl rfl ?_
    exact k0 (-1) m (by unfold sd_d; rw [if_neg (by omega)]) (p4)
  · refine pw_steps 2 (s' := (7, [some (.int (ei_ (a)))], [.int (ei_ (99)), .int (ei_ (a))], m)) rfl ?_
    refine pw_cmp rfl p5 (by decide) (fun (h2 : 99 < a) => ?_) (fun (h2 : ¬ (99 < a)) => ?_)
    · refine pw_steps 1 (s' := (15, [some (.int (ei_ (a)))], [.int (ei_ (0))], m)) rfl ?_
      refine pw_iret rfl rfl rfl ?_
      refine pw_ifF rfl (by decide) (show ¬ (¬ 0 = 0) by decide) ?_
      refine pw_steps 1 (s' := (8, [some (.ref 0), some (.int (ei_ (a))), none, none, none, none, none], [.int (ei_ ((-1)))], m)) rfl ?_
      refine pw_iret rfl rfl rfl ?_
      exact k0 (-1) m (by unfold sd_d; rw [if_neg (by omega)]) (p4)
    · refine pw_steps 2 (s' := (15, [some (.int (ei_ (a)))], [.int (ei_ (1))], m)) rfl ?_
      refine pw_iret rfl rfl rfl ?_
      refine pw_ifT rfl (by decide) (show ¬ 1 = 0 by decide) ?_
      refine pw_steps 6 (s' := (17, [some (.ref 0), some (.int (ei_ (a))), some (.int (ei_ ((-2)))), some (.int (ei_ (0))), some (.int (ei_ (0))), none, none], [], m)) rfl ?_
      have L7 : ∀ (n5 : Nat) (b : Int) (f : Int) (k : Int) (u3 : Option Value) (u4 : Option Value) (m1 : am_M), (vi_ m0 1 1 - k).toNat = n5 → (0 ≤ k ∧ k ≤ vi_ m0 1 1 ∧ -2 ≤ b ∧ b ≤ 99 ∧ 0 ≤ f ∧ f ≤ 2000) → (sm_ pSc m0 m1) → ((b, f) = do_ m0 a k.toNat) → pw_V q (d + 59) iX8_doors.2.2.2.1 tX8_doors Q (17, [some (.ref 0), some (.int (ei_ (a))), some (.int (ei_ (b))), some (.int (ei_ (f))), some (.int (ei_ (k))), u3, u4], [], m1) := by
        intro n5
        induction n5 using Nat.strongRecOn with
        | _ n5 ih6 =>
          intro b f k u3 u4 m1 hm_n5 v8 hs hv
          refine pw_steps 3 (s' := (23, [some (.ref 0), some (.int (ei_ (a))), some (.int (ei_ (b))), some (.int (ei_ (f))), some (.int (ei_ (k))), u3, u4], [.ref 1, .int (ei_ (k))], m1)) rfl ?_
          refine pw_call (As := []) (st := [.int (ei_ (k))]) (k := 1) rfl rfl rfl rfl rfl (Nat.le_of_ble_eq_true rfl) ?_
          refine pw_intro (I := iX3_size) (T := tX3_size) rfl rfl rfl ?_
          refine pw_steps 1 (s' := (1, [some (.ref 1)], [.ref 1], m1)) rfl ?_
          refine pw_get rfl rfl (fun x9 (hx9 : x9 = vi_ m1 1 1) rx9 sx9 => ?_)
          have ox9 := hx9
          replace hx9 : x9 = vi_ m0 1 1 := hx9.trans (sm_v hs rfl)
          refine pw_iret rfl rfl rfl ?_
          refine pw_cmp rfl (by omega) ⟨rx9, sx9⟩ (fun (h10 : x9 ≤ k) => ?_) (fun (h10 : ¬ (x9 ≤ k)) => ?_)
          · refine pw_steps 1 (s' := (89, [some (.ref 0), some (.int (ei_ (a))), some (.int (ei_ (b))), some (.int (ei_ (f))), some (.int (ei_ (k))), u3, u4], [.int (ei_ (b))], m1)) rfl ?_
            refine pw_iret rfl rfl rfl ?_
            exact k0 b m1 (by unfold sd_d; rw [if_pos (by omega), ← show k = vi_ m0 1 1 by omega, ← hv]) (hs)
          · refine pw_steps 4 (s' := (35, [some (.ref 0), some (.int (ei_ (a))), some (.int (ei_ (b))), some (.int (ei_ (f))), some (.int (ei_ (k))), some (.int ((ei_ (k)) + (ei_ (1)))), u4], [], m1)) rfl ?_
            refine pw_cv (congrArg (fun z_ : Int32 => ((35, [some (.ref 0), some (.int (ei_ (a))), some (.int (ei_ (b))), some (.int (ei_ (f))), some (.int (ei_ (k))), some (.int z_), u4], [], m1) : am_S)) (ei_add rfl rfl)) ?_
            have L14 : ∀ (n12 : Nat) (b2 : Int) (f2 : Int) (k2 : Int) (u11 : Option Value) (m2 : am_M), (vi_ m0 1 1 - k2).toNat = n12 → (k + 1 ≤ k2 ∧ k2 ≤ vi_ m0 1 1 ∧ -2 ≤ b2 ∧ b2 ≤ 99 ∧ 0 ≤ f2 ∧ f2 ≤ 2000) → (sm_ pSc m0 m2) → ((b2, f2) = di_ m0 a k (do_ m0 a k.toNat) (k2 - (k + 1)).toNat) → pw_V q (d + 59) iX8_doors.2.2.2.1 tX8_doors Q (35, [some (.ref 0), some (.int (ei_ (a))), some (.int (ei_ (b2))), some (.int (ei_ (f2))), some (.int (ei_ (k))), some (.int (ei_ (k2))), u11], [], m2) := by
              intro n12
              induction n12 using Nat.strongRecOn with
              | _ n12 ih13 =>
                intro b2 f2 k2 u11 m2 hm_n12 v15 hs2 hv2
                refine pw_steps 3 (s' := (41, [some (.ref 0), some (.int (ei_ (a))), some (.int (ei_ (b2))), some (.int (ei_ (f2))), some (.int (ei_ (k))), some (.int (ei_ (k2))), u11], [.ref 1, .int (ei_ (k2))], m2)) rfl ?_
                refine pw_call (As := []) (st := [.int (ei_ (k2))]) (k := 1) rfl rfl rfl rfl rfl (Nat.le_of_ble_eq_true rfl) ?_
                refine pw_intro (I := iX3_size) (T := tX3_size) rfl rfl rfl ?_
                refine pw_steps 1 (s' := (1, [some (.ref 1)], [.ref 1], m2)) rfl ?_
                refine pw_get rfl rfl (fun x16 (hx16 : x16 = vi_ m2 1 1) rx16 sx16 => ?_)
                have ox16 := hx16
                replace hx16 : x16 = vi_ m0 1 1 := hx16.trans (sm_v hs2 rfl)
                refine pw_iret rfl rfl rfl ?_
                refine pw_cmp rfl (by omega) ⟨rx16, sx16⟩ (fun (h17 : x16 ≤ k2) => ?_) (fun (h17 : ¬ (x16 ≤ k2)) => ?_)
                · refine pw_steps 2 (s' := (17, [some (.ref 0), some (.int (ei_ (a))), some (.int (ei_ (b2))), some (.int (ei_ (f2))), some (.int ((ei_ (k)) + (ei_ (1)))), some (.int (ei_ (k2))), u11], [], m2)) rfl ?_
                  refine pw_cv (congrArg (fun z_ : Int32 => ((17, [some (.ref 0), some (.int (ei_ (a))), some (.int (ei_ (b2))), some (.int (ei_ (f2))), some (.int z_), some (.int (ei_ (k2))), u11], [], m2) : am_S)) (ei_add rfl rfl)) ?_
                  exact ih6 _ (by omega) b2 f2 (k + 1) (some (.int (ei_ (k2)))) u11 m2 rfl (by omega) (hs2) (by rw [do_s (by omega), ← show k2 = vi_ m0 1 1 by omega]; exact hv2)
                · refine pw_steps 4 (s' := (53, [some (.ref 0), some (.int (ei_ (a))), some (.int (ei_ (b2))), some (.int (ei_ (f2))), some (.int (ei_ (k))), some (.int (ei_ (k2))), u11], [.int (ei_ (a)), .int (ei_ (k2)), .int (ei_ (k)), .ref 0], m2)) rfl ?_
                  refine pw_call (As := [.int (ei_ (k)), .int (ei_ (k2)), .int (ei_ (a))]) (st := []) (k := 0) rfl rfl rfl rfl rfl (Nat.le_of_ble_eq_true rfl) ?_
                  refine cs_gain (p0) (p1) (p2) (hs2) (by omega) (by omega) (by omega) (fun r18 m119 g20 g21 g22 => ?_)
                  refine pw_steps 3 (s' := (61, [some (.ref 0), some (.int (ei_ (a))), some (.int (ei_ (b2))), some (.int (ei_ (f2))), some (.int (ei_ (k))), some (.int (ei_ (k2))), some (.int (ei_ (r18)))], [.int (ei_ (f2)), .int (ei_ (r18))], m119)) rfl ?_
                  refine pw_cmp rfl (by omega) (by omega) (fun (h23 : r18 ≤ f2) => ?_) (fun (h23 : ¬ (r18 ≤ f2)) => ?_)
                  · refine pw_steps 2 (s' := (35, [some (.ref 0), some (.int (ei_ (a))), some (.int (ei_ (b2))), some (.int (ei_ (f2))), some (.int (ei_ (k))), some (.int ((ei_ (k2)) + (ei_ (1)))), some (.int (ei_ (r18)))], [], m119)) rfl ?_
                    refine pw_cv (congrArg (fun z_ : Int32 => ((35, [some (.ref 0), some (.int (ei_ (a))), some (.int (ei_ (b2))), some (.int (ei_ (f2))), some (.int (ei_ (k))), some (.int z_), some (.int (ei_ (r18)))], [], m119) : am_S)) (ei_add rfl rfl)) ?_
                    exact ih13 _ (by omega) b2 f2 (k2 + 1) (some (.int (ei_ (r18)))) m119 rfl (by omega) (g21) (by rw [di_s (by omega), ← hv2]; show (b2, f2) = if f2 < gn_ m0 a k k2 then (10 * k + k2, gn_ m0 a k k2) else (b2, f2); rw [← g20]; first | (rw [if_pos (by omega)]; done) | (rw [if_neg (by omega)]; done))
                  · refine pw_steps 10 (s' := (35, [some (.ref 0), some (.int (ei_ (a))), some (.int (((ei_ (10)) * (ei_ (k))) + (ei_ (k2)))), some (.int (ei_ (r18))), some (.int (ei_ (k))), some (.int ((ei_ (k2)) + (ei_ (1)))), some (.int (ei_ (r18)))], [], m119)) rfl ?_
                    refine pw_cv (congrArg (fun z_ : Int32 => ((35, [some (.ref 0), some (.int (ei_ (a))), some (.int z_), some (.int (ei_ (r18))), some (.int (ei_ (k))), some (.int ((ei_ (k2)) + (ei_ (1)))), some (.int (ei_ (r18)))], [], m119) : am_S)) (ei_add (ei_mul rfl rfl) rfl)) ?_
                    refine pw_cv (congrArg (fun z_ : Int32 => ((35, [some (.ref 0), some (.int (ei_ (a))), some (.int (ei_ (((10 * k) + k2)))), some (.int (ei_ (r18))), some (.int (ei_ (k))), some (.int z_), some (.int (ei_ (r18)))], [], m119) : am_S)) (ei_add rfl rfl)) ?_
                    exact ih13 _ (by omega) ((10 * k) + k2) r18 (k2 + 1) (some (.int (ei_ (r18)))) m119 rfl (by omega) (g21) (by rw [di_s (by omega), ← hv2]; show (((10 * k) + k2), r18) = if f2 < gn_ m0 a k k2 then (10 * k + k2, gn_ m0 a k k2) else (b2, f2); rw [← g20]; first | (rw [if_pos (by omega)]; done) | (rw [if_neg (by omega)]; done))
            exact L14 _ b f (k + 1) u4 m1 rfl (by omega) (hs) (by rw [Int.sub_self, ← hv]; rfl)
      exact L7 _ (-2) 0 0 none none m rfl (by omega) (p4) (by rfl)

