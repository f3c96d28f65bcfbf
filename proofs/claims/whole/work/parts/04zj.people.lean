
/-! ===== people ===== -/
def gC_ (m : am_M) (a i P j : Int) : Prop := P + j < 8 ∧ 0 ≤ i + 3 * j ∧ i + 3 * j + 3 ≤ vi_ m (sf_ a) 2 ∧ (1 ≤ vl_ m (sf_ a + 1) (i + 3 * j) ∧ vl_ m (sf_ a + 1) (i + 3 * j) ≤ 9) ∧ (0 ≤ vl_ m (sf_ a + 1) (i + 3 * j + 1) ∧ vl_ m (sf_ a + 1) (i + 3 * j + 1) ≤ 9) ∧ (1 ≤ vl_ m (sf_ a + 1) (i + 3 * j + 2) ∧ vl_ m (sf_ a + 1) (i + 3 * j + 2) ≤ 9)
def gM_ (m : am_M) (a i P j : Int) : Prop := P + j < 8 ∧ 0 ≤ i + 3 * j ∧ i + 3 * j + 3 ≤ vi_ m 69 a ∧ (1 ≤ vl_ m 70 (60 * a + i + 3 * j) ∧ vl_ m 70 (60 * a + i + 3 * j) ≤ 9) ∧ (0 ≤ vl_ m 70 (60 * a + i + 3 * j + 1) ∧ vl_ m 70 (60 * a + i + 3 * j + 1) ≤ 9) ∧ (1 ≤ vl_ m 70 (60 * a + i + 3 * j + 2) ∧ vl_ m 70 (60 * a + i + 3 * j + 2) ≤ 9)
def pe_ (g : Int → Prop) (n k : Int) : Prop := (0 ≤ k ∧ k ≤ n) ∧ (∀ j, 0 ≤ j → j < k → g j) ∧ (k = n ∨ ¬ g k)
theorem pe_u {g h : Int → Prop} {n k r : Int} (e : ∀ j, 0 ≤ j → (g j ↔ h j)) (a : pe_ g n k) (b : pe_ h n r) : r = k := by
  obtain ⟨a1, a2, a3⟩ := a
  obtain ⟨b1, b2, b3⟩ := b
  by_cases c : k < r
  · rcases a3 with a3 | a3
    · omega
    · exact absurd ((e k a1.1).2 (b2 k a1.1 c)) a3
  · by_cases c2 : r < k
    · rcases b3 with b3 | b3
      · omega
      · exact absurd ((e r b1.1).1 (a2 r b1.1 c2)) b3
    · omega
theorem pe_s {g : Int → Prop} {k : Int} (h : ∀ j, 0 ≤ j → j < k → g j) (e : g k) : ∀ j, 0 ≤ j → j < k + 1 → g j := by
  intro j a b
  by_cases c : j = k
  · rw [c]; exact e
  · exact h j a (by omega)
theorem sb2_of {m : am_M} (hs : rS_ m) (ha : vi_ m 29 2 ≤ 50) {a : Int} (h : 0 ≤ a ∧ a < 6) : (0 ≤ vi_ m 69 a ∧ vi_ m 69 a ≤ 60) ∧ (vi_ m 68 a < 0 → vi_ m 69 a = 0) ∧ (vi_ m 68 a = 50 → ∀ j, 60 * a ≤ j → j < 60 * a + vi_ m 69 a → -128 ≤ vl_ m 70 j ∧ vl_ m 70 j ≤ 127) := by
  obtain ⟨t1, t2, t3⟩ := hs a h.1 h.2
  refine ⟨by omega, fun g => ?_, fun g => (sb_of hs ha h g).2.2⟩
  rcases t3 with t3 | t3 | t3 <;> omega
theorem gC_gM {m : am_M} (hs : rS_ m) {a i P : Int} (h : 0 ≤ a ∧ a < 6) (j : Int) : gC_ m a i P j ↔ gM_ m a i P j := by
  obtain ⟨t1, t2, t3⟩ := hs a h.1 h.2
  unfold gC_ gM_
  rw [t1]
  by_cases c : 0 ≤ i + 3 * j ∧ i + 3 * j + 3 ≤ vi_ m (sf_ a) 2
  · rcases t3 with t3 | t3 | t3
    · exfalso; omega
    · exfalso; omega
    · rw [show 60 * a + i + 3 * j = 60 * a + (i + 3 * j) by omega, show 60 * a + (i + 3 * j) + 1 = 60 * a + (i + 3 * j + 1) by omega, show 60 * a + (i + 3 * j) + 2 = 60 * a + (i + 3 * j + 2) by omega]
      rw [(t3.2.2.2 (i + 3 * j) (by omega) (by omega)).1, (t3.2.2.2 (i + 3 * j + 1) (by omega) (by omega)).1, (t3.2.2.2 (i + 3 * j + 2) (by omega) (by omega)).1]
  · constructor
    · rintro ⟨_, c1, c2, _⟩; exact absurd ⟨c1, c2⟩ c
    · rintro ⟨_, c1, c2, _⟩; exact absurd ⟨c1, c2⟩ c

def pAc (k j : Nat) : Bool := (k == 1 && j == 1) || k == 2
def pAm (k j : Nat) : Bool := k == 48 || k == 52 || k == 53 || (k == 47 && j == 6)
def pAds (k j : Nat) : Bool := (k == 1 && j == 1) || k == 2 || k == 48 || k == 52 || k == 53 || (k == 47 && j == 6)
theorem pAc_Ads : ∀ k j, pAds k j = false → pAc k j = false := by
  intro k j h
  simp only [pAc, pAds, Bool.or_eq_false_iff, Bool.and_eq_false_iff, beq_eq_false_iff_ne, decide_eq_false_iff_not] at h ⊢
  omega

theorem pAm_Ads : ∀ k j, pAds k j = false → pAm k j = false := by
  intro k j h
  simp only [pAm, pAds, Bool.or_eq_false_iff, Bool.and_eq_false_iff, beq_eq_false_iff_ne, decide_eq_false_iff_not] at h ⊢
  omega

theorem pAc_sf {a : Int} (h : 0 ≤ a ∧ a < 6) (j : Nat) : pAc (sf_ a) j = false := by
  rcases sf_six h with h | h | h | h | h | h <;> subst h <;> rfl
set_option maxHeartbeats 4000000 in
set_option maxRecDepth 20000 in
theorem cs_people {q : am_X} {d : Nat} {m : am_M} {Q : Option Value → am_M → Prop} {a : Int} {i : Int} {n : Int} {P : Int} (p0 : vi_ m 1 1 = P) (p1 : 0 ≤ P ∧ P ≤ 8) (p2 : rS_ m) (p3 : -2147483648 ≤ a ∧ a < 2147483648) (p4 : -2147483648 ≤ i ∧ i < 2147483648) (p5 : -2147483648 ≤ n ∧ n < 2147483648) (k0 : (¬ ((0 ≤ a ∧ a < 6) ∧ 1 ≤ n ∧ n ≤ 8)) → Q (some (.int (ei_ ((-1))))) m) (k1 : ((0 ≤ a ∧ a < 6) ∧ 1 ≤ n ∧ n ≤ 8) → (vi_ m (sf_ a) 0 ≠ -1 ∧ vi_ m (sf_ a) 0 ≠ 0) → Q (some (.int (ei_ ((-12))))) m) (k2 : ∀ (k : Int) (m1 : am_M), ((0 ≤ a ∧ a < 6) ∧ 1 ≤ n ∧ n ≤ 8) → (vi_ m (sf_ a) 0 = -1 ∨ vi_ m (sf_ a) 0 = 0) → (pe_ (gC_ m a i P) n k) → (sm_ pAc m m1) → (vi_ m1 1 1 = P + k) → (∀ j, 0 ≤ j → j < k → vi_ m1 2 (P + j) = vl_ m (sf_ a + 1) (i + 3 * j)) → (∀ j, 0 ≤ j → j < k → vi_ m1 2 (8 + (P + j)) = vl_ m (sf_ a + 1) (i + 3 * j + 1)) → (∀ j, 0 ≤ j → j < k → vi_ m1 2 (16 + (P + j)) = vl_ m (sf_ a + 1) (i + 3 * j + 2)) → (∀ j, 0 ≤ j → ¬ (P ≤ j ∧ j < P + k) → ¬ (8 + P ≤ j ∧ j < 8 + P + k) → ¬ (16 + P ≤ j ∧ j < 16 + P + k) → vi_ m1 2 j = vi_ m 2 j) → Q (some (.int (ei_ (k)))) m1) : pw_C q (d + 60) 8 [.ref 0, .int (ei_ (a)), .int (ei_ (i)), .int (ei_ (n))] m Q := by
  refine pw_intro (I := iX8_people) (T := tX8_people) rfl rfl rfl ?_
  refine pw_steps 1 (s' := (1, [some (.ref 0), some (.int (ei_ (a))), some (.int (ei_ (i))), some (.int (ei_ (n))), none, none], [.int (ei_ (a))], m)) rfl ?_
  refine pw_callS (As := [.int (ei_ (a))]) (st := []) rfl (by decide) rfl rfl (Nat.le_of_ble_eq_true rfl) ?_
  refine pw_intro (I := iX8_isShelf) (T := tX8_isShelf) rfl rfl rfl ?_
  refine pw_steps 1 (s' := (1, [some (.int (ei_ (a)))], [.int (ei_ (a))], m)) rfl ?_
  refine pw_if rfl p3 (fun (h1 : a < 0) => ?_) (fun (h1 : ¬ (a < 0)) => ?_)
  · refine pw_steps 1 (s' := (15, [some (.int (ei_ (a)))], [.int (ei_ (0))], m)) rfl ?_
    refine pw_iret rfl rfl rfl ?_
    refine pw_ifT rfl (by decide) (show 0 = 0 by decide) ?_
    refine pw_steps 1 (s' := (19, [some (.ref 0), some (.int (ei_ (a))), some (.int (ei_ (i))), some (.int (ei_ (n))), none, none], [.int (ei_ ((-1)))], m)) rfl ?_
    refine pw_iret rfl rfl rfl ?_
    exact k0 (by omega)
  · refine pw_steps 2 (s' := (7, [some (.int (ei_ (a)))], [.int (ei_ (6)), .int (ei_ (a))], m)) rfl ?_
    refine pw_cmp rfl p3 (by decide) (fun (h2 : 6 ≤ a) => ?_) (fun (h2 : ¬ (6 ≤ a)) => ?_)
    · refine pw_steps 1 (s' := (15, [some (.int (ei_ (a)))], [.int (ei_ (0))], m)) rfl ?_
      refine pw_iret rfl rfl rfl ?_
      refine pw_ifT rfl (by decide) (show 0 = 0 by decide) ?_
      refine pw_steps 1 (s' := (19, [some (.ref 0), some (.int (ei_ (a))), some (.int (ei_ (i))), some (.int (ei_ (n))), none, none], [.int (ei_ ((-1)))], m)) rfl ?_
      refine pw_iret rfl rfl rfl ?_
      exact k0 (by omega)
    · refine pw_steps 2 (s' := (15, [some (.int (ei_ (a)))], [.int (ei_ (1))], m)) rfl ?_
      refine pw_iret rfl rfl rfl ?_
      refine pw_ifF rfl (by decide) (show ¬ (1 = 0) by decide) ?_
      refine pw_steps 2 (s' := (9, [some (.ref 0), some (.int (ei_ (a))), some (.int (ei_ (i))), some (.int (ei_ (n))), none, none], [.int (ei_ (1)), .int (ei_ (n))], m)) rfl ?_
      refine pw_cmp rfl p5 (by decide) (fun (h3 : n < 1) => ?_) (fun (h3 : ¬ (n < 1)) => ?_)
      · refine pw_steps 1 (s' := (19, [some (.ref 0), some (.int (ei_ (a))), some (.int (ei_ (i))), some (.int (ei_ (n))), none, none], [.int (ei_ ((-1)))], m)) rfl ?_
        refine pw_iret rfl rfl rfl ?_
        exact k0 (by omega)
      · refine pw_steps 2 (s' := (15, [some (.ref 0), some (.int (ei_ (a))), some (.int (ei_ (i))), some (.int (ei_ (n))), none, none], [.int (ei_ (8)), .int (ei_ (n))], m)) rfl ?_
        refine pw_cmp rfl p5 (by decide) (fun (h4 : n ≤ 8) => ?_) (fun (h4 : ¬ (n ≤ 8)) => ?_)
        · refine pw_steps 3 (s' := (25, [some (.ref 0), some (.int (ei_ (a))), some (.int (ei_ (i))), some (.int (ei_ (n))), none, none], [.int (ei_ (a)), .ref 32], m)) rfl ?_
          refine pw_ald (r0 := (sf_ a)) rfl rfl (sf_ln (by omega)) (sf_al (by omega)) ?_
          obtain ⟨hk5, hk6, hk7⟩ := p2 a (by omega) (by omega)
          rcases hk7 with ⟨hb81, hb82, hb83⟩ | ⟨hb81, hb82, hb83, hb84, hb85⟩ | ⟨hb81, hb82, hb83, hb84⟩
          · refine pw_steps 2 (s' := (30, [some (.ref 0), some (.int (ei_ (a))), some (.int (ei_ (i))), some (.int (ei_ (n))), some (.ref ((sf_ a))), none], [.ref ((sf_ a))], m)) rfl ?_
            refine pw_call (As := []) (st := []) (k := (sf_ a)) rfl rfl rfl (sf_sk (by omega)) rfl (Nat.le_of_ble_eq_true rfl) ?_
            refine pw_intro (I := iX5_isEmpty) (T := tX5_isEmpty) rfl rfl rfl ?_
            refine pw_steps 1 (s' := (1, [some (.ref ((sf_ a)))], [.ref ((sf_ a))], m)) rfl ?_
            refine pw_get rfl (sf_ok (a := a) (by omega)).1 (fun x9 (hx9 : x9 = vi_ m (sf_ a) 0) rx9 sx9 => ?_)
            refine pw_steps 1 (s' := (5, [some (.ref ((sf_ a)))], [.int (ei_ ((-1))), .int (ei_ (x9))], m)) rfl ?_
            refine pw_cmpF rfl ⟨rx9, sx9⟩ (by decide) (show ¬ (¬ x9 = (-1)) by omega) ?_
            refine pw_steps 2 (s' := (13, [some (.ref ((sf_ a)))], [.int (ei_ (1))], m)) rfl ?_
            refine pw_iret rfl rfl rfl ?_
            refine pw_ifT rfl (by decide) (show ¬ 1 = 0 by decide) ?_
            refine pw_steps 2 (s' := (50, [some (.ref 0), some (.int (ei_ (a))), some (.int (ei_ (i))), some (.int (ei_ (n))), some (.ref ((sf_ a))), some (.int (ei_ (0)))], [], m)) rfl ?_
            have L12 : ∀ (n10 : Nat) (k : Int) (m1 : am_M), (n - k).toNat = n10 → (0 ≤ k ∧ k ≤ n ∧ P + k ≤ 8 ∧ (k = 0 ∨ (0 ≤ i ∧ i + 3 * k ≤ 60))) → (sm_ pAc m m1) → (vi_ m1 1 1 = P + k) → (∀ j, 0 ≤ j → j < k → gC_ m a i P j) → (∀ j, 0 ≤ j → j < k → vi_ m1 2 (P + j) = vl_ m (sf_ a + 1) (i + 3 * j)) → (∀ j, 0 ≤ j → j < k → vi_ m1 2 (8 + (P + j)) = vl_ m (sf_ a + 1) (i + 3 * j + 1)) → (∀ j, 0 ≤ j → j < k → vi_ m1 2 (16 + (P + j)) = vl_ m (sf_ a + 1) (i + 3 * j + 2)) → (∀ j, 0 ≤ j → ¬ (P ≤ j ∧ j < P + k) → ¬ (8 + P ≤ j ∧ j < 8 + P + k) → ¬ (16 + P ≤ j ∧ j < 16 + P + k) → vi_ m1 2 j = vi_ m 2 j) → pw_V q (d + 59) iX8_people.2.2.2.1 tX8_people Q (50, [some (.ref 0), some (.int (ei_ (a))), some (.int (ei_ (i))), some (.int (ei_ (n))), some (.ref ((sf_ a))), some (.int (ei_ (k)))], [], m1) := by
              intro n10
              induction n10 using Nat.strongRecOn with
              | _ n10 ih11 =>
                intro k m1 hm_n10 hk hs h11 hg hS hO hC hN
                refine pw_steps 2 (s' := (53, [some (.ref 0), some (.int (ei_ (a))), some (.int (ei_ (i))), some (.int (ei_ (n))), some (.ref ((sf_ a))), some (.int (ei_ (k)))], [.int (ei_ (n)), .int (ei_ (k))], m1)) rfl ?_
                refine pw_cmp rfl (by omega) p5 (fun (h13 : n ≤ k) => ?_) (fun (h13 : ¬ (n ≤ k)) => ?_)
                · refine pw_steps 1 (s' := (79, [some (.ref 0), some (.int (ei_ (a))), some (.int (ei_ (i))), some (.int (ei_ (n))), some (.ref ((sf_ a))), some (.int (ei_ (k)))], [.int (ei_ (k))], m1)) rfl ?_
                  refine pw_iret rfl rfl rfl ?_
                  exact k2 k m1 (by omega) (by omega) ⟨by omega, hg, Or.inl (by omega)⟩ hs (by omega) hS hO hC hN
                · refine pw_steps 7 (s' := (65, [some (.ref 0), some (.int (ei_ (a))), some (.int (ei_ (i))), some (.int (ei_ (n))), some (.ref ((sf_ a))), some (.int (ei_ (k)))], [.int ((ei_ (i)) + ((ei_ (3)) * (ei_ (k)))), .ref ((sf_ a)), .ref 0], m1)) rfl ?_
                  refine pw_cv (congrArg (fun z_ : Int32 => ((65, [some (.ref 0), some (.int (ei_ (a))), some (.int (ei_ (i))), some (.int (ei_ (n))), some (.ref ((sf_ a))), some (.int (ei_ (k)))], [.int z_, .ref ((sf_ a)), .ref 0], m1) : am_S)) (ei_add rfl (ei_mul rfl rfl))) ?_
                  refine pw_call (As := [.ref ((sf_ a)), .int (ei_ ((i + (3 * k))))]) (st := []) (k := 0) rfl rfl rfl rfl rfl (Nat.le_of_ble_eq_true rfl) ?_
                  refine pw_intro (I := iX8_comesFrom) (T := tX8_comesFrom) rfl rfl rfl ?_
                  refine pw_steps 2 (s' := (4, [some (.ref 0), some (.ref ((sf_ a))), some (.int (ei_ ((i + (3 * k))))), none, none, none], [.ref 1], m1)) rfl ?_
                  refine pw_call (As := []) (st := []) (k := 1) rfl rfl rfl rfl rfl (Nat.le_of_ble_eq_true rfl) ?_
                  refine pw_intro (I := iX3_isFull) (T := tX3_isFull) rfl rfl rfl ?_
                  refine pw_steps 1 (s' := (1, [some (.ref 1)], [.ref 1], m1)) rfl ?_
                  refine pw_get rfl rfl (fun x14 (hx14 : x14 = vi_ m1 1 1) rx14 sx14 => ?_)
                  replace hx14 : x14 = P + k := hx14.trans h11
                  subst x14
                  refine pw_steps 1 (s' := (6, [some (.ref 1)], [.int (ei_ (8)), .int (ei_ (P + k))], m1)) rfl ?_
                  refine pw_cmp rfl ⟨rx14, sx14⟩ (by decide) (fun (h15 : P + k < 8) => ?_) (fun (h15 : ¬ (P + k < 8)) => ?_)
                  · refine pw_steps 1 (s' := (14, [some (.ref 1)], [.int (ei_ (0))], m1)) rfl ?_
                    refine pw_iret rfl rfl rfl ?_
                    refine pw_ifF rfl (by decide) (show ¬ (¬ 0 = 0) by decide) ?_
                    refine pw_steps 3 (s' := (13, [some (.ref 0), some (.ref ((sf_ a))), some (.int (ei_ ((i + (3 * k))))), none, none, none], [.int (ei_ (3)), .int (ei_ ((i + (3 * k)))), .ref ((sf_ a))], m1)) rfl ?_
                    refine pw_call (As := [.int (ei_ ((i + (3 * k)))), .int (ei_ (3))]) (st := []) (k := (sf_ a)) rfl rfl rfl (sf_sk (by omega)) rfl (Nat.le_of_ble_eq_true rfl) ?_
                    refine pw_intro (I := iX5_hasPlaces) (T := tX5_hasPlaces) rfl rfl rfl ?_
                    refine pw_steps 1 (s' := (1, [some (.ref ((sf_ a))), some (.int (ei_ ((i + (3 * k))))), some (.int (ei_ (3)))], [.int (ei_ ((i + (3 * k))))], m1)) rfl ?_
                    refine pw_if rfl (by omega) (fun (h16 : (i + (3 * k)) < 0) => ?_) (fun (h16 : ¬ ((i + (3 * k)) < 0)) => ?_)
                    · refine pw_steps 1 (s' := (31, [some (.ref ((sf_ a))), some (.int (ei_ ((i + (3 * k))))), some (.int (ei_ (3)))], [.int (ei_ (0))], m1)) rfl ?_
                      refine pw_iret rfl rfl rfl ?_
                      refine pw_ifF rfl (by decide) (show ¬ (¬ 0 = 0) by decide) ?_
                      refine pw_steps 1 (s' := (20, [some (.ref 0), some (.ref ((sf_ a))), some (.int (ei_ ((i + (3 * k))))), none, none, none], [.int (ei_ (0))], m1)) rfl ?_
                      refine pw_iret rfl rfl rfl ?_
                      refine pw_ifT rfl (by decide) (show 0 = 0 by decide) ?_
                      refine pw_steps 1 (s' := (79, [some (.ref 0), some (.int (ei_ (a))), some (.int (ei_ (i))), some (.int (ei_ (n))), some (.ref ((sf_ a))), some (.int (ei_ (k)))], [.int (ei_ (k))], m1)) rfl ?_
                      refine pw_iret rfl rfl rfl ?_
                      exact k2 k m1 (by omega) (by omega) ⟨by omega, hg, Or.inr (by unfold gC_; omega)⟩ hs (by omega) hS hO hC hN
                    · refine pw_steps 1 (s' := (5, [some (.ref ((sf_ a))), some (.int (ei_ ((i + (3 * k))))), some (.int (ei_ (3)))], [.int (ei_ (3))], m1)) rfl ?_
                      refine pw_ifF rfl (by decide) (show ¬ (3 < 0) by decide) ?_
                      refine pw_steps 2 (s' := (10, [some (.ref ((sf_ a))), some (.int (ei_ ((i + (3 * k))))), some (.int (ei_ (3)))], [.ref ((sf_ a)), .int (ei_ (3))], m1)) rfl ?_
                      refine pw_get rfl (sf_ok (a := a) (by omega)).2.2.1 (fun x17 (hx17 : x17 = vi_ m1 (sf_ a) 2) rx17 sx17 => ?_)
                      have ox17 := hx17
                      replace hx17 : x17 = vi_ m (sf_ a) 2 := hx17.trans (sm_v hs (pAc_sf (by omega) _))
                      refine pw_cmpT rfl (by decide) ⟨rx17, sx17⟩ (show x17 < 3 by omega) ?_
                      refine pw_steps 1 (s' := (31, [some (.ref ((sf_ a))), some (.int (ei_ ((i + (3 * k))))), some (.int (ei_ (3)))], [.int (ei_ (0))], m1)) rfl ?_
                      refine pw_iret rfl rfl rfl ?_
                      refine pw_ifF rfl (by decide) (show ¬ (¬ 0 = 0) by decide) ?_
                      refine pw_steps 1 (s' := (20, [some (.ref 0), some (.ref ((sf_ a))), some (.int (ei_ ((i + (3 * k))))), none, none, none], [.int (ei_ (0))], m1)) rfl ?_
                      refine pw_iret rfl rfl rfl ?_
                      refine pw_ifT rfl (by decide) (show 0 = 0 by decide) ?_
                      refine pw_steps 1 (s' := (79, [some (.ref 0), some (.int (ei_ (a))), some (.int (ei_ (i))), some (.int (ei_ (n))), some (.ref ((sf_ a))), some (.int (ei_ (k)))], [.int (ei_ (k))], m1)) rfl ?_
                      refine pw_iret rfl rfl rfl ?_
                      exact k2 k m1 (by omega) (by omega) ⟨by omega, hg, Or.inr (by unfold gC_; omega)⟩ hs (by omega) hS hO hC hN
                  · refine pw_steps 2 (s' := (14, [some (.ref 1)], [.int (ei_ (1))], m1)) rfl ?_
                    refine pw_iret rfl rfl rfl ?_
                    refine pw_ifT rfl (by decide) (show ¬ 1 = 0 by decide) ?_
                    refine pw_steps 1 (s' := (20, [some (.ref 0), some (.ref ((sf_ a))), some (.int (ei_ ((i + (3 * k))))), none, none, none], [.int (ei_ (0))], m1)) rfl ?_
                    refine pw_iret rfl rfl rfl ?_
                    refine pw_ifT rfl (by decide) (show 0 = 0 by decide) ?_
                    refine pw_steps 1 (s' := (79, [some (.ref 0), some (.int (ei_ (a))), some (.int (ei_ (i))), some (.int (ei_ (n))), some (.ref ((sf_ a))), some (.int (ei_ (k)))], [.int (ei_ (k))], m1)) rfl ?_
                    refine pw_iret rfl rfl rfl ?_
                    exact k2 k m1 (by omega) (by omega) ⟨by omega, hg, Or.inr (by unfold gC_; omega)⟩ hs (by omega) hS hO hC hN
            exact L12 _ 0 m rfl (by omega) ((sm_rfl m)) (by omega) (by intro j a_ b_; omega) (by intro j a_ b_; omega) (by intro j a_ b_; omega) (by intro j a_ b_; omega) (by intro j _ _ _ _; rfl)
          · refine pw_steps 2 (s' := (30, [some (.ref 0), some (.int (ei_ (a))), some (.int (ei_ (i))), some (.int (ei_ (n))), some (.ref ((sf_ a))), none], [.ref ((sf_ a))], m)) rfl ?_
            refine pw_call (As := []) (st := []) (k := (sf_ a)) rfl rfl rfl (sf_sk (by omega)) rfl (Nat.le_of_ble_eq_true rfl) ?_
            refine pw_intro (I := iX5_isEmpty) (T := tX5_isEmpty) rfl rfl rfl ?_
            refine pw_steps 1 (s' := (1, [some (.ref ((sf_ a)))], [.ref ((sf_ a))], m)) rfl ?_
            refine pw_get rfl (sf_ok (a := a) (by omega)).1 (fun x18 (hx18 : x18 = vi_ m (sf_ a) 0) rx18 sx18 => ?_)
            refine pw_steps 1 (s' := (5, [some (.ref ((sf_ a)))], [.int (ei_ ((-1))), .int (ei_ (x18))], m)) rfl ?_
            refine pw_cmpT rfl ⟨rx18, sx18⟩ (by decide) (show ¬ x18 = (-1) by omega) ?_
            refine pw_steps 1 (s' := (13, [some (.ref ((sf_ a)))], [.int (ei_ (0))], m)) rfl ?_
            refine pw_iret rfl rfl rfl ?_
            refine pw_ifF rfl (by decide) (show ¬ (¬ 0 = 0) by decide) ?_
            refine pw_steps 1 (s' := (38, [some (.ref 0), some (.int (ei_ (a))), some (.int (ei_ (i))), some (.int (ei_ (n))), some (.ref ((sf_ a))), none], [.ref ((sf_ a))], m)) rfl ?_
            refine pw_call (As := []) (st := []) (k := (sf_ a)) rfl rfl rfl (sf_sk (by omega)) rfl (Nat.le_of_ble_eq_true rfl) ?_
            refine pw_intro (I := iX5_isOfBytes) (T := tX5_isOfBytes) rfl rfl rfl ?_
            refine pw_steps 1 (s' := (1, [some (.ref ((sf_ a)))], [.ref ((sf_ a))], m)) rfl ?_
            refine pw_getE (x := x18) rfl (sf_ok (a := a) (by omega)).1 hx18 ?_
            refine pw_ifT rfl ⟨rx18, sx18⟩ (show ¬ x18 = 0 by omega) ?_
            refine pw_steps 1 (s' := (12, [some (.ref ((sf_ a)))], [.int (ei_ (0))], m)) rfl ?_
            refine pw_iret rfl rfl rfl ?_
            refine pw_ifF rfl (by decide) (show ¬ (¬ 0 = 0) by decide) ?_
            refine pw_steps 1 (s' := (46, [some (.ref 0), some (.int (ei_ (a))), some (.int (ei_ (i))), some (.int (ei_ (n))), some (.ref ((sf_ a))), none], [.int (ei_ ((-12)))], m)) rfl ?_
            refine pw_iret rfl rfl rfl ?_
            exact k1 (by omega) (by omega)
          · refine pw_steps 2 (s' := (30, [some (.ref 0), some (.int (ei_ (a))), some (.int (ei_ (i))), some (.int (ei_ (n))), some (.ref ((sf_ a))), none], [.ref ((sf_ a))], m)) rfl ?_
            refine pw_call (As := []) (st := []) (k := (sf_ a)) rfl rfl rfl (sf_sk (by omega)) rfl (Nat.le_of_ble_eq_true rfl) ?_
            refine pw_intro (I := iX5_isEmpty) (T := tX5_isEmpty) rfl rfl rfl ?_
            refine pw_steps 1 (s' := (1, [some (.ref ((sf_ a)))], [.ref ((sf_ a))], m)) rfl ?_
            refine pw_get rfl (sf_ok (a := a) (by omega)).1 (fun x19 (hx19 : x19 = vi_ m (sf_ a) 0) rx19 sx19 => ?_)
            refine pw_steps 1 (s' := (5, [some (.ref ((sf_ a)))], [.int (ei_ ((-1))), .int (ei_ (x19))], m)) rfl ?_
            refine pw_cmpT rfl ⟨rx19, sx19⟩ (by decide) (show ¬ x19 = (-1) by omega) ?_
            refine pw_steps 1 (s' := (13, [some (.ref ((sf_ a)))], [.int (ei_ (0))], m)) rfl ?_
            refine pw_iret rfl rfl rfl ?_
            refine pw_ifF rfl (by decide) (show ¬ (¬ 0 = 0) by decide) ?_
            refine pw_steps 1 (s' := (38, [some (.ref 0), some (.int (ei_ (a))), some (.int (ei_ (i))), some (.int (ei_ (n))), some (.ref ((sf_ a))), none], [.ref ((sf_ a))], m)) rfl ?_
            refine pw_call (As := []) (st := []) (k := (sf_ a)) rfl rfl rfl (sf_sk (by omega)) rfl (Nat.le_of_ble_eq_true rfl) ?_
            refine pw_intro (I := iX5_isOfBytes) (T := tX5_isOfBytes) rfl rfl rfl ?_
            refine pw_steps 1 (s' := (1, [some (.ref ((sf_ a)))], [.ref ((sf_ a))], m)) rfl ?_
            refine pw_getE (x := x19) rfl (sf_ok (a := a) (by omega)).1 hx19 ?_
            refine pw_if rfl ⟨rx19, sx19⟩ (fun (h20 : ¬ x19 = 0) => ?_) (fun (h20 : ¬ ¬ x19 = 0) => ?_)
            · refine pw_steps 1 (s' := (12, [some (.ref ((sf_ a)))], [.int (ei_ (0))], m)) rfl ?_
              refine pw_iret rfl rfl rfl ?_
              refine pw_ifF rfl (by decide) (show ¬ (¬ 0 = 0) by decide) ?_
              refine pw_steps 1 (s' := (46, [some (.ref 0), some (.int (ei_ (a))), some (.int (ei_ (i))), some (.int (ei_ (n))), some (.ref ((sf_ a))), none], [.int (ei_ ((-12)))], m)) rfl ?_
              refine pw_iret rfl rfl rfl ?_
              exact k1 (by omega) (by omega)
            · refine pw_steps 2 (s' := (12, [some (.ref ((sf_ a)))], [.int (ei_ (1))], m)) rfl ?_
              refine pw_iret rfl rfl rfl ?_
              refine pw_ifT rfl (by decide) (show ¬ 1 = 0 by decide) ?_
              refine pw_steps 2 (s' := (50, [some (.ref 0), some (.int (ei_ (a))), some (.int (ei_ (i))), some (.int (ei_ (n))), some (.ref ((sf_ a))), some (.int (ei_ (0)))], [], m)) rfl ?_
              have L23 : ∀ (n21 : Nat) (k : Int) (m1 : am_M), (n - k).toNat = n21 → (0 ≤ k ∧ k ≤ n ∧ P + k ≤ 8 ∧ (k = 0 ∨ (0 ≤ i ∧ i + 3 * k ≤ 60))) → (sm_ pAc m m1) → (vi_ m1 1 1 = P + k) → (∀ j, 0 ≤ j → j < k → gC_ m a i P j) → (∀ j, 0 ≤ j → j < k → vi_ m1 2 (P + j) = vl_ m (sf_ a + 1) (i + 3 * j)) → (∀ j, 0 ≤ j → j < k → vi_ m1 2 (8 + (P + j)) = vl_ m (sf_ a + 1) (i + 3 * j + 1)) → (∀ j, 0 ≤ j → j < k → vi_ m1 2 (16 + (P + j)) = vl_ m (sf_ a + 1) (i + 3 * j + 2)) → (∀ j, 0 ≤ j → ¬ (P ≤ j ∧ j < P + k) → ¬ (8 + P ≤ j ∧ j < 8 + P + k) → ¬ (16 + P ≤ j ∧ j < 16 + P + k) → vi_ m1 2 j = vi_ m 2 j) → pw_V q (d + 59) iX8_people.2.2.2.1 tX8_people Q (50, [some (.ref 0), some (.int (ei_ (a))), some (.int (ei_ (i))), some (.int (ei_ (n))), some (.ref ((sf_ a))), some (.int (ei_ (k)))], [], m1) := by
                intro n21
                induction n21 using Nat.strongRecOn with
                | _ n21 ih22 =>
                  intro k m1 hm_n21 hk hs h11 hg hS hO hC hN
                  refine pw_steps 2 (s' := (53, [some (.ref 0), some (.int (ei_ (a))), some (.int (ei_ (i))), some (.int (ei_ (n))), some (.ref ((sf_ a))), some (.int (ei_ (k)))], [.int (ei_ (n)), .int (ei_ (k))], m1)) rfl ?_
                  refine pw_cmp rfl (by omega) p5 (fun (h24 : n ≤ k) => ?_) (fun (h24 : ¬ (n ≤ k)) => ?_)
                  · refine pw_steps 1 (s' := (79, [some (.ref 0), some (.int (ei_ (a))), some (.int (ei_ (i))), some (.int (ei_ (n))), some (.ref ((sf_ a))), some (.int (ei_ (k)))], [.int (ei_ (k))], m1)) rfl ?_
                    refine pw_iret rfl rfl rfl ?_
                    exact k2 k m1 (by omega) (by omega) ⟨by omega, hg, Or.inl (by omega)⟩ hs (by omega) hS hO hC hN
                  · refine pw_steps 7 (s' := (65, [some (.ref 0), some (.int (ei_ (a))), some (.int (ei_ (i))), some (.int (ei_ (n))), some (.ref ((sf_ a))), some (.int (ei_ (k)))], [.int ((ei_ (i)) + ((ei_ (3)) * (ei_ (k)))), .ref ((sf_ a)), .ref 0], m1)) rfl ?_
                    refine pw_cv (congrArg (fun z_ : Int32 => ((65, [some (.ref 0), some (.int (ei_ (a))), some (.int (ei_ (i))), some (.int (ei_ (n))), some (.ref ((sf_ a))), some (.int (ei_ (k)))], [.int z_, .ref ((sf_ a)), .ref 0], m1) : am_S)) (ei_add rfl (ei_mul rfl rfl))) ?_
                    refine pw_call (As := [.ref ((sf_ a)), .int (ei_ ((i + (3 * k))))]) (st := []) (k := 0) rfl rfl rfl rfl rfl (Nat.le_of_ble_eq_true rfl) ?_
                    refine pw_intro (I := iX8_comesFrom) (T := tX8_comesFrom) rfl rfl rfl ?_
                    refine pw_steps 2 (s' := (4, [some (.ref 0), some (.ref ((sf_ a))), some (.int (ei_ ((i + (3 * k))))), none, none, none], [.ref 1], m1)) rfl ?_
                    refine pw_call (As := []) (st := []) (k := 1) rfl rfl rfl rfl rfl (Nat.le_of_ble_eq_true rfl) ?_
                    refine pw_intro (I := iX3_isFull) (T := tX3_isFull) rfl rfl rfl ?_
                    refine pw_steps 1 (s' := (1, [some (.ref 1)], [.ref 1], m1)) rfl ?_
                    refine pw_get rfl rfl (fun x25 (hx25 : x25 = vi_ m1 1 1) rx25 sx25 => ?_)
                    replace hx25 : x25 = P + k := hx25.trans h11
                    subst x25
                    refine pw_steps 1 (s' := (6, [some (.ref 1)], [.int (ei_ (8)), .int (ei_ (P + k))], m1)) rfl ?_
                    refine pw_cmp rfl ⟨rx25, sx25⟩ (by decide) (fun (h26 : P + k < 8) => ?_) (fun (h26 : ¬ (P + k < 8)) => ?_)
                    · refine pw_steps 1 (s' := (14, [some (.ref 1)], [.int (ei_ (0))], m1)) rfl ?_
                      refine pw_iret rfl rfl rfl ?_
                      refine pw_ifF rfl (by decide) (show ¬ (¬ 0 = 0) by decide) ?_
                      refine pw_steps 3 (s' := (13, [some (.ref 0), some (.ref ((sf_ a))), some (.int (ei_ ((i + (3 * k))))), none, none, none], [.int (ei_ (3)), .int (ei_ ((i + (3 * k)))), .ref ((sf_ a))], m1)) rfl ?_
                      refine pw_call (As := [.int (ei_ ((i + (3 * k)))), .int (ei_ (3))]) (st := []) (k := (sf_ a)) rfl rfl rfl (sf_sk (by omega)) rfl (Nat.le_of_ble_eq_true rfl) ?_
                      refine pw_intro (I := iX5_hasPlaces) (T := tX5_hasPlaces) rfl rfl rfl ?_
                      refine pw_steps 1 (s' := (1, [some (.ref ((sf_ a))), some (.int (ei_ ((i + (3 * k))))), some (.int (ei_ (3)))], [.int (ei_ ((i + (3 * k))))], m1)) rfl ?_
                      refine pw_if rfl (by omega) (fun (h27 : (i + (3 * k)) < 0) => ?_) (fun (h27 : ¬ ((i + (3 * k)) < 0)) => ?_)
                      · refine pw_steps 1 (s' := (31, [some (.ref ((sf_ a))), some (.int (ei_ ((i + (3 * k))))), some (.int (ei_ (3)))], [.int (ei_ (0))], m1)) rfl ?_
                        refine pw_iret rfl rfl rfl ?_
                        refine pw_ifF rfl (by decide) (show ¬ (¬ 0 = 0) by decide) ?_
                        refine pw_steps 1 (s' := (20, [some (.ref 0), some (.ref ((sf_ a))), some (.int (ei_ ((i + (3 * k))))), none, none, none], [.int (ei_ (0))], m1)) rfl ?_
                        refine pw_iret rfl rfl rfl ?_
                        refine pw_ifT rfl (by decide) (show 0 = 0 by decide) ?_
                        refine pw_steps 1 (s' := (79, [some (.ref 0), some (.int (ei_ (a))), some (.int (ei_ (i))), some (.int (ei_ (n))), some (.ref ((sf_ a))), some (.int (ei_ (k)))], [.int (ei_ (k))], m1)) rfl ?_
                        refine pw_iret rfl rfl rfl ?_
                        exact k2 k m1 (by omega) (by omega) ⟨by omega, hg, Or.inr (by unfold gC_; omega)⟩ hs (by omega) hS hO hC hN
                      · refine pw_steps 1 (s' := (5, [some (.ref ((sf_ a))), some (.int (ei_ ((i + (3 * k))))), some (.int (ei_ (3)))], [.int (ei_ (3))], m1)) rfl ?_
                        refine pw_ifF rfl (by decide) (show ¬ (3 < 0) by decide) ?_
                        refine pw_steps 2 (s' := (10, [some (.ref ((sf_ a))), some (.int (ei_ ((i + (3 * k))))), some (.int (ei_ (3)))], [.ref ((sf_ a)), .int (ei_ (3))], m1)) rfl ?_
                        refine pw_get rfl (sf_ok (a := a) (by omega)).2.2.1 (fun x28 (hx28 : x28 = vi_ m1 (sf_ a) 2) rx28 sx28 => ?_)
                        have ox28 := hx28
                        replace hx28 : x28 = vi_ m (sf_ a) 2 := hx28.trans (sm_v hs (pAc_sf (by omega) _))
                        refine pw_cmp rfl (by decide) ⟨rx28, sx28⟩ (fun (h29 : x28 < 3) => ?_) (fun (h29 : ¬ (x28 < 3)) => ?_)
                        · refine pw_steps 1 (s' := (31, [some (.ref ((sf_ a))), some (.int (ei_ ((i + (3 * k))))), some (.int (ei_ (3)))], [.int (ei_ (0))], m1)) rfl ?_
                          refine pw_iret rfl rfl rfl ?_
                          refine pw_ifF rfl (by decide) (show ¬ (¬ 0 = 0) by decide) ?_
                          refine pw_steps 1 (s' := (20, [some (.ref 0), some (.ref ((sf_ a))), some (.int (ei_ ((i + (3 * k))))), none, none, none], [.int (ei_ (0))], m1)) rfl ?_
                          refine pw_iret rfl rfl rfl ?_
                          refine pw_ifT rfl (by decide) (show 0 = 0 by decide) ?_
                          refine pw_steps 1 (s' := (79, [some (.ref 0), some (.int (ei_ (a))), some (.int (ei_ (i))), some (.int (ei_ (n))), some (.ref ((sf_ a))), some (.int (ei_ (k)))], [.int (ei_ (k))], m1)) rfl ?_
                          refine pw_iret rfl rfl rfl ?_
                          exact k2 k m1 (by omega) (by omega) ⟨by omega, hg, Or.inr (by unfold gC_; omega)⟩ hs (by omega) hS hO hC hN
                        · refine pw_steps 2 (s' := (18, [some (.ref ((sf_ a))), some (.int (ei_ ((i + (3 * k))))), some (.int (ei_ (3)))], [.ref ((sf_ a)), .int (ei_ ((i + (3 * k))))], m1)) rfl ?_
                          refine pw_getE (x := x28) rfl (sf_ok (a := a) (by omega)).2.2.1 ox28 ?_
                          refine pw_steps 2 (s' := (23, [some (.ref ((sf_ a))), some (.int (ei_ ((i + (3 * k))))), some (.int (ei_ (3)))], [.int ((ei_ (x28)) - (ei_ (3))), .int (ei_ ((i + (3 * k))))], m1)) rfl ?_
                          refine pw_cv (congrArg (fun z_ : Int32 => ((23, [some (.ref ((sf_ a))), some (.int (ei_ ((i + (3 * k))))), some (.int (ei_ (3)))], [.int z_, .int (ei_ ((i + (3 * k))))], m1) : am_S)) (ei_sub rfl rfl)) ?_
                          refine pw_cmp rfl (by omega) (by omega) (fun (h30 : (x28 - 3) < (i + (3 * k))) => ?_) (fun (h30 : ¬ ((x28 - 3) < (i + (3 * k)))) => ?_)
                          · refine pw_steps 1 (s' := (31, [some (.ref ((sf_ a))), some (.int (ei_ ((i + (3 * k))))), some (.int (ei_ (3)))], [.int (ei_ (0))], m1)) rfl ?_
                            refine pw_iret rfl rfl rfl ?_
                            refine pw_ifF rfl (by decide) (show ¬ (¬ 0 = 0) by decide) ?_
                            refine pw_steps 1 (s' := (20, [some (.ref 0), some (.ref ((sf_ a))), some (.int (ei_ ((i + (3 * k))))), none, none, none], [.int (ei_ (0))], m1)) rfl ?_
                            refine pw_iret rfl rfl rfl ?_
                            refine pw_ifT rfl (by decide) (show 0 = 0 by decide) ?_
                            refine pw_steps 1 (s' := (79, [some (.ref 0), some (.int (ei_ (a))), some (.int (ei_ (i))), some (.int (ei_ (n))), some (.ref ((sf_ a))), some (.int (ei_ (k)))], [.int (ei_ (k))], m1)) rfl ?_
                            refine pw_iret rfl rfl rfl ?_
                            exact k2 k m1 (by omega) (by omega) ⟨by omega, hg, Or.inr (by unfold gC_; omega)⟩ hs (by omega) hS hO hC hN
                          · refine pw_steps 2 (s' := (31, [some (.ref ((sf_ a))), some (.int (ei_ ((i + (3 * k))))), some (.int (ei_ (3)))], [.int (ei_ (1))], m1)) rfl ?_
                            refine pw_iret rfl rfl rfl ?_
                            refine pw_ifT rfl (by decide) (show ¬ 1 = 0 by decide) ?_
                            refine pw_steps 2 (s' := (23, [some (.ref 0), some (.ref ((sf_ a))), some (.int (ei_ ((i + (3 * k))))), none, none, none], [.int (ei_ ((i + (3 * k)))), .ref ((sf_ a))], m1)) rfl ?_
                            refine pw_call (As := [.int (ei_ ((i + (3 * k))))]) (st := []) (k := (sf_ a)) rfl rfl rfl (sf_sk (by omega)) rfl (Nat.le_of_ble_eq_true rfl) ?_
                            refine pw_intro (I := iX5_number) (T := tX5_number) rfl rfl rfl ?_
                            refine pw_steps 3 (s' := (3, [some (.ref ((sf_ a))), some (.int (ei_ ((i + (3 * k)))))], [.int (ei_ (1)), .int (ei_ ((i + (3 * k)))), .ref ((sf_ a))], m1)) rfl ?_
                            refine pw_call (As := [.int (ei_ ((i + (3 * k)))), .int (ei_ (1))]) (st := []) (k := (sf_ a)) rfl rfl rfl (sf_sk (by omega)) rfl (Nat.le_of_ble_eq_true rfl) ?_
                            refine pw_intro (I := iX5_hasPlaces) (T := tX5_hasPlaces) rfl rfl rfl ?_
                            refine pw_steps 1 (s' := (1, [some (.ref ((sf_ a))), some (.int (ei_ ((i + (3 * k))))), some (.int (ei_ (1)))], [.int (ei_ ((i + (3 * k))))], m1)) rfl ?_
                            refine pw_ifF rfl (by omega) (show ¬ ((i + (3 * k)) < 0) by omega) ?_
                            refine pw_steps 1 (s' := (5, [some (.ref ((sf_ a))), some (.int (ei_ ((i + (3 * k))))), some (.int (ei_ (1)))], [.int (ei_ (1))], m1)) rfl ?_
                            refine pw_ifF rfl (by decide) (show ¬ (1 < 0) by decide) ?_
                            refine pw_steps 2 (s' := (10, [some (.ref ((sf_ a))), some (.int (ei_ ((i + (3 * k))))), some (.int (ei_ (1)))], [.ref ((sf_ a)), .int (ei_ (1))], m1)) rfl ?_
                            refine pw_getE (x := x28) rfl (sf_ok (a := a) (by omega)).2.2.1 ox28 ?_
                            refine pw_cmpF rfl (by decide) ⟨rx28, sx28⟩ (show ¬ (x28 < 1) by omega) ?_
                            refine pw_steps 2 (s' := (18, [some (.ref ((sf_ a))), some (.int (ei_ ((i + (3 * k))))), some (.int (ei_ (1)))], [.ref ((sf_ a)), .int (ei_ ((i + (3 * k))))], m1)) rfl ?_
                            refine pw_getE (x := x28) rfl (sf_ok (a := a) (by omega)).2.2.1 ox28 ?_
                            refine pw_steps 2 (s' := (23, [some (.ref ((sf_ a))), some (.int (ei_ ((i + (3 * k))))), some (.int (ei_ (1)))], [.int ((ei_ (x28)) - (ei_ (1))), .int (ei_ ((i + (3 * k))))], m1)) rfl ?_
                            refine pw_cv (congrArg (fun z_ : Int32 => ((23, [some (.ref ((sf_ a))), some (.int (ei_ ((i + (3 * k))))), some (.int (ei_ (1)))], [.int z_, .int (ei_ ((i + (3 * k))))], m1) : am_S)) (ei_sub rfl rfl)) ?_
                            refine pw_cmpF rfl (by omega) (by omega) (show ¬ ((x28 - 1) < (i + (3 * k))) by omega) ?_
                            refine pw_steps 2 (s' := (31, [some (.ref ((sf_ a))), some (.int (ei_ ((i + (3 * k))))), some (.int (ei_ (1)))], [.int (ei_ (1))], m1)) rfl ?_
                            refine pw_iret rfl rfl rfl ?_
                            refine pw_ifF rfl (by decide) (show ¬ (1 = 0) by decide) ?_
                            refine pw_steps 1 (s' := (10, [some (.ref ((sf_ a))), some (.int (ei_ ((i + (3 * k)))))], [.ref ((sf_ a))], m1)) rfl ?_
                            refine pw_getR (r := (sf_ a) + 1) rfl (sf_ok (a := a) (by omega)).2.2.2.1 ?_
                            refine pw_steps 1 (s' := (14, [some (.ref ((sf_ a))), some (.int (ei_ ((i + (3 * k)))))], [.int (ei_ ((i + (3 * k)))), .ref ((sf_ a) + 1)], m1)) rfl ?_
                            refine pw_lld rfl (sf_ok (a := a) (by omega)).2.2.2.2 (by omega) (fun y31 (hy31 : y31 = vl_ m1 ((sf_ a) + 1) (i + (3 * k))) ry31 sy31 => ?_)
                            replace hy31 : y31 = vl_ m ((sf_ a) + 1) (i + (3 * k)) := hy31.trans (congrFun (sm_l hs) _)
                            have b32 := (hb84 (i + (3 * k)) (by omega) (by omega)).2 (by omega)
                            refine pw_steps 2 (s' := (20, [some (.ref ((sf_ a))), some (.int (ei_ ((i + (3 * k)))))], [.int ((el_ (y31)).toInt32)], m1)) rfl ?_
                            refine pw_cv (congrArg (fun z_ : Int32 => ((20, [some (.ref ((sf_ a))), some (.int (ei_ ((i + (3 * k)))))], [.int z_], m1) : am_S)) (ei_l2i rfl)) ?_
                            refine pw_iret rfl rfl rfl ?_
                            refine pw_steps 5 (s' := (31, [some (.ref 0), some (.ref ((sf_ a))), some (.int (ei_ ((i + (3 * k))))), some (.int (ei_ (y31))), none, none], [.int ((ei_ ((i + (3 * k)))) + (ei_ (1))), .ref ((sf_ a))], m1)) rfl ?_
                            refine pw_cv (congrArg (fun z_ : Int32 => ((31, [some (.ref 0), some (.ref ((sf_ a))), some (.int (ei_ ((i + (3 * k))))), some (.int (ei_ (y31))), none, none], [.int z_, .ref ((sf_ a))], m1) : am_S)) (ei_add rfl rfl)) ?_
                            refine pw_call (As := [.int (ei_ (((i + (3 * k)) + 1)))]) (st := []) (k := (sf_ a)) rfl rfl rfl (sf_sk (by omega)) rfl (Nat.le_of_ble_eq_true rfl) ?_
                            refine pw_intro (I := iX5_number) (T := tX5_number) rfl rfl rfl ?_
                            refine pw_steps 3 (s' := (3, [some (.ref ((sf_ a))), some (.int (ei_ (((i + (3 * k)) + 1))))], [.int (ei_ (1)), .int (ei_ (((i + (3 * k)) + 1))), .ref ((sf_ a))], m1)) rfl ?_
                            refine pw_call (As := [.int (ei_ (((i + (3 * k)) + 1))), .int (ei_ (1))]) (st := []) (k := (sf_ a)) rfl rfl rfl (sf_sk (by omega)) rfl (Nat.le_of_ble_eq_true rfl) ?_
                            refine pw_intro (I := iX5_hasPlaces) (T := tX5_hasPlaces) rfl rfl rfl ?_
                            refine pw_steps 1 (s' := (1, [some (.ref ((sf_ a))), some (.int (ei_ (((i + (3 * k)) + 1)))), some (.int (ei_ (1)))], [.int (ei_ (((i + (3 * k)) + 1)))], m1)) rfl ?_
                            refine pw_ifF rfl (by omega) (show ¬ (((i + (3 * k)) + 1) < 0) by omega) ?_
                            refine pw_steps 1 (s' := (5, [some (.ref ((sf_ a))), some (.int (ei_ (((i + (3 * k)) + 1)))), some (.int (ei_ (1)))], [.int (ei_ (1))], m1)) rfl ?_
                            refine pw_ifF rfl (by decide) (show ¬ (1 < 0) by decide) ?_
                            refine pw_steps 2 (s' := (10, [some (.ref ((sf_ a))), some (.int (ei_ (((i + (3 * k)) + 1)))), some (.int (ei_ (1)))], [.ref ((sf_ a)), .int (ei_ (1))], m1)) rfl ?_
                            refine pw_getE (x := x28) rfl (sf_ok (a := a) (by omega)).2.2.1 ox28 ?_
                            refine pw_cmpF rfl (by decide) ⟨rx28, sx28⟩ (show ¬ (x28 < 1) by omega) ?_
                            refine pw_steps 2 (s' := (18, [some (.ref ((sf_ a))), some (.int (ei_ (((i + (3 * k)) + 1)))), some (.int (ei_ (1)))], [.ref ((sf_ a)), .int (ei_ (((i + (3 * k)) + 1)))], m1)) rfl ?_
                            refine pw_getE (x := x28) rfl (sf_ok (a := a) (by omega)).2.2.1 ox28 ?_
                            refine pw_steps 2 (s' := (23, [some (.ref ((sf_ a))), some (.int (ei_ (((i + (3 * k)) + 1)))), some (.int (ei_ (1)))], [.int ((ei_ (x28)) - (ei_ (1))), .int (ei_ (((i + (3 * k)) + 1)))], m1)) rfl ?_
                            refine pw_cv (congrArg (fun z_ : Int32 => ((23, [some (.ref ((sf_ a))), some (.int (ei_ (((i + (3 * k)) + 1)))), some (.int (ei_ (1)))], [.int z_, .int (ei_ (((i + (3 * k)) + 1)))], m1) : am_S)) (ei_sub rfl rfl)) ?_
                            refine pw_cmpF rfl (by omega) (by omega) (show ¬ ((x28 - 1) < ((i + (3 * k)) + 1)) by omega) ?_
                            refine pw_steps 2 (s' := (31, [some (.ref ((sf_ a))), some (.int (ei_ (((i + (3 * k)) + 1)))), some (.int (ei_ (1)))], [.int (ei_ (1))], m1)) rfl ?_
                            refine pw_iret rfl rfl rfl ?_
                            refine pw_ifF rfl (by decide) (show ¬ (1 = 0) by decide) ?_
                            refine pw_steps 1 (s' := (10, [some (.ref ((sf_ a))), some (.int (ei_ (((i + (3 * k)) + 1))))], [.ref ((sf_ a))], m1)) rfl ?_
                            refine pw_getR (r := (sf_ a) + 1) rfl (sf_ok (a := a) (by omega)).2.2.2.1 ?_
                            refine pw_steps 1 (s' := (14, [some (.ref ((sf_ a))), some (.int (ei_ (((i + (3 * k)) + 1))))], [.int (ei_ (((i + (3 * k)) + 1))), .ref ((sf_ a) + 1)], m1)) rfl ?_
                            refine pw_lld rfl (sf_ok (a := a) (by omega)).2.2.2.2 (by omega) (fun y33 (hy33 : y33 = vl_ m1 ((sf_ a) + 1) ((i + (3 * k)) + 1)) ry33 sy33 => ?_)
                            replace hy33 : y33 = vl_ m ((sf_ a) + 1) ((i + (3 * k)) + 1) := hy33.trans (congrFun (sm_l hs) _)
                            have b34 := (hb84 ((i + (3 * k)) + 1) (by omega) (by omega)).2 (by omega)
                            refine pw_steps 2 (s' := (20, [some (.ref ((sf_ a))), some (.int (ei_ (((i + (3 * k)) + 1))))], [.int ((el_ (y33)).toInt32)], m1)) rfl ?_
                            refine pw_cv (congrArg (fun z_ : Int32 => ((20, [some (.ref ((sf_ a))), some (.int (ei_ (((i + (3 * k)) + 1))))], [.int z_], m1) : am_S)) (ei_l2i rfl)) ?_
                            refine pw_iret rfl rfl rfl ?_
                            refine pw_steps 5 (s' := (40, [some (.ref 0), some (.ref ((sf_ a))), some (.int (ei_ ((i + (3 * k))))), some (.int (ei_ (y31))), some (.int (ei_ (y33))), none], [.int ((ei_ ((i + (3 * k)))) + (ei_ (2))), .ref ((sf_ a))], m1)) rfl ?_
                            refine pw_cv (congrArg (fun z_ : Int32 => ((40, [some (.ref 0), some (.ref ((sf_ a))), some (.int (ei_ ((i + (3 * k))))), some (.int (ei_ (y31))), some (.int (ei_ (y33))), none], [.int z_, .ref ((sf_ a))], m1) : am_S)) (ei_add rfl rfl)) ?_
                            refine pw_call (As := [.int (ei_ (((i + (3 * k)) + 2)))]) (st := []) (k := (sf_ a)) rfl rfl rfl (sf_sk (by omega)) rfl (Nat.le_of_ble_eq_true rfl) ?_
                            refine pw_intro (I := iX5_number) (T := tX5_number) rfl rfl rfl ?_
                            refine pw_steps 3 (s' := (3, [some (.ref ((sf_ a))), some (.int (ei_ (((i + (3 * k)) + 2))))], [.int (ei_ (1)), .int (ei_ (((i + (3 * k)) + 2))), .ref ((sf_ a))], m1)) rfl ?_
                            refine pw_call (As := [.int (ei_ (((i + (3 * k)) + 2))), .int (ei_ (1))]) (st := []) (k := (sf_ a)) rfl rfl rfl (sf_sk (by omega)) rfl (Nat.le_of_ble_eq_true rfl) ?_
                            refine pw_intro (I := iX5_hasPlaces) (T := tX5_hasPlaces) rfl rfl rfl ?_
                            refine pw_steps 1 (s' := (1, [some (.ref ((sf_ a))), some (.int (ei_ (((i + (3 * k)) + 2)))), some (.int (ei_ (1)))], [.int (ei_ (((i + (3 * k)) + 2)))], m1)) rfl ?_
                            refine pw_ifF rfl (by omega) (show ¬ (((i + (3 * k)) + 2) < 0) by omega) ?_
                            refine pw_steps 1 (s' := (5, [some (.ref ((sf_ a))), some (.int (ei_ (((i + (3 * k)) + 2)))), some (.int (ei_ (1)))], [.int (ei_ (1))], m1)) rfl ?_
                            refine pw_ifF rfl (by decide) (show ¬ (1 < 0) by decide) ?_
                            refine pw_steps 2 (s' := (10, [some (.ref ((sf_ a))), some (.int (ei_ (((i + (3 * k)) + 2)))), some (.int (ei_ (1)))], [.ref ((sf_ a)), .int (ei_ (1))], m1)) rfl ?_
                            refine pw_getE (x := x28) rfl (sf_ok (a := a) (by omega)).2.2.1 ox28 ?_
                            refine pw_cmpF rfl (by decide) ⟨rx28, sx28⟩ (show ¬ (x28 < 1) by omega) ?_
                            refine pw_steps 2 (s' := (18, [some (.ref ((sf_ a))), some (.int (ei_ (((i + (3 * k)) + 2)))), some (.int (ei_ (1)))], [.ref ((sf_ a)), .int (ei_ (((i + (3 * k)) + 2)))], m1)) rfl ?_
                            refine pw_getE (x := x28) rfl (sf_ok (a := a) (by omega)).2.2.1 ox28 ?_
                            refine pw_steps 2 (s' := (23, [some (.ref ((sf_ a))), some (.int (ei_ (((i + (3 * k)) + 2)))), some (.int (ei_ (1)))], [.int ((ei_ (x28)) - (ei_ (1))), .int (ei_ (((i + (3 * k)) + 2)))], m1)) rfl ?_
                            refine pw_cv (congrArg (fun z_ : Int32 => ((23, [some (.ref ((sf_ a))), some (.int (ei_ (((i + (3 * k)) + 2)))), some (.int (ei_ (1)))], [.int z_, .int (ei_ (((i + (3 * k)) + 2)))], m1) : am_S)) (ei_sub rfl rfl)) ?_
                            refine pw_cmpF rfl (by omega) (by omega) (show ¬ ((x28 - 1) < ((i + (3 * k)) + 2)) by omega) ?_
                            refine pw_steps 2 (s' := (31, [some (.ref ((sf_ a))), some (.int (ei_ (((i + (3 * k)) + 2)))), some (.int (ei_ (1)))], [.int (ei_ (1))], m1)) rfl ?_
                            refine pw_iret rfl rfl rfl ?_
                            refine pw_ifF rfl (by decide) (show ¬ (1 = 0) by decide) ?_
                            refine pw_steps 1 (s' := (10, [some (.ref ((sf_ a))), some (.int (ei_ (((i + (3 * k)) + 2))))], [.ref ((sf_ a))], m1)) rfl ?_
                            refine pw_getR (r := (sf_ a) + 1) rfl (sf_ok (a := a) (by omega)).2.2.2.1 ?_
                            refine pw_steps 1 (s' := (14, [some (.ref ((sf_ a))), some (.int (ei_ (((i + (3 * k)) + 2))))], [.int (ei_ (((i + (3 * k)) + 2))), .ref ((sf_ a) + 1)], m1)) rfl ?_
                            refine pw_lld rfl (sf_ok (a := a) (by omega)).2.2.2.2 (by omega) (fun y35 (hy35 : y35 = vl_ m1 ((sf_ a) + 1) ((i + (3 * k)) + 2)) ry35 sy35 => ?_)
                            replace hy35 : y35 = vl_ m ((sf_ a) + 1) ((i + (3 * k)) + 2) := hy35.trans (congrFun (sm_l hs) _)
                            have b36 := (hb84 ((i + (3 * k)) + 2) (by omega) (by omega)).2 (by omega)
                            refine pw_steps 2 (s' := (20, [some (.ref ((sf_ a))), some (.int (ei_ (((i + (3 * k)) + 2))))], [.int ((el_ (y35)).toInt32)], m1)) rfl ?_
                            refine pw_cv (congrArg (fun z_ : Int32 => ((20, [some (.ref ((sf_ a))), some (.int (ei_ (((i + (3 * k)) + 2))))], [.int z_], m1) : am_S)) (ei_l2i rfl)) ?_
                            refine pw_iret rfl rfl rfl ?_
                            refine pw_steps 3 (s' := (47, [some (.ref 0), some (.ref ((sf_ a))), some (.int (ei_ ((i + (3 * k))))), some (.int (ei_ (y31))), some (.int (ei_ (y33))), some (.int (ei_ (y35)))], [.int (ei_ (y31)), .int (ei_ (0))], m1)) rfl ?_
                            refine pw_callS (As := [.int (ei_ (0)), .int (ei_ (y31))]) (st := []) rfl (by decide) rfl rfl (Nat.le_of_ble_eq_true rfl) ?_
                            refine pw_intro (I := iX3_fits) (T := tX3_fits) rfl rfl rfl ?_
                            refine pw_steps 1 (s' := (1, [some (.int (ei_ (0))), some (.int (ei_ (y31)))], [.int (ei_ (0))], m1)) rfl ?_
                            refine pw_ifF rfl (by decide) (show ¬ (0 < 0) by decide) ?_
                            refine pw_steps 3 (s' := (9, [some (.int (ei_ (0))), some (.int (ei_ (y31)))], [.int (ei_ (6)), .int (ei_ (0))], m1)) rfl ?_
                            refine pw_cmpF rfl (by decide) (by decide) (show ¬ (6 ≤ 0) by decide) ?_
                            refine pw_steps 3 (s' := (17, [some (.int (ei_ (0))), some (.int (ei_ (y31)))], [.int (ei_ (0)), .ref 1001, .int (ei_ (y31))], m1)) rfl ?_
                            refine pw_ildE (x := 1) rfl rfl (by decide) (by decide) ?_
                            refine pw_cmp rfl (by omega) (by decide) (fun (h37 : y31 < 1) => ?_) (fun (h37 : ¬ (y31 < 1)) => ?_)
                            · refine pw_steps 1 (s' := (35, [some (.int (ei_ (0))), some (.int (ei_ (y31)))], [.int (ei_ (0))], m1)) rfl ?_
                              refine pw_iret rfl rfl rfl ?_
                              refine pw_ifT rfl (by decide) (show 0 = 0 by decide) ?_
                              refine pw_steps 1 (s' := (72, [some (.ref 0), some (.ref ((sf_ a))), some (.int (ei_ ((i + (3 * k))))), some (.int (ei_ (y31))), some (.int (ei_ (y33))), some (.int (ei_ (y35)))], [.int (ei_ (0))], m1)) rfl ?_
                              refine pw_iret rfl rfl rfl ?_
                              refine pw_ifT rfl (by decide) (show 0 = 0 by decide) ?_
                              refine pw_steps 1 (s' := (79, [some (.ref 0), some (.int (ei_ (a))), some (.int (ei_ (i))), some (.int (ei_ (n))), some (.ref ((sf_ a))), some (.int (ei_ (k)))], [.int (ei_ (k))], m1)) rfl ?_
                              refine pw_iret rfl rfl rfl ?_
                              exact k2 k m1 (by omega) (by omega) ⟨by omega, hg, Or.inr (by subst hy31; subst hy33; subst hy35; unfold gC_; omega)⟩ hs (by omega) hS hO hC hN
                            · refine pw_steps 3 (s' := (26, [some (.int (ei_ (0))), some (.int (ei_ (y31)))], [.int (ei_ (0)), .ref 1002, .int (ei_ (y31))], m1)) rfl ?_
                              refine pw_ildE (x := 9) rfl rfl (by decide) (by decide) ?_
                              refine pw_cmp rfl (by omega) (by decide) (fun (h38 : 9 < y31) => ?_) (fun (h38 : ¬ (9 < y31)) => ?_)
                              · refine pw_steps 1 (s' := (35, [some (.int (ei_ (0))), some (.int (ei_ (y31)))], [.int (ei_ (0))], m1)) rfl ?_
                                refine pw_iret rfl rfl rfl ?_
                                refine pw_ifT rfl (by decide) (show 0 = 0 by decide) ?_
                                refine pw_steps 1 (s' := (72, [some (.ref 0), some (.ref ((sf_ a))), some (.int (ei_ ((i + (3 * k))))), some (.int (ei_ (y31))), some (.int (ei_ (y33))), some (.int (ei_ (y35)))], [.int (ei_ (0))], m1)) rfl ?_
                                refine pw_iret rfl rfl rfl ?_
                                refine pw_ifT rfl (by decide) (show 0 = 0 by decide) ?_
                                refine pw_steps 1 (s' := (79, [some (.ref 0), some (.int (ei_ (a))), some (.int (ei_ (i))), some (.int (ei_ (n))), some (.ref ((sf_ a))), some (.int (ei_ (k)))], [.int (ei_ (k))], m1)) rfl ?_
                                refine pw_iret rfl rfl rfl ?_
                                exact k2 k m1 (by omega) (by omega) ⟨by omega, hg, Or.inr (by subst hy31; subst hy33; subst hy35; unfold gC_; omega)⟩ hs (by omega) hS hO hC hN
                              · refine pw_steps 2 (s' := (35, [some (.int (ei_ (0))), some (.int (ei_ (y31)))], [.int (ei_ (1))], m1)) rfl ?_
                                refine pw_iret rfl rfl rfl ?_
                                refine pw_ifF rfl (by decide) (show ¬ (1 = 0) by decide) ?_
                                refine pw_steps 2 (s' := (56, [some (.ref 0), some (.ref ((sf_ a))), some (.int (ei_ ((i + (3 * k))))), some (.int (ei_ (y31))), some (.int (ei_ (y33))), some (.int (ei_ (y35)))], [.int (ei_ (y33)), .int (ei_ (1))], m1)) rfl ?_
                                refine pw_callS (As := [.int (ei_ (1)), .int (ei_ (y33))]) (st := []) rfl (by decide) rfl rfl (Nat.le_of_ble_eq_true rfl) ?_
                                refine pw_intro (I := iX3_fits) (T := tX3_fits) rfl rfl rfl ?_
                                refine pw_steps 1 (s' := (1, [some (.int (ei_ (1))), some (.int (ei_ (y33)))], [.int (ei_ (1))], m1)) rfl ?_
                                refine pw_ifF rfl (by decide) (show ¬ (1 < 0) by decide) ?_
                                refine pw_steps 3 (s' := (9, [some (.int (ei_ (1))), some (.int (ei_ (y33)))], [.int (ei_ (6)), .int (ei_ (1))], m1)) rfl ?_
                                refine pw_cmpF rfl (by decide) (by decide) (show ¬ (6 ≤ 1) by decide) ?_
                                refine pw_steps 3 (s' := (17, [some (.int (ei_ (1))), some (.int (ei_ (y33)))], [.int (ei_ (1)), .ref 1001, .int (ei_ (y33))], m1)) rfl ?_
                                refine pw_ildE (x := 0) rfl rfl (by decide) (by decide) ?_
                                refine pw_cmp rfl (by omega) (by decide) (fun (h39 : y33 < 0) => ?_) (fun (h39 : ¬ (y33 < 0)) => ?_)
                                · refine pw_steps 1 (s' := (35, [some (.int (ei_ (1))), some (.int (ei_ (y33)))], [.int (ei_ (0))], m1)) rfl ?_
                                  refine pw_iret rfl rfl rfl ?_
                                  refine pw_ifT rfl (by decide) (show 0 = 0 by decide) ?_
                                  refine pw_steps 1 (s' := (72, [some (.ref 0), some (.ref ((sf_ a))), some (.int (ei_ ((i + (3 * k))))), some (.int (ei_ (y31))), some (.int (ei_ (y33))), some (.int (ei_ (y35)))], [.int (ei_ (0))], m1)) rfl ?_
                                  refine pw_iret rfl rfl rfl ?_
                                  refine pw_ifT rfl (by decide) (show 0 = 0 by decide) ?_
                                  refine pw_steps 1 (s' := (79, [some (.ref 0), some (.int (ei_ (a))), some (.int (ei_ (i))), some (.int (ei_ (n))), some (.ref ((sf_ a))), some (.int (ei_ (k)))], [.int (ei_ (k))], m1)) rfl ?_
                                  refine pw_iret rfl rfl rfl ?_
                                  exact k2 k m1 (by omega) (by omega) ⟨by omega, hg, Or.inr (by subst hy31; subst hy33; subst hy35; unfold gC_; omega)⟩ hs (by omega) hS hO hC hN
                                · refine pw_steps 3 (s' := (26, [some (.int (ei_ (1))), some (.int (ei_ (y33)))], [.int (ei_ (1)), .ref 1002, .int (ei_ (y33))], m1)) rfl ?_
                                  refine pw_ildE (x := 9) rfl rfl (by decide) (by decide) ?_
                                  refine pw_cmp rfl (by omega) (by decide) (fun (h40 : 9 < y33) => ?_) (fun (h40 : ¬ (9 < y33)) => ?_)
                                  · refine pw_steps 1 (s' := (35, [some (.int (ei_ (1))), some (.int (ei_ (y33)))], [.int (ei_ (0))], m1)) rfl ?_
                                    refine pw_iret rfl rfl rfl ?_
                                    refine pw_ifT rfl (by decide) (show 0 = 0 by decide) ?_
                                    refine pw_steps 1 (s' := (72, [some (.ref 0), some (.ref ((sf_ a))), some (.int (ei_ ((i + (3 * k))))), some (.int (ei_ (y31))), some (.int (ei_ (y33))), some (.int (ei_ (y35)))], [.int (ei_ (0))], m1)) rfl ?_
                                    refine pw_iret rfl rfl rfl ?_
                                    refine pw_ifT rfl (by decide) (show 0 = 0 by decide) ?_
                                    refine pw_steps 1 (s' := (79, [some (.ref 0), some (.int (ei_ (a))), some (.int (ei_ (i))), some (.int (ei_ (n))), some (.ref ((sf_ a))), some (.int (ei_ (k)))], [.int (ei_ (k))], m1)) rfl ?_
                                    refine pw_iret rfl rfl rfl ?_
                                    exact k2 k m1 (by omega) (by omega) ⟨by omega, hg, Or.inr (by subst hy31; subst hy33; subst hy35; unfold gC_; omega)⟩ hs (by omega) hS hO hC hN
                                  · refine pw_steps 2 (s' := (35, [some (.int (ei_ (1))), some (.int (ei_ (y33)))], [.int (ei_ (1))], m1)) rfl ?_
                                    refine pw_iret rfl rfl rfl ?_
                                    refine pw_ifF rfl (by decide) (show ¬ (1 = 0) by decide) ?_
                                    refine pw_steps 2 (s' := (65, [some (.ref 0), some (.ref ((sf_ a))), some (.int (ei_ ((i + (3 * k))))), some (.int (ei_ (y31))), some (.int (ei_ (y33))), some (.int (ei_ (y35)))], [.int (ei_ (y35)), .int (ei_ (2))], m1)) rfl ?_
                                    refine pw_callS (As := [.int (ei_ (2)), .int (ei_ (y35))]) (st := []) rfl (by decide) rfl rfl (Nat.le_of_ble_eq_true rfl) ?_
                                    refine pw_intro (I := iX3_fits) (T := tX3_fits) rfl rfl rfl ?_
                                    refine pw_steps 1 (s' := (1, [some (.int (ei_ (2))), some (.int (ei_ (y35)))], [.int (ei_ (2))], m1)) rfl ?_
                                    refine pw_ifF rfl (by decide) (show ¬ (2 < 0) by decide) ?_
                                    refine pw_steps 3 (s' := (9, [some (.int (ei_ (2))), some (.int (ei_ (y35)))], [.int (ei_ (6)), .int (ei_ (2))], m1)) rfl ?_
                                    refine pw_cmpF rfl (by decide) (by decide) (show ¬ (6 ≤ 2) by decide) ?_
                                    refine pw_steps 3 (s' := (17, [some (.int (ei_ (2))), some (.int (ei_ (y35)))], [.int (ei_ (2)), .ref 1001, .int (ei_ (y35))], m1)) rfl ?_
                                    refine pw_ildE (x := 1) rfl rfl (by decide) (by decide) ?_
                                    refine pw_cmp rfl (by omega) (by decide) (fun (h41 : y35 < 1) => ?_) (fun (h41 : ¬ (y35 < 1)) => ?_)
                                    · refine pw_steps 1 (s' := (35, [some (.int (ei_ (2))), some (.int (ei_ (y35)))], [.int (ei_ (0))], m1)) rfl ?_
                                      refine pw_iret rfl rfl rfl ?_
                                      refine pw_ifF rfl (by decide) (show ¬ (¬ 0 = 0) by decide) ?_
                                      refine pw_steps 1 (s' := (72, [some (.ref 0), some (.ref ((sf_ a))), some (.int (ei_ ((i + (3 * k))))), some (.int (ei_ (y31))), some (.int (ei_ (y33))), some (.int (ei_ (y35)))], [.int (ei_ (0))], m1)) rfl ?_
                                      refine pw_iret rfl rfl rfl ?_
                                      refine pw_ifT rfl (by decide) (show 0 = 0 by decide) ?_
                                      refine pw_steps 1 (s' := (79, [some (.ref 0), some (.int (ei_ (a))), some (.int (ei_ (i))), some (.int (ei_ (n))), some (.ref ((sf_ a))), some (.int (ei_ (k)))], [.int (ei_ (k))], m1)) rfl ?_
                                      refine pw_iret rfl rfl rfl ?_
                                      exact k2 k m1 (by omega) (by omega) ⟨by omega, hg, Or.inr (by subst hy31; subst hy33; subst hy35; unfold gC_; omega)⟩ hs (by omega) hS hO hC hN
                                    · refine pw_steps 3 (s' := (26, [some (.int (ei_ (2))), some (.int (ei_ (y35)))], [.int (ei_ (2)), .ref 1002, .int (ei_ (y35))], m1)) rfl ?_
                                      refine pw_ildE (x := 9) rfl rfl (by decide) (by decide) ?_
                                      refine pw_cmp rfl (by omega) (by decide) (fun (h42 : 9 < y35) => ?_) (fun (h42 : ¬ (9 < y35)) => ?_)
                                      · refine pw_steps 1 (s' := (35, [some (.int (ei_ (2))), some (.int (ei_ (y35)))], [.int (ei_ (0))], m1)) rfl ?_
                                        refine pw_iret rfl rfl rfl ?_
                                        refine pw_ifF rfl (by decide) (show ¬ (¬ 0 = 0) by decide) ?_
                                        refine pw_steps 1 (s' := (72, [some (.ref 0), some (.ref ((sf_ a))), some (.int (ei_ ((i + (3 * k))))), some (.int (ei_ (y31))), some (.int (ei_ (y33))), some (.int (ei_ (y35)))], [.int (ei_ (0))], m1)) rfl ?_
                                        refine pw_iret rfl rfl rfl ?_
                                        refine pw_ifT rfl (by decide) (show 0 = 0 by decide) ?_
                                        refine pw_steps 1 (s' := (79, [some (.ref 0), some (.int (ei_ (a))), some (.int (ei_ (i))), some (.int (ei_ (n))), some (.ref ((sf_ a))), some (.int (ei_ (k)))], [.int (ei_ (k))], m1)) rfl ?_
                                        refine pw_iret rfl rfl rfl ?_
                                        exact k2 k m1 (by omega) (by omega) ⟨by omega, hg, Or.inr (by subst hy31; subst hy33; subst hy35; unfold gC_; omega)⟩ hs (by omega) hS hO hC hN
                                      · refine pw_steps 2 (s' := (35, [some (.int (ei_ (2))), some (.int (ei_ (y35)))], [.int (ei_ (1))], m1)) rfl ?_
                                        refine pw_iret rfl rfl rfl ?_
                                        refine pw_ifT rfl (by decide) (show ¬ 1 = 0 by decide) ?_
                                        refine pw_steps 5 (s' := (82, [some (.ref 0), some (.ref ((sf_ a))), some (.int (ei_ ((i + (3 * k))))), some (.int (ei_ (y31))), some (.int (ei_ (y33))), some (.int (ei_ (y35)))], [.int (ei_ (y35)), .int (ei_ (y33)), .int (ei_ (y31)), .ref 1], m1)) rfl ?_
                                        refine pw_call (As := [.int (ei_ (y31)), .int (ei_ (y33)), .int (ei_ (y35))]) (st := []) (k := 1) rfl rfl rfl rfl rfl (Nat.le_of_ble_eq_true rfl) ?_
                                        refine pw_intro (I := iX3_welcome) (T := tX3_welcome) rfl rfl rfl ?_
                                        refine pw_steps 1 (s' := (1, [some (.ref 1), some (.int (ei_ (y31))), some (.int (ei_ (y33))), some (.int (ei_ (y35))), none], [.ref 1], m1)) rfl ?_
                                        refine pw_get rfl rfl (fun x43 (hx43 : x43 = vi_ m1 1 1) rx43 sx43 => ?_)
                                        replace hx43 : x43 = P + k := hx43.trans h11
                                        subst x43
                                        refine pw_steps 3 (s' := (8, [some (.ref 1), some (.int (ei_ (y31))), some (.int (ei_ (y33))), some (.int (ei_ (y35))), some (.int (ei_ (P + k)))], [.ref 1, .ref 1], m1)) rfl ?_
                                        refine pw_get rfl rfl (fun x44 (hx44 : x44 = vi_ m1 1 1) rx44 sx44 => ?_)
                                        replace hx44 : x44 = P + k := hx44.trans h11
                                        subst x44
                                        refine pw_steps 2 (s' := (13, [some (.ref 1), some (.int (ei_ (y31))), some (.int (ei_ (y33))), some (.int (ei_ (y35))), some (.int (ei_ (P + k)))], [.int ((ei_ (P + k)) + (ei_ (1))), .ref 1], m1)) rfl ?_
                                        refine pw_cv (congrArg (fun z_ : Int32 => ((13, [some (.ref 1), some (.int (ei_ (y31))), some (.int (ei_ (y33))), some (.int (ei_ (y35))), some (.int (ei_ (P + k)))], [.int z_, .ref 1], m1) : am_S)) (ei_add rfl rfl)) ?_
                                        refine pw_put (v := ((P + k) + 1)) rfl rfl (Or.inl rfl) ?_
                                        refine pw_cv (s' := (16, [some (.ref 1), some (.int (ei_ (y31))), some (.int (ei_ (y33))), some (.int (ei_ (y35))), some (.int (ei_ (P + k)))], [], wi_ m1 1 (1) (((P + k) + 1)))) rfl ?_
                                        refine pw_steps 4 (s' := (21, [some (.ref 1), some (.int (ei_ (y31))), some (.int (ei_ (y33))), some (.int (ei_ (y35))), some (.int (ei_ (P + k)))], [.int (ei_ (y31)), .int (ei_ (0)), .int (ei_ (P + k)), .ref 1], wi_ m1 1 (1) (((P + k) + 1)))) rfl ?_
                                        refine pw_call (As := [.int (ei_ (P + k)), .int (ei_ (0)), .int (ei_ (y31))]) (st := []) (k := 1) rfl rfl rfl rfl rfl (Nat.le_of_ble_eq_true rfl) ?_
                                        refine cw_tell (P := (((P + k) + 1))) ((ei_i (by omega))) (by omega) (by omega) (by omega) (by omega) (by omega) (fun pl45 g46 => ?_)
                                        have hpl_ : pl45 = P + k := by omega
                                        subst pl45
                                        refine pw_steps 4 (s' := (29, [some (.ref 1), some (.int (ei_ (y31))), some (.int (ei_ (y33))), some (.int (ei_ (y35))), some (.int (ei_ (P + k)))], [.int (ei_ (y33)), .int (ei_ (1)), .int (ei_ (P + k)), .ref 1], wi_ (wi_ m1 1 (1) (((P + k) + 1))) 2 (P + k) (y31))) rfl ?_
                                        refine pw_call (As := [.int (ei_ (P + k)), .int (ei_ (1)), .int (ei_ (y33))]) (st := []) (k := 1) rfl rfl rfl rfl rfl (Nat.le_of_ble_eq_true rfl) ?_
                                        refine cw_tell (P := (((P + k) + 1))) ((ei_i (by omega))) (by omega) (by omega) (by omega) (by omega) (by omega) (fun pl47 g48 => ?_)
                                        have hpl_ : pl47 = 8 + (P + k) := by omega
                                        subst pl47
                                        refine pw_steps 4 (s' := (37, [some (.ref 1), some (.int (ei_ (y31))), some (.int (ei_ (y33))), some (.int (ei_ (y35))), some (.int (ei_ (P + k)))], [.int (ei_ (y35)), .int (ei_ (2)), .int (ei_ (P + k)), .ref 1], wi_ (wi_ (wi_ m1 1 (1) (((P + k) + 1))) 2 (P + k) (y31)) 2 (8 + (P + k)) (y33))) rfl ?_
                                        refine pw_call (As := [.int (ei_ (P + k)), .int (ei_ (2)), .int (ei_ (y35))]) (st := []) (k := 1) rfl rfl rfl rfl rfl (Nat.le_of_ble_eq_true rfl) ?_
                                        refine cw_tell (P := (((P + k) + 1))) ((ei_i (by omega))) (by omega) (by omega) (by omega) (by omega) (by omega) (fun pl49 g50 => ?_)
                                        have hpl_ : pl49 = 16 + (P + k) := by omega
                                        subst pl49
                                        refine pw_steps 1 (s' := (42, [some (.ref 1), some (.int (ei_ (y31))), some (.int (ei_ (y33))), some (.int (ei_ (y35))), some (.int (ei_ (P + k)))], [.int (ei_ (P + k))], wi_ (wi_ (wi_ (wi_ m1 1 (1) (((P + k) + 1))) 2 (P + k) (y31)) 2 (8 + (P + k)) (y33)) 2 (16 + (P + k)) (y35))) rfl ?_
                                        refine pw_iret rfl rfl rfl ?_
                                        refine pw_steps 2 (s' := (87, [some (.ref 0), some (.ref ((sf_ a))), some (.int (ei_ ((i + (3 * k))))), some (.int (ei_ (y31))), some (.int (ei_ (y33))), some (.int (ei_ (y35)))], [.int (ei_ (1))], wi_ (wi_ (wi_ (wi_ m1 1 (1) (((P + k) + 1))) 2 (P + k) (y31)) 2 (8 + (P + k)) (y33)) 2 (16 + (P + k)) (y35))) rfl ?_
                                        refine pw_iret rfl rfl rfl ?_
                                        refine pw_ifF rfl (by decide) (show ¬ (1 = 0) by decide) ?_
                                        refine pw_steps 2 (s' := (50, [some (.ref 0), some (.int (ei_ (a))), some (.int (ei_ (i))), some (.int (ei_ (n))), some (.ref ((sf_ a))), some (.int ((ei_ (k)) + (ei_ (1))))], [], wi_ (wi_ (wi_ (wi_ m1 1 (1) (((P + k) + 1))) 2 (P + k) (y31)) 2 (8 + (P + k)) (y33)) 2 (16 + (P + k)) (y35))) rfl ?_
                                        refine pw_cv (congrArg (fun z_ : Int32 => ((50, [some (.ref 0), some (.int (ei_ (a))), some (.int (ei_ (i))), some (.int (ei_ (n))), some (.ref ((sf_ a))), some (.int z_)], [], wi_ (wi_ (wi_ (wi_ m1 1 (1) (((P + k) + 1))) 2 (P + k) (y31)) 2 (8 + (P + k)) (y33)) 2 (16 + (P + k)) (y35)) : am_S)) (ei_add rfl rfl)) ?_
                                        exact ih22 _ (by omega) (k + 1) (wi_ (wi_ (wi_ (wi_ m1 1 (1) (((P + k) + 1))) 2 (P + k) (y31)) 2 (8 + (P + k)) (y33)) 2 (16 + (P + k)) (y35)) rfl (by omega) ((sm_w (sm_w (sm_w (sm_w hs (fun _ h_ => by rw [h_]; rfl)) (fun _ h_ => by rw [h_]; rfl)) (fun _ h_ => by rw [h_]; rfl)) (fun _ h_ => by rw [h_]; rfl))) (by refine ((ei_i (by omega))).trans (by omega)) (by refine pe_s hg ?_; subst hy31; subst hy33; subst hy35; unfold gC_; omega) (by intro j a_ b_; (simp (disch := omega) only [vi_up, vi_ne]); rw [if_neg (by omega)]; rw [if_neg (by omega)]; by_cases e_ : j = k; (rw [if_pos (by omega), e_]; exact hy31); (rw [if_neg (by omega)]; exact hS j a_ (by omega))) (by intro j a_ b_; (simp (disch := omega) only [vi_up, vi_ne]); rw [if_neg (by omega)]; by_cases e_ : j = k; (rw [if_pos (by omega), e_]; exact hy33); (rw [if_neg (by omega)]; rw [if_neg (by omega)]; exact hO j a_ (by omega))) (by intro j a_ b_; (simp (disch := omega) only [vi_up, vi_ne]); by_cases e_ : j = k; (rw [if_pos (by omega), e_]; exact hy35); (rw [if_neg (by omega)]; rw [if_neg (by omega)]; rw [if_neg (by omega)]; exact hC j a_ (by omega))) (by intro j a_ b_ c_ d_; (simp (disch := omega) only [vi_up, vi_ne]); rw [if_neg (by omega), if_neg (by omega), if_neg (by omega)]; exact hN j a_ (by omega) (by omega) (by omega))
                    · refine pw_steps 2 (s' := (14, [some (.ref 1)], [.int (ei_ (1))], m1)) rfl ?_
                      refine pw_iret rfl rfl rfl ?_
                      refine pw_ifT rfl (by decide) (show ¬ 1 = 0 by decide) ?_
                      refine pw_steps 1 (s' := (20, [some (.ref 0), some (.ref ((sf_ a))), some (.int (ei_ ((i + (3 * k))))), none, none, none], [.int (ei_ (0))], m1)) rfl ?_
                      refine pw_iret rfl rfl rfl ?_
                      refine pw_ifT rfl (by decide) (show 0 = 0 by decide) ?_
                      refine pw_steps 1 (s' := (79, [some (.ref 0), some (.int (ei_ (a))), some (.int (ei_ (i))), some (.int (ei_ (n))), some (.ref ((sf_ a))), some (.int (ei_ (k)))], [.int (ei_ (k))], m1)) rfl ?_
                      refine pw_iret rfl rfl rfl ?_
                      exact k2 k m1 (by omega) (by omega) ⟨by omega, hg, Or.inr (by unfold gC_; omega)⟩ hs (by omega) hS hO hC hN
              exact L23 _ 0 m rfl (by omega) ((sm_rfl m)) (by omega) (by intro j a_ b_; omega) (by intro j a_ b_; omega) (by intro j a_ b_; omega) (by intro j a_ b_; omega) (by intro j _ _ _ _; rfl)
        · refine pw_steps 1 (s' := (19, [some (.ref 0), some (.int (ei_ (a))), some (.int (ei_ (i))), some (.int (ei_ (n))), none, none], [.int (ei_ ((-1)))], m)) rfl ?_
          refine pw_iret rfl rfl rfl ?_
          exact k0 (by omega)

set_option maxHeartbeats 4000000 in
set_option maxRecDepth 20000 in
theorem ms_people {q : am_X} {d : Nat} {m : am_M} {Q : Option Value → am_M → Prop} {a : Int} {i : Int} {n : Int} {P : Int} (p0 : vi_ m 47 6 = P) (p1 : 0 ≤ P ∧ P ≤ 8) (p2 : rS_ m) (p3 : vi_ m 29 2 ≤ 50) (p4 : -2147483648 ≤ a ∧ a < 2147483648) (p5 : -2147483648 ≤ i ∧ i < 2147483648) (p6 : -2147483648 ≤ n ∧ n < 2147483648) (k0 : (¬ ((0 ≤ a ∧ a < 6) ∧ 1 ≤ n ∧ n ≤ 8)) → Q (some (.int (ei_ ((-1))))) m) (k1 : ((0 ≤ a ∧ a < 6) ∧ 1 ≤ n ∧ n ≤ 8) → (0 ≤ vi_ m 68 a ∧ vi_ m 68 a ≠ 50) → Q (some (.int (ei_ ((-12))))) m) (k2 : ∀ (k : Int) (m1 : am_M), ((0 ≤ a ∧ a < 6) ∧ 1 ≤ n ∧ n ≤ 8) → (vi_ m 68 a < 0 ∨ vi_ m 68 a = 50) → (pe_ (gM_ m a i P) n k) → (sm_ pAm m m1) → (vi_ m1 47 6 = P + k) → (∀ j, 0 ≤ j → j < k → vi_ m1 48 (P + j) = vl_ m 70 (60 * a + i + 3 * j)) → (∀ j, 0 ≤ j → j < k → vi_ m1 48 (8 + (P + j)) = vl_ m 70 (60 * a + i + 3 * j + 1)) → (∀ j, 0 ≤ j → j < k → vi_ m1 48 (16 + (P + j)) = vl_ m 70 (60 * a + i + 3 * j + 2)) → (∀ j, 0 ≤ j → j < k → vi_ m1 48 (24 + (P + j)) = 0) → (∀ j, 0 ≤ j → ¬ (P ≤ j ∧ j < P + k) → ¬ (8 + P ≤ j ∧ j < 8 + P + k) → ¬ (16 + P ≤ j ∧ j < 16 + P + k) → ¬ (24 + P ≤ j ∧ j < 24 + P + k) → vi_ m1 48 j = vi_ m 48 j) → (∀ j, 0 ≤ j → j < k → vi_ m1 52 (P + j) = P + j) → (∀ j, 0 ≤ j → j < P → vi_ m1 52 j = vi_ m 52 j) → (∀ j, 0 ≤ j → j < k → vi_ m1 53 (P + j) = 100) → (∀ j, 0 ≤ j → j < P → vi_ m1 53 j = vi_ m 53 j) → Q (some (.int (ei_ (k)))) m1) : pw_C q (d + 60) 179 [.ref 47, .int (ei_ (a)), .int (ei_ (i)), .int (ei_ (n))] m Q := by
  refine pw_intro (I := iX9_people) (T := tX9_people) rfl rfl rfl ?_
  refine pw_steps 1 (s' := (1, [some (.ref 47), some (.int (ei_ (a))), some (.int (ei_ (i))), some (.int (ei_ (n))), none, none, none], [.int (ei_ (a))], m)) rfl ?_
  refine pw_callS (As := [.int (ei_ (a))]) (st := []) rfl (by decide) rfl rfl (Nat.le_of_ble_eq_true rfl) ?_
  refine pw_intro (I := iX9_isShelf) (T := tX9_isShelf) rfl rfl rfl ?_
  refine pw_steps 4 (s' := (6, [some (.int (ei_ (a)))], [.long (el_ (5)), .long (el_ (0)), .long ((ei_ (a)).toInt64)], m)) rfl ?_
  refine pw_cv (congrArg (fun z_ : Int64 => ((6, [some (.int (ei_ (a)))], [.long (el_ (5)), .long (el_ (0)), .long z_], m) : am_S)) (el_i2l p4 rfl)) ?_
  refine pw_callS (As := [.long (el_ (a)), .long (el_ (0)), .long (el_ (5))]) (st := []) rfl (by decide) rfl rfl (Nat.le_of_ble_eq_true rfl) ?_
  refine mt_within (by omega) (by omega) (by omega) (fun g1 g2 => ?_) (fun g3 => ?_) (fun g4 => ?_)
  · refine pw_iret rfl rfl rfl ?_
    refine pw_ifF rfl (by decide) (show ¬ (1 = 0) by decide) ?_
    refine pw_steps 4 (s' := (13, [some (.ref 47), some (.int (ei_ (a))), some (.int (ei_ (i))), some (.int (ei_ (n))), none, none, none], [.long (el_ (8)), .long (el_ (1)), .long ((ei_ (n)).toInt64)], m)) rfl ?_
    refine pw_cv (congrArg (fun z_ : Int64 => ((13, [some (.ref 47), some (.int (ei_ (a))), some (.int (ei_ (i))), some (.int (ei_ (n))), none, none, none], [.long (el_ (8)), .long (el_ (1)), .long z_], m) : am_S)) (el_i2l p6 rfl)) ?_
    refine pw_callS (As := [.long (el_ (n)), .long (el_ (1)), .long (el_ (8))]) (st := []) rfl (by decide) rfl rfl (Nat.le_of_ble_eq_true rfl) ?_
    refine mt_within (by omega) (by omega) (by omega) (fun g5 g6 => ?_) (fun g7 => ?_) (fun g8 => ?_)
    · refine pw_ifT rfl (by decide) (show ¬ 1 = 0 by decide) ?_
      obtain ⟨hb1, hb2, hb3⟩ := sb2_of p2 p3 (a := a) (by omega)
      refine pw_steps 3 (s' := (26, [some (.ref 47), some (.int (ei_ (a))), some (.int (ei_ (i))), some (.int (ei_ (n))), none, none, none], [.int (ei_ (a)), .ref 68], m)) rfl ?_
      refine pw_ild rfl rfl (by omega) (fun x9 (hx9 : x9 = vi_ m 68 a) rx9 sx9 => ?_)
      refine pw_if rfl ⟨rx9, sx9⟩ (fun (h10 : x9 < 0) => ?_) (fun (h10 : ¬ (x9 < 0)) => ?_)
      · refine pw_steps 5 (s' := (52, [some (.ref 47), some (.int (ei_ (a))), some (.int (ei_ (i))), some (.int (ei_ (n))), some (.int (ei_ (0))), none, none], [.int (ei_ (a)), .ref 68], m)) rfl ?_
        refine pw_ildE (x := x9) rfl rfl (by omega) hx9 ?_
        refine pw_steps 1 (s' := (55, [some (.ref 47), some (.int (ei_ (a))), some (.int (ei_ (i))), some (.int (ei_ (n))), some (.int (ei_ (0))), none, none], [.int (ei_ (50)), .int (ei_ (x9))], m)) rfl ?_
        refine pw_cmpT rfl ⟨rx9, sx9⟩ (by decide) (show ¬ x9 = 50 by omega) ?_
        refine pw_steps 2 (s' := (69, [some (.ref 47), some (.int (ei_ (a))), some (.int (ei_ (i))), some (.int (ei_ (n))), some (.int (ei_ (0))), some (.int (ei_ (0))), none], [], m)) rfl ?_
        have L14 : ∀ (n12 : Nat) (k : Int) (g : Int) (u11 : Option Value) (m1 : am_M), (2 * (n - k) + g).toNat = n12 → (0 ≤ k ∧ k ≤ n ∧ P + k ≤ 8 ∧ 0 ≤ g ∧ g ≤ 1 ∧ (g = 0 ∨ (vi_ m 68 a = 50 ∧ 0 ≤ i)) ∧ (k = 0 ∨ i + 3 * k ≤ 60)) → (sm_ pAm m m1) → (vi_ m1 47 6 = P + k) → (∀ j, 0 ≤ j → j < k → gM_ m a i P j) → (g = 0 → ¬ gM_ m a i P k) → (∀ j, 0 ≤ j → j < k → vi_ m1 48 (P + j) = vl_ m 70 (60 * a + i + 3 * j)) → (∀ j, 0 ≤ j → j < k → vi_ m1 48 (8 + (P + j)) = vl_ m 70 (60 * a + i + 3 * j + 1)) → (∀ j, 0 ≤ j → j < k → vi_ m1 48 (16 + (P + j)) = vl_ m 70 (60 * a + i + 3 * j + 2)) → (∀ j, 0 ≤ j → j < k → vi_ m1 48 (24 + (P + j)) = 0) → (∀ j, 0 ≤ j → ¬ (P ≤ j ∧ j < P + k) → ¬ (8 + P ≤ j ∧ j < 8 + P + k) → ¬ (16 + P ≤ j ∧ j < 16 + P + k) → ¬ (24 + P ≤ j ∧ j < 24 + P + k) → vi_ m1 48 j = vi_ m 48 j) → (∀ j, 0 ≤ j → j < k → vi_ m1 52 (P + j) = P + j) → (∀ j, 0 ≤ j → j < P → vi_ m1 52 j = vi_ m 52 j) → (∀ j, 0 ≤ j → j < k → vi_ m1 53 (P + j) = 100) → (∀ j, 0 ≤ j → j < P → vi_ m1 53 j = vi_ m 53 j) → pw_V q (d + 59) iX9_people.2.2.2.1 tX9_people Q (69, [some (.ref 47), some (.int (ei_ (a))), some (.int (ei_ (i))), some (.int (ei_ (n))), some (.int (ei_ (k))), some (.int (ei_ (g))), u11], [], m1) := by
          intro n12
          induction n12 using Nat.strongRecOn with
          | _ n12 ih13 =>
            intro k g u11 m1 hm_n12 hk hs h11 hg hz hS hO hC hH hN h52 n52 h53 n53
            refine pw_steps 1 (s' := (71, [some (.ref 47), some (.int (ei_ (a))), some (.int (ei_ (i))), some (.int (ei_ (n))), some (.int (ei_ (k))), some (.int (ei_ (g))), u11], [.int (ei_ (g))], m1)) rfl ?_
            refine pw_if rfl (by omega) (fun (h15 : g = 0) => ?_) (fun (h15 : ¬ (g = 0)) => ?_)
            · refine pw_steps 1 (s' := (214, [some (.ref 47), some (.int (ei_ (a))), some (.int (ei_ (i))), some (.int (ei_ (n))), some (.int (ei_ (k))), some (.int (ei_ (g))), u11], [.int (ei_ (k))], m1)) rfl ?_
              refine pw_iret rfl rfl rfl ?_
              exact k2 k m1 (by omega) (by omega) ⟨by omega, hg, Or.inr (hz (by omega))⟩ hs h11 hS hO hC hH hN h52 n52 h53 n53
            · refine pw_steps 2 (s' := (77, [some (.ref 47), some (.int (ei_ (a))), some (.int (ei_ (i))), some (.int (ei_ (n))), some (.int (ei_ (k))), some (.int (ei_ (g))), u11], [.int (ei_ (n)), .int (ei_ (k))], m1)) rfl ?_
              refine pw_cmp rfl (by omega) p6 (fun (h16 : n ≤ k) => ?_) (fun (h16 : ¬ (n ≤ k)) => ?_)
              · refine pw_steps 1 (s' := (214, [some (.ref 47), some (.int (ei_ (a))), some (.int (ei_ (i))), some (.int (ei_ (n))), some (.int (ei_ (k))), some (.int (ei_ (g))), u11], [.int (ei_ (k))], m1)) rfl ?_
                refine pw_iret rfl rfl rfl ?_
                exact k2 k m1 (by omega) (by omega) ⟨by omega, hg, Or.inl (by omega)⟩ hs h11 hS hO hC hH hN h52 n52 h53 n53
              · refine pw_steps 4 (s' := (86, [some (.ref 47), some (.int (ei_ (a))), some (.int (ei_ (i))), some (.int (ei_ (n))), some (.int (ei_ (k))), some (.int (ei_ (g))), u11], [.int (ei_ (a)), .ref 69, .int (ei_ (i))], m1)) rfl ?_
                refine pw_ild rfl rfl (by omega) (fun x17 (hx17 : x17 = vi_ m1 69 a) rx17 sx17 => ?_)
                have ox17 := hx17
                replace hx17 : x17 = vi_ m 69 a := hx17.trans (sm_v hs rfl)
                refine pw_steps 6 (s' := (94, [some (.ref 47), some (.int (ei_ (a))), some (.int (ei_ (i))), some (.int (ei_ (n))), some (.int (ei_ (k))), some (.int (ei_ (g))), u11], [.int (((ei_ (x17)) - (ei_ (3))) - ((ei_ (3)) * (ei_ (k)))), .int (ei_ (i))], m1)) rfl ?_
                refine pw_cv (congrArg (fun z_ : Int32 => ((94, [some (.ref 47), some (.int (ei_ (a))), some (.int (ei_ (i))), some (.int (ei_ (n))), some (.int (ei_ (k))), some (.int (ei_ (g))), u11], [.int z_, .int (ei_ (i))], m1) : am_S)) (ei_sub (ei_sub rfl rfl) (ei_mul rfl rfl))) ?_
                refine pw_cmp rfl p5 (by omega) (fun (h18 : ((x17 - 3) - (3 * k)) < i) => ?_) (fun (h18 : ¬ (((x17 - 3) - (3 * k)) < i)) => ?_)
                · refine pw_steps 13 (s' := (128, [some (.ref 47), some (.int (ei_ (a))), some (.int (ei_ (i))), some (.int (ei_ (n))), some (.int (ei_ (k))), some (.int (ei_ (0))), some (.int ((((ei_ (60)) * (ei_ (a))) + (ei_ (i))) + ((ei_ (3)) * (ei_ (k)))))], [.int (ei_ (0))], m1)) rfl ?_
                  refine pw_cv (congrArg (fun z_ : Int32 => ((128, [some (.ref 47), some (.int (ei_ (a))), some (.int (ei_ (i))), some (.int (ei_ (n))), some (.int (ei_ (k))), some (.int (ei_ (0))), some (.int z_)], [.int (ei_ (0))], m1) : am_S)) (ei_add (ei_add (ei_mul rfl rfl) rfl) (ei_mul rfl rfl))) ?_
                  refine pw_ifT rfl (by decide) (show 0 = 0 by decide) ?_
                  refine pw_steps 3 (s' := (171, [some (.ref 47), some (.int (ei_ (a))), some (.int (ei_ (i))), some (.int (ei_ (n))), some (.int (ei_ (k))), some (.int (ei_ (0))), some (.int (ei_ ((((60 * a) + i) + (3 * k)))))], [.int (ei_ (0))], m1)) rfl ?_
                  refine pw_ifT rfl (by decide) (show 0 = 0 by decide) ?_
                  refine pw_steps 1 (s' := (69, [some (.ref 47), some (.int (ei_ (a))), some (.int (ei_ (i))), some (.int (ei_ (n))), some (.int (ei_ (k))), some (.int (ei_ (0))), some (.int (ei_ ((((60 * a) + i) + (3 * k)))))], [], m1)) rfl ?_
                  exact ih13 _ (by omega) k 0 (some (.int (ei_ ((((60 * a) + i) + (3 * k)))))) m1 rfl (by omega) (hs) (by refine (h11).trans (by omega)) (by exact hg) (by intro _; unfold gM_; omega) (by exact hS) (by exact hO) (by exact hC) (by exact hH) (by exact hN) (by exact h52) (by exact n52) (by exact h53) (by exact n53)
                · refine pw_steps 1 (s' := (98, [some (.ref 47), some (.int (ei_ (a))), some (.int (ei_ (i))), some (.int (ei_ (n))), some (.int (ei_ (k))), some (.int (ei_ (g))), u11], [.ref 47], m1)) rfl ?_
                  refine pw_get rfl rfl (fun x19 (hx19 : x19 = vi_ m1 47 6) rx19 sx19 => ?_)
                  replace hx19 : x19 = P + k := hx19.trans h11
                  subst x19
                  refine pw_steps 1 (s' := (103, [some (.ref 47), some (.int (ei_ (a))), some (.int (ei_ (i))), some (.int (ei_ (n))), some (.int (ei_ (k))), some (.int (ei_ (g))), u11], [.int (ei_ (8)), .int (ei_ (P + k))], m1)) rfl ?_
                  refine pw_cmp rfl ⟨rx19, sx19⟩ (by decide) (fun (h20 : 8 ≤ P + k) => ?_) (fun (h20 : ¬ (8 ≤ P + k)) => ?_)
                  · refine pw_steps 13 (s' := (128, [some (.ref 47), some (.int (ei_ (a))), some (.int (ei_ (i))), some (.int (ei_ (n))), some (.int (ei_ (k))), some (.int (ei_ (0))), some (.int ((((ei_ (60)) * (ei_ (a))) + (ei_ (i))) + ((ei_ (3)) * (ei_ (k)))))], [.int (ei_ (0))], m1)) rfl ?_
                    refine pw_cv (congrArg (fun z_ : Int32 => ((128, [some (.ref 47), some (.int (ei_ (a))), some (.int (ei_ (i))), some (.int (ei_ (n))), some (.int (ei_ (k))), some (.int (ei_ (0))), some (.int z_)], [.int (ei_ (0))], m1) : am_S)) (ei_add (ei_add (ei_mul rfl rfl) rfl) (ei_mul rfl rfl))) ?_
                    refine pw_ifT rfl (by decide) (show 0 = 0 by decide) ?_
                    refine pw_steps 3 (s' := (171, [some (.ref 47), some (.int (ei_ (a))), some (.int (ei_ (i))), some (.int (ei_ (n))), some (.int (ei_ (k))), some (.int (ei_ (0))), some (.int (ei_ ((((60 * a) + i) + (3 * k)))))], [.int (ei_ (0))], m1)) rfl ?_
                    refine pw_ifT rfl (by decide) (show 0 = 0 by decide) ?_
                    refine pw_steps 1 (s' := (69, [some (.ref 47), some (.int (ei_ (a))), some (.int (ei_ (i))), some (.int (ei_ (n))), some (.int (ei_ (k))), some (.int (ei_ (0))), some (.int (ei_ ((((60 * a) + i) + (3 * k)))))], [], m1)) rfl ?_
                    exact ih13 _ (by omega) k 0 (some (.int (ei_ ((((60 * a) + i) + (3 * k)))))) m1 rfl (by omega) (hs) (by refine (h11).trans (by omega)) (by exact hg) (by intro _; unfold gM_; omega) (by exact hS) (by exact hO) (by exact hC) (by exact hH) (by exact hN) (by exact h52) (by exact n52) (by exact h53) (by exact n53)
                  · refine pw_steps 14 (s' := (128, [some (.ref 47), some (.int (ei_ (a))), some (.int (ei_ (i))), some (.int (ei_ (n))), some (.int (ei_ (k))), some (.int (ei_ (1))), some (.int ((((ei_ (60)) * (ei_ (a))) + (ei_ (i))) + ((ei_ (3)) * (ei_ (k)))))], [.int (ei_ (1))], m1)) rfl ?_
                    refine pw_cv (congrArg (fun z_ : Int32 => ((128, [some (.ref 47), some (.int (ei_ (a))), some (.int (ei_ (i))), some (.int (ei_ (n))), some (.int (ei_ (k))), some (.int (ei_ (1))), some (.int z_)], [.int (ei_ (1))], m1) : am_S)) (ei_add (ei_add (ei_mul rfl rfl) rfl) (ei_mul rfl rfl))) ?_
                    refine pw_ifF rfl (by decide) (show ¬ (1 = 0) by decide) ?_
                    refine pw_steps 3 (s' := (137, [some (.ref 47), some (.int (ei_ (a))), some (.int (ei_ (i))), some (.int (ei_ (n))), some (.int (ei_ (k))), some (.int (ei_ (1))), some (.int (ei_ ((((60 * a) + i) + (3 * k)))))], [.int (ei_ ((((60 * a) + i) + (3 * k)))), .ref 70], m1)) rfl ?_
                    refine pw_lld rfl rfl (by omega) (fun y21 (hy21 : y21 = vl_ m1 70 (((60 * a) + i) + (3 * k))) ry21 sy21 => ?_)
                    replace hy21 : y21 = vl_ m 70 (((60 * a) + i) + (3 * k)) := hy21.trans (congrFun (sm_l hs) _)
                    have b22 := (hb3 (by omega)) (((60 * a) + i) + (3 * k)) (by omega) (by omega)
                    refine pw_steps 5 (s' := (146, [some (.ref 47), some (.int (ei_ (a))), some (.int (ei_ (i))), some (.int (ei_ (n))), some (.int (ei_ (k))), some (.int (ei_ (1))), some (.int (ei_ ((((60 * a) + i) + (3 * k)))))], [.int ((ei_ ((((60 * a) + i) + (3 * k)))) + (ei_ (1))), .ref 70, .long (el_ (y21))], m1)) rfl ?_
                    refine pw_cv (congrArg (fun z_ : Int32 => ((146, [some (.ref 47), some (.int (ei_ (a))), some (.int (ei_ (i))), some (.int (ei_ (n))), some (.int (ei_ (k))), some (.int (ei_ (1))), some (.int (ei_ ((((60 * a) + i) + (3 * k)))))], [.int z_, .ref 70, .long (el_ (y21))], m1) : am_S)) (ei_add rfl rfl)) ?_
                    refine pw_lld rfl rfl (by omega) (fun y23 (hy23 : y23 = vl_ m1 70 ((((60 * a) + i) + (3 * k)) + 1)) ry23 sy23 => ?_)
                    replace hy23 : y23 = vl_ m 70 ((((60 * a) + i) + (3 * k)) + 1) := hy23.trans (congrFun (sm_l hs) _)
                    have b24 := (hb3 (by omega)) ((((60 * a) + i) + (3 * k)) + 1) (by omega) (by omega)
                    refine pw_steps 5 (s' := (155, [some (.ref 47), some (.int (ei_ (a))), some (.int (ei_ (i))), some (.int (ei_ (n))), some (.int (ei_ (k))), some (.int (ei_ (1))), some (.int (ei_ ((((60 * a) + i) + (3 * k)))))], [.int ((ei_ ((((60 * a) + i) + (3 * k)))) + (ei_ (2))), .ref 70, .long (el_ (y23)), .long (el_ (y21))], m1)) rfl ?_
                    refine pw_cv (congrArg (fun z_ : Int32 => ((155, [some (.ref 47), some (.int (ei_ (a))), some (.int (ei_ (i))), some (.int (ei_ (n))), some (.int (ei_ (k))), some (.int (ei_ (1))), some (.int (ei_ ((((60 * a) + i) + (3 * k)))))], [.int z_, .ref 70, .long (el_ (y23)), .long (el_ (y21))], m1) : am_S)) (ei_add rfl rfl)) ?_
                    refine pw_lld rfl rfl (by omega) (fun y25 (hy25 : y25 = vl_ m1 70 ((((60 * a) + i) + (3 * k)) + 2)) ry25 sy25 => ?_)
                    replace hy25 : y25 = vl_ m 70 ((((60 * a) + i) + (3 * k)) + 2) := hy25.trans (congrFun (sm_l hs) _)
                    have b26 := (hb3 (by omega)) ((((60 * a) + i) + (3 * k)) + 2) (by omega) (by omega)
                    refine pw_callS (As := [.long (el_ (y21)), .long (el_ (y23)), .long (el_ (y25))]) (st := []) rfl (by decide) rfl rfl (Nat.le_of_ble_eq_true rfl) ?_
                    refine pw_intro (I := iX9_mayCome) (T := tX9_mayCome) rfl rfl rfl ?_
                    refine pw_steps 3 (s' := (5, [some (.long (el_ (y21))), none, some (.long (el_ (y23))), none, some (.long (el_ (y25))), none], [.long (el_ (9)), .long (el_ (1)), .long (el_ (y21))], m1)) rfl ?_
                    refine pw_callS (As := [.long (el_ (y21)), .long (el_ (1)), .long (el_ (9))]) (st := []) rfl (by decide) rfl rfl (Nat.le_of_ble_eq_true rfl) ?_
                    refine mt_within (by omega) (by omega) (by omega) (fun g27 g28 => ?_) (fun g29 => ?_) (fun g30 => ?_)
                    · refine pw_ifF rfl (by decide) (show ¬ (1 = 0) by decide) ?_
                      refine pw_steps 3 (s' := (16, [some (.long (el_ (y21))), none, some (.long (el_ (y23))), none, some (.long (el_ (y25))), none], [.long (el_ (9)), .long (el_ (0)), .long (el_ (y23))], m1)) rfl ?_
                      refine pw_callS (As := [.long (el_ (y23)), .long (el_ (0)), .long (el_ (9))]) (st := []) rfl (by decide) rfl rfl (Nat.le_of_ble_eq_true rfl) ?_
                      refine mt_within (by omega) (by omega) (by omega) (fun g31 g32 => ?_) (fun g33 => ?_) (fun g34 => ?_)
                      · refine pw_ifF rfl (by decide) (show ¬ (1 = 0) by decide) ?_
                        refine pw_steps 3 (s' := (28, [some (.long (el_ (y21))), none, some (.long (el_ (y23))), none, some (.long (el_ (y25))), none], [.long (el_ (9)), .long (el_ (1)), .long (el_ (y25))], m1)) rfl ?_
                        refine pw_callS (As := [.long (el_ (y25)), .long (el_ (1)), .long (el_ (9))]) (st := []) rfl (by decide) rfl rfl (Nat.le_of_ble_eq_true rfl) ?_
                        refine mt_within (by omega) (by omega) (by omega) (fun g35 g36 => ?_) (fun g37 => ?_) (fun g38 => ?_)
                        · refine pw_ifF rfl (by decide) (show ¬ (1 = 0) by decide) ?_
                          refine pw_steps 2 (s' := (39, [some (.long (el_ (y21))), none, some (.long (el_ (y23))), none, some (.long (el_ (y25))), none], [.int (ei_ (1))], m1)) rfl ?_
                          refine pw_iret rfl rfl rfl ?_
                          refine pw_ifF rfl (by decide) (show ¬ (1 = 0) by decide) ?_
                          refine pw_steps 4 (s' := (171, [some (.ref 47), some (.int (ei_ (a))), some (.int (ei_ (i))), some (.int (ei_ (n))), some (.int (ei_ (k))), some (.int (ei_ (1))), some (.int (ei_ ((((60 * a) + i) + (3 * k)))))], [.int (ei_ (1))], m1)) rfl ?_
                          refine pw_ifF rfl (by decide) (show ¬ (1 = 0) by decide) ?_
                          refine pw_steps 4 (s' := (181, [some (.ref 47), some (.int (ei_ (a))), some (.int (ei_ (i))), some (.int (ei_ (n))), some (.int (ei_ (k))), some (.int (ei_ (1))), some (.int (ei_ ((((60 * a) + i) + (3 * k)))))], [.int (ei_ ((((60 * a) + i) + (3 * k)))), .ref 70, .ref 47], m1)) rfl ?_
                          refine pw_lld rfl rfl (by omega) (fun y39 (hy39 : y39 = vl_ m1 70 (((60 * a) + i) + (3 * k))) ry39 sy39 => ?_)
                          replace hy39 : y39 = vl_ m 70 (((60 * a) + i) + (3 * k)) := hy39.trans (congrFun (sm_l hs) _)
                          have b40 := (hb3 (by omega)) (((60 * a) + i) + (3 * k)) (by omega) (by omega)
                          refine pw_steps 6 (s' := (191, [some (.ref 47), some (.int (ei_ (a))), some (.int (ei_ (i))), some (.int (ei_ (n))), some (.int (ei_ (k))), some (.int (ei_ (1))), some (.int (ei_ ((((60 * a) + i) + (3 * k)))))], [.int ((ei_ ((((60 * a) + i) + (3 * k)))) + (ei_ (1))), .ref 70, .int ((el_ (y39)).toInt32), .ref 47], m1)) rfl ?_
                          refine pw_cv (congrArg (fun z_ : Int32 => ((191, [some (.ref 47), some (.int (ei_ (a))), some (.int (ei_ (i))), some (.int (ei_ (n))), some (.int (ei_ (k))), some (.int (ei_ (1))), some (.int (ei_ ((((60 * a) + i) + (3 * k)))))], [.int z_, .ref 70, .int ((el_ (y39)).toInt32), .ref 47], m1) : am_S)) (ei_add rfl rfl)) ?_
                          refine pw_cv (congrArg (fun z_ : Int32 => ((191, [some (.ref 47), some (.int (ei_ (a))), some (.int (ei_ (i))), some (.int (ei_ (n))), some (.int (ei_ (k))), some (.int (ei_ (1))), some (.int (ei_ ((((60 * a) + i) + (3 * k)))))], [.int (ei_ (((((60 * a) + i) + (3 * k)) + 1))), .ref 70, .int z_, .ref 47], m1) : am_S)) (ei_l2i rfl)) ?_
                          refine pw_lld rfl rfl (by omega) (fun y41 (hy41 : y41 = vl_ m1 70 ((((60 * a) + i) + (3 * k)) + 1)) ry41 sy41 => ?_)
                          replace hy41 : y41 = vl_ m 70 ((((60 * a) + i) + (3 * k)) + 1) := hy41.trans (congrFun (sm_l hs) _)
                          have b42 := (hb3 (by omega)) ((((60 * a) + i) + (3 * k)) + 1) (by omega) (by omega)
                          refine pw_steps 6 (s' := (201, [some (.ref 47), some (.int (ei_ (a))), some (.int (ei_ (i))), some (.int (ei_ (n))), some (.int (ei_ (k))), some (.int (ei_ (1))), some (.int (ei_ ((((60 * a) + i) + (3 * k)))))], [.int ((ei_ ((((60 * a) + i) + (3 * k)))) + (ei_ (2))), .ref 70, .int ((el_ (y41)).toInt32), .int (ei_ (y39)), .ref 47], m1)) rfl ?_
                          refine pw_cv (congrArg (fun z_ : Int32 => ((201, [some (.ref 47), some (.int (ei_ (a))), some (.int (ei_ (i))), some (.int (ei_ (n))), some (.int (ei_ (k))), some (.int (ei_ (1))), some (.int (ei_ ((((60 * a) + i) + (3 * k)))))], [.int z_, .ref 70, .int ((el_ (y41)).toInt32), .int (ei_ (y39)), .ref 47], m1) : am_S)) (ei_add rfl rfl)) ?_
                          refine pw_cv (congrArg (fun z_ : Int32 => ((201, [some (.ref 47), some (.int (ei_ (a))), some (.int (ei_ (i))), some (.int (ei_ (n))), some (.int (ei_ (k))), some (.int (ei_ (1))), some (.int (ei_ ((((60 * a) + i) + (3 * k)))))], [.int (ei_ (((((60 * a) + i) + (3 * k)) + 2))), .ref 70, .int z_, .int (ei_ (y39)), .ref 47], m1) : am_S)) (ei_l2i rfl)) ?_
                          refine pw_lld rfl rfl (by omega) (fun y43 (hy43 : y43 = vl_ m1 70 ((((60 * a) + i) + (3 * k)) + 2)) ry43 sy43 => ?_)
                          replace hy43 : y43 = vl_ m 70 ((((60 * a) + i) + (3 * k)) + 2) := hy43.trans (congrFun (sm_l hs) _)
                          have b44 := (hb3 (by omega)) ((((60 * a) + i) + (3 * k)) + 2) (by omega) (by omega)
                          refine pw_steps 1 (s' := (203, [some (.ref 47), some (.int (ei_ (a))), some (.int (ei_ (i))), some (.int (ei_ (n))), some (.int (ei_ (k))), some (.int (ei_ (1))), some (.int (ei_ ((((60 * a) + i) + (3 * k)))))], [.int ((el_ (y43)).toInt32), .int (ei_ (y41)), .int (ei_ (y39)), .ref 47], m1)) rfl ?_
                          refine pw_cv (congrArg (fun z_ : Int32 => ((203, [some (.ref 47), some (.int (ei_ (a))), some (.int (ei_ (i))), some (.int (ei_ (n))), some (.int (ei_ (k))), some (.int (ei_ (1))), some (.int (ei_ ((((60 * a) + i) + (3 * k)))))], [.int z_, .int (ei_ (y41)), .int (ei_ (y39)), .ref 47], m1) : am_S)) (ei_l2i rfl)) ?_
                          refine pw_call (As := [.int (ei_ (y39)), .int (ei_ (y41)), .int (ei_ (y43))]) (st := []) (k := 47) rfl rfl rfl rfl rfl (Nat.le_of_ble_eq_true rfl) ?_
                          refine pw_intro (I := iX9_adds) (T := tX9_adds) rfl rfl rfl ?_
                          refine pw_steps 3 (s' := (5, [some (.ref 47), some (.int (ei_ (y39))), some (.int (ei_ (y41))), some (.int (ei_ (y43)))], [.ref 47, .ref 48], m1)) rfl ?_
                          refine pw_get rfl rfl (fun x45 (hx45 : x45 = vi_ m1 47 6) rx45 sx45 => ?_)
                          replace hx45 : x45 = P + k := hx45.trans h11
                          subst x45
                          refine pw_steps 1 (s' := (9, [some (.ref 47), some (.int (ei_ (y39))), some (.int (ei_ (y41))), some (.int (ei_ (y43)))], [.int (ei_ (y39)), .int (ei_ (P + k)), .ref 48], m1)) rfl ?_
                          refine pw_ist rfl rfl (by omega) ?_
                          refine pw_steps 4 (s' := (17, [some (.ref 47), some (.int (ei_ (y39))), some (.int (ei_ (y41))), some (.int (ei_ (y43)))], [.ref 47, .int (ei_ (8)), .ref 48], wi_ m1 48 (P + k) (y39))) rfl ?_
                          refine pw_get rfl rfl (fun x46 (hx46 : x46 = vi_ m1 47 6) rx46 sx46 => ?_)
                          replace hx46 : x46 = P + k := hx46.trans h11
                          subst x46
                          refine pw_steps 2 (s' := (22, [some (.ref 47), some (.int (ei_ (y39))), some (.int (ei_ (y41))), some (.int (ei_ (y43)))], [.int (ei_ (y41)), .int ((ei_ (8)) + (ei_ (P + k))), .ref 48], wi_ m1 48 (P + k) (y39))) rfl ?_
                          refine pw_cv (congrArg (fun z_ : Int32 => ((22, [some (.ref 47), some (.int (ei_ (y39))), some (.int (ei_ (y41))), some (.int (ei_ (y43)))], [.int (ei_ (y41)), .int z_, .ref 48], wi_ m1 48 (P + k) (y39)) : am_S)) (ei_add rfl rfl)) ?_
                          refine pw_ist rfl rfl (by omega) ?_
                          refine pw_steps 4 (s' := (30, [some (.ref 47), some (.int (ei_ (y39))), some (.int (ei_ (y41))), some (.int (ei_ (y43)))], [.ref 47, .int (ei_ (16)), .ref 48], wi_ (wi_ m1 48 (P + k) (y39)) 48 ((8 + (P + k))) (y41))) rfl ?_
                          refine pw_get rfl rfl (fun x47 (hx47 : x47 = vi_ m1 47 6) rx47 sx47 => ?_)
                          replace hx47 : x47 = P + k := hx47.trans h11
                          subst x47
                          refine pw_steps 2 (s' := (35, [some (.ref 47), some (.int (ei_ (y39))), some (.int (ei_ (y41))), some (.int (ei_ (y43)))], [.int (ei_ (y43)), .int ((ei_ (16)) + (ei_ (P + k))), .ref 48], wi_ (wi_ m1 48 (P + k) (y39)) 48 ((8 + (P + k))) (y41))) rfl ?_
                          refine pw_cv (congrArg (fun z_ : Int32 => ((35, [some (.ref 47), some (.int (ei_ (y39))), some (.int (ei_ (y41))), some (.int (ei_ (y43)))], [.int (ei_ (y43)), .int z_, .ref 48], wi_ (wi_ m1 48 (P + k) (y39)) 48 ((8 + (P + k))) (y41)) : am_S)) (ei_add rfl rfl)) ?_
                          refine pw_ist rfl rfl (by omega) ?_
                          refine pw_steps 4 (s' := (43, [some (.ref 47), some (.int (ei_ (y39))), some (.int (ei_ (y41))), some (.int (ei_ (y43)))], [.ref 47, .int (ei_ (24)), .ref 48], wi_ (wi_ (wi_ m1 48 (P + k) (y39)) 48 ((8 + (P + k))) (y41)) 48 ((16 + (P + k))) (y43))) rfl ?_
                          refine pw_get rfl rfl (fun x48 (hx48 : x48 = vi_ m1 47 6) rx48 sx48 => ?_)
                          replace hx48 : x48 = P + k := hx48.trans h11
                          subst x48
                          refine pw_steps 2 (s' := (48, [some (.ref 47), some (.int (ei_ (y39))), some (.int (ei_ (y41))), some (.int (ei_ (y43)))], [.int (ei_ (0)), .int ((ei_ (24)) + (ei_ (P + k))), .ref 48], wi_ (wi_ (wi_ m1 48 (P + k) (y39)) 48 ((8 + (P + k))) (y41)) 48 ((16 + (P + k))) (y43))) rfl ?_
                          refine pw_cv (congrArg (fun z_ : Int32 => ((48, [some (.ref 47), some (.int (ei_ (y39))), some (.int (ei_ (y41))), some (.int (ei_ (y43)))], [.int (ei_ (0)), .int z_, .ref 48], wi_ (wi_ (wi_ m1 48 (P + k) (y39)) 48 ((8 + (P + k))) (y41)) 48 ((16 + (P + k))) (y43)) : am_S)) (ei_add rfl rfl)) ?_
                          refine pw_ist rfl rfl (by omega) ?_
                          refine pw_steps 3 (s' := (54, [some (.ref 47), some (.int (ei_ (y39))), some (.int (ei_ (y41))), some (.int (ei_ (y43)))], [.ref 47, .ref 52], wi_ (wi_ (wi_ (wi_ m1 48 (P + k) (y39)) 48 ((8 + (P + k))) (y41)) 48 ((16 + (P + k))) (y43)) 48 ((24 + (P + k))) (0))) rfl ?_
                          refine pw_get rfl rfl (fun x49 (hx49 : x49 = vi_ m1 47 6) rx49 sx49 => ?_)
                          replace hx49 : x49 = P + k := hx49.trans h11
                          subst x49
                          refine pw_steps 1 (s' := (58, [some (.ref 47), some (.int (ei_ (y39))), some (.int (ei_ (y41))), some (.int (ei_ (y43)))], [.ref 47, .int (ei_ (P + k)), .ref 52], wi_ (wi_ (wi_ (wi_ m1 48 (P + k) (y39)) 48 ((8 + (P + k))) (y41)) 48 ((16 + (P + k))) (y43)) 48 ((24 + (P + k))) (0))) rfl ?_
                          refine pw_get rfl rfl (fun x50 (hx50 : x50 = vi_ m1 47 6) rx50 sx50 => ?_)
                          replace hx50 : x50 = P + k := hx50.trans h11
                          subst x50
                          refine pw_ist rfl rfl (by omega) ?_
                          refine pw_steps 3 (s' := (67, [some (.ref 47), some (.int (ei_ (y39))), some (.int (ei_ (y41))), some (.int (ei_ (y43)))], [.ref 47, .ref 53], wi_ (wi_ (wi_ (wi_ (wi_ m1 48 (P + k) (y39)) 48 ((8 + (P + k))) (y41)) 48 ((16 + (P + k))) (y43)) 48 ((24 + (P + k))) (0)) 52 (P + k) (P + k))) rfl ?_
                          refine pw_get rfl rfl (fun x51 (hx51 : x51 = vi_ m1 47 6) rx51 sx51 => ?_)
                          replace hx51 : x51 = P + k := hx51.trans h11
                          subst x51
                          refine pw_steps 1 (s' := (72, [some (.ref 47), some (.int (ei_ (y39))), some (.int (ei_ (y41))), some (.int (ei_ (y43)))], [.int (ei_ (100)), .int (ei_ (P + k)), .ref 53], wi_ (wi_ (wi_ (wi_ (wi_ m1 48 (P + k) (y39)) 48 ((8 + (P + k))) (y41)) 48 ((16 + (P + k))) (y43)) 48 ((24 + (P + k))) (0)) 52 (P + k) (P + k))) rfl ?_
                          refine pw_ist rfl rfl (by omega) ?_
                          refine pw_steps 2 (s' := (75, [some (.ref 47), some (.int (ei_ (y39))), some (.int (ei_ (y41))), some (.int (ei_ (y43)))], [.ref 47, .ref 47], wi_ (wi_ (wi_ (wi_ (wi_ (wi_ m1 48 (P + k) (y39)) 48 ((8 + (P + k))) (y41)) 48 ((16 + (P + k))) (y43)) 48 ((24 + (P + k))) (0)) 52 (P + k) (P + k)) 53 (P + k) (100))) rfl ?_
                          refine pw_get rfl rfl (fun x52 (hx52 : x52 = vi_ m1 47 6) rx52 sx52 => ?_)
                          replace hx52 : x52 = P + k := hx52.trans h11
                          subst x52
                          refine pw_steps 2 (s' := (80, [some (.ref 47), some (.int (ei_ (y39))), some (.int (ei_ (y41))), some (.int (ei_ (y43)))], [.int ((ei_ (P + k)) + (ei_ (1))), .ref 47], wi_ (wi_ (wi_ (wi_ (wi_ (wi_ m1 48 (P + k) (y39)) 48 ((8 + (P + k))) (y41)) 48 ((16 + (P + k))) (y43)) 48 ((24 + (P + k))) (0)) 52 (P + k) (P + k)) 53 (P + k) (100))) rfl ?_
                          refine pw_cv (congrArg (fun z_ : Int32 => ((80, [some (.ref 47), some (.int (ei_ (y39))), some (.int (ei_ (y41))), some (.int (ei_ (y43)))], [.int z_, .ref 47], wi_ (wi_ (wi_ (wi_ (wi_ (wi_ m1 48 (P + k) (y39)) 48 ((8 + (P + k))) (y41)) 48 ((16 + (P + k))) (y43)) 48 ((24 + (P + k))) (0)) 52 (P + k) (P + k)) 53 (P + k) (100)) : am_S)) (ei_add rfl rfl)) ?_
                          refine pw_put (v := ((P + k) + 1)) rfl rfl (Or.inl rfl) ?_
                          refine pw_cv (s' := (83, [some (.ref 47), some (.int (ei_ (y39))), some (.int (ei_ (y41))), some (.int (ei_ (y43)))], [], wi_ (wi_ (wi_ (wi_ (wi_ (wi_ (wi_ m1 48 (P + k) (y39)) 48 ((8 + (P + k))) (y41)) 48 ((16 + (P + k))) (y43)) 48 ((24 + (P + k))) (0)) 52 (P + k) (P + k)) 53 (P + k) (100)) 47 (6) (((P + k) + 1)))) rfl ?_
                          refine pw_vret rfl rfl ?_
                          refine pw_steps 2 (s' := (69, [some (.ref 47), some (.int (ei_ (a))), some (.int (ei_ (i))), some (.int (ei_ (n))), some (.int ((ei_ (k)) + (ei_ (1)))), some (.int (ei_ (1))), some (.int (ei_ ((((60 * a) + i) + (3 * k)))))], [], wi_ (wi_ (wi_ (wi_ (wi_ (wi_ (wi_ m1 48 (P + k) (y39)) 48 ((8 + (P + k))) (y41)) 48 ((16 + (P + k))) (y43)) 48 ((24 + (P + k))) (0)) 52 (P + k) (P + k)) 53 (P + k) (100)) 47 (6) (((P + k) + 1)))) rfl ?_
                          refine pw_cv (congrArg (fun z_ : Int32 => ((69, [some (.ref 47), some (.int (ei_ (a))), some (.int (ei_ (i))), some (.int (ei_ (n))), some (.int z_), some (.int (ei_ (1))), some (.int (ei_ ((((60 * a) + i) + (3 * k)))))], [], wi_ (wi_ (wi_ (wi_ (wi_ (wi_ (wi_ m1 48 (P + k) (y39)) 48 ((8 + (P + k))) (y41)) 48 ((16 + (P + k))) (y43)) 48 ((24 + (P + k))) (0)) 52 (P + k) (P + k)) 53 (P + k) (100)) 47 (6) (((P + k) + 1))) : am_S)) (ei_add rfl rfl)) ?_
                          exact ih13 _ (by omega) (k + 1) 1 (some (.int (ei_ ((((60 * a) + i) + (3 * k)))))) (wi_ (wi_ (wi_ (wi_ (wi_ (wi_ (wi_ m1 48 (P + k) (y39)) 48 ((8 + (P + k))) (y41)) 48 ((16 + (P + k))) (y43)) 48 ((24 + (P + k))) (0)) 52 (P + k) (P + k)) 53 (P + k) (100)) 47 (6) (((P + k) + 1))) rfl (by omega) ((sm_w (sm_w (sm_w (sm_w (sm_w (sm_w (sm_w hs (fun _ h_ => by rw [h_]; rfl)) (fun _ h_ => by rw [h_]; rfl)) (fun _ h_ => by rw [h_]; rfl)) (fun _ h_ => by rw [h_]; rfl)) (fun _ h_ => by rw [h_]; rfl)) (fun _ h_ => by rw [h_]; rfl)) (fun _ h_ => by rw [h_]; rfl))) (by refine ((ei_i (by omega))).trans (by omega)) (by refine pe_s hg ?_; subst hy21; subst hy23; subst hy25; subst hy39; subst hy41; subst hy43; unfold gM_; omega) (by intro h_; omega) (by intro j a_ b_; (simp (disch := omega) only [vi_up, vi_ne]); rw [if_neg (by omega)]; rw [if_neg (by omega)]; rw [if_neg (by omega)]; by_cases e_ : j = k; (rw [if_pos (by omega), e_]; exact hy39); (rw [if_neg (by omega)]; exact hS j a_ (by omega))) (by intro j a_ b_; (simp (disch := omega) only [vi_up, vi_ne]); rw [if_neg (by omega)]; rw [if_neg (by omega)]; by_cases e_ : j = k; (rw [if_pos (by omega), e_]; exact hy41); (rw [if_neg (by omega)]; rw [if_neg (by omega)]; exact hO j a_ (by omega))) (by intro j a_ b_; (simp (disch := omega) only [vi_up, vi_ne]); rw [if_neg (by omega)]; by_cases e_ : j = k; (rw [if_pos (by omega), e_]; exact hy43); (rw [if_neg (by omega)]; rw [if_neg (by omega)]; rw [if_neg (by omega)]; exact hC j a_ (by omega))) (by intro j a_ b_; (simp (disch := omega) only [vi_up, vi_ne]); by_cases e_ : j = k; (rw [if_pos (by omega)]); (rw [if_neg (by omega), if_neg (by omega), if_neg (by omega), if_neg (by omega)]; exact hH j a_ (by omega))) (by intro j a_ b_ c_ d_ e_; (simp (disch := omega) only [vi_up, vi_ne]); rw [if_neg (by omega), if_neg (by omega), if_neg (by omega), if_neg (by omega)]; exact hN j a_ (by omega) (by omega) (by omega) (by omega)) (by intro j a_ b_; (simp (disch := omega) only [vi_up, vi_ne]); by_cases e_ : j = k; (rw [if_pos (by omega)]; (try rw [e_])); (rw [if_neg (by omega)]; exact h52 j a_ (by omega))) (by intro j a_ b_; (simp (disch := omega) only [vi_up, vi_ne]); rw [if_neg (by omega)]; exact n52 j a_ b_) (by intro j a_ b_; (simp (disch := omega) only [vi_up, vi_ne]); by_cases e_ : j = k; (rw [if_pos (by omega)]; (try rw [e_])); (rw [if_neg (by omega)]; exact h53 j a_ (by omega))) (by intro j a_ b_; (simp (disch := omega) only [vi_up, vi_ne]); rw [if_neg (by omega)]; exact n53 j a_ b_)
                        · refine pw_ifT rfl (by decide) (show 0 = 0 by decide) ?_
                          refine pw_steps 1 (s' := (39, [some (.long (el_ (y21))), none, some (.long (el_ (y23))), none, some (.long (el_ (y25))), none], [.int (ei_ (0))], m1)) rfl ?_
                          refine pw_iret rfl rfl rfl ?_
                          refine pw_ifT rfl (by decide) (show 0 = 0 by decide) ?_
                          refine pw_steps 3 (s' := (171, [some (.ref 47), some (.int (ei_ (a))), some (.int (ei_ (i))), some (.int (ei_ (n))), some (.int (ei_ (k))), some (.int (ei_ (0))), some (.int (ei_ ((((60 * a) + i) + (3 * k)))))], [.int (ei_ (0))], m1)) rfl ?_
                          refine pw_ifT rfl (by decide) (show 0 = 0 by decide) ?_
                          refine pw_steps 1 (s' := (69, [some (.ref 47), some (.int (ei_ (a))), some (.int (ei_ (i))), some (.int (ei_ (n))), some (.int (ei_ (k))), some (.int (ei_ (0))), some (.int (ei_ ((((60 * a) + i) + (3 * k)))))], [], m1)) rfl ?_
                          exact ih13 _ (by omega) k 0 (some (.int (ei_ ((((60 * a) + i) + (3 * k)))))) m1 rfl (by omega) (hs) (by refine (h11).trans (by omega)) (by exact hg) (by intro _; subst hy21; subst hy23; subst hy25; unfold gM_; omega) (by exact hS) (by exact hO) (by exact hC) (by exact hH) (by exact hN) (by exact h52) (by exact n52) (by exact h53) (by exact n53)
                        · refine pw_ifT rfl (by decide) (show 0 = 0 by decide) ?_
                          refine pw_steps 1 (s' := (39, [some (.long (el_ (y21))), none, some (.long (el_ (y23))), none, some (.long (el_ (y25))), none], [.int (ei_ (0))], m1)) rfl ?_
                          refine pw_iret rfl rfl rfl ?_
                          refine pw_ifT rfl (by decide) (show 0 = 0 by decide) ?_
                          refine pw_steps 3 (s' := (171, [some (.ref 47), some (.int (ei_ (a))), some (.int (ei_ (i))), some (.int (ei_ (n))), some (.int (ei_ (k))), some (.int (ei_ (0))), some (.int (ei_ ((((60 * a) + i) + (3 * k)))))], [.int (ei_ (0))], m1)) rfl ?_
                          refine pw_ifT rfl (by decide) (show 0 = 0 by decide) ?_
                          refine pw_steps 1 (s' := (69, [some (.ref 47), some (.int (ei_ (a))), some (.int (ei_ (i))), some (.int (ei_ (n))), some (.int (ei_ (k))), some (.int (ei_ (0))), some (.int (ei_ ((((60 * a) + i) + (3 * k)))))], [], m1)) rfl ?_
                          exact ih13 _ (by omega) k 0 (some (.int (ei_ ((((60 * a) + i) + (3 * k)))))) m1 rfl (by omega) (hs) (by refine (h11).trans (by omega)) (by exact hg) (by intro _; subst hy21; subst hy23; subst hy25; unfold gM_; omega) (by exact hS) (by exact hO) (by exact hC) (by exact hH) (by exact hN) (by exact h52) (by exact n52) (by exact h53) (by exact n53)
                      · refine pw_ifT rfl (by decide) (show 0 = 0 by decide) ?_
                        refine pw_steps 1 (s' := (39, [some (.long (el_ (y21))), none, some (.long (el_ (y23))), none, some (.long (el_ (y25))), none], [.int (ei_ (0))], m1)) rfl ?_
                        refine pw_iret rfl rfl rfl ?_
                        refine pw_ifT rfl (by decide) (show 0 = 0 by decide) ?_
                        refine pw_steps 3 (s' := (171, [some (.ref 47), some (.int (ei_ (a))), some (.int (ei_ (i))), some (.int (ei_ (n))), some (.int (ei_ (k))), some (.int (ei_ (0))), some (.int (ei_ ((((60 * a) + i) + (3 * k)))))], [.int (ei_ (0))], m1)) rfl ?_
                        refine pw_ifT rfl (by decide) (show 0 = 0 by decide) ?_
                        refine pw_steps 1 (s' := (69, [some (.ref 47), some (.int (ei_ (a))), some (.int (ei_ (i))), some (.int (ei_ (n))), some (.int (ei_ (k))), some (.int (ei_ (0))), some (.int (ei_ ((((60 * a) + i) + (3 * k)))))], [], m1)) rfl ?_
                        exact ih13 _ (by omega) k 0 (some (.int (ei_ ((((60 * a) + i) + (3 * k)))))) m1 rfl (by omega) (hs) (by refine (h11).trans (by omega)) (by exact hg) (by intro _; subst hy21; subst hy23; subst hy25; unfold gM_; omega) (by exact hS) (by exact hO) (by exact hC) (by exact hH) (by exact hN) (by exact h52) (by exact n52) (by exact h53) (by exact n53)
                      · refine pw_ifT rfl (by decide) (show 0 = 0 by decide) ?_
                        refine pw_steps 1 (s' := (39, [some (.long (el_ (y21))), none, some (.long (el_ (y23))), none, some (.long (el_ (y25))), none], [.int (ei_ (0))], m1)) rfl ?_
                        refine pw_iret rfl rfl rfl ?_
                        refine pw_ifT rfl (by decide) (show 0 = 0 by decide) ?_
                        refine pw_steps 3 (s' := (171, [some (.ref 47), some (.int (ei_ (a))), some (.int (ei_ (i))), some (.int (ei_ (n))), some (.int (ei_ (k))), some (.int (ei_ (0))), some (.int (ei_ ((((60 * a) + i) + (3 * k)))))], [.int (ei_ (0))], m1)) rfl ?_
                        refine pw_ifT rfl (by decide) (show 0 = 0 by decide) ?_
                        refine pw_steps 1 (s' := (69, [some (.ref 47), some (.int (ei_ (a))), some (.int (ei_ (i))), some (.int (ei_ (n))), some (.int (ei_ (k))), some (.int (ei_ (0))), some (.int (ei_ ((((60 * a) + i) + (3 * k)))))], [], m1)) rfl ?_
                        exact ih13 _ (by omega) k 0 (some (.int (ei_ ((((60 * a) + i) + (3 * k)))))) m1 rfl (by omega) (hs) (by refine (h11).trans (by omega)) (by exact hg) (by intro _; subst hy21; subst hy23; subst hy25; unfold gM_; omega) (by exact hS) (by exact hO) (by exact hC) (by exact hH) (by exact hN) (by exact h52) (by exact n52) (by exact h53) (by exact n53)
                    · refine pw_ifT rfl (by decide) (show 0 = 0 by decide) ?_
                      refine pw_steps 1 (s' := (39, [some (.long (el_ (y21))), none, some (.long (el_ (y23))), none, some (.long (el_ (y25))), none], [.int (ei_ (0))], m1)) rfl ?_
                      refine pw_iret rfl rfl rfl ?_
                      refine pw_ifT rfl (by decide) (show 0 = 0 by decide) ?_
                      refine pw_steps 3 (s' := (171, [some (.ref 47), some (.int (ei_ (a))), some (.int (ei_ (i))), some (.int (ei_ (n))), some (.int (ei_ (k))), some (.int (ei_ (0))), some (.int (ei_ ((((60 * a) + i) + (3 * k)))))], [.int (ei_ (0))], m1)) rfl ?_
                      refine pw_ifT rfl (by decide) (show 0 = 0 by decide) ?_
                      refine pw_steps 1 (s' := (69, [some (.ref 47), some (.int (ei_ (a))), some (.int (ei_ (i))), some (.int (ei_ (n))), some (.int (ei_ (k))), some (.int (ei_ (0))), some (.int (ei_ ((((60 * a) + i) + (3 * k)))))], [], m1)) rfl ?_
                      exact ih13 _ (by omega) k 0 (some (.int (ei_ ((((60 * a) + i) + (3 * k)))))) m1 rfl (by omega) (hs) (by refine (h11).trans (by omega)) (by exact hg) (by intro _; subst hy21; subst hy23; subst hy25; unfold gM_; omega) (by exact hS) (by exact hO) (by exact hC) (by exact hH) (by exact hN) (by exact h52) (by exact n52) (by exact h53) (by exact n53)
                    · refine pw_ifT rfl (by decide) (show 0 = 0 by decide) ?_
                      refine pw_steps 1 (s' := (39, [some (.long (el_ (y21))), none, some (.long (el_ (y23))), none, some (.long (el_ (y25))), none], [.int (ei_ (0))], m1)) rfl ?_
                      refine pw_iret rfl rfl rfl ?_
                      refine pw_ifT rfl (by decide) (show 0 = 0 by decide) ?_
                      refine pw_steps 3 (s' := (171, [some (.ref 47), some (.int (ei_ (a))), some (.int (ei_ (i))), some (.int (ei_ (n))), some (.int (ei_ (k))), some (.int (ei_ (0))), some (.int (ei_ ((((60 * a) + i) + (3 * k)))))], [.int (ei_ (0))], m1)) rfl ?_
                      refine pw_ifT rfl (by decide) (show 0 = 0 by decide) ?_
                      refine pw_steps 1 (s' := (69, [some (.ref 47), some (.int (ei_ (a))), some (.int (ei_ (i))), some (.int (ei_ (n))), some (.int (ei_ (k))), some (.int (ei_ (0))), some (.int (ei_ ((((60 * a) + i) + (3 * k)))))], [], m1)) rfl ?_
                      exact ih13 _ (by omega) k 0 (some (.int (ei_ ((((60 * a) + i) + (3 * k)))))) m1 rfl (by omega) (hs) (by refine (h11).trans (by omega)) (by exact hg) (by intro _; subst hy21; subst hy23; subst hy25; unfold gM_; omega) (by exact hS) (by exact hO) (by exact hC) (by exact hH) (by exact hN) (by exact h52) (by exact n52) (by exact h53) (by exact n53)
        exact L14 _ 0 0 none m rfl (by omega) ((sm_rfl m)) (by omega) (by intro j a_ b_; omega) (by intro h_; unfold gM_; omega) (by intro j a_ b_; omega) (by intro j a_ b_; omega) (by intro j a_ b_; omega) (by intro j a_ b_; omega) (by intro j _ _ _ _ _; rfl) (by intro j a_ b_; omega) (by intro j _ _; rfl) (by intro j a_ b_; omega) (by intro j _ _; rfl)
      · refine pw_steps 3 (s' := (35, [some (.ref 47), some (.int (ei_ (a))), some (.int (ei_ (i))), some (.int (ei_ (n))), none, none, none], [.int (ei_ (a)), .ref 68], m)) rfl ?_
        refine pw_ildE (x := x9) rfl rfl (by omega) hx9 ?_
        refine pw_steps 1 (s' := (38, [some (.ref 47), some (.int (ei_ (a))), some (.int (ei_ (i))), some (.int (ei_ (n))), none, none, none], [.int (ei_ (50)), .int (ei_ (x9))], m)) rfl ?_
        refine pw_cmp rfl ⟨rx9, sx9⟩ (by decide) (fun (h53 : x9 = 50) => ?_) (fun (h53 : ¬ (x9 = 50)) => ?_)
        · refine pw_steps 5 (s' := (52, [some (.ref 47), some (.int (ei_ (a))), some (.int (ei_ (i))), some (.int (ei_ (n))), some (.int (ei_ (0))), none, none], [.int (ei_ (a)), .ref 68], m)) rfl ?_
          refine pw_ildE (x := x9) rfl rfl (by omega) hx9 ?_
          refine pw_steps 1 (s' := (55, [some (.ref 47), some (.int (ei_ (a))), some (.int (ei_ (i))), some (.int (ei_ (n))), some (.int (ei_ (0))), none, none], [.int (ei_ (50)), .int (ei_ (x9))], m)) rfl ?_
          refine pw_cmpF rfl ⟨rx9, sx9⟩ (by decide) (show ¬ (¬ x9 = 50) by omega) ?_
          refine pw_steps 1 (s' := (59, [some (.ref 47), some (.int (ei_ (a))), some (.int (ei_ (i))), some (.int (ei_ (n))), some (.int (ei_ (0))), none, none], [.int (ei_ (i))], m)) rfl ?_
          refine pw_if rfl p5 (fun (h54 : i < 0) => ?_) (fun (h54 : ¬ (i < 0)) => ?_)
          · refine pw_steps 2 (s' := (69, [some (.ref 47), some (.int (ei_ (a))), some (.int (ei_ (i))), some (.int (ei_ (n))), some (.int (ei_ (0))), some (.int (ei_ (0))), none], [], m)) rfl ?_
            have L58 : ∀ (n56 : Nat) (k : Int) (g : Int) (u55 : Option Value) (m1 : am_M), (2 * (n - k) + g).toNat = n56 → (0 ≤ k ∧ k ≤ n ∧ P + k ≤ 8 ∧ 0 ≤ g ∧ g ≤ 1 ∧ (g = 0 ∨ (vi_ m 68 a = 50 ∧ 0 ≤ i)) ∧ (k = 0 ∨ i + 3 * k ≤ 60)) → (sm_ pAm m m1) → (vi_ m1 47 6 = P + k) → (∀ j, 0 ≤ j → j < k → gM_ m a i P j) → (g = 0 → ¬ gM_ m a i P k) → (∀ j, 0 ≤ j → j < k → vi_ m1 48 (P + j) = vl_ m 70 (60 * a + i + 3 * j)) → (∀ j, 0 ≤ j → j < k → vi_ m1 48 (8 + (P + j)) = vl_ m 70 (60 * a + i + 3 * j + 1)) → (∀ j, 0 ≤ j → j < k → vi_ m1 48 (16 + (P + j)) = vl_ m 70 (60 * a + i + 3 * j + 2)) → (∀ j, 0 ≤ j → j < k → vi_ m1 48 (24 + (P + j)) = 0) → (∀ j, 0 ≤ j → ¬ (P ≤ j ∧ j < P + k) → ¬ (8 + P ≤ j ∧ j < 8 + P + k) → ¬ (16 + P ≤ j ∧ j < 16 + P + k) → ¬ (24 + P ≤ j ∧ j < 24 + P + k) → vi_ m1 48 j = vi_ m 48 j) → (∀ j, 0 ≤ j → j < k → vi_ m1 52 (P + j) = P + j) → (∀ j, 0 ≤ j → j < P → vi_ m1 52 j = vi_ m 52 j) → (∀ j, 0 ≤ j → j < k → vi_ m1 53 (P + j) = 100) → (∀ j, 0 ≤ j → j < P → vi_ m1 53 j = vi_ m 53 j) → pw_V q (d + 59) iX9_people.2.2.2.1 tX9_people Q (69, [some (.ref 47), some (.int (ei_ (a))), some (.int (ei_ (i))), some (.int (ei_ (n))), some (.int (ei_ (k))), some (.int (ei_ (g))), u55], [], m1) := by
              intro n56
              induction n56 using Nat.strongRecOn with
              | _ n56 ih57 =>
                intro k g u55 m1 hm_n56 hk hs h11 hg hz hS hO hC hH hN h52 n52 h53 n53
                refine pw_steps 1 (s' := (71, [some (.ref 47), some (.int (ei_ (a))), some (.int (ei_ (i))), some (.int (ei_ (n))), some (.int (ei_ (k))), some (.int (ei_ (g))), u55], [.int (ei_ (g))], m1)) rfl ?_
                refine pw_if rfl (by omega) (fun (h59 : g = 0) => ?_) (fun (h59 : ¬ (g = 0)) => ?_)
                · refine pw_steps 1 (s' := (214, [some (.ref 47), some (.int (ei_ (a))), some (.int (ei_ (i))), some (.int (ei_ (n))), some (.int (ei_ (k))), some (.int (ei_ (g))), u55], [.int (ei_ (k))], m1)) rfl ?_
                  refine pw_iret rfl rfl rfl ?_
                  exact k2 k m1 (by omega) (by omega) ⟨by omega, hg, Or.inr (hz (by omega))⟩ hs h11 hS hO hC hH hN h52 n52 h53 n53
                · refine pw_steps 2 (s' := (77, [some (.ref 47), some (.int (ei_ (a))), some (.int (ei_ (i))), some (.int (ei_ (n))), some (.int (ei_ (k))), some (.int (ei_ (g))), u55], [.int (ei_ (n)), .int (ei_ (k))], m1)) rfl ?_
                  refine pw_cmp rfl (by omega) p6 (fun (h60 : n ≤ k) => ?_) (fun (h60 : ¬ (n ≤ k)) => ?_)
                  · refine pw_steps 1 (s' := (214, [some (.ref 47), some (.int (ei_ (a))), some (.int (ei_ (i))), some (.int (ei_ (n))), some (.int (ei_ (k))), some (.int (ei_ (g))), u55], [.int (ei_ (k))], m1)) rfl ?_
                    refine pw_iret rfl rfl rfl ?_
                    exact k2 k m1 (by omega) (by omega) ⟨by omega, hg, Or.inl (by omega)⟩ hs h11 hS hO hC hH hN h52 n52 h53 n53
                  · refine pw_steps 4 (s' := (86, [some (.ref 47), some (.int (ei_ (a))), some (.int (ei_ (i))), some (.int (ei_ (n))), some (.int (ei_ (k))), some (.int (ei_ (g))), u55], [.int (ei_ (a)), .ref 69, .int (ei_ (i))], m1)) rfl ?_
                    refine pw_ild rfl rfl (by omega) (fun x61 (hx61 : x61 = vi_ m1 69 a) rx61 sx61 => ?_)
                    have ox61 := hx61
                    replace hx61 : x61 = vi_ m 69 a := hx61.trans (sm_v hs rfl)
                    refine pw_steps 6 (s' := (94, [some (.ref 47), some (.int (ei_ (a))), some (.int (ei_ (i))), some (.int (ei_ (n))), some (.int (ei_ (k))), some (.int (ei_ (g))), u55], [.int (((ei_ (x61)) - (ei_ (3))) - ((ei_ (3)) * (ei_ (k)))), .int (ei_ (i))], m1)) rfl ?_
                    refine pw_cv (congrArg (fun z_ : Int32 => ((94, [some (.ref 47), some (.int (ei_ (a))), some (.int (ei_ (i))), some (.int (ei_ (n))), some (.int (ei_ (k))), some (.int (ei_ (g))), u55], [.int z_, .int (ei_ (i))], m1) : am_S)) (ei_sub (ei_sub rfl rfl) (ei_mul rfl rfl))) ?_
                    refine pw_cmp rfl p5 (by omega) (fun (h62 : ((x61 - 3) - (3 * k)) < i) => ?_) (fun (h62 : ¬ (((x61 - 3) - (3 * k)) < i)) => ?_)
                    · refine pw_steps 13 (s' := (128, [some (.ref 47), some (.int (ei_ (a))), some (.int (ei_ (i))), some (.int (ei_ (n))), some (.int (ei_ (k))), some (.int (ei_ (0))), some (.int ((((ei_ (60)) * (ei_ (a))) + (ei_ (i))) + ((ei_ (3)) * (ei_ (k)))))], [.int (ei_ (0))], m1)) rfl ?_
                      refine pw_cv (congrArg (fun z_ : Int32 => ((128, [some (.ref 47), some (.int (ei_ (a))), some (.int (ei_ (i))), some (.int (ei_ (n))), some (.int (ei_ (k))), some (.int (ei_ (0))), some (.int z_)], [.int (ei_ (0))], m1) : am_S)) (ei_add (ei_add (ei_mul rfl rfl) rfl) (ei_mul rfl rfl))) ?_
                      refine pw_ifT rfl (by decide) (show 0 = 0 by decide) ?_
                      refine pw_steps 3 (s' := (171, [some (.ref 47), some (.int (ei_ (a))), some (.int (ei_ (i))), some (.int (ei_ (n))), some (.int (ei_ (k))), some (.int (ei_ (0))), some (.int (ei_ ((((60 * a) + i) + (3 * k)))))], [.int (ei_ (0))], m1)) rfl ?_
                      refine pw_ifT rfl (by decide) (show 0 = 0 by decide) ?_
                      refine pw_steps 1 (s' := (69, [some (.ref 47), some (.int (ei_ (a))), some (.int (ei_ (i))), some (.int (ei_ (n))), some (.int (ei_ (k))), some (.int (ei_ (0))), some (.int (ei_ ((((60 * a) + i) + (3 * k)))))], [], m1)) rfl ?_
                      exact ih57 _ (by omega) k 0 (some (.int (ei_ ((((60 * a) + i) + (3 * k)))))) m1 rfl (by omega) (hs) (by refine (h11).trans (by omega)) (by exact hg) (by intro _; unfold gM_; omega) (by exact hS) (by exact hO) (by exact hC) (by exact hH) (by exact hN) (by exact h52) (by exact n52) (by exact h53) (by exact n53)
                    · refine pw_steps 1 (s' := (98, [some (.ref 47), some (.int (ei_ (a))), some (.int (ei_ (i))), some (.int (ei_ (n))), some (.int (ei_ (k))), some (.int (ei_ (g))), u55], [.ref 47], m1)) rfl ?_
                      refine pw_get rfl rfl (fun x63 (hx63 : x63 = vi_ m1 47 6) rx63 sx63 => ?_)
                      replace hx63 : x63 = P + k := hx63.trans h11
                      subst x63
                      refine pw_steps 1 (s' := (103, [some (.ref 47), some (.int (ei_ (a))), some (.int (ei_ (i))), some (.int (ei_ (n))), some (.int (ei_ (k))), some (.int (ei_ (g))), u55], [.int (ei_ (8)), .int (ei_ (P + k))], m1)) rfl ?_
                      refine pw_cmp rfl ⟨rx63, sx63⟩ (by decide) (fun (h64 : 8 ≤ P + k) => ?_) (fun (h64 : ¬ (8 ≤ P + k)) => ?_)
                      · refine pw_steps 13 (s' := (128, [some (.ref 47), some (.int (ei_ (a))), some (.int (ei_ (i))), some (.int (ei_ (n))), some (.int (ei_ (k))), some (.int (ei_ (0))), some (.int ((((ei_ (60)) * (ei_ (a))) + (ei_ (i))) + ((ei_ (3)) * (ei_ (k)))))], [.int (ei_ (0))], m1)) rfl ?_
                        refine pw_cv (congrArg (fun z_ : Int32 => ((128, [some (.ref 47), some (.int (ei_ (a))), some (.int (ei_ (i))), some (.int (ei_ (n))), some (.int (ei_ (k))), some (.int (ei_ (0))), some (.int z_)], [.int (ei_ (0))], m1) : am_S)) (ei_add (ei_add (ei_mul rfl rfl) rfl) (ei_mul rfl rfl))) ?_
                        refine pw_ifT rfl (by decide) (show 0 = 0 by decide) ?_
                        refine pw_steps 3 (s' := (171, [some (.ref 47), some (.int (ei_ (a))), some (.int (ei_ (i))), some (.int (ei_ (n))), some (.int (ei_ (k))), some (.int (ei_ (0))), some (.int (ei_ ((((60 * a) + i) + (3 * k)))))], [.int (ei_ (0))], m1)) rfl ?_
                        refine pw_ifT rfl (by decide) (show 0 = 0 by decide) ?_
                        refine pw_steps 1 (s' := (69, [some (.ref 47), some (.int (ei_ (a))), some (.int (ei_ (i))), some (.int (ei_ (n))), some (.int (ei_ (k))), some (.int (ei_ (0))), some (.int (ei_ ((((60 * a) + i) + (3 * k)))))], [], m1)) rfl ?_
                        exact ih57 _ (by omega) k 0 (some (.int (ei_ ((((60 * a) + i) + (3 * k)))))) m1 rfl (by omega) (hs) (by refine (h11).trans (by omega)) (by exact hg) (by intro _; unfold gM_; omega) (by exact hS) (by exact hO) (by exact hC) (by exact hH) (by exact hN) (by exact h52) (by exact n52) (by exact h53) (by exact n53)
                      · refine pw_steps 14 (s' := (128, [some (.ref 47), some (.int (ei_ (a))), some (.int (ei_ (i))), some (.int (ei_ (n))), some (.int (ei_ (k))), some (.int (ei_ (1))), some (.int ((((ei_ (60)) * (ei_ (a))) + (ei_ (i))) + ((ei_ (3)) * (ei_ (k)))))], [.int (ei_ (1))], m1)) rfl ?_
                        refine pw_cv (congrArg (fun z_ : Int32 => ((128, [some (.ref 47), some (.int (ei_ (a))), some (.int (ei_ (i))), some (.int (ei_ (n))), some (.int (ei_ (k))), some (.int (ei_ (1))), some (.int z_)], [.int (ei_ (1))], m1) : am_S)) (ei_add (ei_add (ei_mul rfl rfl) rfl) (ei_mul rfl rfl))) ?_
                        refine pw_ifF rfl (by decide) (show ¬ (1 = 0) by decide) ?_
                        refine pw_steps 3 (s' := (137, [some (.ref 47), some (.int (ei_ (a))), some (.int (ei_ (i))), some (.int (ei_ (n))), some (.int (ei_ (k))), some (.int (ei_ (1))), some (.int (ei_ ((((60 * a) + i) + (3 * k)))))], [.int (ei_ ((((60 * a) + i) + (3 * k)))), .ref 70], m1)) rfl ?_
                        refine pw_lld rfl rfl (by omega) (fun y65 (hy65 : y65 = vl_ m1 70 (((60 * a) + i) + (3 * k))) ry65 sy65 => ?_)
                        replace hy65 : y65 = vl_ m 70 (((60 * a) + i) + (3 * k)) := hy65.trans (congrFun (sm_l hs) _)
                        have b66 := (hb3 (by omega)) (((60 * a) + i) + (3 * k)) (by omega) (by omega)
                        refine pw_steps 5 (s' := (146, [some (.ref 47), some (.int (ei_ (a))), some (.int (ei_ (i))), some (.int (ei_ (n))), some (.int (ei_ (k))), some (.int (ei_ (1))), some (.int (ei_ ((((60 * a) + i) + (3 * k)))))], [.int ((ei_ ((((60 * a) + i) + (3 * k)))) + (ei_ (1))), .ref 70, .long (el_ (y65))], m1)) rfl ?_
                        refine pw_cv (congrArg (fun z_ : Int32 => ((146, [some (.ref 47), some (.int (ei_ (a))), some (.int (ei_ (i))), some (.int (ei_ (n))), some (.int (ei_ (k))), some (.int (ei_ (1))), some (.int (ei_ ((((60 * a) + i) + (3 * k)))))], [.int z_, .ref 70, .long (el_ (y65))], m1) : am_S)) (ei_add rfl rfl)) ?_
                        refine pw_lld rfl rfl (by omega) (fun y67 (hy67 : y67 = vl_ m1 70 ((((60 * a) + i) + (3 * k)) + 1)) ry67 sy67 => ?_)
                        replace hy67 : y67 = vl_ m 70 ((((60 * a) + i) + (3 * k)) + 1) := hy67.trans (congrFun (sm_l hs) _)
                        have b68 := (hb3 (by omega)) ((((60 * a) + i) + (3 * k)) + 1) (by omega) (by omega)
                        refine pw_steps 5 (s' := (155, [some (.ref 47), some (.int (ei_ (a))), some (.int (ei_ (i))), some (.int (ei_ (n))), some (.int (ei_ (k))), some (.int (ei_ (1))), some (.int (ei_ ((((60 * a) + i) + (3 * k)))))], [.int ((ei_ ((((60 * a) + i) + (3 * k)))) + (ei_ (2))), .ref 70, .long (el_ (y67)), .long (el_ (y65))], m1)) rfl ?_
                        refine pw_cv (congrArg (fun z_ : Int32 => ((155, [some (.ref 47), some (.int (ei_ (a))), some (.int (ei_ (i))), some (.int (ei_ (n))), some (.int (ei_ (k))), some (.int (ei_ (1))), some (.int (ei_ ((((60 * a) + i) + (3 * k)))))], [.int z_, .ref 70, .long (el_ (y67)), .long (el_ (y65))], m1) : am_S)) (ei_add rfl rfl)) ?_
                        refine pw_lld rfl rfl (by omega) (fun y69 (hy69 : y69 = vl_ m1 70 ((((60 * a) + i) + (3 * k)) + 2)) ry69 sy69 => ?_)
                        replace hy69 : y69 = vl_ m 70 ((((60 * a) + i) + (3 * k)) + 2) := hy69.trans (congrFun (sm_l hs) _)
                        have b70 := (hb3 (by omega)) ((((60 * a) + i) + (3 * k)) + 2) (by omega) (by omega)
                        refine pw_callS (As := [.long (el_ (y65)), .long (el_ (y67)), .long (el_ (y69))]) (st := []) rfl (by decide) rfl rfl (Nat.le_of_ble_eq_true rfl) ?_
                        refine pw_intro (I := iX9_mayCome) (T := tX9_mayCome) rfl rfl rfl ?_
                        refine pw_steps 3 (s' := (5, [some (.long (el_ (y65))), none, some (.long (el_ (y67))), none, some (.long (el_ (y69))), none], [.long (el_ (9)), .long (el_ (1)), .long (el_ (y65))], m1)) rfl ?_
                        refine pw_callS (As := [.long (el_ (y65)), .long (el_ (1)), .long (el_ (9))]) (st := []) rfl (by decide) rfl rfl (Nat.le_of_ble_eq_true rfl) ?_
                        refine mt_within (by omega) (by omega) (by omega) (fun g71 g72 => ?_) (fun g73 => ?_) (fun g74 => ?_)
                        · refine pw_ifF rfl (by decide) (show ¬ (1 = 0) by decide) ?_
                          refine pw_steps 3 (s' := (16, [some (.long (el_ (y65))), none, some (.long (el_ (y67))), none, some (.long (el_ (y69))), none], [.long (el_ (9)), .long (el_ (0)), .long (el_ (y67))], m1)) rfl ?_
                          refine pw_callS (As := [.long (el_ (y67)), .long (el_ (0)), .long (el_ (9))]) (st := []) rfl (by decide) rfl rfl (Nat.le_of_ble_eq_true rfl) ?_
                          refine mt_within (by omega) (by omega) (by omega) (fun g75 g76 => ?_) (fun g77 => ?_) (fun g78 => ?_)
                          · refine pw_ifF rfl (by decide) (show ¬ (1 = 0) by decide) ?_
                            refine pw_steps 3 (s' := (28, [some (.long (el_ (y65))), none, some (.long (el_ (y67))), none, some (.long (el_ (y69))), none], [.long (el_ (9)), .long (el_ (1)), .long (el_ (y69))], m1)) rfl ?_
                            refine pw_callS (As := [.long (el_ (y69)), .long (el_ (1)), .long (el_ (9))]) (st := []) rfl (by decide) rfl rfl (Nat.le_of_ble_eq_true rfl) ?_
                            refine mt_within (by omega) (by omega) (by omega) (fun g79 g80 => ?_) (fun g81 => ?_) (fun g82 => ?_)
                            · refine pw_ifF rfl (by decide) (show ¬ (1 = 0) by decide) ?_
                              refine pw_steps 2 (s' := (39, [some (.long (el_ (y65))), none, some (.long (el_ (y67))), none, some (.long (el_ (y69))), none], [.int (ei_ (1))], m1)) rfl ?_
                              refine pw_iret rfl rfl rfl ?_
                              refine pw_ifF rfl (by decide) (show ¬ (1 = 0) by decide) ?_
                              refine pw_steps 4 (s' := (171, [some (.ref 47), some (.int (ei_ (a))), some (.int (ei_ (i))), some (.int (ei_ (n))), some (.int (ei_ (k))), some (.int (ei_ (1))), some (.int (ei_ ((((60 * a) + i) + (3 * k)))))], [.int (ei_ (1))], m1)) rfl ?_
                              refine pw_ifF rfl (by decide) (show ¬ (1 = 0) by decide) ?_
                              refine pw_steps 4 (s' := (181, [some (.ref 47), some (.int (ei_ (a))), some (.int (ei_ (i))), some (.int (ei_ (n))), some (.int (ei_ (k))), some (.int (ei_ (1))), some (.int (ei_ ((((60 * a) + i) + (3 * k)))))], [.int (ei_ ((((60 * a) + i) + (3 * k)))), .ref 70, .ref 47], m1)) rfl ?_
                              refine pw_lld rfl rfl (by omega) (fun y83 (hy83 : y83 = vl_ m1 70 (((60 * a) + i) + (3 * k))) ry83 sy83 => ?_)
                              replace hy83 : y83 = vl_ m 70 (((60 * a) + i) + (3 * k)) := hy83.trans (congrFun (sm_l hs) _)
                              have b84 := (hb3 (by omega)) (((60 * a) + i) + (3 * k)) (by omega) (by omega)
                              refine pw_steps 6 (s' := (191, [some (.ref 47), some (.int (ei_ (a))), some (.int (ei_ (i))), some (.int (ei_ (n))), some (.int (ei_ (k))), some (.int (ei_ (1))), some (.int (ei_ ((((60 * a) + i) + (3 * k)))))], [.int ((ei_ ((((60 * a) + i) + (3 * k)))) + (ei_ (1))), .ref 70, .int ((el_ (y83)).toInt32), .ref 47], m1)) rfl ?_
                              refine pw_cv (congrArg (fun z_ : Int32 => ((191, [some (.ref 47), some (.int (ei_ (a))), some (.int (ei_ (i))), some (.int (ei_ (n))), some (.int (ei_ (k))), some (.int (ei_ (1))), some (.int (ei_ ((((60 * a) + i) + (3 * k)))))], [.int z_, .ref 70, .int ((el_ (y83)).toInt32), .ref 47], m1) : am_S)) (ei_add rfl rfl)) ?_
                              refine pw_cv (congrArg (fun z_ : Int32 => ((191, [some (.ref 47), some (.int (ei_ (a))), some (.int (ei_ (i))), some (.int (ei_ (n))), some (.int (ei_ (k))), some (.int (ei_ (1))), some (.int (ei_ ((((60 * a) + i) + (3 * k)))))], [.int (ei_ (((((60 * a) + i) + (3 * k)) + 1))), .ref 70, .int z_, .ref 47], m1) : am_S)) (ei_l2i rfl)) ?_
                              refine pw_lld rfl rfl (by omega) (fun y85 (hy85 : y85 = vl_ m1 70 ((((60 * a) + i) + (3 * k)) + 1)) ry85 sy85 => ?_)
                              replace hy85 : y85 = vl_ m 70 ((((60 * a) + i) + (3 * k)) + 1) := hy85.trans (congrFun (sm_l hs) _)
                              have b86 := (hb3 (by omega)) ((((60 * a) + i) + (3 * k)) + 1) (by omega) (by omega)
                              refine pw_steps 6 (s' := (201, [some (.ref 47), some (.int (ei_ (a))), some (.int (ei_ (i))), some (.int (ei_ (n))), some (.int (ei_ (k))), some (.int (ei_ (1))), some (.int (ei_ ((((60 * a) + i) + (3 * k)))))], [.int ((ei_ ((((60 * a) + i) + (3 * k)))) + (ei_ (2))), .ref 70, .int ((el_ (y85)).toInt32), .int (ei_ (y83)), .ref 47], m1)) rfl ?_
                              refine pw_cv (congrArg (fun z_ : Int32 => ((201, [some (.ref 47), some (.int (ei_ (a))), some (.int (ei_ (i))), some (.int (ei_ (n))), some (.int (ei_ (k))), some (.int (ei_ (1))), some (.int (ei_ ((((60 * a) + i) + (3 * k)))))], [.int z_, .ref 70, .int ((el_ (y85)).toInt32), .int (ei_ (y83)), .ref 47], m1) : am_S)) (ei_add rfl rfl)) ?_
                              refine pw_cv (congrArg (fun z_ : Int32 => ((201, [some (.ref 47), some (.int (ei_ (a))), some (.int (ei_ (i))), some (.int (ei_ (n))), some (.int (ei_ (k))), some (.int (ei_ (1))), some (.int (ei_ ((((60 * a) + i) + (3 * k)))))], [.int (ei_ (((((60 * a) + i) + (3 * k)) + 2))), .ref 70, .int z_, .int (ei_ (y83)), .ref 47], m1) : am_S)) (ei_l2i rfl)) ?_
                              refine pw_lld rfl rfl (by omega) (fun y87 (hy87 : y87 = vl_ m1 70 ((((60 * a) + i) + (3 * k)) + 2)) ry87 sy87 => ?_)
                              replace hy87 : y87 = vl_ m 70 ((((60 * a) + i) + (3 * k)) + 2) := hy87.trans (congrFun (sm_l hs) _)
                              have b88 := (hb3 (by omega)) ((((60 * a) + i) + (3 * k)) + 2) (by omega) (by omega)
                              refine pw_steps 1 (s' := (203, [some (.ref 47), some (.int (ei_ (a))), some (.int (ei_ (i))), some (.int (ei_ (n))), some (.int (ei_ (k))), some (.int (ei_ (1))), some (.int (ei_ ((((60 * a) + i) + (3 * k)))))], [.int ((el_ (y87)).toInt32), .int (ei_ (y85)), .int (ei_ (y83)), .ref 47], m1)) rfl ?_
                              refine pw_cv (congrArg (fun z_ : Int32 => ((203, [some (.ref 47), some (.int (ei_ (a))), some (.int (ei_ (i))), some (.int (ei_ (n))), some (.int (ei_ (k))), some (.int (ei_ (1))), some (.int (ei_ ((((60 * a) + i) + (3 * k)))))], [.int z_, .int (ei_ (y85)), .int (ei_ (y83)), .ref 47], m1) : am_S)) (ei_l2i rfl)) ?_
                              refine pw_call (As := [.int (ei_ (y83)), .int (ei_ (y85)), .int (ei_ (y87))]) (st := []) (k := 47) rfl rfl rfl rfl rfl (Nat.le_of_ble_eq_true rfl) ?_
                              refine pw_intro (I := iX9_adds) (T := tX9_adds) rfl rfl rfl ?_
                              refine pw_steps 3 (s' := (5, [some (.ref 47), some (.int (ei_ (y83))), some (.int (ei_ (y85))), some (.int (ei_ (y87)))], [.ref 47, .ref 48], m1)) rfl ?_
                              refine pw_get rfl rfl (fun x89 (hx89 : x89 = vi_ m1 47 6) rx89 sx89 => ?_)
                              replace hx89 : x89 = P + k := hx89.trans h11
                              subst x89
                              refine pw_steps 1 (s' := (9, [some (.ref 47), some (.int (ei_ (y83))), some (.int (ei_ (y85))), some (.int (ei_ (y87)))], [.int (ei_ (y83)), .int (ei_ (P + k)), .ref 48], m1)) rfl ?_
                              refine pw_ist rfl rfl (by omega) ?_
                              refine pw_steps 4 (s' := (17, [some (.ref 47), some (.int (ei_ (y83))), some (.int (ei_ (y85))), some (.int (ei_ (y87)))], [.ref 47, .int (ei_ (8)), .ref 48], wi_ m1 48 (P + k) (y83))) rfl ?_
                              refine pw_get rfl rfl (fun x90 (hx90 : x90 = vi_ m1 47 6) rx90 sx90 => ?_)
                              replace hx90 : x90 = P + k := hx90.trans h11
                              subst x90
                              refine pw_steps 2 (s' := (22, [some (.ref 47), some (.int (ei_ (y83))), some (.int (ei_ (y85))), some (.int (ei_ (y87)))], [.int (ei_ (y85)), .int ((ei_ (8)) + (ei_ (P + k))), .ref 48], wi_ m1 48 (P + k) (y83))) rfl ?_
                              refine pw_cv (congrArg (fun z_ : Int32 => ((22, [some (.ref 47), some (.int (ei_ (y83))), some (.int (ei_ (y85))), some (.int (ei_ (y87)))], [.int (ei_ (y85)), .int z_, .ref 48], wi_ m1 48 (P + k) (y83)) : am_S)) (ei_add rfl rfl)) ?_
                              refine pw_ist rfl rfl (by omega) ?_
                              refine pw_steps 4 (s' := (30, [some (.ref 47), some (.int (ei_ (y83))), some (.int (ei_ (y85))), some (.int (ei_ (y87)))], [.ref 47, .int (ei_ (16)), .ref 48], wi_ (wi_ m1 48 (P + k) (y83)) 48 ((8 + (P + k))) (y85))) rfl ?_
                              refine pw_get rfl rfl (fun x91 (hx91 : x91 = vi_ m1 47 6) rx91 sx91 => ?_)
                              replace hx91 : x91 = P + k := hx91.trans h11
                              subst x91
                              refine pw_steps 2 (s' := (35, [some (.ref 47), some (.int (ei_ (y83))), some (.int (ei_ (y85))), some (.int (ei_ (y87)))], [.int (ei_ (y87)), .int ((ei_ (16)) + (ei_ (P + k))), .ref 48], wi_ (wi_ m1 48 (P + k) (y83)) 48 ((8 + (P + k))) (y85))) rfl ?_
                              refine pw_cv (congrArg (fun z_ : Int32 => ((35, [some (.ref 47), some (.int (ei_ (y83))), some (.int (ei_ (y85))), some (.int (ei_ (y87)))], [.int (ei_ (y87)), .int z_, .ref 48], wi_ (wi_ m1 48 (P + k) (y83)) 48 ((8 + (P + k))) (y85)) : am_S)) (ei_add rfl rfl)) ?_
                              refine pw_ist rfl rfl (by omega) ?_
                              refine pw_steps 4 (s' := (43, [some (.ref 47), some (.int (ei_ (y83))), some (.int (ei_ (y85))), some (.int (ei_ (y87)))], [.ref 47, .int (ei_ (24)), .ref 48], wi_ (wi_ (wi_ m1 48 (P + k) (y83)) 48 ((8 + (P + k))) (y85)) 48 ((16 + (P + k))) (y87))) rfl ?_
                              refine pw_get rfl rfl (fun x92 (hx92 : x92 = vi_ m1 47 6) rx92 sx92 => ?_)
                              replace hx92 : x92 = P + k := hx92.trans h11
                              subst x92
                              refine pw_steps 2 (s' := (48, [some (.ref 47), some (.int (ei_ (y83))), some (.int (ei_ (y85))), some (.int (ei_ (y87)))], [.int (ei_ (0)), .int ((ei_ (24)) + (ei_ (P + k))), .ref 48], wi_ (wi_ (wi_ m1 48 (P + k) (y83)) 48 ((8 + (P + k))) (y85)) 48 ((16 + (P + k))) (y87))) rfl ?_
                              refine pw_cv (congrArg (fun z_ : Int32 => ((48, [some (.ref 47), some (.int (ei_ (y83))), some (.int (ei_ (y85))), some (.int (ei_ (y87)))], [.int (ei_ (0)), .int z_, .ref 48], wi_ (wi_ (wi_ m1 48 (P + k) (y83)) 48 ((8 + (P + k))) (y85)) 48 ((16 + (P + k))) (y87)) : am_S)) (ei_add rfl rfl)) ?_
                              refine pw_ist rfl rfl (by omega) ?_
                              refine pw_steps 3 (s' := (54, [some (.ref 47), some (.int (ei_ (y83))), some (.int (ei_ (y85))), some (.int (ei_ (y87)))], [.ref 47, .ref 52], wi_ (wi_ (wi_ (wi_ m1 48 (P + k) (y83)) 48 ((8 + (P + k))) (y85)) 48 ((16 + (P + k))) (y87)) 48 ((24 + (P + k))) (0))) rfl ?_
                              refine pw_get rfl rfl (fun x93 (hx93 : x93 = vi_ m1 47 6) rx93 sx93 => ?_)
                              replace hx93 : x93 = P + k := hx93.trans h11
                              subst x93
                              refine pw_steps 1 (s' := (58, [some (.ref 47), some (.int (ei_ (y83))), some (.int (ei_ (y85))), some (.int (ei_ (y87)))], [.ref 47, .int (ei_ (P + k)), .ref 52], wi_ (wi_ (wi_ (wi_ m1 48 (P + k) (y83)) 48 ((8 + (P + k))) (y85)) 48 ((16 + (P + k))) (y87)) 48 ((24 + (P + k))) (0))) rfl ?_
                              refine pw_get rfl rfl (fun x94 (hx94 : x94 = vi_ m1 47 6) rx94 sx94 => ?_)
                              replace hx94 : x94 = P + k := hx94.trans h11
                              subst x94
                              refine pw_ist rfl rfl (by omega) ?_
                              refine pw_steps 3 (s' := (67, [some (.ref 47), some (.int (ei_ (y83))), some (.int (ei_ (y85))), some (.int (ei_ (y87)))], [.ref 47, .ref 53], wi_ (wi_ (wi_ (wi_ (wi_ m1 48 (P + k) (y83)) 48 ((8 + (P + k))) (y85)) 48 ((16 + (P + k))) (y87)) 48 ((24 + (P + k))) (0)) 52 (P + k) (P + k))) rfl ?_
                              refine pw_get rfl rfl (fun x95 (hx95 : x95 = vi_ m1 47 6) rx95 sx95 => ?_)
                              replace hx95 : x95 = P + k := hx95.trans h11
                              subst x95
                              refine pw_steps 1 (s' := (72, [some (.ref 47), some (.int (ei_ (y83))), some (.int (ei_ (y85))), some (.int (ei_ (y87)))], [.int (ei_ (100)), .int (ei_ (P + k)), .ref 53], wi_ (wi_ (wi_ (wi_ (wi_ m1 48 (P + k) (y83)) 48 ((8 + (P + k))) (y85)) 48 ((16 + (P + k))) (y87)) 48 ((24 + (P + k))) (0)) 52 (P + k) (P + k))) rfl ?_
                              refine pw_ist rfl rfl (by omega) ?_
                              refine pw_steps 2 (s' := (75, [some (.ref 47), some (.int (ei_ (y83))), some (.int (ei_ (y85))), some (.int (ei_ (y87)))], [.ref 47, .ref 47], wi_ (wi_ (wi_ (wi_ (wi_ (wi_ m1 48 (P + k) (y83)) 48 ((8 + (P + k))) (y85)) 48 ((16 + (P + k))) (y87)) 48 ((24 + (P + k))) (0)) 52 (P + k) (P + k)) 53 (P + k) (100))) rfl ?_
                              refine pw_get rfl rfl (fun x96 (hx96 : x96 = vi_ m1 47 6) rx96 sx96 => ?_)
                              replace hx96 : x96 = P + k := hx96.trans h11
                              subst x96
                              refine pw_steps 2 (s' := (80, [some (.ref 47), some (.int (ei_ (y83))), some (.int (ei_ (y85))), some (.int (ei_ (y87)))], [.int ((ei_ (P + k)) + (ei_ (1))), .ref 47], wi_ (wi_ (wi_ (wi_ (wi_ (wi_ m1 48 (P + k) (y83)) 48 ((8 + (P + k))) (y85)) 48 ((16 + (P + k))) (y87)) 48 ((24 + (P + k))) (0)) 52 (P + k) (P + k)) 53 (P + k) (100))) rfl ?_
                              refine pw_cv (congrArg (fun z_ : Int32 => ((80, [some (.ref 47), some (.int (ei_ (y83))), some (.int (ei_ (y85))), some (.int (ei_ (y87)))], [.int z_, .ref 47], wi_ (wi_ (wi_ (wi_ (wi_ (wi_ m1 48 (P + k) (y83)) 48 ((8 + (P + k))) (y85)) 48 ((16 + (P + k))) (y87)) 48 ((24 + (P + k))) (0)) 52 (P + k) (P + k)) 53 (P + k) (100)) : am_S)) (ei_add rfl rfl)) ?_
                              refine pw_put (v := ((P + k) + 1)) rfl rfl (Or.inl rfl) ?_
                              refine pw_cv (s' := (83, [some (.ref 47), some (.int (ei_ (y83))), some (.int (ei_ (y85))), some (.int (ei_ (y87)))], [], wi_ (wi_ (wi_ (wi_ (wi_ (wi_ (wi_ m1 48 (P + k) (y83)) 48 ((8 + (P + k))) (y85)) 48 ((16 + (P + k))) (y87)) 48 ((24 + (P + k))) (0)) 52 (P + k) (P + k)) 53 (P + k) (100)) 47 (6) (((P + k) + 1)))) rfl ?_
                              refine pw_vret rfl rfl ?_
                              refine pw_steps 2 (s' := (69, [some (.ref 47), some (.int (ei_ (a))), some (.int (ei_ (i))), some (.int (ei_ (n))), some (.int ((ei_ (k)) + (ei_ (1)))), some (.int (ei_ (1))), some (.int (ei_ ((((60 * a) + i) + (3 * k)))))], [], wi_ (wi_ (wi_ (wi_ (wi_ (wi_ (wi_ m1 48 (P + k) (y83)) 48 ((8 + (P + k))) (y85)) 48 ((16 + (P + k))) (y87)) 48 ((24 + (P + k))) (0)) 52 (P + k) (P + k)) 53 (P + k) (100)) 47 (6) (((P + k) + 1)))) rfl ?_
                              refine pw_cv (congrArg (fun z_ : Int32 => ((69, [some (.ref 47), some (.int (ei_ (a))), some (.int (ei_ (i))), some (.int (ei_ (n))), some (.int z_), some (.int (ei_ (1))), some (.int (ei_ ((((60 * a) + i) + (3 * k)))))], [], wi_ (wi_ (wi_ (wi_ (wi_ (wi_ (wi_ m1 48 (P + k) (y83)) 48 ((8 + (P + k))) (y85)) 48 ((16 + (P + k))) (y87)) 48 ((24 + (P + k))) (0)) 52 (P + k) (P + k)) 53 (P + k) (100)) 47 (6) (((P + k) + 1))) : am_S)) (ei_add rfl rfl)) ?_
                              exact ih57 _ (by omega) (k + 1) 1 (some (.int (ei_ ((((60 * a) + i) + (3 * k)))))) (wi_ (wi_ (wi_ (wi_ (wi_ (wi_ (wi_ m1 48 (P + k) (y83)) 48 ((8 + (P + k))) (y85)) 48 ((16 + (P + k))) (y87)) 48 ((24 + (P + k))) (0)) 52 (P + k) (P + k)) 53 (P + k) (100)) 47 (6) (((P + k) + 1))) rfl (by omega) ((sm_w (sm_w (sm_w (sm_w (sm_w (sm_w (sm_w hs (fun _ h_ => by rw [h_]; rfl)) (fun _ h_ => by rw [h_]; rfl)) (fun _ h_ => by rw [h_]; rfl)) (fun _ h_ => by rw [h_]; rfl)) (fun _ h_ => by rw [h_]; rfl)) (fun _ h_ => by rw [h_]; rfl)) (fun _ h_ => by rw [h_]; rfl))) (by refine ((ei_i (by omega))).trans (by omega)) (by refine pe_s hg ?_; subst hy65; subst hy67; subst hy69; subst hy83; subst hy85; subst hy87; unfold gM_; omega) (by intro h_; omega) (by intro j a_ b_; (simp (disch := omega) only [vi_up, vi_ne]); rw [if_neg (by omega)]; rw [if_neg (by omega)]; rw [if_neg (by omega)]; by_cases e_ : j = k; (rw [if_pos (by omega), e_]; exact hy83); (rw [if_neg (by omega)]; exact hS j a_ (by omega))) (by intro j a_ b_; (simp (disch := omega) only [vi_up, vi_ne]); rw [if_neg (by omega)]; rw [if_neg (by omega)]; by_cases e_ : j = k; (rw [if_pos (by omega), e_]; exact hy85); (rw [if_neg (by omega)]; rw [if_neg (by omega)]; exact hO j a_ (by omega))) (by intro j a_ b_; (simp (disch := omega) only [vi_up, vi_ne]); rw [if_neg (by omega)]; by_cases e_ : j = k; (rw [if_pos (by omega), e_]; exact hy87); (rw [if_neg (by omega)]; rw [if_neg (by omega)]; rw [if_neg (by omega)]; exact hC j a_ (by omega))) (by intro j a_ b_; (simp (disch := omega) only [vi_up, vi_ne]); by_cases e_ : j = k; (rw [if_pos (by omega)]); (rw [if_neg (by omega), if_neg (by omega), if_neg (by omega), if_neg (by omega)]; exact hH j a_ (by omega))) (by intro j a_ b_ c_ d_ e_; (simp (disch := omega) only [vi_up, vi_ne]); rw [if_neg (by omega), if_neg (by omega), if_neg (by omega), if_neg (by omega)]; exact hN j a_ (by omega) (by omega) (by omega) (by omega)) (by intro j a_ b_; (simp (disch := omega) only [vi_up, vi_ne]); by_cases e_ : j = k; (rw [if_pos (by omega)]; (try rw [e_])); (rw [if_neg (by omega)]; exact h52 j a_ (by omega))) (by intro j a_ b_; (simp (disch := omega) only [vi_up, vi_ne]); rw [if_neg (by omega)]; exact n52 j a_ b_) (by intro j a_ b_; (simp (disch := omega) only [vi_up, vi_ne]); by_cases e_ : j = k; (rw [if_pos (by omega)]; (try rw [e_])); (rw [if_neg (by omega)]; exact h53 j a_ (by omega))) (by intro j a_ b_; (simp (disch := omega) only [vi_up, vi_ne]); rw [if_neg (by omega)]; exact n53 j a_ b_)
                            · refine pw_ifT rfl (by decide) (show 0 = 0 by decide) ?_
                              refine pw_steps 1 (s' := (39, [some (.long (el_ (y65))), none, some (.long (el_ (y67))), none, some (.long (el_ (y69))), none], [.int (ei_ (0))], m1)) rfl ?_
                              refine pw_iret rfl rfl rfl ?_
                              refine pw_ifT rfl (by decide) (show 0 = 0 by decide) ?_
                              refine pw_steps 3 (s' := (171, [some (.ref 47), some (.int (ei_ (a))), some (.int (ei_ (i))), some (.int (ei_ (n))), some (.int (ei_ (k))), some (.int (ei_ (0))), some (.int (ei_ ((((60 * a) + i) + (3 * k)))))], [.int (ei_ (0))], m1)) rfl ?_
                              refine pw_ifT rfl (by decide) (show 0 = 0 by decide) ?_
                              refine pw_steps 1 (s' := (69, [some (.ref 47), some (.int (ei_ (a))), some (.int (ei_ (i))), some (.int (ei_ (n))), some (.int (ei_ (k))), some (.int (ei_ (0))), some (.int (ei_ ((((60 * a) + i) + (3 * k)))))], [], m1)) rfl ?_
                              exact ih57 _ (by omega) k 0 (some (.int (ei_ ((((60 * a) + i) + (3 * k)))))) m1 rfl (by omega) (hs) (by refine (h11).trans (by omega)) (by exact hg) (by intro _; subst hy65; subst hy67; subst hy69; unfold gM_; omega) (by exact hS) (by exact hO) (by exact hC) (by exact hH) (by exact hN) (by exact h52) (by exact n52) (by exact h53) (by exact n53)
                            · refine pw_ifT rfl (by decide) (show 0 = 0 by decide) ?_
                              refine pw_steps 1 (s' := (39, [some (.long (el_ (y65))), none, some (.long (el_ (y67))), none, some (.long (el_ (y69))), none], [.int (ei_ (0))], m1)) rfl ?_
                              refine pw_iret rfl rfl rfl ?_
                              refine pw_ifT rfl (by decide) (show 0 = 0 by decide) ?_
                              refine pw_steps 3 (s' := (171, [some (.ref 47), some (.int (ei_ (a))), some (.int (ei_ (i))), some (.int (ei_ (n))), some (.int (ei_ (k))), some (.int (ei_ (0))), some (.int (ei_ ((((60 * a) + i) + (3 * k)))))], [.int (ei_ (0))], m1)) rfl ?_
                              refine pw_ifT rfl (by decide) (show 0 = 0 by decide) ?_
                              refine pw_steps 1 (s' := (69, [some (.ref 47), some (.int (ei_ (a))), some (.int (ei_ (i))), some (.int (ei_ (n))), some (.int (ei_ (k))), some (.int (ei_ (0))), some (.int (ei_ ((((60 * a) + i) + (3 * k)))))], [], m1)) rfl ?_
                              exact ih57 _ (by omega) k 0 (some (.int (ei_ ((((60 * a) + i) + (3 * k)))))) m1 rfl (by omega) (hs) (by refine (h11).trans (by omega)) (by exact hg) (by intro _; subst hy65; subst hy67; subst hy69; unfold gM_; omega) (by exact hS) (by exact hO) (by exact hC) (by exact hH) (by exact hN) (by exact h52) (by exact n52) (by exact h53) (by exact n53)
                          · refine pw_ifT rfl (by decide) (show 0 = 0 by decide) ?_
                            refine pw_steps 1 (s' := (39, [some (.long (el_ (y65))), none, some (.long (el_ (y67))), none, some (.long (el_ (y69))), none], [.int (ei_ (0))], m1)) rfl ?_
                            refine pw_iret rfl rfl rfl ?_
                            refine pw_ifT rfl (by decide) (show 0 = 0 by decide) ?_
                            refine pw_steps 3 (s' := (171, [some (.ref 47), some (.int (ei_ (a))), some (.int (ei_ (i))), some (.int (ei_ (n))), some (.int (ei_ (k))), some (.int (ei_ (0))), some (.int (ei_ ((((60 * a) + i) + (3 * k)))))], [.int (ei_ (0))], m1)) rfl ?_
                            refine pw_ifT rfl (by decide) (show 0 = 0 by decide) ?_
                            refine pw_steps 1 (s' := (69, [some (.ref 47), some (.int (ei_ (a))), some (.int (ei_ (i))), some (.int (ei_ (n))), some (.int (ei_ (k))), some (.int (ei_ (0))), some (.int (ei_ ((((60 * a) + i) + (3 * k)))))], [], m1)) rfl ?_
                            exact ih57 _ (by omega) k 0 (some (.int (ei_ ((((60 * a) + i) + (3 * k)))))) m1 rfl (by omega) (hs) (by refine (h11).trans (by omega)) (by exact hg) (by intro _; subst hy65; subst hy67; subst hy69; unfold gM_; omega) (by exact hS) (by exact hO) (by exact hC) (by exact hH) (by exact hN) (by exact h52) (by exact n52) (by exact h53) (by exact n53)
                          · refine pw_ifT rfl (by decide) (show 0 = 0 by decide) ?_
                            refine pw_steps 1 (s' := (39, [some (.long (el_ (y65))), none, some (.long (el_ (y67))), none, some (.long (el_ (y69))), none], [.int (ei_ (0))], m1)) rfl ?_
                            refine pw_iret rfl rfl rfl ?_
                            refine pw_ifT rfl (by decide) (show 0 = 0 by decide) ?_
                            refine pw_steps 3 (s' := (171, [some (.ref 47), some (.int (ei_ (a))), some (.int (ei_ (i))), some (.int (ei_ (n))), some (.int (ei_ (k))), some (.int (ei_ (0))), some (.int (ei_ ((((60 * a) + i) + (3 * k)))))], [.int (ei_ (0))], m1)) rfl ?_
                            refine pw_ifT rfl (by decide) (show 0 = 0 by decide) ?_
                            refine pw_steps 1 (s' := (69, [some (.ref 47), some (.int (ei_ (a))), some (.int (ei_ (i))), some (.int (ei_ (n))), some (.int (ei_ (k))), some (.int (ei_ (0))), some (.int (ei_ ((((60 * a) + i) + (3 * k)))))], [], m1)) rfl ?_
                            exact ih57 _ (by omega) k 0 (some (.int (ei_ ((((60 * a) + i) + (3 * k)))))) m1 rfl (by omega) (hs) (by refine (h11).trans (by omega)) (by exact hg) (by intro _; subst hy65; subst hy67; subst hy69; unfold gM_; omega) (by exact hS) (by exact hO) (by exact hC) (by exact hH) (by exact hN) (by exact h52) (by exact n52) (by exact h53) (by exact n53)
                        · refine pw_ifT rfl (by decide) (show 0 = 0 by decide) ?_
                          refine pw_steps 1 (s' := (39, [some (.long (el_ (y65))), none, some (.long (el_ (y67))), none, some (.long (el_ (y69))), none], [.int (ei_ (0))], m1)) rfl ?_
                          refine pw_iret rfl rfl rfl ?_
                          refine pw_ifT rfl (by decide) (show 0 = 0 by decide) ?_
                          refine pw_steps 3 (s' := (171, [some (.ref 47), some (.int (ei_ (a))), some (.int (ei_ (i))), some (.int (ei_ (n))), some (.int (ei_ (k))), some (.int (ei_ (0))), some (.int (ei_ ((((60 * a) + i) + (3 * k)))))], [.int (ei_ (0))], m1)) rfl ?_
                          refine pw_ifT rfl (by decide) (show 0 = 0 by decide) ?_
                          refine pw_steps 1 (s' := (69, [some (.ref 47), some (.int (ei_ (a))), some (.int (ei_ (i))), some (.int (ei_ (n))), some (.int (ei_ (k))), some (.int (ei_ (0))), some (.int (ei_ ((((60 * a) + i) + (3 * k)))))], [], m1)) rfl ?_
                          exact ih57 _ (by omega) k 0 (some (.int (ei_ ((((60 * a) + i) + (3 * k)))))) m1 rfl (by omega) (hs) (by refine (h11).trans (by omega)) (by exact hg) (by intro _; subst hy65; subst hy67; subst hy69; unfold gM_; omega) (by exact hS) (by exact hO) (by exact hC) (by exact hH) (by exact hN) (by exact h52) (by exact n52) (by exact h53) (by exact n53)
                        · refine pw_ifT rfl (by decide) (show 0 = 0 by decide) ?_
                          refine pw_steps 1 (s' := (39, [some (.long (el_ (y65))), none, some (.long (el_ (y67))), none, some (.long (el_ (y69))), none], [.int (ei_ (0))], m1)) rfl ?_
                          refine pw_iret rfl rfl rfl ?_
                          refine pw_ifT rfl (by decide) (show 0 = 0 by decide) ?_
                          refine pw_steps 3 (s' := (171, [some (.ref 47), some (.int (ei_ (a))), some (.int (ei_ (i))), some (.int (ei_ (n))), some (.int (ei_ (k))), some (.int (ei_ (0))), some (.int (ei_ ((((60 * a) + i) + (3 * k)))))], [.int (ei_ (0))], m1)) rfl ?_
                          refine pw_ifT rfl (by decide) (show 0 = 0 by decide) ?_
                          refine pw_steps 1 (s' := (69, [some (.ref 47), some (.int (ei_ (a))), some (.int (ei_ (i))), some (.int (ei_ (n))), some (.int (ei_ (k))), some (.int (ei_ (0))), some (.int (ei_ ((((60 * a) + i) + (3 * k)))))], [], m1)) rfl ?_
                          exact ih57 _ (by omega) k 0 (some (.int (ei_ ((((60 * a) + i) + (3 * k)))))) m1 rfl (by omega) (hs) (by refine (h11).trans (by omega)) (by exact hg) (by intro _; subst hy65; subst hy67; subst hy69; unfold gM_; omega) (by exact hS) (by exact hO) (by exact hC) (by exact hH) (by exact hN) (by exact h52) (by exact n52) (by exact h53) (by exact n53)
            exact L58 _ 0 0 none m rfl (by omega) ((sm_rfl m)) (by omega) (by intro j a_ b_; omega) (by intro h_; unfold gM_; omega) (by intro j a_ b_; omega) (by intro j a_ b_; omega) (by intro j a_ b_; omega) (by intro j a_ b_; omega) (by intro j _ _ _ _ _; rfl) (by intro j a_ b_; omega) (by intro j _ _; rfl) (by intro j a_ b_; omega) (by intro j _ _; rfl)
          · refine pw_steps 3 (s' := (69, [some (.ref 47), some (.int (ei_ (a))), some (.int (ei_ (i))), some (.int (ei_ (n))), some (.int (ei_ (0))), some (.int (ei_ (1))), none], [], m)) rfl ?_
            have L100 : ∀ (n98 : Nat) (k : Int) (g : Int) (u97 : Option Value) (m1 : am_M), (2 * (n - k) + g).toNat = n98 → (0 ≤ k ∧ k ≤ n ∧ P + k ≤ 8 ∧ 0 ≤ g ∧ g ≤ 1 ∧ (g = 0 ∨ (vi_ m 68 a = 50 ∧ 0 ≤ i)) ∧ (k = 0 ∨ i + 3 * k ≤ 60)) → (sm_ pAm m m1) → (vi_ m1 47 6 = P + k) → (∀ j, 0 ≤ j → j < k → gM_ m a i P j) → (g = 0 → ¬ gM_ m a i P k) → (∀ j, 0 ≤ j → j < k → vi_ m1 48 (P + j) = vl_ m 70 (60 * a + i + 3 * j)) → (∀ j, 0 ≤ j → j < k → vi_ m1 48 (8 + (P + j)) = vl_ m 70 (60 * a + i + 3 * j + 1)) → (∀ j, 0 ≤ j → j < k → vi_ m1 48 (16 + (P + j)) = vl_ m 70 (60 * a + i + 3 * j + 2)) → (∀ j, 0 ≤ j → j < k → vi_ m1 48 (24 + (P + j)) = 0) → (∀ j, 0 ≤ j → ¬ (P ≤ j ∧ j < P + k) → ¬ (8 + P ≤ j ∧ j < 8 + P + k) → ¬ (16 + P ≤ j ∧ j < 16 + P + k) → ¬ (24 + P ≤ j ∧ j < 24 + P + k) → vi_ m1 48 j = vi_ m 48 j) → (∀ j, 0 ≤ j → j < k → vi_ m1 52 (P + j) = P + j) → (∀ j, 0 ≤ j → j < P → vi_ m1 52 j = vi_ m 52 j) → (∀ j, 0 ≤ j → j < k → vi_ m1 53 (P + j) = 100) → (∀ j, 0 ≤ j → j < P → vi_ m1 53 j = vi_ m 53 j) → pw_V q (d + 59) iX9_people.2.2.2.1 tX9_people Q (69, [some (.ref 47), some (.int (ei_ (a))), some (.int (ei_ (i))), some (.int (ei_ (n))), some (.int (ei_ (k))), some (.int (ei_ (g))), u97], [], m1) := by
              intro n98
              induction n98 using Nat.strongRecOn with
              | _ n98 ih99 =>
                intro k g u97 m1 hm_n98 hk hs h11 hg hz hS hO hC hH hN h52 n52 h53 n53
                refine pw_steps 1 (s' := (71, [some (.ref 47), some (.int (ei_ (a))), some (.int (ei_ (i))), some (.int (ei_ (n))), some (.int (ei_ (k))), some (.int (ei_ (g))), u97], [.int (ei_ (g))], m1)) rfl ?_
                refine pw_if rfl (by omega) (fun (h101 : g = 0) => ?_) (fun (h101 : ¬ (g = 0)) => ?_)
                · refine pw_steps 1 (s' := (214, [some (.ref 47), some (.int (ei_ (a))), some (.int (ei_ (i))), some (.int (ei_ (n))), some (.int (ei_ (k))), some (.int (ei_ (g))), u97], [.int (ei_ (k))], m1)) rfl ?_
                  refine pw_iret rfl rfl rfl ?_
                  exact k2 k m1 (by omega) (by omega) ⟨by omega, hg, Or.inr (hz (by omega))⟩ hs h11 hS hO hC hH hN h52 n52 h53 n53
                · refine pw_steps 2 (s' := (77, [some (.ref 47), some (.int (ei_ (a))), some (.int (ei_ (i))), some (.int (ei_ (n))), some (.int (ei_ (k))), some (.int (ei_ (g))), u97], [.int (ei_ (n)), .int (ei_ (k))], m1)) rfl ?_
                  refine pw_cmp rfl (by omega) p6 (fun (h102 : n ≤ k) => ?_) (fun (h102 : ¬ (n ≤ k)) => ?_)
                  · refine pw_steps 1 (s' := (214, [some (.ref 47), some (.int (ei_ (a))), some (.int (ei_ (i))), some (.int (ei_ (n))), some (.int (ei_ (k))), some (.int (ei_ (g))), u97], [.int (ei_ (k))], m1)) rfl ?_
                    refine pw_iret rfl rfl rfl ?_
                    exact k2 k m1 (by omega) (by omega) ⟨by omega, hg, Or.inl (by omega)⟩ hs h11 hS hO hC hH hN h52 n52 h53 n53
                  · refine pw_steps 4 (s' := (86, [some (.ref 47), some (.int (ei_ (a))), some (.int (ei_ (i))), some (.int (ei_ (n))), some (.int (ei_ (k))), some (.int (ei_ (g))), u97], [.int (ei_ (a)), .ref 69, .int (ei_ (i))], m1)) rfl ?_
                    refine pw_ild rfl rfl (by omega) (fun x103 (hx103 : x103 = vi_ m1 69 a) rx103 sx103 => ?_)
                    have ox103 := hx103
                    replace hx103 : x103 = vi_ m 69 a := hx103.trans (sm_v hs rfl)
                    refine pw_steps 6 (s' := (94, [some (.ref 47), some (.int (ei_ (a))), some (.int (ei_ (i))), some (.int (ei_ (n))), some (.int (ei_ (k))), some (.int (ei_ (g))), u97], [.int (((ei_ (x103)) - (ei_ (3))) - ((ei_ (3)) * (ei_ (k)))), .int (ei_ (i))], m1)) rfl ?_
                    refine pw_cv (congrArg (fun z_ : Int32 => ((94, [some (.ref 47), some (.int (ei_ (a))), some (.int (ei_ (i))), some (.int (ei_ (n))), some (.int (ei_ (k))), some (.int (ei_ (g))), u97], [.int z_, .int (ei_ (i))], m1) : am_S)) (ei_sub (ei_sub rfl rfl) (ei_mul rfl rfl))) ?_
                    refine pw_cmp rfl p5 (by omega) (fun (h104 : ((x103 - 3) - (3 * k)) < i) => ?_) (fun (h104 : ¬ (((x103 - 3) - (3 * k)) < i)) => ?_)
                    · refine pw_steps 13 (s' := (128, [some (.ref 47), some (.int (ei_ (a))), some (.int (ei_ (i))), some (.int (ei_ (n))), some (.int (ei_ (k))), some (.int (ei_ (0))), some (.int ((((ei_ (60)) * (ei_ (a))) + (ei_ (i))) + ((ei_ (3)) * (ei_ (k)))))], [.int (ei_ (0))], m1)) rfl ?_
                      refine pw_cv (congrArg (fun z_ : Int32 => ((128, [some (.ref 47), some (.int (ei_ (a))), some (.int (ei_ (i))), some (.int (ei_ (n))), some (.int (ei_ (k))), some (.int (ei_ (0))), some (.int z_)], [.int (ei_ (0))], m1) : am_S)) (ei_add (ei_add (ei_mul rfl rfl) rfl) (ei_mul rfl rfl))) ?_
                      refine pw_ifT rfl (by decide) (show 0 = 0 by decide) ?_
                      refine pw_steps 3 (s' := (171, [some (.ref 47), some (.int (ei_ (a))), some (.int (ei_ (i))), some (.int (ei_ (n))), some (.int (ei_ (k))), some (.int (ei_ (0))), some (.int (ei_ ((((60 * a) + i) + (3 * k)))))], [.int (ei_ (0))], m1)) rfl ?_
                      refine pw_ifT rfl (by decide) (show 0 = 0 by decide) ?_
                      refine pw_steps 1 (s' := (69, [some (.ref 47), some (.int (ei_ (a))), some (.int (ei_ (i))), some (.int (ei_ (n))), some (.int (ei_ (k))), some (.int (ei_ (0))), some (.int (ei_ ((((60 * a) + i) + (3 * k)))))], [], m1)) rfl ?_
                      exact ih99 _ (by omega) k 0 (some (.int (ei_ ((((60 * a) + i) + (3 * k)))))) m1 rfl (by omega) (hs) (by refine (h11).trans (by omega)) (by exact hg) (by intro _; unfold gM_; omega) (by exact hS) (by exact hO) (by exact hC) (by exact hH) (by exact hN) (by exact h52) (by exact n52) (by exact h53) (by exact n53)
                    · refine pw_steps 1 (s' := (98, [some (.ref 47), some (.int (ei_ (a))), some (.int (ei_ (i))), some (.int (ei_ (n))), some (.int (ei_ (k))), some (.int (ei_ (g))), u97], [.ref 47], m1)) rfl ?_
                      refine pw_get rfl rfl (fun x105 (hx105 : x105 = vi_ m1 47 6) rx105 sx105 => ?_)
                      replace hx105 : x105 = P + k := hx105.trans h11
                      subst x105
                      refine pw_steps 1 (s' := (103, [some (.ref 47), some (.int (ei_ (a))), some (.int (ei_ (i))), some (.int (ei_ (n))), some (.int (ei_ (k))), some (.int (ei_ (g))), u97], [.int (ei_ (8)), .int (ei_ (P + k))], m1)) rfl ?_
                      refine pw_cmp rfl ⟨rx105, sx105⟩ (by decide) (fun (h106 : 8 ≤ P + k) => ?_) (fun (h106 : ¬ (8 ≤ P + k)) => ?_)
                      · refine pw_steps 13 (s' := (128, [some (.ref 47), some (.int (ei_ (a))), some (.int (ei_ (i))), some (.int (ei_ (n))), some (.int (ei_ (k))), some (.int (ei_ (0))), some (.int ((((ei_ (60)) * (ei_ (a))) + (ei_ (i))) + ((ei_ (3)) * (ei_ (k)))))], [.int (ei_ (0))], m1)) rfl ?_
                        refine pw_cv (congrArg (fun z_ : Int32 => ((128, [some (.ref 47), some (.int (ei_ (a))), some (.int (ei_ (i))), some (.int (ei_ (n))), some (.int (ei_ (k))), some (.int (ei_ (0))), some (.int z_)], [.int (ei_ (0))], m1) : am_S)) (ei_add (ei_add (ei_mul rfl rfl) rfl) (ei_mul rfl rfl))) ?_
                        refine pw_ifT rfl (by decide) (show 0 = 0 by decide) ?_
                        refine pw_steps 3 (s' := (171, [some (.ref 47), some (.int (ei_ (a))), some (.int (ei_ (i))), some (.int (ei_ (n))), some (.int (ei_ (k))), some (.int (ei_ (0))), some (.int (ei_ ((((60 * a) + i) + (3 * k)))))], [.int (ei_ (0))], m1)) rfl ?_
                        refine pw_ifT rfl (by decide) (show 0 = 0 by decide) ?_
                        refine pw_steps 1 (s' := (69, [some (.ref 47), some (.int (ei_ (a))), some (.int (ei_ (i))), some (.int (ei_ (n))), some (.int (ei_ (k))), some (.int (ei_ (0))), some (.int (ei_ ((((60 * a) + i) + (3 * k)))))], [], m1)) rfl ?_
                        exact ih99 _ (by omega) k 0 (some (.int (ei_ ((((60 * a) + i) + (3 * k)))))) m1 rfl (by omega) (hs) (by refine (h11).trans (by omega)) (by exact hg) (by intro _; unfold gM_; omega) (by exact hS) (by exact hO) (by exact hC) (by exact hH) (by exact hN) (by exact h52) (by exact n52) (by exact h53) (by exact n53)
                      · refine pw_steps 14 (s' := (128, [some (.ref 47), some (.int (ei_ (a))), some (.int (ei_ (i))), some (.int (ei_ (n))), some (.int (ei_ (k))), some (.int (ei_ (1))), some (.int ((((ei_ (60)) * (ei_ (a))) + (ei_ (i))) + ((ei_ (3)) * (ei_ (k)))))], [.int (ei_ (1))], m1)) rfl ?_
                        refine pw_cv (congrArg (fun z_ : Int32 => ((128, [some (.ref 47), some (.int (ei_ (a))), some (.int (ei_ (i))), some (.int (ei_ (n))), some (.int (ei_ (k))), some (.int (ei_ (1))), some (.int z_)], [.int (ei_ (1))], m1) : am_S)) (ei_add (ei_add (ei_mul rfl rfl) rfl) (ei_mul rfl rfl))) ?_
                        refine pw_ifF rfl (by decide) (show ¬ (1 = 0) by decide) ?_
                        refine pw_steps 3 (s' := (137, [some (.ref 47), some (.int (ei_ (a))), some (.int (ei_ (i))), some (.int (ei_ (n))), some (.int (ei_ (k))), some (.int (ei_ (1))), some (.int (ei_ ((((60 * a) + i) + (3 * k)))))], [.int (ei_ ((((60 * a) + i) + (3 * k)))), .ref 70], m1)) rfl ?_
                        refine pw_lld rfl rfl (by omega) (fun y107 (hy107 : y107 = vl_ m1 70 (((60 * a) + i) + (3 * k))) ry107 sy107 => ?_)
                        replace hy107 : y107 = vl_ m 70 (((60 * a) + i) + (3 * k)) := hy107.trans (congrFun (sm_l hs) _)
                        have b108 := (hb3 (by omega)) (((60 * a) + i) + (3 * k)) (by omega) (by omega)
                        refine pw_steps 5 (s' := (146, [some (.ref 47), some (.int (ei_ (a))), some (.int (ei_ (i))), some (.int (ei_ (n))), some (.int (ei_ (k))), some (.int (ei_ (1))), some (.int (ei_ ((((60 * a) + i) + (3 * k)))))], [.int ((ei_ ((((60 * a) + i) + (3 * k)))) + (ei_ (1))), .ref 70, .long (el_ (y107))], m1)) rfl ?_
                        refine pw_cv (congrArg (fun z_ : Int32 => ((146, [some (.ref 47), some (.int (ei_ (a))), some (.int (ei_ (i))), some (.int (ei_ (n))), some (.int (ei_ (k))), some (.int (ei_ (1))), some (.int (ei_ ((((60 * a) + i) + (3 * k)))))], [.int z_, .ref 70, .long (el_ (y107))], m1) : am_S)) (ei_add rfl rfl)) ?_
                        refine pw_lld rfl rfl (by omega) (fun y109 (hy109 : y109 = vl_ m1 70 ((((60 * a) + i) + (3 * k)) + 1)) ry109 sy109 => ?_)
                        replace hy109 : y109 = vl_ m 70 ((((60 * a) + i) + (3 * k)) + 1) := hy109.trans (congrFun (sm_l hs) _)
                        have b110 := (hb3 (by omega)) ((((60 * a) + i) + (3 * k)) + 1) (by omega) (by omega)
                        refine pw_steps 5 (s' := (155, [some (.ref 47), some (.int (ei_ (a))), some (.int (ei_ (i))), some (.int (ei_ (n))), some (.int (ei_ (k))), some (.int (ei_ (1))), some (.int (ei_ ((((60 * a) + i) + (3 * k)))))], [.int ((ei_ ((((60 * a) + i) + (3 * k)))) + (ei_ (2))), .ref 70, .long (el_ (y109)), .long (el_ (y107))], m1)) rfl ?_
                        refine pw_cv (congrArg (fun z_ : Int32 => ((155, [some (.ref 47), some (.int (ei_ (a))), some (.int (ei_ (i))), some (.int (ei_ (n))), some (.int (ei_ (k))), some (.int (ei_ (1))), some (.int (ei_ ((((60 * a) + i) + (3 * k)))))], [.int z_, .ref 70, .long (el_ (y109)), .long (el_ (y107))], m1) : am_S)) (ei_add rfl rfl)) ?_
                        refine pw_lld rfl rfl (by omega) (fun y111 (hy111 : y111 = vl_ m1 70 ((((60 * a) + i) + (3 * k)) + 2)) ry111 sy111 => ?_)
                        replace hy111 : y111 = vl_ m 70 ((((60 * a) + i) + (3 * k)) + 2) := hy111.trans (congrFun (sm_l hs) _)
                        have b112 := (hb3 (by omega)) ((((60 * a) + i) + (3 * k)) + 2) (by omega) (by omega)
                        refine pw_callS (As := [.long (el_ (y107)), .long (el_ (y109)), .long (el_ (y111))]) (st := []) rfl (by decide) rfl rfl (Nat.le_of_ble_eq_true rfl) ?_
                        refine pw_intro (I := iX9_mayCome) (T := tX9_mayCome) rfl rfl rfl ?_
                        refine pw_steps 3 (s' := (5, [some (.long (el_ (y107))), none, some (.long (el_ (y109))), none, some (.long (el_ (y111))), none], [.long (el_ (9)), .long (el_ (1)), .long (el_ (y107))], m1)) rfl ?_
                        refine pw_callS (As := [.long (el_ (y107)), .long (el_ (1)), .long (el_ (9))]) (st := []) rfl (by decide) rfl rfl (Nat.le_of_ble_eq_true rfl) ?_
                        refine mt_within (by omega) (by omega) (by omega) (fun g113 g114 => ?_) (fun g115 => ?_) (fun g116 => ?_)
                        · refine pw_ifF rfl (by decide) (show ¬ (1 = 0) by decide) ?_
                          refine pw_steps 3 (s' := (16, [some (.long (el_ (y107))), none, some (.long (el_ (y109))), none, some (.long (el_ (y111))), none], [.long (el_ (9)), .long (el_ (0)), .long (el_ (y109))], m1)) rfl ?_
                          refine pw_callS (As := [.long (el_ (y109)), .long (el_ (0)), .long (el_ (9))]) (st := []) rfl (by decide) rfl rfl (Nat.le_of_ble_eq_true rfl) ?_
                          refine mt_within (by omega) (by omega) (by omega) (fun g117 g118 => ?_) (fun g119 => ?_) (fun g120 => ?_)
                          · refine pw_ifF rfl (by decide) (show ¬ (1 = 0) by decide) ?_
                            refine pw_steps 3 (s' := (28, [some (.long (el_ (y107))), none, some (.long (el_ (y109))), none, some (.long (el_ (y111))), none], [.long (el_ (9)), .long (el_ (1)), .long (el_ (y111))], m1)) rfl ?_
                            refine pw_callS (As := [.long (el_ (y111)), .long (el_ (1)), .long (el_ (9))]) (st := []) rfl (by decide) rfl rfl (Nat.le_of_ble_eq_true rfl) ?_
                            refine mt_within (by omega) (by omega) (by omega) (fun g121 g122 => ?_) (fun g123 => ?_) (fun g124 => ?_)
                            · refine pw_ifF rfl (by decide) (show ¬ (1 = 0) by decide) ?_
                              refine pw_steps 2 (s' := (39, [some (.long (el_ (y107))), none, some (.long (el_ (y109))), none, some (.long (el_ (y111))), none], [.int (ei_ (1))], m1)) rfl ?_
                              refine pw_iret rfl rfl rfl ?_
                              refine pw_ifF rfl (by decide) (show ¬ (1 = 0) by decide) ?_
                              refine pw_steps 4 (s' := (171, [some (.ref 47), some (.int (ei_ (a))), some (.int (ei_ (i))), some (.int (ei_ (n))), some (.int (ei_ (k))), some (.int (ei_ (1))), some (.int (ei_ ((((60 * a) + i) + (3 * k)))))], [.int (ei_ (1))], m1)) rfl ?_
                              refine pw_ifF rfl (by decide) (show ¬ (1 = 0) by decide) ?_
                              refine pw_steps 4 (s' := (181, [some (.ref 47), some (.int (ei_ (a))), some (.int (ei_ (i))), some (.int (ei_ (n))), some (.int (ei_ (k))), some (.int (ei_ (1))), some (.int (ei_ ((((60 * a) + i) + (3 * k)))))], [.int (ei_ ((((60 * a) + i) + (3 * k)))), .ref 70, .ref 47], m1)) rfl ?_
                              refine pw_lld rfl rfl (by omega) (fun y125 (hy125 : y125 = vl_ m1 70 (((60 * a) + i) + (3 * k))) ry125 sy125 => ?_)
                              replace hy125 : y125 = vl_ m 70 (((60 * a) + i) + (3 * k)) := hy125.trans (congrFun (sm_l hs) _)
                              have b126 := (hb3 (by omega)) (((60 * a) + i) + (3 * k)) (by omega) (by omega)
                              refine pw_steps 6 (s' := (191, [some (.ref 47), some (.int (ei_ (a))), some (.int (ei_ (i))), some (.int (ei_ (n))), some (.int (ei_ (k))), some (.int (ei_ (1))), some (.int (ei_ ((((60 * a) + i) + (3 * k)))))], [.int ((ei_ ((((60 * a) + i) + (3 * k)))) + (ei_ (1))), .ref 70, .int ((el_ (y125)).toInt32), .ref 47], m1)) rfl ?_
                              refine pw_cv (congrArg (fun z_ : Int32 => ((191, [some (.ref 47), some (.int (ei_ (a))), some (.int (ei_ (i))), some (.int (ei_ (n))), some (.int (ei_ (k))), some (.int (ei_ (1))), some (.int (ei_ ((((60 * a) + i) + (3 * k)))))], [.int z_, .ref 70, .int ((el_ (y125)).toInt32), .ref 47], m1) : am_S)) (ei_add rfl rfl)) ?_
                              refine pw_cv (congrArg (fun z_ : Int32 => ((191, [some (.ref 47), some (.int (ei_ (a))), some (.int (ei_ (i))), some (.int (ei_ (n))), some (.int (ei_ (k))), some (.int (ei_ (1))), some (.int (ei_ ((((60 * a) + i) + (3 * k)))))], [.int (ei_ (((((60 * a) + i) + (3 * k)) + 1))), .ref 70, .int z_, .ref 47], m1) : am_S)) (ei_l2i rfl)) ?_
                              refine pw_lld rfl rfl (by omega) (fun y127 (hy127 : y127 = vl_ m1 70 ((((60 * a) + i) + (3 * k)) + 1)) ry127 sy127 => ?_)
                              replace hy127 : y127 = vl_ m 70 ((((60 * a) + i) + (3 * k)) + 1) := hy127.trans (congrFun (sm_l hs) _)
                              have b128 := (hb3 (by omega)) ((((60 * a) + i) + (3 * k)) + 1) (by omega) (by omega)
                              refine pw_steps 6 (s' := (201, [some (.ref 47), some (.int (ei_ (a))), some (.int (ei_ (i))), some (.int (ei_ (n))), some (.int (ei_ (k))), some (.int (ei_ (1))), some (.int (ei_ ((((60 * a) + i) + (3 * k)))))], [.int ((ei_ ((((60 * a) + i) + (3 * k)))) + (ei_ (2))), .ref 70, .int ((el_ (y127)).toInt32), .int (ei_ (y125)), .ref 47], m1)) rfl ?_
                              refine pw_cv (congrArg (fun z_ : Int32 => ((201, [some (.ref 47), some (.int (ei_ (a))), some (.int (ei_ (i))), some (.int (ei_ (n))), some (.int (ei_ (k))), some (.int (ei_ (1))), some (.int (ei_ ((((60 * a) + i) + (3 * k)))))], [.int z_, .ref 70, .int ((el_ (y127)).toInt32), .int (ei_ (y125)), .ref 47], m1) : am_S)) (ei_add rfl rfl)) ?_
                              refine pw_cv (congrArg (fun z_ : Int32 => ((201, [some (.ref 47), some (.int (ei_ (a))), some (.int (ei_ (i))), some (.int (ei_ (n))), some (.int (ei_ (k))), some (.int (ei_ (1))), some (.int (ei_ ((((60 * a) + i) + (3 * k)))))], [.int (ei_ (((((60 * a) + i) + (3 * k)) + 2))), .ref 70, .int z_, .int (ei_ (y125)), .ref 47], m1) : am_S)) (ei_l2i rfl)) ?_
                              refine pw_lld rfl rfl (by omega) (fun y129 (hy129 : y129 = vl_ m1 70 ((((60 * a) + i) + (3 * k)) + 2)) ry129 sy129 => ?_)
                              replace hy129 : y129 = vl_ m 70 ((((60 * a) + i) + (3 * k)) + 2) := hy129.trans (congrFun (sm_l hs) _)
                              have b130 := (hb3 (by omega)) ((((60 * a) + i) + (3 * k)) + 2) (by omega) (by omega)
                              refine pw_steps 1 (s' := (203, [some (.ref 47), some (.int (ei_ (a))), some (.int (ei_ (i))), some (.int (ei_ (n))), some (.int (ei_ (k))), some (.int (ei_ (1))), some (.int (ei_ ((((60 * a) + i) + (3 * k)))))], [.int ((el_ (y129)).toInt32), .int (ei_ (y127)), .int (ei_ (y125)), .ref 47], m1)) rfl ?_
                              refine pw_cv (congrArg (fun z_ : Int32 => ((203, [some (.ref 47), some (.int (ei_ (a))), some (.int (ei_ (i))), some (.int (ei_ (n))), some (.int (ei_ (k))), some (.int (ei_ (1))), some (.int (ei_ ((((60 * a) + i) + (3 * k)))))], [.int z_, .int (ei_ (y127)), .int (ei_ (y125)), .ref 47], m1) : am_S)) (ei_l2i rfl)) ?_
                              refine pw_call (As := [.int (ei_ (y125)), .int (ei_ (y127)), .int (ei_ (y129))]) (st := []) (k := 47) rfl rfl rfl rfl rfl (Nat.le_of_ble_eq_true rfl) ?_
                              refine pw_intro (I := iX9_adds) (T := tX9_adds) rfl rfl rfl ?_
                              refine pw_steps 3 (s' := (5, [some (.ref 47), some (.int (ei_ (y125))), some (.int (ei_ (y127))), some (.int (ei_ (y129)))], [.ref 47, .ref 48], m1)) rfl ?_
                              refine pw_get rfl rfl (fun x131 (hx131 : x131 = vi_ m1 47 6) rx131 sx131 => ?_)
                              replace hx131 : x131 = P + k := hx131.trans h11
                              subst x131
                              refine pw_steps 1 (s' := (9, [some (.ref 47), some (.int (ei_ (y125))), some (.int (ei_ (y127))), some (.int (ei_ (y129)))], [.int (ei_ (y125)), .int (ei_ (P + k)), .ref 48], m1)) rfl ?_
                              refine pw_ist rfl rfl (by omega) ?_
                              refine pw_steps 4 (s' := (17, [some (.ref 47), some (.int (ei_ (y125))), some (.int (ei_ (y127))), some (.int (ei_ (y129)))], [.ref 47, .int (ei_ (8)), .ref 48], wi_ m1 48 (P + k) (y125))) rfl ?_
                              refine pw_get rfl rfl (fun x132 (hx132 : x132 = vi_ m1 47 6) rx132 sx132 => ?_)
                              replace hx132 : x132 = P + k := hx132.trans h11
                              subst x132
                              refine pw_steps 2 (s' := (22, [some (.ref 47), some (.int (ei_ (y125))), some (.int (ei_ (y127))), some (.int (ei_ (y129)))], [.int (ei_ (y127)), .int ((ei_ (8)) + (ei_ (P + k))), .ref 48], wi_ m1 48 (P + k) (y125))) rfl ?_
                              refine pw_cv (congrArg (fun z_ : Int32 => ((22, [some (.ref 47), some (.int (ei_ (y125))), some (.int (ei_ (y127))), some (.int (ei_ (y129)))], [.int (ei_ (y127)), .int z_, .ref 48], wi_ m1 48 (P + k) (y125)) : am_S)) (ei_add rfl rfl)) ?_
                              refine pw_ist rfl rfl (by omega) ?_
                              refine pw_steps 4 (s' := (30, [some (.ref 47), some (.int (ei_ (y125))), some (.int (ei_ (y127))), some (.int (ei_ (y129)))], [.ref 47, .int (ei_ (16)), .ref 48], wi_ (wi_ m1 48 (P + k) (y125)) 48 ((8 + (P + k))) (y127))) rfl ?_
                              refine pw_get rfl rfl (fun x133 (hx133 : x133 = vi_ m1 47 6) rx133 sx133 => ?_)
                              replace hx133 : x133 = P + k := hx133.trans h11
                              subst x133
                              refine pw_steps 2 (s' := (35, [some (.ref 47), some (.int (ei_ (y125))), some (.int (ei_ (y127))), some (.int (ei_ (y129)))], [.int (ei_ (y129)), .int ((ei_ (16)) + (ei_ (P + k))), .ref 48], wi_ (wi_ m1 48 (P + k) (y125)) 48 ((8 + (P + k))) (y127))) rfl ?_
                              refine pw_cv (congrArg (fun z_ : Int32 => ((35, [some (.ref 47), some (.int (ei_ (y125))), some (.int (ei_ (y127))), some (.int (ei_ (y129)))], [.int (ei_ (y129)), .int z_, .ref 48], wi_ (wi_ m1 48 (P + k) (y125)) 48 ((8 + (P + k))) (y127)) : am_S)) (ei_add rfl rfl)) ?_
                              refine pw_ist rfl rfl (by omega) ?_
                              refine pw_steps 4 (s' := (43, [some (.ref 47), some (.int (ei_ (y125))), some (.int (ei_ (y127))), some (.int (ei_ (y129)))], [.ref 47, .int (ei_ (24)), .ref 48], wi_ (wi_ (wi_ m1 48 (P + k) (y125)) 48 ((8 + (P + k))) (y127)) 48 ((16 + (P + k))) (y129))) rfl ?_
                              refine pw_get rfl rfl (fun x134 (hx134 : x134 = vi_ m1 47 6) rx134 sx134 => ?_)
                              replace hx134 : x134 = P + k := hx134.trans h11
                              subst x134
                              refine pw_steps 2 (s' := (48, [some (.ref 47), some (.int (ei_ (y125))), some (.int (ei_ (y127))), some (.int (ei_ (y129)))], [.int (ei_ (0)), .int ((ei_ (24)) + (ei_ (P + k))), .ref 48], wi_ (wi_ (wi_ m1 48 (P + k) (y125)) 48 ((8 + (P + k))) (y127)) 48 ((16 + (P + k))) (y129))) rfl ?_
                              refine pw_cv (congrArg (fun z_ : Int32 => ((48, [some (.ref 47), some (.int (ei_ (y125))), some (.int (ei_ (y127))), some (.int (ei_ (y129)))], [.int (ei_ (0)), .int z_, .ref 48], wi_ (wi_ (wi_ m1 48 (P + k) (y125)) 48 ((8 + (P + k))) (y127)) 48 ((16 + (P + k))) (y129)) : am_S)) (ei_add rfl rfl)) ?_
                              refine pw_ist rfl rfl (by omega) ?_
                              refine pw_steps 3 (s' := (54, [some (.ref 47), some (.int (ei_ (y125))), some (.int (ei_ (y127))), some (.int (ei_ (y129)))], [.ref 47, .ref 52], wi_ (wi_ (wi_ (wi_ m1 48 (P + k) (y125)) 48 ((8 + (P + k))) (y127)) 48 ((16 + (P + k))) (y129)) 48 ((24 + (P + k))) (0))) rfl ?_
                              refine pw_get rfl rfl (fun x135 (hx135 : x135 = vi_ m1 47 6) rx135 sx135 => ?_)
                              replace hx135 : x135 = P + k := hx135.trans h11
                              subst x135
                              refine pw_steps 1 (s' := (58, [some (.ref 47), some (.int (ei_ (y125))), some (.int (ei_ (y127))), some (.int (ei_ (y129)))], [.ref 47, .int (ei_ (P + k)), .ref 52], wi_ (wi_ (wi_ (wi_ m1 48 (P + k) (y125)) 48 ((8 + (P + k))) (y127)) 48 ((16 + (P + k))) (y129)) 48 ((24 + (P + k))) (0))) rfl ?_
                              refine pw_get rfl rfl (fun x136 (hx136 : x136 = vi_ m1 47 6) rx136 sx136 => ?_)
                              replace hx136 : x136 = P + k := hx136.trans h11
                              subst x136
                              refine pw_ist rfl rfl (by omega) ?_
                              refine pw_steps 3 (s' := (67, [some (.ref 47), some (.int (ei_ (y125))), some (.int (ei_ (y127))), some (.int (ei_ (y129)))], [.ref 47, .ref 53], wi_ (wi_ (wi_ (wi_ (wi_ m1 48 (P + k) (y125)) 48 ((8 + (P + k))) (y127)) 48 ((16 + (P + k))) (y129)) 48 ((24 + (P + k))) (0)) 52 (P + k) (P + k))) rfl ?_
                              refine pw_get rfl rfl (fun x137 (hx137 : x137 = vi_ m1 47 6) rx137 sx137 => ?_)
                              replace hx137 : x137 = P + k := hx137.trans h11
                              subst x137
                              refine pw_steps 1 (s' := (72, [some (.ref 47), some (.int (ei_ (y125))), some (.int (ei_ (y127))), some (.int (ei_ (y129)))], [.int (ei_ (100)), .int (ei_ (P + k)), .ref 53], wi_ (wi_ (wi_ (wi_ (wi_ m1 48 (P + k) (y125)) 48 ((8 + (P + k))) (y127)) 48 ((16 + (P + k))) (y129)) 48 ((24 + (P + k))) (0)) 52 (P + k) (P + k))) rfl ?_
                              refine pw_ist rfl rfl (by omega) ?_
                              refine pw_steps 2 (s' := (75, [some (.ref 47), some (.int (ei_ (y125))), some (.int (ei_ (y127))), some (.int (ei_ (y129)))], [.ref 47, .ref 47], wi_ (wi_ (wi_ (wi_ (wi_ (wi_ m1 48 (P + k) (y125)) 48 ((8 + (P + k))) (y127)) 48 ((16 + (P + k))) (y129)) 48 ((24 + (P + k))) (0)) 52 (P + k) (P + k)) 53 (P + k) (100))) rfl ?_
                              refine pw_get rfl rfl (fun x138 (hx138 : x138 = vi_ m1 47 6) rx138 sx138 => ?_)
                              replace hx138 : x138 = P + k := hx138.trans h11
                              subst x138
                              refine pw_steps 2 (s' := (80, [some (.ref 47), some (.int (ei_ (y125))), some (.int (ei_ (y127))), some (.int (ei_ (y129)))], [.int ((ei_ (P + k)) + (ei_ (1))), .ref 47], wi_ (wi_ (wi_ (wi_ (wi_ (wi_ m1 48 (P + k) (y125)) 48 ((8 + (P + k))) (y127)) 48 ((16 + (P + k))) (y129)) 48 ((24 + (P + k))) (0)) 52 (P + k) (P + k)) 53 (P + k) (100))) rfl ?_
                              refine pw_cv (congrArg (fun z_ : Int32 => ((80, [some (.ref 47), some (.int (ei_ (y125))), some (.int (ei_ (y127))), some (.int (ei_ (y129)))], [.int z_, .ref 47], wi_ (wi_ (wi_ (wi_ (wi_ (wi_ m1 48 (P + k) (y125)) 48 ((8 + (P + k))) (y127)) 48 ((16 + (P + k))) (y129)) 48 ((24 + (P + k))) (0)) 52 (P + k) (P + k)) 53 (P + k) (100)) : am_S)) (ei_add rfl rfl)) ?_
                              refine pw_put (v := ((P + k) + 1)) rfl rfl (Or.inl rfl) ?_
                              refine pw_cv (s' := (83, [some (.ref 47), some (.int (ei_ (y125))), some (.int (ei_ (y127))), some (.int (ei_ (y129)))], [], wi_ (wi_ (wi_ (wi_ (wi_ (wi_ (wi_ m1 48 (P + k) (y125)) 48 ((8 + (P + k))) (y127)) 48 ((16 + (P + k))) (y129)) 48 ((24 + (P + k))) (0)) 52 (P + k) (P + k)) 53 (P + k) (100)) 47 (6) (((P + k) + 1)))) rfl ?_
                              refine pw_vret rfl rfl ?_
                              refine pw_steps 2 (s' := (69, [some (.ref 47), some (.int (ei_ (a))), some (.int (ei_ (i))), some (.int (ei_ (n))), some (.int ((ei_ (k)) + (ei_ (1)))), some (.int (ei_ (1))), some (.int (ei_ ((((60 * a) + i) + (3 * k)))))], [], wi_ (wi_ (wi_ (wi_ (wi_ (wi_ (wi_ m1 48 (P + k) (y125)) 48 ((8 + (P + k))) (y127)) 48 ((16 + (P + k))) (y129)) 48 ((24 + (P + k))) (0)) 52 (P + k) (P + k)) 53 (P + k) (100)) 47 (6) (((P + k) + 1)))) rfl ?_
                              refine pw_cv (congrArg (fun z_ : Int32 => ((69, [some (.ref 47), some (.int (ei_ (a))), some (.int (ei_ (i))), some (.int (ei_ (n))), some (.int z_), some (.int (ei_ (1))), some (.int (ei_ ((((60 * a) + i) + (3 * k)))))], [], wi_ (wi_ (wi_ (wi_ (wi_ (wi_ (wi_ m1 48 (P + k) (y125)) 48 ((8 + (P + k))) (y127)) 48 ((16 + (P + k))) (y129)) 48 ((24 + (P + k))) (0)) 52 (P + k) (P + k)) 53 (P + k) (100)) 47 (6) (((P + k) + 1))) : am_S)) (ei_add rfl rfl)) ?_
                              exact ih99 _ (by omega) (k + 1) 1 (some (.int (ei_ ((((60 * a) + i) + (3 * k)))))) (wi_ (wi_ (wi_ (wi_ (wi_ (wi_ (wi_ m1 48 (P + k) (y125)) 48 ((8 + (P + k))) (y127)) 48 ((16 + (P + k))) (y129)) 48 ((24 + (P + k))) (0)) 52 (P + k) (P + k)) 53 (P + k) (100)) 47 (6) (((P + k) + 1))) rfl (by omega) ((sm_w (sm_w (sm_w (sm_w (sm_w (sm_w (sm_w hs (fun _ h_ => by rw [h_]; rfl)) (fun _ h_ => by rw [h_]; rfl)) (fun _ h_ => by rw [h_]; rfl)) (fun _ h_ => by rw [h_]; rfl)) (fun _ h_ => by rw [h_]; rfl)) (fun _ h_ => by rw [h_]; rfl)) (fun _ h_ => by rw [h_]; rfl))) (by refine ((ei_i (by omega))).trans (by omega)) (by refine pe_s hg ?_; subst hy107; subst hy109; subst hy111; subst hy125; subst hy127; subst hy129; unfold gM_; omega) (by intro h_; omega) (by intro j a_ b_; (simp (disch := omega) only [vi_up, vi_ne]); rw [if_neg (by omega)]; rw [if_neg (by omega)]; rw [if_neg (by omega)]; by_cases e_ : j = k; (rw [if_pos (by omega), e_]; exact hy125); (rw [if_neg (by omega)]; exact hS j a_ (by omega))) (by intro j a_ b_; (simp (disch := omega) only [vi_up, vi_ne]); rw [if_neg (by omega)]; rw [if_neg (by omega)]; by_cases e_ : j = k; (rw [if_pos (by omega), e_]; exact hy127); (rw [if_neg (by omega)]; rw [if_neg (by omega)]; exact hO j a_ (by omega))) (by intro j a_ b_; (simp (disch := omega) only [vi_up, vi_ne]); rw [if_neg (by omega)]; by_cases e_ : j = k; (rw [if_pos (by omega), e_]; exact hy129); (rw [if_neg (by omega)]; rw [if_neg (by omega)]; rw [if_neg (by omega)]; exact hC j a_ (by omega))) (by intro j a_ b_; (simp (disch := omega) only [vi_up, vi_ne]); by_cases e_ : j = k; (rw [if_pos (by omega)]); (rw [if_neg (by omega), if_neg (by omega), if_neg (by omega), if_neg (by omega)]; exact hH j a_ (by omega))) (by intro j a_ b_ c_ d_ e_; (simp (disch := omega) only [vi_up, vi_ne]); rw [if_neg (by omega), if_neg (by omega), if_neg (by omega), if_neg (by omega)]; exact hN j a_ (by omega) (by omega) (by omega) (by omega)) (by intro j a_ b_; (simp (disch := omega) only [vi_up, vi_ne]); by_cases e_ : j = k; (rw [if_pos (by omega)]; (try rw [e_])); (rw [if_neg (by omega)]; exact h52 j a_ (by omega))) (by intro j a_ b_; (simp (disch := omega) only [vi_up, vi_ne]); rw [if_neg (by omega)]; exact n52 j a_ b_) (by intro j a_ b_; (simp (disch := omega) only [vi_up, vi_ne]); by_cases e_ : j = k; (rw [if_pos (by omega)]; (try rw [e_])); (rw [if_neg (by omega)]; exact h53 j a_ (by omega))) (by intro j a_ b_; (simp (disch := omega) only [vi_up, vi_ne]); rw [if_neg (by omega)]; exact n53 j a_ b_)
                            · refine pw_ifT rfl (by decide) (show 0 = 0 by decide) ?_
                              refine pw_steps 1 (s' := (39, [some (.long (el_ (y107))), none, some (.long (el_ (y109))), none, some (.long (el_ (y111))), none], [.int (ei_ (0))], m1)) rfl ?_
                              refine pw_iret rfl rfl rfl ?_
                              refine pw_ifT rfl (by decide) (show 0 = 0 by decide) ?_
                              refine pw_steps 3 (s' := (171, [some (.ref 47), some (.int (ei_ (a))), some (.int (ei_ (i))), some (.int (ei_ (n))), some (.int (ei_ (k))), some (.int (ei_ (0))), some (.int (ei_ ((((60 * a) + i) + (3 * k)))))], [.int (ei_ (0))], m1)) rfl ?_
                              refine pw_ifT rfl (by decide) (show 0 = 0 by decide) ?_
                              refine pw_steps 1 (s' := (69, [some (.ref 47), some (.int (ei_ (a))), some (.int (ei_ (i))), some (.int (ei_ (n))), some (.int (ei_ (k))), some (.int (ei_ (0))), some (.int (ei_ ((((60 * a) + i) + (3 * k)))))], [], m1)) rfl ?_
                              exact ih99 _ (by omega) k 0 (some (.int (ei_ ((((60 * a) + i) + (3 * k)))))) m1 rfl (by omega) (hs) (by refine (h11).trans (by omega)) (by exact hg) (by intro _; subst hy107; subst hy109; subst hy111; unfold gM_; omega) (by exact hS) (by exact hO) (by exact hC) (by exact hH) (by exact hN) (by exact h52) (by exact n52) (by exact h53) (by exact n53)
                            · refine pw_ifT rfl (by decide) (show 0 = 0 by decide) ?_
                              refine pw_steps 1 (s' := (39, [some (.long (el_ (y107))), none, some (.long (el_ (y109))), none, some (.long (el_ (y111))), none], [.int (ei_ (0))], m1)) rfl ?_
                              refine pw_iret rfl rfl rfl ?_
                              refine pw_ifT rfl (by decide) (show 0 = 0 by decide) ?_
                              refine pw_steps 3 (s' := (171, [some (.ref 47), some (.int (ei_ (a))), some (.int (ei_ (i))), some (.int (ei_ (n))), some (.int (ei_ (k))), some (.int (ei_ (0))), some (.int (ei_ ((((60 * a) + i) + (3 * k)))))], [.int (ei_ (0))], m1)) rfl ?_
                              refine pw_ifT rfl (by decide) (show 0 = 0 by decide) ?_
                              refine pw_steps 1 (s' := (69, [some (.ref 47), some (.int (ei_ (a))), some (.int (ei_ (i))), some (.int (ei_ (n))), some (.int (ei_ (k))), some (.int (ei_ (0))), some (.int (ei_ ((((60 * a) + i) + (3 * k)))))], [], m1)) rfl ?_
                              exact ih99 _ (by omega) k 0 (some (.int (ei_ ((((60 * a) + i) + (3 * k)))))) m1 rfl (by omega) (hs) (by refine (h11).trans (by omega)) (by exact hg) (by intro _; subst hy107; subst hy109; subst hy111; unfold gM_; omega) (by exact hS) (by exact hO) (by exact hC) (by exact hH) (by exact hN) (by exact h52) (by exact n52) (by exact h53) (by exact n53)
                          · refine pw_ifT rfl (by decide) (show 0 = 0 by decide) ?_
                            refine pw_steps 1 (s' := (39, [some (.long (el_ (y107))), none, some (.long (el_ (y109))), none, some (.long (el_ (y111))), none], [.int (ei_ (0))], m1)) rfl ?_
                            refine pw_iret rfl rfl rfl ?_
                            refine pw_ifT rfl (by decide) (show 0 = 0 by decide) ?_
                            refine pw_steps 3 (s' := (171, [some (.ref 47), some (.int (ei_ (a))), some (.int (ei_ (i))), some (.int (ei_ (n))), some (.int (ei_ (k))), some (.int (ei_ (0))), some (.int (ei_ ((((60 * a) + i) + (3 * k)))))], [.int (ei_ (0))], m1)) rfl ?_
                            refine pw_ifT rfl (by decide) (show 0 = 0 by decide) ?_
                            refine pw_steps 1 (s' := (69, [some (.ref 47), some (.int (ei_ (a))), some (.int (ei_ (i))), some (.int (ei_ (n))), some (.int (ei_ (k))), some (.int (ei_ (0))), some (.int (ei_ ((((60 * a) + i) + (3 * k)))))], [], m1)) rfl ?_
                            exact ih99 _ (by omega) k 0 (some (.int (ei_ ((((60 * a) + i) + (3 * k)))))) m1 rfl (by omega) (hs) (by refine (h11).trans (by omega)) (by exact hg) (by intro _; subst hy107; subst hy109; subst hy111; unfold gM_; omega) (by exact hS) (by exact hO) (by exact hC) (by exact hH) (by exact hN) (by exact h52) (by exact n52) (by exact h53) (by exact n53)
                          · refine pw_ifT rfl (by decide) (show 0 = 0 by decide) ?_
                            refine pw_steps 1 (s' := (39, [some (.long (el_ (y107))), none, some (.long (el_ (y109))), none, some (.long (el_ (y111))), none], [.int (ei_ (0))], m1)) rfl ?_
                            refine pw_iret rfl rfl rfl ?_
                            refine pw_ifT rfl (by decide) (show 0 = 0 by decide) ?_
                            refine pw_steps 3 (s' := (171, [some (.ref 47), some (.int (ei_ (a))), some (.int (ei_ (i))), some (.int (ei_ (n))), some (.int (ei_ (k))), some (.int (ei_ (0))), some (.int (ei_ ((((60 * a) + i) + (3 * k)))))], [.int (ei_ (0))], m1)) rfl ?_
                            refine pw_ifT rfl (by decide) (show 0 = 0 by decide) ?_
                            refine pw_steps 1 (s' := (69, [some (.ref 47), some (.int (ei_ (a))), some (.int (ei_ (i))), some (.int (ei_ (n))), some (.int (ei_ (k))), some (.int (ei_ (0))), some (.int (ei_ ((((60 * a) + i) + (3 * k)))))], [], m1)) rfl ?_
                            exact ih99 _ (by omega) k 0 (some (.int (ei_ ((((60 * a) + i) + (3 * k)))))) m1 rfl (by omega) (hs) (by refine (h11).trans (by omega)) (by exact hg) (by intro _; subst hy107; subst hy109; subst hy111; unfold gM_; omega) (by exact hS) (by exact hO) (by exact hC) (by exact hH) (by exact hN) (by exact h52) (by exact n52) (by exact h53) (by exact n53)
                        · refine pw_ifT rfl (by decide) (show 0 = 0 by decide) ?_
                          refine pw_steps 1 (s' := (39, [some (.long (el_ (y107))), none, some (.long (el_ (y109))), none, some (.long (el_ (y111))), none], [.int (ei_ (0))], m1)) rfl ?_
                          refine pw_iret rfl rfl rfl ?_
                          refine pw_ifT rfl (by decide) (show 0 = 0 by decide) ?_
                          refine pw_steps 3 (s' := (171, [some (.ref 47), some (.int (ei_ (a))), some (.int (ei_ (i))), some (.int (ei_ (n))), some (.int (ei_ (k))), some (.int (ei_ (0))), some (.int (ei_ ((((60 * a) + i) + (3 * k)))))], [.int (ei_ (0))], m1)) rfl ?_
                          refine pw_ifT rfl (by decide) (show 0 = 0 by decide) ?_
                          refine pw_steps 1 (s' := (69, [some (.ref 47), some (.int (ei_ (a))), some (.int (ei_ (i))), some (.int (ei_ (n))), some (.int (ei_ (k))), some (.int (ei_ (0))), some (.int (ei_ ((((60 * a) + i) + (3 * k)))))], [], m1)) rfl ?_
                          exact ih99 _ (by omega) k 0 (some (.int (ei_ ((((60 * a) + i) + (3 * k)))))) m1 rfl (by omega) (hs) (by refine (h11).trans (by omega)) (by exact hg) (by intro _; subst hy107; subst hy109; subst hy111; unfold gM_; omega) (by exact hS) (by exact hO) (by exact hC) (by exact hH) (by exact hN) (by exact h52) (by exact n52) (by exact h53) (by exact n53)
                        · refine pw_ifT rfl (by decide) (show 0 = 0 by decide) ?_
                          refine pw_steps 1 (s' := (39, [some (.long (el_ (y107))), none, some (.long (el_ (y109))), none, some (.long (el_ (y111))), none], [.int (ei_ (0))], m1)) rfl ?_
                          refine pw_iret rfl rfl rfl ?_
                          refine pw_ifT rfl (by decide) (show 0 = 0 by decide) ?_
                          refine pw_steps 3 (s' := (171, [some (.ref 47), some (.int (ei_ (a))), some (.int (ei_ (i))), some (.int (ei_ (n))), some (.int (ei_ (k))), some (.int (ei_ (0))), some (.int (ei_ ((((60 * a) + i) + (3 * k)))))], [.int (ei_ (0))], m1)) rfl ?_
                          refine pw_ifT rfl (by decide) (show 0 = 0 by decide) ?_
                          refine pw_steps 1 (s' := (69, [some (.ref 47), some (.int (ei_ (a))), some (.int (ei_ (i))), some (.int (ei_ (n))), some (.int (ei_ (k))), some (.int (ei_ (0))), some (.int (ei_ ((((60 * a) + i) + (3 * k)))))], [], m1)) rfl ?_
                          exact ih99 _ (by omega) k 0 (some (.int (ei_ ((((60 * a) + i) + (3 * k)))))) m1 rfl (by omega) (hs) (by refine (h11).trans (by omega)) (by exact hg) (by intro _; subst hy107; subst hy109; subst hy111; unfold gM_; omega) (by exact hS) (by exact hO) (by exact hC) (by exact hH) (by exact hN) (by exact h52) (by exact n52) (by exact h53) (by exact n53)
            exact L100 _ 0 1 none m rfl (by omega) ((sm_rfl m)) (by omega) (by intro j a_ b_; omega) (by intro h_; unfold gM_; omega) (by intro j a_ b_; omega) (by intro j a_ b_; omega) (by intro j a_ b_; omega) (by intro j a_ b_; omega) (by intro j _ _ _ _ _; rfl) (by intro j a_ b_; omega) (by intro j _ _; rfl) (by intro j a_ b_; omega) (by intro j _ _; rfl)
        · refine pw_steps 1 (s' := (43, [some (.ref 47), some (.int (ei_ (a))), some (.int (ei_ (i))), some (.int (ei_ (n))), none, none, none], [.int (ei_ ((-12)))], m)) rfl ?_
          refine pw_iret rfl rfl rfl ?_
          exact k1 (by omega) (by omega)
    · refine pw_ifF rfl (by decide) (show ¬ (¬ 0 = 0) by decide) ?_
      refine pw_steps 1 (s' := (20, [some (.ref 47), some (.int (ei_ (a))), some (.int (ei_ (i))), some (.int (ei_ (n))), none, none, none], [.int (ei_ ((-1)))], m)) rfl ?_
      refine pw_iret rfl rfl rfl ?_
      exact k0 (by omega)
    · refine pw_ifF rfl (by decide) (show ¬ (¬ 0 = 0) by decide) ?_
      refine pw_steps 1 (s' := (20, [some (.ref 47), some (.int (ei_ (a))), some (.int (ei_ (i))), some (.int (ei_ (n))), none, none, none], [.int (ei_ ((-1)))], m)) rfl ?_
      refine pw_iret rfl rfl rfl ?_
      exact k0 (by omega)
  · refine pw_iret rfl rfl rfl ?_
    refine pw_ifT rfl (by decide) (show 0 = 0 by decide) ?_
    refine pw_steps 1 (s' := (20, [some (.ref 47), some (.int (ei_ (a))), some (.int (ei_ (i))), some (.int (ei_ (n))), none, none, none], [.int (ei_ ((-1)))], m)) rfl ?_
    refine pw_iret rfl rfl rfl ?_
    exact k0 (by omega)
  · refine pw_iret rfl rfl rfl ?_
    refine pw_ifT rfl (by decide) (show 0 = 0 by decide) ?_
    refine pw_steps 1 (s' := (20, [some (.ref 47), some (.int (ei_ (a))), some (.int (ei_ (i))), some (.int (ei_ (n))), none, none, none], [.int (ei_ ((-1)))], m)) rfl ?_
    refine pw_iret rfl rfl rfl ?_
    exact k0 (by omega)


theorem rR_adds {m m1 m2 : am_M} {p k : Int} {s o c : Int → Int} (hR : rR_ m) (hx : vi_ m 1 1 = p) (h8 : 0 ≤ k ∧ p + k ≤ 8) (hb : ∀ j, 0 ≤ j → j < k → (1 ≤ s j ∧ s j ≤ 9) ∧ (0 ≤ o j ∧ o j ≤ 9) ∧ (1 ≤ c j ∧ c j ≤ 9))
    (h1 : sm_ pAc m m1) (c1 : vi_ m1 1 1 = p + k) (cS : ∀ j, 0 ≤ j → j < k → vi_ m1 2 (p + j) = s j) (cO : ∀ j, 0 ≤ j → j < k → vi_ m1 2 (8 + (p + j)) = o j) (cC : ∀ j, 0 ≤ j → j < k → vi_ m1 2 (16 + (p + j)) = c j)
    (cN : ∀ j, 0 ≤ j → ¬ (p ≤ j ∧ j < p + k) → ¬ (8 + p ≤ j ∧ j < 8 + p + k) → ¬ (16 + p ≤ j ∧ j < 16 + p + k) → vi_ m1 2 j = vi_ m 2 j)
    (h2 : sm_ pAm m1 m2) (g6 : vi_ m2 47 6 = p + k) (gS : ∀ j, 0 ≤ j → j < k → vi_ m2 48 (p + j) = s j) (gO : ∀ j, 0 ≤ j → j < k → vi_ m2 48 (8 + (p + j)) = o j) (gC : ∀ j, 0 ≤ j → j < k → vi_ m2 48 (16 + (p + j)) = c j) (gH : ∀ j, 0 ≤ j → j < k → vi_ m2 48 (24 + (p + j)) = 0)
    (gN : ∀ j, 0 ≤ j → ¬ (p ≤ j ∧ j < p + k) → ¬ (8 + p ≤ j ∧ j < 8 + p + k) → ¬ (16 + p ≤ j ∧ j < 16 + p + k) → ¬ (24 + p ≤ j ∧ j < 24 + p + k) → vi_ m2 48 j = vi_ m1 48 j)
    (g52 : ∀ j, 0 ≤ j → j < k → vi_ m2 52 (p + j) = p + j) (n52 : ∀ j, 0 ≤ j → j < p → vi_ m2 52 j = vi_ m1 52 j) (g53 : ∀ j, 0 ≤ j → j < k → vi_ m2 53 (p + j) = 100) (n53 : ∀ j, 0 ≤ j → j < p → vi_ m2 53 j = vi_ m1 53 j) : rR_ m2 := by
  obtain ⟨hp, hd, hi, ht, hl, hz, hcc, ha, hS⟩ := hR
  obtain ⟨p1, p2, p3, p4⟩ := id hp
  obtain ⟨d1, d2, d3, d4⟩ := id hd
  have h : sm_ pAds m m2 := sm_tr (sm_le h1 pAc_Ads) (sm_le h2 pAm_Ads)
  have e1 : vi_ m2 1 1 = p + k := (sm_v h2 (k := 1) (j := 1) rfl).trans c1
  have e2 : ∀ j, vi_ m2 2 j = vi_ m1 2 j := fun j => sm_v h2 (k := 2) (j := j) rfl
  have e48 : ∀ j, vi_ m1 48 j = vi_ m 48 j := fun j => sm_v h1 (k := 48) (j := j) rfl
  have e52 : ∀ j, vi_ m1 52 j = vi_ m 52 j := fun j => sm_v h1 (k := 52) (j := j) rfl
  have e53 : ∀ j, vi_ m1 53 j = vi_ m 53 j := fun j => sm_v h1 (k := 53) (j := j) rfl
  have g4 := sm_f h (k := 4) (fun _ => rfl)
  have g5 := sm_f h (k := 5) (fun _ => rfl)
  refine ⟨⟨by rw [e1]; omega, by rw [e1, g6], fun j a b => ?_, fun j a b => ?_⟩, ⟨fun j a b => ?_, fun j a b => ?_, fun j a b => ?_, ?_⟩, ?_, rT_fr h rfl rfl (fun _ => rfl) (fun _ => rfl) ht, rL_fr h rfl rfl (fun _ => rfl) (fun _ => rfl) hl, rZ_fr h rfl hz, ?_, rA_fr h rfl rfl (fun _ => rfl) (fun _ => rfl) rfl rfl (fun _ => rfl) (fun _ => rfl) ha, rS_fr h (fun _ => rfl) (fun _ => rfl) rfl (fun d_ a_ b_ => by rcases sf_six ⟨a_, b_⟩ with h_ | h_ | h_ | h_ | h_ | h_ <;> subst h_ <;> exact ⟨rfl, rfl, rfl⟩) hS⟩
  · rw [e2 j]
    by_cases q1 : p ≤ j ∧ j < p + k
    · have t := hb (j - p) (by omega) (by omega)
      have t1 := cS (j - p) (by omega) (by omega)
      have t2 := gS (j - p) (by omega) (by omega)
      rw [show p + (j - p) = j by omega] at t1 t2
      rw [t1, t2]; omega
    · by_cases q2 : 8 + p ≤ j ∧ j < 8 + p + k
      · have t := hb (j - (8 + p)) (by omega) (by omega)
        have t1 := cO (j - (8 + p)) (by omega) (by omega)
        have t2 := gO (j - (8 + p)) (by omega) (by omega)
        rw [show 8 + (p + (j - (8 + p))) = j by omega] at t1 t2
        rw [t1, t2]; omega
      · by_cases q3 : 16 + p ≤ j ∧ j < 16 + p + k
        · have t := hb (j - (16 + p)) (by omega) (by omega)
          have t1 := cC (j - (16 + p)) (by omega) (by omega)
          have t2 := gC (j - (16 + p)) (by omega) (by omega)
          rw [show 16 + (p + (j - (16 + p))) = j by omega] at t1 t2
          rw [t1, t2]; omega
        · rw [cN j a q1 q2 q3]
          by_cases q4 : 24 + p ≤ j ∧ j < 24 + p + k
          · have t2 := gH (j - (24 + p)) (by omega) (by omega)
            have t3 := p4 (j - 24) (by omega) (by omega)
            rw [show 24 + (p + (j - (24 + p))) = j by omega] at t2
            rw [show 24 + (j - 24) = j by omega] at t3
            rw [t2, t3]; omega
          · rw [gN j a q1 q2 q3 q4, e48 j]
            exact p3 j a b
  · rw [e1] at a
    rw [e2, cN _ (by omega) (by omega) (by omega) (by omega)]
    exact p4 j (by omega) b
  · rw [g4, e1]; have t := d1 j a b; omega
  · rw [g5, e1]; have t := d2 j a b; omega
  · rw [e1] at b
    rw [g4, g5]
    have t := d1 j a (by omega)
    have t2 := d2 j a (by omega)
    by_cases cc : j < p
    · rw [n52 j a cc, n53 j a cc, e52, e53]; exact d3 j a (by omega)
    · have t3 := g52 (j - p) (by omega) (by omega)
      have t4 := g53 (j - p) (by omega) (by omega)
      rw [show p + (j - p) = j by omega] at t3 t4
      rw [t3, t4]; omega
  · rw [sm_f h (k := 61) (fun _ => rfl), sm_f h (k := 6) (fun _ => rfl), sm_v h (k := 47) (j := 26) rfl, sm_v h (k := 47) (j := 27) rfl, sm_v h (k := 47) (j := 28) rfl, sm_f h (k := 3) (fun _ => rfl)]
    exact d4
  · unfold rI_ at hi ⊢
    rw [e1, sm_v h (k := 47) (j := 29) rfl, sm_v h (k := 47) (j := 30) rfl, sm_f h (k := 0) (fun _ => rfl), sm_f h (k := 8) (fun _ => rfl), sm_f h (k := 9) (fun _ => rfl), sm_f h (k := 10) (fun _ => rfl), sm_f h (k := 7) (fun _ => rfl), sm_f h (k := 62) (fun _ => rfl), sm_f h (k := 63) (fun _ => rfl), sm_f h (k := 64) (fun _ => rfl), sm_f h (k := 65) (fun _ => rfl)]
    refine ⟨hi.1, hi.2.1, fun g => ?_⟩
    obtain ⟨i1, i2⟩ := hi.2.2 g
    exact ⟨⟨i1.1, by omega⟩, i2⟩
  · unfold rC_ at hcc ⊢
    rw [e1, sm_v h (k := 47) (j := 5) rfl, sm_v h (k := 47) (j := 4) rfl, sm_f h (k := 24) (fun _ => rfl), sm_f h (k := 25) (fun _ => rfl), sm_f h (k := 26) (fun _ => rfl), sm_f h (k := 27) (fun _ => rfl), sm_f h (k := 28) (fun _ => rfl), sm_f h (k := 49) (fun _ => rfl), sm_f h (k := 50) (fun _ => rfl), sm_f h (k := 51) (fun _ => rfl)]
    refine ⟨hcc.1, hcc.2.1, hcc.2.2.1, fun j a b => ?_⟩
    have t := hcc.2.2.2 j a b
    omega

theorem op_people {q : am_X} {d : Nat} {m : am_M} {a b c : Int} (q0 : -2147483648 ≤ a ∧ a < 2147483648) (q1 : -2147483648 ≤ b ∧ b < 2147483648) (q2 : -2147483648 ≤ c ∧ c < 2147483648) (hR : rR_ m) : pw_C q (d + 60) 8 [.ref 0, .int (ei_ a), .int (ei_ b), .int (ei_ c)] m (fun r1 m1 => pw_C q (d + 60) 179 [.ref 47, .int (ei_ a), .int (ei_ b), .int (ei_ c)] m1 (fun r2 m2 => ∃ x : Int, r1 = some (.int (ei_ x)) ∧ r2 = some (.int (ei_ x)) ∧ rR_ m2)) := by
  obtain ⟨hp, hd, hi, ht, hl, hz, hc, ha, hs⟩ := id hR
  obtain ⟨hP1, hP2, hP3, hP4⟩ := id hp
  have h50 : vi_ m 29 2 ≤ 50 := by obtain ⟨ha1, ha2, ha3, ha4, ha5, ha6⟩ := id ha; omega
  have hk : ∀ a, 0 ≤ a ∧ a < 6 → (vi_ m (sf_ a) 0 = -1 ∧ vi_ m 68 a = -1) ∨ (vi_ m (sf_ a) 0 = -2 ∧ 0 ≤ vi_ m 68 a ∧ vi_ m 68 a < 50) ∨ (0 ≤ vi_ m (sf_ a) 0 ∧ vi_ m 68 a = 50 + vi_ m (sf_ a) 0) := by
    intro a c
    obtain ⟨t1, t2, t3⟩ := hs a c.1 c.2
    rcases t3 with t3 | t3 | t3
    · exact Or.inl ⟨t3.1, t3.2.1⟩
    · exact Or.inr (Or.inl ⟨t3.1, by omega, by omega⟩)
    · exact Or.inr (Or.inr ⟨t3.1, t3.2.2.1⟩)
  refine cs_people (P := vi_ m 1 1) rfl (by omega) hs q0 q1 q2 (fun g => ?_) (fun g g2 => ?_) (fun k m1 g g2 hg s1 c1 cS cO cC cN => ?_)
  · refine ms_people (P := vi_ m 1 1) hP2 (by omega) hs h50 q0 q1 q2 (fun f => ?_) (fun f f2 => ?_) (fun k2 m2 f _ _ _ _ _ _ _ _ _ _ _ _ _ => ?_)
    · exact ⟨-1, rfl, rfl, hR⟩
    · exact absurd f g
    · exact absurd f g
  · have t := hk a g.1
    refine ms_people (P := vi_ m 1 1) hP2 (by omega) hs h50 q0 q1 q2 (fun f => ?_) (fun f f2 => ?_) (fun k2 m2 f f2 _ _ _ _ _ _ _ _ _ _ _ _ => ?_)
    · exact absurd g f
    · exact ⟨-12, rfl, rfl, hR⟩
    · omega
  · have t := hk a g.1
    have f6 : vi_ m1 47 6 = vi_ m 1 1 := (sm_v s1 (k := 47) (j := 6) rfl).trans hP2
    have f29 : vi_ m1 29 2 = vi_ m 29 2 := sm_v s1 (k := 29) (j := 2) rfl
    have f68 : vi_ m1 68 = vi_ m 68 := sm_f s1 (k := 68) (fun _ => rfl)
    have f69 : vi_ m1 69 = vi_ m 69 := sm_f s1 (k := 69) (fun _ => rfl)
    have hs1 : rS_ m1 := rS_fr s1 (fun _ => rfl) (fun _ => rfl) rfl (fun d_ a_ b_ => by rcases sf_six ⟨a_, b_⟩ with h_ | h_ | h_ | h_ | h_ | h_ <;> subst h_ <;> exact ⟨rfl, rfl, rfl⟩) hs
    refine ms_people (P := vi_ m 1 1) f6 (by omega) hs1 (by omega) q0 q1 q2 (fun f => ?_) (fun f f2 => ?_) (fun k2 m2 f f2 gg s2 g6 gS gO gC gH gN h52 n52 h53 n53 => ?_)
    · exact absurd g f
    · rw [f68] at f2; omega
    · have gg2 : pe_ (gM_ m a b (vi_ m 1 1)) c k2 := by
        have e : gM_ m1 a b (vi_ m 1 1) = gM_ m a b (vi_ m 1 1) := by
          funext j; unfold gM_; rw [f69, sm_l s1]
        rw [← e]; exact gg
      have e : k2 = k := pe_u (fun j _ => gC_gM hs g.1 j) hg gg2
      subst e
      have hb := fun j a_ b_ => (gC_gM hs g.1 j).1 (hg.2.1 j a_ b_)
      have hB : ∀ j, 0 ≤ j → j < k2 → vl_ m (sf_ a + 1) (b + 3 * j) = vl_ m 70 (60 * a + b + 3 * j) ∧ vl_ m (sf_ a + 1) (b + 3 * j + 1) = vl_ m 70 (60 * a + b + 3 * j + 1) ∧ vl_ m (sf_ a + 1) (b + 3 * j + 2) = vl_ m 70 (60 * a + b + 3 * j + 2) := by
        intro j a_ b_
        have hj := hg.2.1 j a_ b_
        unfold gC_ at hj
        obtain ⟨t1, t2, t3⟩ := hs a g.1.1 g.1.2
        rcases t3 with t3 | t3 | t3
        · exfalso; omega
        · exfalso; omega
        · rw [show 60 * a + b + 3 * j = 60 * a + (b + 3 * j) by omega, show 60 * a + (b + 3 * j) + 1 = 60 * a + (b + 3 * j + 1) by omega, show 60 * a + (b + 3 * j) + 2 = 60 * a + (b + 3 * j + 2) by omega]
          rw [(t3.2.2.2 (b + 3 * j) (by omega) (by omega)).1, (t3.2.2.2 (b + 3 * j + 1) (by omega) (by omega)).1, (t3.2.2.2 (b + 3 * j + 2) (by omega) (by omega)).1]
          exact ⟨rfl, rfl, rfl⟩
      have hk8 : 0 ≤ k2 ∧ vi_ m 1 1 + k2 ≤ 8 := by
        refine ⟨hg.1.1, ?_⟩
        by_cases z : k2 = 0
        · omega
        · have z2 := hg.2.1 (k2 - 1) (by have := hg.1.1; omega) (by omega)
          unfold gC_ at z2; omega
      refine ⟨k2, rfl, rfl, rR_adds (p := vi_ m 1 1) (k := k2) (s := fun j => vl_ m 70 (60 * a + b + 3 * j)) (o := fun j => vl_ m 70 (60 * a + b + 3 * j + 1)) (c := fun j => vl_ m 70 (60 * a + b + 3 * j + 2)) hR rfl hk8 (fun j a_ b_ => (hb j a_ b_).2.2.2) s1 c1 (fun j a_ b_ => (cS j a_ b_).trans (hB j a_ b_).1) (fun j a_ b_ => (cO j a_ b_).trans (hB j a_ b_).2.1) (fun j a_ b_ => (cC j a_ b_).trans (hB j a_ b_).2.2) cN s2 g6 (fun j a_ b_ => (gS j a_ b_).trans (congrFun (sm_l s1) _)) (fun j a_ b_ => (gO j a_ b_).trans (congrFun (sm_l s1) _)) (fun j a_ b_ => (gC j a_ b_).trans (congrFun (sm_l s1) _)) gH gN h52 n52 h53 n53⟩

