
/-! ===== drawn ===== -/
theorem us8_b (a : Int) : 0 ≤ us_ a 8 ∧ us_ a 8 < 16777216 := by
  unfold us_
  rw [show (ei_ 8).toUInt32 &&& Int32.toUInt32 31 = 8 from by decide]
  have h : ((ei_ a).toUInt32 >>> 8).toNat < 16777216 := by
    rw [UInt32.toNat_shiftRight]
    have := (ei_ a).toUInt32.toNat_lt
    simp only [Nat.shiftRight_eq_div_pow]
    rw [show (8 : UInt32).toNat % 32 = 8 from by decide]
    omega
  generalize (ei_ a).toUInt32 >>> 8 = u at h
  have e : u.toInt32.toInt = (u.toNat : Int) := by
    show u.toBitVec.toInt = _
    rw [BitVec.toInt_eq_toNat_of_lt]
    · rfl
    · show 2 * u.toNat < 2 ^ 32
      omega
  rw [e]
  omega
def rc_ (m : am_M) (a c : Int) : Int := rt_ m (vi_ m 4 a) a (cn_ (vi_ m 4) (vi_ m 4 a) 8) c
theorem rc_b (m : am_M) (a c : Int) : 0 ≤ rc_ m a c ∧ rc_ m a c ≤ 99 := rt_b _ _ _ _ _
theorem bn_rc {m : am_M} (hp : rP_ m) (hd : rD_ m) {a c : Int} (ha : 0 ≤ a ∧ a < vi_ m 1 1) : bn_ m a c = rc_ m a c := by
  have hw := hd.1 a ha.1 (by have := hp.1; omega)
  unfold bn_ rc_
  rw [(hd.2.2.1 a ha.1 ha.2).1, cn_mc hp hd ⟨hw.1, hw.2.2.1 ha.2⟩]
def dz_ (z : Int) : Nat → Int
  | 0 => z
  | n + 1 => dz_ z n * 1103515245 + 12345
def dl_ (r : Int → Int) (z l : Int) : Nat → Int
  | 0 => l
  | n + 1 => max 0 (dl_ r z l n - r (us_ (dz_ z (n + 1)) 8 % 10))
theorem dz_s {z k : Int} (h : 0 ≤ k) : dz_ z (k + 1).toNat = dz_ z k.toNat * 1103515245 + 12345 := by
  rw [show (k + 1).toNat = k.toNat + 1 by omega]; rfl
theorem dl_s {r : Int → Int} {z l k : Int} (h : 0 ≤ k) : dl_ r z l (k + 1).toNat = max 0 (dl_ r z l k.toNat - r (us_ (dz_ z k.toNat * 1103515245 + 12345) 8 % 10)) := by
  rw [show (k + 1).toNat = k.toNat + 1 by omega]; rfl
theorem dl_b {r : Int → Int} {z l : Int} (hl : 0 ≤ l) (hr : ∀ c, 0 ≤ r c) : ∀ n : Nat, 0 ≤ dl_ r z l n ∧ dl_ r z l n ≤ l := by
  intro n
  induction n with
  | zero => exact ⟨hl, Int.le_refl _⟩
  | succ n ih =>
    simp only [dl_]
    have := hr (us_ (dz_ z (n + 1)) 8 % 10)
    omega
def zw_ (z d : Int) : Nat → Int
  | 0 => z
  | w + 1 => dz_ (zw_ z d w) d.toNat
def dw_ (m : am_M) (d z a : Int) : Int := dl_ (rc_ m a) z (vi_ m 5 a) d.toNat
def dn_ (m : am_M) (d c z : Int) : Nat → Int
  | 0 => 0
  | w + 1 => dn_ m d c z w + (if c < 0 then cn_ (dw_ m d (zw_ z d w)) 0 (vi_ m 1 1).toNat else dw_ m d (zw_ z d w) c)
theorem zw_s {z d k : Int} (h : 0 ≤ k) : zw_ z d (k + 1).toNat = dz_ (zw_ z d k.toNat) d.toNat := by
  rw [show (k + 1).toNat = k.toNat + 1 by omega]; rfl
theorem dn_s {m : am_M} {d c z k : Int} (h : 0 ≤ k) : dn_ m d c z (k + 1).toNat = dn_ m d c z k.toNat + (if c < 0 then cn_ (dw_ m d (zw_ z d k.toNat)) 0 (vi_ m 1 1).toNat else dw_ m d (zw_ z d k.toNat) c) := by
  rw [show (k + 1).toNat = k.toNat + 1 by omega]; rfl
def sdr_ (m : am_M) (a b c : Int) : Int := if (0 ≤ b ∧ 1 ≤ b / 100 ∧ b / 100 ≤ 20 ∧ 1 ≤ b % 100) ∧ (c = -1 ∨ (0 ≤ c ∧ c < vi_ m 1 1)) then dn_ m (b % 100) c a (b / 100).toNat else -1
theorem td_neg {b : Int} (h : b < 0) : b.tdiv 100 ≤ 0 ∧ b ≤ b.tdiv 100 := by
  have h1 : (-b).tdiv 100 = -(b.tdiv 100) := Int.neg_tdiv ..
  have h2 : (-b).tdiv 100 = (-b) / 100 := Int.tdiv_eq_ediv_of_nonneg (by omega)
  omega

set_option maxHeartbeats 4000000 in
set_option maxRecDepth 20000 in
theorem cw_burnt2 {q : am_X} {d : Nat} {m : am_M} {Q : Option Value → am_M → Prop} {m0 : am_M} {s : Int} {o : Int} {n : Int} {c : Int} {f : Int} {g : Int}  (p0 : rZ_ m0) (p1 : sm_ pSc m0 m) (p2 : 0 ≤ s ∧ s ≤ 99) (p3 : 0 ≤ o ∧ o ≤ 99) (p4 : 0 ≤ n ∧ n ≤ 99) (p5 : 0 ≤ c ∧ c ≤ 99) (p6 : 0 ≤ f ∧ f ≤ 99) (p7 : 0 ≤ g ∧ g ≤ 99) (k0 : ∀ (x : Int) (m1 : am_M), (x = lw_v m0 s o n c f g) → (sm_ pLw m m1) → (0 ≤ x ∧ x ≤ 99) → Q (some (.int (ei_ (x)))) m1) : pw_C q (d + 4) 48 [.ref 14, .int (ei_ (s)), .int (ei_ (o)), .int (ei_ (n)), .int (ei_ (c)), .int (ei_ (f)), .int (ei_ (g))] m Q := by
  have hz1 := p0.1
  have hz2 := p0.2
  have hcs : 0 ≤ c * s ∧ c * s ≤ 9801 := ⟨Int.mul_nonneg (by omega) (by omega), Int.le_trans (Int.mul_le_mul (by omega : c ≤ 99) (by omega : s ≤ 99) (by omega) (by omega)) (by omega)⟩
  refine pw_intro (I := iX4_burnt) (T := tX4_burnt) rfl rfl rfl ?_
  refine pw_steps 1 (s' := (1, [some (.ref 14), some (.int (ei_ (s))), some (.int (ei_ (o))), some (.int (ei_ (n))), some (.int (ei_ (c))), some (.int (ei_ (f))), some (.int (ei_ (g)))], [.ref 14], m)) rfl ?_
  refine pw_get rfl rfl (fun x1 (hx1 : x1 = vi_ m 14 3) rx1 sx1 => ?_)
  have ox1 := hx1
  replace hx1 : x1 = vi_ m0 14 3 := hx1.trans (sm_v p1 rfl)
  refine pw_if rfl ⟨rx1, sx1⟩ (fun (h2 : ¬ x1 = 0) => ?_) (fun (h2 : ¬ ¬ x1 = 0) => ?_)
  · refine pw_steps 4 (s' := (32, [some (.ref 14), some (.int (ei_ (s))), some (.int (ei_ (o))), some (.int (ei_ (n))), some (.int (ei_ (c))), some (.int (ei_ (f))), some (.int (ei_ (g)))], [.int (ei_ (s)), .int (ei_ (0)), .ref 17], m)) rfl ?_
    refine pw_ist rfl rfl (by omega) ?_
    refine pw_steps 4 (s' := (39, [some (.ref 14), some (.int (ei_ (s))), some (.int (ei_ (o))), some (.int (ei_ (n))), some (.int (ei_ (c))), some (.int (ei_ (f))), some (.int (ei_ (g)))], [.int (ei_ (o)), .int (ei_ (1)), .ref 17], wi_ m 17 (0) (s))) rfl ?_
    refine pw_ist rfl rfl (by omega) ?_
    refine pw_steps 4 (s' := (46, [some (.ref 14), some (.int (ei_ (s))), some (.int (ei_ (o))), some (.int (ei_ (n))), some (.int (ei_ (c))), some (.int (ei_ (f))), some (.int (ei_ (g)))], [.int (ei_ (n)), .int (ei_ (2)), .ref 17], wi_ (wi_ m 17 (0) (s)) 17 (1) (o))) rfl ?_
    refine pw_ist rfl rfl (by omega) ?_
    refine pw_steps 4 (s' := (54, [some (.ref 14), some (.int (ei_ (s))), some (.int (ei_ (o))), some (.int (ei_ (n))), some (.int (ei_ (c))), some (.int (ei_ (f))), some (.int (ei_ (g)))], [.int (ei_ (c)), .int (ei_ (3)), .ref 17], wi_ (wi_ (wi_ m 17 (0) (s)) 17 (1) (o)) 17 (2) (n))) rfl ?_
    refine pw_ist rfl rfl (by omega) ?_
    refine pw_steps 4 (s' := (62, [some (.ref 14), some (.int (ei_ (s))), some (.int (ei_ (o))), some (.int (ei_ (n))), some (.int (ei_ (c))), some (.int (ei_ (f))), some (.int (ei_ (g)))], [.int (ei_ (f)), .int (ei_ (4)), .ref 17], wi_ (wi_ (wi_ (wi_ m 17 (0) (s)) 17 (1) (o)) 17 (2) (n)) 17 (3) (c))) rfl ?_
    refine pw_ist rfl rfl (by omega) ?_
    refine pw_steps 4 (s' := (70, [some (.ref 14), some (.int (ei_ (s))), some (.int (ei_ (o))), some (.int (ei_ (n))), some (.int (ei_ (c))), some (.int (ei_ (f))), some (.int (ei_ (g)))], [.int (ei_ (g)), .int (ei_ (5)), .ref 17], wi_ (wi_ (wi_ (wi_ (wi_ m 17 (0) (s)) 17 (1) (o)) 17 (2) (n)) 17 (3) (c)) 17 (4) (f))) rfl ?_
    refine pw_ist rfl rfl (by omega) ?_
    refine pw_steps 1 (s' := (72, [some (.ref 14), some (.int (ei_ (s))), some (.int (ei_ (o))), some (.int (ei_ (n))), some (.int (ei_ (c))), some (.int (ei_ (f))), some (.int (ei_ (g)))], [.ref 14], wi_ (wi_ (wi_ (wi_ (wi_ (wi_ m 17 (0) (s)) 17 (1) (o)) 17 (2) (n)) 17 (3) (c)) 17 (4) (f)) 17 (5) (g))) rfl ?_
    refine pw_call (As := []) (st := []) (k := 14) rfl rfl rfl rfl rfl (Nat.le_of_ble_eq_true rfl) ?_
    refine cw_workOut (by simp only [rZ_, vi_ne (show (14:Nat) ≠ 17 by decide), sm_v p1 (k := 14) (j := 3) rfl]; exact p0) (fun x3 m14 g5 g6 g7 => ?_)
    have ez_ : x3 = xq_ (nv_ s o n c f g) (dr_ (vi_ m0 15) 0 (vi_ m0 14 3).toNat) [] := by
      rw [g6, xq_cg (vi_wn p2 p3 p4 p5 p6 p7)]
      simp only [vi_nef (show (15:Nat) ≠ 17 by decide), vi_ne (show (14:Nat) ≠ 17 by decide), sm_f p1 (k := 15) (fun _ => rfl), sm_v p1 (k := 14) (j := 3) rfl]
    refine pw_callS (As := [.int (ei_ (x3))]) (st := []) rfl (by decide) rfl rfl (Nat.le_of_ble_eq_true rfl) ?_
    refine cw_held (by omega) (fun x8 g9 => ?_)
    refine pw_iret rfl rfl rfl ?_
    exact k0 x8 m14 (by rw [g9, lw_v]; first | rw [if_pos (by omega)] | rw [if_neg (by omega), ez_]) ((sm_tr (sm_w (sm_w (sm_w (sm_w (sm_w (sm_w (sm_rfl m) (fun _ h_ => by rw [h_]; rfl)) (fun _ h_ => by rw [h_]; rfl)) (fun _ h_ => by rw [h_]; rfl)) (fun _ h_ => by rw [h_]; rfl)) (fun _ h_ => by rw [h_]; rfl)) (fun _ h_ => by rw [h_]; rfl)) (sm_le g5 pPi_Lw))) (by rw [g9]; exact hd_b _)
  · refine pw_steps 13 (s' := (22, [some (.ref 14), some (.int (ei_ (s))), some (.int (ei_ (o))), some (.int (ei_ (n))), some (.int (ei_ (c))), some (.int (ei_ (f))), some (.int (ei_ (g)))], [.int ((((((ei_ (c)) * (ei_ (s))) - ((ei_ (o)) * (ei_ (2)))) - (ei_ (f))) + (ei_ (n))) - (ei_ (1)))], m)) rfl ?_
    refine pw_cv (congrArg (fun z_ : Int32 => ((22, [some (.ref 14), some (.int (ei_ (s))), some (.int (ei_ (o))), some (.int (ei_ (n))), some (.int (ei_ (c))), some (.int (ei_ (f))), some (.int (ei_ (g)))], [.int z_], m) : am_S)) (ei_sub (ei_add (ei_sub (ei_sub (ei_mul rfl rfl) (ei_mul rfl rfl)) rfl) rfl) rfl)) ?_
    refine pw_callS (As := [.int (ei_ ((((((c * s) - (o * 2)) - f) + n) - 1)))]) (st := []) rfl (by decide) rfl rfl (Nat.le_of_ble_eq_true rfl) ?_
    refine cw_held (by omega) (fun x10 g11 => ?_)
    refine pw_iret rfl rfl rfl ?_
    exact k0 x10 m (by rw [g11, lw_v]; first | rw [if_pos (by omega)] | rw [if_neg (by omega), ez_]) ((sm_rfl m)) (by rw [g11]; exact hd_b _)

set_option maxHeartbeats 4000000 in
set_option maxRecDepth 20000 in
theorem cw_rate2 {q : am_X} {d : Nat} {m : am_M} {Q : Option Value → am_M → Prop} {m0 : am_M} {name : Int} {wearer : Int} {worn : Int} {cold : Int}  (p0 : rP_ m0) (p1 : rZ_ m0) (p2 : sm_ pSc m0 m) (p3 : 0 ≤ name ∧ name < vi_ m0 1 1) (p4 : 0 ≤ wearer ∧ wearer < vi_ m0 1 1) (p5 : 0 ≤ worn ∧ worn ≤ 9) (p6 : 0 ≤ cold ∧ cold ≤ 9) (k0 : ∀ (x : Int) (m1 : am_M), (x = rt_ m0 wearer name worn cold) → (sm_ pLw m m1) → (0 ≤ x ∧ x ≤ 99) → Q (some (.int (ei_ (x)))) m1) : pw_C q (d + 5) 47 [.ref 0, .int (ei_ (name)), .int (ei_ (wearer)), .int (ei_ (worn)), .int (ei_ (cold))] m Q := by
  obtain ⟨hP1, hP2, hP3, hP4⟩ := id p0
  refine pw_intro (I := iX8_rate) (T := tX8_rate) rfl rfl rfl ?_
  refine pw_steps 4 (s' := (6, [some (.ref 0), some (.int (ei_ (name))), some (.int (ei_ (wearer))), some (.int (ei_ (worn))), some (.int (ei_ (cold))), none, none, none, none], [.int (ei_ (3)), .int (ei_ (wearer)), .ref 1], m)) rfl ?_
  refine pw_call (As := [.int (ei_ (wearer)), .int (ei_ (3))]) (st := []) (k := 1) rfl rfl rfl rfl rfl (Nat.le_of_ble_eq_true rfl) ?_
  refine cw_told3 (p0) (p2) (p4) (fun x1 g2 g3 => ?_)
  refine pw_steps 1 (s' := (10, [some (.ref 0), some (.int (ei_ (name))), some (.int (ei_ (wearer))), some (.int (ei_ (worn))), some (.int (ei_ (cold))), none, none, none, none], [.int (ei_ (1)), .int (ei_ (x1))], m)) rfl ?_
  refine pw_cmp rfl (by omega) (by decide) (fun (h4 : ¬ x1 = 1) => ?_) (fun (h4 : ¬ ¬ x1 = 1) => ?_)
  · refine pw_steps 3 (s' := (22, [some (.ref 0), some (.int (ei_ (name))), some (.int (ei_ (wearer))), some (.int (ei_ (worn))), some (.int (ei_ (cold))), some (.int (ei_ (0))), none, none, none], [.int (ei_ (0))], m)) rfl ?_
    refine pw_ifT rfl (by decide) (show 0 = 0 by decide) ?_
    refine pw_steps 4 (s' := (35, [some (.ref 0), some (.int (ei_ (name))), some (.int (ei_ (wearer))), some (.int (ei_ (worn))), some (.int (ei_ (cold))), some (.int (ei_ (0))), none, none, none], [.int (ei_ (1)), .int (ei_ (wearer)), .ref 1], m)) rfl ?_
    refine pw_call (As := [.int (ei_ (wearer)), .int (ei_ (1))]) (st := []) (k := 1) rfl rfl rfl rfl rfl (Nat.le_of_ble_eq_true rfl) ?_
    refine cw_told1 (p0) (p2) (p4) (fun x5 g6 g7 => ?_)
    refine pw_steps 2 (s' := (42, [some (.ref 0), some (.int (ei_ (name))), some (.int (ei_ (wearer))), some (.int (ei_ (worn))), some (.int (ei_ (cold))), some (.int (ei_ (0))), some (.int (ei_ (x5))), none, none], [.int (ei_ (0))], m)) rfl ?_
    refine pw_ifT rfl (by decide) (show 0 = 0 by decide) ?_
    refine pw_steps 4 (s' := (62, [some (.ref 0), some (.int (ei_ (name))), some (.int (ei_ (wearer))), some (.int (ei_ (worn))), some (.int (ei_ (cold))), some (.int (ei_ (0))), some (.int (ei_ (x5))), some (.int (ei_ (0))), none], [.int (ei_ (name)), .int (ei_ (wearer))], m)) rfl ?_
    refine pw_cmp rfl (by omega) (by omega) (fun (h8 : ¬ wearer = name) => ?_) (fun (h8 : ¬ ¬ wearer = name) => ?_)
    · refine pw_steps 8 (s' := (82, [some (.ref 0), some (.int (ei_ (name))), some (.int (ei_ (wearer))), some (.int (ei_ (worn))), some (.int (ei_ (cold))), some (.int (ei_ (0))), some (.int (ei_ (x5))), some (.int (ei_ (0))), some (.int (ei_ (1)))], [.int (ei_ (0)), .int (ei_ (name)), .ref 1, .ref 14], m)) rfl ?_
      refine pw_call (As := [.int (ei_ (name)), .int (ei_ (0))]) (st := [.ref 14]) (k := 1) rfl rfl rfl rfl rfl (Nat.le_of_ble_eq_true rfl) ?_
      refine cw_told0 (p0) (p2) (p3) (fun x9 g10 g11 => ?_)
      refine pw_steps 5 (s' := (94, [some (.ref 0), some (.int (ei_ (name))), some (.int (ei_ (wearer))), some (.int (ei_ (worn))), some (.int (ei_ (cold))), some (.int (ei_ (0))), some (.int (ei_ (x5))), some (.int (ei_ (0))), some (.int (ei_ (1)))], [.int (ei_ (1)), .int (ei_ (0)), .int (ei_ (cold)), .int (ei_ (worn)), .int (ei_ (x5)), .int (ei_ (x9)), .ref 14], m)) rfl ?_
      refine pw_call (As := [.int (ei_ (x9)), .int (ei_ (x5)), .int (ei_ (worn)), .int (ei_ (cold)), .int (ei_ (0)), .int (ei_ (1))]) (st := []) (k := 14) rfl rfl rfl rfl rfl (Nat.le_of_ble_eq_true rfl) ?_
      refine cw_burnt2 (p1) (p2) (by omega) (by omega) (by omega) (by omega) (by omega) (by omega) (fun x12 m113 g14 g15 g16 => ?_)
      refine pw_iret rfl rfl rfl ?_
      exact k0 x12 m113 (by exact rt_of g14 (by omega) (by omega) (by omega) (by omega)) (g15) (by exact g16)
    · refine pw_steps 9 (s' := (82, [some (.ref 0), some (.int (ei_ (name))), some (.int (ei_ (wearer))), some (.int (ei_ (worn))), some (.int (ei_ (cold))), some (.int (ei_ (0))), some (.int (ei_ (x5))), some (.int (ei_ (0))), some (.int (ei_ (0)))], [.int (ei_ (0)), .int (ei_ (name)), .ref 1, .ref 14], m)) rfl ?_
      refine pw_call (As := [.int (ei_ (name)), .int (ei_ (0))]) (st := [.ref 14]) (k := 1) rfl rfl rfl rfl rfl (Nat.le_of_ble_eq_true rfl) ?_
      refine cw_told0 (p0) (p2) (p3) (fun x17 g18 g19 => ?_)
      refine pw_steps 5 (s' := (94, [some (.ref 0), some (.int (ei_ (name))), some (.int (ei_ (wearer))), some (.int (ei_ (worn))), some (.int (ei_ (cold))), some (.int (ei_ (0))), some (.int (ei_ (x5))), some (.int (ei_ (0))), some (.int (ei_ (0)))], [.int (ei_ (0)), .int (ei_ (0)), .int (ei_ (cold)), .int (ei_ (worn)), .int (ei_ (x5)), .int (ei_ (x17)), .ref 14], m)) rfl ?_
      refine pw_call (As := [.int (ei_ (x17)), .int (ei_ (x5)), .int (ei_ (worn)), .int (ei_ (cold)), .int (ei_ (0)), .int (ei_ (0))]) (st := []) (k := 14) rfl rfl rfl rfl rfl (Nat.le_of_ble_eq_true rfl) ?_
      refine cw_burnt2 (p1) (p2) (by omega) (by omega) (by omega) (by omega) (by omega) (by omega) (fun x20 m121 g22 g23 g24 => ?_)
      refine pw_iret rfl rfl rfl ?_
      exact k0 x20 m121 (by exact rt_of g22 (by omega) (by omega) (by omega) (by omega)) (g23) (by exact g24)
  · refine pw_steps 4 (s' := (22, [some (.ref 0), some (.int (ei_ (name))), some (.int (ei_ (wearer))), some (.int (ei_ (worn))), some (.int (ei_ (cold))), some (.int (ei_ (1))), none, none, none], [.int (ei_ (1))], m)) rfl ?_
    refine pw_ifF rfl (by decide) (show ¬ (1 = 0) by decide) ?_
    refine pw_steps 4 (s' := (42, [some (.ref 0), some (.int (ei_ (name))), some (.int (ei_ (wearer))), some (.int (ei_ (worn))), some (.int (ei_ (cold))), some (.int (ei_ (1))), some (.int (ei_ (0))), none, none], [.int (ei_ (1))], m)) rfl ?_
    refine pw_ifF rfl (by decide) (show ¬ (1 = 0) by decide) ?_
    refine pw_steps 4 (s' := (51, [some (.ref 0), some (.int (ei_ (name))), some (.int (ei_ (wearer))), some (.int (ei_ (worn))), some (.int (ei_ (cold))), some (.int (ei_ (1))), some (.int (ei_ (0))), none, none], [.int (ei_ (5)), .int (ei_ (0)), .ref 1], m)) rfl ?_
    refine pw_call (As := [.int (ei_ (0)), .int (ei_ (5))]) (st := []) (k := 1) rfl rfl rfl rfl rfl (Nat.le_of_ble_eq_true rfl) ?_
    refine cw_told5 (p0) (p2) (fun x25 g26 g27 => ?_)
    refine pw_steps 4 (s' := (62, [some (.ref 0), some (.int (ei_ (name))), some (.int (ei_ (wearer))), some (.int (ei_ (worn))), some (.int (ei_ (cold))), some (.int (ei_ (1))), some (.int (ei_ (0))), some (.int (ei_ (x25))), none], [.int (ei_ (name)), .int (ei_ (wearer))], m)) rfl ?_
    refine pw_cmp rfl (by omega) (by omega) (fun (h28 : ¬ wearer = name) => ?_) (fun (h28 : ¬ ¬ wearer = name) => ?_)
    · refine pw_steps 8 (s' := (82, [some (.ref 0), some (.int (ei_ (name))), some (.int (ei_ (wearer))), some (.int (ei_ (worn))), some (.int (ei_ (cold))), some (.int (ei_ (1))), some (.int (ei_ (0))), some (.int (ei_ (x25))), some (.int (ei_ (1)))], [.int (ei_ (0)), .int (ei_ (name)), .ref 1, .ref 14], m)) rfl ?_
      refine pw_call (As := [.int (ei_ (name)), .int (ei_ (0))]) (st := [.ref 14]) (k := 1) rfl rfl rfl rfl rfl (Nat.le_of_ble_eq_true rfl) ?_
      refine cw_told0 (p0) (p2) (p3) (fun x29 g30 g31 => ?_)
      refine pw_steps 5 (s' := (94, [some (.ref 0), some (.int (ei_ (name))), some (.int (ei_ (wearer))), some (.int (ei_ (worn))), some (.int (ei_ (cold))), some (.int (ei_ (1))), some (.int (ei_ (0))), some (.int (ei_ (x25))), some (.int (ei_ (1)))], [.int (ei_ (1)), .int (ei_ (x25)), .int (ei_ (cold)), .int (ei_ (worn)), .int (ei_ (0)), .int (ei_ (x29)), .ref 14], m)) rfl ?_
      refine pw_call (As := [.int (ei_ (x29)), .int (ei_ (0)), .int (ei_ (worn)), .int (ei_ (cold)), .int (ei_ (x25)), .int (ei_ (1))]) (st := []) (k := 14) rfl rfl rfl rfl rfl (Nat.le_of_ble_eq_true rfl) ?_
      refine cw_burnt2 (p1) (p2) (by omega) (by omega) (by omega) (by omega) (by omega) (by omega) (fun x32 m133 g34 g35 g36 => ?_)
      refine pw_iret rfl rfl rfl ?_
      exact k0 x32 m133 (by exact rt_of g34 (by omega) (by omega) (by omega) (by omega)) (g35) (by exact g36)
    · refine pw_steps 9 (s' := (82, [some (.ref 0), some (.int (ei_ (name))), some (.int (ei_ (wearer))), some (.int (ei_ (worn))), some (.int (ei_ (cold))), some (.int (ei_ (1))), some (.int (ei_ (0))), some (.int (ei_ (x25))), some (.int (ei_ (0)))], [.int (ei_ (0)), .int (ei_ (name)), .ref 1, .ref 14], m)) rfl ?_
      refine pw_call (As := [.int (ei_ (name)), .int (ei_ (0))]) (st := [.ref 14]) (k := 1) rfl rfl rfl rfl rfl (Nat.le_of_ble_eq_true rfl) ?_
      refine cw_told0 (p0) (p2) (p3) (fun x37 g38 g39 => ?_)
      refine pw_steps 5 (s' := (94, [some (.ref 0), some (.int (ei_ (name))), some (.int (ei_ (wearer))), some (.int (ei_ (worn))), some (.int (ei_ (cold))), some (.int (ei_ (1))), some (.int (ei_ (0))), some (.int (ei_ (x25))), some (.int (ei_ (0)))], [.int (ei_ (0)), .int (ei_ (x25)), .int (ei_ (cold)), .int (ei_ (worn)), .int (ei_ (0)), .int (ei_ (x37)), .ref 14], m)) rfl ?_
      refine pw_call (As := [.int (ei_ (x37)), .int (ei_ (0)), .int (ei_ (worn)), .int (ei_ (cold)), .int (ei_ (x25)), .int (ei_ (0))]) (st := []) (k := 14) rfl rfl rfl rfl rfl (Nat.le_of_ble_eq_true rfl) ?_
      refine cw_burnt2 (p1) (p2) (by omega) (by omega) (by omega) (by omega) (by omega) (by omega) (fun x40 m141 g42 g43 g44 => ?_)
      refine pw_iret rfl rfl rfl ?_
      exact k0 x40 m141 (by exact rt_of g42 (by omega) (by omega) (by omega) (by omega)) (g43) (by exact g44)

set_option maxHeartbeats 4000000 in
set_option maxRecDepth 20000 in
theorem cs_fill {q : am_X} {d : Nat} {m : am_M} {Q : Option Value → am_M → Prop} {m0 : am_M} {f : Int} {t : Int}  (p0 : rP_ m0) (p1 : rD_ m0) (p2 : rZ_ m0) (p3 : sm_ pSc m0 m) (p4 : 0 ≤ f ∧ f ≤ t ∧ t ≤ vi_ m0 1 1) (k0 : ∀ (m1 : am_M), (sm_ pSc m0 m1) → (∀ j, f ≤ j → j < t → ∀ i, 0 ≤ i → i < 10 → vi_ m1 46 (j * 10 + i) = rc_ m0 j i) → Q none m1) : pw_C q (d + 7) 108 [.ref 0, .int (ei_ (f)), .int (ei_ (t))] m Q := by
  obtain ⟨hP1, hP2, hP3, hP4⟩ := id p0
  refine pw_intro (I := iX8_fillRatesByCold) (T := tX8_fillRatesByCold) rfl rfl rfl ?_
  refine pw_steps 2 (s' := (2, [some (.ref 0), some (.int (ei_ (f))), some (.int (ei_ (t))), some (.int (ei_ (f))), none, none, none], [], m)) rfl ?_
  have L6 : ∀ (n4 : Nat) (k : Int) (u1 : Option Value) (u2 : Option Value) (u3 : Option Value) (m1 : am_M), (t - k).toNat = n4 → (f ≤ k ∧ k ≤ t) → (sm_ pSc m0 m1) → (∀ j, f ≤ j → j < k → ∀ i, 0 ≤ i → i < 10 → vi_ m1 46 (j * 10 + i) = rc_ m0 j i) → pw_V q (d + 6) iX8_fillRatesByCold.2.2.2.1 tX8_fillRatesByCold Q (2, [some (.ref 0), some (.int (ei_ (f))), some (.int (ei_ (t))), some (.int (ei_ (k))), u1, u2, u3], [], m1) := by
    intro n4
    induction n4 using Nat.strongRecOn with
    | _ n4 ih5 =>
      intro k u1 u2 u3 m1 hm_n4 v7 hs hH
      refine pw_steps 2 (s' := (4, [some (.ref 0), some (.int (ei_ (f))), some (.int (ei_ (t))), some (.int (ei_ (k))), u1, u2, u3], [.int (ei_ (t)), .int (ei_ (k))], m1)) rfl ?_
      refine pw_cmp rfl (by omega) (by omega) (fun (h8 : t ≤ k) => ?_) (fun (h8 : ¬ (t ≤ k)) => ?_)
      · refine pw_vret rfl rfl ?_
        exact k0 m1 (hs) (by intro j a_ b_; exact hH j a_ (by omega))
      · refine pw_steps 3 (s' := (12, [some (.ref 0), some (.int (ei_ (f))), some (.int (ei_ (t))), some (.int (ei_ (k))), u1, u2, u3], [.int (ei_ (k)), .ref 3], m1)) rfl ?_
        refine pw_call (As := [.int (ei_ (k))]) (st := []) (k := 3) rfl rfl rfl rfl rfl (Nat.le_of_ble_eq_true rfl) ?_
        refine cw_wearer2 (hs) (by omega) (fun x9 g10 g11 => ?_)
        have hwb_ := p1.1 k (by omega) (by omega)
        refine pw_steps 4 (s' := (23, [some (.ref 0), some (.int (ei_ (f))), some (.int (ei_ (t))), some (.int (ei_ (k))), some (.int (ei_ (x9))), u2, u3], [.int (ei_ (x9)), .ref 3], m1)) rfl ?_
        refine pw_call (As := [.int (ei_ (x9))]) (st := []) (k := 3) rfl rfl rfl rfl rfl (Nat.le_of_ble_eq_true rfl) ?_
        refine cw_worn (hs) (by omega) (fun x12 g13 g14 => ?_)
        refine pw_steps 3 (s' := (31, [some (.ref 0), some (.int (ei_ (f))), some (.int (ei_ (t))), some (.int (ei_ (k))), some (.int (ei_ (x9))), some (.int (ei_ (x12))), some (.int (ei_ (0)))], [], m1)) rfl ?_
        have L17 : ∀ (n15 : Nat) (c : Int) (m2 : am_M), (10 - c).toNat = n15 → (0 ≤ c ∧ c ≤ 10) → (sm_ pSc m0 m2) → (∀ j, f ≤ j → j < k → ∀ i, 0 ≤ i → i < 10 → vi_ m2 46 (j * 10 + i) = rc_ m0 j i) → (∀ i, 0 ≤ i → i < c → vi_ m2 46 (k * 10 + i) = rc_ m0 k i) → pw_V q (d + 6) iX8_fillRatesByCold.2.2.2.1 tX8_fillRatesByCold Q (31, [some (.ref 0), some (.int (ei_ (f))), some (.int (ei_ (t))), some (.int (ei_ (k))), some (.int (ei_ (x9))), some (.int (ei_ (x12))), some (.int (ei_ (c)))], [], m2) := by
          intro n15
          induction n15 using Nat.strongRecOn with
          | _ n15 ih16 =>
            intro c m2 hm_n15 v18 hs2 hH2 hI
            refine pw_steps 2 (s' := (35, [some (.ref 0), some (.int (ei_ (f))), some (.int (ei_ (t))), some (.int (ei_ (k))), some (.int (ei_ (x9))), some (.int (ei_ (x12))), some (.int (ei_ (c)))], [.int (ei_ (10)), .int (ei_ (c))], m2)) rfl ?_
            refine pw_cmp rfl (by omega) (by decide) (fun (h19 : 10 ≤ c) => ?_) (fun (h19 : ¬ (10 ≤ c)) => ?_)
            · refine pw_steps 2 (s' := (2, [some (.ref 0), some (.int (ei_ (f))), some (.int (ei_ (t))), some (.int ((ei_ (k)) + (ei_ (1)))), some (.int (ei_ (x9))), some (.int (ei_ (x12))), some (.int (ei_ (c)))], [], m2)) rfl ?_
              refine pw_cv (congrArg (fun z_ : Int32 => ((2, [some (.ref 0), some (.int (ei_ (f))), some (.int (ei_ (t))), some (.int z_), some (.int (ei_ (x9))), some (.int (ei_ (x12))), some (.int (ei_ (c)))], [], m2) : am_S)) (ei_add rfl rfl)) ?_
              exact ih5 _ (by omega) (k + 1) (some (.int (ei_ (x9)))) (some (.int (ei_ (x12)))) (some (.int (ei_ (c)))) m2 rfl (by omega) (hs2) (by intro j a_ b_ i c_ d_; by_cases e_ : j = k; (rw [e_]; exact hI i c_ (by omega)); exact hH2 j a_ (by omega) i c_ d_)
            · refine pw_steps 12 (s' := (57, [some (.ref 0), some (.int (ei_ (f))), some (.int (ei_ (t))), some (.int (ei_ (k))), some (.int (ei_ (x9))), some (.int (ei_ (x12))), some (.int (ei_ (c)))], [.int (ei_ (c)), .int (ei_ (x12)), .int (ei_ (x9)), .int (ei_ (k)), .ref 0, .int (((ei_ (k)) * (ei_ (10))) + (ei_ (c))), .ref 46], m2)) rfl ?_
              refine pw_cv (congrArg (fun z_ : Int32 => ((57, [some (.ref 0), some (.int (ei_ (f))), some (.int (ei_ (t))), some (.int (ei_ (k))), some (.int (ei_ (x9))), some (.int (ei_ (x12))), some (.int (ei_ (c)))], [.int (ei_ (c)), .int (ei_ (x12)), .int (ei_ (x9)), .int (ei_ (k)), .ref 0, .int z_, .ref 46], m2) : am_S)) (ei_add (ei_mul rfl rfl) rfl)) ?_
              refine pw_call (As := [.int (ei_ (k)), .int (ei_ (x9)), .int (ei_ (x12)), .int (ei_ (c))]) (st := [.int (ei_ (((k * 10) + c))), .ref 46]) (k := 0) rfl rfl rfl rfl rfl (Nat.le_of_ble_eq_true rfl) ?_
              refine cw_rate2 (p0) (p2) (hs2) (by omega) (by omega) (by omega) (by omega) (fun x20 m121 g22 g23 g24 => ?_)
              refine pw_ist rfl rfl (by omega) ?_
              refine pw_steps 2 (s' := (31, [some (.ref 0), some (.int (ei_ (f))), some (.int (ei_ (t))), some (.int (ei_ (k))), some (.int (ei_ (x9))), some (.int (ei_ (x12))), some (.int ((ei_ (c)) + (ei_ (1))))], [], wi_ m121 46 (((k * 10) + c)) (x20))) rfl ?_
              refine pw_cv (congrArg (fun z_ : Int32 => ((31, [some (.ref 0), some (.int (ei_ (f))), some (.int (ei_ (t))), some (.int (ei_ (k))), some (.int (ei_ (x9))), some (.int (ei_ (x12))), some (.int z_)], [], wi_ m121 46 (((k * 10) + c)) (x20)) : am_S)) (ei_add rfl rfl)) ?_
              exact ih16 _ (by omega) (c + 1) (wi_ m121 46 (((k * 10) + c)) (x20)) rfl (by omega) ((sm_w (sm_tr hs2 (sm_le g23 pLw_Sc)) (fun _ h_ => by rw [h_]; rfl))) (by intro j a_ b_ i c_ d_; (simp (disch := omega) only [vi_up]); rw [if_neg (by omega), sm_f g23 (k := 46) (fun _ => rfl)]; exact hH2 j a_ b_ i c_ d_) (by intro i c_ d_; (simp (disch := omega) only [vi_up]); by_cases e_ : i = c; (rw [if_pos (by omega), e_, g22]; unfold rc_; rw [← g10, ← g13]); (rw [if_neg (by omega), sm_f g23 (k := 46) (fun _ => rfl)]; exact hI i c_ (by omega)))
        exact L17 _ 0 m1 rfl (by omega) (hs) (by exact hH) (by intro i a_ b_; omega)
  exact L6 _ f none none none m rfl (by omega) (p3) (by intro j a_ b_; omega)

def pC45 (k _j : Nat) : Bool := k == 45
theorem pC45_Sc : ∀ k j, pSc k j = false → pC45 k j = false := by
  intro k j h
  simp only [pC45, pSc, Bool.or_eq_false_iff, Bool.and_eq_false_iff, beq_eq_false_iff_ne, decide_eq_false_iff_not] at h ⊢
  omega

set_option maxHeartbeats 4000000 in
set_option maxRecDepth 20000 in
theorem cs_cpT {q : am_X} {d : Nat} {m : am_M} {Q : Option Value → am_M → Prop}    (k0 : ∀ (m1 : am_M), (sm_ pC45 m m1) → (∀ j, 0 ≤ j → j < 8 → vi_ m1 45 j = vi_ m 5 j) → Q none m1) : pw_C q (d + 1) 109 [.ref 3, .ref 45] m Q := by
  refine pw_intro (I := iX2_copyLeft) (T := tX2_copyLeft) rfl rfl rfl ?_
  refine pw_steps 9 (s' := (14, [some (.ref 3), some (.ref 45)], [.int ((if (ei_ (8)) < (ei_ (8)) then ei_ (8) else ei_ (8))), .int (ei_ (0)), .ref 45, .int (ei_ (0)), .ref 5], m)) rfl ?_
  refine pw_cv (congrArg (fun z_ : Int32 => ((14, [some (.ref 3), some (.ref 45)], [.int z_, .int (ei_ (0)), .ref 45, .int (ei_ (0)), .ref 5], m) : am_S)) (ei_min (by decide) (by decide) rfl rfl)) ?_
  refine pw_cpy rfl (Nat.le_of_ble_eq_true rfl) rfl rfl (by omega) ?_
  refine pw_vret rfl rfl ?_
  exact k0 (cp_ m 5 45 0 0 8) (by exact sm_cp (fun _ => rfl)) (by intro j a_ b_; exact (vi_cp a_ (by omega)).trans (if_pos b_))

set_option maxHeartbeats 4000000 in
set_option maxRecDepth 20000 in
theorem cs_drw {q : am_X} {d : Nat} {m : am_M} {Q : Option Value → am_M → Prop} {z : Int} {n : Int} {f : Int} {t : Int} {r : Int → Int → Int} (p0 : ∀ j, f ≤ j → j < t → ∀ i, 0 ≤ i → i < 10 → vi_ m 46 (j * 10 + i) = r j i) (p1 : ∀ j i, 0 ≤ r j i ∧ r j i ≤ 99) (p2 : 0 ≤ f ∧ f ≤ t ∧ t ≤ 8) (p3 : ∀ j, f ≤ j → j < t → 0 ≤ vi_ m 45 j ∧ vi_ m 45 j ≤ 999) (p4 : 0 ≤ n ∧ n ≤ 99) (k0 : ∀ (x : Int) (m1 : am_M), (x = dz_ z n.toNat) → (sm_ pC45 m m1) → (∀ j, f ≤ j → j < t → vi_ m1 45 j = dl_ (r j) z (vi_ m 45 j) n.toNat) → Q (some (.int (ei_ (x)))) m1) : pw_C q (d + 3) 110 [.ref 0, .int (ei_ (z)), .int (ei_ (n)), .int (ei_ (f)), .int (ei_ (t))] m Q := by
  refine pw_intro (I := iX8_drawWinter) (T := tX8_drawWinter) rfl rfl rfl ?_
  refine pw_steps 4 (s' := (6, [some (.ref 0), some (.int (ei_ (z))), some (.int (ei_ (n))), some (.int (ei_ (f))), some (.int (ei_ (t))), some (.int (ei_ (z))), some (.int (ei_ (0))), none, none], [], m)) rfl ?_
  have L5 : ∀ (n3 : Nat) (v2 : Int) (k : Int) (u1 : Option Value) (u2 : Option Value) (m1 : am_M), (n - k).toNat = n3 → (0 ≤ k ∧ k ≤ n) → (sm_ pC45 m m1) → (v2 = dz_ z k.toNat) → (∀ j, f ≤ j → j < t → vi_ m1 45 j = dl_ (r j) z (vi_ m 45 j) k.toNat) → pw_V q (d + 2) iX8_drawWinter.2.2.2.1 tX8_drawWinter Q (6, [some (.ref 0), some (.int (ei_ (z))), some (.int (ei_ (n))), some (.int (ei_ (f))), some (.int (ei_ (t))), some (.int (ei_ (v2))), some (.int (ei_ (k))), u1, u2], [], m1) := by
    intro n3
    induction n3 using Nat.strongRecOn with
    | _ n3 ih4 =>
      intro v2 k u1 u2 m1 hm_n3 v6 hs hz hT
      refine pw_steps 2 (s' := (9, [some (.ref 0), some (.int (ei_ (z))), some (.int (ei_ (n))), some (.int (ei_ (f))), some (.int (ei_ (t))), some (.int (ei_ (v2))), some (.int (ei_ (k))), u1, u2], [.int (ei_ (n)), .int (ei_ (k))], m1)) rfl ?_
      refine pw_cmp rfl (by omega) (by omega) (fun (h7 : n ≤ k) => ?_) (fun (h7 : ¬ (n ≤ k)) => ?_)
      · refine pw_steps 1 (s' := (90, [some (.ref 0), some (.int (ei_ (z))), some (.int (ei_ (n))), some (.int (ei_ (f))), some (.int (ei_ (t))), some (.int (ei_ (v2))), some (.int (ei_ (k))), u1, u2], [.int (ei_ (v2))], m1)) rfl ?_
        refine pw_iret rfl rfl rfl ?_
        exact k0 v2 m1 (by rw [← show k = n by omega]; exact hz) (by exact hs) (by rw [← show k = n by omega]; exact hT)
      · refine pw_steps 10 (s' := (31, [some (.ref 0), some (.int (ei_ (z))), some (.int (ei_ (n))), some (.int (ei_ (f))), some (.int (ei_ (t))), some (.int (((ei_ (v2)) * (ei_ (1103515245))) + (ei_ (12345)))), some (.int (ei_ (k))), u1, u2], [.int (ei_ (10)), .int (((((((ei_ (v2)) * (ei_ (1103515245))) + (ei_ (12345)))).toUInt32 >>> (((ei_ (8))).toUInt32 &&& Int32.toUInt32 31)).toInt32))], m1)) rfl ?_
        refine pw_cv (congrArg (fun z_ : Int32 => ((31, [some (.ref 0), some (.int (ei_ (z))), some (.int (ei_ (n))), some (.int (ei_ (f))), some (.int (ei_ (t))), some (.int (((ei_ (v2)) * (ei_ (1103515245))) + (ei_ (12345)))), some (.int (ei_ (k))), u1, u2], [.int (ei_ (10)), .int z_], m1) : am_S)) (ei_us (ei_add (ei_mul rfl rfl) rfl) rfl)) ?_
        refine pw_cv (congrArg (fun z_ : Int32 => ((31, [some (.ref 0), some (.int (ei_ (z))), some (.int (ei_ (n))), some (.int (ei_ (f))), some (.int (ei_ (t))), some (.int z_), some (.int (ei_ (k))), u1, u2], [.int (ei_ (10)), .int (ei_ ((us_ ((v2 * 1103515245) + 12345) 8)))], m1) : am_S)) (ei_add (ei_mul rfl rfl) rfl)) ?_
        have hus_ := us8_b ((v2 * 1103515245) + 12345)
        refine pw_remN rfl (by omega) (by omega) ?_
        refine pw_steps 3 (s' := (37, [some (.ref 0), some (.int (ei_ (z))), some (.int (ei_ (n))), some (.int (ei_ (f))), some (.int (ei_ (t))), some (.int (ei_ (((v2 * 1103515245) + 12345)))), some (.int (ei_ (k))), some (.int (ei_ (((us_ ((v2 * 1103515245) + 12345) 8) % 10)))), some (.int (ei_ (f)))], [], m1)) rfl ?_
        have L10 : ∀ (n8 : Nat) (i : Int) (m2 : am_M), (t - i).toNat = n8 → (f ≤ i ∧ i ≤ t) → (sm_ pC45 m m2) → (∀ j, f ≤ j → j < i → vi_ m2 45 j = dl_ (r j) z (vi_ m 45 j) (k + 1).toNat) → (∀ j, i ≤ j → j < t → vi_ m2 45 j = dl_ (r j) z (vi_ m 45 j) k.toNat) → pw_V q (d + 2) iX8_drawWinter.2.2.2.1 tX8_drawWinter Q (37, [some (.ref 0), some (.int (ei_ (z))), some (.int (ei_ (n))), some (.int (ei_ (f))), some (.int (ei_ (t))), some (.int (ei_ (((v2 * 1103515245) + 12345)))), some (.int (ei_ (k))), some (.int (ei_ (((us_ ((v2 * 1103515245) + 12345) 8) % 10)))), some (.int (ei_ (i)))], [], m2) := by
          intro n8
          induction n8 using Nat.strongRecOn with
          | _ n8 ih9 =>
            intro i m2 hm_n8 v11 hs2 hA hB
            refine pw_steps 2 (s' := (41, [some (.ref 0), some (.int (ei_ (z))), some (.int (ei_ (n))), some (.int (ei_ (f))), some (.int (ei_ (t))), some (.int (ei_ (((v2 * 1103515245) + 12345)))), some (.int (ei_ (k))), some (.int (ei_ (((us_ ((v2 * 1103515245) + 12345) 8) % 10)))), some (.int (ei_ (i)))], [.int (ei_ (t)), .int (ei_ (i))], m2)) rfl ?_
            refine pw_cmp rfl (by omega) (by omega) (fun (h12 : t ≤ i) => ?_) (fun (h12 : ¬ (t ≤ i)) => ?_)
            · refine pw_steps 2 (s' := (6, [some (.ref 0), some (.int (ei_ (z))), some (.int (ei_ (n))), some (.int (ei_ (f))), some (.int (ei_ (t))), some (.int (ei_ (((v2 * 1103515245) + 12345)))), some (.int ((ei_ (k)) + (ei_ (1)))), some (.int (ei_ (((us_ ((v2 * 1103515245) + 12345) 8) % 10)))), some (.int (ei_ (i)))], [], m2)) rfl ?_
              refine pw_cv (congrArg (fun z_ : Int32 => ((6, [some (.ref 0), some (.int (ei_ (z))), some (.int (ei_ (n))), some (.int (ei_ (f))), some (.int (ei_ (t))), some (.int (ei_ (((v2 * 1103515245) + 12345)))), some (.int z_), some (.int (ei_ (((us_ ((v2 * 1103515245) + 12345) 8) % 10)))), some (.int (ei_ (i)))], [], m2) : am_S)) (ei_add rfl rfl)) ?_
              exact ih4 _ (by omega) ((v2 * 1103515245) + 12345) (k + 1) (some (.int (ei_ (((us_ ((v2 * 1103515245) + 12345) 8) % 10))))) (some (.int (ei_ (i)))) m2 rfl (by omega) (hs2) (by rw [dz_s (by omega), ← hz]) (by intro j a_ b_; exact hA j a_ (by omega))
            · refine pw_steps 7 (s' := (57, [some (.ref 0), some (.int (ei_ (z))), some (.int (ei_ (n))), some (.int (ei_ (f))), some (.int (ei_ (t))), some (.int (ei_ (((v2 * 1103515245) + 12345)))), some (.int (ei_ (k))), some (.int (ei_ (((us_ ((v2 * 1103515245) + 12345) 8) % 10)))), some (.int (ei_ (i)))], [.int (ei_ (i)), .ref 45, .int (ei_ (0)), .int (ei_ (i)), .ref 45], m2)) rfl ?_
              refine pw_ild rfl rfl (by omega) (fun x13 (hx13 : x13 = vi_ m2 45 i) rx13 sx13 => ?_)
              have b14 := hB i (by omega) (by omega)
              have b14b := dl_b (z := z) (p3 i (by omega) (by omega)).1 (fun c_ => (p1 i c_).1) k.toNat
              have b14c := p3 i (by omega) (by omega)
              refine pw_steps 7 (s' := (70, [some (.ref 0), some (.int (ei_ (z))), some (.int (ei_ (n))), some (.int (ei_ (f))), some (.int (ei_ (t))), some (.int (ei_ (((v2 * 1103515245) + 12345)))), some (.int (ei_ (k))), some (.int (ei_ (((us_ ((v2 * 1103515245) + 12345) 8) % 10)))), some (.int (ei_ (i)))], [.int (((ei_ (i)) * (ei_ (10))) + (ei_ (((us_ ((v2 * 1103515245) + 12345) 8) % 10)))), .ref 46, .int (ei_ (x13)), .int (ei_ (0)), .int (ei_ (i)), .ref 45], m2)) rfl ?_
              refine pw_cv (congrArg (fun z_ : Int32 => ((70, [some (.ref 0), some (.int (ei_ (z))), some (.int (ei_ (n))), some (.int (ei_ (f))), some (.int (ei_ (t))), some (.int (ei_ (((v2 * 1103515245) + 12345)))), some (.int (ei_ (k))), some (.int (ei_ (((us_ ((v2 * 1103515245) + 12345) 8) % 10)))), some (.int (ei_ (i)))], [.int z_, .ref 46, .int (ei_ (x13)), .int (ei_ (0)), .int (ei_ (i)), .ref 45], m2) : am_S)) (ei_add (ei_mul rfl rfl) rfl)) ?_
              refine pw_ild rfl rfl (by omega) (fun x15 (hx15 : x15 = vi_ m2 46 ((i * 10) + ((us_ ((v2 * 1103515245) + 12345) 8) % 10))) rx15 sx15 => ?_)
              have ox15 := hx15
              replace hx15 : x15 = vi_ m 46 ((i * 10) + ((us_ ((v2 * 1103515245) + 12345) 8) % 10)) := hx15.trans (sm_v hs2 rfl)
              have b16 := p0 i (by omega) (by omega) (us_ ((v2 * 1103515245) + 12345) 8 % 10) (by omega) (by omega)
              have b16b := p1 i (us_ ((v2 * 1103515245) + 12345) 8 % 10)
              refine pw_steps 2 (s' := (75, [some (.ref 0), some (.int (ei_ (z))), some (.int (ei_ (n))), some (.int (ei_ (f))), some (.int (ei_ (t))), some (.int (ei_ (((v2 * 1103515245) + 12345)))), some (.int (ei_ (k))), some (.int (ei_ (((us_ ((v2 * 1103515245) + 12345) 8) % 10)))), some (.int (ei_ (i)))], [.int ((if (ei_ (0)) < ((ei_ (x13)) - (ei_ (x15))) then (ei_ (x13)) - (ei_ (x15)) else ei_ (0))), .int (ei_ (i)), .ref 45], m2)) rfl ?_
              refine pw_cv (congrArg (fun z_ : Int32 => ((75, [some (.ref 0), some (.int (ei_ (z))), some (.int (ei_ (n))), some (.int (ei_ (f))), some (.int (ei_ (t))), some (.int (ei_ (((v2 * 1103515245) + 12345)))), some (.int (ei_ (k))), some (.int (ei_ (((us_ ((v2 * 1103515245) + 12345) 8) % 10)))), some (.int (ei_ (i)))], [.int z_, .int (ei_ (i)), .ref 45], m2) : am_S)) (ei_max (by decide) (by omega) rfl (ei_sub rfl rfl))) ?_
              refine pw_ist rfl rfl (by omega) ?_
              refine pw_steps 2 (s' := (37, [some (.ref 0), some (.int (ei_ (z))), some (.int (ei_ (n))), some (.int (ei_ (f))), some (.int (ei_ (t))), some (.int (ei_ (((v2 * 1103515245) + 12345)))), some (.int (ei_ (k))), some (.int (ei_ (((us_ ((v2 * 1103515245) + 12345) 8) % 10)))), some (.int ((ei_ (i)) + (ei_ (1))))], [], wi_ m2 45 (i) ((max 0 (x13 - x15))))) rfl ?_
              refine pw_cv (congrArg (fun z_ : Int32 => ((37, [some (.ref 0), some (.int (ei_ (z))), some (.int (ei_ (n))), some (.int (ei_ (f))), some (.int (ei_ (t))), some (.int (ei_ (((v2 * 1103515245) + 12345)))), some (.int (ei_ (k))), some (.int (ei_ (((us_ ((v2 * 1103515245) + 12345) 8) % 10)))), some (.int z_)], [], wi_ m2 45 (i) ((max 0 (x13 - x15)))) : am_S)) (ei_add rfl rfl)) ?_
              exact ih9 _ (by omega) (i + 1) (wi_ m2 45 (i) ((max 0 (x13 - x15)))) rfl (by omega) ((sm_w hs2 (fun _ h_ => by rw [h_]; rfl))) (by intro j a_ b_; (simp (disch := omega) only [vi_up]); by_cases e_ : j = i; (rw [if_pos e_, e_, dl_s (by omega), ← hz]; omega); (rw [if_neg e_]; exact hA j a_ (by omega))) (by intro j a_ b_; (simp (disch := omega) only [vi_up]); rw [if_neg (by omega)]; exact hB j (by omega) b_)
        exact L10 _ f m1 rfl (by omega) (hs) (by intro j a_ b_; omega) (by intro j a_ b_; exact hT j a_ b_)
  exact L5 _ z 0 none none m rfl (by omega) ((sm_rfl m)) (by rfl) (by intro j a_ b_; rfl)

set_option maxHeartbeats 4000000 in
set_option maxRecDepth 20000 in
theorem cs_drawn {q : am_X} {d : Nat} {m : am_M} {Q : Option Value → am_M → Prop} {m0 : am_M} {a : Int} {b : Int} {c : Int}  (p0 : rP_ m0) (p1 : rD_ m0) (p2 : rZ_ m0) (p3 : rL_ m0) (p4 : sm_ pSc m0 m) (p5 : -2147483648 ≤ a ∧ a < 2147483648) (p6 : -2147483648 ≤ b ∧ b < 2147483648) (p7 : -2147483648 ≤ c ∧ c < 2147483648) (k0 : ∀ (x : Int) (m1 : am_M), (x = sdr_ m0 a b c) → (sm_ pSc m0 m1) → Q (some (.int (ei_ (x)))) m1) : pw_C q (d + 60) 107 [.ref 0, .int (ei_ (a)), .int (ei_ (b)), .int (ei_ (c))] m Q := by
  obtain ⟨hP1, hP2, hP3, hP4⟩ := id p0
  have hmw := mW_of p0 p1
  have hmf := mF_of p0 p1
  refine pw_intro (I := iX8_drawn) (T := tX8_drawn) rfl rfl rfl ?_
  rcases (show b < 0 ∨ 0 ≤ b by omega) with hb_ | hb_
  · have ht_ := td_neg hb_
    refine pw_steps 2 (s' := (3, [some (.ref 0), some (.int (ei_ (a))), some (.int (ei_ (b))), some (.int (ei_ (c))), none, none, none, none, none, none, none, none], [.int (ei_ (100)), .int (ei_ (b))], m)) rfl ?_
    refine pw_div rfl p6 (by decide) (by omega) ?_
    refine pw_steps 3 (s' := (9, [some (.ref 0), some (.int (ei_ (a))), some (.int (ei_ (b))), some (.int (ei_ (c))), some (.int (ei_ ((b.tdiv 100)))), none, none, none, none, none, none, none], [.int (ei_ (100)), .int (ei_ (b))], m)) rfl ?_
    refine pw_rem rfl p6 (by decide) (by omega) ?_
    refine pw_steps 3 (s' := (15, [some (.ref 0), some (.int (ei_ (a))), some (.int (ei_ (b))), some (.int (ei_ (c))), some (.int (ei_ ((b.tdiv 100)))), some (.int (ei_ ((b - b.tdiv 100 * 100)))), none, none, none, none, none, none], [.int (ei_ (1)), .int (ei_ ((b.tdiv 100)))], m)) rfl ?_
    refine pw_cmpT rfl (by omega) (by decide) (show (b.tdiv 100) < 1 by omega) ?_
    refine pw_steps 1 (s' := (32, [some (.ref 0), some (.int (ei_ (a))), some (.int (ei_ (b))), some (.int (ei_ (c))), some (.int (ei_ ((b.tdiv 100)))), some (.int (ei_ ((b - b.tdiv 100 * 100)))), none, none, none, none, none, none], [.int (ei_ ((-1)))], m)) rfl ?_
    refine pw_iret rfl rfl rfl ?_
    exact k0 (-1) m (by unfold sdr_; rw [if_neg (by omega)]) (p4)
  · refine pw_steps 2 (s' := (3, [some (.ref 0), some (.int (ei_ (a))), some (.int (ei_ (b))), some (.int (ei_ (c))), none, none, none, none, none, none, none, none], [.int (ei_ (100)), .int (ei_ (b))], m)) rfl ?_
    refine pw_divN rfl (by omega) (by omega) ?_
    refine pw_steps 3 (s' := (9, [some (.ref 0), some (.int (ei_ (a))), some (.int (ei_ (b))), some (.int (ei_ (c))), some (.int (ei_ ((b / 100)))), none, none, none, none, none, none, none], [.int (ei_ (100)), .int (ei_ (b))], m)) rfl ?_
    refine pw_remN rfl (by omega) (by omega) ?_
    refine pw_steps 3 (s' := (15, [some (.ref 0), some (.int (ei_ (a))), some (.int (ei_ (b))), some (.int (ei_ (c))), some (.int (ei_ ((b / 100)))), some (.int (ei_ ((b % 100)))), none, none, none, none, none, none], [.int (ei_ (1)), .int (ei_ ((b / 100)))], m)) rfl ?_
    refine pw_cmp rfl (by omega) (by decide) (fun (h1 : (b / 100) < 1) => ?_) (fun (h1 : ¬ ((b / 100) < 1)) => ?_)
    · refine pw_steps 1 (s' := (32, [some (.ref 0), some (.int (ei_ (a))), some (.int (ei_ (b))), some (.int (ei_ (c))), some (.int (ei_ ((b / 100)))), some (.int (ei_ ((b % 100)))), none, none, none, none, none, none], [.int (ei_ ((-1)))], m)) rfl ?_
      refine pw_iret rfl rfl rfl ?_
      exact k0 (-1) m (by unfold sdr_; rw [if_neg (by omega)]) (p4)
    · refine pw_steps 2 (s' := (22, [some (.ref 0), some (.int (ei_ (a))), some (.int (ei_ (b))), some (.int (ei_ (c))), some (.int (ei_ ((b / 100)))), some (.int (ei_ ((b % 100)))), none, none, none, none, none, none], [.int (ei_ (20)), .int (ei_ ((b / 100)))], m)) rfl ?_
      refine pw_cmp rfl (by omega) (by decide) (fun (h2 : 20 < (b / 100)) => ?_) (fun (h2 : ¬ (20 < (b / 100))) => ?_)
      · refine pw_steps 1 (s' := (32, [some (.ref 0), some (.int (ei_ (a))), some (.int (ei_ (b))), some (.int (ei_ (c))), some (.int (ei_ ((b / 100)))), some (.int (ei_ ((b % 100)))), none, none, none, none, none, none], [.int (ei_ ((-1)))], m)) rfl ?_
        refine pw_iret rfl rfl rfl ?_
        exact k0 (-1) m (by unfold sdr_; rw [if_neg (by omega)]) (p4)
      · refine pw_steps 2 (s' := (28, [some (.ref 0), some (.int (ei_ (a))), some (.int (ei_ (b))), some (.int (ei_ (c))), some (.int (ei_ ((b / 100)))), some (.int (ei_ ((b % 100)))), none, none, none, none, none, none], [.int (ei_ (1)), .int (ei_ ((b % 100)))], m)) rfl ?_
        refine pw_cmp rfl (by omega) (by decide) (fun (h3 : 1 ≤ (b % 100)) => ?_) (fun (h3 : ¬ (1 ≤ (b % 100))) => ?_)
        · refine pw_steps 2 (s' := (35, [some (.ref 0), some (.int (ei_ (a))), some (.int (ei_ (b))), some (.int (ei_ (c))), some (.int (ei_ ((b / 100)))), some (.int (ei_ ((b % 100)))), none, none, none, none, none, none], [.int (ei_ ((-1))), .int (ei_ (c))], m)) rfl ?_
          refine pw_cmp rfl p7 (by decide) (fun (h4 : c = (-1)) => ?_) (fun (h4 : ¬ (c = (-1))) => ?_)
          · refine pw_steps 2 (s' := (53, [some (.ref 0), some (.int (ei_ (a))), some (.int (ei_ (b))), some (.int (ei_ (c))), some (.int (ei_ ((b / 100)))), some (.int (ei_ ((b % 100)))), none, none, none, none, none, none], [.int (ei_ ((-1))), .int (ei_ (c))], m)) rfl ?_
            refine pw_cmpF rfl p7 (by decide) (show ¬ (¬ c = (-1)) by omega) ?_
            refine pw_steps 5 (s' := (65, [some (.ref 0), some (.int (ei_ (a))), some (.int (ei_ (b))), some (.int (ei_ (c))), some (.int (ei_ ((b / 100)))), some (.int (ei_ ((b % 100)))), some (.int (ei_ (0))), none, none, none, none, none], [.int (ei_ ((-1))), .int (ei_ (c))], m)) rfl ?_
            refine pw_cmpF rfl p7 (by decide) (show ¬ (¬ c = (-1)) by omega) ?_
            refine pw_steps 2 (s' := (72, [some (.ref 0), some (.int (ei_ (a))), some (.int (ei_ (b))), some (.int (ei_ (c))), some (.int (ei_ ((b / 100)))), some (.int (ei_ ((b % 100)))), some (.int (ei_ (0))), none, none, none, none, none], [.ref 1], m)) rfl ?_
            refine pw_call (As := []) (st := []) (k := 1) rfl rfl rfl rfl rfl (Nat.le_of_ble_eq_true rfl) ?_
            refine pw_intro (I := iX3_size) (T := tX3_size) rfl rfl rfl ?_
            refine pw_steps 1 (s' := (1, [some (.ref 1)], [.ref 1], m)) rfl ?_
            refine pw_get rfl rfl (fun x5 (hx5 : x5 = vi_ m 1 1) rx5 sx5 => ?_)
            have ox5 := hx5
            replace hx5 : x5 = vi_ m0 1 1 := hx5.trans (sm_v p4 rfl)
            refine pw_iret rfl rfl rfl ?_
            refine pw_steps 5 (s' := (88, [some (.ref 0), some (.int (ei_ (a))), some (.int (ei_ (b))), some (.int (ei_ (c))), some (.int (ei_ ((b / 100)))), some (.int (ei_ ((b % 100)))), some (.int (ei_ (0))), some (.int (ei_ (x5))), none, none, none, none], [.int (ei_ (x5)), .int (ei_ (0)), .ref 0], m)) rfl ?_
            refine pw_call (As := [.int (ei_ (0)), .int (ei_ (x5))]) (st := []) (k := 0) rfl rfl rfl rfl rfl (Nat.le_of_ble_eq_true rfl) ?_
            refine cs_fill (p0) (p1) (p2) (p4) (by omega) (fun m16 g7 g8 => ?_)
            refine pw_steps 6 (s' := (100, [some (.ref 0), some (.int (ei_ (a))), some (.int (ei_ (b))), some (.int (ei_ (c))), some (.int (ei_ ((b / 100)))), some (.int (ei_ ((b % 100)))), some (.int (ei_ (0))), some (.int (ei_ (x5))), some (.int (ei_ (a))), some (.int (ei_ (0))), some (.int (ei_ (0))), none], [], m16)) rfl ?_
            have L12 : ∀ (n10 : Nat) (v2 : Int) (s : Int) (k : Int) (u9 : Option Value) (m1 : am_M), (b / 100 - k).toNat = n10 → (0 ≤ k ∧ k ≤ b / 100) → (sm_ pSc m0 m1) → (∀ j, 0 ≤ j → j < vi_ m0 1 1 → (c < 0 ∨ j = c) → ∀ i, 0 ≤ i → i < 10 → vi_ m1 46 (j * 10 + i) = rc_ m0 j i) → (v2 = zw_ a (b % 100) k.toNat) → (s = dn_ m0 (b % 100) c a k.toNat) → pw_V q (d + 59) iX8_drawn.2.2.2.1 tX8_drawn Q (100, [some (.ref 0), some (.int (ei_ (a))), some (.int (ei_ (b))), some (.int (ei_ (c))), some (.int (ei_ ((b / 100)))), some (.int (ei_ ((b % 100)))), some (.int (ei_ (0))), some (.int (ei_ (x5))), some (.int (ei_ (v2))), some (.int (ei_ (s))), some (.int (ei_ (k))), u9], [], m1) := by
              intro n10
              induction n10 using Nat.strongRecOn with
              | _ n10 ih11 =>
                intro v2 s k u9 m1 hm_n10 v13 hs hH hz hv
                refine pw_steps 2 (s' := (104, [some (.ref 0), some (.int (ei_ (a))), some (.int (ei_ (b))), some (.int (ei_ (c))), some (.int (ei_ ((b / 100)))), some (.int (ei_ ((b % 100)))), some (.int (ei_ (0))), some (.int (ei_ (x5))), some (.int (ei_ (v2))), some (.int (ei_ (s))), some (.int (ei_ (k))), u9], [.int (ei_ ((b / 100))), .int (ei_ (k))], m1)) rfl ?_
                refine pw_cmp rfl (by omega) (by omega) (fun (h14 : (b / 100) ≤ k) => ?_) (fun (h14 : ¬ ((b / 100) ≤ k)) => ?_)
                · refine pw_steps 1 (s' := (191, [some (.ref 0), some (.int (ei_ (a))), some (.int (ei_ (b))), some (.int (ei_ (c))), some (.int (ei_ ((b / 100)))), some (.int (ei_ ((b % 100)))), some (.int (ei_ (0))), some (.int (ei_ (x5))), some (.int (ei_ (v2))), some (.int (ei_ (s))), some (.int (ei_ (k))), u9], [.int (ei_ (s))], m1)) rfl ?_
                  refine pw_iret rfl rfl rfl ?_
                  exact k0 s m1 (by unfold sdr_; rw [if_pos (by omega), ← show k = b / 100 by omega]; exact hv) (hs)
                · refine pw_steps 4 (s' := (115, [some (.ref 0), some (.int (ei_ (a))), some (.int (ei_ (b))), some (.int (ei_ (c))), some (.int (ei_ ((b / 100)))), some (.int (ei_ ((b % 100)))), some (.int (ei_ (0))), some (.int (ei_ (x5))), some (.int (ei_ (v2))), some (.int (ei_ (s))), some (.int (ei_ (k))), u9], [.ref 45, .ref 3], m1)) rfl ?_
                  refine pw_call (As := [.ref 45]) (st := []) (k := 3) rfl rfl rfl rfl rfl (Nat.le_of_ble_eq_true rfl) ?_
                  refine cs_cpT  (fun m115 g16 g17 => ?_)
                  refine pw_steps 5 (s' := (127, [some (.ref 0), some (.int (ei_ (a))), some (.int (ei_ (b))), some (.int (ei_ (c))), some (.int (ei_ ((b / 100)))), some (.int (ei_ ((b % 100)))), some (.int (ei_ (0))), some (.int (ei_ (x5))), some (.int (ei_ (v2))), some (.int (ei_ (s))), some (.int (ei_ (k))), u9], [.int (ei_ (x5)), .int (ei_ (0)), .int (ei_ ((b % 100))), .int (ei_ (v2)), .ref 0], m115)) rfl ?_
                  refine pw_call (As := [.int (ei_ (v2)), .int (ei_ ((b % 100))), .int (ei_ (0)), .int (ei_ (x5))]) (st := []) (k := 0) rfl rfl rfl rfl rfl (Nat.le_of_ble_eq_true rfl) ?_
                  refine cs_drw (r := (rc_ m0)) (fun j a_ b_ i c_ d_ => (sm_v g16 (k := 46) (j := j * 10 + i) rfl).trans (hH j (by omega) (by omega) (by omega) i c_ d_)) (fun j i => rc_b _ _ _) (by omega) (fun j a_ b_ => by rw [g17 j (by omega) (by omega), sm_v hs (k := 5) (j := j) rfl]; have t_ := p1.2.1 j (by omega) (by omega); omega) (by omega) (fun x18 m119 g20 g21 g22 => ?_)
                  have hT_ : ∀ j, 0 ≤ j → j < vi_ m0 1 1 → (c < 0 ∨ j = c) → vi_ m119 45 j = dw_ m0 (b % 100) v2 j := by intro j a_ b_ c_; rw [g22 j (by omega) (by omega), g17 j (by omega) (by omega), sm_v hs (k := 5) (j := j) rfl]; rfl
                  refine pw_steps 3 (s' := (136, [some (.ref 0), some (.int (ei_ (a))), some (.int (ei_ (b))), some (.int (ei_ (c))), some (.int (ei_ ((b / 100)))), some (.int (ei_ ((b % 100)))), some (.int (ei_ (0))), some (.int (ei_ (x5))), some (.int (ei_ (x18))), some (.int (ei_ (s))), some (.int (ei_ (k))), some (.int (ei_ (0)))], [], m119)) rfl ?_
                  have L25 : ∀ (n23 : Nat) (s2 : Int) (i : Int), (9 - i).toNat = n23 → (0 ≤ i ∧ i ≤ vi_ m0 1 1 ∧ (c < 0 ∨ (c ≤ i ∧ i ≤ c + 1))) → (c < 0 → s2 = s + cn_ (dw_ m0 (b % 100) v2) 0 i.toNat) → (0 ≤ c → s2 = s + (if c < i then dw_ m0 (b % 100) v2 c else 0)) → pw_V q (d + 59) iX8_drawn.2.2.2.1 tX8_drawn Q (136, [some (.ref 0), some (.int (ei_ (a))), some (.int (ei_ (b))), some (.int (ei_ (c))), some (.int (ei_ ((b / 100)))), some (.int (ei_ ((b % 100)))), some (.int (ei_ (0))), some (.int (ei_ (x5))), some (.int (ei_ (x18))), some (.int (ei_ (s2))), some (.int (ei_ (k))), some (.int (ei_ (i)))], [], m119) := by
                    intro n23
                    induction n23 using Nat.strongRecOn with
                    | _ n23 ih24 =>
                      intro s2 i hm_n23 v26 hw1 hw2
                      refine pw_steps 2 (s' := (140, [some (.ref 0), some (.int (ei_ (a))), some (.int (ei_ (b))), some (.int (ei_ (c))), some (.int (ei_ ((b / 100)))), some (.int (ei_ ((b % 100)))), some (.int (ei_ (0))), some (.int (ei_ (x5))), some (.int (ei_ (x18))), some (.int (ei_ (s2))), some (.int (ei_ (k))), some (.int (ei_ (i)))], [.int (ei_ (x5)), .int (ei_ (i))], m119)) rfl ?_
                      refine pw_cmp rfl (by omega) ⟨rx5, sx5⟩ (fun (h27 : x5 ≤ i) => ?_) (fun (h27 : ¬ (x5 ≤ i)) => ?_)
                      · refine pw_steps 2 (s' := (100, [some (.ref 0), some (.int (ei_ (a))), some (.int (ei_ (b))), some (.int (ei_ (c))), some (.int (ei_ ((b / 100)))), some (.int (ei_ ((b % 100)))), some (.int (ei_ (0))), some (.int (ei_ (x5))), some (.int (ei_ (x18))), some (.int (ei_ (s2))), some (.int ((ei_ (k)) + (ei_ (1)))), some (.int (ei_ (i)))], [], m119)) rfl ?_
                        refine pw_cv (congrArg (fun z_ : Int32 => ((100, [some (.ref 0), some (.int (ei_ (a))), some (.int (ei_ (b))), some (.int (ei_ (c))), some (.int (ei_ ((b / 100)))), some (.int (ei_ ((b % 100)))), some (.int (ei_ (0))), some (.int (ei_ (x5))), some (.int (ei_ (x18))), some (.int (ei_ (s2))), some (.int z_), some (.int (ei_ (i)))], [], m119) : am_S)) (ei_add rfl rfl)) ?_
                        exact ih11 _ (by omega) x18 s2 (k + 1) (some (.int (ei_ (i)))) m119 rfl (by omega) ((sm_tr (sm_tr hs (sm_le g16 pC45_Sc)) (sm_le g21 pC45_Sc))) (by intro j a_ b_ c_ i d_ e_; rw [sm_v g21 (k := 46) (j := j * 10 + i) rfl, sm_v g16 (k := 46) (j := j * 10 + i) rfl]; exact hH j a_ b_ c_ i d_ e_) (by rw [zw_s (by omega), ← hz]; exact g20) (by rw [dn_s (by omega), ← hv, ← hz]; first | (rw [if_pos (by omega), ← show i = vi_ m0 1 1 by omega]; omega) | (rw [if_neg (by omega)]; omega))
                      · refine pw_steps 2 (s' := (146, [some (.ref 0), some (.int (ei_ (a))), some (.int (ei_ (b))), some (.int (ei_ (c))), some (.int (ei_ ((b / 100)))), some (.int (ei_ ((b % 100)))), some (.int (ei_ (0))), some (.int (ei_ (x5))), some (.int (ei_ (x18))), some (.int (ei_ (s2))), some (.int (ei_ (k))), some (.int (ei_ (i)))], [.int (ei_ (c)), .int (ei_ (s2))], m119)) rfl ?_
                        refine pw_ifT rfl p7 (show c < 0 by omega) ?_
                        refine pw_steps 3 (s' := (165, [some (.ref 0), some (.int (ei_ (a))), some (.int (ei_ (b))), some (.int (ei_ (c))), some (.int (ei_ ((b / 100)))), some (.int (ei_ ((b % 100)))), some (.int (ei_ (0))), some (.int (ei_ (x5))), some (.int (ei_ (x18))), some (.int (ei_ (s2))), some (.int (ei_ (k))), some (.int (ei_ (i)))], [.int (ei_ (i)), .ref 45, .int (ei_ (s2))], m119)) rfl ?_
                        refine pw_ild rfl rfl (by omega) (fun x28 (hx28 : x28 = vi_ m119 45 i) rx28 sx28 => ?_)
                        have b29 := hT_ i (by omega) (by omega) (by omega)
                        refine pw_if rfl ⟨rx28, sx28⟩ (fun (h30 : ¬ x28 = 0) => ?_) (fun (h30 : ¬ ¬ x28 = 0) => ?_)
                        · refine pw_steps 5 (s' := (136, [some (.ref 0), some (.int (ei_ (a))), some (.int (ei_ (b))), some (.int (ei_ (c))), some (.int (ei_ ((b / 100)))), some (.int (ei_ ((b % 100)))), some (.int (ei_ (0))), some (.int (ei_ (x5))), some (.int (ei_ (x18))), some (.int ((ei_ (s2)) + (ei_ (0)))), some (.int (ei_ (k))), some (.int ((ei_ (i)) + (ei_ (1))))], [], m119)) rfl ?_
                          refine pw_cv (congrArg (fun z_ : Int32 => ((136, [some (.ref 0), some (.int (ei_ (a))), some (.int (ei_ (b))), some (.int (ei_ (c))), some (.int (ei_ ((b / 100)))), some (.int (ei_ ((b % 100)))), some (.int (ei_ (0))), some (.int (ei_ (x5))), some (.int (ei_ (x18))), some (.int z_), some (.int (ei_ (k))), some (.int ((ei_ (i)) + (ei_ (1))))], [], m119) : am_S)) (ei_add rfl rfl)) ?_
                          refine pw_cv (congrArg (fun z_ : Int32 => ((136, [some (.ref 0), some (.int (ei_ (a))), some (.int (ei_ (b))), some (.int (ei_ (c))), some (.int (ei_ ((b / 100)))), some (.int (ei_ ((b % 100)))), some (.int (ei_ (0))), some (.int (ei_ (x5))), some (.int (ei_ (x18))), some (.int (ei_ ((s2 + 0)))), some (.int (ei_ (k))), some (.int z_)], [], m119) : am_S)) (ei_add rfl rfl)) ?_
                          exact ih24 _ (by omega) (s2 + 0) (i + 1) rfl (by omega) (by intro h_; first | omega | (rw [cn_s (by omega)]; omega)) (by intro h_; first | omega | (have e_ : i = c := (by omega); subst e_; rw [if_pos (by omega)]; omega))
                        · refine pw_steps 6 (s' := (136, [some (.ref 0), some (.int (ei_ (a))), some (.int (ei_ (b))), some (.int (ei_ (c))), some (.int (ei_ ((b / 100)))), some (.int (ei_ ((b % 100)))), some (.int (ei_ (0))), some (.int (ei_ (x5))), some (.int (ei_ (x18))), some (.int ((ei_ (s2)) + (ei_ (1)))), some (.int (ei_ (k))), some (.int ((ei_ (i)) + (ei_ (1))))], [], m119)) rfl ?_
                          refine pw_cv (congrArg (fun z_ : Int32 => ((136, [some (.ref 0), some (.int (ei_ (a))), some (.int (ei_ (b))), some (.int (ei_ (c))), some (.int (ei_ ((b / 100)))), some (.int (ei_ ((b % 100)))), some (.int (ei_ (0))), some (.int (ei_ (x5))), some (.int (ei_ (x18))), some (.int z_), some (.int (ei_ (k))), some (.int ((ei_ (i)) + (ei_ (1))))], [], m119) : am_S)) (ei_add rfl rfl)) ?_
                          refine pw_cv (congrArg (fun z_ : Int32 => ((136, [some (.ref 0), some (.int (ei_ (a))), some (.int (ei_ (b))), some (.int (ei_ (c))), some (.int (ei_ ((b / 100)))), some (.int (ei_ ((b % 100)))), some (.int (ei_ (0))), some (.int (ei_ (x5))), some (.int (ei_ (x18))), some (.int (ei_ ((s2 + 1)))), some (.int (ei_ (k))), some (.int z_)], [], m119) : am_S)) (ei_add rfl rfl)) ?_
                          exact ih24 _ (by omega) (s2 + 1) (i + 1) rfl (by omega) (by intro h_; first | omega | (rw [cn_s (by omega)]; omega)) (by intro h_; first | omega | (have e_ : i = c := (by omega); subst e_; rw [if_pos (by omega)]; omega))
                  exact L25 _ s 0 rfl (by omega) (by intro h_; first | omega | (show s = s + 0; omega)) (by intro h_; first | omega | (rw [if_neg (by omega)]; omega))
            exact L12 _ a 0 0 none m16 rfl (by omega) (g7) (by intro j a_ b_ c_; exact g8 j (by omega) (by omega)) (by rfl) (by rfl)
          · refine pw_steps 3 (s' := (43, [some (.ref 0), some (.int (ei_ (a))), some (.int (ei_ (b))), some (.int (ei_ (c))), some (.int (ei_ ((b / 100)))), some (.int (ei_ ((b % 100)))), none, none, none, none, none, none], [.int (ei_ (c)), .ref 1], m)) rfl ?_
            refine pw_call (As := [.int (ei_ (c))]) (st := []) (k := 1) rfl rfl rfl rfl rfl (Nat.le_of_ble_eq_true rfl) ?_
            refine pw_intro (I := iX3_has) (T := tX3_has) rfl rfl rfl ?_
            refine pw_steps 1 (s' := (1, [some (.ref 1), some (.int (ei_ (c)))], [.int (ei_ (c))], m)) rfl ?_
            refine pw_if rfl p7 (fun (h31 : c < 0) => ?_) (fun (h31 : ¬ (c < 0)) => ?_)
            · refine pw_steps 1 (s' := (17, [some (.ref 1), some (.int (ei_ (c)))], [.int (ei_ (0))], m)) rfl ?_
              refine pw_iret rfl rfl rfl ?_
              refine pw_ifF rfl (by decide) (show ¬ (¬ 0 = 0) by decide) ?_
              refine pw_steps 1 (s' := (50, [some (.ref 0), some (.int (ei_ (a))), some (.int (ei_ (b))), some (.int (ei_ (c))), some (.int (ei_ ((b / 100)))), some (.int (ei_ ((b % 100)))), none, none, none, none, none, none], [.int (ei_ ((-1)))], m)) rfl ?_
              refine pw_iret rfl rfl rfl ?_
              exact k0 (-1) m (by unfold sdr_; rw [if_neg (by omega)]) (p4)
            · refine pw_steps 2 (s' := (6, [some (.ref 1), some (.int (ei_ (c)))], [.ref 1, .int (ei_ (c))], m)) rfl ?_
              refine pw_get rfl rfl (fun x32 (hx32 : x32 = vi_ m 1 1) rx32 sx32 => ?_)
              have ox32 := hx32
              replace hx32 : x32 = vi_ m0 1 1 := hx32.trans (sm_v p4 rfl)
              refine pw_cmp rfl p7 ⟨rx32, sx32⟩ (fun (h33 : x32 ≤ c) => ?_) (fun (h33 : ¬ (x32 ≤ c)) => ?_)
              · refine pw_steps 1 (s' := (17, [some (.ref 1), some (.int (ei_ (c)))], [.int (ei_ (0))], m)) rfl ?_
                refine pw_iret rfl rfl rfl ?_
                refine pw_ifF rfl (by decide) (show ¬ (¬ 0 = 0) by decide) ?_
                refine pw_steps 1 (s' := (50, [some (.ref 0), some (.int (ei_ (a))), some (.int (ei_ (b))), some (.int (ei_ (c))), some (.int (ei_ ((b / 100)))), some (.int (ei_ ((b % 100)))), none, none, none, none, none, none], [.int (ei_ ((-1)))], m)) rfl ?_
                refine pw_iret rfl rfl rfl ?_
                exact k0 (-1) m (by unfold sdr_; rw [if_neg (by omega)]) (p4)
              · refine pw_steps 2 (s' := (17, [some (.ref 1), some (.int (ei_ (c)))], [.int (ei_ (1))], m)) rfl ?_
                refine pw_iret rfl rfl rfl ?_
                refine pw_ifT rfl (by decide) (show ¬ 1 = 0 by decide) ?_
                refine pw_steps 2 (s' := (53, [some (.ref 0), some (.int (ei_ (a))), some (.int (ei_ (b))), some (.int (ei_ (c))), some (.int (ei_ ((b / 100)))), some (.int (ei_ ((b % 100)))), none, none, none, none, none, none], [.int (ei_ ((-1))), .int (ei_ (c))], m)) rfl ?_
                refine pw_cmpT rfl p7 (by decide) (show ¬ c = (-1) by omega) ?_
                refine pw_steps 4 (s' := (65, [some (.ref 0), some (.int (ei_ (a))), some (.int (ei_ (b))), some (.int (ei_ (c))), some (.int (ei_ ((b / 100)))), some (.int (ei_ ((b % 100)))), some (.int (ei_ (c))), none, none, none, none, none], [.int (ei_ ((-1))), .int (ei_ (c))], m)) rfl ?_
                refine pw_cmpT rfl p7 (by decide) (show ¬ c = (-1) by omega) ?_
                refine pw_steps 7 (s' := (88, [some (.ref 0), some (.int (ei_ (a))), some (.int (ei_ (b))), some (.int (ei_ (c))), some (.int (ei_ ((b / 100)))), some (.int (ei_ ((b % 100)))), some (.int (ei_ (c))), some (.int ((ei_ (c)) + (ei_ (1)))), none, none, none, none], [.int ((ei_ (c)) + (ei_ (1))), .int (ei_ (c)), .ref 0], m)) rfl ?_
                refine pw_cv (congrArg (fun z_ : Int32 => ((88, [some (.ref 0), some (.int (ei_ (a))), some (.int (ei_ (b))), some (.int (ei_ (c))), some (.int (ei_ ((b / 100)))), some (.int (ei_ ((b % 100)))), some (.int (ei_ (c))), some (.int z_), none, none, none, none], [.int z_, .int (ei_ (c)), .ref 0], m) : am_S)) (ei_add rfl rfl)) ?_
                refine pw_call (As := [.int (ei_ (c)), .int (ei_ ((c + 1)))]) (st := []) (k := 0) rfl rfl rfl rfl rfl (Nat.le_of_ble_eq_true rfl) ?_
                refine cs_fill (p0) (p1) (p2) (p4) (by omega) (fun m134 g35 g36 => ?_)
                refine pw_steps 6 (s' := (100, [some (.ref 0), some (.int (ei_ (a))), some (.int (ei_ (b))), some (.int (ei_ (c))), some (.int (ei_ ((b / 100)))), some (.int (ei_ ((b % 100)))), some (.int (ei_ (c))), some (.int (ei_ ((c + 1)))), some (.int (ei_ (a))), some (.int (ei_ (0))), some (.int (ei_ (0))), none], [], m134)) rfl ?_
                have L40 : ∀ (n38 : Nat) (v2 : Int) (s : Int) (k : Int) (u37 : Option Value) (m1 : am_M), (b / 100 - k).toNat = n38 → (0 ≤ k ∧ k ≤ b / 100) → (sm_ pSc m0 m1) → (∀ j, 0 ≤ j → j < vi_ m0 1 1 → (c < 0 ∨ j = c) → ∀ i, 0 ≤ i → i < 10 → vi_ m1 46 (j * 10 + i) = rc_ m0 j i) → (v2 = zw_ a (b % 100) k.toNat) → (s = dn_ m0 (b % 100) c a k.toNat) → pw_V q (d + 59) iX8_drawn.2.2.2.1 tX8_drawn Q (100, [some (.ref 0), some (.int (ei_ (a))), some (.int (ei_ (b))), some (.int (ei_ (c))), some (.int (ei_ ((b / 100)))), some (.int (ei_ ((b % 100)))), some (.int (ei_ (c))), some (.int (ei_ ((c + 1)))), some (.int (ei_ (v2))), some (.int (ei_ (s))), some (.int (ei_ (k))), u37], [], m1) := by
                  intro n38
                  induction n38 using Nat.strongRecOn with
                  | _ n38 ih39 =>
                    intro v2 s k u37 m1 hm_n38 v41 hs hH hz hv
                    refine pw_steps 2 (s' := (104, [some (.ref 0), some (.int (ei_ (a))), some (.int (ei_ (b))), some (.int (ei_ (c))), some (.int (ei_ ((b / 100)))), some (.int (ei_ ((b % 100)))), some (.int (ei_ (c))), some (.int (ei_ ((c + 1)))), some (.int (ei_ (v2))), some (.int (ei_ (s))), some (.int (ei_ (k))), u37], [.int (ei_ ((b / 100))), .int (ei_ (k))], m1)) rfl ?_
                    refine pw_cmp rfl (by omega) (by omega) (fun (h42 : (b / 100) ≤ k) => ?_) (fun (h42 : ¬ ((b / 100) ≤ k)) => ?_)
                    · refine pw_steps 1 (s' := (191, [some (.ref 0), some (.int (ei_ (a))), some (.int (ei_ (b))), some (.int (ei_ (c))), some (.int (ei_ ((b / 100)))), some (.int (ei_ ((b % 100)))), some (.int (ei_ (c))), some (.int (ei_ ((c + 1)))), some (.int (ei_ (v2))), some (.int (ei_ (s))), some (.int (ei_ (k))), u37], [.int (ei_ (s))], m1)) rfl ?_
                      refine pw_iret rfl rfl rfl ?_
                      exact k0 s m1 (by unfold sdr_; rw [if_pos (by omega), ← show k = b / 100 by omega]; exact hv) (hs)
                    · refine pw_steps 4 (s' := (115, [some (.ref 0), some (.int (ei_ (a))), some (.int (ei_ (b))), some (.int (ei_ (c))), some (.int (ei_ ((b / 100)))), some (.int (ei_ ((b % 100)))), some (.int (ei_ (c))), some (.int (ei_ ((c + 1)))), some (.int (ei_ (v2))), some (.int (ei_ (s))), some (.int (ei_ (k))), u37], [.ref 45, .ref 3], m1)) rfl ?_
                      refine pw_call (As := [.ref 45]) (st := []) (k := 3) rfl rfl rfl rfl rfl (Nat.le_of_ble_eq_true rfl) ?_
                      refine cs_cpT  (fun m143 g44 g45 => ?_)
                      refine pw_steps 5 (s' := (127, [some (.ref 0), some (.int (ei_ (a))), some (.int (ei_ (b))), some (.int (ei_ (c))), some (.int (ei_ ((b / 100)))), some (.int (ei_ ((b % 100)))), some (.int (ei_ (c))), some (.int (ei_ ((c + 1)))), some (.int (ei_ (v2))), some (.int (ei_ (s))), some (.int (ei_ (k))), u37], [.int (ei_ ((c + 1))), .int (ei_ (c)), .int (ei_ ((b % 100))), .int (ei_ (v2)), .ref 0], m143)) rfl ?_
                      refine pw_call (As := [.int (ei_ (v2)), .int (ei_ ((b % 100))), .int (ei_ (c)), .int (ei_ ((c + 1)))]) (st := []) (k := 0) rfl rfl rfl rfl rfl (Nat.le_of_ble_eq_true rfl) ?_
                      refine cs_drw (r := (rc_ m0)) (fun j a_ b_ i c_ d_ => (sm_v g44 (k := 46) (j := j * 10 + i) rfl).trans (hH j (by omega) (by omega) (by omega) i c_ d_)) (fun j i => rc_b _ _ _) (by omega) (fun j a_ b_ => by rw [g45 j (by omega) (by omega), sm_v hs (k := 5) (j := j) rfl]; have t_ := p1.2.1 j (by omega) (by omega); omega) (by omega) (fun x46 m147 g48 g49 g50 => ?_)
                      have hT_ : ∀ j, 0 ≤ j → j < vi_ m0 1 1 → (c < 0 ∨ j = c) → vi_ m147 45 j = dw_ m0 (b % 100) v2 j := by intro j a_ b_ c_; rw [g50 j (by omega) (by omega), g45 j (by omega) (by omega), sm_v hs (k := 5) (j := j) rfl]; rfl
                      refine pw_steps 3 (s' := (136, [some (.ref 0), some (.int (ei_ (a))), some (.int (ei_ (b))), some (.int (ei_ (c))), some (.int (ei_ ((b / 100)))), some (.int (ei_ ((b % 100)))), some (.int (ei_ (c))), some (.int (ei_ ((c + 1)))), some (.int (ei_ (x46))), some (.int (ei_ (s))), some (.int (ei_ (k))), some (.int (ei_ (c)))], [], m147)) rfl ?_
                      have L53 : ∀ (n51 : Nat) (s2 : Int) (i : Int), (9 - i).toNat = n51 → (0 ≤ i ∧ i ≤ vi_ m0 1 1 ∧ (c < 0 ∨ (c ≤ i ∧ i ≤ c + 1))) → (c < 0 → s2 = s + cn_ (dw_ m0 (b % 100) v2) 0 i.toNat) → (0 ≤ c → s2 = s + (if c < i then dw_ m0 (b % 100) v2 c else 0)) → pw_V q (d + 59) iX8_drawn.2.2.2.1 tX8_drawn Q (136, [some (.ref 0), some (.int (ei_ (a))), some (.int (ei_ (b))), some (.int (ei_ (c))), some (.int (ei_ ((b / 100)))), some (.int (ei_ ((b % 100)))), some (.int (ei_ (c))), some (.int (ei_ ((c + 1)))), some (.int (ei_ (x46))), some (.int (ei_ (s2))), some (.int (ei_ (k))), some (.int (ei_ (i)))], [], m147) := by
                        intro n51
                        induction n51 using Nat.strongRecOn with
                        | _ n51 ih52 =>
                          intro s2 i hm_n51 v54 hw1 hw2
                          refine pw_steps 2 (s' := (140, [some (.ref 0), some (.int (ei_ (a))), some (.int (ei_ (b))), some (.int (ei_ (c))), some (.int (ei_ ((b / 100)))), some (.int (ei_ ((b % 100)))), some (.int (ei_ (c))), some (.int (ei_ ((c + 1)))), some (.int (ei_ (x46))), some (.int (ei_ (s2))), some (.int (ei_ (k))), some (.int (ei_ (i)))], [.int (ei_ ((c + 1))), .int (ei_ (i))], m147)) rfl ?_
                          refine pw_cmp rfl (by omega) (by omega) (fun (h55 : (c + 1) ≤ i) => ?_) (fun (h55 : ¬ ((c + 1) ≤ i)) => ?_)
                          · refine pw_steps 2 (s' := (100, [some (.ref 0), some (.int (ei_ (a))), some (.int (ei_ (b))), some (.int (ei_ (c))), some (.int (ei_ ((b / 100)))), some (.int (ei_ ((b % 100)))), some (.int (ei_ (c))), some (.int (ei_ ((c + 1)))), some (.int (ei_ (x46))), some (.int (ei_ (s2))), some (.int ((ei_ (k)) + (ei_ (1)))), some (.int (ei_ (i)))], [], m147)) rfl ?_
                            refine pw_cv (congrArg (fun z_ : Int32 => ((100, [some (.ref 0), some (.int (ei_ (a))), some (.int (ei_ (b))), some (.int (ei_ (c))), some (.int (ei_ ((b / 100)))), some (.int (ei_ ((b % 100)))), some (.int (ei_ (c))), some (.int (ei_ ((c + 1)))), some (.int (ei_ (x46))), some (.int (ei_ (s2))), some (.int z_), some (.int (ei_ (i)))], [], m147) : am_S)) (ei_add rfl rfl)) ?_
                            exact ih39 _ (by omega) x46 s2 (k + 1) (some (.int (ei_ (i)))) m147 rfl (by omega) ((sm_tr (sm_tr hs (sm_le g44 pC45_Sc)) (sm_le g49 pC45_Sc))) (by intro j a_ b_ c_ i d_ e_; rw [sm_v g49 (k := 46) (j := j * 10 + i) rfl, sm_v g44 (k := 46) (j := j * 10 + i) rfl]; exact hH j a_ b_ c_ i d_ e_) (by rw [zw_s (by omega), ← hz]; exact g48) (by rw [dn_s (by omega), ← hv, ← hz]; first | (rw [if_pos (by omega), ← show i = vi_ m0 1 1 by omega]; omega) | (rw [if_neg (by omega)]; omega))
                          · refine pw_steps 2 (s' := (146, [some (.ref 0), some (.int (ei_ (a))), some (.int (ei_ (b))), some (.int (ei_ (c))), some (.int (ei_ ((b / 100)))), some (.int (ei_ ((b % 100)))), some (.int (ei_ (c))), some (.int (ei_ ((c + 1)))), some (.int (ei_ (x46))), some (.int (ei_ (s2))), some (.int (ei_ (k))), some (.int (ei_ (i)))], [.int (ei_ (c)), .int (ei_ (s2))], m147)) rfl ?_
                            refine pw_ifF rfl p7 (show ¬ (c < 0) by omega) ?_
                            refine pw_steps 3 (s' := (155, [some (.ref 0), some (.int (ei_ (a))), some (.int (ei_ (b))), some (.int (ei_ (c))), some (.int (ei_ ((b / 100)))), some (.int (ei_ ((b % 100)))), some (.int (ei_ (c))), some (.int (ei_ ((c + 1)))), some (.int (ei_ (x46))), some (.int (ei_ (s2))), some (.int (ei_ (k))), some (.int (ei_ (i)))], [.int (ei_ (i)), .ref 45, .int (ei_ (s2))], m147)) rfl ?_
                            refine pw_ild rfl rfl (by omega) (fun x56 (hx56 : x56 = vi_ m147 45 i) rx56 sx56 => ?_)
                            have b57 := hT_ i (by omega) (by omega) (by omega)
                            refine pw_steps 5 (s' := (136, [some (.ref 0), some (.int (ei_ (a))), some (.int (ei_ (b))), some (.int (ei_ (c))), some (.int (ei_ ((b / 100)))), some (.int (ei_ ((b % 100)))), some (.int (ei_ (c))), some (.int (ei_ ((c + 1)))), some (.int (ei_ (x46))), some (.int ((ei_ (s2)) + (ei_ (x56)))), some (.int (ei_ (k))), some (.int ((ei_ (i)) + (ei_ (1))))], [], m147)) rfl ?_
                            refine pw_cv (congrArg (fun z_ : Int32 => ((136, [some (.ref 0), some (.int (ei_ (a))), some (.int (ei_ (b))), some (.int (ei_ (c))), some (.int (ei_ ((b / 100)))), some (.int (ei_ ((b % 100)))), some (.int (ei_ (c))), some (.int (ei_ ((c + 1)))), some (.int (ei_ (x46))), some (.int z_), some (.int (ei_ (k))), some (.int ((ei_ (i)) + (ei_ (1))))], [], m147) : am_S)) (ei_add rfl rfl)) ?_
                            refine pw_cv (congrArg (fun z_ : Int32 => ((136, [some (.ref 0), some (.int (ei_ (a))), some (.int (ei_ (b))), some (.int (ei_ (c))), some (.int (ei_ ((b / 100)))), some (.int (ei_ ((b % 100)))), some (.int (ei_ (c))), some (.int (ei_ ((c + 1)))), some (.int (ei_ (x46))), some (.int (ei_ ((s2 + x56)))), some (.int (ei_ (k))), some (.int z_)], [], m147) : am_S)) (ei_add rfl rfl)) ?_
                            exact ih52 _ (by omega) (s2 + x56) (i + 1) rfl (by omega) (by intro h_; first | omega | (rw [cn_s (by omega)]; omega)) (by intro h_; first | omega | (have e_ : i = c := (by omega); subst e_; rw [if_pos (by omega)]; omega))
                      exact L53 _ s c rfl (by omega) (by intro h_; first | omega | (show s = s + 0; omega)) (by intro h_; first | omega | (rw [if_neg (by omega)]; omega))
                exact L40 _ a 0 0 none m134 rfl (by omega) (g35) (by intro j a_ b_ c_; exact g36 j (by omega) (by omega)) (by rfl) (by rfl)
        · refine pw_steps 1 (s' := (32, [some (.ref 0), some (.int (ei_ (a))), some (.int (ei_ (b))), some (.int (ei_ (c))), some (.int (ei_ ((b / 100)))), some (.int (ei_ ((b % 100)))), none, none, none, none, none, none], [.int (ei_ ((-1)))], m)) rfl ?_
          refine pw_iret rfl rfl rfl ?_
          exact k0 (-1) m (by unfold sdr_; rw [if_neg (by omega)]) (p4)

set_option maxHeartbeats 4000000 in
set_option maxRecDepth 20000 in
theorem ms_drawn {q : am_X} {d : Nat} {m : am_M} {Q : Option Value → am_M → Prop} {m0 : am_M} {a : Int} {b : Int} {c : Int}  (p0 : rP_ m0) (p1 : rD_ m0) (p2 : rZ_ m0) (p3 : rL_ m0) (p4 : sm_ pSc m0 m) (p5 : -2147483648 ≤ a ∧ a < 2147483648) (p6 : -2147483648 ≤ b ∧ b < 2147483648) (p7 : -2147483648 ≤ c ∧ c < 2147483648) (k0 : ∀ (x : Int) (m1 : am_M), (x = sdr_ m0 a b c) → (sm_ pSc m0 m1) → Q (some (.int (ei_ (x)))) m1) : pw_C q (d + 60) 237 [.ref 47, .int (ei_ (a)), .int (ei_ (b)), .int (ei_ (c))] m Q := by
  obtain ⟨hP1, hP2, hP3, hP4⟩ := id p0
  have hmw := mW_of p0 p1
  have hmf := mF_of p0 p1
  refine pw_intro (I := iX9_drawn) (T := tX9_drawn) rfl rfl rfl ?_
  refine pw_steps 1 (s' := (1, [some (.ref 47), some (.int (ei_ (a))), some (.int (ei_ (b))), some (.int (ei_ (c))), none, none, none, none], [.int (ei_ (b))], m)) rfl ?_
  refine pw_if rfl p6 (fun (h1 : b < 0) => ?_) (fun (h1 : ¬ (b < 0)) => ?_)
  · refine pw_steps 1 (s' := (41, [some (.ref 47), some (.int (ei_ (a))), some (.int (ei_ (b))), some (.int (ei_ (c))), none, none, none, none], [.int (ei_ ((-1)))], m)) rfl ?_
    refine pw_iret rfl rfl rfl ?_
    exact k0 (-1) m (by unfold sdr_; rw [if_neg (by omega)]) (p4)
  · refine pw_steps 2 (s' := (7, [some (.ref 47), some (.int (ei_ (a))), some (.int (ei_ (b))), some (.int (ei_ (c))), none, none, none, none], [.int (ei_ (100)), .int (ei_ (b))], m)) rfl ?_
    refine pw_divN rfl (by omega) (by omega) ?_
    refine pw_steps 3 (s' := (13, [some (.ref 47), some (.int (ei_ (a))), some (.int (ei_ (b))), some (.int (ei_ (c))), none, none, none, none], [.long (el_ (20)), .long (el_ (1)), .long ((ei_ ((b / 100))).toInt64)], m)) rfl ?_
    refine pw_cv (congrArg (fun z_ : Int64 => ((13, [some (.ref 47), some (.int (ei_ (a))), some (.int (ei_ (b))), some (.int (ei_ (c))), none, none, none, none], [.long (el_ (20)), .long (el_ (1)), .long z_], m) : am_S)) (el_i2l (by omega) rfl)) ?_
    refine pw_callS (As := [.long (el_ ((b / 100))), .long (el_ (1)), .long (el_ (20))]) (st := []) rfl (by decide) rfl rfl (Nat.le_of_ble_eq_true rfl) ?_
    refine mt_within (by omega) (by omega) (by omega) (fun g2 g3 => ?_) (fun g4 => ?_) (fun g5 => ?_)
    · refine pw_ifF rfl (by decide) (show ¬ (1 = 0) by decide) ?_
      refine pw_steps 2 (s' := (22, [some (.ref 47), some (.int (ei_ (a))), some (.int (ei_ (b))), some (.int (ei_ (c))), none, none, none, none], [.int (ei_ (100)), .int (ei_ (b))], m)) rfl ?_
      refine pw_remN rfl (by omega) (by omega) ?_
      refine pw_if rfl (by omega) (fun (h6 : (b % 100) = 0) => ?_) (fun (h6 : ¬ ((b % 100) = 0)) => ?_)
      · refine pw_steps 1 (s' := (41, [some (.ref 47), some (.int (ei_ (a))), some (.int (ei_ (b))), some (.int (ei_ (c))), none, none, none, none], [.int (ei_ ((-1)))], m)) rfl ?_
        refine pw_iret rfl rfl rfl ?_
        exact k0 (-1) m (by unfold sdr_; rw [if_neg (by omega)]) (p4)
      · refine pw_steps 2 (s' := (28, [some (.ref 47), some (.int (ei_ (a))), some (.int (ei_ (b))), some (.int (ei_ (c))), none, none, none, none], [.int (ei_ ((-1))), .int (ei_ (c))], m)) rfl ?_
        refine pw_cmp rfl p7 (by decide) (fun (h7 : c = (-1)) => ?_) (fun (h7 : ¬ (c = (-1))) => ?_)
        · refine pw_steps 6 (s' := (51, [some (.ref 47), some (.int (ei_ (a))), some (.int (ei_ (b))), some (.int (ei_ (c))), some (.int (ei_ (a))), some (.int (ei_ (0))), some (.int (ei_ (0))), none], [], m)) rfl ?_
          have L11 : ∀ (n9 : Nat) (v2 : Int) (s : Int) (k : Int) (u8 : Option Value) (m1 : am_M), (b / 100 - k).toNat = n9 → (0 ≤ k ∧ k ≤ b / 100) → (sm_ pSc m0 m1) → (v2 = zw_ a (b % 100) k.toNat) → (s = dn_ m0 (b % 100) c a k.toNat) → pw_V q (d + 59) iX9_drawn.2.2.2.1 tX9_drawn Q (51, [some (.ref 47), some (.int (ei_ (a))), some (.int (ei_ (b))), some (.int (ei_ (c))), some (.int (ei_ (v2))), some (.int (ei_ (s))), some (.int (ei_ (k))), u8], [], m1) := by
            intro n9
            induction n9 using Nat.strongRecOn with
            | _ n9 ih10 =>
              intro v2 s k u8 m1 hm_n9 v12 hs hz hv
              refine pw_steps 3 (s' := (56, [some (.ref 47), some (.int (ei_ (a))), some (.int (ei_ (b))), some (.int (ei_ (c))), some (.int (ei_ (v2))), some (.int (ei_ (s))), some (.int (ei_ (k))), u8], [.int (ei_ (100)), .int (ei_ (b)), .int (ei_ (k))], m1)) rfl ?_
              refine pw_divN rfl (by omega) (by omega) ?_
              refine pw_cmp rfl (by omega) (by omega) (fun (h13 : (b / 100) ≤ k) => ?_) (fun (h13 : ¬ ((b / 100) ≤ k)) => ?_)
              · refine pw_steps 1 (s' := (136, [some (.ref 47), some (.int (ei_ (a))), some (.int (ei_ (b))), some (.int (ei_ (c))), some (.int (ei_ (v2))), some (.int (ei_ (s))), some (.int (ei_ (k))), u8], [.int (ei_ (s))], m1)) rfl ?_
                refine pw_iret rfl rfl rfl ?_
                exact k0 s m1 (by unfold sdr_; rw [if_pos (by omega), ← show k = b / 100 by omega]; exact hv) (hs)
              · refine pw_steps 1 (s' := (61, [some (.ref 47), some (.int (ei_ (a))), some (.int (ei_ (b))), some (.int (ei_ (c))), some (.int (ei_ (v2))), some (.int (ei_ (s))), some (.int (ei_ (k))), u8], [.ref 47], m1)) rfl ?_
                refine pw_call (As := []) (st := []) (k := 47) rfl rfl rfl rfl rfl (Nat.le_of_ble_eq_true rfl) ?_
                refine md_begins (p0) (hs) (fun m114 g15 g16 => ?_)
                refine pw_steps 2 (s' := (67, [some (.ref 47), some (.int (ei_ (a))), some (.int (ei_ (b))), some (.int (ei_ (c))), some (.int (ei_ (v2))), some (.int (ei_ (s))), some (.int (ei_ (k))), some (.int (ei_ (0)))], [], m114)) rfl ?_
                have L19 : ∀ (n17 : Nat) (v3 : Int) (k2 : Int) (m2 : am_M), (b % 100 - k2).toNat = n17 → (0 ≤ k2 ∧ k2 ≤ b % 100) → (sm_ pSc m0 m2) → (v3 = dz_ v2 k2.toNat) → (∀ j, 0 ≤ j → j < vi_ m0 1 1 → vi_ m2 57 j = dl_ (rc_ m0 j) v2 (vi_ m0 5 j) k2.toNat) → pw_V q (d + 59) iX9_drawn.2.2.2.1 tX9_drawn Q (67, [some (.ref 47), some (.int (ei_ (a))), some (.int (ei_ (b))), some (.int (ei_ (c))), some (.int (ei_ (v3))), some (.int (ei_ (s))), some (.int (ei_ (k))), some (.int (ei_ (k2)))], [], m2) := by
                  intro n17
                  induction n17 using Nat.strongRecOn with
                  | _ n17 ih18 =>
                    intro v3 k2 m2 hm_n17 v20 hs2 hz2 hT
                    refine pw_steps 3 (s' := (72, [some (.ref 47), some (.int (ei_ (a))), some (.int (ei_ (b))), some (.int (ei_ (c))), some (.int (ei_ (v3))), some (.int (ei_ (s))), some (.int (ei_ (k))), some (.int (ei_ (k2)))], [.int (ei_ (100)), .int (ei_ (b)), .int (ei_ (k2))], m2)) rfl ?_
                    refine pw_remN rfl (by omega) (by omega) ?_
                    refine pw_cmp rfl (by omega) (by omega) (fun (h21 : (b % 100) ≤ k2) => ?_) (fun (h21 : ¬ ((b % 100) ≤ k2)) => ?_)
                    · refine pw_steps 2 (s' := (109, [some (.ref 47), some (.int (ei_ (a))), some (.int (ei_ (b))), some (.int (ei_ (c))), some (.int (ei_ (v3))), some (.int (ei_ (s))), some (.int (ei_ (k))), some (.int (ei_ (k2)))], [.int (ei_ (c)), .int (ei_ (s))], m2)) rfl ?_
                      refine pw_ifF rfl p7 (show ¬ (0 ≤ c) by omega) ?_
                      refine pw_steps 1 (s' := (113, [some (.ref 47), some (.int (ei_ (a))), some (.int (ei_ (b))), some (.int (ei_ (c))), some (.int (ei_ (v3))), some (.int (ei_ (s))), some (.int (ei_ (k))), some (.int (ei_ (k2)))], [.ref 47, .int (ei_ (s))], m2)) rfl ?_
                      refine pw_call (As := []) (st := [.int (ei_ (s))]) (k := 47) rfl rfl rfl rfl rfl (Nat.le_of_ble_eq_true rfl) ?_
                      refine md_burnt (p0) (hs2) (fun x22 g23 g24 => ?_)
                      refine pw_steps 5 (s' := (51, [some (.ref 47), some (.int (ei_ (a))), some (.int (ei_ (b))), some (.int (ei_ (c))), some (.int (ei_ (v3))), some (.int ((ei_ (s)) + (ei_ (x22)))), some (.int ((ei_ (k)) + (ei_ (1)))), some (.int (ei_ (k2)))], [], m2)) rfl ?_
                      refine pw_cv (congrArg (fun z_ : Int32 => ((51, [some (.ref 47), some (.int (ei_ (a))), some (.int (ei_ (b))), some (.int (ei_ (c))), some (.int (ei_ (v3))), some (.int z_), some (.int ((ei_ (k)) + (ei_ (1)))), some (.int (ei_ (k2)))], [], m2) : am_S)) (ei_add rfl rfl)) ?_
                      refine pw_cv (congrArg (fun z_ : Int32 => ((51, [some (.ref 47), some (.int (ei_ (a))), some (.int (ei_ (b))), some (.int (ei_ (c))), some (.int (ei_ (v3))), some (.int (ei_ ((s + x22)))), some (.int z_), some (.int (ei_ (k2)))], [], m2) : am_S)) (ei_add rfl rfl)) ?_
                      exact ih10 _ (by omega) v3 (s + x22) (k + 1) (some (.int (ei_ (k2)))) m2 rfl (by omega) (hs2) (by rw [zw_s (by omega), ← hz]; rw [← show k2 = b % 100 by omega]; exact hz2) (by rw [dn_s (by omega), ← hv, ← hz]; rw [if_pos (by omega), g23]; refine congrArg (fun t_ : Int => s + t_) (cn_cg _ (fun j a_ b_ => ?_)); rw [show vi_ m2 57 j = dw_ m0 (b % 100) v2 j from by rw [hT j a_ (by omega), show k2 = b % 100 by omega]; rfl])
                    · refine pw_steps 11 (s' := (96, [some (.ref 47), some (.int (ei_ (a))), some (.int (ei_ (b))), some (.int (ei_ (c))), some (.int (((ei_ (v3)) * (ei_ (1103515245))) + (ei_ (12345)))), some (.int (ei_ (s))), some (.int (ei_ (k))), some (.int (ei_ (k2)))], [.int (ei_ (10)), .int (((((((ei_ (v3)) * (ei_ (1103515245))) + (ei_ (12345)))).toUInt32 >>> (((ei_ (8))).toUInt32 &&& Int32.toUInt32 31)).toInt32)), .ref 47], m2)) rfl ?_
                      refine pw_cv (congrArg (fun z_ : Int32 => ((96, [some (.ref 47), some (.int (ei_ (a))), some (.int (ei_ (b))), some (.int (ei_ (c))), some (.int (((ei_ (v3)) * (ei_ (1103515245))) + (ei_ (12345)))), some (.int (ei_ (s))), some (.int (ei_ (k))), some (.int (ei_ (k2)))], [.int (ei_ (10)), .int z_, .ref 47], m2) : am_S)) (ei_us (ei_add (ei_mul rfl rfl) rfl) rfl)) ?_
                      refine pw_cv (congrArg (fun z_ : Int32 => ((96, [some (.ref 47), some (.int (ei_ (a))), some (.int (ei_ (b))), some (.int (ei_ (c))), some (.int z_), some (.int (ei_ (s))), some (.int (ei_ (k))), some (.int (ei_ (k2)))], [.int (ei_ (10)), .int (ei_ ((us_ ((v3 * 1103515245) + 12345) 8))), .ref 47], m2) : am_S)) (ei_add (ei_mul rfl rfl) rfl)) ?_
                      have hus_ := us8_b ((v3 * 1103515245) + 12345)
                      refine pw_remN rfl (by omega) (by omega) ?_
                      refine pw_call (As := [.int (ei_ (((us_ ((v3 * 1103515245) + 12345) 8) % 10)))]) (st := []) (k := 47) rfl rfl rfl rfl rfl (Nat.le_of_ble_eq_true rfl) ?_
                      refine md_day (p0) (hmw) (hs2) (p3) (by omega) (fun j a_ b_ => by rw [hT j a_ b_]; have h1_ := p1.2.1 j a_ (by omega); have h2_ := dl_b (z := v2) h1_.1 (fun c_ => (rc_b m0 j c_).1) k2.toNat; omega) (fun m125 g26 g27 => ?_)
                      refine pw_steps 2 (s' := (67, [some (.ref 47), some (.int (ei_ (a))), some (.int (ei_ (b))), some (.int (ei_ (c))), some (.int (ei_ (((v3 * 1103515245) + 12345)))), some (.int (ei_ (s))), some (.int (ei_ (k))), some (.int ((ei_ (k2)) + (ei_ (1))))], [], m125)) rfl ?_
                      refine pw_cv (congrArg (fun z_ : Int32 => ((67, [some (.ref 47), some (.int (ei_ (a))), some (.int (ei_ (b))), some (.int (ei_ (c))), some (.int (ei_ (((v3 * 1103515245) + 12345)))), some (.int (ei_ (s))), some (.int (ei_ (k))), some (.int z_)], [], m125) : am_S)) (ei_add rfl rfl)) ?_
                      exact ih18 _ (by omega) ((v3 * 1103515245) + 12345) (k2 + 1) m125 rfl (by omega) ((sm_tr hs2 (sm_le g26 pGo_Sc))) (by rw [dz_s (by omega), ← hz2]) (by intro j a_ b_; rw [g27 j a_ b_, hT j a_ b_, bn_rc p0 p1 ⟨a_, b_⟩, dl_s (by omega), ← hz2])
                exact L19 _ v2 0 m114 rfl (by omega) ((sm_tr hs (sm_le g15 p57_Sc))) (by rfl) (by intro j a_ b_; rw [g16 j a_ b_]; exact (p1.2.2.1 j a_ b_).2)
          exact L11 _ a 0 0 none m rfl (by omega) (p4) (by rfl) (by rfl)
        · refine pw_steps 3 (s' := (34, [some (.ref 47), some (.int (ei_ (a))), some (.int (ei_ (b))), some (.int (ei_ (c))), none, none, none, none], [.long ((ei_ (c)).toInt64), .ref 47], m)) rfl ?_
          refine pw_cv (congrArg (fun z_ : Int64 => ((34, [some (.ref 47), some (.int (ei_ (a))), some (.int (ei_ (b))), some (.int (ei_ (c))), none, none, none, none], [.long z_, .ref 47], m) : am_S)) (el_i2l p7 rfl)) ?_
          refine pw_call (As := [.long (el_ (c))]) (st := []) (k := 47) rfl rfl rfl rfl rfl (Nat.le_of_ble_eq_true rfl) ?_
          refine pw_intro (I := iX9_isOne) (T := tX9_isOne) rfl rfl rfl ?_
          refine pw_steps 3 (s' := (3, [some (.ref 47), some (.long (el_ (c))), none], [.ref 47, .long (el_ (0)), .long (el_ (c))], m)) rfl ?_
          refine pw_get rfl rfl (fun x28 (hx28 : x28 = vi_ m 47 6) rx28 sx28 => ?_)
          have ox28 := hx28
          replace hx28 : x28 = vi_ m0 47 6 := hx28.trans (sm_v p4 rfl)
          refine pw_steps 3 (s' := (9, [some (.ref 47), some (.long (el_ (c))), none], [.long (((ei_ (x28)) - (ei_ (1))).toInt64), .long (el_ (0)), .long (el_ (c))], m)) rfl ?_
          refine pw_cv (congrArg (fun z_ : Int64 => ((9, [some (.ref 47), some (.long (el_ (c))), none], [.long z_, .long (el_ (0)), .long (el_ (c))], m) : am_S)) (el_i2l (by omega) (ei_sub rfl rfl))) ?_
          refine pw_callS (As := [.long (el_ (c)), .long (el_ (0)), .long (el_ ((x28 - 1)))]) (st := []) rfl (by decide) rfl rfl (Nat.le_of_ble_eq_true rfl) ?_
          refine mt_within (by omega) (by omega) (by omega) (fun g29 g30 => ?_) (fun g31 => ?_) (fun g32 => ?_)
          · refine pw_iret rfl rfl rfl ?_
            refine pw_ifT rfl (by decide) (show ¬ 1 = 0 by decide) ?_
            refine pw_steps 6 (s' := (51, [some (.ref 47), some (.int (ei_ (a))), some (.int (ei_ (b))), some (.int (ei_ (c))), some (.int (ei_ (a))), some (.int (ei_ (0))), some (.int (ei_ (0))), none], [], m)) rfl ?_
            have L36 : ∀ (n34 : Nat) (v2 : Int) (s : Int) (k : Int) (u33 : Option Value) (m1 : am_M), (b / 100 - k).toNat = n34 → (0 ≤ k ∧ k ≤ b / 100) → (sm_ pSc m0 m1) → (v2 = zw_ a (b % 100) k.toNat) → (s = dn_ m0 (b % 100) c a k.toNat) → pw_V q (d + 59) iX9_drawn.2.2.2.1 tX9_drawn Q (51, [some (.ref 47), some (.int (ei_ (a))), some (.int (ei_ (b))), some (.int (ei_ (c))), some (.int (ei_ (v2))), some (.int (ei_ (s))), some (.int (ei_ (k))), u33], [], m1) := by
              intro n34
              induction n34 using Nat.strongRecOn with
              | _ n34 ih35 =>
                intro v2 s k u33 m1 hm_n34 v37 hs hz hv
                refine pw_steps 3 (s' := (56, [some (.ref 47), some (.int (ei_ (a))), some (.int (ei_ (b))), some (.int (ei_ (c))), some (.int (ei_ (v2))), some (.int (ei_ (s))), some (.int (ei_ (k))), u33], [.int (ei_ (100)), .int (ei_ (b)), .int (ei_ (k))], m1)) rfl ?_
                refine pw_divN rfl (by omega) (by omega) ?_
                refine pw_cmp rfl (by omega) (by omega) (fun (h38 : (b / 100) ≤ k) => ?_) (fun (h38 : ¬ ((b / 100) ≤ k)) => ?_)
                · refine pw_steps 1 (s' := (136, [some (.ref 47), some (.int (ei_ (a))), some (.int (ei_ (b))), some (.int (ei_ (c))), some (.int (ei_ (v2))), some (.int (ei_ (s))), some (.int (ei_ (k))), u33], [.int (ei_ (s))], m1)) rfl ?_
                  refine pw_iret rfl rfl rfl ?_
                  exact k0 s m1 (by unfold sdr_; rw [if_pos (by omega), ← show k = b / 100 by omega]; exact hv) (hs)
                · refine pw_steps 1 (s' := (61, [some (.ref 47), some (.int (ei_ (a))), some (.int (ei_ (b))), some (.int (ei_ (c))), some (.int (ei_ (v2))), some (.int (ei_ (s))), some (.int (ei_ (k))), u33], [.ref 47], m1)) rfl ?_
                  refine pw_call (As := []) (st := []) (k := 47) rfl rfl rfl rfl rfl (Nat.le_of_ble_eq_true rfl) ?_
                  refine md_begins (p0) (hs) (fun m139 g40 g41 => ?_)
                  refine pw_steps 2 (s' := (67, [some (.ref 47), some (.int (ei_ (a))), some (.int (ei_ (b))), some (.int (ei_ (c))), some (.int (ei_ (v2))), some (.int (ei_ (s))), some (.int (ei_ (k))), some (.int (ei_ (0)))], [], m139)) rfl ?_
                  have L44 : ∀ (n42 : Nat) (v3 : Int) (k2 : Int) (m2 : am_M), (b % 100 - k2).toNat = n42 → (0 ≤ k2 ∧ k2 ≤ b % 100) → (sm_ pSc m0 m2) → (v3 = dz_ v2 k2.toNat) → (∀ j, 0 ≤ j → j < vi_ m0 1 1 → vi_ m2 57 j = dl_ (rc_ m0 j) v2 (vi_ m0 5 j) k2.toNat) → pw_V q (d + 59) iX9_drawn.2.2.2.1 tX9_drawn Q (67, [some (.ref 47), some (.int (ei_ (a))), some (.int (ei_ (b))), some (.int (ei_ (c))), some (.int (ei_ (v3))), some (.int (ei_ (s))), some (.int (ei_ (k))), some (.int (ei_ (k2)))], [], m2) := by
                    intro n42
                    induction n42 using Nat.strongRecOn with
                    | _ n42 ih43 =>
                      intro v3 k2 m2 hm_n42 v45 hs2 hz2 hT
                      refine pw_steps 3 (s' := (72, [some (.ref 47), some (.int (ei_ (a))), some (.int (ei_ (b))), some (.int (ei_ (c))), some (.int (ei_ (v3))), some (.int (ei_ (s))), some (.int (ei_ (k))), some (.int (ei_ (k2)))], [.int (ei_ (100)), .int (ei_ (b)), .int (ei_ (k2))], m2)) rfl ?_
                      refine pw_remN rfl (by omega) (by omega) ?_
                      refine pw_cmp rfl (by omega) (by omega) (fun (h46 : (b % 100) ≤ k2) => ?_) (fun (h46 : ¬ ((b % 100) ≤ k2)) => ?_)
                      · refine pw_steps 2 (s' := (109, [some (.ref 47), some (.int (ei_ (a))), some (.int (ei_ (b))), some (.int (ei_ (c))), some (.int (ei_ (v3))), some (.int (ei_ (s))), some (.int (ei_ (k))), some (.int (ei_ (k2)))], [.int (ei_ (c)), .int (ei_ (s))], m2)) rfl ?_
                        refine pw_ifT rfl p7 (show 0 ≤ c by omega) ?_
                        refine pw_steps 3 (s' := (124, [some (.ref 47), some (.int (ei_ (a))), some (.int (ei_ (b))), some (.int (ei_ (c))), some (.int (ei_ (v3))), some (.int (ei_ (s))), some (.int (ei_ (k))), some (.int (ei_ (k2)))], [.int (ei_ (c)), .ref 57, .int (ei_ (s))], m2)) rfl ?_
                        refine pw_ild rfl rfl (by omega) (fun x47 (hx47 : x47 = vi_ m2 57 c) rx47 sx47 => ?_)
                        refine pw_steps 4 (s' := (51, [some (.ref 47), some (.int (ei_ (a))), some (.int (ei_ (b))), some (.int (ei_ (c))), some (.int (ei_ (v3))), some (.int ((ei_ (s)) + (ei_ (x47)))), some (.int ((ei_ (k)) + (ei_ (1)))), some (.int (ei_ (k2)))], [], m2)) rfl ?_
                        refine pw_cv (congrArg (fun z_ : Int32 => ((51, [some (.ref 47), some (.int (ei_ (a))), some (.int (ei_ (b))), some (.int (ei_ (c))), some (.int (ei_ (v3))), some (.int z_), some (.int ((ei_ (k)) + (ei_ (1)))), some (.int (ei_ (k2)))], [], m2) : am_S)) (ei_add rfl rfl)) ?_
                        refine pw_cv (congrArg (fun z_ : Int32 => ((51, [some (.ref 47), some (.int (ei_ (a))), some (.int (ei_ (b))), some (.int (ei_ (c))), some (.int (ei_ (v3))), some (.int (ei_ ((s + x47)))), some (.int z_), some (.int (ei_ (k2)))], [], m2) : am_S)) (ei_add rfl rfl)) ?_
                        exact ih35 _ (by omega) v3 (s + x47) (k + 1) (some (.int (ei_ (k2)))) m2 rfl (by omega) (hs2) (by rw [zw_s (by omega), ← hz]; rw [← show k2 = b % 100 by omega]; exact hz2) (by rw [dn_s (by omega), ← hv, ← hz]; rw [if_neg (by omega)]; have e_ := hT c (by omega) (by omega); rw [show k2 = b % 100 by omega] at e_; unfold dw_; omega)
                      · refine pw_steps 11 (s' := (96, [some (.ref 47), some (.int (ei_ (a))), some (.int (ei_ (b))), some (.int (ei_ (c))), some (.int (((ei_ (v3)) * (ei_ (1103515245))) + (ei_ (12345)))), some (.int (ei_ (s))), some (.int (ei_ (k))), some (.int (ei_ (k2)))], [.int (ei_ (10)), .int (((((((ei_ (v3)) * (ei_ (1103515245))) + (ei_ (12345)))).toUInt32 >>> (((ei_ (8))).toUInt32 &&& Int32.toUInt32 31)).toInt32)), .ref 47], m2)) rfl ?_
                        refine pw_cv (congrArg (fun z_ : Int32 => ((96, [some (.ref 47), some (.int (ei_ (a))), some (.int (ei_ (b))), some (.int (ei_ (c))), some (.int (((ei_ (v3)) * (ei_ (1103515245))) + (ei_ (12345)))), some (.int (ei_ (s))), some (.int (ei_ (k))), some (.int (ei_ (k2)))], [.int (ei_ (10)), .int z_, .ref 47], m2) : am_S)) (ei_us (ei_add (ei_mul rfl rfl) rfl) rfl)) ?_
                        refine pw_cv (congrArg (fun z_ : Int32 => ((96, [some (.ref 47), some (.int (ei_ (a))), some (.int (ei_ (b))), some (.int (ei_ (c))), some (.int z_), some (.int (ei_ (s))), some (.int (ei_ (k))), some (.int (ei_ (k2)))], [.int (ei_ (10)), .int (ei_ ((us_ ((v3 * 1103515245) + 12345) 8))), .ref 47], m2) : am_S)) (ei_add (ei_mul rfl rfl) rfl)) ?_
                        have hus_ := us8_b ((v3 * 1103515245) + 12345)
                        refine pw_remN rfl (by omega) (by omega) ?_
                        refine pw_call (As := [.int (ei_ (((us_ ((v3 * 1103515245) + 12345) 8) % 10)))]) (st := []) (k := 47) rfl rfl rfl rfl rfl (Nat.le_of_ble_eq_true rfl) ?_
                        refine md_day (p0) (hmw) (hs2) (p3) (by omega) (fun j a_ b_ => by rw [hT j a_ b_]; have h1_ := p1.2.1 j a_ (by omega); have h2_ := dl_b (z := v2) h1_.1 (fun c_ => (rc_b m0 j c_).1) k2.toNat; omega) (fun m148 g49 g50 => ?_)
                        refine pw_steps 2 (s' := (67, [some (.ref 47), some (.int (ei_ (a))), some (.int (ei_ (b))), some (.int (ei_ (c))), some (.int (ei_ (((v3 * 1103515245) + 12345)))), some (.int (ei_ (s))), some (.int (ei_ (k))), some (.int ((ei_ (k2)) + (ei_ (1))))], [], m148)) rfl ?_
                        refine pw_cv (congrArg (fun z_ : Int32 => ((67, [some (.ref 47), some (.int (ei_ (a))), some (.int (ei_ (b))), some (.int (ei_ (c))), some (.int (ei_ (((v3 * 1103515245) + 12345)))), some (.int (ei_ (s))), some (.int (ei_ (k))), some (.int z_)], [], m148) : am_S)) (ei_add rfl rfl)) ?_
                        exact ih43 _ (by omega) ((v3 * 1103515245) + 12345) (k2 + 1) m148 rfl (by omega) ((sm_tr hs2 (sm_le g49 pGo_Sc))) (by rw [dz_s (by omega), ← hz2]) (by intro j a_ b_; rw [g50 j a_ b_, hT j a_ b_, bn_rc p0 p1 ⟨a_, b_⟩, dl_s (by omega), ← hz2])
                  exact L44 _ v2 0 m139 rfl (by omega) ((sm_tr hs (sm_le g40 p57_Sc))) (by rfl) (by intro j a_ b_; rw [g41 j a_ b_]; exact (p1.2.2.1 j a_ b_).2)
            exact L36 _ a 0 0 none m rfl (by omega) (p4) (by rfl) (by rfl)
          · refine pw_iret rfl rfl rfl ?_
            refine pw_ifF rfl (by decide) (show ¬ (¬ 0 = 0) by decide) ?_
            refine pw_steps 1 (s' := (41, [some (.ref 47), some (.int (ei_ (a))), some (.int (ei_ (b))), some (.int (ei_ (c))), none, none, none, none], [.int (ei_ ((-1)))], m)) rfl ?_
            refine pw_iret rfl rfl rfl ?_
            exact k0 (-1) m (by unfold sdr_; rw [if_neg (by omega)]) (p4)
          · refine pw_iret rfl rfl rfl ?_
            refine pw_ifF rfl (by decide) (show ¬ (¬ 0 = 0) by decide) ?_
            refine pw_steps 1 (s' := (41, [some (.ref 47), some (.int (ei_ (a))), some (.int (ei_ (b))), some (.int (ei_ (c))), none, none, none, none], [.int (ei_ ((-1)))], m)) rfl ?_
            refine pw_iret rfl rfl rfl ?_
            exact k0 (-1) m (by unfold sdr_; rw [if_neg (by omega)]) (p4)
    · refine pw_ifT rfl (by decide) (show 0 = 0 by decide) ?_
      refine pw_steps 1 (s' := (41, [some (.ref 47), some (.int (ei_ (a))), some (.int (ei_ (b))), some (.int (ei_ (c))), none, none, none, none], [.int (ei_ ((-1)))], m)) rfl ?_
      refine pw_iret rfl rfl rfl ?_
      exact k0 (-1) m (by unfold sdr_; rw [if_neg (by omega)]) (p4)
    · refine pw_ifT rfl (by decide) (show 0 = 0 by decide) ?_
      refine pw_steps 1 (s' := (41, [some (.ref 47), some (.int (ei_ (a))), some (.int (ei_ (b))), some (.int (ei_ (c))), none, none, none, none], [.int (ei_ ((-1)))], m)) rfl ?_
      refine pw_iret rfl rfl rfl ?_
      exact k0 (-1) m (by unfold sdr_; rw [if_neg (by omega)]) (p4)

theorem op_drawn {q : am_X} {d : Nat} {m : am_M} {a : Int} {b : Int} {c : Int} (q0 : -2147483648 ≤ a ∧ a < 2147483648) (q1 : -2147483648 ≤ b ∧ b < 2147483648) (q2 : -2147483648 ≤ c ∧ c < 2147483648) (hR : rR_ m) : pw_C q (d + 60) 107 [.ref 0, .int (ei_ a), .int (ei_ b), .int (ei_ c)] m (fun r1 m1 => pw_C q (d + 60) 237 [.ref 47, .int (ei_ a), .int (ei_ b), .int (ei_ c)] m1 (fun r2 m2 => ∃ x : Int, r1 = some (.int (ei_ x)) ∧ r2 = some (.int (ei_ x)) ∧ rR_ m2)) := by
  obtain ⟨hp, hd, hi, ht, hl, hz, hc, ha, hs⟩ := id hR
  refine cs_drawn hp hd hz hl (sm_rfl m) q0 q1 q2 (fun x m1 e1 g1 => ?_)
  refine ms_drawn hp hd hz hl g1 q0 q1 q2 (fun y m2 e2 g2 => ?_)
  exact ⟨x, rfl, by rw [e2, ← e1], rR_sm g2 hR⟩

