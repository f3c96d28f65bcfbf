
theorem xq_cg {v w : Int → Int} (e : ∀ i, 0 ≤ i → i < 6 → v i = w i) : ∀ (p st : List Int), xq_ v p st = xq_ w p st := by
  intro p
  induction p with
  | nil => intro st; cases st <;> rfl
  | cons s r ih =>
    intro st
    simp only [xq_]
    by_cases h1 : 256 ≤ s ∨ (0 ≤ s ∧ s < 6)
    · rw [if_pos h1, if_pos h1, ih]
      have : ly_ v s = ly_ w s := by
        unfold ly_
        by_cases h2 : 256 ≤ s
        · rw [if_pos h2, if_pos h2]
        · rw [if_neg h2, if_neg h2]; exact e s (by omega) (by omega)
      rw [this]
    · rw [if_neg h1, if_neg h1]
      by_cases h2 : s = 59
      · rw [if_pos h2, if_pos h2]
      · rw [if_neg h2, if_neg h2]
        by_cases h3 : s = 33 ∨ s = 126
        · rw [if_pos h3, if_pos h3]
          cases st with
          | nil => rfl
          | cons a t => exact ih _
        · rw [if_neg h3, if_neg h3]
          cases st with
          | nil => rfl
          | cons b t =>
            cases t with
            | nil => rfl
            | cons a t => simp only [ih]
theorem rt_of {m0 : am_M} {p a n c s o f g x : Int} (h : x = lw_v m0 s o n c f g) (hs : s = vi_ m0 2 a) (ho : o = if vi_ m0 2 (24 + p) = 1 then 0 else vi_ m0 2 (8 + p)) (hf : f = if vi_ m0 2 (24 + p) = 1 then vi_ m0 2 33 else 0) (hg : g = if p = a then 0 else 1) : x = rt_ m0 p a n c := by
  rw [h, rt_, hs, ho, hf, hg]
theorem pPi_Sc : ∀ k j, pSc k j = false → pPi k j = false := fun k j h => pPi_Lw k j (pLw_Sc k j h)
theorem vi_wn {m : am_M} {s o n c f g : Int} (hs : 0 ≤ s ∧ s ≤ 99) (ho : 0 ≤ o ∧ o ≤ 99) (hn : 0 ≤ n ∧ n ≤ 99) (hc : 0 ≤ c ∧ c ≤ 99) (hf : 0 ≤ f ∧ f ≤ 99) (hg : 0 ≤ g ∧ g ≤ 99) : ∀ i, 0 ≤ i → i < 6 → vi_ (wi_ (wi_ (wi_ (wi_ (wi_ (wi_ m 17 0 s) 17 1 o) 17 2 n) 17 3 c) 17 4 f) 17 5 g) 17 i = nv_ s o n c f g i := by
  intro i h1 h2
  rw [vi_up (by omega) (by omega) h1, vi_up (by omega) (by omega) h1, vi_up (by omega) (by omega) h1, vi_up (by omega) (by omega) h1, vi_up (by omega) (by omega) h1, vi_up (by omega) (by omega) h1]
  unfold nv_
  rcases (show i = 0 ∨ i = 1 ∨ i = 2 ∨ i = 3 ∨ i = 4 ∨ i = 5 by omega) with h | h | h | h | h | h <;> subst h <;> rfl

set_option maxHeartbeats 4000000 in
set_option maxRecDepth 20000 in
theorem cw_burnt {q : am_X} {d : Nat} {m : am_M} {Q : Option Value → am_M → Prop} {m0 : am_M} {s : Int} {o : Int} {n : Int} {c : Int} {f : Int} {g : Int}  (p0 : rZ_ m0) (p1 : sm_ pSc m0 m) (p2 : 0 ≤ s ∧ s ≤ 99) (p3 : 0 ≤ o ∧ o ≤ 99) (p4 : 0 ≤ n ∧ n ≤ 99) (p5 : 0 ≤ c ∧ c ≤ 99) (p6 : 0 ≤ f ∧ f ≤ 99) (p7 : 0 ≤ g ∧ g ≤ 99) (k0 : ∀ (x : Int) (m1 : am_M), (x = lw_v m0 s o n c f g) → (sm_ pSc m0 m1) → (0 ≤ x ∧ x ≤ 99) → Q (some (.int (ei_ (x)))) m1) : pw_C q (d + 4) 48 [.ref 14, .int (ei_ (s)), .int (ei_ (o)), .int (ei_ (n)), .int (ei_ (c)), .int (ei_ (f)), .int (ei_ (g))] m Q := by
  have hz1 := p0.1
  have hz2 := p0.2
  have hcs : 0 ≤ c * s ∧ c * s ≤ 9801 := ⟨Int.mul_nonneg (by omega) (by omega), Int.le_trans (Int.mul_le_mul (by omega : c ≤ 99) (by omega : s ≤ 99) (by omega) (by omega)) (by omega)⟩
  refine pw_intro (I := iX4_burnt) (T := tX4_burnt) rfl rfl rfl ?_
  refine pw_steps 1 (s' := (1, [some (.ref 14), some (.int (ei_ (s))), some (.int (ei_ (o))), some (.int (ei_ (n))), some (.int (ei_ (c))), some (.int (ei_ (f))), some (.int (ei_ (g)))], [.ref 14], m)) rfl ?_
  refine pw_get rfl rfl (fun x1 (hx1 : x1 = vi_ m 14 3) rx1 sx1 => ?_)
  replace hx1 : x1 = vi_ m0 14 3 := hx1.trans (sm_v p1 rfl)
  refine pw_if rfl ⟨rx1, sx1⟩ (fun (h2 : ¬ x1 = 0) => ?_) (fun (h2 : ¬ ¬ x1 = 0) => ?_)
  · refine pw_steps 4 (s' := (32, [some (.ref 14), some (.int (ei_ (s))), some (.int (ei_ (o))), some (.int (ei_ (n))), some (.int (ei_ (c))), some (.int (ei_ (f))), some (.int (ei_ (g)))], [.int (ei_ (s)), .int (ei_ (0)), .ref 17], m)) rfl ?_
    refine pw_ist rfl rfl (by omega) ?_
    refine pw_steps 4 (s' := (39, [some (.ref 14), some (.int (ei_ (s))), some (.int (ei_ (o))), some (.int (ei_ (n))), some (.int (ei_ (c))), some (.int (ei_ (f))), some (.int (ei_ (g)))], [.int (ei_ (o)), .int (ei_ (1)), .ref 17], wi_ m 17 (0) (s))) rfl ?_
    refine pw_ist rfl rfl (by omega) ?_
    refine pw_steps 4 (s' := (46, [some (.ref 14), some (.int (ei_ (s))), some (.int (ei_ (o))), some (.int (ei_ (n))), some (.int (ei_ (c))), some (.int (ei_ (f))), some (.int (ei_ (g)))], [.int (ei_ (n)), .int (ei_ (2)), .ref 17], wi_ (wi_ m 17 (0) (s)) 17 (1) (o))) rfl ?_
    refine pw_ist rfl rfl (by omega) ?_
    refine pw_steps 4 (s' := (54, [some (.ref 14), some (.int (ei_ (s))), some (.int (ei_ (o))), some (.int (ei_ (n))), some (.int (ei_ (c))), some (.int (ei_ (f))), some (.int (ei_ (g)))], [.int (ei_ (c)), .int (ei_ (3)), .ref 17], wi_ (wi_ (wi_ m 17 (0) (s)) 17 (1) (o)) 17 (2) (n))) rfl ?_
    refine pw_ist rfl rfl (by omega) ?_
    refine pw_steps 4 (s' := (62, [some (.ref 14), some (.int (ei_ (s))), some (.int (ei_ (o))), some (.int (ei_ (n))), some (.int (ei_ (c))), some (.int (ei_ (f))), some (.int (ei_ (g)))], [.int (ei_ (f)), .int (ei_ (4)), .ref 17], wi_ (wi_ (wi_ (wi_ m 17 (0) (s)) 17 (1) (o)) 17 (2) (n)) 17 (3) (c))) rfl ?_
    refine pw_ist rfl rfl (by omega) ?_
    refine pw_steps 4 (s' := (70, [some (.ref 14), some (.int (ei_ (s))), some (.int (ei_ (o))), some (.int (ei_ (n))), some (.int (ei_ (c))), some (.int (ei_ (f))), some (.int (ei_ (g)))], [.int (ei_ (g)), .int (ei_ (5)), .ref 17], wi_ (wi_ (wi_ (wi_ (wi_ m 17 (0) (s)) 17 (1) (o)) 17 (2) (n)) 17 (3) (c)) 17 (4) (f))) rfl ?_
    refine pw_ist rfl rfl (by omega) ?_
    refine pw_steps 1 (s' := (72, [some (.ref 14), some (.int (ei_ (s))), some (.int (ei_ (o))), some (.int (ei_ (n))), some (.int (ei_ (c))), some (.int (ei_ (f))), some (.int (ei_ (g)))], [.ref 14], wi_ (wi_ (wi_ (wi_ (wi_ (wi_ m 17 (0) (s)) 17 (1) (o)) 17 (2) (n)) 17 (3) (c)) 17 (4) (f)) 17 (5) (g))) rfl ?_
    refine pw_call (As := []) (st := []) (k := 14) rfl rfl rfl rfl rfl (Nat.le_of_ble_eq_true rfl) ?_
    refine cw_workOut (by simp only [rZ_, vi_ne (show (14:Nat) ≠ 17 by decide), sm_v p1 (k := 14) (j := 3) rfl]; exact p0) (fun x3 m14 g5 g6 g7 => ?_)
    have ez_ : x3 = xq_ (nv_ s o n c f g) (dr_ (vi_ m0 15) 0 (vi_ m0 14 3).toNat) [] := by
      rw [g6, xq_cg (vi_wn p2 p3 p4 p5 p6 p7)]
      simp only [vi_nef (show (15:Nat) ≠ 17 by decide), vi_ne (show (14:Nat) ≠ 17 by decide), sm_f p1 (k := 15) (fun _ => rfl), sm_v p1 (k := 14) (j := 3) rfl]
    refine pw_callS (As := [.int (ei_ (x3))]) (st := []) rfl (by decide) rfl rfl (Nat.le_of_ble_eq_true rfl) ?_
    refine cw_held (by omega) (fun x8 g9 => ?_)
    refine pw_iret rfl rfl rfl ?_
    exact k0 x8 m14 (by rw [g9, lw_v]; first | rw [if_pos (by omega)] | rw [if_neg (by omega), ez_]) ((sm_tr (sm_w (sm_w (sm_w (sm_w (sm_w (sm_w p1 (fun _ h_ => by rw [h_]; rfl)) (fun _ h_ => by rw [h_]; rfl)) (fun _ h_ => by rw [h_]; rfl)) (fun _ h_ => by rw [h_]; rfl)) (fun _ h_ => by rw [h_]; rfl)) (fun _ h_ => by rw [h_]; rfl)) (sm_le g5 pPi_Sc))) (by rw [g9]; exact hd_b _)
  · refine pw_steps 13 (s' := (22, [some (.ref 14), some (.int (ei_ (s))), some (.int (ei_ (o))), some (.int (ei_ (n))), some (.int (ei_ (c))), some (.int (ei_ (f))), some (.int (ei_ (g)))], [.int ((((((ei_ (c)) * (ei_ (s))) - ((ei_ (o)) * (ei_ (2)))) - (ei_ (f))) + (ei_ (n))) - (ei_ (1)))], m)) rfl ?_
    refine pw_cv (congrArg (fun z_ : Int32 => ((22, [some (.ref 14), some (.int (ei_ (s))), some (.int (ei_ (o))), some (.int (ei_ (n))), some (.int (ei_ (c))), some (.int (ei_ (f))), some (.int (ei_ (g)))], [.int z_], m) : am_S)) (ei_sub (ei_add (ei_sub (ei_sub (ei_mul rfl rfl) (ei_mul rfl rfl)) rfl) rfl) rfl)) ?_
    refine pw_callS (As := [.int (ei_ ((((((c * s) - (o * 2)) - f) + n) - 1)))]) (st := []) rfl (by decide) rfl rfl (Nat.le_of_ble_eq_true rfl) ?_
    refine cw_held (by omega) (fun x10 g11 => ?_)
    refine pw_iret rfl rfl rfl ?_
    exact k0 x10 m (by rw [g11, lw_v]; first | rw [if_pos (by omega)] | rw [if_neg (by omega), ez_]) (p1) (by rw [g11]; exact hd_b _)

set_option maxHeartbeats 4000000 in
set_option maxRecDepth 20000 in
theorem cw_told0 {q : am_X} {d : Nat} {m : am_M} {Q : Option Value → am_M → Prop} {m0 : am_M} {number : Int}  (p0 : rP_ m0) (p1 : sm_ pSc m0 m) (p2 : 0 ≤ number ∧ number < vi_ m0 1 1) (k0 : ∀ (x : Int), (x = vi_ m0 2 (number)) → (0 ≤ x ∧ x ≤ 9) → Q (some (.int (ei_ (x)))) m) : pw_C q (d + 4) 16 [.ref 1, .int (ei_ (number)), .int (ei_ (0))] m Q := by
  obtain ⟨hP1, hP2, hP3, hP4⟩ := id p0
  refine pw_intro (I := iX3_told) (T := tX3_told) rfl rfl rfl ?_
  refine pw_steps 3 (s' := (3, [some (.ref 1), some (.int (ei_ (number))), some (.int (ei_ (0)))], [.int (ei_ (0)), .int (ei_ (number)), .ref 1], m)) rfl ?_
  refine pw_call (As := [.int (ei_ (number)), .int (ei_ (0))]) (st := []) (k := 1) rfl rfl rfl rfl rfl (Nat.le_of_ble_eq_true rfl) ?_
  refine pw_intro (I := iX3_tells) (T := tX3_tells) rfl rfl rfl ?_
  refine pw_steps 1 (s' := (1, [some (.ref 1), some (.int (ei_ (number))), some (.int (ei_ (0)))], [.int (ei_ (0))], m)) rfl ?_
  refine pw_ifF rfl (by decide) (show ¬ (0 < 0) by decide) ?_
  refine pw_steps 2 (s' := (6, [some (.ref 1), some (.int (ei_ (number))), some (.int (ei_ (0)))], [.int (ei_ (5)), .int (ei_ (0))], m)) rfl ?_
  refine pw_cmpT rfl (by decide) (by decide) (show 0 ≤ 5 by decide) ?_
  refine pw_steps 2 (s' := (13, [some (.ref 1), some (.int (ei_ (number))), some (.int (ei_ (0)))], [.int (ei_ (4)), .int (ei_ (0))], m)) rfl ?_
  refine pw_cmpF rfl (by decide) (by decide) (show ¬ (4 ≤ 0) by decide) ?_
  refine pw_steps 2 (s' := (18, [some (.ref 1), some (.int (ei_ (number))), some (.int (ei_ (0)))], [.int (ei_ (number)), .ref 1], m)) rfl ?_
  refine pw_call (As := [.int (ei_ (number))]) (st := []) (k := 1) rfl rfl rfl rfl rfl (Nat.le_of_ble_eq_true rfl) ?_
  refine pw_intro (I := iX3_has) (T := tX3_has) rfl rfl rfl ?_
  refine pw_steps 1 (s' := (1, [some (.ref 1), some (.int (ei_ (number)))], [.int (ei_ (number))], m)) rfl ?_
  refine pw_ifF rfl (by omega) (show ¬ (number < 0) by omega) ?_
  refine pw_steps 2 (s' := (6, [some (.ref 1), some (.int (ei_ (number)))], [.ref 1, .int (ei_ (number))], m)) rfl ?_
  refine pw_get rfl rfl (fun x1 (hx1 : x1 = vi_ m 1 1) rx1 sx1 => ?_)
  replace hx1 : x1 = vi_ m0 1 1 := hx1.trans (sm_v p1 rfl)
  refine pw_cmpF rfl (by omega) ⟨rx1, sx1⟩ (show ¬ (x1 ≤ number) by omega) ?_
  refine pw_steps 2 (s' := (17, [some (.ref 1), some (.int (ei_ (number)))], [.int (ei_ (1))], m)) rfl ?_
  refine pw_iret rfl rfl rfl ?_
  refine pw_steps 1 (s' := (33, [some (.ref 1), some (.int (ei_ (number))), some (.int (ei_ (0)))], [.int (ei_ (1))], m)) rfl ?_
  refine pw_iret rfl rfl rfl ?_
  refine pw_ifF rfl (by decide) (show ¬ (1 = 0) by decide) ?_
  refine pw_steps 4 (s' := (15, [some (.ref 1), some (.int (ei_ (number))), some (.int (ei_ (0)))], [.int (ei_ (0)), .int (ei_ (number)), .ref 2], m)) rfl ?_
  refine pw_callS (As := [.int (ei_ (number)), .int (ei_ (0))]) (st := [.ref 2]) rfl (by decide) rfl rfl (Nat.le_of_ble_eq_true rfl) ?_
  refine pw_intro (I := iX3_placeOf) (T := tX3_placeOf) rfl rfl rfl ?_
  refine pw_steps 2 (s' := (2, [some (.int (ei_ (number))), some (.int (ei_ (0)))], [.int (ei_ (4)), .int (ei_ (0))], m)) rfl ?_
  refine pw_cmpF rfl (by decide) (by decide) (show ¬ (4 ≤ 0) by decide) ?_
  refine pw_steps 6 (s' := (20, [some (.int (ei_ (number))), some (.int (ei_ (0)))], [.int (((ei_ (0)) * (ei_ (8))) + (ei_ (number)))], m)) rfl ?_
  refine pw_cv (congrArg (fun z_ : Int32 => ((20, [some (.int (ei_ (number))), some (.int (ei_ (0)))], [.int z_], m) : am_S)) (ei_add (ei_mul rfl rfl) rfl)) ?_
  refine pw_iret rfl rfl rfl ?_
  refine pw_ild rfl rfl (by omega) (fun x2 (hx2 : x2 = vi_ m 2 (0 + number)) rx2 sx2 => ?_)
  replace hx2 : x2 = vi_ m0 2 (0 + number) := hx2.trans (sm_v p1 rfl)
  have b3 := hP3 (0 + number) (by omega) (by omega)
  refine pw_steps 1 (s' := (23, [some (.ref 1), some (.int (ei_ (number))), some (.int (ei_ (0)))], [.int (ei_ (x2))], m)) rfl ?_
  refine pw_iret rfl rfl rfl ?_
  exact k0 x2 (by rw [hx2, Int.zero_add]) (by omega)

set_option maxHeartbeats 4000000 in
set_option maxRecDepth 20000 in
theorem cw_told1 {q : am_X} {d : Nat} {m : am_M} {Q : Option Value → am_M → Prop} {m0 : am_M} {number : Int}  (p0 : rP_ m0) (p1 : sm_ pSc m0 m) (p2 : 0 ≤ number ∧ number < vi_ m0 1 1) (k0 : ∀ (x : Int), (x = vi_ m0 2 (8 + number)) → (0 ≤ x ∧ x ≤ 9) → Q (some (.int (ei_ (x)))) m) : pw_C q (d + 4) 16 [.ref 1, .int (ei_ (number)), .int (ei_ (1))] m Q := by
  obtain ⟨hP1, hP2, hP3, hP4⟩ := id p0
  refine pw_intro (I := iX3_told) (T := tX3_told) rfl rfl rfl ?_
  refine pw_steps 3 (s' := (3, [some (.ref 1), some (.int (ei_ (number))), some (.int (ei_ (1)))], [.int (ei_ (1)), .int (ei_ (number)), .ref 1], m)) rfl ?_
  refine pw_call (As := [.int (ei_ (number)), .int (ei_ (1))]) (st := []) (k := 1) rfl rfl rfl rfl rfl (Nat.le_of_ble_eq_true rfl) ?_
  refine pw_intro (I := iX3_tells) (T := tX3_tells) rfl rfl rfl ?_
  refine pw_steps 1 (s' := (1, [some (.ref 1), some (.int (ei_ (number))), some (.int (ei_ (1)))], [.int (ei_ (1))], m)) rfl ?_
  refine pw_ifF rfl (by decide) (show ¬ (1 < 0) by decide) ?_
  refine pw_steps 2 (s' := (6, [some (.ref 1), some (.int (ei_ (number))), some (.int (ei_ (1)))], [.int (ei_ (5)), .int (ei_ (1))], m)) rfl ?_
  refine pw_cmpT rfl (by decide) (by decide) (show 1 ≤ 5 by decide) ?_
  refine pw_steps 2 (s' := (13, [some (.ref 1), some (.int (ei_ (number))), some (.int (ei_ (1)))], [.int (ei_ (4)), .int (ei_ (1))], m)) rfl ?_
  refine pw_cmpF rfl (by decide) (by decide) (show ¬ (4 ≤ 1) by decide) ?_
  refine pw_steps 2 (s' := (18, [some (.ref 1), some (.int (ei_ (number))), some (.int (ei_ (1)))], [.int (ei_ (number)), .ref 1], m)) rfl ?_
  refine pw_call (As := [.int (ei_ (number))]) (st := []) (k := 1) rfl rfl rfl rfl rfl (Nat.le_of_ble_eq_true rfl) ?_
  refine pw_intro (I := iX3_has) (T := tX3_has) rfl rfl rfl ?_
  refine pw_steps 1 (s' := (1, [some (.ref 1), some (.int (ei_ (number)))], [.int (ei_ (number))], m)) rfl ?_
  refine pw_ifF rfl (by omega) (show ¬ (number < 0) by omega) ?_
  refine pw_steps 2 (s' := (6, [some (.ref 1), some (.int (ei_ (number)))], [.ref 1, .int (ei_ (number))], m)) rfl ?_
  refine pw_get rfl rfl (fun x1 (hx1 : x1 = vi_ m 1 1) rx1 sx1 => ?_)
  replace hx1 : x1 = vi_ m0 1 1 := hx1.trans (sm_v p1 rfl)
  refine pw_cmpF rfl (by omega) ⟨rx1, sx1⟩ (show ¬ (x1 ≤ number) by omega) ?_
  refine pw_steps 2 (s' := (17, [some (.ref 1), some (.int (ei_ (number)))], [.int (ei_ (1))], m)) rfl ?_
  refine pw_iret rfl rfl rfl ?_
  refine pw_steps 1 (s' := (33, [some (.ref 1), some (.int (ei_ (number))), some (.int (ei_ (1)))], [.int (ei_ (1))], m)) rfl ?_
  refine pw_iret rfl rfl rfl ?_
  refine pw_ifF rfl (by decide) (show ¬ (1 = 0) by decide) ?_
  refine pw_steps 4 (s' := (15, [some (.ref 1), some (.int (ei_ (number))), some (.int (ei_ (1)))], [.int (ei_ (1)), .int (ei_ (number)), .ref 2], m)) rfl ?_
  refine pw_callS (As := [.int (ei_ (number)), .int (ei_ (1))]) (st := [.ref 2]) rfl (by decide) rfl rfl (Nat.le_of_ble_eq_true rfl) ?_
  refine pw_intro (I := iX3_placeOf) (T := tX3_placeOf) rfl rfl rfl ?_
  refine pw_steps 2 (s' := (2, [some (.int (ei_ (number))), some (.int (ei_ (1)))], [.int (ei_ (4)), .int (ei_ (1))], m)) rfl ?_
  refine pw_cmpF rfl (by decide) (by decide) (show ¬ (4 ≤ 1) by decide) ?_
  refine pw_steps 6 (s' := (20, [some (.int (ei_ (number))), some (.int (ei_ (1)))], [.int (((ei_ (1)) * (ei_ (8))) + (ei_ (number)))], m)) rfl ?_
  refine pw_cv (congrArg (fun z_ : Int32 => ((20, [some (.int (ei_ (number))), some (.int (ei_ (1)))], [.int z_], m) : am_S)) (ei_add (ei_mul rfl rfl) rfl)) ?_
  refine pw_iret rfl rfl rfl ?_
  refine pw_ild rfl rfl (by omega) (fun x2 (hx2 : x2 = vi_ m 2 (8 + number)) rx2 sx2 => ?_)
  replace hx2 : x2 = vi_ m0 2 (8 + number) := hx2.trans (sm_v p1 rfl)
  have b3 := hP3 (8 + number) (by omega) (by omega)
  refine pw_steps 1 (s' := (23, [some (.ref 1), some (.int (ei_ (number))), some (.int (ei_ (1)))], [.int (ei_ (x2))], m)) rfl ?_
  refine pw_iret rfl rfl rfl ?_
  exact k0 x2 (by exact hx2) (by omega)

set_option maxHeartbeats 4000000 in
set_option maxRecDepth 20000 in
theorem cw_told2 {q : am_X} {d : Nat} {m : am_M} {Q : Option Value → am_M → Prop} {m0 : am_M} {number : Int}  (p0 : rP_ m0) (p1 : sm_ pSc m0 m) (p2 : 0 ≤ number ∧ number < vi_ m0 1 1) (k0 : ∀ (x : Int), (x = vi_ m0 2 (16 + number)) → (0 ≤ x ∧ x ≤ 9) → Q (some (.int (ei_ (x)))) m) : pw_C q (d + 4) 16 [.ref 1, .int (ei_ (number)), .int (ei_ (2))] m Q := by
  obtain ⟨hP1, hP2, hP3, hP4⟩ := id p0
  refine pw_intro (I := iX3_told) (T := tX3_told) rfl rfl rfl ?_
  refine pw_steps 3 (s' := (3, [some (.ref 1), some (.int (ei_ (number))), some (.int (ei_ (2)))], [.int (ei_ (2)), .int (ei_ (number)), .ref 1], m)) rfl ?_
  refine pw_call (As := [.int (ei_ (number)), .int (ei_ (2))]) (st := []) (k := 1) rfl rfl rfl rfl rfl (Nat.le_of_ble_eq_true rfl) ?_
  refine pw_intro (I := iX3_tells) (T := tX3_tells) rfl rfl rfl ?_
  refine pw_steps 1 (s' := (1, [some (.ref 1), some (.int (ei_ (number))), some (.int (ei_ (2)))], [.int (ei_ (2))], m)) rfl ?_
  refine pw_ifF rfl (by decide) (show ¬ (2 < 0) by decide) ?_
  refine pw_steps 2 (s' := (6, [some (.ref 1), some (.int (ei_ (number))), some (.int (ei_ (2)))], [.int (ei_ (5)), .int (ei_ (2))], m)) rfl ?_
  refine pw_cmpT rfl (by decide) (by decide) (show 2 ≤ 5 by decide) ?_
  refine pw_steps 2 (s' := (13, [some (.ref 1), some (.int (ei_ (number))), some (.int (ei_ (2)))], [.int (ei_ (4)), .int (ei_ (2))], m)) rfl ?_
  refine pw_cmpF rfl (by decide) (by decide) (show ¬ (4 ≤ 2) by decide) ?_
  refine pw_steps 2 (s' := (18, [some (.ref 1), some (.int (ei_ (number))), some (.int (ei_ (2)))], [.int (ei_ (number)), .ref 1], m)) rfl ?_
  refine pw_call (As := [.int (ei_ (number))]) (st := []) (k := 1) rfl rfl rfl rfl rfl (Nat.le_of_ble_eq_true rfl) ?_
  refine pw_intro (I := iX3_has) (T := tX3_has) rfl rfl rfl ?_
  refine pw_steps 1 (s' := (1, [some (.ref 1), some (.int (ei_ (number)))], [.int (ei_ (number))], m)) rfl ?_
  refine pw_ifF rfl (by omega) (show ¬ (number < 0) by omega) ?_
  refine pw_steps 2 (s' := (6, [some (.ref 1), some (.int (ei_ (number)))], [.ref 1, .int (ei_ (number))], m)) rfl ?_
  refine pw_get rfl rfl (fun x1 (hx1 : x1 = vi_ m 1 1) rx1 sx1 => ?_)
  replace hx1 : x1 = vi_ m0 1 1 := hx1.trans (sm_v p1 rfl)
  refine pw_cmpF rfl (by omega) ⟨rx1, sx1⟩ (show ¬ (x1 ≤ number) by omega) ?_
  refine pw_steps 2 (s' := (17, [some (.ref 1), some (.int (ei_ (number)))], [.int (ei_ (1))], m)) rfl ?_
  refine pw_iret rfl rfl rfl ?_
  refine pw_steps 1 (s' := (33, [some (.ref 1), some (.int (ei_ (number))), some (.int (ei_ (2)))], [.int (ei_ (1))], m)) rfl ?_
  refine pw_iret rfl rfl rfl ?_
  refine pw_ifF rfl (by decide) (show ¬ (1 = 0) by decide) ?_
  refine pw_steps 4 (s' := (15, [some (.ref 1), some (.int (ei_ (number))), some (.int (ei_ (2)))], [.int (ei_ (2)), .int (ei_ (number)), .ref 2], m)) rfl ?_
  refine pw_callS (As := [.int (ei_ (number)), .int (ei_ (2))]) (st := [.ref 2]) rfl (by decide) rfl rfl (Nat.le_of_ble_eq_true rfl) ?_
  refine pw_intro (I := iX3_placeOf) (T := tX3_placeOf) rfl rfl rfl ?_
  refine pw_steps 2 (s' := (2, [some (.int (ei_ (number))), some (.int (ei_ (2)))], [.int (ei_ (4)), .int (ei_ (2))], m)) rfl ?_
  refine pw_cmpF rfl (by decide) (by decide) (show ¬ (4 ≤ 2) by decide) ?_
  refine pw_steps 6 (s' := (20, [some (.int (ei_ (number))), some (.int (ei_ (2)))], [.int (((ei_ (2)) * (ei_ (8))) + (ei_ (number)))], m)) rfl ?_
  refine pw_cv (congrArg (fun z_ : Int32 => ((20, [some (.int (ei_ (number))), some (.int (ei_ (2)))], [.int z_], m) : am_S)) (ei_add (ei_mul rfl rfl) rfl)) ?_
  refine pw_iret rfl rfl rfl ?_
  refine pw_ild rfl rfl (by omega) (fun x2 (hx2 : x2 = vi_ m 2 (16 + number)) rx2 sx2 => ?_)
  replace hx2 : x2 = vi_ m0 2 (16 + number) := hx2.trans (sm_v p1 rfl)
  have b3 := hP3 (16 + number) (by omega) (by omega)
  refine pw_steps 1 (s' := (23, [some (.ref 1), some (.int (ei_ (number))), some (.int (ei_ (2)))], [.int (ei_ (x2))], m)) rfl ?_
  refine pw_iret rfl rfl rfl ?_
  exact k0 x2 (by exact hx2) (by omega)

set_option maxHeartbeats 4000000 in
set_option maxRecDepth 20000 in
theorem cw_told3 {q : am_X} {d : Nat} {m : am_M} {Q : Option Value → am_M → Prop} {m0 : am_M} {number : Int}  (p0 : rP_ m0) (p1 : sm_ pSc m0 m) (p2 : 0 ≤ number ∧ number < vi_ m0 1 1) (k0 : ∀ (x : Int), (x = vi_ m0 2 (24 + number)) → (0 ≤ x ∧ x ≤ 9) → Q (some (.int (ei_ (x)))) m) : pw_C q (d + 4) 16 [.ref 1, .int (ei_ (number)), .int (ei_ (3))] m Q := by
  obtain ⟨hP1, hP2, hP3, hP4⟩ := id p0
  refine pw_intro (I := iX3_told) (T := tX3_told) rfl rfl rfl ?_
  refine pw_steps 3 (s' := (3, [some (.ref 1), some (.int (ei_ (number))), some (.int (ei_ (3)))], [.int (ei_ (3)), .int (ei_ (number)), .ref 1], m)) rfl ?_
  refine pw_call (As := [.int (ei_ (number)), .int (ei_ (3))]) (st := []) (k := 1) rfl rfl rfl rfl rfl (Nat.le_of_ble_eq_true rfl) ?_
  refine pw_intro (I := iX3_tells) (T := tX3_tells) rfl rfl rfl ?_
  refine pw_steps 1 (s' := (1, [some (.ref 1), some (.int (ei_ (number))), some (.int (ei_ (3)))], [.int (ei_ (3))], m)) rfl ?_
  refine pw_ifF rfl (by decide) (show ¬ (3 < 0) by decide) ?_
  refine pw_steps 2 (s' := (6, [some (.ref 1), some (.int (ei_ (number))), some (.int (ei_ (3)))], [.int (ei_ (5)), .int (ei_ (3))], m)) rfl ?_
  refine pw_cmpT rfl (by decide) (by decide) (show 3 ≤ 5 by decide) ?_
  refine pw_steps 2 (s' := (13, [some (.ref 1), some (.int (ei_ (number))), some (.int (ei_ (3)))], [.int (ei_ (4)), .int (ei_ (3))], m)) rfl ?_
  refine pw_cmpF rfl (by decide) (by decide) (show ¬ (4 ≤ 3) by decide) ?_
  refine pw_steps 2 (s' := (18, [some (.ref 1), some (.int (ei_ (number))), some (.int (ei_ (3)))], [.int (ei_ (number)), .ref 1], m)) rfl ?_
  refine pw_call (As := [.int (ei_ (number))]) (st := []) (k := 1) rfl rfl rfl rfl rfl (Nat.le_of_ble_eq_true rfl) ?_
  refine pw_intro (I := iX3_has) (T := tX3_has) rfl rfl rfl ?_
  refine pw_steps 1 (s' := (1, [some (.ref 1), some (.int (ei_ (number)))], [.int (ei_ (number))], m)) rfl ?_
  refine pw_ifF rfl (by omega) (show ¬ (number < 0) by omega) ?_
  refine pw_steps 2 (s' := (6, [some (.ref 1), some (.int (ei_ (number)))], [.ref 1, .int (ei_ (number))], m)) rfl ?_
  refine pw_get rfl rfl (fun x1 (hx1 : x1 = vi_ m 1 1) rx1 sx1 => ?_)
  replace hx1 : x1 = vi_ m0 1 1 := hx1.trans (sm_v p1 rfl)
  refine pw_cmpF rfl (by omega) ⟨rx1, sx1⟩ (show ¬ (x1 ≤ number) by omega) ?_
  refine pw_steps 2 (s' := (17, [some (.ref 1), some (.int (ei_ (number)))], [.int (ei_ (1))], m)) rfl ?_
  refine pw_iret rfl rfl rfl ?_
  refine pw_steps 1 (s' := (33, [some (.ref 1), some (.int (ei_ (number))), some (.int (ei_ (3)))], [.int (ei_ (1))], m)) rfl ?_
  refine pw_iret rfl rfl rfl ?_
  refine pw_ifF rfl (by decide) (show ¬ (1 = 0) by decide) ?_
  refine pw_steps 4 (s' := (15, [some (.ref 1), some (.int (ei_ (number))), some (.int (ei_ (3)))], [.int (ei_ (3)), .int (ei_ (number)), .ref 2], m)) rfl ?_
  refine pw_callS (As := [.int (ei_ (number)), .int (ei_ (3))]) (st := [.ref 2]) rfl (by decide) rfl rfl (Nat.le_of_ble_eq_true rfl) ?_
  refine pw_intro (I := iX3_placeOf) (T := tX3_placeOf) rfl rfl rfl ?_
  refine pw_steps 2 (s' := (2, [some (.int (ei_ (number))), some (.int (ei_ (3)))], [.int (ei_ (4)), .int (ei_ (3))], m)) rfl ?_
  refine pw_cmpF rfl (by decide) (by decide) (show ¬ (4 ≤ 3) by decide) ?_
  refine pw_steps 6 (s' := (20, [some (.int (ei_ (number))), some (.int (ei_ (3)))], [.int (((ei_ (3)) * (ei_ (8))) + (ei_ (number)))], m)) rfl ?_
  refine pw_cv (congrArg (fun z_ : Int32 => ((20, [some (.int (ei_ (number))), some (.int (ei_ (3)))], [.int z_], m) : am_S)) (ei_add (ei_mul rfl rfl) rfl)) ?_
  refine pw_iret rfl rfl rfl ?_
  refine pw_ild rfl rfl (by omega) (fun x2 (hx2 : x2 = vi_ m 2 (24 + number)) rx2 sx2 => ?_)
  replace hx2 : x2 = vi_ m0 2 (24 + number) := hx2.trans (sm_v p1 rfl)
  have b3 := hP3 (24 + number) (by omega) (by omega)
  refine pw_steps 1 (s' := (23, [some (.ref 1), some (.int (ei_ (number))), some (.int (ei_ (3)))], [.int (ei_ (x2))], m)) rfl ?_
  refine pw_iret rfl rfl rfl ?_
  exact k0 x2 (by exact hx2) (by omega)

set_option maxHeartbeats 4000000 in
set_option maxRecDepth 20000 in
theorem cw_told4 {q : am_X} {d : Nat} {m : am_M} {Q : Option Value → am_M → Prop} {m0 : am_M}  (p0 : rP_ m0) (p1 : sm_ pSc m0 m) (k0 : ∀ (x : Int), (x = vi_ m0 2 32) → (0 ≤ x ∧ x ≤ 9) → Q (some (.int (ei_ (x)))) m) : pw_C q (d + 4) 16 [.ref 1, .int (ei_ (0)), .int (ei_ (4))] m Q := by
  obtain ⟨hP1, hP2, hP3, hP4⟩ := id p0
  refine pw_intro (I := iX3_told) (T := tX3_told) rfl rfl rfl ?_
  refine pw_steps 3 (s' := (3, [some (.ref 1), some (.int (ei_ (0))), some (.int (ei_ (4)))], [.int (ei_ (4)), .int (ei_ (0)), .ref 1], m)) rfl ?_
  refine pw_call (As := [.int (ei_ (0)), .int (ei_ (4))]) (st := []) (k := 1) rfl rfl rfl rfl rfl (Nat.le_of_ble_eq_true rfl) ?_
  refine pw_intro (I := iX3_tells) (T := tX3_tells) rfl rfl rfl ?_
  refine pw_steps 1 (s' := (1, [some (.ref 1), some (.int (ei_ (0))), some (.int (ei_ (4)))], [.int (ei_ (4))], m)) rfl ?_
  refine pw_ifF rfl (by decide) (show ¬ (4 < 0) by decide) ?_
  refine pw_steps 2 (s' := (6, [some (.ref 1), some (.int (ei_ (0))), some (.int (ei_ (4)))], [.int (ei_ (5)), .int (ei_ (4))], m)) rfl ?_
  refine pw_cmpT rfl (by decide) (by decide) (show 4 ≤ 5 by decide) ?_
  refine pw_steps 2 (s' := (13, [some (.ref 1), some (.int (ei_ (0))), some (.int (ei_ (4)))], [.int (ei_ (4)), .int (ei_ (4))], m)) rfl ?_
  refine pw_cmpT rfl (by decide) (by decide) (show 4 ≤ 4 by decide) ?_
  refine pw_steps 1 (s' := (25, [some (.ref 1), some (.int (ei_ (0))), some (.int (ei_ (4)))], [.int (ei_ (0))], m)) rfl ?_
  refine pw_ifF rfl (by decide) (show ¬ (¬ 0 = 0) by decide) ?_
  refine pw_steps 2 (s' := (33, [some (.ref 1), some (.int (ei_ (0))), some (.int (ei_ (4)))], [.int (ei_ (1))], m)) rfl ?_
  refine pw_iret rfl rfl rfl ?_
  refine pw_ifF rfl (by decide) (show ¬ (1 = 0) by decide) ?_
  refine pw_steps 4 (s' := (15, [some (.ref 1), some (.int (ei_ (0))), some (.int (ei_ (4)))], [.int (ei_ (4)), .int (ei_ (0)), .ref 2], m)) rfl ?_
  refine pw_callS (As := [.int (ei_ (0)), .int (ei_ (4))]) (st := [.ref 2]) rfl (by decide) rfl rfl (Nat.le_of_ble_eq_true rfl) ?_
  refine pw_intro (I := iX3_placeOf) (T := tX3_placeOf) rfl rfl rfl ?_
  refine pw_steps 2 (s' := (2, [some (.int (ei_ (0))), some (.int (ei_ (4)))], [.int (ei_ (4)), .int (ei_ (4))], m)) rfl ?_
  refine pw_cmpT rfl (by decide) (by decide) (show 4 ≤ 4 by decide) ?_
  refine pw_steps 5 (s' := (20, [some (.int (ei_ (0))), some (.int (ei_ (4)))], [.int (((ei_ (32)) + (ei_ (4))) - (ei_ (4)))], m)) rfl ?_
  refine pw_cv (congrArg (fun z_ : Int32 => ((20, [some (.int (ei_ (0))), some (.int (ei_ (4)))], [.int z_], m) : am_S)) (ei_sub (ei_add rfl rfl) rfl)) ?_
  refine pw_iret rfl rfl rfl ?_
  refine pw_ild rfl rfl (by omega) (fun x1 (hx1 : x1 = vi_ m 2 32) rx1 sx1 => ?_)
  replace hx1 : x1 = vi_ m0 2 32 := hx1.trans (sm_v p1 rfl)
  have b2 := hP3 32 (by omega) (by omega)
  refine pw_steps 1 (s' := (23, [some (.ref 1), some (.int (ei_ (0))), some (.int (ei_ (4)))], [.int (ei_ (x1))], m)) rfl ?_
  refine pw_iret rfl rfl rfl ?_
  exact k0 x1 (by exact hx1) (by omega)

set_option maxHeartbeats 4000000 in
set_option maxRecDepth 20000 in
theorem cw_told5 {q : am_X} {d : Nat} {m : am_M} {Q : Option Value → am_M → Prop} {m0 : am_M}  (p0 : rP_ m0) (p1 : sm_ pSc m0 m) (k0 : ∀ (x : Int), (x = vi_ m0 2 33) → (0 ≤ x ∧ x ≤ 9) → Q (some (.int (ei_ (x)))) m) : pw_C q (d + 4) 16 [.ref 1, .int (ei_ (0)), .int (ei_ (5))] m Q := by
  obtain ⟨hP1, hP2, hP3, hP4⟩ := id p0
  refine pw_intro (I := iX3_told) (T := tX3_told) rfl rfl rfl ?_
  refine pw_steps 3 (s' := (3, [some (.ref 1), some (.int (ei_ (0))), some (.int (ei_ (5)))], [.int (ei_ (5)), .int (ei_ (0)), .ref 1], m)) rfl ?_
  refine pw_call (As := [.int (ei_ (0)), .int (ei_ (5))]) (st := []) (k := 1) rfl rfl rfl rfl rfl (Nat.le_of_ble_eq_true rfl) ?_
  refine pw_intro (I := iX3_tells) (T := tX3_tells) rfl rfl rfl ?_
  refine pw_steps 1 (s' := (1, [some (.ref 1), some (.int (ei_ (0))), some (.int (ei_ (5)))], [.int (ei_ (5))], m)) rfl ?_
  refine pw_ifF rfl (by decide) (show ¬ (5 < 0) by decide) ?_
  refine pw_steps 2 (s' := (6, [some (.ref 1), some (.int (ei_ (0))), some (.int (ei_ (5)))], [.int (ei_ (5)), .int (ei_ (5))], m)) rfl ?_
  refine pw_cmpT rfl (by decide) (by decide) (show 5 ≤ 5 by decide) ?_
  refine pw_steps 2 (s' := (13, [some (.ref 1), some (.int (ei_ (0))), some (.int (ei_ (5)))], [.int (ei_ (4)), .int (ei_ (5))], m)) rfl ?_
  refine pw_cmpT rfl (by decide) (by decide) (show 4 ≤ 5 by decide) ?_
  refine pw_steps 1 (s' := (25, [some (.ref 1), some (.int (ei_ (0))), some (.int (ei_ (5)))], [.int (ei_ (0))], m)) rfl ?_
  refine pw_ifF rfl (by decide) (show ¬ (¬ 0 = 0) by decide) ?_
  refine pw_steps 2 (s' := (33, [some (.ref 1), some (.int (ei_ (0))), some (.int (ei_ (5)))], [.int (ei_ (1))], m)) rfl ?_
  refine pw_iret rfl rfl rfl ?_
  refine pw_ifF rfl (by decide) (show ¬ (1 = 0) by decide) ?_
  refine pw_steps 4 (s' := (15, [some (.ref 1), some (.int (ei_ (0))), some (.int (ei_ (5)))], [.int (ei_ (5)), .int (ei_ (0)), .ref 2], m)) rfl ?_
  refine pw_callS (As := [.int (ei_ (0)), .int (ei_ (5))]) (st := [.ref 2]) rfl (by decide) rfl rfl (Nat.le_of_ble_eq_true rfl) ?_
  refine pw_intro (I := iX3_placeOf) (T := tX3_placeOf) rfl rfl rfl ?_
  refine pw_steps 2 (s' := (2, [some (.int (ei_ (0))), some (.int (ei_ (5)))], [.int (ei_ (4)), .int (ei_ (5))], m)) rfl ?_
  refine pw_cmpT rfl (by decide) (by decide) (show 4 ≤ 5 by decide) ?_
  refine pw_steps 5 (s' := (20, [some (.int (ei_ (0))), some (.int (ei_ (5)))], [.int (((ei_ (32)) + (ei_ (5))) - (ei_ (4)))], m)) rfl ?_
  refine pw_cv (congrArg (fun z_ : Int32 => ((20, [some (.int (ei_ (0))), some (.int (ei_ (5)))], [.int z_], m) : am_S)) (ei_sub (ei_add rfl rfl) rfl)) ?_
  refine pw_iret rfl rfl rfl ?_
  refine pw_ild rfl rfl (by omega) (fun x1 (hx1 : x1 = vi_ m 2 33) rx1 sx1 => ?_)
  replace hx1 : x1 = vi_ m0 2 33 := hx1.trans (sm_v p1 rfl)
  have b2 := hP3 33 (by omega) (by omega)
  refine pw_steps 1 (s' := (23, [some (.ref 1), some (.int (ei_ (0))), some (.int (ei_ (5)))], [.int (ei_ (x1))], m)) rfl ?_
  refine pw_iret rfl rfl rfl ?_
  exact k0 x1 (by exact hx1) (by omega)

set_option maxHeartbeats 4000000 in
set_option maxRecDepth 20000 in
theorem cw_wearer {q : am_X} {d : Nat} {m : am_M} {Q : Option Value → am_M → Prop} {m0 : am_M} {name : Int}  (p0 : sm_ pSc m0 m) (p1 : 0 ≤ name ∧ name < 8) (k0 : ∀ (x : Int), (x = vi_ m0 4 name) → Q (some (.int (ei_ (x)))) m) : pw_C q (d + 2) 20 [.ref 3, .int (ei_ (name))] m Q := by
  refine pw_intro (I := iX2_wearerOf) (T := tX2_wearerOf) rfl rfl rfl ?_
  refine pw_steps 1 (s' := (1, [some (.ref 3), some (.int (ei_ (name)))], [.int (ei_ (name))], m)) rfl ?_
  refine pw_callS (As := [.int (ei_ (name))]) (st := []) rfl (by decide) rfl rfl (Nat.le_of_ble_eq_true rfl) ?_
  refine pw_intro (I := iX2_isIn) (T := tX2_isIn) rfl rfl rfl ?_
  refine pw_steps 1 (s' := (1, [some (.int (ei_ (name)))], [.int (ei_ (name))], m)) rfl ?_
  refine pw_ifF rfl (by omega) (show ¬ (name < 0) by omega) ?_
  refine pw_steps 2 (s' := (7, [some (.int (ei_ (name)))], [.int (ei_ (8)), .int (ei_ (name))], m)) rfl ?_
  refine pw_cmpF rfl (by omega) (by decide) (show ¬ (8 ≤ name) by omega) ?_
  refine pw_steps 2 (s' := (15, [some (.int (ei_ (name)))], [.int (ei_ (1))], m)) rfl ?_
  refine pw_iret rfl rfl rfl ?_
  refine pw_ifF rfl (by decide) (show ¬ (1 = 0) by decide) ?_
  refine pw_steps 3 (s' := (12, [some (.ref 3), some (.int (ei_ (name)))], [.int (ei_ (name)), .ref 4], m)) rfl ?_
  refine pw_ild rfl rfl (by omega) (fun x1 (hx1 : x1 = vi_ m 4 name) rx1 sx1 => ?_)
  replace hx1 : x1 = vi_ m0 4 name := hx1.trans (sm_v p0 rfl)
  refine pw_steps 1 (s' := (17, [some (.ref 3), some (.int (ei_ (name)))], [.int (ei_ (x1))], m)) rfl ?_
  refine pw_iret rfl rfl rfl ?_
  exact k0 x1 (by exact hx1)

set_option maxHeartbeats 4000000 in
set_option maxRecDepth 20000 in
theorem cw_leftOf {q : am_X} {d : Nat} {m : am_M} {Q : Option Value → am_M → Prop} {m0 : am_M} {name : Int}  (p0 : sm_ pSc m0 m) (p1 : 0 ≤ name ∧ name < 8) (k0 : ∀ (x : Int), (x = vi_ m0 5 name) → Q (some (.int (ei_ (x)))) m) : pw_C q (d + 2) 22 [.ref 3, .int (ei_ (name))] m Q := by
  refine pw_intro (I := iX2_leftOf) (T := tX2_leftOf) rfl rfl rfl ?_
  refine pw_steps 1 (s' := (1, [some (.ref 3), some (.int (ei_ (name)))], [.int (ei_ (name))], m)) rfl ?_
  refine pw_callS (As := [.int (ei_ (name))]) (st := []) rfl (by decide) rfl rfl (Nat.le_of_ble_eq_true rfl) ?_
  refine pw_intro (I := iX2_isIn) (T := tX2_isIn) rfl rfl rfl ?_
  refine pw_steps 1 (s' := (1, [some (.int (ei_ (name)))], [.int (ei_ (name))], m)) rfl ?_
  refine pw_ifF rfl (by omega) (show ¬ (name < 0) by omega) ?_
  refine pw_steps 2 (s' := (7, [some (.int (ei_ (name)))], [.int (ei_ (8)), .int (ei_ (name))], m)) rfl ?_
  refine pw_cmpF rfl (by omega) (by decide) (show ¬ (8 ≤ name) by omega) ?_
  refine pw_steps 2 (s' := (15, [some (.int (ei_ (name)))], [.int (ei_ (1))], m)) rfl ?_
  refine pw_iret rfl rfl rfl ?_
  refine pw_ifF rfl (by decide) (show ¬ (1 = 0) by decide) ?_
  refine pw_steps 3 (s' := (12, [some (.ref 3), some (.int (ei_ (name)))], [.int (ei_ (name)), .ref 5], m)) rfl ?_
  refine pw_ild rfl rfl (by omega) (fun x1 (hx1 : x1 = vi_ m 5 name) rx1 sx1 => ?_)
  replace hx1 : x1 = vi_ m0 5 name := hx1.trans (sm_v p0 rfl)
  refine pw_steps 1 (s' := (17, [some (.ref 3), some (.int (ei_ (name)))], [.int (ei_ (x1))], m)) rfl ?_
  refine pw_iret rfl rfl rfl ?_
  exact k0 x1 (by exact hx1)

set_option maxHeartbeats 4000000 in
set_option maxRecDepth 20000 in
theorem cw_worn {q : am_X} {d : Nat} {m : am_M} {Q : Option Value → am_M → Prop} {m0 : am_M} {one : Int}  (p0 : sm_ pSc m0 m) (p1 : -2147483648 ≤ one ∧ one < 2147483648) (k0 : ∀ (x : Int), (x = cn_ (vi_ m0 4) one 8) → (0 ≤ x ∧ x ≤ 8) → Q (some (.int (ei_ (x)))) m) : pw_C q (d + 1) 24 [.ref 3, .int (ei_ (one))] m Q := by
  refine pw_intro (I := iX2_wornBy) (T := tX2_wornBy) rfl rfl rfl ?_
  refine pw_steps 4 (s' := (4, [some (.ref 3), some (.int (ei_ (one))), some (.int (ei_ (0))), some (.int (ei_ (0)))], [], m)) rfl ?_
  have L3 : ∀ (n1 : Nat) (w : Int) (k : Int), (8 - k).toNat = n1 → (0 ≤ k ∧ k ≤ 8) → (w = cn_ (vi_ m0 4) one k.toNat) → pw_V q (d) iX2_wornBy.2.2.2.1 tX2_wornBy Q (4, [some (.ref 3), some (.int (ei_ (one))), some (.int (ei_ (w))), some (.int (ei_ (k)))], [], m) := by
    intro n1
    induction n1 using Nat.strongRecOn with
    | _ n1 ih2 =>
      intro w k hm_n1 v4 hw
      refine pw_steps 2 (s' := (7, [some (.ref 3), some (.int (ei_ (one))), some (.int (ei_ (w))), some (.int (ei_ (k)))], [.int (ei_ (8)), .int (ei_ (k))], m)) rfl ?_
      refine pw_cmp rfl (by omega) (by decide) (fun (h5 : 8 ≤ k) => ?_) (fun (h5 : ¬ (8 ≤ k)) => ?_)
      · refine pw_steps 1 (s' := (35, [some (.ref 3), some (.int (ei_ (one))), some (.int (ei_ (w))), some (.int (ei_ (k)))], [.int (ei_ (w))], m)) rfl ?_
        refine pw_iret rfl rfl rfl ?_
        exact k0 w (by have e : k = 8 := (by omega); have hb := cn_b (vi_ m0 4) one 8; subst e; first | exact hw | (have hw2 : w = cn_ (vi_ m0 4) one 8 := hw; omega)) (by have e : k = 8 := (by omega); have hb := cn_b (vi_ m0 4) one 8; subst e; first | exact hw | (have hw2 : w = cn_ (vi_ m0 4) one 8 := hw; omega))
      · refine pw_steps 4 (s' := (16, [some (.ref 3), some (.int (ei_ (one))), some (.int (ei_ (w))), some (.int (ei_ (k)))], [.int (ei_ (k)), .ref 4, .int (ei_ (w))], m)) rfl ?_
        refine pw_ild rfl rfl (by omega) (fun x6 (hx6 : x6 = vi_ m 4 k) rx6 sx6 => ?_)
        replace hx6 : x6 = vi_ m0 4 k := hx6.trans (sm_v p0 rfl)
        refine pw_steps 1 (s' := (18, [some (.ref 3), some (.int (ei_ (one))), some (.int (ei_ (w))), some (.int (ei_ (k)))], [.int (ei_ (one)), .int (ei_ (x6)), .int (ei_ (w))], m)) rfl ?_
        refine pw_cmp rfl ⟨rx6, sx6⟩ p1 (fun (h7 : ¬ x6 = one) => ?_) (fun (h7 : ¬ ¬ x6 = one) => ?_)
        · refine pw_steps 5 (s' := (4, [some (.ref 3), some (.int (ei_ (one))), some (.int ((ei_ (w)) + (ei_ (0)))), some (.int ((ei_ (k)) + (ei_ (1))))], [], m)) rfl ?_
          refine pw_cv (congrArg (fun z_ : Int32 => ((4, [some (.ref 3), some (.int (ei_ (one))), some (.int z_), some (.int ((ei_ (k)) + (ei_ (1))))], [], m) : am_S)) (ei_add rfl rfl)) ?_
          refine pw_cv (congrArg (fun z_ : Int32 => ((4, [some (.ref 3), some (.int (ei_ (one))), some (.int (ei_ ((w + 0)))), some (.int z_)], [], m) : am_S)) (ei_add rfl rfl)) ?_
          exact ih2 _ (by omega) (w + 0) (k + 1) rfl (by omega) (by simp only [cn_s (show 0 ≤ k by omega)]; split <;> omega)
        · refine pw_steps 6 (s' := (4, [some (.ref 3), some (.int (ei_ (one))), some (.int ((ei_ (w)) + (ei_ (1)))), some (.int ((ei_ (k)) + (ei_ (1))))], [], m)) rfl ?_
          refine pw_cv (congrArg (fun z_ : Int32 => ((4, [some (.ref 3), some (.int (ei_ (one))), some (.int z_), some (.int ((ei_ (k)) + (ei_ (1))))], [], m) : am_S)) (ei_add rfl rfl)) ?_
          refine pw_cv (congrArg (fun z_ : Int32 => ((4, [some (.ref 3), some (.int (ei_ (one))), some (.int (ei_ ((w + 1)))), some (.int z_)], [], m) : am_S)) (ei_add rfl rfl)) ?_
          exact ih2 _ (by omega) (w + 1) (k + 1) rfl (by omega) (by simp only [cn_s (show 0 ≤ k by omega)]; split <;> omega)
  exact L3 _ 0 0 rfl (by omega) (by rfl)

set_option maxHeartbeats 4000000 in
set_option maxRecDepth 20000 in
theorem cw_leftBy {q : am_X} {d : Nat} {m : am_M} {Q : Option Value → am_M → Prop} {m0 : am_M} {name : Int} {rate : Int} {days : Int}  (p0 : rF_ m0) (p1 : sm_ pSc m0 m) (p2 : 0 ≤ name ∧ name < 8) (p3 : 0 ≤ rate ∧ rate ≤ 99) (p4 : 0 ≤ days ∧ days ≤ 99) (k0 : ∀ (x : Int), (x = lf_ (vi_ m0 5 name) rate days) → (0 ≤ x ∧ x ≤ 999) → Q (some (.int (ei_ (x)))) m) : pw_C q (d + 2) 58 [.ref 3, .int (ei_ (name)), .int (ei_ (rate)), .int (ei_ (days))] m Q := by
  refine pw_intro (I := iX2_leftBy) (T := tX2_leftBy) rfl rfl rfl ?_
  refine pw_steps 1 (s' := (1, [some (.ref 3), some (.int (ei_ (name))), some (.int (ei_ (rate))), some (.int (ei_ (days)))], [.int (ei_ (name))], m)) rfl ?_
  refine pw_callS (As := [.int (ei_ (name))]) (st := []) rfl (by decide) rfl rfl (Nat.le_of_ble_eq_true rfl) ?_
  refine pw_intro (I := iX2_isIn) (T := tX2_isIn) rfl rfl rfl ?_
  refine pw_steps 1 (s' := (1, [some (.int (ei_ (name)))], [.int (ei_ (name))], m)) rfl ?_
  refine pw_ifF rfl (by omega) (show ¬ (name < 0) by omega) ?_
  refine pw_steps 2 (s' := (7, [some (.int (ei_ (name)))], [.int (ei_ (8)), .int (ei_ (name))], m)) rfl ?_
  refine pw_cmpF rfl (by omega) (by decide) (show ¬ (8 ≤ name) by omega) ?_
  refine pw_steps 2 (s' := (15, [some (.int (ei_ (name)))], [.int (ei_ (1))], m)) rfl ?_
  refine pw_iret rfl rfl rfl ?_
  refine pw_ifF rfl (by decide) (show ¬ (1 = 0) by decide) ?_
  refine pw_steps 4 (s' := (13, [some (.ref 3), some (.int (ei_ (name))), some (.int (ei_ (rate))), some (.int (ei_ (days)))], [.int (ei_ (name)), .ref 5, .int (ei_ (0))], m)) rfl ?_
  refine pw_ild rfl rfl (by omega) (fun x1 (hx1 : x1 = vi_ m 5 name) rx1 sx1 => ?_)
  replace hx1 : x1 = vi_ m0 5 name := hx1.trans (sm_v p1 rfl)
  have b2 := p0 name (by omega) (by omega)
  have hrd : 0 ≤ rate * days ∧ rate * days ≤ 9801 := ⟨Int.mul_nonneg (by omega) (by omega), Int.le_trans (Int.mul_le_mul (by omega : rate ≤ 99) (by omega : days ≤ 99) (by omega) (by omega)) (by omega)⟩
  refine pw_steps 6 (s' := (25, [some (.ref 3), some (.int (ei_ (name))), some (.int (ei_ (rate))), some (.int (ei_ (days)))], [.int ((if (ei_ (0)) < ((ei_ (x1)) - ((ei_ (rate)) * (ei_ (days)))) then (ei_ (x1)) - ((ei_ (rate)) * (ei_ (days))) else ei_ (0)))], m)) rfl ?_
  refine pw_cv (congrArg (fun z_ : Int32 => ((25, [some (.ref 3), some (.int (ei_ (name))), some (.int (ei_ (rate))), some (.int (ei_ (days)))], [.int z_], m) : am_S)) (ei_max (by decide) (by omega) rfl (ei_sub rfl (ei_mul rfl rfl)))) ?_
  refine pw_iret rfl rfl rfl ?_
  exact k0 (max 0 (x1 - (rate * days))) (by rw [← hx1]; rfl) (by omega)

set_option maxHeartbeats 4000000 in
set_option maxRecDepth 20000 in
theorem cw_rate {q : am_X} {d : Nat} {m : am_M} {Q : Option Value → am_M → Prop} {m0 : am_M} {name : Int} {wearer : Int} {worn : Int} {cold : Int}  (p0 : rP_ m0) (p1 : rZ_ m0) (p2 : sm_ pSc m0 m) (p3 : 0 ≤ name ∧ name < vi_ m0 1 1) (p4 : 0 ≤ wearer ∧ wearer < vi_ m0 1 1) (p5 : 0 ≤ worn ∧ worn ≤ 9) (p6 : 0 ≤ cold ∧ cold ≤ 9) (k0 : ∀ (x : Int) (m1 : am_M), (x = rt_ m0 wearer name worn cold) → (sm_ pSc m0 m1) → (0 ≤ x ∧ x ≤ 99) → Q (some (.int (ei_ (x)))) m1) : pw_C q (d + 5) 47 [.ref 0, .int (ei_ (name)), .int (ei_ (wearer)), .int (ei_ (worn)), .int (ei_ (cold))] m Q := by
  obtain ⟨hP1, hP2, hP3, hP4⟩ := id p0
  refine pw_intro (I := iX8_rate) (T := tX8_rate) rfl rfl rfl ?_
  refine pw_steps 4 (s' := (6, [some (.ref 0), some (.int (ei_ (name))), some (.int (ei_ (wearer))), some (.int (ei_ (worn))), some (.int (ei_ (cold))), none, none, none, none], [.int (ei_ (3)), .int (ei_ (wearer)), .ref 1], m)) rfl ?_
  refine pw_call (As := [.int (ei_ (wearer)), .int (ei_ (3))]) (st := []) (k := 1) rfl rfl rfl rfl rfl (Nat.le_of_ble_eq_true rfl) ?_
  refine cw_told3 (p0) (p2) (p4) (fun x1 g2 g3 => ?_)
  refine pw_steps 1 (s' := (10, [some (.ref 0), some (.int (ei_ (name))), some (.int (ei_ (wearer))), some (.int (ei_ (worn))), some (.int (ei_ (cold))), none, none, none, none], [.int (ei_ (1)), .int (ei_ (x1))], m)) rfl ?_
  refine pw_cmp rfl (by omega) (by decide) (fun (h4 : ¬ x1 = 1) => ?_) (fun (h4 : ¬ ¬ x1 = 1) => ?_)
  · refine pw_steps 3 (s' := (22, [some (.ref 0), some (.int (ei_ (name))), some (.int (ei_ (wearer))), some (.int (ei_ (worn))), some (.int (ei_ (cold))), some (.int (ei_ (0))), none, none, none], [.int (ei_ (0))], m)) rfl ?_
    refine pw_ifT rfl (by decide) (show 0 = 0 by decide) ?_
    refine pw_steps 4 (s' := (35, [some (.ref 0), some (.int (ei_ (name))), some (.int (ei_ (wearer))), some (.int (ei_ (worn))), some (.int (ei_ (cold))), some (.int (ei_ (0))), none, none, none], [.int (ei_ (1)), .int (ei_ (wearer)), .ref 1], m)) rfl ?_
    refine pw_call (As := [.int (ei_ (wearer)), .int (ei_ (1))]) (st := []) (k := 1) rfl rfl rfl rfl rfl (Nat.le_of_ble_eq_true rfl) ?_
    refine cw_told1 (p0) (p2) (p4) (fun x5 g6 g7 => ?_)
    refine pw_steps 2 (s' := (42, [some (.ref 0), some (.int (ei_ (name))), some (.int (ei_ (wearer))), some (.int (ei_ (worn))), some (.int (ei_ (cold))), some (.int (ei_ (0))), some (.int (ei_ (x5))), none, none], [.int (ei_ (0))], m)) rfl ?_
    refine pw_ifT rfl (by decide) (show 0 = 0 by decide) ?_
    refine pw_steps 4 (s' := (62, [some (.ref 0), some (.int (ei_ (name))), some (.int (ei_ (wearer))), some (.int (ei_ (worn))), some (.int (ei_ (cold))), some (.int (ei_ (0))), some (.int (ei_ (x5))), some (.int (ei_ (0))), none], [.int (ei_ (name)), .int (ei_ (wearer))], m)) rfl ?_
    refine pw_cmp rfl (by omega) (by omega) (fun (h8 : ¬ wearer = name) => ?_) (fun (h8 : ¬ ¬ wearer = name) => ?_)
    · refine pw_steps 8 (s' := (82, [some (.ref 0), some (.int (ei_ (name))), some (.int (ei_ (wearer))), some (.int (ei_ (worn))), some (.int (ei_ (cold))), some (.int (ei_ (0))), some (.int (ei_ (x5))), some (.int (ei_ (0))), some (.int (ei_ (1)))], [.int (ei_ (0)), .int (ei_ (name)), .ref 1, .ref 14], m)) rfl ?_
      refine pw_call (As := [.int (ei_ (name)), .int (ei_ (0))]) (st := [.ref 14]) (k := 1) rfl rfl rfl rfl rfl (Nat.le_of_ble_eq_true rfl) ?_
      refine cw_told0 (p0) (p2) (p3) (fun x9 g10 g11 => ?_)
      refine pw_steps 5 (s' := (94, [some (.ref 0), some (.int (ei_ (name))), some (.int (ei_ (wearer))), some (.int (ei_ (worn))), some (.int (ei_ (cold))), some (.int (ei_ (0))), some (.int (ei_ (x5))), some (.int (ei_ (0))), some (.int (ei_ (1)))], [.int (ei_ (1)), .int (ei_ (0)), .int (ei_ (cold)), .int (ei_ (worn)), .int (ei_ (x5)), .int (ei_ (x9)), .ref 14], m)) rfl ?_
      refine pw_call (As := [.int (ei_ (x9)), .int (ei_ (x5)), .int (ei_ (worn)), .int (ei_ (cold)), .int (ei_ (0)), .int (ei_ (1))]) (st := []) (k := 14) rfl rfl rfl rfl rfl (Nat.le_of_ble_eq_true rfl) ?_
      refine cw_burnt (p1) (p2) (by omega) (by omega) (by omega) (by omega) (by omega) (by omega) (fun x12 m113 g14 g15 g16 => ?_)
      refine pw_iret rfl rfl rfl ?_
      exact k0 x12 m113 (by exact rt_of g14 (by omega) (by omega) (by omega) (by omega)) (g15) (by exact g16)
    · refine pw_steps 9 (s' := (82, [some (.ref 0), some (.int (ei_ (name))), some (.int (ei_ (wearer))), some (.int (ei_ (worn))), some (.int (ei_ (cold))), some (.int (ei_ (0))), some (.int (ei_ (x5))), some (.int (ei_ (0))), some (.int (ei_ (0)))], [.int (ei_ (0)), .int (ei_ (name)), .ref 1, .ref 14], m)) rfl ?_
      refine pw_call (As := [.int (ei_ (name)), .int (ei_ (0))]) (st := [.ref 14]) (k := 1) rfl rfl rfl rfl rfl (Nat.le_of_ble_eq_true rfl) ?_
      refine cw_told0 (p0) (p2) (p3) (fun x17 g18 g19 => ?_)
      refine pw_steps 5 (s' := (94, [some (.ref 0), some (.int (ei_ (name))), some (.int (ei_ (wearer))), some (.int (ei_ (worn))), some (.int (ei_ (cold))), some (.int (ei_ (0))), some (.int (ei_ (x5))), some (.int (ei_ (0))), some (.int (ei_ (0)))], [.int (ei_ (0)), .int (ei_ (0)), .int (ei_ (cold)), .int (ei_ (worn)), .int (ei_ (x5)), .int (ei_ (x17)), .ref 14], m)) rfl ?_
      refine pw_call (As := [.int (ei_ (x17)), .int (ei_ (x5)), .int (ei_ (worn)), .int (ei_ (cold)), .int (ei_ (0)), .int (ei_ (0))]) (st := []) (k := 14) rfl rfl rfl rfl rfl (Nat.le_of_ble_eq_true rfl) ?_
      refine cw_burnt (p1) (p2) (by omega) (by omega) (by omega) (by omega) (by omega) (by omega) (fun x20 m121 g22 g23 g24 => ?_)
      refine pw_iret rfl rfl rfl ?_
      exact k0 x20 m121 (by exact rt_of g22 (by omega) (by omega) (by omega) (by omega)) (g23) (by exact g24)
  · refine pw_steps 4 (s' := (22, [some (.ref 0), some (.int (ei_ (name))), some (.int (ei_ (wearer))), some (.int (ei_ (worn))), some (.int (ei_ (cold))), some (.int (ei_ (1))), none, none, none], [.int (ei_ (1))], m)) rfl ?_
    refine pw_ifF rfl (by decide) (show ¬ (1 = 0) by decide) ?_
    refine pw_steps 4 (s' := (42, [some (.ref 0), some (.int (ei_ (name))), some (.int (ei_ (wearer))), some (.int (ei_ (worn))), some (.int (ei_ (cold))), some (.int (ei_ (1))), some (.int (ei_ (0))), none, none], [.int (ei_ (1))], m)) rfl ?_
    refine pw_ifF rfl (by decide) (show ¬ (1 = 0) by decide) ?_
    refine pw_steps 4 (s' := (51, [some (.ref 0), some (.int (ei_ (name))), some (.int (ei_ (wearer))), some (.int (ei_ (worn))), some (.int (ei_ (cold))), some (.int (ei_ (1))), some (.int (ei_ (0))), none, none], [.int (ei_ (5)), .int (ei_ (0)), .ref 1], m)) rfl ?_
    refine pw_call (As := [.int (ei_ (0)), .int (ei_ (5))]) (st := []) (k := 1) rfl rfl rfl rfl rfl (Nat.le_of_ble_eq_true rfl) ?_
    refine cw_told5 (p0) (p2) (fun x25 g26 g27 => ?_)
    refine pw_steps 4 (s' := (62, [some (.ref 0), some (.int (ei_ (name))), some (.int (ei_ (wearer))), some (.int (ei_ (worn))), some (.int (ei_ (cold))), some (.int (ei_ (1))), some (.int (ei_ (0))), some (.int (ei_ (x25))), none], [.int (ei_ (name)), .int (ei_ (wearer))], m)) rfl ?_
    refine pw_cmp rfl (by omega) (by omega) (fun (h28 : ¬ wearer = name) => ?_) (fun (h28 : ¬ ¬ wearer = name) => ?_)
    · refine pw_steps 8 (s' := (82, [some (.ref 0), some (.int (ei_ (name))), some (.int (ei_ (wearer))), some (.int (ei_ (worn))), some (.int (ei_ (cold))), some (.int (ei_ (1))), some (.int (ei_ (0))), some (.int (ei_ (x25))), some (.int (ei_ (1)))], [.int (ei_ (0)), .int (ei_ (name)), .ref 1, .ref 14], m)) rfl ?_
      refine pw_call (As := [.int (ei_ (name)), .int (ei_ (0))]) (st := [.ref 14]) (k := 1) rfl rfl rfl rfl rfl (Nat.le_of_ble_eq_true rfl) ?_
      refine cw_told0 (p0) (p2) (p3) (fun x29 g30 g31 => ?_)
      refine pw_steps 5 (s' := (94, [some (.ref 0), some (.int (ei_ (name))), some (.int (ei_ (wearer))), some (.int (ei_ (worn))), some (.int (ei_ (cold))), some (.int (ei_ (1))), some (.int (ei_ (0))), some (.int (ei_ (x25))), some (.int (ei_ (1)))], [.int (ei_ (1)), .int (ei_ (x25)), .int (ei_ (cold)), .int (ei_ (worn)), .int (ei_ (0)), .int (ei_ (x29)), .ref 14], m)) rfl ?_
      refine pw_call (As := [.int (ei_ (x29)), .int (ei_ (0)), .int (ei_ (worn)), .int (ei_ (cold)), .int (ei_ (x25)), .int (ei_ (1))]) (st := []) (k := 14) rfl rfl rfl rfl rfl (Nat.le_of_ble_eq_true rfl) ?_
      refine cw_burnt (p1) (p2) (by omega) (by omega) (by omega) (by omega) (by omega) (by omega) (fun x32 m133 g34 g35 g36 => ?_)
      refine pw_iret rfl rfl rfl ?_
      exact k0 x32 m133 (by exact rt_of g34 (by omega) (by omega) (by omega) (by omega)) (g35) (by exact g36)
    · refine pw_steps 9 (s' := (82, [some (.ref 0), some (.int (ei_ (name))), some (.int (ei_ (wearer))), some (.int (ei_ (worn))), some (.int (ei_ (cold))), some (.int (ei_ (1))), some (.int (ei_ (0))), some (.int (ei_ (x25))), some (.int (ei_ (0)))], [.int (ei_ (0)), .int (ei_ (name)), .ref 1, .ref 14], m)) rfl ?_
      refine pw_call (As := [.int (ei_ (name)), .int (ei_ (0))]) (st := [.ref 14]) (k := 1) rfl rfl rfl rfl rfl (Nat.le_of_ble_eq_true rfl) ?_
      refine cw_told0 (p0) (p2) (p3) (fun x37 g38 g39 => ?_)
      refine pw_steps 5 (s' := (94, [some (.ref 0), some (.int (ei_ (name))), some (.int (ei_ (wearer))), some (.int (ei_ (worn))), some (.int (ei_ (cold))), some (.int (ei_ (1))), some (.int (ei_ (0))), some (.int (ei_ (x25))), some (.int (ei_ (0)))], [.int (ei_ (0)), .int (ei_ (x25)), .int (ei_ (cold)), .int (ei_ (worn)), .int (ei_ (0)), .int (ei_ (x37)), .ref 14], m)) rfl ?_
      refine pw_call (As := [.int (ei_ (x37)), .int (ei_ (0)), .int (ei_ (worn)), .int (ei_ (cold)), .int (ei_ (x25)), .int (ei_ (0))]) (st := []) (k := 14) rfl rfl rfl rfl rfl (Nat.le_of_ble_eq_true rfl) ?_
      refine cw_burnt (p1) (p2) (by omega) (by omega) (by omega) (by omega) (by omega) (by omega) (fun x40 m141 g42 g43 g44 => ?_)
      refine pw_iret rfl rfl rfl ?_
      exact k0 x40 m141 (by exact rt_of g42 (by omega) (by omega) (by omega) (by omega)) (g43) (by exact g44)

