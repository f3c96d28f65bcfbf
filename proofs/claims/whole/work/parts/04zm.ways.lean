/-! ===== ways ===== -/
def qd_ (P c : Int) : Nat → Int
  | 0 => c
  | e + 1 => qd_ P c e / P
def wy_ (P c j : Int) : Int := qd_ P c (P - 1 - j).toNat % P
theorem dv_1 {P x : Int} (h : 1 ≤ P ∧ P ≤ 5) (e : x % P = P - 1) : (x + 1) / P = x / P + 1 ∧ (x + 1) % P = 0 := by
  rcases (show P = 1 ∨ P = 2 ∨ P = 3 ∨ P = 4 ∨ P = 5 by omega) with g | g | g | g | g <;> subst g <;> omega
theorem dv_0 {P x : Int} (h : 1 ≤ P ∧ P ≤ 5) (e : x % P ≠ P - 1) : (x + 1) / P = x / P ∧ (x + 1) % P = x % P + 1 := by
  rcases (show P = 1 ∨ P = 2 ∨ P = 3 ∨ P = 4 ∨ P = 5 by omega) with g | g | g | g | g <;> subst g <;> omega
theorem md_b {P : Int} (x : Int) (h : 1 ≤ P ∧ P ≤ 5) : 0 ≤ x % P ∧ x % P < P := by
  rcases (show P = 1 ∨ P = 2 ∨ P = 3 ∨ P = 4 ∨ P = 5 by omega) with g | g | g | g | g <;> subst g <;> omega
theorem qd_c {P c : Int} (h : 1 ≤ P ∧ P ≤ 5) : ∀ e : Nat, (∀ i : Nat, i < e → qd_ P c i % P = P - 1) → qd_ P (c + 1) e = qd_ P c e + 1 := by
  intro e
  induction e with
  | zero => intro _; rfl
  | succ e ih =>
    intro g
    simp only [qd_]
    rw [ih (fun i hi => g i (by omega)), (dv_1 h (g e (by omega))).1]
theorem qd_n {P c : Int} (h : 1 ≤ P ∧ P ≤ 5) {e0 : Nat} (hc : ∀ i : Nat, i < e0 → qd_ P c i % P = P - 1) (hn : qd_ P c e0 % P ≠ P - 1) : ∀ e : Nat, qd_ P (c + 1) (e0 + 1 + e) = qd_ P c (e0 + 1 + e) := by
  intro e
  induction e with
  | zero =>
    simp only [Nat.add_zero, qd_]
    rw [qd_c h e0 hc, (dv_0 h hn).1]
  | succ e ih =>
    rw [← Nat.add_assoc]
    simp only [qd_] at ih ⊢
    rw [ih]
theorem wy_b {P : Int} (h : 1 ≤ P ∧ P ≤ 5) (c j : Int) : 0 ≤ wy_ P c j ∧ wy_ P c j < P := md_b _ h
theorem wy_q {P c n : Int} (hc : ∀ j, n < j → j < P → wy_ P c j = P - 1) (hn : 0 ≤ n) : ∀ i : Nat, i < (P - 1 - n).toNat → qd_ P c i % P = P - 1 := by
  intro i hi
  have t := hc (P - 1 - i) (by omega) (by omega)
  unfold wy_ at t
  rwa [show (P - 1 - (P - 1 - (i : Int))).toNat = i by omega] at t
theorem wy_c {P c n : Int} (h : 1 ≤ P ∧ P ≤ 5) (hn : 0 ≤ n ∧ n < P) (hc : ∀ j, n < j → j < P → wy_ P c j = P - 1) : wy_ P (c + 1) n = if wy_ P c n + 1 < P then wy_ P c n + 1 else 0 := by
  unfold wy_
  rw [qd_c h _ (wy_q hc hn.1)]
  have b := md_b (qd_ P c (P - 1 - n).toNat) h
  by_cases e : qd_ P c (P - 1 - n).toNat % P = P - 1
  · rw [(dv_1 h e).2, if_neg (by omega)]
  · rw [(dv_0 h e).2, if_pos (by omega)]
theorem wy_n {P c n : Int} (h : 1 ≤ P ∧ P ≤ 5) (hn : 0 ≤ n ∧ n < P) (hc : ∀ j, n < j → j < P → wy_ P c j = P - 1) (hx : wy_ P c n ≠ P - 1) : ∀ j, 0 ≤ j → j < n → wy_ P (c + 1) j = wy_ P c j := by
  intro j h1 h2
  have t := qd_n h (wy_q hc hn.1) hx ((P - 1 - j).toNat - ((P - 1 - n).toNat + 1))
  rw [show (P - 1 - n).toNat + 1 + ((P - 1 - j).toNat - ((P - 1 - n).toNat + 1)) = (P - 1 - j).toNat by omega] at t
  unfold wy_
  rw [t]
theorem wy_0 (P j : Int) : wy_ P 0 j = 0 := by
  unfold wy_
  have : ∀ e : Nat, qd_ P 0 e = 0 := by
    intro e
    induction e with
    | zero => rfl
    | succ e ih => simp only [qd_]; rw [ih]; exact Int.zero_ediv _
  rw [this]; exact Int.zero_emod _
theorem cn_pos {f : Int → Int} {v : Int} : ∀ (n : Nat) (j : Int), 0 ≤ j → j < (n : Int) → f j = v → 1 ≤ cn_ f v n := by
  intro n
  induction n with
  | zero => intro j h1 h2; omega
  | succ n ih =>
    intro j h1 h2 h3
    simp only [cn_]
    have hb := (cn_b f v n).1
    by_cases c : j = n
    · rw [if_pos (by rw [← c]; exact h3)]; omega
    · have := ih j h1 (by omega) h3; omega
theorem cn_zero {f : Int → Int} (h : ∀ j, 0 ≤ j → f j = 0) (i : Int) : ∀ n : Nat, cn_ f i n = if i = 0 then (n : Int) else 0 := by
  intro n
  induction n with
  | zero => simp [cn_]
  | succ n ih =>
    simp only [cn_]
    rw [ih, h n (by omega)]
    by_cases c : i = 0
    · rw [if_pos c, if_pos c, if_pos c.symm]; omega
    · rw [if_neg c, if_neg c, if_neg (fun e => c e.symm)]; rfl
def pr_ (P : Int) : Nat → Int
  | 0 => 1
  | n + 1 => pr_ P n * P
theorem pr_s {P k : Int} (h : 0 ≤ k) : pr_ P (k + 1).toNat = pr_ P k.toNat * P := by
  rw [show (k + 1).toNat = k.toNat + 1 by omega]; rfl
theorem pr_b {P : Int} (h : 0 ≤ P ∧ P ≤ 5) : 1 ≤ pr_ P P.toNat ∧ pr_ P P.toNat ≤ 3125 := by
  rcases (show P = 0 ∨ P = 1 ∨ P = 2 ∨ P = 3 ∨ P = 4 ∨ P = 5 by omega) with g | g | g | g | g | g <;> subst g <;> decide
def fi_ (f g : Int → Int) (P : Int) : Prop := ∀ i, 0 ≤ i → i < P → cn_ f i P.toNat ≤ g i
def wa_ (P k : Int) (m : am_M) : Prop := vi_ m 18 5 = P ∧ (∀ j, 0 ≤ j → j < P → vi_ m 19 j = wy_ P k j) ∧ (∀ i, 0 ≤ i → i < P → vi_ m 20 i = cn_ (wy_ P k) i P.toNat)
theorem ww_s {m1 : am_M} {P n x y a b : Int} (hP : P ≤ 5) (hW : ∀ i, 0 ≤ i → i < P → vi_ m1 20 i = cn_ (vi_ m1 19) i P.toNat) (hn : 0 ≤ n ∧ n < P) (hx : vi_ m1 19 n = x) (hxb : 0 ≤ x ∧ x < P) (hy : 0 ≤ y ∧ y < P) (ha : a = vi_ m1 20 x - 1) (hb : b = vi_ (wi_ m1 20 x a) 20 y + 1) : ∀ i, 0 ≤ i → i < P → vi_ (wi_ (wi_ (wi_ m1 20 x a) 20 y b) 19 n y) 20 i = cn_ (vi_ (wi_ (wi_ (wi_ m1 20 x a) 20 y b) 19 n y) 19) i P.toNat := by
  intro i h1 h2
  have hx1 := hW x hxb.1 hxb.2
  have hy1 := hW y hy.1 hy.2
  have hi1 := hW i h1 h2
  have bx := cn_b (vi_ m1 19) x P.toNat
  have by_ := cn_b (vi_ m1 19) y P.toNat
  have bi := cn_b (vi_ m1 19) i P.toNat
  have hp1 := cn_pos (f := vi_ m1 19) (v := x) P.toNat n hn.1 (by omega) hx
  rw [vi_up (by omega) hxb.1 hy.1] at hb
  rw [cn_set2 (f := vi_ m1 19) (g := vi_ (wi_ (wi_ (wi_ m1 20 x a) 20 y b) 19 n y) 19) (a := n) (q := y) hn.1 (fun j hj => by rw [vi_up (by omega) hn.1 hj, vi_ne (by decide), vi_ne (by decide)])]
  rw [vi_ne (show (20 : Nat) ≠ 19 by decide), vi_up (by omega) hy.1 h1, vi_up (by omega) hxb.1 h1, hx, if_pos (show n < ((P.toNat : Nat) : Int) by omega)]
  by_cases c1 : i = y
  · subst c1
    rw [if_pos rfl, if_pos rfl]
    by_cases c3 : i = x
    · subst c3; rw [if_pos rfl] at hb; rw [if_pos rfl]; omega
    · rw [if_neg c3] at hb; rw [if_neg (show ¬ x = i from fun e => c3 e.symm)]; omega
  · rw [if_neg c1, if_neg (show ¬ y = i from fun e => c1 e.symm)]
    by_cases c2 : i = x
    · subst c2; rw [if_pos rfl, if_pos rfl]; omega
    · rw [if_neg c2, if_neg (show ¬ x = i from fun e => c2 e.symm)]; omega

def pWn (k j : Nat) : Bool := k == 19 || k == 20
def pWb (k j : Nat) : Bool := k == 19 || k == 20 || (k == 18 && j == 5)
def pC22 (k j : Nat) : Bool := k == 22
set_option maxHeartbeats 4000000 in
set_option maxRecDepth 20000 in
theorem cw_goOn {q : am_X} {d : Nat} {m : am_M} {Q : Option Value → am_M → Prop}  {P k : Int} (p0 : wa_ P k m) (p1 : 0 ≤ P ∧ P ≤ 5) (k0 : ∀ (m1 : am_M), (sm_ pWn m m1) → (wa_ P (k + 1) m1) → Q none m1) : pw_C q (d + 2) 81 [.ref 18] m Q := by
  refine pw_intro (I := iX7_goOn) (T := tX7_goOn) rfl rfl rfl ?_
  refine pw_steps 1 (s' := (1, [some (.ref 18), none, none, none], [.ref 18], m)) rfl ?_
  refine pw_get rfl rfl (fun x1 (hx1 : x1 = vi_ m 18 5) rx1 sx1 => ?_)
  replace hx1 : x1 = P := hx1.trans p0.1
  subst x1
  refine pw_steps 3 (s' := (7, [some (.ref 18), some (.int ((ei_ (P)) - (ei_ (1)))), none, none], [], m)) rfl ?_
  refine pw_cv (congrArg (fun z_ : Int32 => ((7, [some (.ref 18), some (.int z_), none, none], [], m) : am_S)) (ei_sub rfl rfl)) ?_
  have L6 : ∀ (n4 : Nat) (n : Int) (u2 : Option Value) (u3 : Option Value) (m1 : am_M), (n + 1).toNat = n4 → (-1 ≤ n ∧ n ≤ P - 1) → (sm_ pWn m m1) → (∀ j, n < j → j < P → vi_ m1 19 j = wy_ P (k + 1) j) → (∀ j, 0 ≤ j → j ≤ n → vi_ m1 19 j = wy_ P k j) → (∀ i, 0 ≤ i → i < P → vi_ m1 20 i = cn_ (vi_ m1 19) i P.toNat) → (∀ j, n < j → j < P → wy_ P k j = P - 1) → pw_V q (d + 1) iX7_goOn.2.2.2.1 tX7_goOn Q (7, [some (.ref 18), some (.int (ei_ (n))), u2, u3], [], m1) := by
    intro n4
    induction n4 using Nat.strongRecOn with
    | _ n4 ih5 =>
      intro n u2 u3 m1 hm_n4 v7 hs hA hB hW hC
      refine pw_steps 1 (s' := (8, [some (.ref 18), some (.int (ei_ (n))), u2, u3], [.int (ei_ (n))], m1)) rfl ?_
      refine pw_if rfl (by omega) (fun (h8 : n < 0) => ?_) (fun (h8 : ¬ (n < 0)) => ?_)
      · refine pw_vret rfl rfl ?_
        exact k0 m1 (hs) (by refine ⟨(sm_v hs (k := 18) (j := 5) rfl).trans p0.1, fun j a_ b_ => hA j (by omega) b_, fun i a_ b_ => ?_⟩; rw [hW i a_ b_]; exact cn_cg _ (fun j c_ d_ => by rw [hA j (by omega) (by omega)]))
      · refine pw_steps 3 (s' := (16, [some (.ref 18), some (.int (ei_ (n))), u2, u3], [.int (ei_ (n)), .ref 19], m1)) rfl ?_
        refine pw_ild rfl rfl (by omega) (fun x9 (hx9 : x9 = vi_ m1 19 n) rx9 sx9 => ?_)
        have b10 := hB n (by omega) (by omega)
        have b10b := wy_b (P := P) ⟨by omega, by omega⟩ k n
        refine pw_steps 5 (s' := (22, [some (.ref 18), some (.int (ei_ (n))), some (.int (ei_ (x9))), u3], [.ref 18, .int ((ei_ (x9)) + (ei_ (1)))], m1)) rfl ?_
        refine pw_cv (congrArg (fun z_ : Int32 => ((22, [some (.ref 18), some (.int (ei_ (n))), some (.int (ei_ (x9))), u3], [.ref 18, .int z_], m1) : am_S)) (ei_add rfl rfl)) ?_
        refine pw_get rfl rfl (fun x11 (hx11 : x11 = vi_ m1 18 5) rx11 sx11 => ?_)
        replace hx11 : x11 = vi_ m 18 5 := hx11.trans (sm_v hs rfl)
        replace hx11 : x11 = P := hx11.trans p0.1
        subst x11
        refine pw_cmp rfl (by omega) ⟨rx1, sx1⟩ (fun (h12 : P ≤ (x9 + 1)) => ?_) (fun (h12 : ¬ (P ≤ (x9 + 1))) => ?_)
        · refine pw_steps 2 (s' := (36, [some (.ref 18), some (.int (ei_ (n))), some (.int (ei_ (x9))), some (.int (ei_ (0)))], [], m1)) rfl ?_
          have hx1_ := hW x9 (by omega) (by omega)
          have hxb_ := cn_b (vi_ m1 19) x9 P.toNat
          have hxp_ := cn_pos (f := vi_ m1 19) (v := x9) P.toNat n (by omega) (by omega) (by omega)
          have hy1_ := hW 0 (by omega) (by omega)
          have hyb_ := cn_b (vi_ m1 19) 0 P.toNat
          refine pw_steps 4 (s' := (42, [some (.ref 18), some (.int (ei_ (n))), some (.int (ei_ (x9))), some (.int (ei_ (0)))], [.int (ei_ (x9)), .ref 20, .int (ei_ (x9)), .ref 20], m1)) rfl ?_
          refine pw_ild rfl rfl (by omega) (fun x13 (hx13 : x13 = vi_ m1 20 x9) rx13 sx13 => ?_)
          have ox13 := hx13
          (try simp (disch := omega) only [vi_up] at hx13)
          refine pw_steps 2 (s' := (45, [some (.ref 18), some (.int (ei_ (n))), some (.int (ei_ (x9))), some (.int (ei_ (0)))], [.int ((ei_ (x13)) - (ei_ (1))), .int (ei_ (x9)), .ref 20], m1)) rfl ?_
          refine pw_cv (congrArg (fun z_ : Int32 => ((45, [some (.ref 18), some (.int (ei_ (n))), some (.int (ei_ (x9))), some (.int (ei_ (0)))], [.int z_, .int (ei_ (x9)), .ref 20], m1) : am_S)) (ei_sub rfl rfl)) ?_
          refine pw_ist rfl rfl (by omega) ?_
          refine pw_steps 4 (s' := (52, [some (.ref 18), some (.int (ei_ (n))), some (.int (ei_ (x9))), some (.int (ei_ (0)))], [.int (ei_ (0)), .ref 20, .int (ei_ (0)), .ref 20], wi_ m1 20 (x9) ((x13 - 1)))) rfl ?_
          refine pw_ild rfl rfl (by omega) (fun x15 (hx15 : x15 = vi_ (wi_ m1 20 (x9) ((x13 - 1))) 20 0) rx15 sx15 => ?_)
          have ox15 := hx15
          (try simp (disch := omega) only [vi_up] at hx15)
          refine pw_steps 2 (s' := (55, [some (.ref 18), some (.int (ei_ (n))), some (.int (ei_ (x9))), some (.int (ei_ (0)))], [.int ((ei_ (x15)) + (ei_ (1))), .int (ei_ (0)), .ref 20], wi_ m1 20 (x9) ((x13 - 1)))) rfl ?_
          refine pw_cv (congrArg (fun z_ : Int32 => ((55, [some (.ref 18), some (.int (ei_ (n))), some (.int (ei_ (x9))), some (.int (ei_ (0)))], [.int z_, .int (ei_ (0)), .ref 20], wi_ m1 20 (x9) ((x13 - 1))) : am_S)) (ei_add rfl rfl)) ?_
          refine pw_ist rfl rfl (by omega) ?_
          refine pw_steps 4 (s' := (62, [some (.ref 18), some (.int (ei_ (n))), some (.int (ei_ (x9))), some (.int (ei_ (0)))], [.int (ei_ (0)), .int (ei_ (n)), .ref 19], wi_ (wi_ m1 20 (x9) ((x13 - 1))) 20 (0) ((x15 + 1)))) rfl ?_
          refine pw_ist rfl rfl (by omega) ?_
          refine pw_steps 1 (s' := (64, [some (.ref 18), some (.int (ei_ (n))), some (.int (ei_ (x9))), some (.int (ei_ (0)))], [.int (ei_ (0))], wi_ (wi_ (wi_ m1 20 (x9) ((x13 - 1))) 20 (0) ((x15 + 1))) 19 (n) (0))) rfl ?_
          refine pw_ifT rfl (by decide) (show 0 = 0 by decide) ?_
          refine pw_steps 2 (s' := (7, [some (.ref 18), some (.int ((ei_ (n)) + (ei_ ((-1))))), some (.int (ei_ (x9))), some (.int (ei_ (0)))], [], wi_ (wi_ (wi_ m1 20 (x9) ((x13 - 1))) 20 (0) ((x15 + 1))) 19 (n) (0))) rfl ?_
          refine pw_cv (congrArg (fun z_ : Int32 => ((7, [some (.ref 18), some (.int z_), some (.int (ei_ (x9))), some (.int (ei_ (0)))], [], wi_ (wi_ (wi_ m1 20 (x9) ((x13 - 1))) 20 (0) ((x15 + 1))) 19 (n) (0)) : am_S)) (ei_add rfl rfl)) ?_
          exact ih5 _ (by omega) (n + (-1)) (some (.int (ei_ (x9)))) (some (.int (ei_ (0)))) (wi_ (wi_ (wi_ m1 20 (x9) ((x13 - 1))) 20 (0) ((x15 + 1))) 19 (n) (0)) rfl (by omega) ((sm_w (sm_w (sm_w hs (fun _ h_ => by rw [h_]; rfl)) (fun _ h_ => by rw [h_]; rfl)) (fun _ h_ => by rw [h_]; rfl))) (by have hc_ := wy_c (P := P) (c := k) (n := n) ⟨by omega, by omega⟩ ⟨by omega, by omega⟩ hC; intro j a_ b_; (simp (disch := omega) only [vi_up, vi_ne]); by_cases e_ : j = n; (rw [if_pos e_, e_, hc_, if_neg (by omega)]); (rw [if_neg e_]; exact hA j (by omega) b_)) (by intro j a_ b_; (simp (disch := omega) only [vi_up, vi_ne]); rw [if_neg (by omega)]; exact hB j a_ (by omega)) (by exact ww_s (by omega) hW ⟨by omega, by omega⟩ (by omega) ⟨by omega, by omega⟩ ⟨by omega, by omega⟩ (by omega) (by rw [vi_up (by omega) (by omega) (by omega)]; omega)) (by intro j a_ b_; by_cases e_ : j = n; (rw [e_]; omega); exact hC j (by omega) b_)
        · refine pw_steps 5 (s' := (36, [some (.ref 18), some (.int (ei_ (n))), some (.int (ei_ (x9))), some (.int ((ei_ (x9)) + (ei_ (1))))], [], m1)) rfl ?_
          refine pw_cv (congrArg (fun z_ : Int32 => ((36, [some (.ref 18), some (.int (ei_ (n))), some (.int (ei_ (x9))), some (.int z_)], [], m1) : am_S)) (ei_add rfl rfl)) ?_
          have hx1_ := hW x9 (by omega) (by omega)
          have hxb_ := cn_b (vi_ m1 19) x9 P.toNat
          have hxp_ := cn_pos (f := vi_ m1 19) (v := x9) P.toNat n (by omega) (by omega) (by omega)
          have hy1_ := hW (x9 + 1) (by omega) (by omega)
          have hyb_ := cn_b (vi_ m1 19) (x9 + 1) P.toNat
          refine pw_steps 4 (s' := (42, [some (.ref 18), some (.int (ei_ (n))), some (.int (ei_ (x9))), some (.int (ei_ ((x9 + 1))))], [.int (ei_ (x9)), .ref 20, .int (ei_ (x9)), .ref 20], m1)) rfl ?_
          refine pw_ild rfl rfl (by omega) (fun x17 (hx17 : x17 = vi_ m1 20 x9) rx17 sx17 => ?_)
          have ox17 := hx17
          (try simp (disch := omega) only [vi_up] at hx17)
          refine pw_steps 2 (s' := (45, [some (.ref 18), some (.int (ei_ (n))), some (.int (ei_ (x9))), some (.int (ei_ ((x9 + 1))))], [.int ((ei_ (x17)) - (ei_ (1))), .int (ei_ (x9)), .ref 20], m1)) rfl ?_
          refine pw_cv (congrArg (fun z_ : Int32 => ((45, [some (.ref 18), some (.int (ei_ (n))), some (.int (ei_ (x9))), some (.int (ei_ ((x9 + 1))))], [.int z_, .int (ei_ (x9)), .ref 20], m1) : am_S)) (ei_sub rfl rfl)) ?_
          refine pw_ist rfl rfl (by omega) ?_
          refine pw_steps 4 (s' := (52, [some (.ref 18), some (.int (ei_ (n))), some (.int (ei_ (x9))), some (.int (ei_ ((x9 + 1))))], [.int (ei_ ((x9 + 1))), .ref 20, .int (ei_ ((x9 + 1))), .ref 20], wi_ m1 20 (x9) ((x17 - 1)))) rfl ?_
          refine pw_ild rfl rfl (by omega) (fun x19 (hx19 : x19 = vi_ (wi_ m1 20 (x9) ((x17 - 1))) 20 (x9 + 1)) rx19 sx19 => ?_)
          have ox19 := hx19
          (try simp (disch := omega) only [vi_up] at hx19)
          refine pw_steps 2 (s' := (55, [some (.ref 18), some (.int (ei_ (n))), some (.int (ei_ (x9))), some (.int (ei_ ((x9 + 1))))], [.int ((ei_ (x19)) + (ei_ (1))), .int (ei_ ((x9 + 1))), .ref 20], wi_ m1 20 (x9) ((x17 - 1)))) rfl ?_
          refine pw_cv (congrArg (fun z_ : Int32 => ((55, [some (.ref 18), some (.int (ei_ (n))), some (.int (ei_ (x9))), some (.int (ei_ ((x9 + 1))))], [.int z_, .int (ei_ ((x9 + 1))), .ref 20], wi_ m1 20 (x9) ((x17 - 1))) : am_S)) (ei_add rfl rfl)) ?_
          refine pw_ist rfl rfl (by omega) ?_
          refine pw_steps 4 (s' := (62, [some (.ref 18), some (.int (ei_ (n))), some (.int (ei_ (x9))), some (.int (ei_ ((x9 + 1))))], [.int (ei_ ((x9 + 1))), .int (ei_ (n)), .ref 19], wi_ (wi_ m1 20 (x9) ((x17 - 1))) 20 ((x9 + 1)) ((x19 + 1)))) rfl ?_
          refine pw_ist rfl rfl (by omega) ?_
          refine pw_steps 1 (s' := (64, [some (.ref 18), some (.int (ei_ (n))), some (.int (ei_ (x9))), some (.int (ei_ ((x9 + 1))))], [.int (ei_ ((x9 + 1)))], wi_ (wi_ (wi_ m1 20 (x9) ((x17 - 1))) 20 ((x9 + 1)) ((x19 + 1))) 19 (n) ((x9 + 1)))) rfl ?_
          refine pw_ifF rfl (by omega) (show ¬ ((x9 + 1) = 0) by omega) ?_
          refine pw_vret rfl rfl ?_
          exact k0 (wi_ (wi_ (wi_ m1 20 (x9) ((x17 - 1))) 20 ((x9 + 1)) ((x19 + 1))) 19 (n) ((x9 + 1))) ((sm_w (sm_w (sm_w hs (fun _ h_ => by rw [h_]; rfl)) (fun _ h_ => by rw [h_]; rfl)) (fun _ h_ => by rw [h_]; rfl))) (by have hc_ := wy_c (P := P) (c := k) (n := n) ⟨by omega, by omega⟩ ⟨by omega, by omega⟩ hC; rw [if_pos (by omega)] at hc_; have hw_ : ∀ j, 0 ≤ j → j < P → vi_ (wi_ (wi_ (wi_ m1 20 (x9) ((x17 - 1))) 20 ((x9 + 1)) ((x19 + 1))) 19 (n) ((x9 + 1))) 19 j = wy_ P (k + 1) j := (by intro j a_ b_; (simp (disch := omega) only [vi_up, vi_ne]); by_cases e_ : j = n; (rw [if_pos e_, e_, hc_]; omega); (rw [if_neg e_]; by_cases e2_ : j < n; (rw [wy_n (P := P) ⟨by omega, by omega⟩ ⟨by omega, by omega⟩ hC (by omega) j a_ e2_]; exact hB j a_ (by omega)); exact hA j (by omega) b_)); refine ⟨(sm_v hs (k := 18) (j := 5) rfl).trans p0.1, hw_, fun i a_ b_ => ?_⟩; rw [ww_s (by omega) hW ⟨by omega, by omega⟩ (by omega) ⟨by omega, by omega⟩ ⟨by omega, by omega⟩ (by omega) (by rw [vi_up (by omega) (by omega) (by omega)]; omega) i a_ b_]; exact cn_cg _ (fun j c_ d_ => by rw [hw_ j c_ (by omega)]))
  exact L6 _ (P - 1) none none m rfl (by omega) ((sm_rfl m)) (by intro j a_ b_; omega) (by intro j a_ b_; exact p0.2.1 j a_ (by omega)) (by intro i a_ b_; rw [p0.2.2 i a_ b_]; exact cn_cg _ (fun j c_ d_ => by rw [p0.2.1 j c_ (by omega)])) (by intro j a_ b_; omega)

set_option maxHeartbeats 4000000 in
set_option maxRecDepth 20000 in
theorem cw_fits {q : am_X} {d : Nat} {m : am_M} {Q : Option Value → am_M → Prop}  {P k : Int} {g : Int → Int} (p0 : wa_ P k m) (p1 : 0 ≤ P ∧ P ≤ 5) (p2 : ∀ i, 0 ≤ i → i < P → vi_ m 21 i = g i) (k0 : (fi_ (wy_ P k) g P) → Q (some (.int (ei_ (1)))) m) (k1 : (¬ fi_ (wy_ P k) g P) → Q (some (.int (ei_ (0)))) m) : pw_C q (d + 2) 78 [.ref 18] m Q := by
  refine pw_intro (I := iX7_fits) (T := tX7_fits) rfl rfl rfl ?_
  refine pw_steps 2 (s' := (2, [some (.ref 18), some (.int (ei_ (0)))], [], m)) rfl ?_
  have L3 : ∀ (n1 : Nat) (i : Int), (P - i).toNat = n1 → (0 ≤ i ∧ i ≤ P) → (∀ j, 0 ≤ j → j < i → cn_ (wy_ P k) j P.toNat ≤ g j) → pw_V q (d + 1) iX7_fits.2.2.2.1 tX7_fits Q (2, [some (.ref 18), some (.int (ei_ (i)))], [], m) := by
    intro n1
    induction n1 using Nat.strongRecOn with
    | _ n1 ih2 =>
      intro i hm_n1 v4 hv
      refine pw_steps 2 (s' := (4, [some (.ref 18), some (.int (ei_ (i)))], [.ref 18, .int (ei_ (i))], m)) rfl ?_
      refine pw_get rfl rfl (fun x5 (hx5 : x5 = vi_ m 18 5) rx5 sx5 => ?_)
      replace hx5 : x5 = P := hx5.trans p0.1
      subst x5
      refine pw_cmp rfl (by omega) ⟨rx5, sx5⟩ (fun (h6 : P ≤ i) => ?_) (fun (h6 : ¬ (P ≤ i)) => ?_)
      · refine pw_steps 1 (s' := (34, [some (.ref 18), some (.int (ei_ (i)))], [.int (ei_ (1))], m)) rfl ?_
        refine pw_iret rfl rfl rfl ?_
        exact k0 (by intro i a_ b_; exact hv i a_ (by omega))
      · refine pw_steps 3 (s' := (15, [some (.ref 18), some (.int (ei_ (i)))], [.int (ei_ (i)), .ref 20], m)) rfl ?_
        refine pw_ild rfl rfl (by omega) (fun x7 (hx7 : x7 = vi_ m 20 i) rx7 sx7 => ?_)
        have b8 := p0.2.2 i (by omega) (by omega)
        refine pw_steps 3 (s' := (21, [some (.ref 18), some (.int (ei_ (i)))], [.int (ei_ (i)), .ref 21, .int (ei_ (x7))], m)) rfl ?_
        refine pw_ild rfl rfl (by omega) (fun x9 (hx9 : x9 = vi_ m 21 i) rx9 sx9 => ?_)
        have b10 := p2 i (by omega) (by omega)
        refine pw_cmp rfl ⟨rx7, sx7⟩ ⟨rx9, sx9⟩ (fun (h11 : x7 ≤ x9) => ?_) (fun (h11 : ¬ (x7 ≤ x9)) => ?_)
        · refine pw_steps 2 (s' := (2, [some (.ref 18), some (.int ((ei_ (i)) + (ei_ (1))))], [], m)) rfl ?_
          refine pw_cv (congrArg (fun z_ : Int32 => ((2, [some (.ref 18), some (.int z_)], [], m) : am_S)) (ei_add rfl rfl)) ?_
          exact ih2 _ (by omega) (i + 1) rfl (by omega) (by intro j a_ b_; by_cases e_ : j = i; (rw [e_]; omega); exact hv j a_ (by omega))
        · refine pw_steps 1 (s' := (26, [some (.ref 18), some (.int (ei_ (i)))], [.int (ei_ (0))], m)) rfl ?_
          refine pw_iret rfl rfl rfl ?_
          exact k1 (by intro h_; have t_ := h_ i (by omega) (by omega); omega)
  exact L3 _ 0 rfl (by omega) (by intro j a_ b_; omega)

set_option maxHeartbeats 4000000 in
set_option maxRecDepth 20000 in
theorem cw_cost {q : am_X} {d : Nat} {m : am_M} {Q : Option Value → am_M → Prop}  {P k : Int} {ct : Int → Int → Int → Int} (p0 : wa_ P k m) (p1 : 0 ≤ P ∧ P ≤ 5) (p2 : ∀ j o n, 0 ≤ j → j < P → 0 ≤ o → o < P → 1 ≤ n → n ≤ P → vi_ m 23 (((j * 5) + o) * 5 + n - 1) = ct j o n) (p3 : ∀ j o n, 0 ≤ j → j < P → 0 ≤ ct j o n ∧ ct j o n ≤ 111000) (k0 : ∀ (x : Int), (x = su_ (fun j => ct j (wy_ P k j) (cn_ (wy_ P k) (wy_ P k j) P.toNat)) P.toNat) → (0 ≤ x ∧ x ≤ 555000) → Q (some (.int (ei_ (x)))) m) : pw_C q (d + 2) 79 [.ref 18] m Q := by
  refine pw_intro (I := iX7_cost) (T := tX7_cost) rfl rfl rfl ?_
  refine pw_steps 4 (s' := (4, [some (.ref 18), some (.int (ei_ (0))), some (.int (ei_ (0))), none], [], m)) rfl ?_
  have L4 : ∀ (n2 : Nat) (s : Int) (j : Int) (u1 : Option Value), (P - j).toNat = n2 → (0 ≤ j ∧ j ≤ P) → (0 ≤ s ∧ s ≤ 111000 * j) → (s = su_ (fun j => ct j (wy_ P k j) (cn_ (wy_ P k) (wy_ P k j) P.toNat)) j.toNat) → pw_V q (d + 1) iX7_cost.2.2.2.1 tX7_cost Q (4, [some (.ref 18), some (.int (ei_ (s))), some (.int (ei_ (j))), u1], [], m) := by
    intro n2
    induction n2 using Nat.strongRecOn with
    | _ n2 ih3 =>
      intro s j u1 hm_n2 v5 hb hv
      refine pw_steps 2 (s' := (6, [some (.ref 18), some (.int (ei_ (s))), some (.int (ei_ (j))), u1], [.ref 18, .int (ei_ (j))], m)) rfl ?_
      refine pw_get rfl rfl (fun x6 (hx6 : x6 = vi_ m 18 5) rx6 sx6 => ?_)
      replace hx6 : x6 = P := hx6.trans p0.1
      subst x6
      refine pw_cmp rfl (by omega) ⟨rx6, sx6⟩ (fun (h7 : P ≤ j) => ?_) (fun (h7 : ¬ (P ≤ j)) => ?_)
      · refine pw_steps 1 (s' := (45, [some (.ref 18), some (.int (ei_ (s))), some (.int (ei_ (j))), u1], [.int (ei_ (s))], m)) rfl ?_
        refine pw_iret rfl rfl rfl ?_
        exact k0 s (by have e_ : j = P := (by omega); rw [hv, e_]) (by omega)
      · refine pw_steps 3 (s' := (17, [some (.ref 18), some (.int (ei_ (s))), some (.int (ei_ (j))), u1], [.int (ei_ (j)), .ref 19], m)) rfl ?_
        refine pw_ild rfl rfl (by omega) (fun x8 (hx8 : x8 = vi_ m 19 j) rx8 sx8 => ?_)
        have b9 := p0.2.1 j (by omega) (by omega)
        have b9b := wy_b (P := P) ⟨by omega, by omega⟩ k j
        refine pw_steps 9 (s' := (31, [some (.ref 18), some (.int (ei_ (s))), some (.int (ei_ (j))), some (.int (ei_ (x8)))], [.int (ei_ (x8)), .ref 20, .int (ei_ (x8)), .int (ei_ (j)), .ref 23, .int (ei_ (s))], m)) rfl ?_
        refine pw_ild rfl rfl (by omega) (fun x10 (hx10 : x10 = vi_ m 20 x8) rx10 sx10 => ?_)
        have b11 := p0.2.2 x8 (by omega) (by omega)
        have b11b := cn_b (wy_ P k) x8 P.toNat
        have b11c := cn_pos (f := wy_ P k) (v := x8) P.toNat j (by omega) (by omega) (by omega)
        refine pw_callS (As := [.int (ei_ (j)), .int (ei_ (x8)), .int (ei_ (x10))]) (st := [.ref 23, .int (ei_ (s))]) rfl (by decide) rfl rfl (Nat.le_of_ble_eq_true rfl) ?_
        refine pw_intro (I := iX7_placeOf) (T := tX7_placeOf) rfl rfl rfl ?_
        refine pw_steps 11 (s' := (11, [some (.int (ei_ (j))), some (.int (ei_ (x8))), some (.int (ei_ (x10)))], [.int ((((((ei_ (j)) * (ei_ (5))) + (ei_ (x8))) * (ei_ (5))) + (ei_ (x10))) - (ei_ (1)))], m)) rfl ?_
        refine pw_cv (congrArg (fun z_ : Int32 => ((11, [some (.int (ei_ (j))), some (.int (ei_ (x8))), some (.int (ei_ (x10)))], [.int z_], m) : am_S)) (ei_sub (ei_add (ei_mul (ei_add (ei_mul rfl rfl) rfl) rfl) rfl) rfl)) ?_
        refine pw_iret rfl rfl rfl ?_
        refine pw_ild rfl rfl (by omega) (fun x12 (hx12 : x12 = vi_ m 23 (((((j * 5) + x8) * 5) + x10) - 1)) rx12 sx12 => ?_)
        refine pw_steps 4 (s' := (4, [some (.ref 18), some (.int ((ei_ (s)) + (ei_ (x12)))), some (.int ((ei_ (j)) + (ei_ (1)))), some (.int (ei_ (x8)))], [], m)) rfl ?_
        refine pw_cv (congrArg (fun z_ : Int32 => ((4, [some (.ref 18), some (.int z_), some (.int ((ei_ (j)) + (ei_ (1)))), some (.int (ei_ (x8)))], [], m) : am_S)) (ei_add rfl rfl)) ?_
        refine pw_cv (congrArg (fun z_ : Int32 => ((4, [some (.ref 18), some (.int (ei_ ((s + x12)))), some (.int z_), some (.int (ei_ (x8)))], [], m) : am_S)) (ei_add rfl rfl)) ?_
        exact ih3 _ (by omega) (s + x12) (j + 1) (some (.int (ei_ (x8)))) rfl (by omega) (by have h3_ := p2 j x8 x10 (by omega) (by omega) (by omega) (by omega) (by omega) (by omega); have h4_ := p3 j x8 x10 (by omega) (by omega); rw [← hx12] at h3_; omega) (by have h3_ := p2 j x8 x10 (by omega) (by omega) (by omega) (by omega) (by omega) (by omega); have h4_ := p3 j x8 x10 (by omega) (by omega); rw [← hx12] at h3_; rw [su_s (by omega), ← hv]; have e1_ : wy_ P k j = x8 := (by omega); have e2_ : cn_ (wy_ P k) (wy_ P k j) P.toNat = x10 := (by rw [e1_]; omega); show s + x12 = s + ct j (wy_ P k j) (cn_ (wy_ P k) (wy_ P k j) P.toNat); rw [e2_, e1_, h3_])
  exact L4 _ 0 0 none rfl (by omega) (by omega) (by rfl)

set_option maxHeartbeats 4000000 in
set_option maxRecDepth 20000 in
theorem cw_wears {q : am_X} {d : Nat} {m : am_M} {Q : Option Value → am_M → Prop}  {P k : Int} (p0 : wa_ P k m) (p1 : 0 ≤ P ∧ P ≤ 5) (k0 : ∀ (x : Int), (x = su_ (fun i => if 0 < cn_ (wy_ P k) i P.toNat then 1 else 0) P.toNat) → (0 ≤ x ∧ x ≤ P) → Q (some (.int (ei_ (x)))) m) : pw_C q (d + 2) 84 [.ref 18] m Q := by
  refine pw_intro (I := iX7_wearers) (T := tX7_wearers) rfl rfl rfl ?_
  refine pw_steps 4 (s' := (4, [some (.ref 18), some (.int (ei_ (0))), some (.int (ei_ (0)))], [], m)) rfl ?_
  have L3 : ∀ (n1 : Nat) (s : Int) (i : Int), (P - i).toNat = n1 → (0 ≤ i ∧ i ≤ P ∧ 0 ≤ s ∧ s ≤ i) → (s = su_ (fun i => if 0 < cn_ (wy_ P k) i P.toNat then 1 else 0) i.toNat) → pw_V q (d + 1) iX7_wearers.2.2.2.1 tX7_wearers Q (4, [some (.ref 18), some (.int (ei_ (s))), some (.int (ei_ (i)))], [], m) := by
    intro n1
    induction n1 using Nat.strongRecOn with
    | _ n1 ih2 =>
      intro s i hm_n1 v4 hv
      refine pw_steps 2 (s' := (6, [some (.ref 18), some (.int (ei_ (s))), some (.int (ei_ (i)))], [.ref 18, .int (ei_ (i))], m)) rfl ?_
      refine pw_get rfl rfl (fun x5 (hx5 : x5 = vi_ m 18 5) rx5 sx5 => ?_)
      replace hx5 : x5 = P := hx5.trans p0.1
      subst x5
      refine pw_cmp rfl (by omega) ⟨rx5, sx5⟩ (fun (h6 : P ≤ i) => ?_) (fun (h6 : ¬ (P ≤ i)) => ?_)
      · refine pw_steps 1 (s' := (36, [some (.ref 18), some (.int (ei_ (s))), some (.int (ei_ (i)))], [.int (ei_ (s))], m)) rfl ?_
        refine pw_iret rfl rfl rfl ?_
        exact k0 s (by have e_ : i = P := (by omega); rw [hv, e_]) (by omega)
      · refine pw_steps 4 (s' := (18, [some (.ref 18), some (.int (ei_ (s))), some (.int (ei_ (i)))], [.int (ei_ (i)), .ref 20, .int (ei_ (s))], m)) rfl ?_
        refine pw_ild rfl rfl (by omega) (fun x7 (hx7 : x7 = vi_ m 20 i) rx7 sx7 => ?_)
        have b8 := p0.2.2 i (by omega) (by omega)
        refine pw_if rfl ⟨rx7, sx7⟩ (fun (h9 : x7 ≤ 0) => ?_) (fun (h9 : ¬ (x7 ≤ 0)) => ?_)
        · refine pw_steps 5 (s' := (4, [some (.ref 18), some (.int ((ei_ (s)) + (ei_ (0)))), some (.int ((ei_ (i)) + (ei_ (1))))], [], m)) rfl ?_
          refine pw_cv (congrArg (fun z_ : Int32 => ((4, [some (.ref 18), some (.int z_), some (.int ((ei_ (i)) + (ei_ (1))))], [], m) : am_S)) (ei_add rfl rfl)) ?_
          refine pw_cv (congrArg (fun z_ : Int32 => ((4, [some (.ref 18), some (.int (ei_ ((s + 0)))), some (.int z_)], [], m) : am_S)) (ei_add rfl rfl)) ?_
          exact ih2 _ (by omega) (s + 0) (i + 1) rfl (by omega) (by rw [su_s (by omega), ← hv]; first | (rw [if_pos (by omega)]; done) | (rw [if_neg (by omega)]; done))
        · refine pw_steps 6 (s' := (4, [some (.ref 18), some (.int ((ei_ (s)) + (ei_ (1)))), some (.int ((ei_ (i)) + (ei_ (1))))], [], m)) rfl ?_
          refine pw_cv (congrArg (fun z_ : Int32 => ((4, [some (.ref 18), some (.int z_), some (.int ((ei_ (i)) + (ei_ (1))))], [], m) : am_S)) (ei_add rfl rfl)) ?_
          refine pw_cv (congrArg (fun z_ : Int32 => ((4, [some (.ref 18), some (.int (ei_ ((s + 1)))), some (.int z_)], [], m) : am_S)) (ei_add rfl rfl)) ?_
          exact ih2 _ (by omega) (s + 1) (i + 1) rfl (by omega) (by rw [su_s (by omega), ← hv]; first | (rw [if_pos (by omega)]; done) | (rw [if_neg (by omega)]; done))
  exact L3 _ 0 0 rfl (by omega) (by rfl)

set_option maxHeartbeats 4000000 in
set_option maxRecDepth 20000 in
theorem cw_total {q : am_X} {d : Nat} {m : am_M} {Q : Option Value → am_M → Prop}  {P : Int} (p0 : vi_ m 18 5 = P) (p1 : 0 ≤ P ∧ P ≤ 5) (k0 : ∀ (x : Int), (x = pr_ P P.toNat) → (1 ≤ x ∧ x ≤ 3125) → Q (some (.int (ei_ (x)))) m) : pw_C q (d + 2) 77 [.ref 18] m Q := by
  refine pw_intro (I := iX7_total) (T := tX7_total) rfl rfl rfl ?_
  refine pw_steps 4 (s' := (4, [some (.ref 18), some (.int (ei_ (1))), some (.int (ei_ (0)))], [], m)) rfl ?_
  have L3 : ∀ (n1 : Nat) (t : Int) (i : Int), (P - i).toNat = n1 → (0 ≤ i ∧ i ≤ P) → (t = pr_ P i.toNat) → pw_V q (d + 1) iX7_total.2.2.2.1 tX7_total Q (4, [some (.ref 18), some (.int (ei_ (t))), some (.int (ei_ (i)))], [], m) := by
    intro n1
    induction n1 using Nat.strongRecOn with
    | _ n1 ih2 =>
      intro t i hm_n1 v4 hv
      refine pw_steps 2 (s' := (6, [some (.ref 18), some (.int (ei_ (t))), some (.int (ei_ (i)))], [.ref 18, .int (ei_ (i))], m)) rfl ?_
      refine pw_get rfl rfl (fun x5 (hx5 : x5 = vi_ m 18 5) rx5 sx5 => ?_)
      replace hx5 : x5 = P := hx5.trans p0
      subst x5
      refine pw_cmp rfl (by omega) ⟨rx5, sx5⟩ (fun (h6 : P ≤ i) => ?_) (fun (h6 : ¬ (P ≤ i)) => ?_)
      · refine pw_steps 1 (s' := (26, [some (.ref 18), some (.int (ei_ (t))), some (.int (ei_ (i)))], [.int (ei_ (t))], m)) rfl ?_
        refine pw_iret rfl rfl rfl ?_
        exact k0 t (by have e_ : i = P := (by omega); rw [hv, e_]) (by have e_ : i = P := (by omega); have b_ := pr_b (P := P) ⟨by omega, by omega⟩; rw [hv, e_]; exact b_)
      · refine pw_steps 2 (s' := (14, [some (.ref 18), some (.int (ei_ (t))), some (.int (ei_ (i)))], [.ref 18, .int (ei_ (t))], m)) rfl ?_
        refine pw_get rfl rfl (fun x7 (hx7 : x7 = vi_ m 18 5) rx7 sx7 => ?_)
        replace hx7 : x7 = P := hx7.trans p0
        subst x7
        refine pw_steps 4 (s' := (4, [some (.ref 18), some (.int ((ei_ (t)) * (ei_ (P)))), some (.int ((ei_ (i)) + (ei_ (1))))], [], m)) rfl ?_
        refine pw_cv (congrArg (fun z_ : Int32 => ((4, [some (.ref 18), some (.int z_), some (.int ((ei_ (i)) + (ei_ (1))))], [], m) : am_S)) (ei_mul rfl rfl)) ?_
        refine pw_cv (congrArg (fun z_ : Int32 => ((4, [some (.ref 18), some (.int (ei_ ((t * P)))), some (.int z_)], [], m) : am_S)) (ei_add rfl rfl)) ?_
        exact ih2 _ (by omega) (t * P) (i + 1) rfl (by omega) (by rw [pr_s (by omega), ← hv])
  exact L3 _ 1 0 rfl (by omega) (by rfl)

set_option maxHeartbeats 4000000 in
set_option maxRecDepth 20000 in
theorem cw_mark {q : am_X} {d : Nat} {m : am_M} {Q : Option Value → am_M → Prop}  {P : Int} (p0 : vi_ m 18 5 = P) (p1 : 0 ≤ P ∧ P ≤ 5) (k0 : ∀ (m1 : am_M), (sm_ pC22 m m1) → (∀ j, 0 ≤ j → j < P → vi_ m1 22 j = vi_ m 19 j) → Q none m1) : pw_C q (d + 1) 80 [.ref 18] m Q := by
  refine pw_intro (I := iX7_markFirst) (T := tX7_markFirst) rfl rfl rfl ?_
  refine pw_steps 7 (s' := (11, [some (.ref 18)], [.ref 18, .int (ei_ (0)), .ref 22, .int (ei_ (0)), .ref 19], m)) rfl ?_
  refine pw_get rfl rfl (fun x1 (hx1 : x1 = vi_ m 18 5) rx1 sx1 => ?_)
  replace hx1 : x1 = P := hx1.trans p0
  subst x1
  refine pw_cpy rfl (Nat.le_of_ble_eq_true rfl) rfl rfl (by omega) ?_
  refine pw_vret rfl rfl ?_
  exact k0 (cp_ m 19 22 0 0 P) (by exact sm_cp (fun _ => rfl)) (by intro j a_ b_; exact (vi_cp a_ (by omega)).trans (if_pos b_))

set_option maxHeartbeats 4000000 in
set_option maxRecDepth 20000 in
theorem cw_begin {q : am_X} {d : Nat} {m : am_M} {Q : Option Value → am_M → Prop} {p : Int}  (p0 : 0 ≤ p ∧ p ≤ 5) (k0 : ∀ (m1 : am_M), (sm_ pWb m m1) → (wa_ p 0 m1) → Q none m1) : pw_C q (d + 1) 68 [.ref 18, .int (ei_ (p))] m Q := by
  refine pw_intro (I := iX7_begin) (T := tX7_begin) rfl rfl rfl ?_
  refine pw_steps 6 (s' := (10, [some (.ref 18), some (.int (ei_ (p))), none], [.int ((if (ei_ (0)) < ((if (ei_ (5)) < (ei_ (p)) then ei_ (5) else ei_ (p))) then (if (ei_ (5)) < (ei_ (p)) then ei_ (5) else ei_ (p)) else ei_ (0))), .ref 18], m)) rfl ?_
  refine pw_cv (congrArg (fun z_ : Int32 => ((10, [some (.ref 18), some (.int (ei_ (p))), none], [.int z_, .ref 18], m) : am_S)) (ei_max (by decide) (by omega) rfl (ei_min (by omega) (by decide) rfl rfl))) ?_
  refine pw_put (v := (max 0 (min p 5))) rfl rfl (Or.inl rfl) ?_
  refine pw_cv (s' := (13, [some (.ref 18), some (.int (ei_ (p))), none], [], wi_ m 18 (5) ((max 0 (min p 5))))) rfl ?_
  refine pw_steps 2 (s' := (15, [some (.ref 18), some (.int (ei_ (p))), some (.int (ei_ (0)))], [], wi_ m 18 (5) ((max 0 (min p 5))))) rfl ?_
  have L3 : ∀ (n1 : Nat) (i : Int) (m1 : am_M), (p - i).toNat = n1 → (0 ≤ i ∧ i ≤ p) → (sm_ pWb m m1) → (vi_ m1 18 5 = p) → (∀ j, 0 ≤ j → j < i → vi_ m1 19 j = 0) → (∀ j, 0 ≤ j → j < i → vi_ m1 20 j = if j = 0 then p else 0) → pw_V q (d) iX7_begin.2.2.2.1 tX7_begin Q (15, [some (.ref 18), some (.int (ei_ (p))), some (.int (ei_ (i)))], [], m1) := by
    intro n1
    induction n1 using Nat.strongRecOn with
    | _ n1 ih2 =>
      intro i m1 hm_n1 v4 hs h18 h19 h20
      refine pw_steps 2 (s' := (17, [some (.ref 18), some (.int (ei_ (p))), some (.int (ei_ (i)))], [.ref 18, .int (ei_ (i))], m1)) rfl ?_
      refine pw_get rfl rfl (fun x5 (hx5 : x5 = vi_ m1 18 5) rx5 sx5 => ?_)
      replace hx5 : x5 = p := hx5.trans h18
      subst x5
      refine pw_cmp rfl (by omega) ⟨rx5, sx5⟩ (fun (h6 : p ≤ i) => ?_) (fun (h6 : ¬ (p ≤ i)) => ?_)
      · refine pw_vret rfl rfl ?_
        exact k0 m1 (hs) (by refine ⟨h18, fun j a_ b_ => (h19 j a_ (by omega)).trans (wy_0 p j).symm, fun i_ a_ b_ => ?_⟩; rw [h20 i_ a_ (by omega), cn_zero (fun j _ => wy_0 p j)]; by_cases e_ : i_ = 0; (rw [if_pos e_, if_pos e_]; omega); (rw [if_neg e_, if_neg e_]))
      · refine pw_steps 4 (s' := (29, [some (.ref 18), some (.int (ei_ (p))), some (.int (ei_ (i)))], [.int (ei_ (0)), .int (ei_ (i)), .ref 19], m1)) rfl ?_
        refine pw_ist rfl rfl (by omega) ?_
        refine pw_steps 4 (s' := (36, [some (.ref 18), some (.int (ei_ (p))), some (.int (ei_ (i)))], [.int (ei_ (i)), .int (ei_ (i)), .ref 20], wi_ m1 19 (i) (0))) rfl ?_
        refine pw_if rfl (by omega) (fun (h7 : ¬ i = 0) => ?_) (fun (h7 : ¬ ¬ i = 0) => ?_)
        · refine pw_steps 1 (s' := (47, [some (.ref 18), some (.int (ei_ (p))), some (.int (ei_ (i)))], [.int (ei_ (0)), .int (ei_ (i)), .ref 20], wi_ m1 19 (i) (0))) rfl ?_
          refine pw_ist rfl rfl (by omega) ?_
          refine pw_steps 2 (s' := (15, [some (.ref 18), some (.int (ei_ (p))), some (.int ((ei_ (i)) + (ei_ (1))))], [], wi_ (wi_ m1 19 (i) (0)) 20 (i) (0))) rfl ?_
          refine pw_cv (congrArg (fun z_ : Int32 => ((15, [some (.ref 18), some (.int (ei_ (p))), some (.int z_)], [], wi_ (wi_ m1 19 (i) (0)) 20 (i) (0)) : am_S)) (ei_add rfl rfl)) ?_
          exact ih2 _ (by omega) (i + 1) (wi_ (wi_ m1 19 (i) (0)) 20 (i) (0)) rfl (by omega) ((sm_w (sm_w hs (fun _ h_ => by rw [h_]; rfl)) (fun _ h_ => by rw [h_]; rfl))) (by refine (h18).trans (by omega)) (by intro j a_ b_; (simp (disch := omega) only [vi_up, vi_ne]); by_cases e_ : j = i; (rw [if_pos e_]); (rw [if_neg e_]; exact h19 j a_ (by omega))) (by intro j a_ b_; (simp (disch := omega) only [vi_up, vi_ne]); by_cases e_ : j = i; (rw [if_pos e_]; first | omega | (rw [if_pos (by omega)]; done) | (rw [if_neg (by omega)]; done)); (rw [if_neg e_]; exact h20 j a_ (by omega)))
        · refine pw_steps 1 (s' := (40, [some (.ref 18), some (.int (ei_ (p))), some (.int (ei_ (i)))], [.ref 18, .int (ei_ (i)), .ref 20], wi_ m1 19 (i) (0))) rfl ?_
          refine pw_get rfl rfl (fun x8 (hx8 : x8 = vi_ m1 18 5) rx8 sx8 => ?_)
          replace hx8 : x8 = p := hx8.trans h18
          subst x8
          refine pw_steps 1 (s' := (47, [some (.ref 18), some (.int (ei_ (p))), some (.int (ei_ (i)))], [.int (ei_ (p)), .int (ei_ (i)), .ref 20], wi_ m1 19 (i) (0))) rfl ?_
          refine pw_ist rfl rfl (by omega) ?_
          refine pw_steps 2 (s' := (15, [some (.ref 18), some (.int (ei_ (p))), some (.int ((ei_ (i)) + (ei_ (1))))], [], wi_ (wi_ m1 19 (i) (0)) 20 (i) (p))) rfl ?_
          refine pw_cv (congrArg (fun z_ : Int32 => ((15, [some (.ref 18), some (.int (ei_ (p))), some (.int z_)], [], wi_ (wi_ m1 19 (i) (0)) 20 (i) (p)) : am_S)) (ei_add rfl rfl)) ?_
          exact ih2 _ (by omega) (i + 1) (wi_ (wi_ m1 19 (i) (0)) 20 (i) (p)) rfl (by omega) ((sm_w (sm_w hs (fun _ h_ => by rw [h_]; rfl)) (fun _ h_ => by rw [h_]; rfl))) (by refine (h18).trans (by omega)) (by intro j a_ b_; (simp (disch := omega) only [vi_up, vi_ne]); by_cases e_ : j = i; (rw [if_pos e_]); (rw [if_neg e_]; exact h19 j a_ (by omega))) (by intro j a_ b_; (simp (disch := omega) only [vi_up, vi_ne]); by_cases e_ : j = i; (rw [if_pos e_]; first | omega | (rw [if_pos (by omega)]; done) | (rw [if_neg (by omega)]; done)); (rw [if_neg e_]; exact h20 j a_ (by omega)))
  exact L3 _ 0 (wi_ m 18 (5) ((max 0 (min p 5)))) rfl (by omega) ((sm_w (sm_rfl m) (fun _ h_ => by rw [h_]; rfl))) (by refine ((ei_i (by omega))).trans (by omega)) (by intro j a_ b_; omega) (by intro j a_ b_; omega)

