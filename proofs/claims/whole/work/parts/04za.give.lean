
/-! ===== give ===== -/
def gr_ (m : am_M) (a n p : Int) : Int := lf_ (vi_ m 5 a) (rt_ m p a (cn_ (vi_ m 4) p 8 + (if vi_ m 4 a = p then 0 else 1)) (vi_ m 2 32)) n
def gf_ (m : am_M) (a n : Int) : Nat → Int × Int
  | 0 => (-1, -1)
  | k + 1 => if (vi_ m 4 a = k ∨ cn_ (vi_ m 4) k 8 < vi_ m 2 (16 + k)) ∧ (gf_ m a n k).2 < gr_ m a n k then ((k : Int), gr_ m a n k) else gf_ m a n k
theorem gf_s {m : am_M} {a n k : Int} (h : 0 ≤ k) : gf_ m a n (k + 1).toNat = if (vi_ m 4 a = k ∨ cn_ (vi_ m 4) k 8 < vi_ m 2 (16 + k)) ∧ (gf_ m a n k.toNat).2 < gr_ m a n k then (k, gr_ m a n k) else gf_ m a n k.toNat := by
  rw [show (k + 1).toNat = k.toNat + 1 by omega]
  simp only [gf_]
  rw [Int.toNat_of_nonneg h]
def sg_ (m : am_M) (a n w : Int) : Int := if (0 ≤ a ∧ a < vi_ m 1 1) ∧ (0 ≤ n ∧ n ≤ 99) ∧ 0 ≤ w ∧ w ≤ 1 then (if w = 0 then (gf_ m a n (vi_ m 1 1).toNat).1 else (gf_ m a n (vi_ m 1 1).toNat).2) else -1
theorem cn_set {f g : Int → Int} {a p : Int} (ha : 0 ≤ a) (hg : ∀ j, 0 ≤ j → g j = if j = a then p else f j) : ∀ n : Nat, cn_ g p n = cn_ f p n + (if a < (n : Int) then (if f a = p then 0 else 1) else 0) := by
  intro n
  induction n with
  | zero => rw [if_neg (by omega)]; rfl
  | succ n ih =>
    simp only [cn_]
    rw [ih, hg n (by omega)]
    by_cases c : (n : Int) = a
    · have hfa : f (n : Int) = f a := by rw [c]
      rw [if_pos c]
      omega
    · rw [if_neg c]
      omega
def pSw (k j : Nat) : Bool := pSc k j || k == 52
theorem pSc_Sw : ∀ k j, pSw k j = false → pSc k j = false := by
  intro k j h; simp only [pSw, Bool.or_eq_false_iff] at h; exact h.1
theorem gr_bn {m0 m1 : am_M} {a p n : Int} (hp : rP_ m0) (hd : rD_ m0) (hs : sm_ pSc m0 m1) (ha : 0 ≤ a ∧ a < vi_ m0 1 1) (hpp : 0 ≤ p ∧ p < vi_ m0 1 1) : lf_ (vi_ (wi_ m1 52 a p) 53 a) (bn_ (wi_ m1 52 a p) a (vi_ (wi_ m1 52 a p) 2 32)) n = gr_ m0 a n p := by
  have hP := hp.1
  have f : ∀ {c : Nat}, c ≠ 52 → (∀ j, pSc c j = false) → vi_ (wi_ m1 52 a p) c = vi_ m0 c := fun e1 e2 => (vi_nef e1).trans (sm_f hs e2)
  have e52 : vi_ (wi_ m1 52 a p) 52 a = p := vi_eq (by omega)
  have g52 : ∀ j, 0 ≤ j → vi_ (wi_ m1 52 a p) 52 j = if j = a then p else vi_ m0 52 j := fun j b => by
    rw [vi_up (by omega) ha.1 b, sm_f hs (k := 52) (fun _ => rfl)]
  have e53 := f (c := 53) (by decide) (fun _ => rfl)
  have e2 := f (c := 2) (by decide) (fun _ => rfl)
  have e1 := f (c := 1) (by decide) (fun _ => rfl)
  have e14 := f (c := 14) (by decide) (fun _ => rfl)
  have e15 := f (c := 15) (by decide) (fun _ => rfl)
  unfold bn_ gr_
  rw [rt_cg (m := m0) (by rw [e14]) e15 e2, e52, e53, e2, e1, cn_set ha.1 g52, if_pos (by omega), cn_mc hp hd hpp, (hd.2.2.1 a ha.1 ha.2).1, (hd.2.2.1 a ha.1 ha.2).2]
theorem sm_res {m0 m1 m7 : am_M} {a p h : Int} (hs : sm_ pSc m0 m1) (g : sm_ pGo (wi_ m1 52 a p) m7) (hh : h = vi_ m0 52 a) : sm_ pSc m0 (wi_ m7 52 a h) := by
  refine ⟨fun k j e => ?_, g.2.trans hs.2⟩
  have e1 := hs.1 k j e
  have e2 := g.1 k j (pGo_Sc k j e)
  simp only [wi_, am_ui] at e2 ⊢
  by_cases c : k = 52
  · subst c
    rw [if_pos rfl] at e2 ⊢
    simp only [upd] at e2 ⊢
    by_cases c2 : j = a.toNat
    · rw [if_pos c2, hh, c2]
      exact ei_toInt _
    · rw [if_neg c2]
      rw [if_neg c2] at e2
      exact e2.trans e1
  · rw [if_neg c] at e2 ⊢
    exact e2.trans e1
theorem mW_set {m0 m1 : am_M} {a p : Int} (hw : mW_ m0) (hs : sm_ pSc m0 m1) (ha : 0 ≤ a) (h8 : vi_ m0 1 1 ≤ 8) (hpp : 0 ≤ p ∧ p < vi_ m0 1 1) : mW_ (wi_ m1 52 a p) := by
  intro j b c
  have e1 : vi_ (wi_ m1 52 a p) 1 1 = vi_ m0 1 1 := (vi_ne (by decide)).trans (sm_v hs rfl)
  rw [e1] at c ⊢
  rw [vi_up (by omega) ha b, sm_f hs (k := 52) (fun _ => rfl)]
  by_cases e : j = a
  · rw [if_pos e]; exact hpp
  · rw [if_neg e]; exact hw j b c

set_option maxHeartbeats 4000000 in
set_option maxRecDepth 20000 in
theorem cs_give {q : am_X} {d : Nat} {m : am_M} {Q : Option Value → am_M → Prop} {m0 : am_M} {a : Int} {b : Int} {c : Int}  (p0 : rP_ m0) (p1 : rD_ m0) (p2 : rZ_ m0) (p3 : rL_ m0) (p4 : sm_ pSc m0 m) (p5 : -2147483648 ≤ a ∧ a < 2147483648) (p6 : -2147483648 ≤ b ∧ b < 2147483648) (p7 : -2147483648 ≤ c ∧ c < 2147483648) (k0 : ∀ (x : Int) (m1 : am_M), (x = sg_ m0 a b c) → (sm_ pSc m0 m1) → Q (some (.int (ei_ (x)))) m1) : pw_C q (d + 60) 64 [.ref 0, .int (ei_ (a)), .int (ei_ (b)), .int (ei_ (c))] m Q := by
  obtain ⟨hP1, hP2, hP3, hP4⟩ := id p0
  have hmw := mW_of p0 p1
  have hmf := mF_of p0 p1
  refine pw_intro (I := iX8_give) (T := tX8_give) rfl rfl rfl ?_
  refine pw_steps 3 (s' := (5, [some (.ref 0), some (.int (ei_ (a))), some (.int (ei_ (b))), some (.int (ei_ (c))), none, none, none, none, none, none, none], [.int (ei_ (a)), .ref 1], m)) rfl ?_
  refine pw_call (As := [.int (ei_ (a))]) (st := []) (k := 1) rfl rfl rfl rfl rfl (Nat.le_of_ble_eq_true rfl) ?_
  refine pw_intro (I := iX3_has) (T := tX3_has) rfl rfl rfl ?_
  refine pw_steps 1 (s' := (1, [some (.ref 1), some (.int (ei_ (a)))], [.int (ei_ (a))], m)) rfl ?_
  refine pw_if rfl p5 (fun (h1 : a < 0) => ?_) (fun (h1 : ¬ (a < 0)) => ?_)
  · refine pw_steps 1 (s' := (17, [some (.ref 1), some (.int (ei_ (a)))], [.int (ei_ (0))], m)) rfl ?_
    refine pw_iret rfl rfl rfl ?_
    refine pw_ifT rfl (by decide) (show 0 = 0 by decide) ?_
    refine pw_steps 1 (s' := (28, [some (.ref 0), some (.int (ei_ (a))), some (.int (ei_ (b))), some (.int (ei_ (c))), none, none, none, none, none, none, none], [.int (ei_ ((-1)))], m)) rfl ?_
    refine pw_iret rfl rfl rfl ?_
    exact k0 (-1) m (by unfold sg_; rw [if_neg (by omega)]) (p4)
  · refine pw_steps 2 (s' := (6, [some (.ref 1), some (.int (ei_ (a)))], [.ref 1, .int (ei_ (a))], m)) rfl ?_
    refine pw_get rfl rfl (fun x2 (hx2 : x2 = vi_ m 1 1) rx2 sx2 => ?_)
    have ox2 := hx2
    replace hx2 : x2 = vi_ m0 1 1 := hx2.trans (sm_v p4 rfl)
    refine pw_cmp rfl p5 ⟨rx2, sx2⟩ (fun (h3 : x2 ≤ a) => ?_) (fun (h3 : ¬ (x2 ≤ a)) => ?_)
    · refine pw_steps 1 (s' := (17, [some (.ref 1), some (.int (ei_ (a)))], [.int (ei_ (0))], m)) rfl ?_
      refine pw_iret rfl rfl rfl ?_
      refine pw_ifT rfl (by decide) (show 0 = 0 by decide) ?_
      refine pw_steps 1 (s' := (28, [some (.ref 0), some (.int (ei_ (a))), some (.int (ei_ (b))), some (.int (ei_ (c))), none, none, none, none, none, none, none], [.int (ei_ ((-1)))], m)) rfl ?_
      refine pw_iret rfl rfl rfl ?_
      exact k0 (-1) m (by unfold sg_; rw [if_neg (by omega)]) (p4)
    · refine pw_steps 2 (s' := (17, [some (.ref 1), some (.int (ei_ (a)))], [.int (ei_ (1))], m)) rfl ?_
      refine pw_iret rfl rfl rfl ?_
      refine pw_ifF rfl (by decide) (show ¬ (1 = 0) by decide) ?_
      refine pw_steps 1 (s' := (12, [some (.ref 0), some (.int (ei_ (a))), some (.int (ei_ (b))), some (.int (ei_ (c))), none, none, none, none, none, none, none], [.int (ei_ (b))], m)) rfl ?_
      refine pw_callS (As := [.int (ei_ (b))]) (st := []) rfl (by decide) rfl rfl (Nat.le_of_ble_eq_true rfl) ?_
      refine pw_intro (I := iX8_isTo99) (T := tX8_isTo99) rfl rfl rfl ?_
      refine pw_steps 1 (s' := (1, [some (.int (ei_ (b)))], [.int (ei_ (b))], m)) rfl ?_
      refine pw_if rfl p6 (fun (h4 : b < 0) => ?_) (fun (h4 : ¬ (b < 0)) => ?_)
      · refine pw_steps 1 (s' := (15, [some (.int (ei_ (b)))], [.int (ei_ (0))], m)) rfl ?_
        refine pw_iret rfl rfl rfl ?_
        refine pw_ifT rfl (by decide) (show 0 = 0 by decide) ?_
        refine pw_steps 1 (s' := (28, [some (.ref 0), some (.int (ei_ (a))), some (.int (ei_ (b))), some (.int (ei_ (c))), none, none, none, none, none, none, none], [.int (ei_ ((-1)))], m)) rfl ?_
        refine pw_iret rfl rfl rfl ?_
        exact k0 (-1) m (by unfold sg_; rw [if_neg (by omega)]) (p4)
      · refine pw_steps 2 (s' := (7, [some (.int (ei_ (b)))], [.int (ei_ (99)), .int (ei_ (b))], m)) rfl ?_
        refine pw_cmp rfl p6 (by decide) (fun (h5 : 99 < b) => ?_) (fun (h5 : ¬ (99 < b)) => ?_)
        · refine pw_steps 1 (s' := (15, [some (.int (ei_ (b)))], [.int (ei_ (0))], m)) rfl ?_
          refine pw_iret rfl rfl rfl ?_
          refine pw_ifT rfl (by decide) (show 0 = 0 by decide) ?_
          refine pw_steps 1 (s' := (28, [some (.ref 0), some (.int (ei_ (a))), some (.int (ei_ (b))), some (.int (ei_ (c))), none, none, none, none, none, none, none], [.int (ei_ ((-1)))], m)) rfl ?_
          refine pw_iret rfl rfl rfl ?_
          exact k0 (-1) m (by unfold sg_; rw [if_neg (by omega)]) (p4)
        · refine pw_steps 2 (s' := (15, [some (.int (ei_ (b)))], [.int (ei_ (1))], m)) rfl ?_
          refine pw_iret rfl rfl rfl ?_
          refine pw_ifF rfl (by decide) (show ¬ (1 = 0) by decide) ?_
          refine pw_steps 1 (s' := (19, [some (.ref 0), some (.int (ei_ (a))), some (.int (ei_ (b))), some (.int (ei_ (c))), none, none, none, none, none, none, none], [.int (ei_ (c))], m)) rfl ?_
          refine pw_if rfl p7 (fun (h6 : c < 0) => ?_) (fun (h6 : ¬ (c < 0)) => ?_)
          · refine pw_steps 1 (s' := (28, [some (.ref 0), some (.int (ei_ (a))), some (.int (ei_ (b))), some (.int (ei_ (c))), none, none, none, none, none, none, none], [.int (ei_ ((-1)))], m)) rfl ?_
            refine pw_iret rfl rfl rfl ?_
            exact k0 (-1) m (by unfold sg_; rw [if_neg (by omega)]) (p4)
          · refine pw_steps 2 (s' := (24, [some (.ref 0), some (.int (ei_ (a))), some (.int (ei_ (b))), some (.int (ei_ (c))), none, none, none, none, none, none, none], [.int (ei_ (1)), .int (ei_ (c))], m)) rfl ?_
            refine pw_cmp rfl p7 (by decide) (fun (h7 : c ≤ 1) => ?_) (fun (h7 : ¬ (c ≤ 1)) => ?_)
            · have hw4_ := p1.1 a (by omega) (by omega)
              refine pw_steps 6 (s' := (39, [some (.ref 0), some (.int (ei_ (a))), some (.int (ei_ (b))), some (.int (ei_ (c))), some (.int (ei_ ((-2)))), some (.int (ei_ ((-1)))), some (.int (ei_ (0))), none, none, none, none], [], m)) rfl ?_
              have L14 : ∀ (n12 : Nat) (bb : Int) (f : Int) (k : Int) (u8 : Option Value) (u9 : Option Value) (u10 : Option Value) (u11 : Option Value) (m1 : am_M), (vi_ m0 1 1 - k).toNat = n12 → (0 ≤ k ∧ k ≤ vi_ m0 1 1 ∧ -2 ≤ bb ∧ bb ≤ 8 ∧ -1 ≤ f ∧ f ≤ 999) → (sm_ pSc m0 m1) → (f = (gf_ m0 a b k.toNat).2) → (f = -1 ∨ bb = (gf_ m0 a b k.toNat).1) → (vi_ m0 4 a < k → 0 ≤ f) → pw_V q (d + 59) iX8_give.2.2.2.1 tX8_give Q (39, [some (.ref 0), some (.int (ei_ (a))), some (.int (ei_ (b))), some (.int (ei_ (c))), some (.int (ei_ (bb))), some (.int (ei_ (f))), some (.int (ei_ (k))), u8, u9, u10, u11], [], m1) := by
                intro n12
                induction n12 using Nat.strongRecOn with
                | _ n12 ih13 =>
                  intro bb f k u8 u9 u10 u11 m1 hm_n12 v15 hs hv hb hg
                  refine pw_steps 3 (s' := (45, [some (.ref 0), some (.int (ei_ (a))), some (.int (ei_ (b))), some (.int (ei_ (c))), some (.int (ei_ (bb))), some (.int (ei_ (f))), some (.int (ei_ (k))), u8, u9, u10, u11], [.ref 1, .int (ei_ (k))], m1)) rfl ?_
                  refine pw_call (As := []) (st := [.int (ei_ (k))]) (k := 1) rfl rfl rfl rfl rfl (Nat.le_of_ble_eq_true rfl) ?_
                  refine pw_intro (I := iX3_size) (T := tX3_size) rfl rfl rfl ?_
                  refine pw_steps 1 (s' := (1, [some (.ref 1)], [.ref 1], m1)) rfl ?_
                  refine pw_get rfl rfl (fun x16 (hx16 : x16 = vi_ m1 1 1) rx16 sx16 => ?_)
                  have ox16 := hx16
                  replace hx16 : x16 = vi_ m0 1 1 := hx16.trans (sm_v hs rfl)
                  refine pw_iret rfl rfl rfl ?_
                  refine pw_cmp rfl (by omega) ⟨rx16, sx16⟩ (fun (h17 : x16 ≤ k) => ?_) (fun (h17 : ¬ (x16 ≤ k)) => ?_)
                  · refine pw_steps 1 (s' := (163, [some (.ref 0), some (.int (ei_ (a))), some (.int (ei_ (b))), some (.int (ei_ (c))), some (.int (ei_ (bb))), some (.int (ei_ (f))), some (.int (ei_ (k))), u8, u9, u10, u11], [.int (ei_ (c))], m1)) rfl ?_
                    refine pw_if rfl p7 (fun (h18 : ¬ c = 0) => ?_) (fun (h18 : ¬ ¬ c = 0) => ?_)
                    · refine pw_steps 1 (s' := (173, [some (.ref 0), some (.int (ei_ (a))), some (.int (ei_ (b))), some (.int (ei_ (c))), some (.int (ei_ (bb))), some (.int (ei_ (f))), some (.int (ei_ (k))), u8, u9, u10, u11], [.int (ei_ (f))], m1)) rfl ?_
                      refine pw_iret rfl rfl rfl ?_
                      exact k0 f m1 (by have hk_ : k = vi_ m0 1 1 := (by omega); unfold sg_; rw [if_pos (by omega), ← hk_]; first | (rw [if_pos (by omega)]; rcases hb with hb | hb; (exfalso; have t_ := hg (by omega); omega); exact hb) | (rw [if_neg (by omega)]; exact hv)) (hs)
                    · refine pw_steps 2 (s' := (173, [some (.ref 0), some (.int (ei_ (a))), some (.int (ei_ (b))), some (.int (ei_ (c))), some (.int (ei_ (bb))), some (.int (ei_ (f))), some (.int (ei_ (k))), u8, u9, u10, u11], [.int (ei_ (bb))], m1)) rfl ?_
                      refine pw_iret rfl rfl rfl ?_
                      exact k0 bb m1 (by have hk_ : k = vi_ m0 1 1 := (by omega); unfold sg_; rw [if_pos (by omega), ← hk_]; first | (rw [if_pos (by omega)]; rcases hb with hb | hb; (exfalso; have t_ := hg (by omega); omega); exact hb) | (rw [if_neg (by omega)]; exact hv)) (hs)
                  · refine pw_steps 3 (s' := (56, [some (.ref 0), some (.int (ei_ (a))), some (.int (ei_ (b))), some (.int (ei_ (c))), some (.int (ei_ (bb))), some (.int (ei_ (f))), some (.int (ei_ (k))), u8, u9, u10, u11], [.int (ei_ (a)), .ref 3], m1)) rfl ?_
                    refine pw_call (As := [.int (ei_ (a))]) (st := []) (k := 3) rfl rfl rfl rfl rfl (Nat.le_of_ble_eq_true rfl) ?_
                    refine cw_wearer2 (hs) (by omega) (fun x19 g20 g21 => ?_)
                    refine pw_steps 1 (s' := (61, [some (.ref 0), some (.int (ei_ (a))), some (.int (ei_ (b))), some (.int (ei_ (c))), some (.int (ei_ (bb))), some (.int (ei_ (f))), some (.int (ei_ (k))), u8, u9, u10, u11], [.int (ei_ (k)), .int (ei_ (x19))], m1)) rfl ?_
                    refine pw_cmp rfl (by omega) (by omega) (fun (h22 : ¬ x19 = k) => ?_) (fun (h22 : ¬ ¬ x19 = k) => ?_)
                    · refine pw_steps 3 (s' := (73, [some (.ref 0), some (.int (ei_ (a))), some (.int (ei_ (b))), some (.int (ei_ (c))), some (.int (ei_ (bb))), some (.int (ei_ (f))), some (.int (ei_ (k))), some (.int (ei_ (0))), u9, u10, u11], [.int (ei_ (0))], m1)) rfl ?_
                      refine pw_ifF rfl (by decide) (show ¬ (¬ 0 = 0) by decide) ?_
                      refine pw_steps 2 (s' := (79, [some (.ref 0), some (.int (ei_ (a))), some (.int (ei_ (b))), some (.int (ei_ (c))), some (.int (ei_ (bb))), some (.int (ei_ (f))), some (.int (ei_ (k))), some (.int (ei_ (0))), u9, u10, u11], [.int (ei_ (k)), .ref 0], m1)) rfl ?_
                      refine pw_call (As := [.int (ei_ (k))]) (st := []) (k := 0) rfl rfl rfl rfl rfl (Nat.le_of_ble_eq_true rfl) ?_
                      refine pw_intro (I := iX8_mayWearMore) (T := tX8_mayWearMore) rfl rfl rfl ?_
                      refine pw_steps 3 (s' := (5, [some (.ref 0), some (.int (ei_ (k)))], [.int (ei_ (k)), .ref 3], m1)) rfl ?_
                      refine pw_call (As := [.int (ei_ (k))]) (st := []) (k := 3) rfl rfl rfl rfl rfl (Nat.le_of_ble_eq_true rfl) ?_
                      refine cw_worn (hs) (by omega) (fun x23 g24 g25 => ?_)
                      refine pw_steps 4 (s' := (14, [some (.ref 0), some (.int (ei_ (k)))], [.int (ei_ (2)), .int (ei_ (k)), .ref 1, .int (ei_ (x23))], m1)) rfl ?_
                      refine pw_call (As := [.int (ei_ (k)), .int (ei_ (2))]) (st := [.int (ei_ (x23))]) (k := 1) rfl rfl rfl rfl rfl (Nat.le_of_ble_eq_true rfl) ?_
                      refine cw_told2 (p0) (hs) (by omega) (fun x26 g27 g28 => ?_)
                      refine pw_cmp rfl (by omega) (by omega) (fun (h29 : x26 ≤ x23) => ?_) (fun (h29 : ¬ (x26 ≤ x23)) => ?_)
                      · refine pw_steps 1 (s' := (25, [some (.ref 0), some (.int (ei_ (k)))], [.int (ei_ (0))], m1)) rfl ?_
                        refine pw_iret rfl rfl rfl ?_
                        refine pw_ifF rfl (by decide) (show ¬ (¬ 0 = 0) by decide) ?_
                        refine pw_steps 3 (s' := (39, [some (.ref 0), some (.int (ei_ (a))), some (.int (ei_ (b))), some (.int (ei_ (c))), some (.int (ei_ (bb))), some (.int (ei_ (f))), some (.int ((ei_ (k)) + (ei_ (1)))), some (.int (ei_ (0))), u9, u10, u11], [], m1)) rfl ?_
                        refine pw_cv (congrArg (fun z_ : Int32 => ((39, [some (.ref 0), some (.int (ei_ (a))), some (.int (ei_ (b))), some (.int (ei_ (c))), some (.int (ei_ (bb))), some (.int (ei_ (f))), some (.int z_), some (.int (ei_ (0))), u9, u10, u11], [], m1) : am_S)) (ei_add rfl rfl)) ?_
                        exact ih13 _ (by omega) bb f (k + 1) (some (.int (ei_ (0)))) u9 u10 u11 m1 rfl (by omega) (hs) (by have s_ := gf_s (m := m0) (a := a) (n := b) (k := k) (by omega); rw [if_neg (by omega)] at s_; rw [s_]; exact hv) (by have s_ := gf_s (m := m0) (a := a) (n := b) (k := k) (by omega); rw [if_neg (by omega)] at s_; rw [s_]; exact hb) (by intro h_; by_cases c_ : vi_ m0 4 a < k; (have t_ := hg c_; omega); omega)
                      · refine pw_steps 2 (s' := (25, [some (.ref 0), some (.int (ei_ (k)))], [.int (ei_ (1))], m1)) rfl ?_
                        refine pw_iret rfl rfl rfl ?_
                        refine pw_ifT rfl (by decide) (show ¬ 1 = 0 by decide) ?_
                        refine pw_steps 3 (s' := (94, [some (.ref 0), some (.int (ei_ (a))), some (.int (ei_ (b))), some (.int (ei_ (c))), some (.int (ei_ (bb))), some (.int (ei_ (f))), some (.int (ei_ (k))), some (.int (ei_ (0))), u9, u10, u11], [.int (ei_ (k)), .ref 3], m1)) rfl ?_
                        refine pw_call (As := [.int (ei_ (k))]) (st := []) (k := 3) rfl rfl rfl rfl rfl (Nat.le_of_ble_eq_true rfl) ?_
                        refine cw_worn (hs) (by omega) (fun x30 g31 g32 => ?_)
                        refine pw_steps 1 (s' := (99, [some (.ref 0), some (.int (ei_ (a))), some (.int (ei_ (b))), some (.int (ei_ (c))), some (.int (ei_ (bb))), some (.int (ei_ (f))), some (.int (ei_ (k))), some (.int (ei_ (0))), u9, u10, u11], [.int (ei_ (0)), .int (ei_ (x30))], m1)) rfl ?_
                        refine pw_ifT rfl (by decide) (show 0 = 0 by decide) ?_
                        refine pw_steps 9 (s' := (120, [some (.ref 0), some (.int (ei_ (a))), some (.int (ei_ (b))), some (.int (ei_ (c))), some (.int (ei_ (bb))), some (.int (ei_ (f))), some (.int (ei_ (k))), some (.int (ei_ (0))), some (.int ((ei_ (x30)) + (ei_ (1)))), u10, u11], [.ref 1, .int ((ei_ (x30)) + (ei_ (1))), .int (ei_ (k)), .int (ei_ (a)), .ref 0], m1)) rfl ?_
                        refine pw_cv (congrArg (fun z_ : Int32 => ((120, [some (.ref 0), some (.int (ei_ (a))), some (.int (ei_ (b))), some (.int (ei_ (c))), some (.int (ei_ (bb))), some (.int (ei_ (f))), some (.int (ei_ (k))), some (.int (ei_ (0))), some (.int z_), u10, u11], [.ref 1, .int z_, .int (ei_ (k)), .int (ei_ (a)), .ref 0], m1) : am_S)) (ei_add rfl rfl)) ?_
                        refine pw_call (As := []) (st := [.int (ei_ ((x30 + 1))), .int (ei_ (k)), .int (ei_ (a)), .ref 0]) (k := 1) rfl rfl rfl rfl rfl (Nat.le_of_ble_eq_true rfl) ?_
                        refine pw_intro (I := iX3_cold) (T := tX3_cold) rfl rfl rfl ?_
                        refine pw_steps 3 (s' := (3, [some (.ref 1)], [.int (ei_ (4)), .int (ei_ (0)), .ref 1], m1)) rfl ?_
                        refine pw_call (As := [.int (ei_ (0)), .int (ei_ (4))]) (st := []) (k := 1) rfl rfl rfl rfl rfl (Nat.le_of_ble_eq_true rfl) ?_
                        refine cw_told4 (p0) (hs) (fun x33 g34 g35 => ?_)
                        refine pw_iret rfl rfl rfl ?_
                        refine pw_call (As := [.int (ei_ (a)), .int (ei_ (k)), .int (ei_ ((x30 + 1))), .int (ei_ (x33))]) (st := []) (k := 0) rfl rfl rfl rfl rfl (Nat.le_of_ble_eq_true rfl) ?_
                        refine cw_rate (p0) (p2) (hs) (by omega) (by omega) (by omega) (by omega) (fun x36 m137 g38 g39 g40 => ?_)
                        refine pw_steps 6 (s' := (136, [some (.ref 0), some (.int (ei_ (a))), some (.int (ei_ (b))), some (.int (ei_ (c))), some (.int (ei_ (bb))), some (.int (ei_ (f))), some (.int (ei_ (k))), some (.int (ei_ (0))), some (.int (ei_ ((x30 + 1)))), some (.int (ei_ (x36))), u11], [.int (ei_ (b)), .int (ei_ (x36)), .int (ei_ (a)), .ref 3], m137)) rfl ?_
                        refine pw_call (As := [.int (ei_ (a)), .int (ei_ (x36)), .int (ei_ (b))]) (st := []) (k := 3) rfl rfl rfl rfl rfl (Nat.le_of_ble_eq_true rfl) ?_
                        refine cw_leftBy (p1.2.1) (g39) (by omega) (by omega) (by omega) (fun x41 g42 g43 => ?_)
                        have e_ : x41 = gr_ m0 a b k := by
                          rw [g42, g38, g31, g34]; unfold gr_; first | (rw [if_pos (by omega)]; done) | (rw [if_neg (by omega)]; done)
                        refine pw_steps 3 (s' := (145, [some (.ref 0), some (.int (ei_ (a))), some (.int (ei_ (b))), some (.int (ei_ (c))), some (.int (ei_ (bb))), some (.int (ei_ (f))), some (.int (ei_ (k))), some (.int (ei_ (0))), some (.int (ei_ ((x30 + 1)))), some (.int (ei_ (x36))), some (.int (ei_ (x41)))], [.int (ei_ (f)), .int (ei_ (x41))], m137)) rfl ?_
                        refine pw_cmp rfl (by omega) (by omega) (fun (h44 : x41 ≤ f) => ?_) (fun (h44 : ¬ (x41 ≤ f)) => ?_)
                        · refine pw_steps 2 (s' := (39, [some (.ref 0), some (.int (ei_ (a))), some (.int (ei_ (b))), some (.int (ei_ (c))), some (.int (ei_ (bb))), some (.int (ei_ (f))), some (.int ((ei_ (k)) + (ei_ (1)))), some (.int (ei_ (0))), some (.int (ei_ ((x30 + 1)))), some (.int (ei_ (x36))), some (.int (ei_ (x41)))], [], m137)) rfl ?_
                          refine pw_cv (congrArg (fun z_ : Int32 => ((39, [some (.ref 0), some (.int (ei_ (a))), some (.int (ei_ (b))), some (.int (ei_ (c))), some (.int (ei_ (bb))), some (.int (ei_ (f))), some (.int z_), some (.int (ei_ (0))), some (.int (ei_ ((x30 + 1)))), some (.int (ei_ (x36))), some (.int (ei_ (x41)))], [], m137) : am_S)) (ei_add rfl rfl)) ?_
                          exact ih13 _ (by omega) bb f (k + 1) (some (.int (ei_ (0)))) (some (.int (ei_ ((x30 + 1))))) (some (.int (ei_ (x36)))) (some (.int (ei_ (x41)))) m137 rfl (by omega) (g39) (by have s_ := gf_s (m := m0) (a := a) (n := b) (k := k) (by omega); rw [if_neg (by omega)] at s_; rw [s_]; exact hv) (by have s_ := gf_s (m := m0) (a := a) (n := b) (k := k) (by omega); rw [if_neg (by omega)] at s_; rw [s_]; exact hb) (by intro h_; by_cases c_ : vi_ m0 4 a < k; (have t_ := hg c_; omega); omega)
                        · refine pw_steps 6 (s' := (39, [some (.ref 0), some (.int (ei_ (a))), some (.int (ei_ (b))), some (.int (ei_ (c))), some (.int (ei_ (k))), some (.int (ei_ (x41))), some (.int ((ei_ (k)) + (ei_ (1)))), some (.int (ei_ (0))), some (.int (ei_ ((x30 + 1)))), some (.int (ei_ (x36))), some (.int (ei_ (x41)))], [], m137)) rfl ?_
                          refine pw_cv (congrArg (fun z_ : Int32 => ((39, [some (.ref 0), some (.int (ei_ (a))), some (.int (ei_ (b))), some (.int (ei_ (c))), some (.int (ei_ (k))), some (.int (ei_ (x41))), some (.int z_), some (.int (ei_ (0))), some (.int (ei_ ((x30 + 1)))), some (.int (ei_ (x36))), some (.int (ei_ (x41)))], [], m137) : am_S)) (ei_add rfl rfl)) ?_
                          exact ih13 _ (by omega) k x41 (k + 1) (some (.int (ei_ (0)))) (some (.int (ei_ ((x30 + 1))))) (some (.int (ei_ (x36)))) (some (.int (ei_ (x41)))) m137 rfl (by omega) (g39) (by have s_ := gf_s (m := m0) (a := a) (n := b) (k := k) (by omega); rw [if_pos ⟨by omega, by omega⟩] at s_; rw [s_]; exact e_) (by have s_ := gf_s (m := m0) (a := a) (n := b) (k := k) (by omega); rw [if_pos ⟨by omega, by omega⟩] at s_; rw [s_]; exact Or.inr rfl) (by intro h_; by_cases c_ : vi_ m0 4 a < k; (have t_ := hg c_; omega); omega)
                    · refine pw_steps 4 (s' := (73, [some (.ref 0), some (.int (ei_ (a))), some (.int (ei_ (b))), some (.int (ei_ (c))), some (.int (ei_ (bb))), some (.int (ei_ (f))), some (.int (ei_ (k))), some (.int (ei_ (1))), u9, u10, u11], [.int (ei_ (1))], m1)) rfl ?_
                      refine pw_ifT rfl (by decide) (show ¬ 1 = 0 by decide) ?_
                      refine pw_steps 3 (s' := (94, [some (.ref 0), some (.int (ei_ (a))), some (.int (ei_ (b))), some (.int (ei_ (c))), some (.int (ei_ (bb))), some (.int (ei_ (f))), some (.int (ei_ (k))), some (.int (ei_ (1))), u9, u10, u11], [.int (ei_ (k)), .ref 3], m1)) rfl ?_
                      refine pw_call (As := [.int (ei_ (k))]) (st := []) (k := 3) rfl rfl rfl rfl rfl (Nat.le_of_ble_eq_true rfl) ?_
                      refine cw_worn (hs) (by omega) (fun x45 g46 g47 => ?_)
                      refine pw_steps 1 (s' := (99, [some (.ref 0), some (.int (ei_ (a))), some (.int (ei_ (b))), some (.int (ei_ (c))), some (.int (ei_ (bb))), some (.int (ei_ (f))), some (.int (ei_ (k))), some (.int (ei_ (1))), u9, u10, u11], [.int (ei_ (1)), .int (ei_ (x45))], m1)) rfl ?_
                      refine pw_ifF rfl (by decide) (show ¬ (1 = 0) by decide) ?_
                      refine pw_steps 10 (s' := (120, [some (.ref 0), some (.int (ei_ (a))), some (.int (ei_ (b))), some (.int (ei_ (c))), some (.int (ei_ (bb))), some (.int (ei_ (f))), some (.int (ei_ (k))), some (.int (ei_ (1))), some (.int ((ei_ (x45)) + (ei_ (0)))), u10, u11], [.ref 1, .int ((ei_ (x45)) + (ei_ (0))), .int (ei_ (k)), .int (ei_ (a)), .ref 0], m1)) rfl ?_
                      refine pw_cv (congrArg (fun z_ : Int32 => ((120, [some (.ref 0), some (.int (ei_ (a))), some (.int (ei_ (b))), some (.int (ei_ (c))), some (.int (ei_ (bb))), some (.int (ei_ (f))), some (.int (ei_ (k))), some (.int (ei_ (1))), some (.int z_), u10, u11], [.ref 1, .int z_, .int (ei_ (k)), .int (ei_ (a)), .ref 0], m1) : am_S)) (ei_add rfl rfl)) ?_
                      refine pw_call (As := []) (st := [.int (ei_ ((x45 + 0))), .int (ei_ (k)), .int (ei_ (a)), .ref 0]) (k := 1) rfl rfl rfl rfl rfl (Nat.le_of_ble_eq_true rfl) ?_
                      refine pw_intro (I := iX3_cold) (T := tX3_cold) rfl rfl rfl ?_
                      refine pw_steps 3 (s' := (3, [some (.ref 1)], [.int (ei_ (4)), .int (ei_ (0)), .ref 1], m1)) rfl ?_
                      refine pw_call (As := [.int (ei_ (0)), .int (ei_ (4))]) (st := []) (k := 1) rfl rfl rfl rfl rfl (Nat.le_of_ble_eq_true rfl) ?_
                      refine cw_told4 (p0) (hs) (fun x48 g49 g50 => ?_)
                      refine pw_iret rfl rfl rfl ?_
                      refine pw_call (As := [.int (ei_ (a)), .int (ei_ (k)), .int (ei_ ((x45 + 0))), .int (ei_ (x48))]) (st := []) (k := 0) rfl rfl rfl rfl rfl (Nat.le_of_ble_eq_true rfl) ?_
                      refine cw_rate (p0) (p2) (hs) (by omega) (by omega) (by omega) (by omega) (fun x51 m152 g53 g54 g55 => ?_)
                      refine pw_steps 6 (s' := (136, [some (.ref 0), some (.int (ei_ (a))), some (.int (ei_ (b))), some (.int (ei_ (c))), some (.int (ei_ (bb))), some (.int (ei_ (f))), some (.int (ei_ (k))), some (.int (ei_ (1))), some (.int (ei_ ((x45 + 0)))), some (.int (ei_ (x51))), u11], [.int (ei_ (b)), .int (ei_ (x51)), .int (ei_ (a)), .ref 3], m152)) rfl ?_
                      refine pw_call (As := [.int (ei_ (a)), .int (ei_ (x51)), .int (ei_ (b))]) (st := []) (k := 3) rfl rfl rfl rfl rfl (Nat.le_of_ble_eq_true rfl) ?_
                      refine cw_leftBy (p1.2.1) (g54) (by omega) (by omega) (by omega) (fun x56 g57 g58 => ?_)
                      have e_ : x56 = gr_ m0 a b k := by
                        rw [g57, g53, g46, g49]; unfold gr_; first | (rw [if_pos (by omega)]; done) | (rw [if_neg (by omega)]; done)
                      refine pw_steps 3 (s' := (145, [some (.ref 0), some (.int (ei_ (a))), some (.int (ei_ (b))), some (.int (ei_ (c))), some (.int (ei_ (bb))), some (.int (ei_ (f))), some (.int (ei_ (k))), some (.int (ei_ (1))), some (.int (ei_ ((x45 + 0)))), some (.int (ei_ (x51))), some (.int (ei_ (x56)))], [.int (ei_ (f)), .int (ei_ (x56))], m152)) rfl ?_
                      refine pw_cmp rfl (by omega) (by omega) (fun (h59 : x56 ≤ f) => ?_) (fun (h59 : ¬ (x56 ≤ f)) => ?_)
                      · refine pw_steps 2 (s' := (39, [some (.ref 0), some (.int (ei_ (a))), some (.int (ei_ (b))), some (.int (ei_ (c))), some (.int (ei_ (bb))), some (.int (ei_ (f))), some (.int ((ei_ (k)) + (ei_ (1)))), some (.int (ei_ (1))), some (.int (ei_ ((x45 + 0)))), some (.int (ei_ (x51))), some (.int (ei_ (x56)))], [], m152)) rfl ?_
                        refine pw_cv (congrArg (fun z_ : Int32 => ((39, [some (.ref 0), some (.int (ei_ (a))), some (.int (ei_ (b))), some (.int (ei_ (c))), some (.int (ei_ (bb))), some (.int (ei_ (f))), some (.int z_), some (.int (ei_ (1))), some (.int (ei_ ((x45 + 0)))), some (.int (ei_ (x51))), some (.int (ei_ (x56)))], [], m152) : am_S)) (ei_add rfl rfl)) ?_
                        exact ih13 _ (by omega) bb f (k + 1) (some (.int (ei_ (1)))) (some (.int (ei_ ((x45 + 0))))) (some (.int (ei_ (x51)))) (some (.int (ei_ (x56)))) m152 rfl (by omega) (g54) (by have s_ := gf_s (m := m0) (a := a) (n := b) (k := k) (by omega); rw [if_neg (by omega)] at s_; rw [s_]; exact hv) (by have s_ := gf_s (m := m0) (a := a) (n := b) (k := k) (by omega); rw [if_neg (by omega)] at s_; rw [s_]; exact hb) (by intro h_; by_cases c_ : vi_ m0 4 a < k; (have t_ := hg c_; omega); omega)
                      · refine pw_steps 6 (s' := (39, [some (.ref 0), some (.int (ei_ (a))), some (.int (ei_ (b))), some (.int (ei_ (c))), some (.int (ei_ (k))), some (.int (ei_ (x56))), some (.int ((ei_ (k)) + (ei_ (1)))), some (.int (ei_ (1))), some (.int (ei_ ((x45 + 0)))), some (.int (ei_ (x51))), some (.int (ei_ (x56)))], [], m152)) rfl ?_
                        refine pw_cv (congrArg (fun z_ : Int32 => ((39, [some (.ref 0), some (.int (ei_ (a))), some (.int (ei_ (b))), some (.int (ei_ (c))), some (.int (ei_ (k))), some (.int (ei_ (x56))), some (.int z_), some (.int (ei_ (1))), some (.int (ei_ ((x45 + 0)))), some (.int (ei_ (x51))), some (.int (ei_ (x56)))], [], m152) : am_S)) (ei_add rfl rfl)) ?_
                        exact ih13 _ (by omega) k x56 (k + 1) (some (.int (ei_ (1)))) (some (.int (ei_ ((x45 + 0))))) (some (.int (ei_ (x51)))) (some (.int (ei_ (x56)))) m152 rfl (by omega) (g54) (by have s_ := gf_s (m := m0) (a := a) (n := b) (k := k) (by omega); rw [if_pos ⟨by omega, by omega⟩] at s_; rw [s_]; exact e_) (by have s_ := gf_s (m := m0) (a := a) (n := b) (k := k) (by omega); rw [if_pos ⟨by omega, by omega⟩] at s_; rw [s_]; exact Or.inr rfl) (by intro h_; by_cases c_ : vi_ m0 4 a < k; (have t_ := hg c_; omega); omega)
              exact L14 _ (-2) (-1) 0 none none none none m rfl (by omega) (p4) (by rfl) (by exact Or.inl rfl) (by intro h_; omega)
            · refine pw_steps 1 (s' := (28, [some (.ref 0), some (.int (ei_ (a))), some (.int (ei_ (b))), some (.int (ei_ (c))), none, none, none, none, none, none, none], [.int (ei_ ((-1)))], m)) rfl ?_
              refine pw_iret rfl rfl rfl ?_
              exact k0 (-1) m (by unfold sg_; rw [if_neg (by omega)]) (p4)

set_option maxHeartbeats 4000000 in
set_option maxRecDepth 20000 in
theorem ms_give {q : am_X} {d : Nat} {m : am_M} {Q : Option Value → am_M → Prop} {m0 : am_M} {a : Int} {b : Int} {c : Int}  (p0 : rP_ m0) (p1 : rD_ m0) (p2 : rZ_ m0) (p3 : rL_ m0) (p4 : sm_ pSc m0 m) (p5 : -2147483648 ≤ a ∧ a < 2147483648) (p6 : -2147483648 ≤ b ∧ b < 2147483648) (p7 : -2147483648 ≤ c ∧ c < 2147483648) (k0 : ∀ (x : Int) (m1 : am_M), (x = sg_ m0 a b c) → (sm_ pSc m0 m1) → Q (some (.int (ei_ (x)))) m1) : pw_C q (d + 60) 216 [.ref 47, .int (ei_ (a)), .int (ei_ (b)), .int (ei_ (c))] m Q := by
  obtain ⟨hP1, hP2, hP3, hP4⟩ := id p0
  have hmw := mW_of p0 p1
  have hmf := mF_of p0 p1
  refine pw_intro (I := iX9_give) (T := tX9_give) rfl rfl rfl ?_
  refine pw_steps 3 (s' := (3, [some (.ref 47), some (.int (ei_ (a))), some (.int (ei_ (b))), some (.int (ei_ (c))), none, none, none, none], [.long ((ei_ (a)).toInt64), .ref 47], m)) rfl ?_
  refine pw_cv (congrArg (fun z_ : Int64 => ((3, [some (.ref 47), some (.int (ei_ (a))), some (.int (ei_ (b))), some (.int (ei_ (c))), none, none, none, none], [.long z_, .ref 47], m) : am_S)) (el_i2l p5 rfl)) ?_
  refine pw_call (As := [.long (el_ (a))]) (st := []) (k := 47) rfl rfl rfl rfl rfl (Nat.le_of_ble_eq_true rfl) ?_
  refine pw_intro (I := iX9_isOne) (T := tX9_isOne) rfl rfl rfl ?_
  refine pw_steps 3 (s' := (3, [some (.ref 47), some (.long (el_ (a))), none], [.ref 47, .long (el_ (0)), .long (el_ (a))], m)) rfl ?_
  refine pw_get rfl rfl (fun x1 (hx1 : x1 = vi_ m 47 6) rx1 sx1 => ?_)
  have ox1 := hx1
  replace hx1 : x1 = vi_ m0 47 6 := hx1.trans (sm_v p4 rfl)
  refine pw_steps 3 (s' := (9, [some (.ref 47), some (.long (el_ (a))), none], [.long (((ei_ (x1)) - (ei_ (1))).toInt64), .long (el_ (0)), .long (el_ (a))], m)) rfl ?_
  refine pw_cv (congrArg (fun z_ : Int64 => ((9, [some (.ref 47), some (.long (el_ (a))), none], [.long z_, .long (el_ (0)), .long (el_ (a))], m) : am_S)) (el_i2l (by omega) (ei_sub rfl rfl))) ?_
  refine pw_callS (As := [.long (el_ (a)), .long (el_ (0)), .long (el_ ((x1 - 1)))]) (st := []) rfl (by decide) rfl rfl (Nat.le_of_ble_eq_true rfl) ?_
  refine mt_within (by omega) (by omega) (by omega) (fun g2 g3 => ?_) (fun g4 => ?_) (fun g5 => ?_)
  · refine pw_iret rfl rfl rfl ?_
    refine pw_ifF rfl (by decide) (show ¬ (1 = 0) by decide) ?_
    refine pw_steps 1 (s' := (10, [some (.ref 47), some (.int (ei_ (a))), some (.int (ei_ (b))), some (.int (ei_ (c))), none, none, none, none], [.int (ei_ (b))], m)) rfl ?_
    refine pw_callS (As := [.int (ei_ (b))]) (st := []) rfl (by decide) rfl rfl (Nat.le_of_ble_eq_true rfl) ?_
    refine pw_intro (I := iX9_isN) (T := tX9_isN) rfl rfl rfl ?_
    refine pw_steps 4 (s' := (6, [some (.int (ei_ (b)))], [.long (el_ (99)), .long (el_ (0)), .long ((ei_ (b)).toInt64)], m)) rfl ?_
    refine pw_cv (congrArg (fun z_ : Int64 => ((6, [some (.int (ei_ (b)))], [.long (el_ (99)), .long (el_ (0)), .long z_], m) : am_S)) (el_i2l p6 rfl)) ?_
    refine pw_callS (As := [.long (el_ (b)), .long (el_ (0)), .long (el_ (99))]) (st := []) rfl (by decide) rfl rfl (Nat.le_of_ble_eq_true rfl) ?_
    refine mt_within (by omega) (by omega) (by omega) (fun g6 g7 => ?_) (fun g8 => ?_) (fun g9 => ?_)
    · refine pw_iret rfl rfl rfl ?_
      refine pw_ifF rfl (by decide) (show ¬ (1 = 0) by decide) ?_
      refine pw_steps 4 (s' := (20, [some (.ref 47), some (.int (ei_ (a))), some (.int (ei_ (b))), some (.int (ei_ (c))), none, none, none, none], [.long (el_ (1)), .long (el_ (0)), .long ((ei_ (c)).toInt64)], m)) rfl ?_
      refine pw_cv (congrArg (fun z_ : Int64 => ((20, [some (.ref 47), some (.int (ei_ (a))), some (.int (ei_ (b))), some (.int (ei_ (c))), none, none, none, none], [.long (el_ (1)), .long (el_ (0)), .long z_], m) : am_S)) (el_i2l p7 rfl)) ?_
      refine pw_callS (As := [.long (el_ (c)), .long (el_ (0)), .long (el_ (1))]) (st := []) rfl (by decide) rfl rfl (Nat.le_of_ble_eq_true rfl) ?_
      refine mt_within (by omega) (by omega) (by omega) (fun g10 g11 => ?_) (fun g12 => ?_) (fun g13 => ?_)
      · refine pw_ifT rfl (by decide) (show ¬ 1 = 0 by decide) ?_
        have hw4_ := p1.1 a (by omega) (by omega)
        refine pw_steps 3 (s' := (33, [some (.ref 47), some (.int (ei_ (a))), some (.int (ei_ (b))), some (.int (ei_ (c))), none, none, none, none], [.int (ei_ (a)), .ref 52], m)) rfl ?_
        refine pw_ild rfl rfl (by omega) (fun x14 (hx14 : x14 = vi_ m 52 a) rx14 sx14 => ?_)
        have ox14 := hx14
        replace hx14 : x14 = vi_ m0 52 a := hx14.trans (sm_v p4 rfl)
        have b15 := hmw a (by omega) (by omega)
        have b15b := (p1.2.2.1 a (by omega) (by omega)).1
        refine pw_steps 7 (s' := (45, [some (.ref 47), some (.int (ei_ (a))), some (.int (ei_ (b))), some (.int (ei_ (c))), some (.int (ei_ (x14))), some (.int (ei_ ((-1)))), some (.int (ei_ ((-1)))), some (.int (ei_ (0)))], [], m)) rfl ?_
        have L18 : ∀ (n16 : Nat) (bb : Int) (f : Int) (k : Int) (m1 : am_M), (vi_ m0 1 1 - k).toNat = n16 → (0 ≤ k ∧ k ≤ vi_ m0 1 1 ∧ -2 ≤ bb ∧ bb ≤ 8 ∧ -1 ≤ f ∧ f ≤ 999) → (sm_ pSc m0 m1) → (f = (gf_ m0 a b k.toNat).2) → (f = -1 ∨ bb = (gf_ m0 a b k.toNat).1) → (vi_ m0 4 a < k → 0 ≤ f) → pw_V q (d + 59) iX9_give.2.2.2.1 tX9_give Q (45, [some (.ref 47), some (.int (ei_ (a))), some (.int (ei_ (b))), some (.int (ei_ (c))), some (.int (ei_ (x14))), some (.int (ei_ (bb))), some (.int (ei_ (f))), some (.int (ei_ (k)))], [], m1) := by
          intro n16
          induction n16 using Nat.strongRecOn with
          | _ n16 ih17 =>
            intro bb f k m1 hm_n16 v19 hs hv hb hg
            refine pw_steps 2 (s' := (48, [some (.ref 47), some (.int (ei_ (a))), some (.int (ei_ (b))), some (.int (ei_ (c))), some (.int (ei_ (x14))), some (.int (ei_ (bb))), some (.int (ei_ (f))), some (.int (ei_ (k)))], [.ref 47, .int (ei_ (k))], m1)) rfl ?_
            refine pw_get rfl rfl (fun x20 (hx20 : x20 = vi_ m1 47 6) rx20 sx20 => ?_)
            have ox20 := hx20
            replace hx20 : x20 = vi_ m0 47 6 := hx20.trans (sm_v hs rfl)
            refine pw_cmp rfl (by omega) ⟨rx20, sx20⟩ (fun (h21 : x20 ≤ k) => ?_) (fun (h21 : ¬ (x20 ≤ k)) => ?_)
            · refine pw_steps 1 (s' := (149, [some (.ref 47), some (.int (ei_ (a))), some (.int (ei_ (b))), some (.int (ei_ (c))), some (.int (ei_ (x14))), some (.int (ei_ (bb))), some (.int (ei_ (f))), some (.int (ei_ (k)))], [.int (ei_ (c))], m1)) rfl ?_
              refine pw_if rfl p7 (fun (h22 : ¬ c = 0) => ?_) (fun (h22 : ¬ ¬ c = 0) => ?_)
              · refine pw_steps 1 (s' := (159, [some (.ref 47), some (.int (ei_ (a))), some (.int (ei_ (b))), some (.int (ei_ (c))), some (.int (ei_ (x14))), some (.int (ei_ (bb))), some (.int (ei_ (f))), some (.int (ei_ (k)))], [.int (ei_ (f))], m1)) rfl ?_
                refine pw_iret rfl rfl rfl ?_
                exact k0 f m1 (by have hk_ : k = vi_ m0 1 1 := (by omega); unfold sg_; rw [if_pos (by omega), ← hk_]; first | (rw [if_pos (by omega)]; rcases hb with hb | hb; (exfalso; have t_ := hg (by omega); omega); exact hb) | (rw [if_neg (by omega)]; exact hv)) (hs)
              · refine pw_steps 2 (s' := (159, [some (.ref 47), some (.int (ei_ (a))), some (.int (ei_ (b))), some (.int (ei_ (c))), some (.int (ei_ (x14))), some (.int (ei_ (bb))), some (.int (ei_ (f))), some (.int (ei_ (k)))], [.int (ei_ (bb))], m1)) rfl ?_
                refine pw_iret rfl rfl rfl ?_
                exact k0 bb m1 (by have hk_ : k = vi_ m0 1 1 := (by omega); unfold sg_; rw [if_pos (by omega), ← hk_]; first | (rw [if_pos (by omega)]; rcases hb with hb | hb; (exfalso; have t_ := hg (by omega); omega); exact hb) | (rw [if_neg (by omega)]; exact hv)) (hs)
            · refine pw_steps 2 (s' := (58, [some (.ref 47), some (.int (ei_ (a))), some (.int (ei_ (b))), some (.int (ei_ (c))), some (.int (ei_ (x14))), some (.int (ei_ (bb))), some (.int (ei_ (f))), some (.int (ei_ (k)))], [.int (ei_ (x14)), .int (ei_ (k))], m1)) rfl ?_
              refine pw_cmp rfl (by omega) ⟨rx14, sx14⟩ (fun (h23 : k = x14) => ?_) (fun (h23 : ¬ (k = x14)) => ?_)
              · refine pw_steps 4 (s' := (84, [some (.ref 47), some (.int (ei_ (a))), some (.int (ei_ (b))), some (.int (ei_ (c))), some (.int (ei_ (x14))), some (.int (ei_ (bb))), some (.int (ei_ (f))), some (.int (ei_ (k)))], [.int (ei_ (k)), .int (ei_ (a)), .ref 52], m1)) rfl ?_
                refine pw_ist rfl rfl (by omega) ?_
                refine pw_steps 2 (s' := (87, [some (.ref 47), some (.int (ei_ (a))), some (.int (ei_ (b))), some (.int (ei_ (c))), some (.int (ei_ (x14))), some (.int (ei_ (bb))), some (.int (ei_ (f))), some (.int (ei_ (k)))], [.int (ei_ (b)), .ref 47], wi_ m1 52 (a) (k))) rfl ?_
                refine pw_call (As := [.int (ei_ (b))]) (st := []) (k := 47) rfl rfl rfl rfl rfl (Nat.le_of_ble_eq_true rfl) ?_
                refine md_goes (rP_fr (P := pSw) (sm_w (sm_le hs pSc_Sw) (fun _ _ => rfl)) rfl rfl (fun _ => rfl) (fun _ => rfl) p0) (mW_set hmw hs (by omega) (by omega) ⟨by omega, by omega⟩) (sm_rfl _) (rL_fr (P := pSw) (sm_w (sm_le hs pSc_Sw) (fun _ _ => rfl)) rfl rfl (fun _ => rfl) (fun _ => rfl) p3) (fun j_ a_ b_ => by rw [vi_ne (by decide), sm_f hs (k := 53) (fun _ => rfl)]; exact hmf j_ a_ (by rw [← show vi_ (wi_ m1 52 a k) 1 1 = vi_ m0 1 1 from (vi_ne (by decide)).trans (sm_v hs rfl)]; exact b_)) (by omega) (fun m124 g25 g26 => ?_)
                have e0_ := g26 a (by omega) (by rw [show vi_ (wi_ m1 52 a k) 1 1 = vi_ m0 1 1 from (vi_ne (by decide)).trans (sm_v hs rfl)]; omega)
                rw [gr_bn p0 p1 hs ⟨by omega, by omega⟩ ⟨by omega, by omega⟩] at e0_
                have er_ := lf_b (l := vi_ m0 5 a) (r := rt_ m0 k a (cn_ (vi_ m0 4) k 8 + (if vi_ m0 4 a = k then 0 else 1)) (vi_ m0 2 32)) (n := b) (p1.2.1 a (by omega) (by omega)).1 (rt_b _ _ _ _ _).1 (by omega)
                have eq_ := (p1.2.1 a (by omega) (by omega)).2.1
                have e9_ : 0 ≤ gr_ m0 a b k ∧ gr_ m0 a b k ≤ 999 := by unfold gr_; omega
                refine pw_steps 4 (s' := (97, [some (.ref 47), some (.int (ei_ (a))), some (.int (ei_ (b))), some (.int (ei_ (c))), some (.int (ei_ (x14))), some (.int (ei_ (bb))), some (.int (ei_ (f))), some (.int (ei_ (k)))], [.int (ei_ (x14)), .int (ei_ (a)), .ref 52], m124)) rfl ?_
                refine pw_ist rfl rfl (by omega) ?_
                refine pw_steps 3 (s' := (103, [some (.ref 47), some (.int (ei_ (a))), some (.int (ei_ (b))), some (.int (ei_ (c))), some (.int (ei_ (x14))), some (.int (ei_ (bb))), some (.int (ei_ (f))), some (.int (ei_ (k)))], [.int (ei_ (a)), .ref 57], wi_ m124 52 (a) (x14))) rfl ?_
                refine pw_ild rfl rfl (by omega) (fun x27 (hx27 : x27 = vi_ m124 57 a) rx27 sx27 => ?_)
                refine pw_steps 1 (s' := (106, [some (.ref 47), some (.int (ei_ (a))), some (.int (ei_ (b))), some (.int (ei_ (c))), some (.int (ei_ (x14))), some (.int (ei_ (bb))), some (.int (ei_ (f))), some (.int (ei_ (k)))], [.int (ei_ (f)), .int (ei_ (x27))], wi_ m124 52 (a) (x14))) rfl ?_
                refine pw_cmp rfl ⟨rx27, sx27⟩ (by omega) (fun (h28 : x27 ≤ f) => ?_) (fun (h28 : ¬ (x27 ≤ f)) => ?_)
                · refine pw_steps 5 (s' := (123, [some (.ref 47), some (.int (ei_ (a))), some (.int (ei_ (b))), some (.int (ei_ (c))), some (.int (ei_ (x14))), some (.int (ei_ (bb))), some (.int (ei_ (f))), some (.int (ei_ (k)))], [.int (ei_ (a)), .ref 57], wi_ m124 52 (a) (x14))) rfl ?_
                  refine pw_ildE (x := x27) rfl rfl (by omega) hx27 ?_
                  refine pw_steps 1 (s' := (126, [some (.ref 47), some (.int (ei_ (a))), some (.int (ei_ (b))), some (.int (ei_ (c))), some (.int (ei_ (x14))), some (.int (ei_ (bb))), some (.int (ei_ (f))), some (.int (ei_ (k)))], [.int (ei_ (f)), .int (ei_ (x27))], wi_ m124 52 (a) (x14))) rfl ?_
                  refine pw_cmpT rfl ⟨rx27, sx27⟩ (by omega) (show x27 ≤ f by omega) ?_
                  refine pw_steps 4 (s' := (45, [some (.ref 47), some (.int (ei_ (a))), some (.int (ei_ (b))), some (.int (ei_ (c))), some (.int (ei_ (x14))), some (.int (ei_ (bb))), some (.int (ei_ (f))), some (.int ((ei_ (k)) + (ei_ (1))))], [], wi_ m124 52 (a) (x14))) rfl ?_
                  refine pw_cv (congrArg (fun z_ : Int32 => ((45, [some (.ref 47), some (.int (ei_ (a))), some (.int (ei_ (b))), some (.int (ei_ (c))), some (.int (ei_ (x14))), some (.int (ei_ (bb))), some (.int (ei_ (f))), some (.int z_)], [], wi_ m124 52 (a) (x14)) : am_S)) (ei_add rfl rfl)) ?_
                  exact ih17 _ (by omega) bb f (k + 1) (wi_ m124 52 (a) (x14)) rfl (by omega) (by exact sm_res hs g25 (by omega)) (by have s_ := gf_s (m := m0) (a := a) (n := b) (k := k) (by omega); rw [if_neg (by omega)] at s_; rw [s_]; exact hv) (by have s_ := gf_s (m := m0) (a := a) (n := b) (k := k) (by omega); rw [if_neg (by omega)] at s_; rw [s_]; exact hb) (by intro h_; by_cases c_ : vi_ m0 4 a < k; (have t_ := hg c_; omega); omega)
                · refine pw_steps 6 (s' := (123, [some (.ref 47), some (.int (ei_ (a))), some (.int (ei_ (b))), some (.int (ei_ (c))), some (.int (ei_ (x14))), some (.int (ei_ (k))), some (.int (ei_ (f))), some (.int (ei_ (k)))], [.int (ei_ (a)), .ref 57], wi_ m124 52 (a) (x14))) rfl ?_
                  refine pw_ildE (x := x27) rfl rfl (by omega) hx27 ?_
                  refine pw_steps 1 (s' := (126, [some (.ref 47), some (.int (ei_ (a))), some (.int (ei_ (b))), some (.int (ei_ (c))), some (.int (ei_ (x14))), some (.int (ei_ (k))), some (.int (ei_ (f))), some (.int (ei_ (k)))], [.int (ei_ (f)), .int (ei_ (x27))], wi_ m124 52 (a) (x14))) rfl ?_
                  refine pw_cmpF rfl ⟨rx27, sx27⟩ (by omega) (show ¬ (x27 ≤ f) by omega) ?_
                  refine pw_steps 3 (s' := (134, [some (.ref 47), some (.int (ei_ (a))), some (.int (ei_ (b))), some (.int (ei_ (c))), some (.int (ei_ (x14))), some (.int (ei_ (k))), some (.int (ei_ (f))), some (.int (ei_ (k)))], [.int (ei_ (a)), .ref 57], wi_ m124 52 (a) (x14))) rfl ?_
                  refine pw_ildE (x := x27) rfl rfl (by omega) hx27 ?_
                  refine pw_steps 4 (s' := (45, [some (.ref 47), some (.int (ei_ (a))), some (.int (ei_ (b))), some (.int (ei_ (c))), some (.int (ei_ (x14))), some (.int (ei_ (k))), some (.int (ei_ (x27))), some (.int ((ei_ (k)) + (ei_ (1))))], [], wi_ m124 52 (a) (x14))) rfl ?_
                  refine pw_cv (congrArg (fun z_ : Int32 => ((45, [some (.ref 47), some (.int (ei_ (a))), some (.int (ei_ (b))), some (.int (ei_ (c))), some (.int (ei_ (x14))), some (.int (ei_ (k))), some (.int (ei_ (x27))), some (.int z_)], [], wi_ m124 52 (a) (x14)) : am_S)) (ei_add rfl rfl)) ?_
                  exact ih17 _ (by omega) k x27 (k + 1) (wi_ m124 52 (a) (x14)) rfl (by omega) (by exact sm_res hs g25 (by omega)) (by have s_ := gf_s (m := m0) (a := a) (n := b) (k := k) (by omega); rw [if_pos ⟨by omega, by omega⟩] at s_; rw [s_]; show _ = gr_ m0 a b k; omega) (by have s_ := gf_s (m := m0) (a := a) (n := b) (k := k) (by omega); rw [if_pos ⟨by omega, by omega⟩] at s_; rw [s_]; exact Or.inr rfl) (by intro h_; by_cases c_ : vi_ m0 4 a < k; (have t_ := hg c_; omega); omega)
              · refine pw_steps 2 (s' := (64, [some (.ref 47), some (.int (ei_ (a))), some (.int (ei_ (b))), some (.int (ei_ (c))), some (.int (ei_ (x14))), some (.int (ei_ (bb))), some (.int (ei_ (f))), some (.int (ei_ (k)))], [.int (ei_ (k)), .ref 47], m1)) rfl ?_
                refine pw_call (As := [.int (ei_ (k))]) (st := []) (k := 47) rfl rfl rfl rfl rfl (Nat.le_of_ble_eq_true rfl) ?_
                refine mw_many (p0) (hs) (by omega) (fun x29 g30 g31 => ?_)
                rw [cn_mc p0 p1 (v := k) ⟨by omega, by omega⟩] at g30
                refine pw_steps 3 (s' := (71, [some (.ref 47), some (.int (ei_ (a))), some (.int (ei_ (b))), some (.int (ei_ (c))), some (.int (ei_ (x14))), some (.int (ei_ (bb))), some (.int (ei_ (f))), some (.int (ei_ (k)))], [.int (ei_ (2)), .int (ei_ (k)), .ref 47, .int (ei_ (x29))], m1)) rfl ?_
                refine pw_call (As := [.int (ei_ (k)), .int (ei_ (2))]) (st := [.int (ei_ (x29))]) (k := 47) rfl rfl rfl rfl rfl (Nat.le_of_ble_eq_true rfl) ?_
                refine pw_intro (I := iX9_ofOne) (T := tX9_ofOne) rfl rfl rfl ?_
                refine pw_steps 7 (s' := (10, [some (.ref 47), some (.int (ei_ (k))), some (.int (ei_ (2)))], [.int (((ei_ (8)) * (ei_ (2))) + (ei_ (k))), .ref 48], m1)) rfl ?_
                refine pw_cv (congrArg (fun z_ : Int32 => ((10, [some (.ref 47), some (.int (ei_ (k))), some (.int (ei_ (2)))], [.int z_, .ref 48], m1) : am_S)) (ei_add (ei_mul rfl rfl) rfl)) ?_
                refine pw_ild rfl rfl (by omega) (fun x32 (hx32 : x32 = vi_ m1 48 (16 + k)) rx32 sx32 => ?_)
                have ox32 := hx32
                replace hx32 : x32 = vi_ m0 48 (16 + k) := hx32.trans (sm_v hs rfl)
                have b33 := hP3 (16 + k) (by omega) (by omega)
                rw [b33.2.2] at hx32
                try rw [Int.zero_add] at hx32 b33
                refine pw_iret rfl rfl rfl ?_
                refine pw_cmp rfl (by omega) ⟨rx32, sx32⟩ (fun (h34 : x32 ≤ x29) => ?_) (fun (h34 : ¬ (x32 ≤ x29)) => ?_)
                · refine pw_steps 2 (s' := (45, [some (.ref 47), some (.int (ei_ (a))), some (.int (ei_ (b))), some (.int (ei_ (c))), some (.int (ei_ (x14))), some (.int (ei_ (bb))), some (.int (ei_ (f))), some (.int ((ei_ (k)) + (ei_ (1))))], [], m1)) rfl ?_
                  refine pw_cv (congrArg (fun z_ : Int32 => ((45, [some (.ref 47), some (.int (ei_ (a))), some (.int (ei_ (b))), some (.int (ei_ (c))), some (.int (ei_ (x14))), some (.int (ei_ (bb))), some (.int (ei_ (f))), some (.int z_)], [], m1) : am_S)) (ei_add rfl rfl)) ?_
                  exact ih17 _ (by omega) bb f (k + 1) m1 rfl (by omega) (by exact hs) (by have s_ := gf_s (m := m0) (a := a) (n := b) (k := k) (by omega); rw [if_neg (by omega)] at s_; rw [s_]; exact hv) (by have s_ := gf_s (m := m0) (a := a) (n := b) (k := k) (by omega); rw [if_neg (by omega)] at s_; rw [s_]; exact hb) (by intro h_; by_cases c_ : vi_ m0 4 a < k; (have t_ := hg c_; omega); omega)
                · refine pw_steps 4 (s' := (84, [some (.ref 47), some (.int (ei_ (a))), some (.int (ei_ (b))), some (.int (ei_ (c))), some (.int (ei_ (x14))), some (.int (ei_ (bb))), some (.int (ei_ (f))), some (.int (ei_ (k)))], [.int (ei_ (k)), .int (ei_ (a)), .ref 52], m1)) rfl ?_
                  refine pw_ist rfl rfl (by omega) ?_
                  refine pw_steps 2 (s' := (87, [some (.ref 47), some (.int (ei_ (a))), some (.int (ei_ (b))), some (.int (ei_ (c))), some (.int (ei_ (x14))), some (.int (ei_ (bb))), some (.int (ei_ (f))), some (.int (ei_ (k)))], [.int (ei_ (b)), .ref 47], wi_ m1 52 (a) (k))) rfl ?_
                  refine pw_call (As := [.int (ei_ (b))]) (st := []) (k := 47) rfl rfl rfl rfl rfl (Nat.le_of_ble_eq_true rfl) ?_
                  refine md_goes (rP_fr (P := pSw) (sm_w (sm_le hs pSc_Sw) (fun _ _ => rfl)) rfl rfl (fun _ => rfl) (fun _ => rfl) p0) (mW_set hmw hs (by omega) (by omega) ⟨by omega, by omega⟩) (sm_rfl _) (rL_fr (P := pSw) (sm_w (sm_le hs pSc_Sw) (fun _ _ => rfl)) rfl rfl (fun _ => rfl) (fun _ => rfl) p3) (fun j_ a_ b_ => by rw [vi_ne (by decide), sm_f hs (k := 53) (fun _ => rfl)]; exact hmf j_ a_ (by rw [← show vi_ (wi_ m1 52 a k) 1 1 = vi_ m0 1 1 from (vi_ne (by decide)).trans (sm_v hs rfl)]; exact b_)) (by omega) (fun m135 g36 g37 => ?_)
                  have e0_ := g37 a (by omega) (by rw [show vi_ (wi_ m1 52 a k) 1 1 = vi_ m0 1 1 from (vi_ne (by decide)).trans (sm_v hs rfl)]; omega)
                  rw [gr_bn p0 p1 hs ⟨by omega, by omega⟩ ⟨by omega, by omega⟩] at e0_
                  have er_ := lf_b (l := vi_ m0 5 a) (r := rt_ m0 k a (cn_ (vi_ m0 4) k 8 + (if vi_ m0 4 a = k then 0 else 1)) (vi_ m0 2 32)) (n := b) (p1.2.1 a (by omega) (by omega)).1 (rt_b _ _ _ _ _).1 (by omega)
                  have eq_ := (p1.2.1 a (by omega) (by omega)).2.1
                  have e9_ : 0 ≤ gr_ m0 a b k ∧ gr_ m0 a b k ≤ 999 := by unfold gr_; omega
                  refine pw_steps 4 (s' := (97, [some (.ref 47), some (.int (ei_ (a))), some (.int (ei_ (b))), some (.int (ei_ (c))), some (.int (ei_ (x14))), some (.int (ei_ (bb))), some (.int (ei_ (f))), some (.int (ei_ (k)))], [.int (ei_ (x14)), .int (ei_ (a)), .ref 52], m135)) rfl ?_
                  refine pw_ist rfl rfl (by omega) ?_
                  refine pw_steps 3 (s' := (103, [some (.ref 47), some (.int (ei_ (a))), some (.int (ei_ (b))), some (.int (ei_ (c))), some (.int (ei_ (x14))), some (.int (ei_ (bb))), some (.int (ei_ (f))), some (.int (ei_ (k)))], [.int (ei_ (a)), .ref 57], wi_ m135 52 (a) (x14))) rfl ?_
                  refine pw_ild rfl rfl (by omega) (fun x38 (hx38 : x38 = vi_ m135 57 a) rx38 sx38 => ?_)
                  refine pw_steps 1 (s' := (106, [some (.ref 47), some (.int (ei_ (a))), some (.int (ei_ (b))), some (.int (ei_ (c))), some (.int (ei_ (x14))), some (.int (ei_ (bb))), some (.int (ei_ (f))), some (.int (ei_ (k)))], [.int (ei_ (f)), .int (ei_ (x38))], wi_ m135 52 (a) (x14))) rfl ?_
                  refine pw_cmp rfl ⟨rx38, sx38⟩ (by omega) (fun (h39 : x38 ≤ f) => ?_) (fun (h39 : ¬ (x38 ≤ f)) => ?_)
                  · refine pw_steps 5 (s' := (123, [some (.ref 47), some (.int (ei_ (a))), some (.int (ei_ (b))), some (.int (ei_ (c))), some (.int (ei_ (x14))), some (.int (ei_ (bb))), some (.int (ei_ (f))), some (.int (ei_ (k)))], [.int (ei_ (a)), .ref 57], wi_ m135 52 (a) (x14))) rfl ?_
                    refine pw_ildE (x := x38) rfl rfl (by omega) hx38 ?_
                    refine pw_steps 1 (s' := (126, [some (.ref 47), some (.int (ei_ (a))), some (.int (ei_ (b))), some (.int (ei_ (c))), some (.int (ei_ (x14))), some (.int (ei_ (bb))), some (.int (ei_ (f))), some (.int (ei_ (k)))], [.int (ei_ (f)), .int (ei_ (x38))], wi_ m135 52 (a) (x14))) rfl ?_
                    refine pw_cmpT rfl ⟨rx38, sx38⟩ (by omega) (show x38 ≤ f by omega) ?_
                    refine pw_steps 4 (s' := (45, [some (.ref 47), some (.int (ei_ (a))), some (.int (ei_ (b))), some (.int (ei_ (c))), some (.int (ei_ (x14))), some (.int (ei_ (bb))), some (.int (ei_ (f))), some (.int ((ei_ (k)) + (ei_ (1))))], [], wi_ m135 52 (a) (x14))) rfl ?_
                    refine pw_cv (congrArg (fun z_ : Int32 => ((45, [some (.ref 47), some (.int (ei_ (a))), some (.int (ei_ (b))), some (.int (ei_ (c))), some (.int (ei_ (x14))), some (.int (ei_ (bb))), some (.int (ei_ (f))), some (.int z_)], [], wi_ m135 52 (a) (x14)) : am_S)) (ei_add rfl rfl)) ?_
                    exact ih17 _ (by omega) bb f (k + 1) (wi_ m135 52 (a) (x14)) rfl (by omega) (by exact sm_res hs g36 (by omega)) (by have s_ := gf_s (m := m0) (a := a) (n := b) (k := k) (by omega); rw [if_neg (by omega)] at s_; rw [s_]; exact hv) (by have s_ := gf_s (m := m0) (a := a) (n := b) (k := k) (by omega); rw [if_neg (by omega)] at s_; rw [s_]; exact hb) (by intro h_; by_cases c_ : vi_ m0 4 a < k; (have t_ := hg c_; omega); omega)
                  · refine pw_steps 6 (s' := (123, [some (.ref 47), some (.int (ei_ (a))), some (.int (ei_ (b))), some (.int (ei_ (c))), some (.int (ei_ (x14))), some (.int (ei_ (k))), some (.int (ei_ (f))), some (.int (ei_ (k)))], [.int (ei_ (a)), .ref 57], wi_ m135 52 (a) (x14))) rfl ?_
                    refine pw_ildE (x := x38) rfl rfl (by omega) hx38 ?_
                    refine pw_steps 1 (s' := (126, [some (.ref 47), some (.int (ei_ (a))), some (.int (ei_ (b))), some (.int (ei_ (c))), some (.int (ei_ (x14))), some (.int (ei_ (k))), some (.int (ei_ (f))), some (.int (ei_ (k)))], [.int (ei_ (f)), .int (ei_ (x38))], wi_ m135 52 (a) (x14))) rfl ?_
                    refine pw_cmpF rfl ⟨rx38, sx38⟩ (by omega) (show ¬ (x38 ≤ f) by omega) ?_
                    refine pw_steps 3 (s' := (134, [some (.ref 47), some (.int (ei_ (a))), some (.int (ei_ (b))), some (.int (ei_ (c))), some (.int (ei_ (x14))), some (.int (ei_ (k))), some (.int (ei_ (f))), some (.int (ei_ (k)))], [.int (ei_ (a)), .ref 57], wi_ m135 52 (a) (x14))) rfl ?_
                    refine pw_ildE (x := x38) rfl rfl (by omega) hx38 ?_
                    refine pw_steps 4 (s' := (45, [some (.ref 47), some (.int (ei_ (a))), some (.int (ei_ (b))), some (.int (ei_ (c))), some (.int (ei_ (x14))), some (.int (ei_ (k))), some (.int (ei_ (x38))), some (.int ((ei_ (k)) + (ei_ (1))))], [], wi_ m135 52 (a) (x14))) rfl ?_
                    refine pw_cv (congrArg (fun z_ : Int32 => ((45, [some (.ref 47), some (.int (ei_ (a))), some (.int (ei_ (b))), some (.int (ei_ (c))), some (.int (ei_ (x14))), some (.int (ei_ (k))), some (.int (ei_ (x38))), some (.int z_)], [], wi_ m135 52 (a) (x14)) : am_S)) (ei_add rfl rfl)) ?_
                    exact ih17 _ (by omega) k x38 (k + 1) (wi_ m135 52 (a) (x14)) rfl (by omega) (by exact sm_res hs g36 (by omega)) (by have s_ := gf_s (m := m0) (a := a) (n := b) (k := k) (by omega); rw [if_pos ⟨by omega, by omega⟩] at s_; rw [s_]; show _ = gr_ m0 a b k; omega) (by have s_ := gf_s (m := m0) (a := a) (n := b) (k := k) (by omega); rw [if_pos ⟨by omega, by omega⟩] at s_; rw [s_]; exact Or.inr rfl) (by intro h_; by_cases c_ : vi_ m0 4 a < k; (have t_ := hg c_; omega); omega)
        exact L18 _ (-1) (-1) 0 m rfl (by omega) (p4) (by rfl) (by exact Or.inl rfl) (by intro h_; omega)
      · refine pw_ifF rfl (by decide) (show ¬ (¬ 0 = 0) by decide) ?_
        refine pw_steps 1 (s' := (27, [some (.ref 47), some (.int (ei_ (a))), some (.int (ei_ (b))), some (.int (ei_ (c))), none, none, none, none], [.int (ei_ ((-1)))], m)) rfl ?_
        refine pw_iret rfl rfl rfl ?_
        exact k0 (-1) m (by unfold sg_; rw [if_neg (by omega)]) (p4)
      · refine pw_ifF rfl (by decide) (show ¬ (¬ 0 = 0) by decide) ?_
        refine pw_steps 1 (s' := (27, [some (.ref 47), some (.int (ei_ (a))), some (.int (ei_ (b))), some (.int (ei_ (c))), none, none, none, none], [.int (ei_ ((-1)))], m)) rfl ?_
        refine pw_iret rfl rfl rfl ?_
        exact k0 (-1) m (by unfold sg_; rw [if_neg (by omega)]) (p4)
    · refine pw_iret rfl rfl rfl ?_
      refine pw_ifT rfl (by decide) (show 0 = 0 by decide) ?_
      refine pw_steps 1 (s' := (27, [some (.ref 47), some (.int (ei_ (a))), some (.int (ei_ (b))), some (.int (ei_ (c))), none, none, none, none], [.int (ei_ ((-1)))], m)) rfl ?_
      refine pw_iret rfl rfl rfl ?_
      exact k0 (-1) m (by unfold sg_; rw [if_neg (by omega)]) (p4)
    · refine pw_iret rfl rfl rfl ?_
      refine pw_ifT rfl (by decide) (show 0 = 0 by decide) ?_
      refine pw_steps 1 (s' := (27, [some (.ref 47), some (.int (ei_ (a))), some (.int (ei_ (b))), some (.int (ei_ (c))), none, none, none, none], [.int (ei_ ((-1)))], m)) rfl ?_
      refine pw_iret rfl rfl rfl ?_
      exact k0 (-1) m (by unfold sg_; rw [if_neg (by omega)]) (p4)
  · refine pw_iret rfl rfl rfl ?_
    refine pw_ifT rfl (by decide) (show 0 = 0 by decide) ?_
    refine pw_steps 1 (s' := (27, [some (.ref 47), some (.int (ei_ (a))), some (.int (ei_ (b))), some (.int (ei_ (c))), none, none, none, none], [.int (ei_ ((-1)))], m)) rfl ?_
    refine pw_iret rfl rfl rfl ?_
    exact k0 (-1) m (by unfold sg_; rw [if_neg (by omega)]) (p4)
  · refine pw_iret rfl rfl rfl ?_
    refine pw_ifT rfl (by decide) (show 0 = 0 by decide) ?_
    refine pw_steps 1 (s' := (27, [some (.ref 47), some (.int (ei_ (a))), some (.int (ei_ (b))), some (.int (ei_ (c))), none, none, none, none], [.int (ei_ ((-1)))], m)) rfl ?_
    refine pw_iret rfl rfl rfl ?_
    exact k0 (-1) m (by unfold sg_; rw [if_neg (by omega)]) (p4)

theorem op_give {q : am_X} {d : Nat} {m : am_M} {a : Int} {b : Int} {c : Int} (q0 : -2147483648 ≤ a ∧ a < 2147483648) (q1 : -2147483648 ≤ b ∧ b < 2147483648) (q2 : -2147483648 ≤ c ∧ c < 2147483648) (hR : rR_ m) : pw_C q (d + 60) 64 [.ref 0, .int (ei_ a), .int (ei_ b), .int (ei_ c)] m (fun r1 m1 => pw_C q (d + 60) 216 [.ref 47, .int (ei_ a), .int (ei_ b), .int (ei_ c)] m1 (fun r2 m2 => ∃ x : Int, r1 = some (.int (ei_ x)) ∧ r2 = some (.int (ei_ x)) ∧ rR_ m2)) := by
  obtain ⟨hp, hd, hi, ht, hl, hz, hc, ha, hs⟩ := id hR
  refine cs_give hp hd hz hl (sm_rfl m) q0 q1 q2 (fun x m1 e1 g1 => ?_)
  refine ms_give hp hd hz hl g1 q0 q1 q2 (fun y m2 e2 g2 => ?_)
  exact ⟨x, rfl, by rw [e2, ← e1], rR_sm g2 hR⟩

