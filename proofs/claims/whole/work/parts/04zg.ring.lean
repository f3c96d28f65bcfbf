
/-! ===== ring ===== -/
def rh_ (f : Int → Int) (s o n v w : Int) : Prop := 1 ≤ n ∧ w = wk_ f s n.toNat ∧ (∀ i : Nat, 1 ≤ i → (i : Int) < n → wk_ f s i ≠ s) ∧ (v = 0 ∨ v = 1) ∧ (v = 1 ↔ ∃ i : Nat, (i : Int) < n ∧ wk_ f s i = o)
theorem rh_01 {f : Int → Int} {s o w : Int} (h : s = o) (e : w = f s) : rh_ f s o 1 1 w :=
  ⟨by omega, e, fun i h1 h2 => by omega, Or.inr rfl, ⟨fun _ => ⟨0, by omega, h⟩, fun _ => rfl⟩⟩
theorem rh_00 {f : Int → Int} {s o w : Int} (h : s ≠ o) (e : w = f s) : rh_ f s o 1 0 w :=
  ⟨by omega, e, fun i h1 h2 => by omega, Or.inl rfl, ⟨fun h => by omega, fun ⟨i, h1, h2⟩ => by
    have : i = 0 := by omega
    subst this
    exact absurd h2 h⟩⟩
theorem rh_s {f : Int → Int} {s o n v w v2 w2 : Int} (h : rh_ f s o n v w) (hw : w ≠ s) (hv : (v2 = 1 ↔ v = 1 ∨ w = o) ∧ (v2 = 0 ∨ v2 = 1)) (e : w2 = f w) : rh_ f s o (n + 1) v2 w2 := by
  obtain ⟨a1, a2, a3, a4, a5⟩ := h
  refine ⟨by omega, ?_, fun i h1 h2 => ?_, hv.2, ?_⟩
  · rw [wk_s (by omega), ← a2]; exact e
  · by_cases c : (i : Int) < n
    · exact a3 i h1 c
    · rw [show i = n.toNat by omega, ← a2]; exact hw
  · rw [hv.1, a5]
    constructor
    · rintro (⟨i, h1, h2⟩ | h)
      · exact ⟨i, by omega, h2⟩
      · exact ⟨n.toNat, by omega, by rw [← a2]; exact h⟩
    · rintro ⟨i, h1, h2⟩
      by_cases c : (i : Int) < n
      · exact Or.inl ⟨i, c, h2⟩
      · rw [show i = n.toNat by omega, ← a2] at h2; exact Or.inr h2
theorem rh_e {f : Int → Int} {s o n v w : Int} (h : rh_ f s o n v w) (e : w = s) : rg_ f s o n v :=
  ⟨h.1, by rw [← h.2.1]; exact e, h.2.2.1, h.2.2.2.1, h.2.2.2.2⟩
theorem rh_l {f : Int → Int} {s o n v w : Int} (h : rh_ f s o n v w) (hw : w ≠ s) (hl : ∃ l : Nat, 1 ≤ l ∧ l ≤ 8 ∧ wk_ f s l = s) : n ≤ 7 := by
  obtain ⟨l, h1, h2, h3⟩ := hl
  by_cases c : (l : Int) < n
  · exact absurd h3 (h.2.2.1 l h1 c)
  · by_cases c2 : n = (l : Int)
    · exfalso; apply hw; rw [h.2.1, c2]; exact h3
    · omega
theorem wk_c8 {m : am_M} (hp : rP_ m) (hd : rD_ m) {a : Int} (ha : 0 ≤ a ∧ a < vi_ m 1 1) (n : Nat) (hn : vi_ m 1 1 ≤ n) : ∃ l : Nat, 1 ≤ l ∧ l ≤ 8 ∧ wk_ (vi_ m 4) (wk_ (vi_ m 4) a n) l = wk_ (vi_ m 4) a n := by
  have hP := hp.1
  have e : ((vi_ m 1 1).toNat : Int) = vi_ m 1 1 := by omega
  obtain ⟨l, h1, h2, h3⟩ := wk_cy (f := vi_ m 4) (x := a) (p := (vi_ m 1 1).toNat) (fun j a_ b_ => by
    have h := hd.1 j a_ (by omega)
    omega) (by omega) n (by omega)
  exact ⟨l, h1, by omega, h3⟩
theorem or_b1 {v : Int} (h : 0 ≤ v ∧ v ≤ 1) : or_ v 1 = 1 := by
  have : v = 0 ∨ v = 1 := by omega
  rcases this with e | e <;> (rw [e]; rfl)
theorem or_b0 {v : Int} (h : 0 ≤ v ∧ v ≤ 1) : or_ v 0 = v := by
  have : v = 0 ∨ v = 1 := by omega
  rcases this with e | e <;> (rw [e]; rfl)
def rr_ (m : am_M) (N : Nat) (a b x : Int) : Prop := (((0 ≤ a ∧ a < vi_ m 1 1) ∧ 0 ≤ b ∧ b ≤ 1) → ∃ n v, rg_ (vi_ m 4) (wk_ (vi_ m 4) a N) a n v ∧ x = if b = 0 then n else v) ∧ (¬ ((0 ≤ a ∧ a < vi_ m 1 1) ∧ 0 ≤ b ∧ b ≤ 1) → x = -1)

set_option maxHeartbeats 4000000 in
set_option maxRecDepth 20000 in
theorem cs_ring {q : am_X} {d : Nat} {m : am_M} {Q : Option Value → am_M → Prop} {m0 : am_M} {a : Int} {b : Int}  (p0 : rP_ m0) (p1 : rD_ m0) (p2 : rZ_ m0) (p3 : rL_ m0) (p4 : sm_ pSc m0 m) (p5 : -2147483648 ≤ a ∧ a < 2147483648) (p6 : -2147483648 ≤ b ∧ b < 2147483648) (k0 : ∀ (x : Int), (rr_ m0 (vi_ m0 1 1).toNat a b x) → Q (some (.int (ei_ (x)))) m) : pw_C q (d + 60) 88 [.ref 0, .int (ei_ (a)), .int (ei_ (b))] m Q := by
  obtain ⟨hP1, hP2, hP3, hP4⟩ := id p0
  have hmw := mW_of p0 p1
  have hmf := mF_of p0 p1
  refine pw_intro (I := iX8_ring) (T := tX8_ring) rfl rfl rfl ?_
  refine pw_steps 3 (s' := (5, [some (.ref 0), some (.int (ei_ (a))), some (.int (ei_ (b))), none, none, none, none, none], [.int (ei_ (a)), .ref 1], m)) rfl ?_
  refine pw_call (As := [.int (ei_ (a))]) (st := []) (k := 1) rfl rfl rfl rfl rfl (Nat.le_of_ble_eq_true rfl) ?_
  refine pw_intro (I := iX3_has) (T := tX3_has) rfl rfl rfl ?_
  refine pw_steps 1 (s' := (1, [some (.ref 1), some (.int (ei_ (a)))], [.int (ei_ (a))], m)) rfl ?_
  refine pw_if rfl p5 (fun (h1 : a < 0) => ?_) (fun (h1 : ¬ (a < 0)) => ?_)
  · refine pw_steps 1 (s' := (17, [some (.ref 1), some (.int (ei_ (a)))], [.int (ei_ (0))], m)) rfl ?_
    refine pw_iret rfl rfl rfl ?_
    refine pw_ifT rfl (by decide) (show 0 = 0 by decide) ?_
    refine pw_steps 1 (s' := (21, [some (.ref 0), some (.int (ei_ (a))), some (.int (ei_ (b))), none, none, none, none, none], [.int (ei_ ((-1)))], m)) rfl ?_
    refine pw_iret rfl rfl rfl ?_
    exact k0 (-1) (by exact ⟨fun h_ => absurd h_ (by omega), fun _ => rfl⟩)
  · refine pw_steps 2 (s' := (6, [some (.ref 1), some (.int (ei_ (a)))], [.ref 1, .int (ei_ (a))], m)) rfl ?_
    refine pw_get rfl rfl (fun x2 (hx2 : x2 = vi_ m 1 1) rx2 sx2 => ?_)
    have ox2 := hx2
    replace hx2 : x2 = vi_ m0 1 1 := hx2.trans (sm_v p4 rfl)
    refine pw_cmp rfl p5 ⟨rx2, sx2⟩ (fun (h3 : x2 ≤ a) => ?_) (fun (h3 : ¬ (x2 ≤ a)) => ?_)
    · refine pw_steps 1 (s' := (17, [some (.ref 1), some (.int (ei_ (a)))], [.int (ei_ (0))], m)) rfl ?_
      refine pw_iret rfl rfl rfl ?_
      refine pw_ifT rfl (by decide) (show 0 = 0 by decide) ?_
      refine pw_steps 1 (s' := (21, [some (.ref 0), some (.int (ei_ (a))), some (.int (ei_ (b))), none, none, none, none, none], [.int (ei_ ((-1)))], m)) rfl ?_
      refine pw_iret rfl rfl rfl ?_
      exact k0 (-1) (by exact ⟨fun h_ => absurd h_ (by omega), fun _ => rfl⟩)
    · refine pw_steps 2 (s' := (17, [some (.ref 1), some (.int (ei_ (a)))], [.int (ei_ (1))], m)) rfl ?_
      refine pw_iret rfl rfl rfl ?_
      refine pw_ifF rfl (by decide) (show ¬ (1 = 0) by decide) ?_
      refine pw_steps 1 (s' := (12, [some (.ref 0), some (.int (ei_ (a))), some (.int (ei_ (b))), none, none, none, none, none], [.int (ei_ (b))], m)) rfl ?_
      refine pw_if rfl p6 (fun (h4 : b < 0) => ?_) (fun (h4 : ¬ (b < 0)) => ?_)
      · refine pw_steps 1 (s' := (21, [some (.ref 0), some (.int (ei_ (a))), some (.int (ei_ (b))), none, none, none, none, none], [.int (ei_ ((-1)))], m)) rfl ?_
        refine pw_iret rfl rfl rfl ?_
        exact k0 (-1) (by exact ⟨fun h_ => absurd h_ (by omega), fun _ => rfl⟩)
      · refine pw_steps 2 (s' := (17, [some (.ref 0), some (.int (ei_ (a))), some (.int (ei_ (b))), none, none, none, none, none], [.int (ei_ (1)), .int (ei_ (b))], m)) rfl ?_
        refine pw_cmp rfl p6 (by decide) (fun (h5 : b ≤ 1) => ?_) (fun (h5 : ¬ (b ≤ 1)) => ?_)
        · refine pw_steps 4 (s' := (27, [some (.ref 0), some (.int (ei_ (a))), some (.int (ei_ (b))), some (.int (ei_ (a))), some (.int (ei_ (0))), none, none, none], [], m)) rfl ?_
          have L8 : ∀ (n6 : Nat) (s : Int) (k : Int), (vi_ m0 1 1 - k).toNat = n6 → (0 ≤ k ∧ k ≤ vi_ m0 1 1 ∧ 0 ≤ s ∧ s < vi_ m0 1 1) → (s = wk_ (vi_ m0 4) a k.toNat) → pw_V q (d + 59) iX8_ring.2.2.2.1 tX8_ring Q (27, [some (.ref 0), some (.int (ei_ (a))), some (.int (ei_ (b))), some (.int (ei_ (s))), some (.int (ei_ (k))), none, none, none], [], m) := by
            intro n6
            induction n6 using Nat.strongRecOn with
            | _ n6 ih7 =>
              intro s k hm_n6 v9 hw
              refine pw_steps 3 (s' := (33, [some (.ref 0), some (.int (ei_ (a))), some (.int (ei_ (b))), some (.int (ei_ (s))), some (.int (ei_ (k))), none, none, none], [.ref 1, .int (ei_ (k))], m)) rfl ?_
              refine pw_call (As := []) (st := [.int (ei_ (k))]) (k := 1) rfl rfl rfl rfl rfl (Nat.le_of_ble_eq_true rfl) ?_
              refine pw_intro (I := iX3_size) (T := tX3_size) rfl rfl rfl ?_
              refine pw_steps 1 (s' := (1, [some (.ref 1)], [.ref 1], m)) rfl ?_
              refine pw_getE (x := x2) rfl rfl ox2 ?_
              refine pw_iret rfl rfl rfl ?_
              refine pw_cmp rfl (by omega) ⟨rx2, sx2⟩ (fun (h10 : x2 ≤ k) => ?_) (fun (h10 : ¬ (x2 ≤ k)) => ?_)
              · refine pw_steps 4 (s' := (59, [some (.ref 0), some (.int (ei_ (a))), some (.int (ei_ (b))), some (.int (ei_ (s))), some (.int (ei_ (1))), none, none, none], [.int (ei_ (a)), .int (ei_ (s))], m)) rfl ?_
                refine pw_cmp rfl (by omega) p5 (fun (h11 : ¬ s = a) => ?_) (fun (h11 : ¬ ¬ s = a) => ?_)
                · refine pw_steps 5 (s' := (74, [some (.ref 0), some (.int (ei_ (a))), some (.int (ei_ (b))), some (.int (ei_ (s))), some (.int (ei_ (1))), some (.int (ei_ (0))), none, none], [.int (ei_ (s)), .ref 3], m)) rfl ?_
                  refine pw_call (As := [.int (ei_ (s))]) (st := []) (k := 3) rfl rfl rfl rfl rfl (Nat.le_of_ble_eq_true rfl) ?_
                  refine cw_wearer2 (p4) (by omega) (fun x12 g13 g14 => ?_)
                  have hx4_ := p1.1 s (by omega) (by omega)
                  refine pw_steps 3 (s' := (82, [some (.ref 0), some (.int (ei_ (a))), some (.int (ei_ (b))), some (.int (ei_ (s))), some (.int (ei_ (1))), some (.int (ei_ (0))), some (.int (ei_ (x12))), some (.int (ei_ (0)))], [], m)) rfl ?_
                  have L17 : ∀ (n15 : Nat) (n : Int) (v : Int) (w2 : Int) (k2 : Int), (8 - k2).toNat = n15 → (0 ≤ k2 ∧ k2 ≤ 8 ∧ n = k2 + 1 ∧ 0 ≤ w2 ∧ w2 < vi_ m0 1 1 ∧ 0 ≤ v ∧ v ≤ 1) → (rh_ (vi_ m0 4) s a n v w2) → pw_V q (d + 59) iX8_ring.2.2.2.1 tX8_ring Q (82, [some (.ref 0), some (.int (ei_ (a))), some (.int (ei_ (b))), some (.int (ei_ (s))), some (.int (ei_ (n))), some (.int (ei_ (v))), some (.int (ei_ (w2))), some (.int (ei_ (k2)))], [], m) := by
                    intro n15
                    induction n15 using Nat.strongRecOn with
                    | _ n15 ih16 =>
                      intro n v w2 k2 hm_n15 v18 hr
                      refine pw_steps 2 (s' := (86, [some (.ref 0), some (.int (ei_ (a))), some (.int (ei_ (b))), some (.int (ei_ (s))), some (.int (ei_ (n))), some (.int (ei_ (v))), some (.int (ei_ (w2))), some (.int (ei_ (k2)))], [.int (ei_ (8)), .int (ei_ (k2))], m)) rfl ?_
                      refine pw_cmp rfl (by omega) (by decide) (fun (h19 : 8 ≤ k2) => ?_) (fun (h19 : ¬ (8 ≤ k2)) => ?_)
                      · refine pw_steps 1 (s' := (134, [some (.ref 0), some (.int (ei_ (a))), some (.int (ei_ (b))), some (.int (ei_ (s))), some (.int (ei_ (n))), some (.int (ei_ (v))), some (.int (ei_ (w2))), some (.int (ei_ (k2)))], [.int (ei_ (b))], m)) rfl ?_
                        refine pw_if rfl p6 (fun (h20 : ¬ b = 0) => ?_) (fun (h20 : ¬ ¬ b = 0) => ?_)
                        · refine pw_steps 1 (s' := (142, [some (.ref 0), some (.int (ei_ (a))), some (.int (ei_ (b))), some (.int (ei_ (s))), some (.int (ei_ (n))), some (.int (ei_ (v))), some (.int (ei_ (w2))), some (.int (ei_ (k2)))], [.int (ei_ (v))], m)) rfl ?_
                          refine pw_if rfl (by omega) (fun (h21 : v = 0) => ?_) (fun (h21 : ¬ (v = 0)) => ?_)
                          · refine pw_steps 1 (s' := (150, [some (.ref 0), some (.int (ei_ (a))), some (.int (ei_ (b))), some (.int (ei_ (s))), some (.int (ei_ (n))), some (.int (ei_ (v))), some (.int (ei_ (w2))), some (.int (ei_ (k2)))], [.int (ei_ (0))], m)) rfl ?_
                            refine pw_iret rfl rfl rfl ?_
                            exact k0 0 (by have hl_ := wk_c8 p0 p1 (a := a) ⟨by omega, by omega⟩ k.toNat (by omega); rw [← hw] at hl_; have hs_ : w2 = s := Decidable.byContradiction (fun c_ => by have q_ := rh_l hr c_ hl_; omega); exact ⟨fun _ => ⟨n, v, by rw [show (vi_ m0 1 1).toNat = k.toNat by omega, ← hw]; exact rh_e hr hs_, by omega⟩, fun h_ => absurd ⟨⟨by omega, by omega⟩, by omega, by omega⟩ h_⟩)
                          · refine pw_steps 2 (s' := (150, [some (.ref 0), some (.int (ei_ (a))), some (.int (ei_ (b))), some (.int (ei_ (s))), some (.int (ei_ (n))), some (.int (ei_ (v))), some (.int (ei_ (w2))), some (.int (ei_ (k2)))], [.int (ei_ (1))], m)) rfl ?_
                            refine pw_iret rfl rfl rfl ?_
                            exact k0 1 (by have hl_ := wk_c8 p0 p1 (a := a) ⟨by omega, by omega⟩ k.toNat (by omega); rw [← hw] at hl_; have hs_ : w2 = s := Decidable.byContradiction (fun c_ => by have q_ := rh_l hr c_ hl_; omega); exact ⟨fun _ => ⟨n, v, by rw [show (vi_ m0 1 1).toNat = k.toNat by omega, ← hw]; exact rh_e hr hs_, by omega⟩, fun h_ => absurd ⟨⟨by omega, by omega⟩, by omega, by omega⟩ h_⟩)
                        · refine pw_steps 1 (s' := (139, [some (.ref 0), some (.int (ei_ (a))), some (.int (ei_ (b))), some (.int (ei_ (s))), some (.int (ei_ (n))), some (.int (ei_ (v))), some (.int (ei_ (w2))), some (.int (ei_ (k2)))], [.int (ei_ (n))], m)) rfl ?_
                          refine pw_iret rfl rfl rfl ?_
                          exact k0 n (by have hl_ := wk_c8 p0 p1 (a := a) ⟨by omega, by omega⟩ k.toNat (by omega); rw [← hw] at hl_; have hs_ : w2 = s := Decidable.byContradiction (fun c_ => by have q_ := rh_l hr c_ hl_; omega); exact ⟨fun _ => ⟨n, v, by rw [show (vi_ m0 1 1).toNat = k.toNat by omega, ← hw]; exact rh_e hr hs_, by omega⟩, fun h_ => absurd ⟨⟨by omega, by omega⟩, by omega, by omega⟩ h_⟩)
                      · refine pw_steps 2 (s' := (92, [some (.ref 0), some (.int (ei_ (a))), some (.int (ei_ (b))), some (.int (ei_ (s))), some (.int (ei_ (n))), some (.int (ei_ (v))), some (.int (ei_ (w2))), some (.int (ei_ (k2)))], [.int (ei_ (s)), .int (ei_ (w2))], m)) rfl ?_
                        refine pw_cmp rfl (by omega) (by omega) (fun (h22 : w2 = s) => ?_) (fun (h22 : ¬ (w2 = s)) => ?_)
                        · refine pw_steps 1 (s' := (134, [some (.ref 0), some (.int (ei_ (a))), some (.int (ei_ (b))), some (.int (ei_ (s))), some (.int (ei_ (n))), some (.int (ei_ (v))), some (.int (ei_ (w2))), some (.int (ei_ (k2)))], [.int (ei_ (b))], m)) rfl ?_
                          refine pw_if rfl p6 (fun (h23 : ¬ b = 0) => ?_) (fun (h23 : ¬ ¬ b = 0) => ?_)
                          · refine pw_steps 1 (s' := (142, [some (.ref 0), some (.int (ei_ (a))), some (.int (ei_ (b))), some (.int (ei_ (s))), some (.int (ei_ (n))), some (.int (ei_ (v))), some (.int (ei_ (w2))), some (.int (ei_ (k2)))], [.int (ei_ (v))], m)) rfl ?_
                            refine pw_if rfl (by omega) (fun (h24 : v = 0) => ?_) (fun (h24 : ¬ (v = 0)) => ?_)
                            · refine pw_steps 1 (s' := (150, [some (.ref 0), some (.int (ei_ (a))), some (.int (ei_ (b))), some (.int (ei_ (s))), some (.int (ei_ (n))), some (.int (ei_ (v))), some (.int (ei_ (w2))), some (.int (ei_ (k2)))], [.int (ei_ (0))], m)) rfl ?_
                              refine pw_iret rfl rfl rfl ?_
                              exact k0 0 (by have hl_ := wk_c8 p0 p1 (a := a) ⟨by omega, by omega⟩ k.toNat (by omega); rw [← hw] at hl_; have hs_ : w2 = s := Decidable.byContradiction (fun c_ => by have q_ := rh_l hr c_ hl_; omega); exact ⟨fun _ => ⟨n, v, by rw [show (vi_ m0 1 1).toNat = k.toNat by omega, ← hw]; exact rh_e hr hs_, by omega⟩, fun h_ => absurd ⟨⟨by omega, by omega⟩, by omega, by omega⟩ h_⟩)
                            · refine pw_steps 2 (s' := (150, [some (.ref 0), some (.int (ei_ (a))), some (.int (ei_ (b))), some (.int (ei_ (s))), some (.int (ei_ (n))), some (.int (ei_ (v))), some (.int (ei_ (w2))), some (.int (ei_ (k2)))], [.int (ei_ (1))], m)) rfl ?_
                              refine pw_iret rfl rfl rfl ?_
                              exact k0 1 (by have hl_ := wk_c8 p0 p1 (a := a) ⟨by omega, by omega⟩ k.toNat (by omega); rw [← hw] at hl_; have hs_ : w2 = s := Decidable.byContradiction (fun c_ => by have q_ := rh_l hr c_ hl_; omega); exact ⟨fun _ => ⟨n, v, by rw [show (vi_ m0 1 1).toNat = k.toNat by omega, ← hw]; exact rh_e hr hs_, by omega⟩, fun h_ => absurd ⟨⟨by omega, by omega⟩, by omega, by omega⟩ h_⟩)
                          · refine pw_steps 1 (s' := (139, [some (.ref 0), some (.int (ei_ (a))), some (.int (ei_ (b))), some (.int (ei_ (s))), some (.int (ei_ (n))), some (.int (ei_ (v))), some (.int (ei_ (w2))), some (.int (ei_ (k2)))], [.int (ei_ (n))], m)) rfl ?_
                            refine pw_iret rfl rfl rfl ?_
                            exact k0 n (by have hl_ := wk_c8 p0 p1 (a := a) ⟨by omega, by omega⟩ k.toNat (by omega); rw [← hw] at hl_; have hs_ : w2 = s := Decidable.byContradiction (fun c_ => by have q_ := rh_l hr c_ hl_; omega); exact ⟨fun _ => ⟨n, v, by rw [show (vi_ m0 1 1).toNat = k.toNat by omega, ← hw]; exact rh_e hr hs_, by omega⟩, fun h_ => absurd ⟨⟨by omega, by omega⟩, by omega, by omega⟩ h_⟩)
                        · refine pw_steps 2 (s' := (100, [some (.ref 0), some (.int (ei_ (a))), some (.int (ei_ (b))), some (.int (ei_ (s))), some (.int ((ei_ (n)) + (ei_ (1)))), some (.int (ei_ (v))), some (.int (ei_ (w2))), some (.int (ei_ (k2)))], [.int (ei_ (v))], m)) rfl ?_
                          refine pw_cv (congrArg (fun z_ : Int32 => ((100, [some (.ref 0), some (.int (ei_ (a))), some (.int (ei_ (b))), some (.int (ei_ (s))), some (.int z_), some (.int (ei_ (v))), some (.int (ei_ (w2))), some (.int (ei_ (k2)))], [.int (ei_ (v))], m) : am_S)) (ei_add rfl rfl)) ?_
                          refine pw_if rfl (by omega) (fun (h25 : ¬ v = 0) => ?_) (fun (h25 : ¬ ¬ v = 0) => ?_)
                          · refine pw_steps 6 (s' := (122, [some (.ref 0), some (.int (ei_ (a))), some (.int (ei_ (b))), some (.int (ei_ (s))), some (.int (ei_ ((n + 1)))), some (.int (ei_ (1))), some (.int (ei_ (w2))), some (.int (ei_ (k2)))], [.int (ei_ (w2)), .ref 3], m)) rfl ?_
                            refine pw_call (As := [.int (ei_ (w2))]) (st := []) (k := 3) rfl rfl rfl rfl rfl (Nat.le_of_ble_eq_true rfl) ?_
                            refine cw_wearer2 (p4) (by omega) (fun x26 g27 g28 => ?_)
                            have hx4_ := p1.1 w2 (by omega) (by omega)
                            refine pw_steps 3 (s' := (82, [some (.ref 0), some (.int (ei_ (a))), some (.int (ei_ (b))), some (.int (ei_ (s))), some (.int (ei_ ((n + 1)))), some (.int (ei_ (1))), some (.int (ei_ (x26))), some (.int ((ei_ (k2)) + (ei_ (1))))], [], m)) rfl ?_
                            refine pw_cv (congrArg (fun z_ : Int32 => ((82, [some (.ref 0), some (.int (ei_ (a))), some (.int (ei_ (b))), some (.int (ei_ (s))), some (.int (ei_ ((n + 1)))), some (.int (ei_ (1))), some (.int (ei_ (x26))), some (.int z_)], [], m) : am_S)) (ei_add rfl rfl)) ?_
                            exact ih16 _ (by omega) (n + 1) 1 x26 (k2 + 1) rfl (by omega) (by exact rh_s hr (by omega) ⟨by omega, by omega⟩ g27)
                          · refine pw_steps 2 (s' := (106, [some (.ref 0), some (.int (ei_ (a))), some (.int (ei_ (b))), some (.int (ei_ (s))), some (.int (ei_ ((n + 1)))), some (.int (ei_ (v))), some (.int (ei_ (w2))), some (.int (ei_ (k2)))], [.int (ei_ (a)), .int (ei_ (w2))], m)) rfl ?_
                            refine pw_cmp rfl (by omega) p5 (fun (h29 : ¬ w2 = a) => ?_) (fun (h29 : ¬ ¬ w2 = a) => ?_)
                            · refine pw_steps 5 (s' := (122, [some (.ref 0), some (.int (ei_ (a))), some (.int (ei_ (b))), some (.int (ei_ (s))), some (.int (ei_ ((n + 1)))), some (.int (ei_ (0))), some (.int (ei_ (w2))), some (.int (ei_ (k2)))], [.int (ei_ (w2)), .ref 3], m)) rfl ?_
                              refine pw_call (As := [.int (ei_ (w2))]) (st := []) (k := 3) rfl rfl rfl rfl rfl (Nat.le_of_ble_eq_true rfl) ?_
                              refine cw_wearer2 (p4) (by omega) (fun x30 g31 g32 => ?_)
                              have hx4_ := p1.1 w2 (by omega) (by omega)
                              refine pw_steps 3 (s' := (82, [some (.ref 0), some (.int (ei_ (a))), some (.int (ei_ (b))), some (.int (ei_ (s))), some (.int (ei_ ((n + 1)))), some (.int (ei_ (0))), some (.int (ei_ (x30))), some (.int ((ei_ (k2)) + (ei_ (1))))], [], m)) rfl ?_
                              refine pw_cv (congrArg (fun z_ : Int32 => ((82, [some (.ref 0), some (.int (ei_ (a))), some (.int (ei_ (b))), some (.int (ei_ (s))), some (.int (ei_ ((n + 1)))), some (.int (ei_ (0))), some (.int (ei_ (x30))), some (.int z_)], [], m) : am_S)) (ei_add rfl rfl)) ?_
                              exact ih16 _ (by omega) (n + 1) 0 x30 (k2 + 1) rfl (by omega) (by exact rh_s hr (by omega) ⟨by omega, by omega⟩ g31)
                            · refine pw_steps 6 (s' := (122, [some (.ref 0), some (.int (ei_ (a))), some (.int (ei_ (b))), some (.int (ei_ (s))), some (.int (ei_ ((n + 1)))), some (.int (ei_ (1))), some (.int (ei_ (w2))), some (.int (ei_ (k2)))], [.int (ei_ (w2)), .ref 3], m)) rfl ?_
                              refine pw_call (As := [.int (ei_ (w2))]) (st := []) (k := 3) rfl rfl rfl rfl rfl (Nat.le_of_ble_eq_true rfl) ?_
                              refine cw_wearer2 (p4) (by omega) (fun x33 g34 g35 => ?_)
                              have hx4_ := p1.1 w2 (by omega) (by omega)
                              refine pw_steps 3 (s' := (82, [some (.ref 0), some (.int (ei_ (a))), some (.int (ei_ (b))), some (.int (ei_ (s))), some (.int (ei_ ((n + 1)))), some (.int (ei_ (1))), some (.int (ei_ (x33))), some (.int ((ei_ (k2)) + (ei_ (1))))], [], m)) rfl ?_
                              refine pw_cv (congrArg (fun z_ : Int32 => ((82, [some (.ref 0), some (.int (ei_ (a))), some (.int (ei_ (b))), some (.int (ei_ (s))), some (.int (ei_ ((n + 1)))), some (.int (ei_ (1))), some (.int (ei_ (x33))), some (.int z_)], [], m) : am_S)) (ei_add rfl rfl)) ?_
                              exact ih16 _ (by omega) (n + 1) 1 x33 (k2 + 1) rfl (by omega) (by exact rh_s hr (by omega) ⟨by omega, by omega⟩ g34)
                  exact L17 _ 1 0 x12 0 rfl (by omega) (by first | exact rh_01 (by omega) g13 | exact rh_00 (by omega) g13)
                · refine pw_steps 6 (s' := (74, [some (.ref 0), some (.int (ei_ (a))), some (.int (ei_ (b))), some (.int (ei_ (s))), some (.int (ei_ (1))), some (.int (ei_ (1))), none, none], [.int (ei_ (s)), .ref 3], m)) rfl ?_
                  refine pw_call (As := [.int (ei_ (s))]) (st := []) (k := 3) rfl rfl rfl rfl rfl (Nat.le_of_ble_eq_true rfl) ?_
                  refine cw_wearer2 (p4) (by omega) (fun x36 g37 g38 => ?_)
                  have hx4_ := p1.1 s (by omega) (by omega)
                  refine pw_steps 3 (s' := (82, [some (.ref 0), some (.int (ei_ (a))), some (.int (ei_ (b))), some (.int (ei_ (s))), some (.int (ei_ (1))), some (.int (ei_ (1))), some (.int (ei_ (x36))), some (.int (ei_ (0)))], [], m)) rfl ?_
                  have L41 : ∀ (n39 : Nat) (n : Int) (v : Int) (w2 : Int) (k2 : Int), (8 - k2).toNat = n39 → (0 ≤ k2 ∧ k2 ≤ 8 ∧ n = k2 + 1 ∧ 0 ≤ w2 ∧ w2 < vi_ m0 1 1 ∧ 0 ≤ v ∧ v ≤ 1) → (rh_ (vi_ m0 4) s a n v w2) → pw_V q (d + 59) iX8_ring.2.2.2.1 tX8_ring Q (82, [some (.ref 0), some (.int (ei_ (a))), some (.int (ei_ (b))), some (.int (ei_ (s))), some (.int (ei_ (n))), some (.int (ei_ (v))), some (.int (ei_ (w2))), some (.int (ei_ (k2)))], [], m) := by
                    intro n39
                    induction n39 using Nat.strongRecOn with
                    | _ n39 ih40 =>
                      intro n v w2 k2 hm_n39 v42 hr
                      refine pw_steps 2 (s' := (86, [some (.ref 0), some (.int (ei_ (a))), some (.int (ei_ (b))), some (.int (ei_ (s))), some (.int (ei_ (n))), some (.int (ei_ (v))), some (.int (ei_ (w2))), some (.int (ei_ (k2)))], [.int (ei_ (8)), .int (ei_ (k2))], m)) rfl ?_
                      refine pw_cmp rfl (by omega) (by decide) (fun (h43 : 8 ≤ k2) => ?_) (fun (h43 : ¬ (8 ≤ k2)) => ?_)
                      · refine pw_steps 1 (s' := (134, [some (.ref 0), some (.int (ei_ (a))), some (.int (ei_ (b))), some (.int (ei_ (s))), some (.int (ei_ (n))), some (.int (ei_ (v))), some (.int (ei_ (w2))), some (.int (ei_ (k2)))], [.int (ei_ (b))], m)) rfl ?_
                        refine pw_if rfl p6 (fun (h44 : ¬ b = 0) => ?_) (fun (h44 : ¬ ¬ b = 0) => ?_)
                        · refine pw_steps 1 (s' := (142, [some (.ref 0), some (.int (ei_ (a))), some (.int (ei_ (b))), some (.int (ei_ (s))), some (.int (ei_ (n))), some (.int (ei_ (v))), some (.int (ei_ (w2))), some (.int (ei_ (k2)))], [.int (ei_ (v))], m)) rfl ?_
                          refine pw_if rfl (by omega) (fun (h45 : v = 0) => ?_) (fun (h45 : ¬ (v = 0)) => ?_)
                          · refine pw_steps 1 (s' := (150, [some (.ref 0), some (.int (ei_ (a))), some (.int (ei_ (b))), some (.int (ei_ (s))), some (.int (ei_ (n))), some (.int (ei_ (v))), some (.int (ei_ (w2))), some (.int (ei_ (k2)))], [.int (ei_ (0))], m)) rfl ?_
                            refine pw_iret rfl rfl rfl ?_
                            exact k0 0 (by have hl_ := wk_c8 p0 p1 (a := a) ⟨by omega, by omega⟩ k.toNat (by omega); rw [← hw] at hl_; have hs_ : w2 = s := Decidable.byContradiction (fun c_ => by have q_ := rh_l hr c_ hl_; omega); exact ⟨fun _ => ⟨n, v, by rw [show (vi_ m0 1 1).toNat = k.toNat by omega, ← hw]; exact rh_e hr hs_, by omega⟩, fun h_ => absurd ⟨⟨by omega, by omega⟩, by omega, by omega⟩ h_⟩)
                          · refine pw_steps 2 (s' := (150, [some (.ref 0), some (.int (ei_ (a))), some (.int (ei_ (b))), some (.int (ei_ (s))), some (.int (ei_ (n))), some (.int (ei_ (v))), some (.int (ei_ (w2))), some (.int (ei_ (k2)))], [.int (ei_ (1))], m)) rfl ?_
                            refine pw_iret rfl rfl rfl ?_
                            exact k0 1 (by have hl_ := wk_c8 p0 p1 (a := a) ⟨by omega, by omega⟩ k.toNat (by omega); rw [← hw] at hl_; have hs_ : w2 = s := Decidable.byContradiction (fun c_ => by have q_ := rh_l hr c_ hl_; omega); exact ⟨fun _ => ⟨n, v, by rw [show (vi_ m0 1 1).toNat = k.toNat by omega, ← hw]; exact rh_e hr hs_, by omega⟩, fun h_ => absurd ⟨⟨by omega, by omega⟩, by omega, by omega⟩ h_⟩)
                        · refine pw_steps 1 (s' := (139, [some (.ref 0), some (.int (ei_ (a))), some (.int (ei_ (b))), some (.int (ei_ (s))), some (.int (ei_ (n))), some (.int (ei_ (v))), some (.int (ei_ (w2))), some (.int (ei_ (k2)))], [.int (ei_ (n))], m)) rfl ?_
                          refine pw_iret rfl rfl rfl ?_
                          exact k0 n (by have hl_ := wk_c8 p0 p1 (a := a) ⟨by omega, by omega⟩ k.toNat (by omega); rw [← hw] at hl_; have hs_ : w2 = s := Decidable.byContradiction (fun c_ => by have q_ := rh_l hr c_ hl_; omega); exact ⟨fun _ => ⟨n, v, by rw [show (vi_ m0 1 1).toNat = k.toNat by omega, ← hw]; exact rh_e hr hs_, by omega⟩, fun h_ => absurd ⟨⟨by omega, by omega⟩, by omega, by omega⟩ h_⟩)
                      · refine pw_steps 2 (s' := (92, [some (.ref 0), some (.int (ei_ (a))), some (.int (ei_ (b))), some (.int (ei_ (s))), some (.int (ei_ (n))), some (.int (ei_ (v))), some (.int (ei_ (w2))), some (.int (ei_ (k2)))], [.int (ei_ (s)), .int (ei_ (w2))], m)) rfl ?_
                        refine pw_cmp rfl (by omega) (by omega) (fun (h46 : w2 = s) => ?_) (fun (h46 : ¬ (w2 = s)) => ?_)
                        · refine pw_steps 1 (s' := (134, [some (.ref 0), some (.int (ei_ (a))), some (.int (ei_ (b))), some (.int (ei_ (s))), some (.int (ei_ (n))), some (.int (ei_ (v))), some (.int (ei_ (w2))), some (.int (ei_ (k2)))], [.int (ei_ (b))], m)) rfl ?_
                          refine pw_if rfl p6 (fun (h47 : ¬ b = 0) => ?_) (fun (h47 : ¬ ¬ b = 0) => ?_)
                          · refine pw_steps 1 (s' := (142, [some (.ref 0), some (.int (ei_ (a))), some (.int (ei_ (b))), some (.int (ei_ (s))), some (.int (ei_ (n))), some (.int (ei_ (v))), some (.int (ei_ (w2))), some (.int (ei_ (k2)))], [.int (ei_ (v))], m)) rfl ?_
                            refine pw_if rfl (by omega) (fun (h48 : v = 0) => ?_) (fun (h48 : ¬ (v = 0)) => ?_)
                            · refine pw_steps 1 (s' := (150, [some (.ref 0), some (.int (ei_ (a))), some (.int (ei_ (b))), some (.int (ei_ (s))), some (.int (ei_ (n))), some (.int (ei_ (v))), some (.int (ei_ (w2))), some (.int (ei_ (k2)))], [.int (ei_ (0))], m)) rfl ?_
                              refine pw_iret rfl rfl rfl ?_
                              exact k0 0 (by have hl_ := wk_c8 p0 p1 (a := a) ⟨by omega, by omega⟩ k.toNat (by omega); rw [← hw] at hl_; have hs_ : w2 = s := Decidable.byContradiction (fun c_ => by have q_ := rh_l hr c_ hl_; omega); exact ⟨fun _ => ⟨n, v, by rw [show (vi_ m0 1 1).toNat = k.toNat by omega, ← hw]; exact rh_e hr hs_, by omega⟩, fun h_ => absurd ⟨⟨by omega, by omega⟩, by omega, by omega⟩ h_⟩)
                            · refine pw_steps 2 (s' := (150, [some (.ref 0), some (.int (ei_ (a))), some (.int (ei_ (b))), some (.int (ei_ (s))), some (.int (ei_ (n))), some (.int (ei_ (v))), some (.int (ei_ (w2))), some (.int (ei_ (k2)))], [.int (ei_ (1))], m)) rfl ?_
                              refine pw_iret rfl rfl rfl ?_
                              exact k0 1 (by have hl_ := wk_c8 p0 p1 (a := a) ⟨by omega, by omega⟩ k.toNat (by omega); rw [← hw] at hl_; have hs_ : w2 = s := Decidable.byContradiction (fun c_ => by have q_ := rh_l hr c_ hl_; omega); exact ⟨fun _ => ⟨n, v, by rw [show (vi_ m0 1 1).toNat = k.toNat by omega, ← hw]; exact rh_e hr hs_, by omega⟩, fun h_ => absurd ⟨⟨by omega, by omega⟩, by omega, by omega⟩ h_⟩)
                          · refine pw_steps 1 (s' := (139, [some (.ref 0), some (.int (ei_ (a))), some (.int (ei_ (b))), some (.int (ei_ (s))), some (.int (ei_ (n))), some (.int (ei_ (v))), some (.int (ei_ (w2))), some (.int (ei_ (k2)))], [.int (ei_ (n))], m)) rfl ?_
                            refine pw_iret rfl rfl rfl ?_
                            exact k0 n (by have hl_ := wk_c8 p0 p1 (a := a) ⟨by omega, by omega⟩ k.toNat (by omega); rw [← hw] at hl_; have hs_ : w2 = s := Decidable.byContradiction (fun c_ => by have q_ := rh_l hr c_ hl_; omega); exact ⟨fun _ => ⟨n, v, by rw [show (vi_ m0 1 1).toNat = k.toNat by omega, ← hw]; exact rh_e hr hs_, by omega⟩, fun h_ => absurd ⟨⟨by omega, by omega⟩, by omega, by omega⟩ h_⟩)
                        · refine pw_steps 2 (s' := (100, [some (.ref 0), some (.int (ei_ (a))), some (.int (ei_ (b))), some (.int (ei_ (s))), some (.int ((ei_ (n)) + (ei_ (1)))), some (.int (ei_ (v))), some (.int (ei_ (w2))), some (.int (ei_ (k2)))], [.int (ei_ (v))], m)) rfl ?_
                          refine pw_cv (congrArg (fun z_ : Int32 => ((100, [some (.ref 0), some (.int (ei_ (a))), some (.int (ei_ (b))), some (.int (ei_ (s))), some (.int z_), some (.int (ei_ (v))), some (.int (ei_ (w2))), some (.int (ei_ (k2)))], [.int (ei_ (v))], m) : am_S)) (ei_add rfl rfl)) ?_
                          refine pw_if rfl (by omega) (fun (h49 : ¬ v = 0) => ?_) (fun (h49 : ¬ ¬ v = 0) => ?_)
                          · refine pw_steps 6 (s' := (122, [some (.ref 0), some (.int (ei_ (a))), some (.int (ei_ (b))), some (.int (ei_ (s))), some (.int (ei_ ((n + 1)))), some (.int (ei_ (1))), some (.int (ei_ (w2))), some (.int (ei_ (k2)))], [.int (ei_ (w2)), .ref 3], m)) rfl ?_
                            refine pw_call (As := [.int (ei_ (w2))]) (st := []) (k := 3) rfl rfl rfl rfl rfl (Nat.le_of_ble_eq_true rfl) ?_
                            refine cw_wearer2 (p4) (by omega) (fun x50 g51 g52 => ?_)
                            have hx4_ := p1.1 w2 (by omega) (by omega)
                            refine pw_steps 3 (s' := (82, [some (.ref 0), some (.int (ei_ (a))), some (.int (ei_ (b))), some (.int (ei_ (s))), some (.int (ei_ ((n + 1)))), some (.int (ei_ (1))), some (.int (ei_ (x50))), some (.int ((ei_ (k2)) + (ei_ (1))))], [], m)) rfl ?_
                            refine pw_cv (congrArg (fun z_ : Int32 => ((82, [some (.ref 0), some (.int (ei_ (a))), some (.int (ei_ (b))), some (.int (ei_ (s))), some (.int (ei_ ((n + 1)))), some (.int (ei_ (1))), some (.int (ei_ (x50))), some (.int z_)], [], m) : am_S)) (ei_add rfl rfl)) ?_
                            exact ih40 _ (by omega) (n + 1) 1 x50 (k2 + 1) rfl (by omega) (by exact rh_s hr (by omega) ⟨by omega, by omega⟩ g51)
                          · refine pw_steps 2 (s' := (106, [some (.ref 0), some (.int (ei_ (a))), some (.int (ei_ (b))), some (.int (ei_ (s))), some (.int (ei_ ((n + 1)))), some (.int (ei_ (v))), some (.int (ei_ (w2))), some (.int (ei_ (k2)))], [.int (ei_ (a)), .int (ei_ (w2))], m)) rfl ?_
                            refine pw_cmpT rfl (by omega) p5 (show ¬ w2 = a by omega) ?_
                            refine pw_steps 5 (s' := (122, [some (.ref 0), some (.int (ei_ (a))), some (.int (ei_ (b))), some (.int (ei_ (s))), some (.int (ei_ ((n + 1)))), some (.int (ei_ (0))), some (.int (ei_ (w2))), some (.int (ei_ (k2)))], [.int (ei_ (w2)), .ref 3], m)) rfl ?_
                            refine pw_call (As := [.int (ei_ (w2))]) (st := []) (k := 3) rfl rfl rfl rfl rfl (Nat.le_of_ble_eq_true rfl) ?_
                            refine cw_wearer2 (p4) (by omega) (fun x53 g54 g55 => ?_)
                            have hx4_ := p1.1 w2 (by omega) (by omega)
                            refine pw_steps 3 (s' := (82, [some (.ref 0), some (.int (ei_ (a))), some (.int (ei_ (b))), some (.int (ei_ (s))), some (.int (ei_ ((n + 1)))), some (.int (ei_ (0))), some (.int (ei_ (x53))), some (.int ((ei_ (k2)) + (ei_ (1))))], [], m)) rfl ?_
                            refine pw_cv (congrArg (fun z_ : Int32 => ((82, [some (.ref 0), some (.int (ei_ (a))), some (.int (ei_ (b))), some (.int (ei_ (s))), some (.int (ei_ ((n + 1)))), some (.int (ei_ (0))), some (.int (ei_ (x53))), some (.int z_)], [], m) : am_S)) (ei_add rfl rfl)) ?_
                            exact ih40 _ (by omega) (n + 1) 0 x53 (k2 + 1) rfl (by omega) (by exact rh_s hr (by omega) ⟨by omega, by omega⟩ g54)
                  exact L41 _ 1 1 x36 0 rfl (by omega) (by first | exact rh_01 (by omega) g37 | exact rh_00 (by omega) g37)
              · refine pw_steps 3 (s' := (44, [some (.ref 0), some (.int (ei_ (a))), some (.int (ei_ (b))), some (.int (ei_ (s))), some (.int (ei_ (k))), none, none, none], [.int (ei_ (s)), .ref 3], m)) rfl ?_
                refine pw_call (As := [.int (ei_ (s))]) (st := []) (k := 3) rfl rfl rfl rfl rfl (Nat.le_of_ble_eq_true rfl) ?_
                refine cw_wearer2 (p4) (by omega) (fun x56 g57 g58 => ?_)
                have hx4_ := p1.1 s (by omega) (by omega)
                refine pw_steps 3 (s' := (27, [some (.ref 0), some (.int (ei_ (a))), some (.int (ei_ (b))), some (.int (ei_ (x56))), some (.int ((ei_ (k)) + (ei_ (1)))), none, none, none], [], m)) rfl ?_
                refine pw_cv (congrArg (fun z_ : Int32 => ((27, [some (.ref 0), some (.int (ei_ (a))), some (.int (ei_ (b))), some (.int (ei_ (x56))), some (.int z_), none, none, none], [], m) : am_S)) (ei_add rfl rfl)) ?_
                exact ih7 _ (by omega) x56 (k + 1) rfl (by omega) (by rw [wk_s (by omega), ← hw]; exact g57)
          exact L8 _ a 0 rfl (by omega) (by rfl)
        · refine pw_steps 1 (s' := (21, [some (.ref 0), some (.int (ei_ (a))), some (.int (ei_ (b))), none, none, none, none, none], [.int (ei_ ((-1)))], m)) rfl ?_
          refine pw_iret rfl rfl rfl ?_
          exact k0 (-1) (by exact ⟨fun h_ => absurd h_ (by omega), fun _ => rfl⟩)

set_option maxHeartbeats 4000000 in
set_option maxRecDepth 20000 in
theorem ms_ring {q : am_X} {d : Nat} {m : am_M} {Q : Option Value → am_M → Prop} {m0 : am_M} {a : Int} {b : Int}  (p0 : rP_ m0) (p1 : rD_ m0) (p2 : rZ_ m0) (p3 : rL_ m0) (p4 : sm_ pSc m0 m) (p5 : -2147483648 ≤ a ∧ a < 2147483648) (p6 : -2147483648 ≤ b ∧ b < 2147483648) (k0 : ∀ (x : Int), (rr_ m0 8 a b x) → Q (some (.int (ei_ (x)))) m) : pw_C q (d + 60) 226 [.ref 47, .int (ei_ (a)), .int (ei_ (b))] m Q := by
  obtain ⟨hP1, hP2, hP3, hP4⟩ := id p0
  have hmw := mW_of p0 p1
  have hmf := mF_of p0 p1
  refine pw_intro (I := iX9_ring) (T := tX9_ring) rfl rfl rfl ?_
  refine pw_steps 3 (s' := (3, [some (.ref 47), some (.int (ei_ (a))), some (.int (ei_ (b))), none, none, none, none], [.long ((ei_ (a)).toInt64), .ref 47], m)) rfl ?_
  refine pw_cv (congrArg (fun z_ : Int64 => ((3, [some (.ref 47), some (.int (ei_ (a))), some (.int (ei_ (b))), none, none, none, none], [.long z_, .ref 47], m) : am_S)) (el_i2l p5 rfl)) ?_
  refine pw_call (As := [.long (el_ (a))]) (st := []) (k := 47) rfl rfl rfl rfl rfl (Nat.le_of_ble_eq_true rfl) ?_
  refine pw_intro (I := iX9_isOne) (T := tX9_isOne) rfl rfl rfl ?_
  refine pw_steps 3 (s' := (3, [some (.ref 47), some (.long (el_ (a))), none], [.ref 47, .long (el_ (0)), .long (el_ (a))], m)) rfl ?_
  refine pw_get rfl rfl (fun x1 (hx1 : x1 = vi_ m 47 6) rx1 sx1 => ?_)
  have ox1 := hx1
  replace hx1 : x1 = vi_ m0 47 6 := hx1.trans (sm_v p4 rfl)
  refine pw_steps 3 (s' := (9, [some (.ref 47), some (.long (el_ (a))), none], [.long (((ei_ (x1)) - (ei_ (1))).toInt64), .long (el_ (0)), .long (el_ (a))], m)) rfl ?_
  refine pw_cv (congrArg (fun z_ : Int64 => ((9, [some (.ref 47), some (.long (el_ (a))), none], [.long z_, .long (el_ (0)), .long (el_ (a))], m) : am_S)) (el_i2l (by omega) (ei_sub rfl rfl))) ?_
  refine pw_callS (As := [.long (el_ (a)), .long (el_ (0)), .long (el_ ((x1 - 1)))]) (st := []) rfl (by decide) rfl rfl (Nat.le_of_ble_eq_true rfl) ?_
  refine mt_within (by omega) (by omega) (by omega) (fun g2 g3 => ?_) (fun g4 => ?_) (fun g5 => ?_)
  · refine pw_iret rfl rfl rfl ?_
    refine pw_ifF rfl (by decide) (show ¬ (1 = 0) by decide) ?_
    refine pw_steps 4 (s' := (13, [some (.ref 47), some (.int (ei_ (a))), some (.int (ei_ (b))), none, none, none, none], [.long (el_ (1)), .long (el_ (0)), .long ((ei_ (b)).toInt64)], m)) rfl ?_
    refine pw_cv (congrArg (fun z_ : Int64 => ((13, [some (.ref 47), some (.int (ei_ (a))), some (.int (ei_ (b))), none, none, none, none], [.long (el_ (1)), .long (el_ (0)), .long z_], m) : am_S)) (el_i2l p6 rfl)) ?_
    refine pw_callS (As := [.long (el_ (b)), .long (el_ (0)), .long (el_ (1))]) (st := []) rfl (by decide) rfl rfl (Nat.le_of_ble_eq_true rfl) ?_
    refine mt_within (by omega) (by omega) (by omega) (fun g6 g7 => ?_) (fun g8 => ?_) (fun g9 => ?_)
    · refine pw_ifT rfl (by decide) (show ¬ 1 = 0 by decide) ?_
      refine pw_steps 4 (s' := (26, [some (.ref 47), some (.int (ei_ (a))), some (.int (ei_ (b))), some (.int (ei_ (a))), some (.int (ei_ (0))), none, none], [], m)) rfl ?_
      have L12 : ∀ (n10 : Nat) (s : Int) (k : Int), (8 - k).toNat = n10 → (0 ≤ k ∧ k ≤ 8 ∧ 0 ≤ s ∧ s < vi_ m0 1 1) → (s = wk_ (vi_ m0 4) a k.toNat) → pw_V q (d + 59) iX9_ring.2.2.2.1 tX9_ring Q (26, [some (.ref 47), some (.int (ei_ (a))), some (.int (ei_ (b))), some (.int (ei_ (s))), some (.int (ei_ (k))), none, none], [], m) := by
        intro n10
        induction n10 using Nat.strongRecOn with
        | _ n10 ih11 =>
          intro s k hm_n10 v13 hw
          refine pw_steps 2 (s' := (30, [some (.ref 47), some (.int (ei_ (a))), some (.int (ei_ (b))), some (.int (ei_ (s))), some (.int (ei_ (k))), none, none], [.int (ei_ (8)), .int (ei_ (k))], m)) rfl ?_
          refine pw_cmp rfl (by omega) (by decide) (fun (h14 : 8 ≤ k) => ?_) (fun (h14 : ¬ (8 ≤ k)) => ?_)
          · refine pw_steps 4 (s' := (51, [some (.ref 47), some (.int (ei_ (a))), some (.int (ei_ (b))), some (.int (ei_ (s))), some (.int (ei_ (1))), none, none], [.int (ei_ (a)), .int (ei_ (s))], m)) rfl ?_
            refine pw_cmp rfl (by omega) p5 (fun (h15 : ¬ s = a) => ?_) (fun (h15 : ¬ ¬ s = a) => ?_)
            · refine pw_steps 5 (s' := (66, [some (.ref 47), some (.int (ei_ (a))), some (.int (ei_ (b))), some (.int (ei_ (s))), some (.int (ei_ (1))), some (.int (ei_ (0))), none], [.int (ei_ (s)), .ref 52], m)) rfl ?_
              refine pw_ild rfl rfl (by omega) (fun x16 (hx16 : x16 = vi_ m 52 s) rx16 sx16 => ?_)
              have ox16 := hx16
              replace hx16 : x16 = vi_ m0 52 s := hx16.trans (sm_v p4 rfl)
              have b17 := hmw s (by omega) (by omega)
              have b17b := (p1.2.2.1 s (by omega) (by omega)).1
              refine pw_steps 1 (s' := (69, [some (.ref 47), some (.int (ei_ (a))), some (.int (ei_ (b))), some (.int (ei_ (s))), some (.int (ei_ (1))), some (.int (ei_ (0))), some (.int (ei_ (x16)))], [], m)) rfl ?_
              have L20 : ∀ (n18 : Nat) (n : Int) (v : Int) (w2 : Int), (9 - n).toNat = n18 → (0 ≤ w2 ∧ w2 < vi_ m0 1 1) → (1 ≤ n ∧ n ≤ 8) → (0 ≤ v ∧ v ≤ 1) → (rh_ (vi_ m0 4) s a n v w2) → pw_V q (d + 59) iX9_ring.2.2.2.1 tX9_ring Q (69, [some (.ref 47), some (.int (ei_ (a))), some (.int (ei_ (b))), some (.int (ei_ (s))), some (.int (ei_ (n))), some (.int (ei_ (v))), some (.int (ei_ (w2)))], [], m) := by
                intro n18
                induction n18 using Nat.strongRecOn with
                | _ n18 ih19 =>
                  intro n v w2 hm_n18 v21 hn8 hv1 hr
                  refine pw_steps 2 (s' := (72, [some (.ref 47), some (.int (ei_ (a))), some (.int (ei_ (b))), some (.int (ei_ (s))), some (.int (ei_ (n))), some (.int (ei_ (v))), some (.int (ei_ (w2)))], [.int (ei_ (s)), .int (ei_ (w2))], m)) rfl ?_
                  refine pw_cmp rfl (by omega) (by omega) (fun (h22 : w2 = s) => ?_) (fun (h22 : ¬ (w2 = s)) => ?_)
                  · refine pw_steps 1 (s' := (107, [some (.ref 47), some (.int (ei_ (a))), some (.int (ei_ (b))), some (.int (ei_ (s))), some (.int (ei_ (n))), some (.int (ei_ (v))), some (.int (ei_ (w2)))], [.int (ei_ (b))], m)) rfl ?_
                    refine pw_if rfl p6 (fun (h23 : ¬ b = 0) => ?_) (fun (h23 : ¬ ¬ b = 0) => ?_)
                    · refine pw_steps 1 (s' := (117, [some (.ref 47), some (.int (ei_ (a))), some (.int (ei_ (b))), some (.int (ei_ (s))), some (.int (ei_ (n))), some (.int (ei_ (v))), some (.int (ei_ (w2)))], [.int (ei_ (v))], m)) rfl ?_
                      refine pw_if rfl (by omega) (fun (h24 : v = 0) => ?_) (fun (h24 : ¬ (v = 0)) => ?_)
                      · refine pw_steps 1 (s' := (125, [some (.ref 47), some (.int (ei_ (a))), some (.int (ei_ (b))), some (.int (ei_ (s))), some (.int (ei_ (n))), some (.int (ei_ (v))), some (.int (ei_ (w2)))], [.int (ei_ (0))], m)) rfl ?_
                        refine pw_iret rfl rfl rfl ?_
                        exact k0 0 (by have hl_ := wk_c8 p0 p1 (a := a) ⟨by omega, by omega⟩ k.toNat (by omega); rw [← hw] at hl_; have hs_ : w2 = s := Decidable.byContradiction (fun c_ => by have q_ := rh_l hr c_ hl_; omega); exact ⟨fun _ => ⟨n, v, by rw [show 8 = k.toNat by omega, ← hw]; exact rh_e hr hs_, by omega⟩, fun h_ => absurd ⟨⟨by omega, by omega⟩, by omega, by omega⟩ h_⟩)
                      · refine pw_steps 2 (s' := (125, [some (.ref 47), some (.int (ei_ (a))), some (.int (ei_ (b))), some (.int (ei_ (s))), some (.int (ei_ (n))), some (.int (ei_ (v))), some (.int (ei_ (w2)))], [.int (ei_ (1))], m)) rfl ?_
                        refine pw_iret rfl rfl rfl ?_
                        exact k0 1 (by have hl_ := wk_c8 p0 p1 (a := a) ⟨by omega, by omega⟩ k.toNat (by omega); rw [← hw] at hl_; have hs_ : w2 = s := Decidable.byContradiction (fun c_ => by have q_ := rh_l hr c_ hl_; omega); exact ⟨fun _ => ⟨n, v, by rw [show 8 = k.toNat by omega, ← hw]; exact rh_e hr hs_, by omega⟩, fun h_ => absurd ⟨⟨by omega, by omega⟩, by omega, by omega⟩ h_⟩)
                    · refine pw_steps 2 (s' := (125, [some (.ref 47), some (.int (ei_ (a))), some (.int (ei_ (b))), some (.int (ei_ (s))), some (.int (ei_ (n))), some (.int (ei_ (v))), some (.int (ei_ (w2)))], [.int (ei_ (n))], m)) rfl ?_
                      refine pw_iret rfl rfl rfl ?_
                      exact k0 n (by have hl_ := wk_c8 p0 p1 (a := a) ⟨by omega, by omega⟩ k.toNat (by omega); rw [← hw] at hl_; have hs_ : w2 = s := Decidable.byContradiction (fun c_ => by have q_ := rh_l hr c_ hl_; omega); exact ⟨fun _ => ⟨n, v, by rw [show 8 = k.toNat by omega, ← hw]; exact rh_e hr hs_, by omega⟩, fun h_ => absurd ⟨⟨by omega, by omega⟩, by omega, by omega⟩ h_⟩)
                  · refine pw_steps 4 (s' := (83, [some (.ref 47), some (.int (ei_ (a))), some (.int (ei_ (b))), some (.int (ei_ (s))), some (.int ((ei_ (n)) + (ei_ (1)))), some (.int (ei_ (v))), some (.int (ei_ (w2)))], [.int (ei_ (a)), .int (ei_ (w2)), .int (ei_ (v))], m)) rfl ?_
                    refine pw_cv (congrArg (fun z_ : Int32 => ((83, [some (.ref 47), some (.int (ei_ (a))), some (.int (ei_ (b))), some (.int (ei_ (s))), some (.int z_), some (.int (ei_ (v))), some (.int (ei_ (w2)))], [.int (ei_ (a)), .int (ei_ (w2)), .int (ei_ (v))], m) : am_S)) (ei_add rfl rfl)) ?_
                    refine pw_cmp rfl (by omega) p5 (fun (h25 : ¬ w2 = a) => ?_) (fun (h25 : ¬ ¬ w2 = a) => ?_)
                    · refine pw_steps 6 (s' := (100, [some (.ref 47), some (.int (ei_ (a))), some (.int (ei_ (b))), some (.int (ei_ (s))), some (.int (ei_ ((n + 1)))), some (.int (((ei_ (v)) ||| (ei_ (0))))), some (.int (ei_ (w2)))], [.int (ei_ (w2)), .ref 52], m)) rfl ?_
                      refine pw_cv (congrArg (fun z_ : Int32 => ((100, [some (.ref 47), some (.int (ei_ (a))), some (.int (ei_ (b))), some (.int (ei_ (s))), some (.int (ei_ ((n + 1)))), some (.int z_), some (.int (ei_ (w2)))], [.int (ei_ (w2)), .ref 52], m) : am_S)) (ei_or rfl rfl)) ?_
                      refine pw_ild rfl rfl (by omega) (fun x26 (hx26 : x26 = vi_ m 52 w2) rx26 sx26 => ?_)
                      have ox26 := hx26
                      replace hx26 : x26 = vi_ m0 52 w2 := hx26.trans (sm_v p4 rfl)
                      have b27 := hmw w2 (by omega) (by omega)
                      have b27b := (p1.2.2.1 w2 (by omega) (by omega)).1
                      refine pw_steps 2 (s' := (69, [some (.ref 47), some (.int (ei_ (a))), some (.int (ei_ (b))), some (.int (ei_ (s))), some (.int (ei_ ((n + 1)))), some (.int (ei_ ((or_ v 0)))), some (.int (ei_ (x26)))], [], m)) rfl ?_
                      exact ih19 _ (by omega) (n + 1) (or_ v 0) x26 rfl (by omega) (by have hl_ := wk_c8 p0 p1 (a := a) ⟨by omega, by omega⟩ k.toNat (by omega); rw [← hw] at hl_; have q_ := rh_l hr (by omega) hl_; omega) (by have o1_ := or_b1 (v := v) (by omega); have o0_ := or_b0 (v := v) (by omega); omega) (by have o1_ := or_b1 (v := v) (by omega); have o0_ := or_b0 (v := v) (by omega); exact rh_s hr (by omega) ⟨by omega, by omega⟩ (by omega))
                    · refine pw_steps 7 (s' := (100, [some (.ref 47), some (.int (ei_ (a))), some (.int (ei_ (b))), some (.int (ei_ (s))), some (.int (ei_ ((n + 1)))), some (.int (((ei_ (v)) ||| (ei_ (1))))), some (.int (ei_ (w2)))], [.int (ei_ (w2)), .ref 52], m)) rfl ?_
                      refine pw_cv (congrArg (fun z_ : Int32 => ((100, [some (.ref 47), some (.int (ei_ (a))), some (.int (ei_ (b))), some (.int (ei_ (s))), some (.int (ei_ ((n + 1)))), some (.int z_), some (.int (ei_ (w2)))], [.int (ei_ (w2)), .ref 52], m) : am_S)) (ei_or rfl rfl)) ?_
                      refine pw_ild rfl rfl (by omega) (fun x28 (hx28 : x28 = vi_ m 52 w2) rx28 sx28 => ?_)
                      have ox28 := hx28
                      replace hx28 : x28 = vi_ m0 52 w2 := hx28.trans (sm_v p4 rfl)
                      have b29 := hmw w2 (by omega) (by omega)
                      have b29b := (p1.2.2.1 w2 (by omega) (by omega)).1
                      refine pw_steps 2 (s' := (69, [some (.ref 47), some (.int (ei_ (a))), some (.int (ei_ (b))), some (.int (ei_ (s))), some (.int (ei_ ((n + 1)))), some (.int (ei_ ((or_ v 1)))), some (.int (ei_ (x28)))], [], m)) rfl ?_
                      exact ih19 _ (by omega) (n + 1) (or_ v 1) x28 rfl (by omega) (by have hl_ := wk_c8 p0 p1 (a := a) ⟨by omega, by omega⟩ k.toNat (by omega); rw [← hw] at hl_; have q_ := rh_l hr (by omega) hl_; omega) (by have o1_ := or_b1 (v := v) (by omega); have o0_ := or_b0 (v := v) (by omega); omega) (by have o1_ := or_b1 (v := v) (by omega); have o0_ := or_b0 (v := v) (by omega); exact rh_s hr (by omega) ⟨by omega, by omega⟩ (by omega))
              exact L20 _ 1 0 x16 rfl (by omega) (by omega) (by omega) (by first | exact rh_01 (by omega) (by omega) | exact rh_00 (by omega) (by omega))
            · refine pw_steps 6 (s' := (66, [some (.ref 47), some (.int (ei_ (a))), some (.int (ei_ (b))), some (.int (ei_ (s))), some (.int (ei_ (1))), some (.int (ei_ (1))), none], [.int (ei_ (s)), .ref 52], m)) rfl ?_
              refine pw_ild rfl rfl (by omega) (fun x30 (hx30 : x30 = vi_ m 52 s) rx30 sx30 => ?_)
              have ox30 := hx30
              replace hx30 : x30 = vi_ m0 52 s := hx30.trans (sm_v p4 rfl)
              have b31 := hmw s (by omega) (by omega)
              have b31b := (p1.2.2.1 s (by omega) (by omega)).1
              refine pw_steps 1 (s' := (69, [some (.ref 47), some (.int (ei_ (a))), some (.int (ei_ (b))), some (.int (ei_ (s))), some (.int (ei_ (1))), some (.int (ei_ (1))), some (.int (ei_ (x30)))], [], m)) rfl ?_
              have L34 : ∀ (n32 : Nat) (n : Int) (v : Int) (w2 : Int), (9 - n).toNat = n32 → (0 ≤ w2 ∧ w2 < vi_ m0 1 1) → (1 ≤ n ∧ n ≤ 8) → (0 ≤ v ∧ v ≤ 1) → (rh_ (vi_ m0 4) s a n v w2) → pw_V q (d + 59) iX9_ring.2.2.2.1 tX9_ring Q (69, [some (.ref 47), some (.int (ei_ (a))), some (.int (ei_ (b))), some (.int (ei_ (s))), some (.int (ei_ (n))), some (.int (ei_ (v))), some (.int (ei_ (w2)))], [], m) := by
                intro n32
                induction n32 using Nat.strongRecOn with
                | _ n32 ih33 =>
                  intro n v w2 hm_n32 v35 hn8 hv1 hr
                  refine pw_steps 2 (s' := (72, [some (.ref 47), some (.int (ei_ (a))), some (.int (ei_ (b))), some (.int (ei_ (s))), some (.int (ei_ (n))), some (.int (ei_ (v))), some (.int (ei_ (w2)))], [.int (ei_ (s)), .int (ei_ (w2))], m)) rfl ?_
                  refine pw_cmp rfl (by omega) (by omega) (fun (h36 : w2 = s) => ?_) (fun (h36 : ¬ (w2 = s)) => ?_)
                  · refine pw_steps 1 (s' := (107, [some (.ref 47), some (.int (ei_ (a))), some (.int (ei_ (b))), some (.int (ei_ (s))), some (.int (ei_ (n))), some (.int (ei_ (v))), some (.int (ei_ (w2)))], [.int (ei_ (b))], m)) rfl ?_
                    refine pw_if rfl p6 (fun (h37 : ¬ b = 0) => ?_) (fun (h37 : ¬ ¬ b = 0) => ?_)
                    · refine pw_steps 1 (s' := (117, [some (.ref 47), some (.int (ei_ (a))), some (.int (ei_ (b))), some (.int (ei_ (s))), some (.int (ei_ (n))), some (.int (ei_ (v))), some (.int (ei_ (w2)))], [.int (ei_ (v))], m)) rfl ?_
                      refine pw_if rfl (by omega) (fun (h38 : v = 0) => ?_) (fun (h38 : ¬ (v = 0)) => ?_)
                      · refine pw_steps 1 (s' := (125, [some (.ref 47), some (.int (ei_ (a))), some (.int (ei_ (b))), some (.int (ei_ (s))), some (.int (ei_ (n))), some (.int (ei_ (v))), some (.int (ei_ (w2)))], [.int (ei_ (0))], m)) rfl ?_
                        refine pw_iret rfl rfl rfl ?_
                        exact k0 0 (by have hl_ := wk_c8 p0 p1 (a := a) ⟨by omega, by omega⟩ k.toNat (by omega); rw [← hw] at hl_; have hs_ : w2 = s := Decidable.byContradiction (fun c_ => by have q_ := rh_l hr c_ hl_; omega); exact ⟨fun _ => ⟨n, v, by rw [show 8 = k.toNat by omega, ← hw]; exact rh_e hr hs_, by omega⟩, fun h_ => absurd ⟨⟨by omega, by omega⟩, by omega, by omega⟩ h_⟩)
                      · refine pw_steps 2 (s' := (125, [some (.ref 47), some (.int (ei_ (a))), some (.int (ei_ (b))), some (.int (ei_ (s))), some (.int (ei_ (n))), some (.int (ei_ (v))), some (.int (ei_ (w2)))], [.int (ei_ (1))], m)) rfl ?_
                        refine pw_iret rfl rfl rfl ?_
                        exact k0 1 (by have hl_ := wk_c8 p0 p1 (a := a) ⟨by omega, by omega⟩ k.toNat (by omega); rw [← hw] at hl_; have hs_ : w2 = s := Decidable.byContradiction (fun c_ => by have q_ := rh_l hr c_ hl_; omega); exact ⟨fun _ => ⟨n, v, by rw [show 8 = k.toNat by omega, ← hw]; exact rh_e hr hs_, by omega⟩, fun h_ => absurd ⟨⟨by omega, by omega⟩, by omega, by omega⟩ h_⟩)
                    · refine pw_steps 2 (s' := (125, [some (.ref 47), some (.int (ei_ (a))), some (.int (ei_ (b))), some (.int (ei_ (s))), some (.int (ei_ (n))), some (.int (ei_ (v))), some (.int (ei_ (w2)))], [.int (ei_ (n))], m)) rfl ?_
                      refine pw_iret rfl rfl rfl ?_
                      exact k0 n (by have hl_ := wk_c8 p0 p1 (a := a) ⟨by omega, by omega⟩ k.toNat (by omega); rw [← hw] at hl_; have hs_ : w2 = s := Decidable.byContradiction (fun c_ => by have q_ := rh_l hr c_ hl_; omega); exact ⟨fun _ => ⟨n, v, by rw [show 8 = k.toNat by omega, ← hw]; exact rh_e hr hs_, by omega⟩, fun h_ => absurd ⟨⟨by omega, by omega⟩, by omega, by omega⟩ h_⟩)
                  · refine pw_steps 4 (s' := (83, [some (.ref 47), some (.int (ei_ (a))), some (.int (ei_ (b))), some (.int (ei_ (s))), some (.int ((ei_ (n)) + (ei_ (1)))), some (.int (ei_ (v))), some (.int (ei_ (w2)))], [.int (ei_ (a)), .int (ei_ (w2)), .int (ei_ (v))], m)) rfl ?_
                    refine pw_cv (congrArg (fun z_ : Int32 => ((83, [some (.ref 47), some (.int (ei_ (a))), some (.int (ei_ (b))), some (.int (ei_ (s))), some (.int z_), some (.int (ei_ (v))), some (.int (ei_ (w2)))], [.int (ei_ (a)), .int (ei_ (w2)), .int (ei_ (v))], m) : am_S)) (ei_add rfl rfl)) ?_
                    refine pw_cmpT rfl (by omega) p5 (show ¬ w2 = a by omega) ?_
                    refine pw_steps 6 (s' := (100, [some (.ref 47), some (.int (ei_ (a))), some (.int (ei_ (b))), some (.int (ei_ (s))), some (.int (ei_ ((n + 1)))), some (.int (((ei_ (v)) ||| (ei_ (0))))), some (.int (ei_ (w2)))], [.int (ei_ (w2)), .ref 52], m)) rfl ?_
                    refine pw_cv (congrArg (fun z_ : Int32 => ((100, [some (.ref 47), some (.int (ei_ (a))), some (.int (ei_ (b))), some (.int (ei_ (s))), some (.int (ei_ ((n + 1)))), some (.int z_), some (.int (ei_ (w2)))], [.int (ei_ (w2)), .ref 52], m) : am_S)) (ei_or rfl rfl)) ?_
                    refine pw_ild rfl rfl (by omega) (fun x39 (hx39 : x39 = vi_ m 52 w2) rx39 sx39 => ?_)
                    have ox39 := hx39
                    replace hx39 : x39 = vi_ m0 52 w2 := hx39.trans (sm_v p4 rfl)
                    have b40 := hmw w2 (by omega) (by omega)
                    have b40b := (p1.2.2.1 w2 (by omega) (by omega)).1
                    refine pw_steps 2 (s' := (69, [some (.ref 47), some (.int (ei_ (a))), some (.int (ei_ (b))), some (.int (ei_ (s))), some (.int (ei_ ((n + 1)))), some (.int (ei_ ((or_ v 0)))), some (.int (ei_ (x39)))], [], m)) rfl ?_
                    exact ih33 _ (by omega) (n + 1) (or_ v 0) x39 rfl (by omega) (by have hl_ := wk_c8 p0 p1 (a := a) ⟨by omega, by omega⟩ k.toNat (by omega); rw [← hw] at hl_; have q_ := rh_l hr (by omega) hl_; omega) (by have o1_ := or_b1 (v := v) (by omega); have o0_ := or_b0 (v := v) (by omega); omega) (by have o1_ := or_b1 (v := v) (by omega); have o0_ := or_b0 (v := v) (by omega); exact rh_s hr (by omega) ⟨by omega, by omega⟩ (by omega))
              exact L34 _ 1 1 x30 rfl (by omega) (by omega) (by omega) (by first | exact rh_01 (by omega) (by omega) | exact rh_00 (by omega) (by omega))
          · refine pw_steps 3 (s' := (38, [some (.ref 47), some (.int (ei_ (a))), some (.int (ei_ (b))), some (.int (ei_ (s))), some (.int (ei_ (k))), none, none], [.int (ei_ (s)), .ref 52], m)) rfl ?_
            refine pw_ild rfl rfl (by omega) (fun x41 (hx41 : x41 = vi_ m 52 s) rx41 sx41 => ?_)
            have ox41 := hx41
            replace hx41 : x41 = vi_ m0 52 s := hx41.trans (sm_v p4 rfl)
            have b42 := hmw s (by omega) (by omega)
            have b42b := (p1.2.2.1 s (by omega) (by omega)).1
            refine pw_steps 3 (s' := (26, [some (.ref 47), some (.int (ei_ (a))), some (.int (ei_ (b))), some (.int (ei_ (x41))), some (.int ((ei_ (k)) + (ei_ (1)))), none, none], [], m)) rfl ?_
            refine pw_cv (congrArg (fun z_ : Int32 => ((26, [some (.ref 47), some (.int (ei_ (a))), some (.int (ei_ (b))), some (.int (ei_ (x41))), some (.int z_), none, none], [], m) : am_S)) (ei_add rfl rfl)) ?_
            exact ih11 _ (by omega) x41 (k + 1) rfl (by omega) (by rw [wk_s (by omega), ← hw]; omega)
      exact L12 _ a 0 rfl (by omega) (by rfl)
    · refine pw_ifF rfl (by decide) (show ¬ (¬ 0 = 0) by decide) ?_
      refine pw_steps 1 (s' := (20, [some (.ref 47), some (.int (ei_ (a))), some (.int (ei_ (b))), none, none, none, none], [.int (ei_ ((-1)))], m)) rfl ?_
      refine pw_iret rfl rfl rfl ?_
      exact k0 (-1) (by exact ⟨fun h_ => absurd h_ (by omega), fun _ => rfl⟩)
    · refine pw_ifF rfl (by decide) (show ¬ (¬ 0 = 0) by decide) ?_
      refine pw_steps 1 (s' := (20, [some (.ref 47), some (.int (ei_ (a))), some (.int (ei_ (b))), none, none, none, none], [.int (ei_ ((-1)))], m)) rfl ?_
      refine pw_iret rfl rfl rfl ?_
      exact k0 (-1) (by exact ⟨fun h_ => absurd h_ (by omega), fun _ => rfl⟩)
  · refine pw_iret rfl rfl rfl ?_
    refine pw_ifT rfl (by decide) (show 0 = 0 by decide) ?_
    refine pw_steps 1 (s' := (20, [some (.ref 47), some (.int (ei_ (a))), some (.int (ei_ (b))), none, none, none, none], [.int (ei_ ((-1)))], m)) rfl ?_
    refine pw_iret rfl rfl rfl ?_
    exact k0 (-1) (by exact ⟨fun h_ => absurd h_ (by omega), fun _ => rfl⟩)
  · refine pw_iret rfl rfl rfl ?_
    refine pw_ifT rfl (by decide) (show 0 = 0 by decide) ?_
    refine pw_steps 1 (s' := (20, [some (.ref 47), some (.int (ei_ (a))), some (.int (ei_ (b))), none, none, none, none], [.int (ei_ ((-1)))], m)) rfl ?_
    refine pw_iret rfl rfl rfl ?_
    exact k0 (-1) (by exact ⟨fun h_ => absurd h_ (by omega), fun _ => rfl⟩)

theorem op_ring {q : am_X} {d : Nat} {m : am_M} {a b : Int} (q0 : -2147483648 ≤ a ∧ a < 2147483648) (q1 : -2147483648 ≤ b ∧ b < 2147483648) (hR : rR_ m) : pw_C q (d + 60) 88 [.ref 0, .int (ei_ a), .int (ei_ b)] m (fun r1 m1 => pw_C q (d + 60) 226 [.ref 47, .int (ei_ a), .int (ei_ b)] m1 (fun r2 m2 => ∃ x : Int, r1 = some (.int (ei_ x)) ∧ r2 = some (.int (ei_ x)) ∧ rR_ m2)) := by
  obtain ⟨hp, hd, hi, ht, hl, hz, hc, ha, hs⟩ := id hR
  have hP := hp.1
  refine cs_ring hp hd hz hl (sm_rfl m) q0 q1 (fun x e1 => ?_)
  refine ms_ring hp hd hz hl (sm_rfl m) q0 q1 (fun y e2 => ?_)
  have e : y = x := by
    by_cases c : (0 ≤ a ∧ a < vi_ m 1 1) ∧ 0 ≤ b ∧ b ≤ 1
    · obtain ⟨n, v, g1, g2⟩ := e1.1 c
      obtain ⟨n2, v2, g3, g4⟩ := e2.1 c
      have t := rg_eq g1 g3 (8 - (vi_ m 1 1).toNat) (by rw [← wk_a, show (vi_ m 1 1).toNat + (8 - (vi_ m 1 1).toNat) = 8 by omega])
      rw [g2, g4, t.1, t.2]
    · rw [e1.2 c, e2.2 c]
  exact ⟨x, rfl, by rw [e], hR⟩

