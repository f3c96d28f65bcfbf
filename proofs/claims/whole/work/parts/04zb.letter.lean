
/-! ===== letter ===== -/
def p2_ (p : Int) : Int := if p = 0 then 1 else if p = 1 then 2 else if p = 2 then 4 else if p = 3 then 8 else if p = 4 then 16 else if p = 5 then 32 else if p = 6 then 64 else 128
def bi_ (s p : Int) : Int := s / p2_ p % 2
def ad_ (s p : Int) : Int := if bi_ s p = 1 then s else s + p2_ p
def pp_ (s : Int) : Int := s % 2 + s / 2 % 2 + s / 4 % 2 + s / 8 % 2 + s / 16 % 2 + s / 32 % 2 + s / 64 % 2 + s / 128 % 2
set_option maxRecDepth 100000 in
theorem or_fin : ∀ s : Fin 256, ∀ w : Fin 8, or_ (s.val : Int) (sl_ 1 (w.val : Int)) = ad_ (s.val : Int) (w.val : Int) := by decide +kernel
set_option maxRecDepth 100000 in
theorem ad_fin : ∀ s : Fin 256, ∀ w : Fin 8, (0 ≤ ad_ (s.val : Int) (w.val : Int) ∧ ad_ (s.val : Int) (w.val : Int) < 256) ∧ pp_ (ad_ (s.val : Int) (w.val : Int)) = pp_ (s.val : Int) + (if bi_ (s.val : Int) (w.val : Int) = 1 then 0 else 1) ∧ ∀ p : Fin 8, bi_ (ad_ (s.val : Int) (w.val : Int)) (p.val : Int) = if p = w then 1 else bi_ (s.val : Int) (p.val : Int) := by decide +kernel
theorem or_ad {s w : Int} (hs : 0 ≤ s ∧ s < 256) (hw : 0 ≤ w ∧ w < 8) : or_ s (sl_ 1 w) = ad_ s w := by
  have h := or_fin ⟨s.toNat, by omega⟩ ⟨w.toNat, by omega⟩
  simp only [Int.toNat_of_nonneg hs.1, Int.toNat_of_nonneg hw.1] at h
  exact h
theorem ad_all {s w : Int} (hs : 0 ≤ s ∧ s < 256) (hw : 0 ≤ w ∧ w < 8) : (0 ≤ ad_ s w ∧ ad_ s w < 256) ∧ pp_ (ad_ s w) = pp_ s + (if bi_ s w = 1 then 0 else 1) ∧ ∀ p, 0 ≤ p → p < 8 → bi_ (ad_ s w) p = if p = w then 1 else bi_ s p := by
  have h := ad_fin ⟨s.toNat, by omega⟩ ⟨w.toNat, by omega⟩
  simp only [Int.toNat_of_nonneg hs.1, Int.toNat_of_nonneg hw.1] at h
  refine ⟨h.1, h.2.1, fun p h1 h2 => ?_⟩
  have g := h.2.2 ⟨p.toNat, by omega⟩
  simp only [Int.toNat_of_nonneg h1] at g
  rw [g]
  by_cases e : p = w
  · rw [if_pos e, if_pos (by simp only [Fin.mk.injEq]; omega)]
  · rw [if_neg e, if_neg (by simp only [Fin.mk.injEq]; omega)]
def wk_ (f : Int → Int) (x : Int) : Nat → Int
  | 0 => x
  | k + 1 => f (wk_ f x k)
def mk_ (f : Int → Int) (x : Int) : Nat → Int
  | 0 => ad_ 0 x
  | k + 1 => ad_ (mk_ f x k) (wk_ f x (k + 1))
theorem wk_s {f : Int → Int} {x k : Int} (h : 0 ≤ k) : wk_ f x (k + 1).toNat = f (wk_ f x k.toNat) := by
  rw [show (k + 1).toNat = k.toNat + 1 by omega]; rfl
theorem mk_s {f : Int → Int} {x k : Int} (h : 0 ≤ k) : mk_ f x (k + 1).toNat = ad_ (mk_ f x k.toNat) (wk_ f x (k + 1).toNat) := by
  rw [show (k + 1).toNat = k.toNat + 1 by omega]; rfl
def ss_ (m : am_M) (a k w : Int) : Int := if (0 ≤ a ∧ a < vi_ m 1 1) ∧ (0 ≤ k ∧ k ≤ 99) ∧ 0 ≤ w ∧ w ≤ 1 then (if w = 0 then wk_ (vi_ m 4) (vi_ m 4 a) k.toNat else pp_ (mk_ (vi_ m 4) (vi_ m 4 a) k.toNat)) else -1
def bc_ (x0 : Int) : Int :=
  let x1 := x0 - an_ (us_ x0 1) 1431655765
  let x2 := an_ x1 858993459 + an_ (us_ x1 2) 858993459
  let x3 := an_ (x2 + us_ x2 4) 252645135
  let x4 := x3 + us_ x3 8
  let x5 := x4 + us_ x4 16
  an_ x5 63
set_option maxRecDepth 100000 in
theorem bc_fin : ∀ s : Fin 256, bc_ (s.val : Int) = pp_ (s.val : Int) := by decide +kernel
theorem bc_pp {s : Int} (hs : 0 ≤ s ∧ s < 256) : bc_ s = pp_ s := by
  have h := bc_fin ⟨s.toNat, by omega⟩
  simp only [Int.toNat_of_nonneg hs.1] at h
  exact h
theorem pp_b {s : Int} : 0 ≤ pp_ s ∧ pp_ s ≤ 8 := by unfold pp_; omega

set_option maxHeartbeats 4000000 in
set_option maxRecDepth 20000 in
theorem cs_bits {q : am_X} {d : Nat} {m : am_M} {Q : Option Value → am_M → Prop} {s : Int}  (p0 : 0 ≤ s ∧ s < 256) (k0 : ∀ (x : Int), (x = pp_ s) → Q (some (.int (ei_ (x)))) m) : pw_C q (d + 1) 91 [.int (ei_ (s))] m Q := by
  refine pw_intro (I := iJ6_bitCount_0f7a4) (T := tJ6_bitCount_0f7a4) rfl rfl rfl ?_
  refine pw_steps 41 (s' := (52, [some (.int ((((((((ei_ (s)) - ((((((ei_ (s))).toUInt32 >>> (((ei_ (1))).toUInt32 &&& Int32.toUInt32 31)).toInt32)) &&& (ei_ (1431655765)))) &&& (ei_ (858993459))) + (((((((ei_ (s)) - ((((((ei_ (s))).toUInt32 >>> (((ei_ (1))).toUInt32 &&& Int32.toUInt32 31)).toInt32)) &&& (ei_ (1431655765))))).toUInt32 >>> (((ei_ (2))).toUInt32 &&& Int32.toUInt32 31)).toInt32)) &&& (ei_ (858993459)))) + (((((((ei_ (s)) - ((((((ei_ (s))).toUInt32 >>> (((ei_ (1))).toUInt32 &&& Int32.toUInt32 31)).toInt32)) &&& (ei_ (1431655765)))) &&& (ei_ (858993459))) + (((((((ei_ (s)) - ((((((ei_ (s))).toUInt32 >>> (((ei_ (1))).toUInt32 &&& Int32.toUInt32 31)).toInt32)) &&& (ei_ (1431655765))))).toUInt32 >>> (((ei_ (2))).toUInt32 &&& Int32.toUInt32 31)).toInt32)) &&& (ei_ (858993459))))).toUInt32 >>> (((ei_ (4))).toUInt32 &&& Int32.toUInt32 31)).toInt32)) &&& (ei_ (252645135))) + ((((((((((ei_ (s)) - ((((((ei_ (s))).toUInt32 >>> (((ei_ (1))).toUInt32 &&& Int32.toUInt32 31)).toInt32)) &&& (ei_ (1431655765)))) &&& (ei_ (858993459))) + (((((((ei_ (s)) - ((((((ei_ (s))).toUInt32 >>> (((ei_ (1))).toUInt32 &&& Int32.toUInt32 31)).toInt32)) &&& (ei_ (1431655765))))).toUInt32 >>> (((ei_ (2))).toUInt32 &&& Int32.toUInt32 31)).toInt32)) &&& (ei_ (858993459)))) + (((((((ei_ (s)) - ((((((ei_ (s))).toUInt32 >>> (((ei_ (1))).toUInt32 &&& Int32.toUInt32 31)).toInt32)) &&& (ei_ (1431655765)))) &&& (ei_ (858993459))) + (((((((ei_ (s)) - ((((((ei_ (s))).toUInt32 >>> (((ei_ (1))).toUInt32 &&& Int32.toUInt32 31)).toInt32)) &&& (ei_ (1431655765))))).toUInt32 >>> (((ei_ (2))).toUInt32 &&& Int32.toUInt32 31)).toInt32)) &&& (ei_ (858993459))))).toUInt32 >>> (((ei_ (4))).toUInt32 &&& Int32.toUInt32 31)).toInt32)) &&& (ei_ (252645135))))).toUInt32 >>> (((ei_ (8))).toUInt32 &&& Int32.toUInt32 31)).toInt32)) + ((((((((((ei_ (s)) - ((((((ei_ (s))).toUInt32 >>> (((ei_ (1))).toUInt32 &&& Int32.toUInt32 31)).toInt32)) &&& (ei_ (1431655765)))) &&& (ei_ (858993459))) + (((((((ei_ (s)) - ((((((ei_ (s))).toUInt32 >>> (((ei_ (1))).toUInt32 &&& Int32.toUInt32 31)).toInt32)) &&& (ei_ (1431655765))))).toUInt32 >>> (((ei_ (2))).toUInt32 &&& Int32.toUInt32 31)).toInt32)) &&& (ei_ (858993459)))) + (((((((ei_ (s)) - ((((((ei_ (s))).toUInt32 >>> (((ei_ (1))).toUInt32 &&& Int32.toUInt32 31)).toInt32)) &&& (ei_ (1431655765)))) &&& (ei_ (858993459))) + (((((((ei_ (s)) - ((((((ei_ (s))).toUInt32 >>> (((ei_ (1))).toUInt32 &&& Int32.toUInt32 31)).toInt32)) &&& (ei_ (1431655765))))).toUInt32 >>> (((ei_ (2))).toUInt32 &&& Int32.toUInt32 31)).toInt32)) &&& (ei_ (858993459))))).toUInt32 >>> (((ei_ (4))).toUInt32 &&& Int32.toUInt32 31)).toInt32)) &&& (ei_ (252645135))) + ((((((((((ei_ (s)) - ((((((ei_ (s))).toUInt32 >>> (((ei_ (1))).toUInt32 &&& Int32.toUInt32 31)).toInt32)) &&& (ei_ (1431655765)))) &&& (ei_ (858993459))) + (((((((ei_ (s)) - ((((((ei_ (s))).toUInt32 >>> (((ei_ (1))).toUInt32 &&& Int32.toUInt32 31)).toInt32)) &&& (ei_ (1431655765))))).toUInt32 >>> (((ei_ (2))).toUInt32 &&& Int32.toUInt32 31)).toInt32)) &&& (ei_ (858993459)))) + (((((((ei_ (s)) - ((((((ei_ (s))).toUInt32 >>> (((ei_ (1))).toUInt32 &&& Int32.toUInt32 31)).toInt32)) &&& (ei_ (1431655765)))) &&& (ei_ (858993459))) + (((((((ei_ (s)) - ((((((ei_ (s))).toUInt32 >>> (((ei_ (1))).toUInt32 &&& Int32.toUInt32 31)).toInt32)) &&& (ei_ (1431655765))))).toUInt32 >>> (((ei_ (2))).toUInt32 &&& Int32.toUInt32 31)).toInt32)) &&& (ei_ (858993459))))).toUInt32 >>> (((ei_ (4))).toUInt32 &&& Int32.toUInt32 31)).toInt32)) &&& (ei_ (252645135))))).toUInt32 >>> (((ei_ (8))).toUInt32 &&& Int32.toUInt32 31)).toInt32))).toUInt32 >>> (((ei_ (16))).toUInt32 &&& Int32.toUInt32 31)).toInt32)))], [.int ((((((((((ei_ (s)) - ((((((ei_ (s))).toUInt32 >>> (((ei_ (1))).toUInt32 &&& Int32.toUInt32 31)).toInt32)) &&& (ei_ (1431655765)))) &&& (ei_ (858993459))) + (((((((ei_ (s)) - ((((((ei_ (s))).toUInt32 >>> (((ei_ (1))).toUInt32 &&& Int32.toUInt32 31)).toInt32)) &&& (ei_ (1431655765))))).toUInt32 >>> (((ei_ (2))).toUInt32 &&& Int32.toUInt32 31)).toInt32)) &&& (ei_ (858993459)))) + (((((((ei_ (s)) - ((((((ei_ (s))).toUInt32 >>> (((ei_ (1))).toUInt32 &&& Int32.toUInt32 31)).toInt32)) &&& (ei_ (1431655765)))) &&& (ei_ (858993459))) + (((((((ei_ (s)) - ((((((ei_ (s))).toUInt32 >>> (((ei_ (1))).toUInt32 &&& Int32.toUInt32 31)).toInt32)) &&& (ei_ (1431655765))))).toUInt32 >>> (((ei_ (2))).toUInt32 &&& Int32.toUInt32 31)).toInt32)) &&& (ei_ (858993459))))).toUInt32 >>> (((ei_ (4))).toUInt32 &&& Int32.toUInt32 31)).toInt32)) &&& (ei_ (252645135))) + ((((((((((ei_ (s)) - ((((((ei_ (s))).toUInt32 >>> (((ei_ (1))).toUInt32 &&& Int32.toUInt32 31)).toInt32)) &&& (ei_ (1431655765)))) &&& (ei_ (858993459))) + (((((((ei_ (s)) - ((((((ei_ (s))).toUInt32 >>> (((ei_ (1))).toUInt32 &&& Int32.toUInt32 31)).toInt32)) &&& (ei_ (1431655765))))).toUInt32 >>> (((ei_ (2))).toUInt32 &&& Int32.toUInt32 31)).toInt32)) &&& (ei_ (858993459)))) + (((((((ei_ (s)) - ((((((ei_ (s))).toUInt32 >>> (((ei_ (1))).toUInt32 &&& Int32.toUInt32 31)).toInt32)) &&& (ei_ (1431655765)))) &&& (ei_ (858993459))) + (((((((ei_ (s)) - ((((((ei_ (s))).toUInt32 >>> (((ei_ (1))).toUInt32 &&& Int32.toUInt32 31)).toInt32)) &&& (ei_ (1431655765))))).toUInt32 >>> (((ei_ (2))).toUInt32 &&& Int32.toUInt32 31)).toInt32)) &&& (ei_ (858993459))))).toUInt32 >>> (((ei_ (4))).toUInt32 &&& Int32.toUInt32 31)).toInt32)) &&& (ei_ (252645135))))).toUInt32 >>> (((ei_ (8))).toUInt32 &&& Int32.toUInt32 31)).toInt32)) + ((((((((((ei_ (s)) - ((((((ei_ (s))).toUInt32 >>> (((ei_ (1))).toUInt32 &&& Int32.toUInt32 31)).toInt32)) &&& (ei_ (1431655765)))) &&& (ei_ (858993459))) + (((((((ei_ (s)) - ((((((ei_ (s))).toUInt32 >>> (((ei_ (1))).toUInt32 &&& Int32.toUInt32 31)).toInt32)) &&& (ei_ (1431655765))))).toUInt32 >>> (((ei_ (2))).toUInt32 &&& Int32.toUInt32 31)).toInt32)) &&& (ei_ (858993459)))) + (((((((ei_ (s)) - ((((((ei_ (s))).toUInt32 >>> (((ei_ (1))).toUInt32 &&& Int32.toUInt32 31)).toInt32)) &&& (ei_ (1431655765)))) &&& (ei_ (858993459))) + (((((((ei_ (s)) - ((((((ei_ (s))).toUInt32 >>> (((ei_ (1))).toUInt32 &&& Int32.toUInt32 31)).toInt32)) &&& (ei_ (1431655765))))).toUInt32 >>> (((ei_ (2))).toUInt32 &&& Int32.toUInt32 31)).toInt32)) &&& (ei_ (858993459))))).toUInt32 >>> (((ei_ (4))).toUInt32 &&& Int32.toUInt32 31)).toInt32)) &&& (ei_ (252645135))) + ((((((((((ei_ (s)) - ((((((ei_ (s))).toUInt32 >>> (((ei_ (1))).toUInt32 &&& Int32.toUInt32 31)).toInt32)) &&& (ei_ (1431655765)))) &&& (ei_ (858993459))) + (((((((ei_ (s)) - ((((((ei_ (s))).toUInt32 >>> (((ei_ (1))).toUInt32 &&& Int32.toUInt32 31)).toInt32)) &&& (ei_ (1431655765))))).toUInt32 >>> (((ei_ (2))).toUInt32 &&& Int32.toUInt32 31)).toInt32)) &&& (ei_ (858993459)))) + (((((((ei_ (s)) - ((((((ei_ (s))).toUInt32 >>> (((ei_ (1))).toUInt32 &&& Int32.toUInt32 31)).toInt32)) &&& (ei_ (1431655765)))) &&& (ei_ (858993459))) + (((((((ei_ (s)) - ((((((ei_ (s))).toUInt32 >>> (((ei_ (1))).toUInt32 &&& Int32.toUInt32 31)).toInt32)) &&& (ei_ (1431655765))))).toUInt32 >>> (((ei_ (2))).toUInt32 &&& Int32.toUInt32 31)).toInt32)) &&& (ei_ (858993459))))).toUInt32 >>> (((ei_ (4))).toUInt32 &&& Int32.toUInt32 31)).toInt32)) &&& (ei_ (252645135))))).toUInt32 >>> (((ei_ (8))).toUInt32 &&& Int32.toUInt32 31)).toInt32))).toUInt32 >>> (((ei_ (16))).toUInt32 &&& Int32.toUInt32 31)).toInt32)) &&& (ei_ (63))))], m)) rfl ?_
  refine pw_cv (congrArg (fun z_ : Int32 => ((52, [some (.int ((((((((ei_ (s)) - ((((((ei_ (s))).toUInt32 >>> (((ei_ (1))).toUInt32 &&& Int32.toUInt32 31)).toInt32)) &&& (ei_ (1431655765)))) &&& (ei_ (858993459))) + (((((((ei_ (s)) - ((((((ei_ (s))).toUInt32 >>> (((ei_ (1))).toUInt32 &&& Int32.toUInt32 31)).toInt32)) &&& (ei_ (1431655765))))).toUInt32 >>> (((ei_ (2))).toUInt32 &&& Int32.toUInt32 31)).toInt32)) &&& (ei_ (858993459)))) + (((((((ei_ (s)) - ((((((ei_ (s))).toUInt32 >>> (((ei_ (1))).toUInt32 &&& Int32.toUInt32 31)).toInt32)) &&& (ei_ (1431655765)))) &&& (ei_ (858993459))) + (((((((ei_ (s)) - ((((((ei_ (s))).toUInt32 >>> (((ei_ (1))).toUInt32 &&& Int32.toUInt32 31)).toInt32)) &&& (ei_ (1431655765))))).toUInt32 >>> (((ei_ (2))).toUInt32 &&& Int32.toUInt32 31)).toInt32)) &&& (ei_ (858993459))))).toUInt32 >>> (((ei_ (4))).toUInt32 &&& Int32.toUInt32 31)).toInt32)) &&& (ei_ (252645135))) + ((((((((((ei_ (s)) - ((((((ei_ (s))).toUInt32 >>> (((ei_ (1))).toUInt32 &&& Int32.toUInt32 31)).toInt32)) &&& (ei_ (1431655765)))) &&& (ei_ (858993459))) + (((((((ei_ (s)) - ((((((ei_ (s))).toUInt32 >>> (((ei_ (1))).toUInt32 &&& Int32.toUInt32 31)).toInt32)) &&& (ei_ (1431655765))))).toUInt32 >>> (((ei_ (2))).toUInt32 &&& Int32.toUInt32 31)).toInt32)) &&& (ei_ (858993459)))) + (((((((ei_ (s)) - ((((((ei_ (s))).toUInt32 >>> (((ei_ (1))).toUInt32 &&& Int32.toUInt32 31)).toInt32)) &&& (ei_ (1431655765)))) &&& (ei_ (858993459))) + (((((((ei_ (s)) - ((((((ei_ (s))).toUInt32 >>> (((ei_ (1))).toUInt32 &&& Int32.toUInt32 31)).toInt32)) &&& (ei_ (1431655765))))).toUInt32 >>> (((ei_ (2))).toUInt32 &&& Int32.toUInt32 31)).toInt32)) &&& (ei_ (858993459))))).toUInt32 >>> (((ei_ (4))).toUInt32 &&& Int32.toUInt32 31)).toInt32)) &&& (ei_ (252645135))))).toUInt32 >>> (((ei_ (8))).toUInt32 &&& Int32.toUInt32 31)).toInt32)) + ((((((((((ei_ (s)) - ((((((ei_ (s))).toUInt32 >>> (((ei_ (1))).toUInt32 &&& Int32.toUInt32 31)).toInt32)) &&& (ei_ (1431655765)))) &&& (ei_ (858993459))) + (((((((ei_ (s)) - ((((((ei_ (s))).toUInt32 >>> (((ei_ (1))).toUInt32 &&& Int32.toUInt32 31)).toInt32)) &&& (ei_ (1431655765))))).toUInt32 >>> (((ei_ (2))).toUInt32 &&& Int32.toUInt32 31)).toInt32)) &&& (ei_ (858993459)))) + (((((((ei_ (s)) - ((((((ei_ (s))).toUInt32 >>> (((ei_ (1))).toUInt32 &&& Int32.toUInt32 31)).toInt32)) &&& (ei_ (1431655765)))) &&& (ei_ (858993459))) + (((((((ei_ (s)) - ((((((ei_ (s))).toUInt32 >>> (((ei_ (1))).toUInt32 &&& Int32.toUInt32 31)).toInt32)) &&& (ei_ (1431655765))))).toUInt32 >>> (((ei_ (2))).toUInt32 &&& Int32.toUInt32 31)).toInt32)) &&& (ei_ (858993459))))).toUInt32 >>> (((ei_ (4))).toUInt32 &&& Int32.toUInt32 31)).toInt32)) &&& (ei_ (252645135))) + ((((((((((ei_ (s)) - ((((((ei_ (s))).toUInt32 >>> (((ei_ (1))).toUInt32 &&& Int32.toUInt32 31)).toInt32)) &&& (ei_ (1431655765)))) &&& (ei_ (858993459))) + (((((((ei_ (s)) - ((((((ei_ (s))).toUInt32 >>> (((ei_ (1))).toUInt32 &&& Int32.toUInt32 31)).toInt32)) &&& (ei_ (1431655765))))).toUInt32 >>> (((ei_ (2))).toUInt32 &&& Int32.toUInt32 31)).toInt32)) &&& (ei_ (858993459)))) + (((((((ei_ (s)) - ((((((ei_ (s))).toUInt32 >>> (((ei_ (1))).toUInt32 &&& Int32.toUInt32 31)).toInt32)) &&& (ei_ (1431655765)))) &&& (ei_ (858993459))) + (((((((ei_ (s)) - ((((((ei_ (s))).toUInt32 >>> (((ei_ (1))).toUInt32 &&& Int32.toUInt32 31)).toInt32)) &&& (ei_ (1431655765))))).toUInt32 >>> (((ei_ (2))).toUInt32 &&& Int32.toUInt32 31)).toInt32)) &&& (ei_ (858993459))))).toUInt32 >>> (((ei_ (4))).toUInt32 &&& Int32.toUInt32 31)).toInt32)) &&& (ei_ (252645135))))).toUInt32 >>> (((ei_ (8))).toUInt32 &&& Int32.toUInt32 31)).toInt32))).toUInt32 >>> (((ei_ (16))).toUInt32 &&& Int32.toUInt32 31)).toInt32)))], [.int z_], m) : am_S)) (ei_an (ei_add (ei_add (ei_an (ei_add (ei_add (ei_an (ei_sub rfl (ei_an (ei_us rfl rfl) rfl)) rfl) (ei_an (ei_us (ei_sub rfl (ei_an (ei_us rfl rfl) rfl)) rfl) rfl)) (ei_us (ei_add (ei_an (ei_sub rfl (ei_an (ei_us rfl rfl) rfl)) rfl) (ei_an (ei_us (ei_sub rfl (ei_an (ei_us rfl rfl) rfl)) rfl) rfl)) rfl)) rfl) (ei_us (ei_an (ei_add (ei_add (ei_an (ei_sub rfl (ei_an (ei_us rfl rfl) rfl)) rfl) (ei_an (ei_us (ei_sub rfl (ei_an (ei_us rfl rfl) rfl)) rfl) rfl)) (ei_us (ei_add (ei_an (ei_sub rfl (ei_an (ei_us rfl rfl) rfl)) rfl) (ei_an (ei_us (ei_sub rfl (ei_an (ei_us rfl rfl) rfl)) rfl) rfl)) rfl)) rfl) rfl)) (ei_us (ei_add (ei_an (ei_add (ei_add (ei_an (ei_sub rfl (ei_an (ei_us rfl rfl) rfl)) rfl) (ei_an (ei_us (ei_sub rfl (ei_an (ei_us rfl rfl) rfl)) rfl) rfl)) (ei_us (ei_add (ei_an (ei_sub rfl (ei_an (ei_us rfl rfl) rfl)) rfl) (ei_an (ei_us (ei_sub rfl (ei_an (ei_us rfl rfl) rfl)) rfl) rfl)) rfl)) rfl) (ei_us (ei_an (ei_add (ei_add (ei_an (ei_sub rfl (ei_an (ei_us rfl rfl) rfl)) rfl) (ei_an (ei_us (ei_sub rfl (ei_an (ei_us rfl rfl) rfl)) rfl) rfl)) (ei_us (ei_add (ei_an (ei_sub rfl (ei_an (ei_us rfl rfl) rfl)) rfl) (ei_an (ei_us (ei_sub rfl (ei_an (ei_us rfl rfl) rfl)) rfl) rfl)) rfl)) rfl) rfl)) rfl)) rfl)) ?_
  refine pw_cv (congrArg (fun z_ : Int32 => ((52, [some (.int z_)], [.int (ei_ ((an_ (((an_ (((an_ (s - (an_ (us_ s 1) 1431655765)) 858993459) + (an_ (us_ (s - (an_ (us_ s 1) 1431655765)) 2) 858993459)) + (us_ ((an_ (s - (an_ (us_ s 1) 1431655765)) 858993459) + (an_ (us_ (s - (an_ (us_ s 1) 1431655765)) 2) 858993459)) 4)) 252645135) + (us_ (an_ (((an_ (s - (an_ (us_ s 1) 1431655765)) 858993459) + (an_ (us_ (s - (an_ (us_ s 1) 1431655765)) 2) 858993459)) + (us_ ((an_ (s - (an_ (us_ s 1) 1431655765)) 858993459) + (an_ (us_ (s - (an_ (us_ s 1) 1431655765)) 2) 858993459)) 4)) 252645135) 8)) + (us_ ((an_ (((an_ (s - (an_ (us_ s 1) 1431655765)) 858993459) + (an_ (us_ (s - (an_ (us_ s 1) 1431655765)) 2) 858993459)) + (us_ ((an_ (s - (an_ (us_ s 1) 1431655765)) 858993459) + (an_ (us_ (s - (an_ (us_ s 1) 1431655765)) 2) 858993459)) 4)) 252645135) + (us_ (an_ (((an_ (s - (an_ (us_ s 1) 1431655765)) 858993459) + (an_ (us_ (s - (an_ (us_ s 1) 1431655765)) 2) 858993459)) + (us_ ((an_ (s - (an_ (us_ s 1) 1431655765)) 858993459) + (an_ (us_ (s - (an_ (us_ s 1) 1431655765)) 2) 858993459)) 4)) 252645135) 8)) 16)) 63)))], m) : am_S)) (ei_add (ei_add (ei_an (ei_add (ei_add (ei_an (ei_sub rfl (ei_an (ei_us rfl rfl) rfl)) rfl) (ei_an (ei_us (ei_sub rfl (ei_an (ei_us rfl rfl) rfl)) rfl) rfl)) (ei_us (ei_add (ei_an (ei_sub rfl (ei_an (ei_us rfl rfl) rfl)) rfl) (ei_an (ei_us (ei_sub rfl (ei_an (ei_us rfl rfl) rfl)) rfl) rfl)) rfl)) rfl) (ei_us (ei_an (ei_add (ei_add (ei_an (ei_sub rfl (ei_an (ei_us rfl rfl) rfl)) rfl) (ei_an (ei_us (ei_sub rfl (ei_an (ei_us rfl rfl) rfl)) rfl) rfl)) (ei_us (ei_add (ei_an (ei_sub rfl (ei_an (ei_us rfl rfl) rfl)) rfl) (ei_an (ei_us (ei_sub rfl (ei_an (ei_us rfl rfl) rfl)) rfl) rfl)) rfl)) rfl) rfl)) (ei_us (ei_add (ei_an (ei_add (ei_add (ei_an (ei_sub rfl (ei_an (ei_us rfl rfl) rfl)) rfl) (ei_an (ei_us (ei_sub rfl (ei_an (ei_us rfl rfl) rfl)) rfl) rfl)) (ei_us (ei_add (ei_an (ei_sub rfl (ei_an (ei_us rfl rfl) rfl)) rfl) (ei_an (ei_us (ei_sub rfl (ei_an (ei_us rfl rfl) rfl)) rfl) rfl)) rfl)) rfl) (ei_us (ei_an (ei_add (ei_add (ei_an (ei_sub rfl (ei_an (ei_us rfl rfl) rfl)) rfl) (ei_an (ei_us (ei_sub rfl (ei_an (ei_us rfl rfl) rfl)) rfl) rfl)) (ei_us (ei_add (ei_an (ei_sub rfl (ei_an (ei_us rfl rfl) rfl)) rfl) (ei_an (ei_us (ei_sub rfl (ei_an (ei_us rfl rfl) rfl)) rfl) rfl)) rfl)) rfl) rfl)) rfl))) ?_
  refine pw_iret rfl rfl rfl ?_
  exact k0 (an_ (((an_ (((an_ (s - (an_ (us_ s 1) 1431655765)) 858993459) + (an_ (us_ (s - (an_ (us_ s 1) 1431655765)) 2) 858993459)) + (us_ ((an_ (s - (an_ (us_ s 1) 1431655765)) 858993459) + (an_ (us_ (s - (an_ (us_ s 1) 1431655765)) 2) 858993459)) 4)) 252645135) + (us_ (an_ (((an_ (s - (an_ (us_ s 1) 1431655765)) 858993459) + (an_ (us_ (s - (an_ (us_ s 1) 1431655765)) 2) 858993459)) + (us_ ((an_ (s - (an_ (us_ s 1) 1431655765)) 858993459) + (an_ (us_ (s - (an_ (us_ s 1) 1431655765)) 2) 858993459)) 4)) 252645135) 8)) + (us_ ((an_ (((an_ (s - (an_ (us_ s 1) 1431655765)) 858993459) + (an_ (us_ (s - (an_ (us_ s 1) 1431655765)) 2) 858993459)) + (us_ ((an_ (s - (an_ (us_ s 1) 1431655765)) 858993459) + (an_ (us_ (s - (an_ (us_ s 1) 1431655765)) 2) 858993459)) 4)) 252645135) + (us_ (an_ (((an_ (s - (an_ (us_ s 1) 1431655765)) 858993459) + (an_ (us_ (s - (an_ (us_ s 1) 1431655765)) 2) 858993459)) + (us_ ((an_ (s - (an_ (us_ s 1) 1431655765)) 858993459) + (an_ (us_ (s - (an_ (us_ s 1) 1431655765)) 2) 858993459)) 4)) 252645135) 8)) 16)) 63) (by exact bc_pp p0)


set_option maxRecDepth 100000 in
theorem sl_fin : ∀ w : Fin 8, sl_ 1 (w.val : Int) = ad_ 0 (w.val : Int) := by decide +kernel
theorem sl_or (w : Int) (hw : 0 ≤ w ∧ w < 8) : sl_ 1 w = ad_ 0 w := by
  have h := sl_fin ⟨w.toNat, by omega⟩
  simp only [Int.toNat_of_nonneg hw.1] at h
  exact h
theorem bi_b (s p : Int) : 0 ≤ bi_ s p ∧ bi_ s p ≤ 1 := by unfold bi_; omega
theorem bi_0 (p : Int) : bi_ 0 p = 0 := by unfold bi_; rw [Int.zero_ediv]; rfl

set_option maxHeartbeats 4000000 in
set_option maxRecDepth 20000 in
theorem cs_letter {q : am_X} {d : Nat} {m : am_M} {Q : Option Value → am_M → Prop} {m0 : am_M} {a : Int} {b : Int} {c : Int}  (p0 : rP_ m0) (p1 : rD_ m0) (p2 : rZ_ m0) (p3 : rL_ m0) (p4 : sm_ pSc m0 m) (p5 : -2147483648 ≤ a ∧ a < 2147483648) (p6 : -2147483648 ≤ b ∧ b < 2147483648) (p7 : -2147483648 ≤ c ∧ c < 2147483648) (k0 : ∀ (x : Int) (m1 : am_M), (x = ss_ m0 a b c) → (sm_ pSc m0 m1) → Q (some (.int (ei_ (x)))) m1) : pw_C q (d + 60) 90 [.ref 0, .int (ei_ (a)), .int (ei_ (b)), .int (ei_ (c))] m Q := by
  obtain ⟨hP1, hP2, hP3, hP4⟩ := id p0
  have hmw := mW_of p0 p1
  have hmf := mF_of p0 p1
  refine pw_intro (I := iX8_letter) (T := tX8_letter) rfl rfl rfl ?_
  refine pw_steps 3 (s' := (5, [some (.ref 0), some (.int (ei_ (a))), some (.int (ei_ (b))), some (.int (ei_ (c))), none, none, none], [.int (ei_ (a)), .ref 1], m)) rfl ?_
  refine pw_call (As := [.int (ei_ (a))]) (st := []) (k := 1) rfl rfl rfl rfl rfl (Nat.le_of_ble_eq_true rfl) ?_
  refine pw_intro (I := iX3_has) (T := tX3_has) rfl rfl rfl ?_
  refine pw_steps 1 (s' := (1, [some (.ref 1), some (.int (ei_ (a)))], [.int (ei_ (a))], m)) rfl ?_
  refine pw_if rfl p5 (fun (h1 : a < 0) => ?_) (fun (h1 : ¬ (a < 0)) => ?_)
  · refine pw_steps 1 (s' := (17, [some (.ref 1), some (.int (ei_ (a)))], [.int (ei_ (0))], m)) rfl ?_
    refine pw_iret rfl rfl rfl ?_
    refine pw_ifT rfl (by decide) (show 0 = 0 by decide) ?_
    refine pw_steps 1 (s' := (28, [some (.ref 0), some (.int (ei_ (a))), some (.int (ei_ (b))), some (.int (ei_ (c))), none, none, none], [.int (ei_ ((-1)))], m)) rfl ?_
    refine pw_iret rfl rfl rfl ?_
    exact k0 (-1) m (by unfold ss_; rw [if_neg (by omega)]) (p4)
  · refine pw_steps 2 (s' := (6, [some (.ref 1), some (.int (ei_ (a)))], [.ref 1, .int (ei_ (a))], m)) rfl ?_
    refine pw_get rfl rfl (fun x2 (hx2 : x2 = vi_ m 1 1) rx2 sx2 => ?_)
    have ox2 := hx2
    replace hx2 : x2 = vi_ m0 1 1 := hx2.trans (sm_v p4 rfl)
    refine pw_cmp rfl p5 ⟨rx2, sx2⟩ (fun (h3 : x2 ≤ a) => ?_) (fun (h3 : ¬ (x2 ≤ a)) => ?_)
    · refine pw_steps 1 (s' := (17, [some (.ref 1), some (.int (ei_ (a)))], [.int (ei_ (0))], m)) rfl ?_
      refine pw_iret rfl rfl rfl ?_
      refine pw_ifT rfl (by decide) (show 0 = 0 by decide) ?_
      refine pw_steps 1 (s' := (28, [some (.ref 0), some (.int (ei_ (a))), some (.int (ei_ (b))), some (.int (ei_ (c))), none, none, none], [.int (ei_ ((-1)))], m)) rfl ?_
      refine pw_iret rfl rfl rfl ?_
      exact k0 (-1) m (by unfold ss_; rw [if_neg (by omega)]) (p4)
    · refine pw_steps 2 (s' := (17, [some (.ref 1), some (.int (ei_ (a)))], [.int (ei_ (1))], m)) rfl ?_
      refine pw_iret rfl rfl rfl ?_
      refine pw_ifF rfl (by decide) (show ¬ (1 = 0) by decide) ?_
      refine pw_steps 1 (s' := (12, [some (.ref 0), some (.int (ei_ (a))), some (.int (ei_ (b))), some (.int (ei_ (c))), none, none, none], [.int (ei_ (b))], m)) rfl ?_
      refine pw_callS (As := [.int (ei_ (b))]) (st := []) rfl (by decide) rfl rfl (Nat.le_of_ble_eq_true rfl) ?_
      refine pw_intro (I := iX8_isTo99) (T := tX8_isTo99) rfl rfl rfl ?_
      refine pw_steps 1 (s' := (1, [some (.int (ei_ (b)))], [.int (ei_ (b))], m)) rfl ?_
      refine pw_if rfl p6 (fun (h4 : b < 0) => ?_) (fun (h4 : ¬ (b < 0)) => ?_)
      · refine pw_steps 1 (s' := (15, [some (.int (ei_ (b)))], [.int (ei_ (0))], m)) rfl ?_
        refine pw_iret rfl rfl rfl ?_
        refine pw_ifT rfl (by decide) (show 0 = 0 by decide) ?_
        refine pw_steps 1 (s' := (28, [some (.ref 0), some (.int (ei_ (a))), some (.int (ei_ (b))), some (.int (ei_ (c))), none, none, none], [.int (ei_ ((-1)))], m)) rfl ?_
        refine pw_iret rfl rfl rfl ?_
        exact k0 (-1) m (by unfold ss_; rw [if_neg (by omega)]) (p4)
      · refine pw_steps 2 (s' := (7, [some (.int (ei_ (b)))], [.int (ei_ (99)), .int (ei_ (b))], m)) rfl ?_
        refine pw_cmp rfl p6 (by decide) (fun (h5 : 99 < b) => ?_) (fun (h5 : ¬ (99 < b)) => ?_)
        · refine pw_steps 1 (s' := (15, [some (.int (ei_ (b)))], [.int (ei_ (0))], m)) rfl ?_
          refine pw_iret rfl rfl rfl ?_
          refine pw_ifT rfl (by decide) (show 0 = 0 by decide) ?_
          refine pw_steps 1 (s' := (28, [some (.ref 0), some (.int (ei_ (a))), some (.int (ei_ (b))), some (.int (ei_ (c))), none, none, none], [.int (ei_ ((-1)))], m)) rfl ?_
          refine pw_iret rfl rfl rfl ?_
          exact k0 (-1) m (by unfold ss_; rw [if_neg (by omega)]) (p4)
        · refine pw_steps 2 (s' := (15, [some (.int (ei_ (b)))], [.int (ei_ (1))], m)) rfl ?_
          refine pw_iret rfl rfl rfl ?_
          refine pw_ifF rfl (by decide) (show ¬ (1 = 0) by decide) ?_
          refine pw_steps 1 (s' := (19, [some (.ref 0), some (.int (ei_ (a))), some (.int (ei_ (b))), some (.int (ei_ (c))), none, none, none], [.int (ei_ (c))], m)) rfl ?_
          refine pw_if rfl p7 (fun (h6 : c < 0) => ?_) (fun (h6 : ¬ (c < 0)) => ?_)
          · refine pw_steps 1 (s' := (28, [some (.ref 0), some (.int (ei_ (a))), some (.int (ei_ (b))), some (.int (ei_ (c))), none, none, none], [.int (ei_ ((-1)))], m)) rfl ?_
            refine pw_iret rfl rfl rfl ?_
            exact k0 (-1) m (by unfold ss_; rw [if_neg (by omega)]) (p4)
          · refine pw_steps 2 (s' := (24, [some (.ref 0), some (.int (ei_ (a))), some (.int (ei_ (b))), some (.int (ei_ (c))), none, none, none], [.int (ei_ (1)), .int (ei_ (c))], m)) rfl ?_
            refine pw_cmp rfl p7 (by decide) (fun (h7 : c ≤ 1) => ?_) (fun (h7 : ¬ (c ≤ 1)) => ?_)
            · refine pw_steps 3 (s' := (34, [some (.ref 0), some (.int (ei_ (a))), some (.int (ei_ (b))), some (.int (ei_ (c))), none, none, none], [.int (ei_ (a)), .ref 3], m)) rfl ?_
              refine pw_call (As := [.int (ei_ (a))]) (st := []) (k := 3) rfl rfl rfl rfl rfl (Nat.le_of_ble_eq_true rfl) ?_
              refine cw_wearer2 (p4) (by omega) (fun x8 g9 g10 => ?_)
              have hx4_ := p1.1 a (by omega) (by omega)
              refine pw_steps 7 (s' := (48, [some (.ref 0), some (.int (ei_ (a))), some (.int (ei_ (b))), some (.int (ei_ (c))), some (.int (ei_ (x8))), some (.int (((ei_ (1)) <<< ((ei_ (x8)) &&& 31)))), some (.int (ei_ (0)))], [], m)) rfl ?_
              refine pw_cv (congrArg (fun z_ : Int32 => ((48, [some (.ref 0), some (.int (ei_ (a))), some (.int (ei_ (b))), some (.int (ei_ (c))), some (.int (ei_ (x8))), some (.int z_), some (.int (ei_ (0)))], [], m) : am_S)) (ei_sl rfl rfl)) ?_
              have L13 : ∀ (n11 : Nat) (w : Int) (t : Int) (k : Int), (b - k).toNat = n11 → (0 ≤ k ∧ k ≤ b ∧ 0 ≤ w ∧ w < vi_ m0 1 1) → (0 ≤ t ∧ t < 256) → (w = wk_ (vi_ m0 4) (vi_ m0 4 a) k.toNat) → (t = mk_ (vi_ m0 4) (vi_ m0 4 a) k.toNat) → pw_V q (d + 59) iX8_letter.2.2.2.1 tX8_letter Q (48, [some (.ref 0), some (.int (ei_ (a))), some (.int (ei_ (b))), some (.int (ei_ (c))), some (.int (ei_ (w))), some (.int (ei_ (t))), some (.int (ei_ (k)))], [], m) := by
                intro n11
                induction n11 using Nat.strongRecOn with
                | _ n11 ih12 =>
                  intro w t k hm_n11 v14 v15 hw ht
                  refine pw_steps 2 (s' := (51, [some (.ref 0), some (.int (ei_ (a))), some (.int (ei_ (b))), some (.int (ei_ (c))), some (.int (ei_ (w))), some (.int (ei_ (t))), some (.int (ei_ (k)))], [.int (ei_ (b)), .int (ei_ (k))], m)) rfl ?_
                  refine pw_cmp rfl (by omega) p6 (fun (h16 : b ≤ k) => ?_) (fun (h16 : ¬ (b ≤ k)) => ?_)
                  · refine pw_steps 1 (s' := (81, [some (.ref 0), some (.int (ei_ (a))), some (.int (ei_ (b))), some (.int (ei_ (c))), some (.int (ei_ (w))), some (.int (ei_ (t))), some (.int (ei_ (k)))], [.int (ei_ (c))], m)) rfl ?_
                    refine pw_if rfl p7 (fun (h17 : ¬ c = 0) => ?_) (fun (h17 : ¬ ¬ c = 0) => ?_)
                    · refine pw_steps 1 (s' := (91, [some (.ref 0), some (.int (ei_ (a))), some (.int (ei_ (b))), some (.int (ei_ (c))), some (.int (ei_ (w))), some (.int (ei_ (t))), some (.int (ei_ (k)))], [.int (ei_ (t))], m)) rfl ?_
                      refine pw_callS (As := [.int (ei_ (t))]) (st := []) rfl (by decide) rfl rfl (Nat.le_of_ble_eq_true rfl) ?_
                      refine cs_bits (by omega) (fun x18 g19 => ?_)
                      refine pw_iret rfl rfl rfl ?_
                      exact k0 x18 m (by unfold ss_; rw [if_pos (by omega), if_neg (by omega), g19, ← show k = b by omega, ht]) (p4)
                    · refine pw_steps 2 (s' := (94, [some (.ref 0), some (.int (ei_ (a))), some (.int (ei_ (b))), some (.int (ei_ (c))), some (.int (ei_ (w))), some (.int (ei_ (t))), some (.int (ei_ (k)))], [.int (ei_ (w))], m)) rfl ?_
                      refine pw_iret rfl rfl rfl ?_
                      exact k0 w m (by unfold ss_; rw [if_pos (by omega), if_pos (by omega), ← show k = b by omega]; exact hw) (p4)
                  · refine pw_steps 3 (s' := (60, [some (.ref 0), some (.int (ei_ (a))), some (.int (ei_ (b))), some (.int (ei_ (c))), some (.int (ei_ (w))), some (.int (ei_ (t))), some (.int (ei_ (k)))], [.int (ei_ (w)), .ref 3], m)) rfl ?_
                    refine pw_call (As := [.int (ei_ (w))]) (st := []) (k := 3) rfl rfl rfl rfl rfl (Nat.le_of_ble_eq_true rfl) ?_
                    refine cw_wearer2 (p4) (by omega) (fun x20 g21 g22 => ?_)
                    have hx4_ := p1.1 w (by omega) (by omega)
                    refine pw_steps 9 (s' := (48, [some (.ref 0), some (.int (ei_ (a))), some (.int (ei_ (b))), some (.int (ei_ (c))), some (.int (ei_ (x20))), some (.int (((ei_ (t)) ||| (((ei_ (1)) <<< ((ei_ (x20)) &&& 31)))))), some (.int ((ei_ (k)) + (ei_ (1))))], [], m)) rfl ?_
                    refine pw_cv (congrArg (fun z_ : Int32 => ((48, [some (.ref 0), some (.int (ei_ (a))), some (.int (ei_ (b))), some (.int (ei_ (c))), some (.int (ei_ (x20))), some (.int z_), some (.int ((ei_ (k)) + (ei_ (1))))], [], m) : am_S)) (ei_or rfl (ei_sl rfl rfl))) ?_
                    refine pw_cv (congrArg (fun z_ : Int32 => ((48, [some (.ref 0), some (.int (ei_ (a))), some (.int (ei_ (b))), some (.int (ei_ (c))), some (.int (ei_ (x20))), some (.int (ei_ ((or_ t (sl_ 1 x20))))), some (.int z_)], [], m) : am_S)) (ei_add rfl rfl)) ?_
                    exact ih12 _ (by omega) x20 (or_ t (sl_ 1 x20)) (k + 1) rfl (by omega) (by have o_ := or_ad (s := t) (w := x20) (by omega) (by omega); have a_ := (ad_all (s := t) (w := x20) (by omega) (by omega)).1; omega) (by rw [wk_s (by omega), ← hw]; exact g21) (by rw [mk_s (by omega), wk_s (by omega), ← hw, ← ht, ← g21]; exact or_ad (by omega) (by omega))
              exact L13 _ x8 (sl_ 1 x8) 0 rfl (by omega) (by have z_ := sl_or x8 (by omega); have a_ := (ad_all (s := 0) (w := x8) (by omega) (by omega)).1; omega) (by exact g9) (by rw [sl_or x8 (by omega), g9]; rfl)
            · refine pw_steps 1 (s' := (28, [some (.ref 0), some (.int (ei_ (a))), some (.int (ei_ (b))), some (.int (ei_ (c))), none, none, none], [.int (ei_ ((-1)))], m)) rfl ?_
              refine pw_iret rfl rfl rfl ?_
              exact k0 (-1) m (by unfold ss_; rw [if_neg (by omega)]) (p4)

set_option maxHeartbeats 4000000 in
set_option maxRecDepth 20000 in
theorem ms_letter {q : am_X} {d : Nat} {m : am_M} {Q : Option Value → am_M → Prop} {m0 : am_M} {a : Int} {b : Int} {c : Int}  (p0 : rP_ m0) (p1 : rD_ m0) (p2 : rZ_ m0) (p3 : rL_ m0) (p4 : sm_ pSc m0 m) (p5 : -2147483648 ≤ a ∧ a < 2147483648) (p6 : -2147483648 ≤ b ∧ b < 2147483648) (p7 : -2147483648 ≤ c ∧ c < 2147483648) (k0 : ∀ (x : Int) (m1 : am_M), (x = ss_ m0 a b c) → (sm_ pSc m0 m1) → Q (some (.int (ei_ (x)))) m1) : pw_C q (d + 60) 228 [.ref 47, .int (ei_ (a)), .int (ei_ (b)), .int (ei_ (c))] m Q := by
  obtain ⟨hP1, hP2, hP3, hP4⟩ := id p0
  have hmw := mW_of p0 p1
  have hmf := mF_of p0 p1
  refine pw_intro (I := iX9_letter) (T := tX9_letter) rfl rfl rfl ?_
  refine pw_steps 3 (s' := (3, [some (.ref 47), some (.int (ei_ (a))), some (.int (ei_ (b))), some (.int (ei_ (c))), none, none, none], [.long ((ei_ (a)).toInt64), .ref 47], m)) rfl ?_
  refine pw_cv (congrArg (fun z_ : Int64 => ((3, [some (.ref 47), some (.int (ei_ (a))), some (.int (ei_ (b))), some (.int (ei_ (c))), none, none, none], [.long z_, .ref 47], m) : am_S)) (el_i2l p5 rfl)) ?_
  refine pw_call (As := [.long (el_ (a))]) (st := []) (k := 47) rfl rfl rfl rfl rfl (Nat.le_of_ble_eq_true rfl) ?_
  refine pw_intro (I := iX9_isOne) (T := tX9_isOne) rfl rfl rfl ?_
  refine pw_steps 3 (s' := (3, [some (.ref 47), some (.long (el_ (a))), none], [.ref 47, .long (el_ (0)), .long (el_ (a))], m)) rfl ?_
  refine pw_get rfl rfl (fun x1 (hx1 : x1 = vi_ m 47 6) rx1 sx1 => ?_)
  have ox1 := hx1
  replace hx1 : x1 = vi_ m0 47 6 := hx1.trans (sm_v p4 rfl)
  refine pw_steps 3 (s' := (9, [some (.ref 47), some (.long (el_ (a))), none], [.long (((ei_ (x1)) - (ei_ (1))).toInt64), .long (el_ (0)), .long (el_ (a))], m)) rfl ?_
  refine pw_cv (congrArg (fun z_ : Int64 => ((9, [some (.ref 47), some (.long (el_ (a))), none], [.long z_, .long (el_ (0)), .long (el_ (a))], m) : am_S)) (el_i2l (by omega) (ei_sub rfl rfl))) ?_
  refine pw_callS (As := [.long (el_ (a)), .long (el_ (0)), .long (el_ ((x1 - 1)))]) (st := []) rfl (by decide) rfl rfl (Nat.le_of_ble_eq_true rfl) ?_
  refine mt_within (by omega) (by omega) (by omega) (fun g2 g3 => ?_) (fun g4 => ?_) (fun g5 => ?_)
  · refine pw_iret rfl rfl rfl ?_
    refine pw_ifF rfl (by decide) (show ¬ (1 = 0) by decide) ?_
    refine pw_steps 1 (s' := (10, [some (.ref 47), some (.int (ei_ (a))), some (.int (ei_ (b))), some (.int (ei_ (c))), none, none, none], [.int (ei_ (b))], m)) rfl ?_
    refine pw_callS (As := [.int (ei_ (b))]) (st := []) rfl (by decide) rfl rfl (Nat.le_of_ble_eq_true rfl) ?_
    refine pw_intro (I := iX9_isN) (T := tX9_isN) rfl rfl rfl ?_
    refine pw_steps 4 (s' := (6, [some (.int (ei_ (b)))], [.long (el_ (99)), .long (el_ (0)), .long ((ei_ (b)).toInt64)], m)) rfl ?_
    refine pw_cv (congrArg (fun z_ : Int64 => ((6, [some (.int (ei_ (b)))], [.long (el_ (99)), .long (el_ (0)), .long z_], m) : am_S)) (el_i2l p6 rfl)) ?_
    refine pw_callS (As := [.long (el_ (b)), .long (el_ (0)), .long (el_ (99))]) (st := []) rfl (by decide) rfl rfl (Nat.le_of_ble_eq_true rfl) ?_
    refine mt_within (by omega) (by omega) (by omega) (fun g6 g7 => ?_) (fun g8 => ?_) (fun g9 => ?_)
    · refine pw_iret rfl rfl rfl ?_
      refine pw_ifF rfl (by decide) (show ¬ (1 = 0) by decide) ?_
      refine pw_steps 4 (s' := (20, [some (.ref 47), some (.int (ei_ (a))), some (.int (ei_ (b))), some (.int (ei_ (c))), none, none, none], [.long (el_ (1)), .long (el_ (0)), .long ((ei_ (c)).toInt64)], m)) rfl ?_
      refine pw_cv (congrArg (fun z_ : Int64 => ((20, [some (.ref 47), some (.int (ei_ (a))), some (.int (ei_ (b))), some (.int (ei_ (c))), none, none, none], [.long (el_ (1)), .long (el_ (0)), .long z_], m) : am_S)) (el_i2l p7 rfl)) ?_
      refine pw_callS (As := [.long (el_ (c)), .long (el_ (0)), .long (el_ (1))]) (st := []) rfl (by decide) rfl rfl (Nat.le_of_ble_eq_true rfl) ?_
      refine mt_within (by omega) (by omega) (by omega) (fun g10 g11 => ?_) (fun g12 => ?_) (fun g13 => ?_)
      · refine pw_ifT rfl (by decide) (show ¬ 1 = 0 by decide) ?_
        refine pw_steps 2 (s' := (31, [some (.ref 47), some (.int (ei_ (a))), some (.int (ei_ (b))), some (.int (ei_ (c))), some (.int (ei_ (0))), none, none], [], m)) rfl ?_
        have L16 : ∀ (n14 : Nat) (j : Int) (m1 : am_M), (vi_ m0 1 1 - j).toNat = n14 → (0 ≤ j ∧ j ≤ vi_ m0 1 1) → (sm_ pSc m0 m1) → (∀ p, 0 ≤ p → p < j → vi_ m1 60 p = 0) → pw_V q (d + 59) iX9_letter.2.2.2.1 tX9_letter Q (31, [some (.ref 47), some (.int (ei_ (a))), some (.int (ei_ (b))), some (.int (ei_ (c))), some (.int (ei_ (j))), none, none], [], m1) := by
          intro n14
          induction n14 using Nat.strongRecOn with
          | _ n14 ih15 =>
            intro j m1 hm_n14 v17 hs0 hc
            refine pw_steps 2 (s' := (34, [some (.ref 47), some (.int (ei_ (a))), some (.int (ei_ (b))), some (.int (ei_ (c))), some (.int (ei_ (j))), none, none], [.ref 47, .int (ei_ (j))], m1)) rfl ?_
            refine pw_get rfl rfl (fun x18 (hx18 : x18 = vi_ m1 47 6) rx18 sx18 => ?_)
            have ox18 := hx18
            replace hx18 : x18 = vi_ m0 47 6 := hx18.trans (sm_v hs0 rfl)
            refine pw_cmp rfl (by omega) ⟨rx18, sx18⟩ (fun (h19 : x18 ≤ j) => ?_) (fun (h19 : ¬ (x18 ≤ j)) => ?_)
            · refine pw_steps 3 (s' := (59, [some (.ref 47), some (.int (ei_ (a))), some (.int (ei_ (b))), some (.int (ei_ (c))), some (.int (ei_ (j))), none, none], [.int (ei_ (a)), .ref 52], m1)) rfl ?_
              refine pw_ild rfl rfl (by omega) (fun x20 (hx20 : x20 = vi_ m1 52 a) rx20 sx20 => ?_)
              have ox20 := hx20
              replace hx20 : x20 = vi_ m0 52 a := hx20.trans (sm_v hs0 rfl)
              have b21 := hmw a (by omega) (by omega)
              have b21b := (p1.2.2.1 a (by omega) (by omega)).1
              refine pw_steps 7 (s' := (72, [some (.ref 47), some (.int (ei_ (a))), some (.int (ei_ (b))), some (.int (ei_ (c))), some (.int (ei_ (x20))), some (.int (ei_ (1))), none], [.int (ei_ (1)), .int (ei_ (x20)), .ref 60], m1)) rfl ?_
              refine pw_bst rfl rfl (by omega) (by omega) ?_
              refine pw_steps 2 (s' := (76, [some (.ref 47), some (.int (ei_ (a))), some (.int (ei_ (b))), some (.int (ei_ (c))), some (.int (ei_ (x20))), some (.int (ei_ (1))), some (.int (ei_ (0)))], [], wi_ m1 60 (x20) (1))) rfl ?_
              have L24 : ∀ (n22 : Nat) (w : Int) (n : Int) (k : Int) (m1 : am_M) (t : Int), (b - k).toNat = n22 → (0 ≤ k ∧ k ≤ b ∧ 0 ≤ w ∧ w < vi_ m0 1 1) → (sm_ pSc m0 m1) → (0 ≤ t ∧ t < 256) → (w = wk_ (vi_ m0 4) (vi_ m0 4 a) k.toNat) → (t = mk_ (vi_ m0 4) (vi_ m0 4 a) k.toNat) → (∀ p, 0 ≤ p → p < vi_ m0 1 1 → vi_ m1 60 p = bi_ t p) → (n = pp_ t) → (0 ≤ n ∧ n ≤ 8) → pw_V q (d + 59) iX9_letter.2.2.2.1 tX9_letter Q (76, [some (.ref 47), some (.int (ei_ (a))), some (.int (ei_ (b))), some (.int (ei_ (c))), some (.int (ei_ (w))), some (.int (ei_ (n))), some (.int (ei_ (k)))], [], m1) := by
                intro n22
                induction n22 using Nat.strongRecOn with
                | _ n22 ih23 =>
                  intro w n k m1 t hm_n22 v25 hs v26 hw ht h60 hn v27
                  refine pw_steps 2 (s' := (79, [some (.ref 47), some (.int (ei_ (a))), some (.int (ei_ (b))), some (.int (ei_ (c))), some (.int (ei_ (w))), some (.int (ei_ (n))), some (.int (ei_ (k)))], [.int (ei_ (b)), .int (ei_ (k))], m1)) rfl ?_
                  refine pw_cmp rfl (by omega) p6 (fun (h28 : b ≤ k) => ?_) (fun (h28 : ¬ (b ≤ k)) => ?_)
                  · refine pw_steps 1 (s' := (126, [some (.ref 47), some (.int (ei_ (a))), some (.int (ei_ (b))), some (.int (ei_ (c))), some (.int (ei_ (w))), some (.int (ei_ (n))), some (.int (ei_ (k)))], [.int (ei_ (c))], m1)) rfl ?_
                    refine pw_if rfl p7 (fun (h29 : ¬ c = 0) => ?_) (fun (h29 : ¬ ¬ c = 0) => ?_)
                    · refine pw_steps 1 (s' := (136, [some (.ref 47), some (.int (ei_ (a))), some (.int (ei_ (b))), some (.int (ei_ (c))), some (.int (ei_ (w))), some (.int (ei_ (n))), some (.int (ei_ (k)))], [.int (ei_ (n))], m1)) rfl ?_
                      refine pw_iret rfl rfl rfl ?_
                      exact k0 n m1 (by unfold ss_; rw [if_pos (by omega), if_neg (by omega), ← show k = b by omega, hn, ht]) (hs)
                    · refine pw_steps 2 (s' := (136, [some (.ref 47), some (.int (ei_ (a))), some (.int (ei_ (b))), some (.int (ei_ (c))), some (.int (ei_ (w))), some (.int (ei_ (n))), some (.int (ei_ (k)))], [.int (ei_ (w))], m1)) rfl ?_
                      refine pw_iret rfl rfl rfl ?_
                      exact k0 w m1 (by unfold ss_; rw [if_pos (by omega), if_pos (by omega), ← show k = b by omega]; exact hw) (hs)
                  · refine pw_steps 3 (s' := (88, [some (.ref 47), some (.int (ei_ (a))), some (.int (ei_ (b))), some (.int (ei_ (c))), some (.int (ei_ (w))), some (.int (ei_ (n))), some (.int (ei_ (k)))], [.int (ei_ (w)), .ref 52], m1)) rfl ?_
                    refine pw_ild rfl rfl (by omega) (fun x30 (hx30 : x30 = vi_ m1 52 w) rx30 sx30 => ?_)
                    have ox30 := hx30
                    replace hx30 : x30 = vi_ m0 52 w := hx30.trans (sm_v hs rfl)
                    have b31 := hmw w (by omega) (by omega)
                    have b31b := (p1.2.2.1 w (by omega) (by omega)).1
                    refine pw_steps 5 (s' := (99, [some (.ref 47), some (.int (ei_ (a))), some (.int (ei_ (b))), some (.int (ei_ (c))), some (.int (ei_ (x30))), some (.int (ei_ (n))), some (.int (ei_ (k)))], [.int (ei_ (x30)), .ref 60, .int (ei_ (n))], m1)) rfl ?_
                    refine pw_bld rfl rfl (by omega) (fun x32 (hx32 : x32 = vi_ m1 60 x30) rx32 sx32 => ?_)
                    refine pw_if rfl ⟨rx32, sx32⟩ (fun (h33 : x32 = 0) => ?_) (fun (h33 : ¬ (x32 = 0)) => ?_)
                    · refine pw_steps 7 (s' := (118, [some (.ref 47), some (.int (ei_ (a))), some (.int (ei_ (b))), some (.int (ei_ (c))), some (.int (ei_ (x30))), some (.int ((ei_ (n)) + (ei_ (1)))), some (.int (ei_ (k)))], [.int (ei_ (1)), .int (ei_ (x30)), .ref 60], m1)) rfl ?_
                      refine pw_cv (congrArg (fun z_ : Int32 => ((118, [some (.ref 47), some (.int (ei_ (a))), some (.int (ei_ (b))), some (.int (ei_ (c))), some (.int (ei_ (x30))), some (.int z_), some (.int (ei_ (k)))], [.int (ei_ (1)), .int (ei_ (x30)), .ref 60], m1) : am_S)) (ei_add rfl rfl)) ?_
                      refine pw_bst rfl rfl (by omega) (by omega) ?_
                      refine pw_steps 2 (s' := (76, [some (.ref 47), some (.int (ei_ (a))), some (.int (ei_ (b))), some (.int (ei_ (c))), some (.int (ei_ (x30))), some (.int (ei_ ((n + 1)))), some (.int ((ei_ (k)) + (ei_ (1))))], [], wi_ m1 60 (x30) (1))) rfl ?_
                      refine pw_cv (congrArg (fun z_ : Int32 => ((76, [some (.ref 47), some (.int (ei_ (a))), some (.int (ei_ (b))), some (.int (ei_ (c))), some (.int (ei_ (x30))), some (.int (ei_ ((n + 1)))), some (.int z_)], [], wi_ m1 60 (x30) (1)) : am_S)) (ei_add rfl rfl)) ?_
                      exact ih23 _ (by omega) x30 (n + 1) (k + 1) (wi_ m1 60 (x30) (1)) (ad_ t x30) rfl (by omega) ((sm_w hs (fun _ h_ => by rw [h_]; rfl))) (by have A_ := ad_all (s := t) (w := x30) (by omega) (by omega); have B_ := bi_b t x30; exact A_.1) (by rw [wk_s (by omega), ← hw]; omega) (by rw [mk_s (by omega), wk_s (by omega), ← hw, ← ht]; exact congrArg _ (by omega)) (by have A_ := ad_all (s := t) (w := x30) (by omega) (by omega); have B_ := bi_b t x30; intro p a_ b_; rw [vi_up (by decide) (by omega) a_, A_.2.2 p a_ (by omega)]; by_cases e_ : p = x30; (rw [if_pos e_, if_pos e_]); (rw [if_neg e_, if_neg e_]; exact h60 p a_ b_)) (by have A_ := ad_all (s := t) (w := x30) (by omega) (by omega); have B_ := bi_b t x30; have c_ := h60 x30 (by omega) (by omega); omega) (by have A_ := ad_all (s := t) (w := x30) (by omega) (by omega); have B_ := bi_b t x30; have c_ := h60 x30 (by omega) (by omega); have q_ := @pp_b (ad_ t x30); omega)
                    · refine pw_steps 8 (s' := (118, [some (.ref 47), some (.int (ei_ (a))), some (.int (ei_ (b))), some (.int (ei_ (c))), some (.int (ei_ (x30))), some (.int ((ei_ (n)) + (ei_ (0)))), some (.int (ei_ (k)))], [.int (ei_ (1)), .int (ei_ (x30)), .ref 60], m1)) rfl ?_
                      refine pw_cv (congrArg (fun z_ : Int32 => ((118, [some (.ref 47), some (.int (ei_ (a))), some (.int (ei_ (b))), some (.int (ei_ (c))), some (.int (ei_ (x30))), some (.int z_), some (.int (ei_ (k)))], [.int (ei_ (1)), .int (ei_ (x30)), .ref 60], m1) : am_S)) (ei_add rfl rfl)) ?_
                      refine pw_bst rfl rfl (by omega) (by omega) ?_
                      refine pw_steps 2 (s' := (76, [some (.ref 47), some (.int (ei_ (a))), some (.int (ei_ (b))), some (.int (ei_ (c))), some (.int (ei_ (x30))), some (.int (ei_ ((n + 0)))), some (.int ((ei_ (k)) + (ei_ (1))))], [], wi_ m1 60 (x30) (1))) rfl ?_
                      refine pw_cv (congrArg (fun z_ : Int32 => ((76, [some (.ref 47), some (.int (ei_ (a))), some (.int (ei_ (b))), some (.int (ei_ (c))), some (.int (ei_ (x30))), some (.int (ei_ ((n + 0)))), some (.int z_)], [], wi_ m1 60 (x30) (1)) : am_S)) (ei_add rfl rfl)) ?_
                      exact ih23 _ (by omega) x30 (n + 0) (k + 1) (wi_ m1 60 (x30) (1)) (ad_ t x30) rfl (by omega) ((sm_w hs (fun _ h_ => by rw [h_]; rfl))) (by have A_ := ad_all (s := t) (w := x30) (by omega) (by omega); have B_ := bi_b t x30; exact A_.1) (by rw [wk_s (by omega), ← hw]; omega) (by rw [mk_s (by omega), wk_s (by omega), ← hw, ← ht]; exact congrArg _ (by omega)) (by have A_ := ad_all (s := t) (w := x30) (by omega) (by omega); have B_ := bi_b t x30; intro p a_ b_; rw [vi_up (by decide) (by omega) a_, A_.2.2 p a_ (by omega)]; by_cases e_ : p = x30; (rw [if_pos e_, if_pos e_]); (rw [if_neg e_, if_neg e_]; exact h60 p a_ b_)) (by have A_ := ad_all (s := t) (w := x30) (by omega) (by omega); have B_ := bi_b t x30; have c_ := h60 x30 (by omega) (by omega); omega) (by have A_ := ad_all (s := t) (w := x30) (by omega) (by omega); have B_ := bi_b t x30; have c_ := h60 x30 (by omega) (by omega); have q_ := @pp_b (ad_ t x30); omega)
              exact L24 _ x20 1 0 (wi_ m1 60 (x20) (1)) (ad_ 0 x20) rfl (by omega) ((sm_w hs0 (fun _ h_ => by rw [h_]; rfl))) (by have A_ := ad_all (s := 0) (w := x20) (by omega) (by omega); exact A_.1) (by show _ = vi_ m0 4 a; omega) (by show _ = ad_ 0 (vi_ m0 4 a); exact congrArg _ (by omega)) (by have A_ := ad_all (s := 0) (w := x20) (by omega) (by omega); intro p a_ b_; rw [vi_up (by decide) (by omega) a_, A_.2.2 p a_ (by omega)]; by_cases e_ : p = x20; (rw [if_pos e_, if_pos e_]); (rw [if_neg e_, if_neg e_, bi_0]; exact hc p a_ (by omega))) (by have A_ := ad_all (s := 0) (w := x20) (by omega) (by omega); have b_ := bi_0 x20; have c_ : pp_ 0 = 0 := rfl; omega) (by decide)
            · refine pw_steps 4 (s' := (47, [some (.ref 47), some (.int (ei_ (a))), some (.int (ei_ (b))), some (.int (ei_ (c))), some (.int (ei_ (j))), none, none], [.int (ei_ (0)), .int (ei_ (j)), .ref 60], m1)) rfl ?_
              refine pw_bst rfl rfl (by omega) (by omega) ?_
              refine pw_steps 2 (s' := (31, [some (.ref 47), some (.int (ei_ (a))), some (.int (ei_ (b))), some (.int (ei_ (c))), some (.int ((ei_ (j)) + (ei_ (1)))), none, none], [], wi_ m1 60 (j) (0))) rfl ?_
              refine pw_cv (congrArg (fun z_ : Int32 => ((31, [some (.ref 47), some (.int (ei_ (a))), some (.int (ei_ (b))), some (.int (ei_ (c))), some (.int z_), none, none], [], wi_ m1 60 (j) (0)) : am_S)) (ei_add rfl rfl)) ?_
              exact ih15 _ (by omega) (j + 1) (wi_ m1 60 (j) (0)) rfl (by omega) ((sm_w hs0 (fun _ h_ => by rw [h_]; rfl))) (by intro p a_ b_; rw [vi_up (by decide) (by omega) a_]; by_cases e_ : p = j; (rw [if_pos e_]); (rw [if_neg e_]; exact hc p a_ (by omega)))
        exact L16 _ 0 m rfl (by omega) (p4) (by intro p a_ b_; omega)
      · refine pw_ifF rfl (by decide) (show ¬ (¬ 0 = 0) by decide) ?_
        refine pw_steps 1 (s' := (27, [some (.ref 47), some (.int (ei_ (a))), some (.int (ei_ (b))), some (.int (ei_ (c))), none, none, none], [.int (ei_ ((-1)))], m)) rfl ?_
        refine pw_iret rfl rfl rfl ?_
        exact k0 (-1) m (by unfold ss_; rw [if_neg (by omega)]) (p4)
      · refine pw_ifF rfl (by decide) (show ¬ (¬ 0 = 0) by decide) ?_
        refine pw_steps 1 (s' := (27, [some (.ref 47), some (.int (ei_ (a))), some (.int (ei_ (b))), some (.int (ei_ (c))), none, none, none], [.int (ei_ ((-1)))], m)) rfl ?_
        refine pw_iret rfl rfl rfl ?_
        exact k0 (-1) m (by unfold ss_; rw [if_neg (by omega)]) (p4)
    · refine pw_iret rfl rfl rfl ?_
      refine pw_ifT rfl (by decide) (show 0 = 0 by decide) ?_
      refine pw_steps 1 (s' := (27, [some (.ref 47), some (.int (ei_ (a))), some (.int (ei_ (b))), some (.int (ei_ (c))), none, none, none], [.int (ei_ ((-1)))], m)) rfl ?_
      refine pw_iret rfl rfl rfl ?_
      exact k0 (-1) m (by unfold ss_; rw [if_neg (by omega)]) (p4)
    · refine pw_iret rfl rfl rfl ?_
      refine pw_ifT rfl (by decide) (show 0 = 0 by decide) ?_
      refine pw_steps 1 (s' := (27, [some (.ref 47), some (.int (ei_ (a))), some (.int (ei_ (b))), some (.int (ei_ (c))), none, none, none], [.int (ei_ ((-1)))], m)) rfl ?_
      refine pw_iret rfl rfl rfl ?_
      exact k0 (-1) m (by unfold ss_; rw [if_neg (by omega)]) (p4)
  · refine pw_iret rfl rfl rfl ?_
    refine pw_ifT rfl (by decide) (show 0 = 0 by decide) ?_
    refine pw_steps 1 (s' := (27, [some (.ref 47), some (.int (ei_ (a))), some (.int (ei_ (b))), some (.int (ei_ (c))), none, none, none], [.int (ei_ ((-1)))], m)) rfl ?_
    refine pw_iret rfl rfl rfl ?_
    exact k0 (-1) m (by unfold ss_; rw [if_neg (by omega)]) (p4)
  · refine pw_iret rfl rfl rfl ?_
    refine pw_ifT rfl (by decide) (show 0 = 0 by decide) ?_
    refine pw_steps 1 (s' := (27, [some (.ref 47), some (.int (ei_ (a))), some (.int (ei_ (b))), some (.int (ei_ (c))), none, none, none], [.int (ei_ ((-1)))], m)) rfl ?_
    refine pw_iret rfl rfl rfl ?_
    exact k0 (-1) m (by unfold ss_; rw [if_neg (by omega)]) (p4)

theorem op_letter {q : am_X} {d : Nat} {m : am_M} {a : Int} {b : Int} {c : Int} (q0 : -2147483648 ≤ a ∧ a < 2147483648) (q1 : -2147483648 ≤ b ∧ b < 2147483648) (q2 : -2147483648 ≤ c ∧ c < 2147483648) (hR : rR_ m) : pw_C q (d + 60) 90 [.ref 0, .int (ei_ a), .int (ei_ b), .int (ei_ c)] m (fun r1 m1 => pw_C q (d + 60) 228 [.ref 47, .int (ei_ a), .int (ei_ b), .int (ei_ c)] m1 (fun r2 m2 => ∃ x : Int, r1 = some (.int (ei_ x)) ∧ r2 = some (.int (ei_ x)) ∧ rR_ m2)) := by
  obtain ⟨hp, hd, hi, ht, hl, hz, hc, ha, hs⟩ := id hR
  refine cs_letter hp hd hz hl (sm_rfl m) q0 q1 q2 (fun x m1 e1 g1 => ?_)
  refine ms_letter hp hd hz hl g1 q0 q1 q2 (fun y m2 e2 g2 => ?_)
  exact ⟨x, rfl, by rw [e2, ← e1], rR_sm g2 hR⟩

