/-! ===== THE RELATION: what class and model hold alike ===== -/
/-- deeds -/
def rD_ (m : am_M) : Prop := rW_ m ∧ rF_ m ∧ (∀ j, 0 ≤ j → j < vi_ m 1 1 → vi_ m 52 j = vi_ m 4 j ∧ vi_ m 53 j = vi_ m 5 j) ∧ (∀ j, 0 ≤ j → j < 64 → vi_ m 61 j = vi_ m 6 j ∧ 0 ≤ vi_ m 6 j ∧ vi_ m 6 j ≤ 9999) ∧ vi_ m 47 26 = vi_ m 3 3 ∧ vi_ m 47 27 = vi_ m 3 4 ∧ vi_ m 47 28 = vi_ m 3 5
/-- the image -/
def rI_ (m : am_M) : Prop := vi_ m 47 29 = vi_ m 0 3 ∧ (vi_ m 0 3 = 0 ∨ vi_ m 0 3 = 1) ∧ (vi_ m 0 3 = 1 → (0 ≤ vi_ m 47 30 ∧ vi_ m 47 30 ≤ vi_ m 1 1) ∧ (∀ j, 0 ≤ j → j < 8 → 0 ≤ vi_ m 8 j ∧ vi_ m 8 j < 8 ∧ (j < vi_ m 47 30 → vi_ m 8 j < vi_ m 47 30 ∧ vi_ m 62 j = vi_ m 8 j) ∧ (vi_ m 47 30 ≤ j → vi_ m 8 j = j)) ∧ (∀ j, 0 ≤ j → j < 8 → 0 ≤ vi_ m 9 j ∧ vi_ m 9 j ≤ 999 ∧ (j < vi_ m 47 30 → vi_ m 63 j = vi_ m 9 j) ∧ (vi_ m 47 30 ≤ j → vi_ m 9 j = 100)) ∧ (∀ j, 0 ≤ j → j < 64 → vi_ m 64 j = vi_ m 10 j ∧ 0 ≤ vi_ m 10 j ∧ vi_ m 10 j ≤ 9999) ∧ vi_ m 65 0 = vi_ m 7 3 ∧ vi_ m 65 1 = vi_ m 7 4 ∧ vi_ m 65 2 = vi_ m 7 5)
/-- the tape -/
def rT_ (m : am_M) : Prop := vi_ m 47 10 = vi_ m 11 1 ∧ (0 ≤ vi_ m 11 1 ∧ vi_ m 11 1 ≤ 120) ∧ (∀ j, 0 ≤ j → j < vi_ m 11 1 → vi_ m 54 j = vi_ m 12 j ∧ 0 ≤ vi_ m 12 j ∧ vi_ m 12 j ≤ 255)
/-- changes -/
def rC_ (m : am_M) : Prop := vi_ m 47 5 = vi_ m 24 4 ∧ vi_ m 47 4 = vi_ m 24 5 ∧ (0 ≤ vi_ m 24 4 ∧ vi_ m 24 4 ≤ vi_ m 24 5 ∧ vi_ m 24 5 ≤ 40) ∧ (∀ j, 0 ≤ j → j < vi_ m 24 5 → ((0 ≤ vi_ m 26 j ∧ vi_ m 26 j ≤ 3 ∧ 0 ≤ vi_ m 25 j ∧ vi_ m 25 j < vi_ m 1 1 ∧ vi_ m 49 j = 8 * vi_ m 26 j + vi_ m 25 j) ∨ (4 ≤ vi_ m 26 j ∧ vi_ m 26 j ≤ 5 ∧ vi_ m 25 j = 0 ∧ vi_ m 49 j = 28 + vi_ m 26 j)) ∧ vi_ m 50 j = vi_ m 27 j ∧ vi_ m 51 j = vi_ m 28 j ∧ 0 ≤ vi_ m 27 j ∧ vi_ m 27 j ≤ 9 ∧ 0 ≤ vi_ m 28 j ∧ vi_ m 28 j ≤ 9)
/-- acts -/
def rA_ (m : am_M) : Prop := vi_ m 47 35 = vi_ m 29 2 ∧ (0 ≤ vi_ m 29 2 ∧ vi_ m 29 2 ≤ 50) ∧ (∀ j, 0 ≤ j → j < vi_ m 29 2 → vi_ m 66 j = vi_ m 30 j ∧ 0 ≤ vi_ m 30 j ∧ vi_ m 30 j ≤ 7) ∧ vi_ m 47 38 = vi_ m 29 3 ∧ (0 ≤ vi_ m 29 3 ∧ vi_ m 29 3 ≤ 1000) ∧ (∀ j, 0 ≤ j → j < vi_ m 29 3 → j < 24 → vi_ m 67 j = vi_ m 31 j)
/-- one shelf: its object's cell k, its longs at k + 1 -/
def rs_ (m : am_M) (d : Int) (k : Nat) : Prop := vi_ m 69 d = vi_ m k 2 ∧ (0 ≤ vi_ m k 2 ∧ vi_ m k 2 ≤ 60) ∧ ((vi_ m k 0 = -1 ∧ vi_ m 68 d = -1 ∧ vi_ m k 2 = 0) ∨ (vi_ m k 0 = -2 ∧ vi_ m 68 d = vi_ m k 1 ∧ 0 ≤ vi_ m k 1 ∧ vi_ m k 1 < vi_ m 29 2 ∧ vi_ m k 2 = 0) ∨ (0 ≤ vi_ m k 0 ∧ vi_ m k 0 ≤ 4 ∧ vi_ m 68 d = 50 + vi_ m k 0 ∧ ∀ j, 0 ≤ j → j < vi_ m k 2 → vl_ m 70 (60 * d + j) = vl_ m (k + 1) j ∧ (vi_ m k 0 = 0 → -128 ≤ vl_ m (k + 1) j ∧ vl_ m (k + 1) j ≤ 127)))
/-- shelves -/
def rS_ (m : am_M) : Prop := ∀ d, 0 ≤ d → d < 6 → rs_ m d (sf_ d)
def rR_ (m : am_M) : Prop := rP_ m ∧ rD_ m ∧ rI_ m ∧ rT_ m ∧ rL_ m ∧ rZ_ m ∧ rC_ m ∧ rA_ m ∧ rS_ m
theorem sf_sc {d : Int} (h : 0 ≤ d ∧ d < 6) : ∀ j, pSc (sf_ d) j = false := by
  intro j
  rcases sf_six h with h | h | h | h | h | h <;> subst h <;> rfl
theorem rR_sm {m m1 : am_M} (h : sm_ pSc m m1) (k : rR_ m) : rR_ m1 := by
  have f : ∀ {c : Nat}, (∀ j, pSc c j = false) → vi_ m1 c = vi_ m c := fun e => sm_f h e
  have v : ∀ {c : Nat} {j : Int}, pSc c j.toNat = false → vi_ m1 c j = vi_ m c j := fun e => sm_v h e
  obtain ⟨k1, k2, k3, k4, k5, k6, k7, k8, k9⟩ := k
  refine ⟨rP_sm h rfl rfl (fun _ => rfl) (fun _ => rfl) k1, ?_, ?_, ?_, ?_, rZ_sm h rfl k6, ?_, ?_, ?_⟩
  · obtain ⟨a1, a2, a3⟩ := k2
    refine ⟨rW_sm h rfl (fun _ => rfl) a1, rF_sm h rfl (fun _ => rfl) a2, ?_⟩
    rw [f (c := 52) (fun _ => rfl), f (c := 53) (fun _ => rfl), f (c := 61) (fun _ => rfl), f (c := 1) (fun _ => rfl), f (c := 4) (fun _ => rfl), f (c := 5) (fun _ => rfl), f (c := 6) (fun _ => rfl), f (c := 3) (fun _ => rfl), v (c := 47) (j := 26) rfl, v (c := 47) (j := 27) rfl, v (c := 47) (j := 28) rfl]
    exact a3
  · unfold rI_ at k3 ⊢
    rw [v (c := 47) (j := 29) rfl, v (c := 47) (j := 30) rfl, f (c := 0) (fun _ => rfl), f (c := 1) (fun _ => rfl), f (c := 8) (fun _ => rfl), f (c := 9) (fun _ => rfl), f (c := 10) (fun _ => rfl), f (c := 7) (fun _ => rfl), f (c := 62) (fun _ => rfl), f (c := 63) (fun _ => rfl), f (c := 64) (fun _ => rfl), f (c := 65) (fun _ => rfl)]
    exact k3
  · unfold rT_ at k4 ⊢
    rw [v (c := 47) (j := 10) rfl, f (c := 11) (fun _ => rfl), f (c := 12) (fun _ => rfl), f (c := 54) (fun _ => rfl)]
    exact k4
  · unfold rL_ at k5 ⊢
    rw [v (c := 47) (j := 12) rfl, f (c := 14) (fun _ => rfl), f (c := 15) (fun _ => rfl), f (c := 55) (fun _ => rfl)]
    exact k5
  · unfold rC_ at k7 ⊢
    rw [v (c := 47) (j := 5) rfl, v (c := 47) (j := 4) rfl, f (c := 24) (fun _ => rfl), f (c := 25) (fun _ => rfl), f (c := 26) (fun _ => rfl), f (c := 27) (fun _ => rfl), f (c := 28) (fun _ => rfl), f (c := 1) (fun _ => rfl), f (c := 49) (fun _ => rfl), f (c := 50) (fun _ => rfl), f (c := 51) (fun _ => rfl)]
    exact k7
  · unfold rA_ at k8 ⊢
    rw [v (c := 47) (j := 35) rfl, v (c := 47) (j := 38) rfl, f (c := 29) (fun _ => rfl), f (c := 30) (fun _ => rfl), f (c := 31) (fun _ => rfl), f (c := 66) (fun _ => rfl), f (c := 67) (fun _ => rfl)]
    exact k8
  · intro d h1 h2
    have t := k9 d h1 h2
    unfold rs_ at t ⊢
    rw [f (c := 69) (fun _ => rfl), f (c := 68) (fun _ => rfl), f (c := 29) (fun _ => rfl), f (c := sf_ d) (sf_sc ⟨h1, h2⟩), sm_l h, sm_l h]
    exact t
theorem cn_ext {f : Int → Int} {v P : Int} (hv : 0 ≤ v ∧ v < P) (hP : P ≤ 8) (h : ∀ j, P ≤ j → j < 8 → f j = j) : cn_ f v 8 = cn_ f v P.toNat := by
  have : ∀ (i : Nat), P.toNat + i ≤ 8 → cn_ f v (P.toNat + i) = cn_ f v P.toNat := by
    intro i
    induction i with
    | zero => intro _; rfl
    | succ i ih =>
      intro hi
      rw [show P.toNat + (i + 1) = (P.toNat + i) + 1 by omega]
      simp only [cn_]
      rw [ih (by omega), h ((P.toNat + i : Nat) : Int) (by omega) (by omega), if_neg (by omega)]
      omega
  have e := this (8 - P.toNat) (by omega)
  rwa [show P.toNat + (8 - P.toNat) = 8 by omega] at e
theorem cn_mc {m : am_M} (hp : rP_ m) (hd : rD_ m) {v : Int} (hv : 0 ≤ v ∧ v < vi_ m 1 1) : cn_ (vi_ m 52) v (vi_ m 1 1).toNat = cn_ (vi_ m 4) v 8 := by
  rw [cn_ext hv hp.1.2 (fun j a b => (hd.1 j (by have := hp.1; omega) b).2.2.2 a)]
  exact cn_cg _ (fun j a b => by rw [(hd.2.2.1 j a (by have := hp.1; omega)).1])
theorem bn_rn {m : am_M} (hp : rP_ m) (hd : rD_ m) {a : Int} (ha : 0 ≤ a ∧ a < vi_ m 1 1) : bn_ m a (vi_ m 2 32) = rn_ m a := by
  have hw := hd.1 a ha.1 (by have := hp.1; omega)
  unfold bn_ rn_
  rw [(hd.2.2.1 a ha.1 ha.2).1, cn_mc hp hd ⟨hw.1, hw.2.2.1 ha.2⟩]
theorem mW_of {m : am_M} (hp : rP_ m) (hd : rD_ m) : mW_ m := fun j a b => by
  have hw := hd.1 j a (by have := hp.1; omega)
  rw [(hd.2.2.1 j a b).1]; exact ⟨hw.1, hw.2.2.1 b⟩
theorem mF_of {m : am_M} (hp : rP_ m) (hd : rD_ m) : mF_ m := fun j a b => by
  have hw := hd.2.1 j a (by have := hp.1; omega)
  rw [(hd.2.2.1 j a b).2]; exact ⟨hw.1, hw.2.1⟩
theorem lf_mc {m : am_M} (hp : rP_ m) (hd : rD_ m) {a n : Int} (ha : 0 ≤ a ∧ a < vi_ m 1 1) : lf_ (vi_ m 53 a) (bn_ m a (vi_ m 2 32)) n = lf_ (vi_ m 5 a) (rn_ m a) n := by
  rw [bn_rn hp hd ha, (hd.2.2.1 a ha.1 ha.2).2]
