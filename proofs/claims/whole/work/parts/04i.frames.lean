/-! ===== frames of the relation's parts ===== -/
theorem rP_fr {P : Nat → Nat → Bool} {m m1 : am_M} (h : sm_ P m m1) (e1_1 : P 1 1 = false) (e47_6 : P 47 6 = false) (e2 : ∀ j, P 2 j = false) (e48 : ∀ j, P 48 j = false) (k : rP_ m) : rP_ m1 := by
  simp only [rP_, sm_v h (k := 1) (j := 1) e1_1, sm_v h (k := 47) (j := 6) e47_6, sm_f h (k := 2) e2, sm_f h (k := 48) e48] at k ⊢
  exact k

theorem rW_fr {P : Nat → Nat → Bool} {m m1 : am_M} (h : sm_ P m m1) (e1_1 : P 1 1 = false) (e4 : ∀ j, P 4 j = false) (k : rW_ m) : rW_ m1 := by
  simp only [rW_, sm_v h (k := 1) (j := 1) e1_1, sm_f h (k := 4) e4] at k ⊢
  exact k

theorem rF_fr {P : Nat → Nat → Bool} {m m1 : am_M} (h : sm_ P m m1) (e1_1 : P 1 1 = false) (e5 : ∀ j, P 5 j = false) (k : rF_ m) : rF_ m1 := by
  simp only [rF_, sm_v h (k := 1) (j := 1) e1_1, sm_f h (k := 5) e5] at k ⊢
  exact k

theorem rD_fr {P : Nat → Nat → Bool} {m m1 : am_M} (h : sm_ P m m1) (e1_1 : P 1 1 = false) (e4 : ∀ j, P 4 j = false) (e5 : ∀ j, P 5 j = false) (e52 : ∀ j, P 52 j = false) (e53 : ∀ j, P 53 j = false) (e61 : ∀ j, P 61 j = false) (e6 : ∀ j, P 6 j = false) (e3_3 : P 3 3 = false) (e3_4 : P 3 4 = false) (e3_5 : P 3 5 = false) (e47_26 : P 47 26 = false) (e47_27 : P 47 27 = false) (e47_28 : P 47 28 = false) (k : rD_ m) : rD_ m1 := by
  simp only [rD_, rW_, rF_, sm_v h (k := 1) (j := 1) e1_1, sm_f h (k := 4) e4, sm_f h (k := 5) e5, sm_f h (k := 52) e52, sm_f h (k := 53) e53, sm_f h (k := 61) e61, sm_f h (k := 6) e6, sm_v h (k := 3) (j := 3) e3_3, sm_v h (k := 3) (j := 4) e3_4, sm_v h (k := 3) (j := 5) e3_5, sm_v h (k := 47) (j := 26) e47_26, sm_v h (k := 47) (j := 27) e47_27, sm_v h (k := 47) (j := 28) e47_28] at k ⊢
  exact k

theorem rI_fr {P : Nat → Nat → Bool} {m m1 : am_M} (h : sm_ P m m1) (e47_29 : P 47 29 = false) (e0_3 : P 0 3 = false) (e47_30 : P 47 30 = false) (e1_1 : P 1 1 = false) (e8 : ∀ j, P 8 j = false) (e9 : ∀ j, P 9 j = false) (e10 : ∀ j, P 10 j = false) (e62 : ∀ j, P 62 j = false) (e63 : ∀ j, P 63 j = false) (e64 : ∀ j, P 64 j = false) (e65 : ∀ j, P 65 j = false) (e7_3 : P 7 3 = false) (e7_4 : P 7 4 = false) (e7_5 : P 7 5 = false) (k : rI_ m) : rI_ m1 := by
  simp only [rI_, sm_v h (k := 47) (j := 29) e47_29, sm_v h (k := 0) (j := 3) e0_3, sm_v h (k := 47) (j := 30) e47_30, sm_v h (k := 1) (j := 1) e1_1, sm_f h (k := 8) e8, sm_f h (k := 9) e9, sm_f h (k := 10) e10, sm_f h (k := 62) e62, sm_f h (k := 63) e63, sm_f h (k := 64) e64, sm_f h (k := 65) e65, sm_v h (k := 7) (j := 3) e7_3, sm_v h (k := 7) (j := 4) e7_4, sm_v h (k := 7) (j := 5) e7_5] at k ⊢
  exact k

theorem rT_fr {P : Nat → Nat → Bool} {m m1 : am_M} (h : sm_ P m m1) (e47_10 : P 47 10 = false) (e11_1 : P 11 1 = false) (e12 : ∀ j, P 12 j = false) (e54 : ∀ j, P 54 j = false) (k : rT_ m) : rT_ m1 := by
  simp only [rT_, sm_v h (k := 47) (j := 10) e47_10, sm_v h (k := 11) (j := 1) e11_1, sm_f h (k := 12) e12, sm_f h (k := 54) e54] at k ⊢
  exact k

theorem rL_fr {P : Nat → Nat → Bool} {m m1 : am_M} (h : sm_ P m m1) (e47_12 : P 47 12 = false) (e14_3 : P 14 3 = false) (e15 : ∀ j, P 15 j = false) (e55 : ∀ j, P 55 j = false) (k : rL_ m) : rL_ m1 := by
  simp only [rL_, sm_v h (k := 47) (j := 12) e47_12, sm_v h (k := 14) (j := 3) e14_3, sm_f h (k := 15) e15, sm_f h (k := 55) e55] at k ⊢
  exact k

theorem rZ_fr {P : Nat → Nat → Bool} {m m1 : am_M} (h : sm_ P m m1) (e14_3 : P 14 3 = false) (k : rZ_ m) : rZ_ m1 := by
  simp only [rZ_, sm_v h (k := 14) (j := 3) e14_3] at k ⊢
  exact k

theorem rC_fr {P : Nat → Nat → Bool} {m m1 : am_M} (h : sm_ P m m1) (e47_5 : P 47 5 = false) (e24_4 : P 24 4 = false) (e47_4 : P 47 4 = false) (e24_5 : P 24 5 = false) (e25 : ∀ j, P 25 j = false) (e26 : ∀ j, P 26 j = false) (e27 : ∀ j, P 27 j = false) (e28 : ∀ j, P 28 j = false) (e49 : ∀ j, P 49 j = false) (e50 : ∀ j, P 50 j = false) (e51 : ∀ j, P 51 j = false) (e1_1 : P 1 1 = false) (k : rC_ m) : rC_ m1 := by
  simp only [rC_, sm_v h (k := 47) (j := 5) e47_5, sm_v h (k := 24) (j := 4) e24_4, sm_v h (k := 47) (j := 4) e47_4, sm_v h (k := 24) (j := 5) e24_5, sm_f h (k := 25) e25, sm_f h (k := 26) e26, sm_f h (k := 27) e27, sm_f h (k := 28) e28, sm_f h (k := 49) e49, sm_f h (k := 50) e50, sm_f h (k := 51) e51, sm_v h (k := 1) (j := 1) e1_1] at k ⊢
  exact k

theorem rA_fr {P : Nat → Nat → Bool} {m m1 : am_M} (h : sm_ P m m1) (e47_35 : P 47 35 = false) (e29_2 : P 29 2 = false) (e66 : ∀ j, P 66 j = false) (e30 : ∀ j, P 30 j = false) (e47_38 : P 47 38 = false) (e29_3 : P 29 3 = false) (e67 : ∀ j, P 67 j = false) (e31 : ∀ j, P 31 j = false) (k : rA_ m) : rA_ m1 := by
  simp only [rA_, sm_v h (k := 47) (j := 35) e47_35, sm_v h (k := 29) (j := 2) e29_2, sm_f h (k := 66) e66, sm_f h (k := 30) e30, sm_v h (k := 47) (j := 38) e47_38, sm_v h (k := 29) (j := 3) e29_3, sm_f h (k := 67) e67, sm_f h (k := 31) e31] at k ⊢
  exact k


theorem rS_fr {P : Nat → Nat → Bool} {m m1 : am_M} (h : sm_ P m m1) (e68 : ∀ j, P 68 j = false) (e69 : ∀ j, P 69 j = false) (e29 : P 29 2 = false) (es : ∀ d, 0 ≤ d → d < 6 → P (sf_ d) 0 = false ∧ P (sf_ d) 1 = false ∧ P (sf_ d) 2 = false) (k : rS_ m) : rS_ m1 := by
  intro d h1 h2
  have t := k d h1 h2
  obtain ⟨s0, s1, s2⟩ := es d h1 h2
  unfold rs_ at t ⊢
  rw [sm_f h (k := 68) e68, sm_f h (k := 69) e69, sm_v h (k := 29) (j := 2) e29, sm_v h (k := sf_ d) (j := 0) s0, sm_v h (k := sf_ d) (j := 1) s1, sm_v h (k := sf_ d) (j := 2) s2, sm_l h, sm_l h]
  exact t
theorem by_r (a : Int) : -2147483648 ≤ by_ a ∧ by_ a < 2147483648 := ⟨Int32.le_toInt _, Int32.toInt_lt _⟩
theorem sh_r (a : Int) : -2147483648 ≤ sh_ a ∧ sh_ a < 2147483648 := ⟨Int32.le_toInt _, Int32.toInt_lt _⟩
theorem xr_r (a b : Int) : -2147483648 ≤ xr_ a b ∧ xr_ a b < 2147483648 := ⟨Int32.le_toInt _, Int32.toInt_lt _⟩
theorem or_r (a b : Int) : -2147483648 ≤ or_ a b ∧ or_ a b < 2147483648 := ⟨Int32.le_toInt _, Int32.toInt_lt _⟩
theorem an_r (a b : Int) : -2147483648 ≤ an_ a b ∧ an_ a b < 2147483648 := ⟨Int32.le_toInt _, Int32.toInt_lt _⟩
theorem sl_r (a b : Int) : -2147483648 ≤ sl_ a b ∧ sl_ a b < 2147483648 := ⟨Int32.le_toInt _, Int32.toInt_lt _⟩
theorem us_r (a b : Int) : -2147483648 ≤ us_ a b ∧ us_ a b < 2147483648 := ⟨Int32.le_toInt _, Int32.toInt_lt _⟩
theorem by_b (a : Int) : -128 ≤ by_ a ∧ by_ a ≤ 127 := by
  unfold by_
  rw [Int8.toInt_toInt32]
  have h1 := Int8.le_toInt (ei_ a).toInt8
  have h2 := Int8.toInt_lt (ei_ a).toInt8
  omega
theorem ei_l2iw {x : Int64} {a : Int} (hx : x = el_ a) : x.toInt32 = ei_ (wr_ a) := (ei_l2i hx).trans (ei_wr a).symm

