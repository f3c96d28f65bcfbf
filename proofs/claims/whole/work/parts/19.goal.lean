/-! ===== the pure goal ===== -/
theorem m0_2 {j : Int} (h : 0 ≤ j) : vi_ am_m0 2 j = if j = 32 then 2 else 0 := by
  show (upd (fun _ => 0) (32 : Int32).toNatClampNeg 2 j.toNat : Int32).toInt = _
  rw [show (32 : Int32).toNatClampNeg = 32 by decide]
  simp only [upd]
  by_cases e : j = 32
  · rw [if_pos (show j.toNat = 32 by omega), if_pos e]; decide
  · rw [if_neg (show ¬ j.toNat = 32 by omega), if_neg e]; decide
theorem m0_48 {j : Int} (h : 0 ≤ j) : vi_ am_m0 48 j = if j = 32 then 2 else 0 := m0_2 h
theorem m0_4 {j : Int} (h : 0 ≤ j) (h8 : j < 8) : vi_ am_m0 4 j = j := by
  rcases (show j = 0 ∨ j = 1 ∨ j = 2 ∨ j = 3 ∨ j = 4 ∨ j = 5 ∨ j = 6 ∨ j = 7 by omega) with e | e | e | e | e | e | e | e <;> subst e <;> decide
theorem m0_5 {j : Int} (h : 0 ≤ j) (h8 : j < 8) : vi_ am_m0 5 j = 100 := by
  rcases (show j = 0 ∨ j = 1 ∨ j = 2 ∨ j = 3 ∨ j = 4 ∨ j = 5 ∨ j = 6 ∨ j = 7 by omega) with e | e | e | e | e | e | e | e <;> subst e <;> decide
theorem rR_m0 : rR_ am_m0 := by
  have z : ∀ k : Nat, (am_m0.1 k = fun _ => 0) → ∀ j, vi_ am_m0 k j = 0 := by
    intro k e j
    show (am_m0.1 k j.toNat).toInt = 0
    rw [e]; rfl
  have z1 := z 1 rfl
  have z0 := z 0 rfl
  have z3 := z 3 rfl
  have z6 := z 6 rfl
  have z11 := z 11 rfl
  have z14 := z 14 rfl
  have z24 := z 24 rfl
  have z29 := z 29 rfl
  have z61 := z 61 rfl
  have z69 := z 69 rfl
  have c47 : ∀ j : Int, 0 ≤ j → j ≠ 12 → vi_ am_m0 47 j = 0 := by
    intro j a b
    show (upd (fun _ => 0) 12 (-1) j.toNat : Int32).toInt = 0
    simp only [upd]
    rw [if_neg (show ¬ j.toNat = 12 by omega)]; rfl
  have t12 : vi_ am_m0 47 12 = -1 := by decide
  have hp : rP_ am_m0 := by
    refine ⟨by rw [z1]; omega, by rw [z1, c47 6 (by omega) (by omega)], fun j a b => ?_, fun j a b => ?_⟩
    · rw [m0_2 a, m0_48 a]
      by_cases e : j = 32
      · rw [if_pos e]; omega
      · rw [if_neg e]; omega
    · rw [z1] at a
      rw [m0_2 (by omega), if_neg (by omega)]
  have hd : rD_ am_m0 := by
    refine ⟨fun j a b => ?_, fun j a b => ?_, fun j a b => ?_, fun j a b => ?_, ?_, ?_, ?_⟩
    · rw [m0_4 a b, z1]; omega
    · rw [m0_5 a b, z1]; omega
    · rw [z1] at b; omega
    · rw [z61, z6]; omega
    · rw [c47 26 (by omega) (by omega), z3]
    · rw [c47 27 (by omega) (by omega), z3]
    · rw [c47 28 (by omega) (by omega), z3]
  have hi : rI_ am_m0 := by
    unfold rI_
    refine ⟨by rw [c47 29 (by omega) (by omega), z0], Or.inl (z0 3), fun h => ?_⟩
    rw [z0] at h; omega
  have ht : rT_ am_m0 := by
    refine ⟨by rw [c47 10 (by omega) (by omega), z11], by rw [z11]; omega, fun j a b => ?_⟩
    rw [z11] at b; omega
  have hz : rZ_ am_m0 := by
    unfold rZ_
    rw [z14]; omega
  have hc : rC_ am_m0 := by
    refine ⟨by rw [c47 5 (by omega) (by omega), z24], by rw [c47 4 (by omega) (by omega), z24], by rw [z24, z24]; omega, fun j a b => ?_⟩
    rw [z24] at b; omega
  have ha : rA_ am_m0 := by
    refine ⟨by rw [c47 35 (by omega) (by omega), z29], by rw [z29]; omega, fun j a b => ?_, by rw [c47 38 (by omega) (by omega), z29], by rw [z29]; omega, fun j a b => ?_⟩
    · rw [z29] at b; omega
    · rw [z29] at b; omega
  have hs : rS_ am_m0 := by
    intro d a b
    rcases sf_six ⟨a, b⟩ with e | e | e | e | e | e <;> subst e <;> exact ⟨by decide, by decide, Or.inl ⟨by decide, by decide, by decide⟩⟩
  exact ⟨hp, hd, hi, ht, Or.inl ⟨t12, z14 3⟩, hz, hc, ha, hs⟩
theorem am_goal_ok : am_goal := by
  intro q hq
  have hq' : 0 ≤ ql_ q ∧ ql_ q ≤ 3072 := by unfold ql_; omega
  obtain ⟨r, m', h1, h2⟩ := law_loop hq' _ 0 am_m0 rfl ⟨by omega, by omega⟩ rR_m0
  have e0 : ei_ 0 = 0 := by decide
  rw [h2, e0] at h1
  exact ⟨m', h1⟩
