
/-! ===== the law's loop ===== -/
def ql_ (q : am_X) : Int := (q.1 : Int)
theorem ei_ql (q : am_X) : Int32.ofNat q.1 = ei_ (ql_ q) := rfl
def lsh_ (a b : Int) : Int := (el_ a <<< ((ei_ b).toInt64 &&& 63)).toInt
def lan_ (a b : Int) : Int := (el_ a &&& el_ b).toInt
def lor_ (a b : Int) : Int := (el_ a ||| el_ b).toInt
theorem el_lsh {x : Int64} {y : Int32} {a b : Int} (hx : x = el_ a) (hy : y = ei_ b) : x <<< (y.toInt64 &&& 63) = el_ (lsh_ a b) := by rw [hx, hy]; exact (el_toInt _).symm
theorem el_lan {x y : Int64} {a b : Int} (hx : x = el_ a) (hy : y = el_ b) : x &&& y = el_ (lan_ a b) := by rw [hx, hy]; exact (el_toInt _).symm
theorem el_lor {x y : Int64} {a b : Int} (hx : x = el_ a) (hy : y = el_ b) : x ||| y = el_ (lor_ a b) := by rw [hx, hy]; exact (el_toInt _).symm
theorem lor_r (a b : Int) : -9223372036854775808 ≤ lor_ a b ∧ lor_ a b < 9223372036854775808 := ⟨Int64.le_toInt _, Int64.toInt_lt _⟩
theorem pw_two {q : am_X} {d yC yM : Nat} {aC aM : List Value} {m : am_M} {Q : Option Value → am_M → Prop} (h : pw_C q d yC aC m (fun r1 m1 => pw_C q d yM aM m1 (fun r2 m2 => ∃ x : Int, r1 = some (.int (ei_ x)) ∧ r2 = some (.int (ei_ x)) ∧ rR_ m2)))
    (k : ∀ (x : Int) (m1 : am_M), (-2147483648 ≤ x ∧ x < 2147483648) → pw_C q d yM aM m1 (fun r2 m2 => r2 = some (.int (ei_ x)) ∧ rR_ m2) → Q (some (.int (ei_ x))) m1) : pw_C q d yC aC m Q := by
  obtain ⟨r1, m1, h1, r2, m2, h2, x, e1, e2, hR⟩ := h
  refine ⟨r1, m1, h1, ?_⟩
  rw [e1, ← ei_wr x]
  exact k (wr_ x) m1 (wr_r x) ⟨r2, m2, h2, by rw [e2, ei_wr], hR⟩
theorem pw_twoL {q : am_X} {d yC yM : Nat} {aC aM : List Value} {m : am_M} {Q : Option Value → am_M → Prop} (h : pw_C q d yC aC m (fun r1 m1 => pw_C q d yM aM m1 (fun r2 m2 => ∃ x : Int, r1 = some (.long (el_ x)) ∧ r2 = some (.long (el_ x)) ∧ rR_ m2)))
    (k : ∀ (x : Int) (m1 : am_M), (-9223372036854775808 ≤ x ∧ x < 9223372036854775808) → pw_C q d yM aM m1 (fun r2 m2 => r2 = some (.long (el_ x)) ∧ rR_ m2) → Q (some (.long (el_ x))) m1) : pw_C q d yC aC m Q := by
  obtain ⟨r1, m1, h1, r2, m2, h2, x, e1, e2, hR⟩ := h
  refine ⟨r1, m1, h1, ?_⟩
  have e : el_ ((el_ x).toInt) = el_ x := el_toInt _
  rw [e1, ← e]
  exact k _ m1 ⟨Int64.le_toInt _, Int64.toInt_lt _⟩ ⟨r2, m2, h2, by rw [e2, e], hR⟩

set_option maxHeartbeats 4000000 in
set_option maxRecDepth 20000 in
theorem lc_person {q : am_X} {m : am_M} {i : Int} {Q : Option Value → am_M → Prop} (hq : 0 ≤ ql_ q ∧ ql_ q ≤ 3072) (hi : 0 ≤ i ∧ i ≤ ql_ q - 6) (hR : rR_ m) (kk : ∀ m2, rR_ m2 → pw_V q 200 (some .boolean) tL_law Q (1473, [some (.ref 1000), some (.ref 0), some (.ref 47), some (.int (ei_ i))], [], m2)) : pw_V q 200 (some .boolean) tL_law Q (216, [some (.ref 1000), some (.ref 0), some (.ref 47), some (.int (ei_ i))], [], m) := by
  have hqn : ql_ q = (q.1 : Int) := rfl
  refine pw_steps 5 (s' := (221, [some (.ref 1000), some (.ref 0), some (.ref 47), some (.int (ei_ (i)))], [.int ((ei_ (i)) + (ei_ (1))), .ref 1000, .ref 0], m)) rfl ?_
  refine pw_cv (congrArg (fun z_ : Int32 => ((221, [some (.ref 1000), some (.ref 0), some (.ref 47), some (.int (ei_ (i)))], [.int z_, .ref 1000, .ref 0], m) : am_S)) (ei_add rfl rfl)) ?_
  refine pw_ild rfl rfl (by omega) (fun x1 (hx1 : x1 = sc_ q (i + 1)) rx1 sx1 => ?_)
  refine pw_steps 4 (s' := (226, [some (.ref 1000), some (.ref 0), some (.ref 47), some (.int (ei_ (i)))], [.int ((ei_ (i)) + (ei_ (2))), .ref 1000, .int (ei_ (x1)), .ref 0], m)) rfl ?_
  refine pw_cv (congrArg (fun z_ : Int32 => ((226, [some (.ref 1000), some (.ref 0), some (.ref 47), some (.int (ei_ (i)))], [.int z_, .ref 1000, .int (ei_ (x1)), .ref 0], m) : am_S)) (ei_add rfl rfl)) ?_
  refine pw_ild rfl rfl (by omega) (fun x2 (hx2 : x2 = sc_ q (i + 2)) rx2 sx2 => ?_)
  refine pw_call (As := [.int (ei_ (x1)), .int (ei_ (x2))]) (st := []) (k := 0) rfl rfl rfl rfl rfl (Nat.le_of_ble_eq_true rfl) ?_
  refine pw_two (op_person (d := 140) ⟨rx1, sx1⟩ ⟨rx2, sx2⟩ hR) (fun x3 mm4 rr5 hh6 => ?_)
  refine pw_steps 5 (s' := (235, [some (.ref 1000), some (.ref 0), some (.ref 47), some (.int (ei_ (i)))], [.int ((ei_ (i)) + (ei_ (1))), .ref 1000, .ref 47, .int (ei_ (x3))], mm4)) rfl ?_
  refine pw_cv (congrArg (fun z_ : Int32 => ((235, [some (.ref 1000), some (.ref 0), some (.ref 47), some (.int (ei_ (i)))], [.int z_, .ref 1000, .ref 47, .int (ei_ (x3))], mm4) : am_S)) (ei_add rfl rfl)) ?_
  refine pw_ildE (x := x1) rfl rfl (by omega) hx1 ?_
  refine pw_steps 4 (s' := (240, [some (.ref 1000), some (.ref 0), some (.ref 47), some (.int (ei_ (i)))], [.int ((ei_ (i)) + (ei_ (2))), .ref 1000, .int (ei_ (x1)), .ref 47, .int (ei_ (x3))], mm4)) rfl ?_
  refine pw_cv (congrArg (fun z_ : Int32 => ((240, [some (.ref 1000), some (.ref 0), some (.ref 47), some (.int (ei_ (i)))], [.int z_, .ref 1000, .int (ei_ (x1)), .ref 47, .int (ei_ (x3))], mm4) : am_S)) (ei_add rfl rfl)) ?_
  refine pw_ildE (x := x2) rfl rfl (by omega) hx2 ?_
  refine pw_call (As := [.int (ei_ (x1)), .int (ei_ (x2))]) (st := [.int (ei_ (x3))]) (k := 47) rfl rfl rfl rfl rfl (Nat.le_of_ble_eq_true rfl) ?_
  refine pw_mono hh6 (fun r_ mm7 hh_ => ?_)
  obtain ⟨e8, hR9⟩ := hh_
  subst e8
  refine pw_cmpT rfl rr5 rr5 (show x3 = x3 by omega) ?_
  exact kk mm7 hR9

set_option maxHeartbeats 4000000 in
set_option maxRecDepth 20000 in
theorem lc_people {q : am_X} {m : am_M} {i : Int} {Q : Option Value → am_M → Prop} (hq : 0 ≤ ql_ q ∧ ql_ q ≤ 3072) (hi : 0 ≤ i ∧ i ≤ ql_ q - 6) (hR : rR_ m) (kk : ∀ m2, rR_ m2 → pw_V q 200 (some .boolean) tL_law Q (1473, [some (.ref 1000), some (.ref 0), some (.ref 47), some (.int (ei_ i))], [], m2)) : pw_V q 200 (some .boolean) tL_law Q (249, [some (.ref 1000), some (.ref 0), some (.ref 47), some (.int (ei_ i))], [], m) := by
  have hqn : ql_ q = (q.1 : Int) := rfl
  refine pw_steps 5 (s' := (254, [some (.ref 1000), some (.ref 0), some (.ref 47), some (.int (ei_ (i)))], [.int ((ei_ (i)) + (ei_ (1))), .ref 1000, .ref 0], m)) rfl ?_
  refine pw_cv (congrArg (fun z_ : Int32 => ((254, [some (.ref 1000), some (.ref 0), some (.ref 47), some (.int (ei_ (i)))], [.int z_, .ref 1000, .ref 0], m) : am_S)) (ei_add rfl rfl)) ?_
  refine pw_ild rfl rfl (by omega) (fun x1 (hx1 : x1 = sc_ q (i + 1)) rx1 sx1 => ?_)
  refine pw_steps 4 (s' := (259, [some (.ref 1000), some (.ref 0), some (.ref 47), some (.int (ei_ (i)))], [.int ((ei_ (i)) + (ei_ (2))), .ref 1000, .int (ei_ (x1)), .ref 0], m)) rfl ?_
  refine pw_cv (congrArg (fun z_ : Int32 => ((259, [some (.ref 1000), some (.ref 0), some (.ref 47), some (.int (ei_ (i)))], [.int z_, .ref 1000, .int (ei_ (x1)), .ref 0], m) : am_S)) (ei_add rfl rfl)) ?_
  refine pw_ild rfl rfl (by omega) (fun x2 (hx2 : x2 = sc_ q (i + 2)) rx2 sx2 => ?_)
  refine pw_steps 4 (s' := (264, [some (.ref 1000), some (.ref 0), some (.ref 47), some (.int (ei_ (i)))], [.int ((ei_ (i)) + (ei_ (3))), .ref 1000, .int (ei_ (x2)), .int (ei_ (x1)), .ref 0], m)) rfl ?_
  refine pw_cv (congrArg (fun z_ : Int32 => ((264, [some (.ref 1000), some (.ref 0), some (.ref 47), some (.int (ei_ (i)))], [.int z_, .ref 1000, .int (ei_ (x2)), .int (ei_ (x1)), .ref 0], m) : am_S)) (ei_add rfl rfl)) ?_
  refine pw_ild rfl rfl (by omega) (fun x3 (hx3 : x3 = sc_ q (i + 3)) rx3 sx3 => ?_)
  refine pw_call (As := [.int (ei_ (x1)), .int (ei_ (x2)), .int (ei_ (x3))]) (st := []) (k := 0) rfl rfl rfl rfl rfl (Nat.le_of_ble_eq_true rfl) ?_
  refine pw_two (op_people (d := 140) ⟨rx1, sx1⟩ ⟨rx2, sx2⟩ ⟨rx3, sx3⟩ hR) (fun x4 mm5 rr6 hh7 => ?_)
  refine pw_steps 5 (s' := (273, [some (.ref 1000), some (.ref 0), some (.ref 47), some (.int (ei_ (i)))], [.int ((ei_ (i)) + (ei_ (1))), .ref 1000, .ref 47, .int (ei_ (x4))], mm5)) rfl ?_
  refine pw_cv (congrArg (fun z_ : Int32 => ((273, [some (.ref 1000), some (.ref 0), some (.ref 47), some (.int (ei_ (i)))], [.int z_, .ref 1000, .ref 47, .int (ei_ (x4))], mm5) : am_S)) (ei_add rfl rfl)) ?_
  refine pw_ildE (x := x1) rfl rfl (by omega) hx1 ?_
  refine pw_steps 4 (s' := (278, [some (.ref 1000), some (.ref 0), some (.ref 47), some (.int (ei_ (i)))], [.int ((ei_ (i)) + (ei_ (2))), .ref 1000, .int (ei_ (x1)), .ref 47, .int (ei_ (x4))], mm5)) rfl ?_
  refine pw_cv (congrArg (fun z_ : Int32 => ((278, [some (.ref 1000), some (.ref 0), some (.ref 47), some (.int (ei_ (i)))], [.int z_, .ref 1000, .int (ei_ (x1)), .ref 47, .int (ei_ (x4))], mm5) : am_S)) (ei_add rfl rfl)) ?_
  refine pw_ildE (x := x2) rfl rfl (by omega) hx2 ?_
  refine pw_steps 4 (s' := (283, [some (.ref 1000), some (.ref 0), some (.ref 47), some (.int (ei_ (i)))], [.int ((ei_ (i)) + (ei_ (3))), .ref 1000, .int (ei_ (x2)), .int (ei_ (x1)), .ref 47, .int (ei_ (x4))], mm5)) rfl ?_
  refine pw_cv (congrArg (fun z_ : Int32 => ((283, [some (.ref 1000), some (.ref 0), some (.ref 47), some (.int (ei_ (i)))], [.int z_, .ref 1000, .int (ei_ (x2)), .int (ei_ (x1)), .ref 47, .int (ei_ (x4))], mm5) : am_S)) (ei_add rfl rfl)) ?_
  refine pw_ildE (x := x3) rfl rfl (by omega) hx3 ?_
  refine pw_call (As := [.int (ei_ (x1)), .int (ei_ (x2)), .int (ei_ (x3))]) (st := [.int (ei_ (x4))]) (k := 47) rfl rfl rfl rfl rfl (Nat.le_of_ble_eq_true rfl) ?_
  refine pw_mono hh7 (fun r_ mm8 hh_ => ?_)
  obtain ⟨e9, hR10⟩ := hh_
  subst e9
  refine pw_cmpT rfl rr6 rr6 (show x4 = x4 by omega) ?_
  exact kk mm8 hR10

set_option maxHeartbeats 4000000 in
set_option maxRecDepth 20000 in
theorem lc_mend {q : am_X} {m : am_M} {i : Int} {Q : Option Value → am_M → Prop} (hq : 0 ≤ ql_ q ∧ ql_ q ≤ 3072) (hi : 0 ≤ i ∧ i ≤ ql_ q - 6) (hR : rR_ m) (kk : ∀ m2, rR_ m2 → pw_V q 200 (some .boolean) tL_law Q (1473, [some (.ref 1000), some (.ref 0), some (.ref 47), some (.int (ei_ i))], [], m2)) : pw_V q 200 (some .boolean) tL_law Q (292, [some (.ref 1000), some (.ref 0), some (.ref 47), some (.int (ei_ i))], [], m) := by
  have hqn : ql_ q = (q.1 : Int) := rfl
  refine pw_steps 5 (s' := (297, [some (.ref 1000), some (.ref 0), some (.ref 47), some (.int (ei_ (i)))], [.int ((ei_ (i)) + (ei_ (1))), .ref 1000, .ref 0], m)) rfl ?_
  refine pw_cv (congrArg (fun z_ : Int32 => ((297, [some (.ref 1000), some (.ref 0), some (.ref 47), some (.int (ei_ (i)))], [.int z_, .ref 1000, .ref 0], m) : am_S)) (ei_add rfl rfl)) ?_
  refine pw_ild rfl rfl (by omega) (fun x1 (hx1 : x1 = sc_ q (i + 1)) rx1 sx1 => ?_)
  refine pw_steps 4 (s' := (302, [some (.ref 1000), some (.ref 0), some (.ref 47), some (.int (ei_ (i)))], [.int ((ei_ (i)) + (ei_ (2))), .ref 1000, .int (ei_ (x1)), .ref 0], m)) rfl ?_
  refine pw_cv (congrArg (fun z_ : Int32 => ((302, [some (.ref 1000), some (.ref 0), some (.ref 47), some (.int (ei_ (i)))], [.int z_, .ref 1000, .int (ei_ (x1)), .ref 0], m) : am_S)) (ei_add rfl rfl)) ?_
  refine pw_ild rfl rfl (by omega) (fun x2 (hx2 : x2 = sc_ q (i + 2)) rx2 sx2 => ?_)
  refine pw_steps 4 (s' := (307, [some (.ref 1000), some (.ref 0), some (.ref 47), some (.int (ei_ (i)))], [.int ((ei_ (i)) + (ei_ (3))), .ref 1000, .int (ei_ (x2)), .int (ei_ (x1)), .ref 0], m)) rfl ?_
  refine pw_cv (congrArg (fun z_ : Int32 => ((307, [some (.ref 1000), some (.ref 0), some (.ref 47), some (.int (ei_ (i)))], [.int z_, .ref 1000, .int (ei_ (x2)), .int (ei_ (x1)), .ref 0], m) : am_S)) (ei_add rfl rfl)) ?_
  refine pw_ild rfl rfl (by omega) (fun x3 (hx3 : x3 = sc_ q (i + 3)) rx3 sx3 => ?_)
  refine pw_call (As := [.int (ei_ (x1)), .int (ei_ (x2)), .int (ei_ (x3))]) (st := []) (k := 0) rfl rfl rfl rfl rfl (Nat.le_of_ble_eq_true rfl) ?_
  refine pw_two (op_mend (d := 140) ⟨rx1, sx1⟩ ⟨rx2, sx2⟩ ⟨rx3, sx3⟩ hR) (fun x4 mm5 rr6 hh7 => ?_)
  refine pw_steps 5 (s' := (316, [some (.ref 1000), some (.ref 0), some (.ref 47), some (.int (ei_ (i)))], [.int ((ei_ (i)) + (ei_ (1))), .ref 1000, .ref 47, .int (ei_ (x4))], mm5)) rfl ?_
  refine pw_cv (congrArg (fun z_ : Int32 => ((316, [some (.ref 1000), some (.ref 0), some (.ref 47), some (.int (ei_ (i)))], [.int z_, .ref 1000, .ref 47, .int (ei_ (x4))], mm5) : am_S)) (ei_add rfl rfl)) ?_
  refine pw_ildE (x := x1) rfl rfl (by omega) hx1 ?_
  refine pw_steps 4 (s' := (321, [some (.ref 1000), some (.ref 0), some (.ref 47), some (.int (ei_ (i)))], [.int ((ei_ (i)) + (ei_ (2))), .ref 1000, .int (ei_ (x1)), .ref 47, .int (ei_ (x4))], mm5)) rfl ?_
  refine pw_cv (congrArg (fun z_ : Int32 => ((321, [some (.ref 1000), some (.ref 0), some (.ref 47), some (.int (ei_ (i)))], [.int z_, .ref 1000, .int (ei_ (x1)), .ref 47, .int (ei_ (x4))], mm5) : am_S)) (ei_add rfl rfl)) ?_
  refine pw_ildE (x := x2) rfl rfl (by omega) hx2 ?_
  refine pw_steps 4 (s' := (326, [some (.ref 1000), some (.ref 0), some (.ref 47), some (.int (ei_ (i)))], [.int ((ei_ (i)) + (ei_ (3))), .ref 1000, .int (ei_ (x2)), .int (ei_ (x1)), .ref 47, .int (ei_ (x4))], mm5)) rfl ?_
  refine pw_cv (congrArg (fun z_ : Int32 => ((326, [some (.ref 1000), some (.ref 0), some (.ref 47), some (.int (ei_ (i)))], [.int z_, .ref 1000, .int (ei_ (x2)), .int (ei_ (x1)), .ref 47, .int (ei_ (x4))], mm5) : am_S)) (ei_add rfl rfl)) ?_
  refine pw_ildE (x := x3) rfl rfl (by omega) hx3 ?_
  refine pw_call (As := [.int (ei_ (x1)), .int (ei_ (x2)), .int (ei_ (x3))]) (st := [.int (ei_ (x4))]) (k := 47) rfl rfl rfl rfl rfl (Nat.le_of_ble_eq_true rfl) ?_
  refine pw_mono hh7 (fun r_ mm8 hh_ => ?_)
  obtain ⟨e9, hR10⟩ := hh_
  subst e9
  refine pw_cmpT rfl rr6 rr6 (show x4 = x4 by omega) ?_
  exact kk mm8 hR10

set_option maxHeartbeats 4000000 in
set_option maxRecDepth 20000 in
theorem lc_of {q : am_X} {m : am_M} {i : Int} {Q : Option Value → am_M → Prop} (hq : 0 ≤ ql_ q ∧ ql_ q ≤ 3072) (hi : 0 ≤ i ∧ i ≤ ql_ q - 6) (hR : rR_ m) (kk : ∀ m2, rR_ m2 → pw_V q 200 (some .boolean) tL_law Q (1473, [some (.ref 1000), some (.ref 0), some (.ref 47), some (.int (ei_ i))], [], m2)) : pw_V q 200 (some .boolean) tL_law Q (335, [some (.ref 1000), some (.ref 0), some (.ref 47), some (.int (ei_ i))], [], m) := by
  have hqn : ql_ q = (q.1 : Int) := rfl
  refine pw_steps 5 (s' := (340, [some (.ref 1000), some (.ref 0), some (.ref 47), some (.int (ei_ (i)))], [.int ((ei_ (i)) + (ei_ (1))), .ref 1000, .ref 0], m)) rfl ?_
  refine pw_cv (congrArg (fun z_ : Int32 => ((340, [some (.ref 1000), some (.ref 0), some (.ref 47), some (.int (ei_ (i)))], [.int z_, .ref 1000, .ref 0], m) : am_S)) (ei_add rfl rfl)) ?_
  refine pw_ild rfl rfl (by omega) (fun x1 (hx1 : x1 = sc_ q (i + 1)) rx1 sx1 => ?_)
  refine pw_steps 4 (s' := (345, [some (.ref 1000), some (.ref 0), some (.ref 47), some (.int (ei_ (i)))], [.int ((ei_ (i)) + (ei_ (2))), .ref 1000, .int (ei_ (x1)), .ref 0], m)) rfl ?_
  refine pw_cv (congrArg (fun z_ : Int32 => ((345, [some (.ref 1000), some (.ref 0), some (.ref 47), some (.int (ei_ (i)))], [.int z_, .ref 1000, .int (ei_ (x1)), .ref 0], m) : am_S)) (ei_add rfl rfl)) ?_
  refine pw_ild rfl rfl (by omega) (fun x2 (hx2 : x2 = sc_ q (i + 2)) rx2 sx2 => ?_)
  refine pw_call (As := [.int (ei_ (x1)), .int (ei_ (x2))]) (st := []) (k := 0) rfl rfl rfl rfl rfl (Nat.le_of_ble_eq_true rfl) ?_
  refine pw_two (op_of (d := 140) ⟨rx1, sx1⟩ ⟨rx2, sx2⟩ hR) (fun x3 mm4 rr5 hh6 => ?_)
  refine pw_steps 5 (s' := (354, [some (.ref 1000), some (.ref 0), some (.ref 47), some (.int (ei_ (i)))], [.int ((ei_ (i)) + (ei_ (1))), .ref 1000, .ref 47, .int (ei_ (x3))], mm4)) rfl ?_
  refine pw_cv (congrArg (fun z_ : Int32 => ((354, [some (.ref 1000), some (.ref 0), some (.ref 47), some (.int (ei_ (i)))], [.int z_, .ref 1000, .ref 47, .int (ei_ (x3))], mm4) : am_S)) (ei_add rfl rfl)) ?_
  refine pw_ildE (x := x1) rfl rfl (by omega) hx1 ?_
  refine pw_steps 4 (s' := (359, [some (.ref 1000), some (.ref 0), some (.ref 47), some (.int (ei_ (i)))], [.int ((ei_ (i)) + (ei_ (2))), .ref 1000, .int (ei_ (x1)), .ref 47, .int (ei_ (x3))], mm4)) rfl ?_
  refine pw_cv (congrArg (fun z_ : Int32 => ((359, [some (.ref 1000), some (.ref 0), some (.ref 47), some (.int (ei_ (i)))], [.int z_, .ref 1000, .int (ei_ (x1)), .ref 47, .int (ei_ (x3))], mm4) : am_S)) (ei_add rfl rfl)) ?_
  refine pw_ildE (x := x2) rfl rfl (by omega) hx2 ?_
  refine pw_call (As := [.int (ei_ (x1)), .int (ei_ (x2))]) (st := [.int (ei_ (x3))]) (k := 47) rfl rfl rfl rfl rfl (Nat.le_of_ble_eq_true rfl) ?_
  refine pw_mono hh6 (fun r_ mm7 hh_ => ?_)
  obtain ⟨e8, hR9⟩ := hh_
  subst e8
  refine pw_cmpT rfl rr5 rr5 (show x3 = x3 by omega) ?_
  exact kk mm7 hR9

set_option maxHeartbeats 4000000 in
set_option maxRecDepth 20000 in
theorem lc_feed {q : am_X} {m : am_M} {i : Int} {Q : Option Value → am_M → Prop} (hq : 0 ≤ ql_ q ∧ ql_ q ≤ 3072) (hi : 0 ≤ i ∧ i ≤ ql_ q - 6) (hR : rR_ m) (kk : ∀ m2, rR_ m2 → pw_V q 200 (some .boolean) tL_law Q (1473, [some (.ref 1000), some (.ref 0), some (.ref 47), some (.int (ei_ i))], [], m2)) : pw_V q 200 (some .boolean) tL_law Q (368, [some (.ref 1000), some (.ref 0), some (.ref 47), some (.int (ei_ i))], [], m) := by
  have hqn : ql_ q = (q.1 : Int) := rfl
  refine pw_steps 5 (s' := (373, [some (.ref 1000), some (.ref 0), some (.ref 47), some (.int (ei_ (i)))], [.int ((ei_ (i)) + (ei_ (1))), .ref 1000, .ref 0], m)) rfl ?_
  refine pw_cv (congrArg (fun z_ : Int32 => ((373, [some (.ref 1000), some (.ref 0), some (.ref 47), some (.int (ei_ (i)))], [.int z_, .ref 1000, .ref 0], m) : am_S)) (ei_add rfl rfl)) ?_
  refine pw_ild rfl rfl (by omega) (fun x1 (hx1 : x1 = sc_ q (i + 1)) rx1 sx1 => ?_)
  refine pw_call (As := [.int (ei_ (x1))]) (st := []) (k := 0) rfl rfl rfl rfl rfl (Nat.le_of_ble_eq_true rfl) ?_
  refine pw_two (op_feed (d := 140) ⟨rx1, sx1⟩ hR) (fun x2 mm3 rr4 hh5 => ?_)
  refine pw_steps 5 (s' := (382, [some (.ref 1000), some (.ref 0), some (.ref 47), some (.int (ei_ (i)))], [.int ((ei_ (i)) + (ei_ (1))), .ref 1000, .ref 47, .int (ei_ (x2))], mm3)) rfl ?_
  refine pw_cv (congrArg (fun z_ : Int32 => ((382, [some (.ref 1000), some (.ref 0), some (.ref 47), some (.int (ei_ (i)))], [.int z_, .ref 1000, .ref 47, .int (ei_ (x2))], mm3) : am_S)) (ei_add rfl rfl)) ?_
  refine pw_ildE (x := x1) rfl rfl (by omega) hx1 ?_
  refine pw_call (As := [.int (ei_ (x1))]) (st := [.int (ei_ (x2))]) (k := 47) rfl rfl rfl rfl rfl (Nat.le_of_ble_eq_true rfl) ?_
  refine pw_mono hh5 (fun r_ mm6 hh_ => ?_)
  obtain ⟨e7, hR8⟩ := hh_
  subst e7
  refine pw_cmpT rfl rr4 rr4 (show x2 = x2 by omega) ?_
  exact kk mm6 hR8

set_option maxHeartbeats 4000000 in
set_option maxRecDepth 20000 in
theorem lc_law {q : am_X} {m : am_M} {i : Int} {Q : Option Value → am_M → Prop} (hq : 0 ≤ ql_ q ∧ ql_ q ≤ 3072) (hi : 0 ≤ i ∧ i ≤ ql_ q - 6) (hR : rR_ m) (kk : ∀ m2, rR_ m2 → pw_V q 200 (some .boolean) tL_law Q (1473, [some (.ref 1000), some (.ref 0), some (.ref 47), some (.int (ei_ i))], [], m2)) : pw_V q 200 (some .boolean) tL_law Q (391, [some (.ref 1000), some (.ref 0), some (.ref 47), some (.int (ei_ i))], [], m) := by
  have hqn : ql_ q = (q.1 : Int) := rfl
  refine pw_steps 1 (s' := (392, [some (.ref 1000), some (.ref 0), some (.ref 47), some (.int (ei_ (i)))], [.ref 0], m)) rfl ?_
  refine pw_call (As := []) (st := []) (k := 0) rfl rfl rfl rfl rfl (Nat.le_of_ble_eq_true rfl) ?_
  refine pw_two (op_law (d := 90)  hR) (fun x1 mm2 rr3 hh4 => ?_)
  refine pw_steps 1 (s' := (396, [some (.ref 1000), some (.ref 0), some (.ref 47), some (.int (ei_ (i)))], [.ref 47, .int (ei_ (x1))], mm2)) rfl ?_
  refine pw_call (As := []) (st := [.int (ei_ (x1))]) (k := 47) rfl rfl rfl rfl rfl (Nat.le_of_ble_eq_true rfl) ?_
  refine pw_mono hh4 (fun r_ mm5 hh_ => ?_)
  obtain ⟨e6, hR7⟩ := hh_
  subst e6
  refine pw_cmpT rfl rr3 rr3 (show x1 = x1 by omega) ?_
  exact kk mm5 hR7

set_option maxHeartbeats 4000000 in
set_option maxRecDepth 20000 in
theorem lc_burns {q : am_X} {m : am_M} {i : Int} {Q : Option Value → am_M → Prop} (hq : 0 ≤ ql_ q ∧ ql_ q ≤ 3072) (hi : 0 ≤ i ∧ i ≤ ql_ q - 6) (hR : rR_ m) (kk : ∀ m2, rR_ m2 → pw_V q 200 (some .boolean) tL_law Q (1473, [some (.ref 1000), some (.ref 0), some (.ref 47), some (.int (ei_ i))], [], m2)) : pw_V q 200 (some .boolean) tL_law Q (404, [some (.ref 1000), some (.ref 0), some (.ref 47), some (.int (ei_ i))], [], m) := by
  have hqn : ql_ q = (q.1 : Int) := rfl
  refine pw_steps 5 (s' := (409, [some (.ref 1000), some (.ref 0), some (.ref 47), some (.int (ei_ (i)))], [.int ((ei_ (i)) + (ei_ (1))), .ref 1000, .ref 0], m)) rfl ?_
  refine pw_cv (congrArg (fun z_ : Int32 => ((409, [some (.ref 1000), some (.ref 0), some (.ref 47), some (.int (ei_ (i)))], [.int z_, .ref 1000, .ref 0], m) : am_S)) (ei_add rfl rfl)) ?_
  refine pw_ild rfl rfl (by omega) (fun x1 (hx1 : x1 = sc_ q (i + 1)) rx1 sx1 => ?_)
  refine pw_call (As := [.int (ei_ (x1))]) (st := []) (k := 0) rfl rfl rfl rfl rfl (Nat.le_of_ble_eq_true rfl) ?_
  refine pw_two (op_burns (d := 140) ⟨rx1, sx1⟩ hR) (fun x2 mm3 rr4 hh5 => ?_)
  refine pw_steps 5 (s' := (418, [some (.ref 1000), some (.ref 0), some (.ref 47), some (.int (ei_ (i)))], [.int ((ei_ (i)) + (ei_ (1))), .ref 1000, .ref 47, .int (ei_ (x2))], mm3)) rfl ?_
  refine pw_cv (congrArg (fun z_ : Int32 => ((418, [some (.ref 1000), some (.ref 0), some (.ref 47), some (.int (ei_ (i)))], [.int z_, .ref 1000, .ref 47, .int (ei_ (x2))], mm3) : am_S)) (ei_add rfl rfl)) ?_
  refine pw_ildE (x := x1) rfl rfl (by omega) hx1 ?_
  refine pw_call (As := [.int (ei_ (x1))]) (st := [.int (ei_ (x2))]) (k := 47) rfl rfl rfl rfl rfl (Nat.le_of_ble_eq_true rfl) ?_
  refine pw_mono hh5 (fun r_ mm6 hh_ => ?_)
  obtain ⟨e7, hR8⟩ := hh_
  subst e7
  refine pw_cmpT rfl rr4 rr4 (show x2 = x2 by omega) ?_
  exact kk mm6 hR8

set_option maxHeartbeats 4000000 in
set_option maxRecDepth 20000 in
theorem lc_left {q : am_X} {m : am_M} {i : Int} {Q : Option Value → am_M → Prop} (hq : 0 ≤ ql_ q ∧ ql_ q ≤ 3072) (hi : 0 ≤ i ∧ i ≤ ql_ q - 6) (hR : rR_ m) (kk : ∀ m2, rR_ m2 → pw_V q 200 (some .boolean) tL_law Q (1473, [some (.ref 1000), some (.ref 0), some (.ref 47), some (.int (ei_ i))], [], m2)) : pw_V q 200 (some .boolean) tL_law Q (427, [some (.ref 1000), some (.ref 0), some (.ref 47), some (.int (ei_ i))], [], m) := by
  have hqn : ql_ q = (q.1 : Int) := rfl
  refine pw_steps 5 (s' := (432, [some (.ref 1000), some (.ref 0), some (.ref 47), some (.int (ei_ (i)))], [.int ((ei_ (i)) + (ei_ (1))), .ref 1000, .ref 0], m)) rfl ?_
  refine pw_cv (congrArg (fun z_ : Int32 => ((432, [some (.ref 1000), some (.ref 0), some (.ref 47), some (.int (ei_ (i)))], [.int z_, .ref 1000, .ref 0], m) : am_S)) (ei_add rfl rfl)) ?_
  refine pw_ild rfl rfl (by omega) (fun x1 (hx1 : x1 = sc_ q (i + 1)) rx1 sx1 => ?_)
  refine pw_steps 4 (s' := (437, [some (.ref 1000), some (.ref 0), some (.ref 47), some (.int (ei_ (i)))], [.int ((ei_ (i)) + (ei_ (2))), .ref 1000, .int (ei_ (x1)), .ref 0], m)) rfl ?_
  refine pw_cv (congrArg (fun z_ : Int32 => ((437, [some (.ref 1000), some (.ref 0), some (.ref 47), some (.int (ei_ (i)))], [.int z_, .ref 1000, .int (ei_ (x1)), .ref 0], m) : am_S)) (ei_add rfl rfl)) ?_
  refine pw_ild rfl rfl (by omega) (fun x2 (hx2 : x2 = sc_ q (i + 2)) rx2 sx2 => ?_)
  refine pw_call (As := [.int (ei_ (x1)), .int (ei_ (x2))]) (st := []) (k := 0) rfl rfl rfl rfl rfl (Nat.le_of_ble_eq_true rfl) ?_
  refine pw_two (op_left (d := 140) ⟨rx1, sx1⟩ ⟨rx2, sx2⟩ hR) (fun x3 mm4 rr5 hh6 => ?_)
  refine pw_steps 5 (s' := (446, [some (.ref 1000), some (.ref 0), some (.ref 47), some (.int (ei_ (i)))], [.int ((ei_ (i)) + (ei_ (1))), .ref 1000, .ref 47, .int (ei_ (x3))], mm4)) rfl ?_
  refine pw_cv (congrArg (fun z_ : Int32 => ((446, [some (.ref 1000), some (.ref 0), some (.ref 47), some (.int (ei_ (i)))], [.int z_, .ref 1000, .ref 47, .int (ei_ (x3))], mm4) : am_S)) (ei_add rfl rfl)) ?_
  refine pw_ildE (x := x1) rfl rfl (by omega) hx1 ?_
  refine pw_steps 4 (s' := (451, [some (.ref 1000), some (.ref 0), some (.ref 47), some (.int (ei_ (i)))], [.int ((ei_ (i)) + (ei_ (2))), .ref 1000, .int (ei_ (x1)), .ref 47, .int (ei_ (x3))], mm4)) rfl ?_
  refine pw_cv (congrArg (fun z_ : Int32 => ((451, [some (.ref 1000), some (.ref 0), some (.ref 47), some (.int (ei_ (i)))], [.int z_, .ref 1000, .int (ei_ (x1)), .ref 47, .int (ei_ (x3))], mm4) : am_S)) (ei_add rfl rfl)) ?_
  refine pw_ildE (x := x2) rfl rfl (by omega) hx2 ?_
  refine pw_call (As := [.int (ei_ (x1)), .int (ei_ (x2))]) (st := [.int (ei_ (x3))]) (k := 47) rfl rfl rfl rfl rfl (Nat.le_of_ble_eq_true rfl) ?_
  refine pw_mono hh6 (fun r_ mm7 hh_ => ?_)
  obtain ⟨e8, hR9⟩ := hh_
  subst e8
  refine pw_cmpT rfl rr5 rr5 (show x3 = x3 by omega) ?_
  exact kk mm7 hR9

set_option maxHeartbeats 4000000 in
set_option maxRecDepth 20000 in
theorem lc_winter {q : am_X} {m : am_M} {i : Int} {Q : Option Value → am_M → Prop} (hq : 0 ≤ ql_ q ∧ ql_ q ≤ 3072) (hi : 0 ≤ i ∧ i ≤ ql_ q - 6) (hR : rR_ m) (kk : ∀ m2, rR_ m2 → pw_V q 200 (some .boolean) tL_law Q (1473, [some (.ref 1000), some (.ref 0), some (.ref 47), some (.int (ei_ i))], [], m2)) : pw_V q 200 (some .boolean) tL_law Q (460, [some (.ref 1000), some (.ref 0), some (.ref 47), some (.int (ei_ i))], [], m) := by
  have hqn : ql_ q = (q.1 : Int) := rfl
  refine pw_steps 5 (s' := (465, [some (.ref 1000), some (.ref 0), some (.ref 47), some (.int (ei_ (i)))], [.int ((ei_ (i)) + (ei_ (1))), .ref 1000, .ref 0], m)) rfl ?_
  refine pw_cv (congrArg (fun z_ : Int32 => ((465, [some (.ref 1000), some (.ref 0), some (.ref 47), some (.int (ei_ (i)))], [.int z_, .ref 1000, .ref 0], m) : am_S)) (ei_add rfl rfl)) ?_
  refine pw_ild rfl rfl (by omega) (fun x1 (hx1 : x1 = sc_ q (i + 1)) rx1 sx1 => ?_)
  refine pw_steps 4 (s' := (470, [some (.ref 1000), some (.ref 0), some (.ref 47), some (.int (ei_ (i)))], [.int ((ei_ (i)) + (ei_ (2))), .ref 1000, .int (ei_ (x1)), .ref 0], m)) rfl ?_
  refine pw_cv (congrArg (fun z_ : Int32 => ((470, [some (.ref 1000), some (.ref 0), some (.ref 47), some (.int (ei_ (i)))], [.int z_, .ref 1000, .int (ei_ (x1)), .ref 0], m) : am_S)) (ei_add rfl rfl)) ?_
  refine pw_ild rfl rfl (by omega) (fun x2 (hx2 : x2 = sc_ q (i + 2)) rx2 sx2 => ?_)
  refine pw_call (As := [.int (ei_ (x1)), .int (ei_ (x2))]) (st := []) (k := 0) rfl rfl rfl rfl rfl (Nat.le_of_ble_eq_true rfl) ?_
  refine pw_two (op_winter (d := 140) ⟨rx1, sx1⟩ ⟨rx2, sx2⟩ hR) (fun x3 mm4 rr5 hh6 => ?_)
  refine pw_steps 5 (s' := (479, [some (.ref 1000), some (.ref 0), some (.ref 47), some (.int (ei_ (i)))], [.int ((ei_ (i)) + (ei_ (1))), .ref 1000, .ref 47, .int (ei_ (x3))], mm4)) rfl ?_
  refine pw_cv (congrArg (fun z_ : Int32 => ((479, [some (.ref 1000), some (.ref 0), some (.ref 47), some (.int (ei_ (i)))], [.int z_, .ref 1000, .ref 47, .int (ei_ (x3))], mm4) : am_S)) (ei_add rfl rfl)) ?_
  refine pw_ildE (x := x1) rfl rfl (by omega) hx1 ?_
  refine pw_steps 4 (s' := (484, [some (.ref 1000), some (.ref 0), some (.ref 47), some (.int (ei_ (i)))], [.int ((ei_ (i)) + (ei_ (2))), .ref 1000, .int (ei_ (x1)), .ref 47, .int (ei_ (x3))], mm4)) rfl ?_
  refine pw_cv (congrArg (fun z_ : Int32 => ((484, [some (.ref 1000), some (.ref 0), some (.ref 47), some (.int (ei_ (i)))], [.int z_, .ref 1000, .int (ei_ (x1)), .ref 47, .int (ei_ (x3))], mm4) : am_S)) (ei_add rfl rfl)) ?_
  refine pw_ildE (x := x2) rfl rfl (by omega) hx2 ?_
  refine pw_call (As := [.int (ei_ (x1)), .int (ei_ (x2))]) (st := [.int (ei_ (x3))]) (k := 47) rfl rfl rfl rfl rfl (Nat.le_of_ble_eq_true rfl) ?_
  refine pw_mono hh6 (fun r_ mm7 hh_ => ?_)
  obtain ⟨e8, hR9⟩ := hh_
  subst e8
  refine pw_cmpT rfl rr5 rr5 (show x3 = x3 by omega) ?_
  exact kk mm7 hR9

set_option maxHeartbeats 4000000 in
set_option maxRecDepth 20000 in
theorem lc_when {q : am_X} {m : am_M} {i : Int} {Q : Option Value → am_M → Prop} (hq : 0 ≤ ql_ q ∧ ql_ q ≤ 3072) (hi : 0 ≤ i ∧ i ≤ ql_ q - 6) (hR : rR_ m) (kk : ∀ m2, rR_ m2 → pw_V q 200 (some .boolean) tL_law Q (1473, [some (.ref 1000), some (.ref 0), some (.ref 47), some (.int (ei_ i))], [], m2)) : pw_V q 200 (some .boolean) tL_law Q (493, [some (.ref 1000), some (.ref 0), some (.ref 47), some (.int (ei_ i))], [], m) := by
  have hqn : ql_ q = (q.1 : Int) := rfl
  refine pw_steps 5 (s' := (498, [some (.ref 1000), some (.ref 0), some (.ref 47), some (.int (ei_ (i)))], [.int ((ei_ (i)) + (ei_ (1))), .ref 1000, .ref 0], m)) rfl ?_
  refine pw_cv (congrArg (fun z_ : Int32 => ((498, [some (.ref 1000), some (.ref 0), some (.ref 47), some (.int (ei_ (i)))], [.int z_, .ref 1000, .ref 0], m) : am_S)) (ei_add rfl rfl)) ?_
  refine pw_ild rfl rfl (by omega) (fun x1 (hx1 : x1 = sc_ q (i + 1)) rx1 sx1 => ?_)
  refine pw_steps 4 (s' := (503, [some (.ref 1000), some (.ref 0), some (.ref 47), some (.int (ei_ (i)))], [.int ((ei_ (i)) + (ei_ (2))), .ref 1000, .int (ei_ (x1)), .ref 0], m)) rfl ?_
  refine pw_cv (congrArg (fun z_ : Int32 => ((503, [some (.ref 1000), some (.ref 0), some (.ref 47), some (.int (ei_ (i)))], [.int z_, .ref 1000, .int (ei_ (x1)), .ref 0], m) : am_S)) (ei_add rfl rfl)) ?_
  refine pw_ild rfl rfl (by omega) (fun x2 (hx2 : x2 = sc_ q (i + 2)) rx2 sx2 => ?_)
  refine pw_call (As := [.int (ei_ (x1)), .int (ei_ (x2))]) (st := []) (k := 0) rfl rfl rfl rfl rfl (Nat.le_of_ble_eq_true rfl) ?_
  refine pw_two (op_when (d := 140) ⟨rx1, sx1⟩ ⟨rx2, sx2⟩ hR) (fun x3 mm4 rr5 hh6 => ?_)
  refine pw_steps 5 (s' := (512, [some (.ref 1000), some (.ref 0), some (.ref 47), some (.int (ei_ (i)))], [.int ((ei_ (i)) + (ei_ (1))), .ref 1000, .ref 47, .int (ei_ (x3))], mm4)) rfl ?_
  refine pw_cv (congrArg (fun z_ : Int32 => ((512, [some (.ref 1000), some (.ref 0), some (.ref 47), some (.int (ei_ (i)))], [.int z_, .ref 1000, .ref 47, .int (ei_ (x3))], mm4) : am_S)) (ei_add rfl rfl)) ?_
  refine pw_ildE (x := x1) rfl rfl (by omega) hx1 ?_
  refine pw_steps 4 (s' := (517, [some (.ref 1000), some (.ref 0), some (.ref 47), some (.int (ei_ (i)))], [.int ((ei_ (i)) + (ei_ (2))), .ref 1000, .int (ei_ (x1)), .ref 47, .int (ei_ (x3))], mm4)) rfl ?_
  refine pw_cv (congrArg (fun z_ : Int32 => ((517, [some (.ref 1000), some (.ref 0), some (.ref 47), some (.int (ei_ (i)))], [.int z_, .ref 1000, .int (ei_ (x1)), .ref 47, .int (ei_ (x3))], mm4) : am_S)) (ei_add rfl rfl)) ?_
  refine pw_ildE (x := x2) rfl rfl (by omega) hx2 ?_
  refine pw_call (As := [.int (ei_ (x1)), .int (ei_ (x2))]) (st := [.int (ei_ (x3))]) (k := 47) rfl rfl rfl rfl rfl (Nat.le_of_ble_eq_true rfl) ?_
  refine pw_mono hh6 (fun r_ mm7 hh_ => ?_)
  obtain ⟨e8, hR9⟩ := hh_
  subst e8
  refine pw_cmpT rfl rr5 rr5 (show x3 = x3 by omega) ?_
  exact kk mm7 hR9

set_option maxHeartbeats 4000000 in
set_option maxRecDepth 20000 in
theorem lc_last {q : am_X} {m : am_M} {i : Int} {Q : Option Value → am_M → Prop} (hq : 0 ≤ ql_ q ∧ ql_ q ≤ 3072) (hi : 0 ≤ i ∧ i ≤ ql_ q - 6) (hR : rR_ m) (kk : ∀ m2, rR_ m2 → pw_V q 200 (some .boolean) tL_law Q (1473, [some (.ref 1000), some (.ref 0), some (.ref 47), some (.int (ei_ i))], [], m2)) : pw_V q 200 (some .boolean) tL_law Q (526, [some (.ref 1000), some (.ref 0), some (.ref 47), some (.int (ei_ i))], [], m) := by
  have hqn : ql_ q = (q.1 : Int) := rfl
  refine pw_steps 1 (s' := (527, [some (.ref 1000), some (.ref 0), some (.ref 47), some (.int (ei_ (i)))], [.ref 0], m)) rfl ?_
  refine pw_call (As := []) (st := []) (k := 0) rfl rfl rfl rfl rfl (Nat.le_of_ble_eq_true rfl) ?_
  refine pw_two (op_last (d := 140)  hR) (fun x1 mm2 rr3 hh4 => ?_)
  refine pw_steps 1 (s' := (531, [some (.ref 1000), some (.ref 0), some (.ref 47), some (.int (ei_ (i)))], [.ref 47, .int (ei_ (x1))], mm2)) rfl ?_
  refine pw_call (As := []) (st := [.int (ei_ (x1))]) (k := 47) rfl rfl rfl rfl rfl (Nat.le_of_ble_eq_true rfl) ?_
  refine pw_mono hh4 (fun r_ mm5 hh_ => ?_)
  obtain ⟨e6, hR7⟩ := hh_
  subst e6
  refine pw_cmpT rfl rr3 rr3 (show x1 = x1 by omega) ?_
  exact kk mm5 hR7

set_option maxHeartbeats 4000000 in
set_option maxRecDepth 20000 in
theorem lc_give {q : am_X} {m : am_M} {i : Int} {Q : Option Value → am_M → Prop} (hq : 0 ≤ ql_ q ∧ ql_ q ≤ 3072) (hi : 0 ≤ i ∧ i ≤ ql_ q - 6) (hR : rR_ m) (kk : ∀ m2, rR_ m2 → pw_V q 200 (some .boolean) tL_law Q (1473, [some (.ref 1000), some (.ref 0), some (.ref 47), some (.int (ei_ i))], [], m2)) : pw_V q 200 (some .boolean) tL_law Q (539, [some (.ref 1000), some (.ref 0), some (.ref 47), some (.int (ei_ i))], [], m) := by
  have hqn : ql_ q = (q.1 : Int) := rfl
  refine pw_steps 5 (s' := (544, [some (.ref 1000), some (.ref 0), some (.ref 47), some (.int (ei_ (i)))], [.int ((ei_ (i)) + (ei_ (1))), .ref 1000, .ref 0], m)) rfl ?_
  refine pw_cv (congrArg (fun z_ : Int32 => ((544, [some (.ref 1000), some (.ref 0), some (.ref 47), some (.int (ei_ (i)))], [.int z_, .ref 1000, .ref 0], m) : am_S)) (ei_add rfl rfl)) ?_
  refine pw_ild rfl rfl (by omega) (fun x1 (hx1 : x1 = sc_ q (i + 1)) rx1 sx1 => ?_)
  refine pw_steps 4 (s' := (549, [some (.ref 1000), some (.ref 0), some (.ref 47), some (.int (ei_ (i)))], [.int ((ei_ (i)) + (ei_ (2))), .ref 1000, .int (ei_ (x1)), .ref 0], m)) rfl ?_
  refine pw_cv (congrArg (fun z_ : Int32 => ((549, [some (.ref 1000), some (.ref 0), some (.ref 47), some (.int (ei_ (i)))], [.int z_, .ref 1000, .int (ei_ (x1)), .ref 0], m) : am_S)) (ei_add rfl rfl)) ?_
  refine pw_ild rfl rfl (by omega) (fun x2 (hx2 : x2 = sc_ q (i + 2)) rx2 sx2 => ?_)
  refine pw_steps 4 (s' := (554, [some (.ref 1000), some (.ref 0), some (.ref 47), some (.int (ei_ (i)))], [.int ((ei_ (i)) + (ei_ (3))), .ref 1000, .int (ei_ (x2)), .int (ei_ (x1)), .ref 0], m)) rfl ?_
  refine pw_cv (congrArg (fun z_ : Int32 => ((554, [some (.ref 1000), some (.ref 0), some (.ref 47), some (.int (ei_ (i)))], [.int z_, .ref 1000, .int (ei_ (x2)), .int (ei_ (x1)), .ref 0], m) : am_S)) (ei_add rfl rfl)) ?_
  refine pw_ild rfl rfl (by omega) (fun x3 (hx3 : x3 = sc_ q (i + 3)) rx3 sx3 => ?_)
  refine pw_call (As := [.int (ei_ (x1)), .int (ei_ (x2)), .int (ei_ (x3))]) (st := []) (k := 0) rfl rfl rfl rfl rfl (Nat.le_of_ble_eq_true rfl) ?_
  refine pw_two (op_give (d := 140) ⟨rx1, sx1⟩ ⟨rx2, sx2⟩ ⟨rx3, sx3⟩ hR) (fun x4 mm5 rr6 hh7 => ?_)
  refine pw_steps 5 (s' := (563, [some (.ref 1000), some (.ref 0), some (.ref 47), some (.int (ei_ (i)))], [.int ((ei_ (i)) + (ei_ (1))), .ref 1000, .ref 47, .int (ei_ (x4))], mm5)) rfl ?_
  refine pw_cv (congrArg (fun z_ : Int32 => ((563, [some (.ref 1000), some (.ref 0), some (.ref 47), some (.int (ei_ (i)))], [.int z_, .ref 1000, .ref 47, .int (ei_ (x4))], mm5) : am_S)) (ei_add rfl rfl)) ?_
  refine pw_ildE (x := x1) rfl rfl (by omega) hx1 ?_
  refine pw_steps 4 (s' := (568, [some (.ref 1000), some (.ref 0), some (.ref 47), some (.int (ei_ (i)))], [.int ((ei_ (i)) + (ei_ (2))), .ref 1000, .int (ei_ (x1)), .ref 47, .int (ei_ (x4))], mm5)) rfl ?_
  refine pw_cv (congrArg (fun z_ : Int32 => ((568, [some (.ref 1000), some (.ref 0), some (.ref 47), some (.int (ei_ (i)))], [.int z_, .ref 1000, .int (ei_ (x1)), .ref 47, .int (ei_ (x4))], mm5) : am_S)) (ei_add rfl rfl)) ?_
  refine pw_ildE (x := x2) rfl rfl (by omega) hx2 ?_
  refine pw_steps 4 (s' := (573, [some (.ref 1000), some (.ref 0), some (.ref 47), some (.int (ei_ (i)))], [.int ((ei_ (i)) + (ei_ (3))), .ref 1000, .int (ei_ (x2)), .int (ei_ (x1)), .ref 47, .int (ei_ (x4))], mm5)) rfl ?_
  refine pw_cv (congrArg (fun z_ : Int32 => ((573, [some (.ref 1000), some (.ref 0), some (.ref 47), some (.int (ei_ (i)))], [.int z_, .ref 1000, .int (ei_ (x2)), .int (ei_ (x1)), .ref 47, .int (ei_ (x4))], mm5) : am_S)) (ei_add rfl rfl)) ?_
  refine pw_ildE (x := x3) rfl rfl (by omega) hx3 ?_
  refine pw_call (As := [.int (ei_ (x1)), .int (ei_ (x2)), .int (ei_ (x3))]) (st := [.int (ei_ (x4))]) (k := 47) rfl rfl rfl rfl rfl (Nat.le_of_ble_eq_true rfl) ?_
  refine pw_mono hh7 (fun r_ mm8 hh_ => ?_)
  obtain ⟨e9, hR10⟩ := hh_
  subst e9
  refine pw_cmpT rfl rr6 rr6 (show x4 = x4 by omega) ?_
  exact kk mm8 hR10

set_option maxHeartbeats 4000000 in
set_option maxRecDepth 20000 in
theorem lc_allLast {q : am_X} {m : am_M} {i : Int} {Q : Option Value → am_M → Prop} (hq : 0 ≤ ql_ q ∧ ql_ q ≤ 3072) (hi : 0 ≤ i ∧ i ≤ ql_ q - 6) (hR : rR_ m) (kk : ∀ m2, rR_ m2 → pw_V q 200 (some .boolean) tL_law Q (1473, [some (.ref 1000), some (.ref 0), some (.ref 47), some (.int (ei_ i))], [], m2)) : pw_V q 200 (some .boolean) tL_law Q (582, [some (.ref 1000), some (.ref 0), some (.ref 47), some (.int (ei_ i))], [], m) := by
  have hqn : ql_ q = (q.1 : Int) := rfl
  refine pw_steps 5 (s' := (587, [some (.ref 1000), some (.ref 0), some (.ref 47), some (.int (ei_ (i)))], [.int ((ei_ (i)) + (ei_ (1))), .ref 1000, .ref 0], m)) rfl ?_
  refine pw_cv (congrArg (fun z_ : Int32 => ((587, [some (.ref 1000), some (.ref 0), some (.ref 47), some (.int (ei_ (i)))], [.int z_, .ref 1000, .ref 0], m) : am_S)) (ei_add rfl rfl)) ?_
  refine pw_ild rfl rfl (by omega) (fun x1 (hx1 : x1 = sc_ q (i + 1)) rx1 sx1 => ?_)
  refine pw_steps 4 (s' := (592, [some (.ref 1000), some (.ref 0), some (.ref 47), some (.int (ei_ (i)))], [.int ((ei_ (i)) + (ei_ (2))), .ref 1000, .int (ei_ (x1)), .ref 0], m)) rfl ?_
  refine pw_cv (congrArg (fun z_ : Int32 => ((592, [some (.ref 1000), some (.ref 0), some (.ref 47), some (.int (ei_ (i)))], [.int z_, .ref 1000, .int (ei_ (x1)), .ref 0], m) : am_S)) (ei_add rfl rfl)) ?_
  refine pw_ild rfl rfl (by omega) (fun x2 (hx2 : x2 = sc_ q (i + 2)) rx2 sx2 => ?_)
  refine pw_call (As := [.int (ei_ (x1)), .int (ei_ (x2))]) (st := []) (k := 0) rfl rfl rfl rfl rfl (Nat.le_of_ble_eq_true rfl) ?_
  refine pw_two (op_allLast (d := 140) ⟨rx1, sx1⟩ ⟨rx2, sx2⟩ hR) (fun x3 mm4 rr5 hh6 => ?_)
  refine pw_steps 5 (s' := (601, [some (.ref 1000), some (.ref 0), some (.ref 47), some (.int (ei_ (i)))], [.int ((ei_ (i)) + (ei_ (1))), .ref 1000, .ref 47, .int (ei_ (x3))], mm4)) rfl ?_
  refine pw_cv (congrArg (fun z_ : Int32 => ((601, [some (.ref 1000), some (.ref 0), some (.ref 47), some (.int (ei_ (i)))], [.int z_, .ref 1000, .ref 47, .int (ei_ (x3))], mm4) : am_S)) (ei_add rfl rfl)) ?_
  refine pw_ildE (x := x1) rfl rfl (by omega) hx1 ?_
  refine pw_steps 4 (s' := (606, [some (.ref 1000), some (.ref 0), some (.ref 47), some (.int (ei_ (i)))], [.int ((ei_ (i)) + (ei_ (2))), .ref 1000, .int (ei_ (x1)), .ref 47, .int (ei_ (x3))], mm4)) rfl ?_
  refine pw_cv (congrArg (fun z_ : Int32 => ((606, [some (.ref 1000), some (.ref 0), some (.ref 47), some (.int (ei_ (i)))], [.int z_, .ref 1000, .int (ei_ (x1)), .ref 47, .int (ei_ (x3))], mm4) : am_S)) (ei_add rfl rfl)) ?_
  refine pw_ildE (x := x2) rfl rfl (by omega) hx2 ?_
  refine pw_call (As := [.int (ei_ (x1)), .int (ei_ (x2))]) (st := [.int (ei_ (x3))]) (k := 47) rfl rfl rfl rfl rfl (Nat.le_of_ble_eq_true rfl) ?_
  refine pw_mono hh6 (fun r_ mm7 hh_ => ?_)
  obtain ⟨e8, hR9⟩ := hh_
  subst e8
  refine pw_cmpT rfl rr5 rr5 (show x3 = x3 by omega) ?_
  exact kk mm7 hR9

set_option maxHeartbeats 4000000 in
set_option maxRecDepth 20000 in
theorem lc_fewest {q : am_X} {m : am_M} {i : Int} {Q : Option Value → am_M → Prop} (hq : 0 ≤ ql_ q ∧ ql_ q ≤ 3072) (hi : 0 ≤ i ∧ i ≤ ql_ q - 6) (hR : rR_ m) (kk : ∀ m2, rR_ m2 → pw_V q 200 (some .boolean) tL_law Q (1473, [some (.ref 1000), some (.ref 0), some (.ref 47), some (.int (ei_ i))], [], m2)) : pw_V q 200 (some .boolean) tL_law Q (615, [some (.ref 1000), some (.ref 0), some (.ref 47), some (.int (ei_ i))], [], m) := by
  have hqn : ql_ q = (q.1 : Int) := rfl
  refine pw_steps 5 (s' := (620, [some (.ref 1000), some (.ref 0), some (.ref 47), some (.int (ei_ (i)))], [.int ((ei_ (i)) + (ei_ (1))), .ref 1000, .ref 0], m)) rfl ?_
  refine pw_cv (congrArg (fun z_ : Int32 => ((620, [some (.ref 1000), some (.ref 0), some (.ref 47), some (.int (ei_ (i)))], [.int z_, .ref 1000, .ref 0], m) : am_S)) (ei_add rfl rfl)) ?_
  refine pw_ild rfl rfl (by omega) (fun x1 (hx1 : x1 = sc_ q (i + 1)) rx1 sx1 => ?_)
  refine pw_call (As := [.int (ei_ (x1))]) (st := []) (k := 0) rfl rfl rfl rfl rfl (Nat.le_of_ble_eq_true rfl) ?_
  refine pw_two (op_fewest (d := 140) ⟨rx1, sx1⟩ hR) (fun x2 mm3 rr4 hh5 => ?_)
  refine pw_steps 5 (s' := (629, [some (.ref 1000), some (.ref 0), some (.ref 47), some (.int (ei_ (i)))], [.int ((ei_ (i)) + (ei_ (1))), .ref 1000, .ref 47, .int (ei_ (x2))], mm3)) rfl ?_
  refine pw_cv (congrArg (fun z_ : Int32 => ((629, [some (.ref 1000), some (.ref 0), some (.ref 47), some (.int (ei_ (i)))], [.int z_, .ref 1000, .ref 47, .int (ei_ (x2))], mm3) : am_S)) (ei_add rfl rfl)) ?_
  refine pw_ildE (x := x1) rfl rfl (by omega) hx1 ?_
  refine pw_call (As := [.int (ei_ (x1))]) (st := [.int (ei_ (x2))]) (k := 47) rfl rfl rfl rfl rfl (Nat.le_of_ble_eq_true rfl) ?_
  refine pw_mono hh5 (fun r_ mm6 hh_ => ?_)
  obtain ⟨e7, hR8⟩ := hh_
  subst e7
  refine pw_cmpT rfl rr4 rr4 (show x2 = x2 by omega) ?_
  exact kk mm6 hR8

set_option maxHeartbeats 4000000 in
set_option maxRecDepth 20000 in
theorem lc_thaws {q : am_X} {m : am_M} {i : Int} {Q : Option Value → am_M → Prop} (hq : 0 ≤ ql_ q ∧ ql_ q ≤ 3072) (hi : 0 ≤ i ∧ i ≤ ql_ q - 6) (hR : rR_ m) (kk : ∀ m2, rR_ m2 → pw_V q 200 (some .boolean) tL_law Q (1473, [some (.ref 1000), some (.ref 0), some (.ref 47), some (.int (ei_ i))], [], m2)) : pw_V q 200 (some .boolean) tL_law Q (638, [some (.ref 1000), some (.ref 0), some (.ref 47), some (.int (ei_ i))], [], m) := by
  have hqn : ql_ q = (q.1 : Int) := rfl
  refine pw_steps 5 (s' := (643, [some (.ref 1000), some (.ref 0), some (.ref 47), some (.int (ei_ (i)))], [.int ((ei_ (i)) + (ei_ (1))), .ref 1000, .ref 0], m)) rfl ?_
  refine pw_cv (congrArg (fun z_ : Int32 => ((643, [some (.ref 1000), some (.ref 0), some (.ref 47), some (.int (ei_ (i)))], [.int z_, .ref 1000, .ref 0], m) : am_S)) (ei_add rfl rfl)) ?_
  refine pw_ild rfl rfl (by omega) (fun x1 (hx1 : x1 = sc_ q (i + 1)) rx1 sx1 => ?_)
  refine pw_call (As := [.int (ei_ (x1))]) (st := []) (k := 0) rfl rfl rfl rfl rfl (Nat.le_of_ble_eq_true rfl) ?_
  refine pw_two (op_thaws (d := 140) ⟨rx1, sx1⟩ hR) (fun x2 mm3 rr4 hh5 => ?_)
  refine pw_steps 5 (s' := (652, [some (.ref 1000), some (.ref 0), some (.ref 47), some (.int (ei_ (i)))], [.int ((ei_ (i)) + (ei_ (1))), .ref 1000, .ref 47, .int (ei_ (x2))], mm3)) rfl ?_
  refine pw_cv (congrArg (fun z_ : Int32 => ((652, [some (.ref 1000), some (.ref 0), some (.ref 47), some (.int (ei_ (i)))], [.int z_, .ref 1000, .ref 47, .int (ei_ (x2))], mm3) : am_S)) (ei_add rfl rfl)) ?_
  refine pw_ildE (x := x1) rfl rfl (by omega) hx1 ?_
  refine pw_call (As := [.int (ei_ (x1))]) (st := [.int (ei_ (x2))]) (k := 47) rfl rfl rfl rfl rfl (Nat.le_of_ble_eq_true rfl) ?_
  refine pw_mono hh5 (fun r_ mm6 hh_ => ?_)
  obtain ⟨e7, hR8⟩ := hh_
  subst e7
  refine pw_cmpT rfl rr4 rr4 (show x2 = x2 by omega) ?_
  exact kk mm6 hR8

set_option maxHeartbeats 4000000 in
set_option maxRecDepth 20000 in
theorem lc_ring {q : am_X} {m : am_M} {i : Int} {Q : Option Value → am_M → Prop} (hq : 0 ≤ ql_ q ∧ ql_ q ≤ 3072) (hi : 0 ≤ i ∧ i ≤ ql_ q - 6) (hR : rR_ m) (kk : ∀ m2, rR_ m2 → pw_V q 200 (some .boolean) tL_law Q (1473, [some (.ref 1000), some (.ref 0), some (.ref 47), some (.int (ei_ i))], [], m2)) : pw_V q 200 (some .boolean) tL_law Q (661, [some (.ref 1000), some (.ref 0), some (.ref 47), some (.int (ei_ i))], [], m) := by
  have hqn : ql_ q = (q.1 : Int) := rfl
  refine pw_steps 5 (s' := (666, [some (.ref 1000), some (.ref 0), some (.ref 47), some (.int (ei_ (i)))], [.int ((ei_ (i)) + (ei_ (1))), .ref 1000, .ref 0], m)) rfl ?_
  refine pw_cv (congrArg (fun z_ : Int32 => ((666, [some (.ref 1000), some (.ref 0), some (.ref 47), some (.int (ei_ (i)))], [.int z_, .ref 1000, .ref 0], m) : am_S)) (ei_add rfl rfl)) ?_
  refine pw_ild rfl rfl (by omega) (fun x1 (hx1 : x1 = sc_ q (i + 1)) rx1 sx1 => ?_)
  refine pw_steps 4 (s' := (671, [some (.ref 1000), some (.ref 0), some (.ref 47), some (.int (ei_ (i)))], [.int ((ei_ (i)) + (ei_ (2))), .ref 1000, .int (ei_ (x1)), .ref 0], m)) rfl ?_
  refine pw_cv (congrArg (fun z_ : Int32 => ((671, [some (.ref 1000), some (.ref 0), some (.ref 47), some (.int (ei_ (i)))], [.int z_, .ref 1000, .int (ei_ (x1)), .ref 0], m) : am_S)) (ei_add rfl rfl)) ?_
  refine pw_ild rfl rfl (by omega) (fun x2 (hx2 : x2 = sc_ q (i + 2)) rx2 sx2 => ?_)
  refine pw_call (As := [.int (ei_ (x1)), .int (ei_ (x2))]) (st := []) (k := 0) rfl rfl rfl rfl rfl (Nat.le_of_ble_eq_true rfl) ?_
  refine pw_two (op_ring (d := 140) ⟨rx1, sx1⟩ ⟨rx2, sx2⟩ hR) (fun x3 mm4 rr5 hh6 => ?_)
  refine pw_steps 5 (s' := (680, [some (.ref 1000), some (.ref 0), some (.ref 47), some (.int (ei_ (i)))], [.int ((ei_ (i)) + (ei_ (1))), .ref 1000, .ref 47, .int (ei_ (x3))], mm4)) rfl ?_
  refine pw_cv (congrArg (fun z_ : Int32 => ((680, [some (.ref 1000), some (.ref 0), some (.ref 47), some (.int (ei_ (i)))], [.int z_, .ref 1000, .ref 47, .int (ei_ (x3))], mm4) : am_S)) (ei_add rfl rfl)) ?_
  refine pw_ildE (x := x1) rfl rfl (by omega) hx1 ?_
  refine pw_steps 4 (s' := (685, [some (.ref 1000), some (.ref 0), some (.ref 47), some (.int (ei_ (i)))], [.int ((ei_ (i)) + (ei_ (2))), .ref 1000, .int (ei_ (x1)), .ref 47, .int (ei_ (x3))], mm4)) rfl ?_
  refine pw_cv (congrArg (fun z_ : Int32 => ((685, [some (.ref 1000), some (.ref 0), some (.ref 47), some (.int (ei_ (i)))], [.int z_, .ref 1000, .int (ei_ (x1)), .ref 47, .int (ei_ (x3))], mm4) : am_S)) (ei_add rfl rfl)) ?_
  refine pw_ildE (x := x2) rfl rfl (by omega) hx2 ?_
  refine pw_call (As := [.int (ei_ (x1)), .int (ei_ (x2))]) (st := [.int (ei_ (x3))]) (k := 47) rfl rfl rfl rfl rfl (Nat.le_of_ble_eq_true rfl) ?_
  refine pw_mono hh6 (fun r_ mm7 hh_ => ?_)
  obtain ⟨e8, hR9⟩ := hh_
  subst e8
  refine pw_cmpT rfl rr5 rr5 (show x3 = x3 by omega) ?_
  exact kk mm7 hR9

set_option maxHeartbeats 4000000 in
set_option maxRecDepth 20000 in
theorem lc_crowd {q : am_X} {m : am_M} {i : Int} {Q : Option Value → am_M → Prop} (hq : 0 ≤ ql_ q ∧ ql_ q ≤ 3072) (hi : 0 ≤ i ∧ i ≤ ql_ q - 6) (hR : rR_ m) (kk : ∀ m2, rR_ m2 → pw_V q 200 (some .boolean) tL_law Q (1473, [some (.ref 1000), some (.ref 0), some (.ref 47), some (.int (ei_ i))], [], m2)) : pw_V q 200 (some .boolean) tL_law Q (694, [some (.ref 1000), some (.ref 0), some (.ref 47), some (.int (ei_ i))], [], m) := by
  have hqn : ql_ q = (q.1 : Int) := rfl
  refine pw_steps 5 (s' := (699, [some (.ref 1000), some (.ref 0), some (.ref 47), some (.int (ei_ (i)))], [.int ((ei_ (i)) + (ei_ (1))), .ref 1000, .ref 0], m)) rfl ?_
  refine pw_cv (congrArg (fun z_ : Int32 => ((699, [some (.ref 1000), some (.ref 0), some (.ref 47), some (.int (ei_ (i)))], [.int z_, .ref 1000, .ref 0], m) : am_S)) (ei_add rfl rfl)) ?_
  refine pw_ild rfl rfl (by omega) (fun x1 (hx1 : x1 = sc_ q (i + 1)) rx1 sx1 => ?_)
  refine pw_call (As := [.int (ei_ (x1))]) (st := []) (k := 0) rfl rfl rfl rfl rfl (Nat.le_of_ble_eq_true rfl) ?_
  refine pw_two (op_crowd (d := 140) ⟨rx1, sx1⟩ hR) (fun x2 mm3 rr4 hh5 => ?_)
  refine pw_steps 5 (s' := (708, [some (.ref 1000), some (.ref 0), some (.ref 47), some (.int (ei_ (i)))], [.int ((ei_ (i)) + (ei_ (1))), .ref 1000, .ref 47, .int (ei_ (x2))], mm3)) rfl ?_
  refine pw_cv (congrArg (fun z_ : Int32 => ((708, [some (.ref 1000), some (.ref 0), some (.ref 47), some (.int (ei_ (i)))], [.int z_, .ref 1000, .ref 47, .int (ei_ (x2))], mm3) : am_S)) (ei_add rfl rfl)) ?_
  refine pw_ildE (x := x1) rfl rfl (by omega) hx1 ?_
  refine pw_call (As := [.int (ei_ (x1))]) (st := [.int (ei_ (x2))]) (k := 47) rfl rfl rfl rfl rfl (Nat.le_of_ble_eq_true rfl) ?_
  refine pw_mono hh5 (fun r_ mm6 hh_ => ?_)
  obtain ⟨e7, hR8⟩ := hh_
  subst e7
  refine pw_cmpT rfl rr4 rr4 (show x2 = x2 by omega) ?_
  exact kk mm6 hR8

set_option maxHeartbeats 4000000 in
set_option maxRecDepth 20000 in
theorem lc_letter {q : am_X} {m : am_M} {i : Int} {Q : Option Value → am_M → Prop} (hq : 0 ≤ ql_ q ∧ ql_ q ≤ 3072) (hi : 0 ≤ i ∧ i ≤ ql_ q - 6) (hR : rR_ m) (kk : ∀ m2, rR_ m2 → pw_V q 200 (some .boolean) tL_law Q (1473, [some (.ref 1000), some (.ref 0), some (.ref 47), some (.int (ei_ i))], [], m2)) : pw_V q 200 (some .boolean) tL_law Q (717, [some (.ref 1000), some (.ref 0), some (.ref 47), some (.int (ei_ i))], [], m) := by
  have hqn : ql_ q = (q.1 : Int) := rfl
  refine pw_steps 5 (s' := (722, [some (.ref 1000), some (.ref 0), some (.ref 47), some (.int (ei_ (i)))], [.int ((ei_ (i)) + (ei_ (1))), .ref 1000, .ref 0], m)) rfl ?_
  refine pw_cv (congrArg (fun z_ : Int32 => ((722, [some (.ref 1000), some (.ref 0), some (.ref 47), some (.int (ei_ (i)))], [.int z_, .ref 1000, .ref 0], m) : am_S)) (ei_add rfl rfl)) ?_
  refine pw_ild rfl rfl (by omega) (fun x1 (hx1 : x1 = sc_ q (i + 1)) rx1 sx1 => ?_)
  refine pw_steps 4 (s' := (727, [some (.ref 1000), some (.ref 0), some (.ref 47), some (.int (ei_ (i)))], [.int ((ei_ (i)) + (ei_ (2))), .ref 1000, .int (ei_ (x1)), .ref 0], m)) rfl ?_
  refine pw_cv (congrArg (fun z_ : Int32 => ((727, [some (.ref 1000), some (.ref 0), some (.ref 47), some (.int (ei_ (i)))], [.int z_, .ref 1000, .int (ei_ (x1)), .ref 0], m) : am_S)) (ei_add rfl rfl)) ?_
  refine pw_ild rfl rfl (by omega) (fun x2 (hx2 : x2 = sc_ q (i + 2)) rx2 sx2 => ?_)
  refine pw_steps 4 (s' := (732, [some (.ref 1000), some (.ref 0), some (.ref 47), some (.int (ei_ (i)))], [.int ((ei_ (i)) + (ei_ (3))), .ref 1000, .int (ei_ (x2)), .int (ei_ (x1)), .ref 0], m)) rfl ?_
  refine pw_cv (congrArg (fun z_ : Int32 => ((732, [some (.ref 1000), some (.ref 0), some (.ref 47), some (.int (ei_ (i)))], [.int z_, .ref 1000, .int (ei_ (x2)), .int (ei_ (x1)), .ref 0], m) : am_S)) (ei_add rfl rfl)) ?_
  refine pw_ild rfl rfl (by omega) (fun x3 (hx3 : x3 = sc_ q (i + 3)) rx3 sx3 => ?_)
  refine pw_call (As := [.int (ei_ (x1)), .int (ei_ (x2)), .int (ei_ (x3))]) (st := []) (k := 0) rfl rfl rfl rfl rfl (Nat.le_of_ble_eq_true rfl) ?_
  refine pw_two (op_letter (d := 140) ⟨rx1, sx1⟩ ⟨rx2, sx2⟩ ⟨rx3, sx3⟩ hR) (fun x4 mm5 rr6 hh7 => ?_)
  refine pw_steps 5 (s' := (741, [some (.ref 1000), some (.ref 0), some (.ref 47), some (.int (ei_ (i)))], [.int ((ei_ (i)) + (ei_ (1))), .ref 1000, .ref 47, .int (ei_ (x4))], mm5)) rfl ?_
  refine pw_cv (congrArg (fun z_ : Int32 => ((741, [some (.ref 1000), some (.ref 0), some (.ref 47), some (.int (ei_ (i)))], [.int z_, .ref 1000, .ref 47, .int (ei_ (x4))], mm5) : am_S)) (ei_add rfl rfl)) ?_
  refine pw_ildE (x := x1) rfl rfl (by omega) hx1 ?_
  refine pw_steps 4 (s' := (746, [some (.ref 1000), some (.ref 0), some (.ref 47), some (.int (ei_ (i)))], [.int ((ei_ (i)) + (ei_ (2))), .ref 1000, .int (ei_ (x1)), .ref 47, .int (ei_ (x4))], mm5)) rfl ?_
  refine pw_cv (congrArg (fun z_ : Int32 => ((746, [some (.ref 1000), some (.ref 0), some (.ref 47), some (.int (ei_ (i)))], [.int z_, .ref 1000, .int (ei_ (x1)), .ref 47, .int (ei_ (x4))], mm5) : am_S)) (ei_add rfl rfl)) ?_
  refine pw_ildE (x := x2) rfl rfl (by omega) hx2 ?_
  refine pw_steps 4 (s' := (751, [some (.ref 1000), some (.ref 0), some (.ref 47), some (.int (ei_ (i)))], [.int ((ei_ (i)) + (ei_ (3))), .ref 1000, .int (ei_ (x2)), .int (ei_ (x1)), .ref 47, .int (ei_ (x4))], mm5)) rfl ?_
  refine pw_cv (congrArg (fun z_ : Int32 => ((751, [some (.ref 1000), some (.ref 0), some (.ref 47), some (.int (ei_ (i)))], [.int z_, .ref 1000, .int (ei_ (x2)), .int (ei_ (x1)), .ref 47, .int (ei_ (x4))], mm5) : am_S)) (ei_add rfl rfl)) ?_
  refine pw_ildE (x := x3) rfl rfl (by omega) hx3 ?_
  refine pw_call (As := [.int (ei_ (x1)), .int (ei_ (x2)), .int (ei_ (x3))]) (st := [.int (ei_ (x4))]) (k := 47) rfl rfl rfl rfl rfl (Nat.le_of_ble_eq_true rfl) ?_
  refine pw_mono hh7 (fun r_ mm8 hh_ => ?_)
  obtain ⟨e9, hR10⟩ := hh_
  subst e9
  refine pw_cmpT rfl rr6 rr6 (show x4 = x4 by omega) ?_
  exact kk mm8 hR10

set_option maxHeartbeats 4000000 in
set_option maxRecDepth 20000 in
theorem lc_owe {q : am_X} {m : am_M} {i : Int} {Q : Option Value → am_M → Prop} (hq : 0 ≤ ql_ q ∧ ql_ q ≤ 3072) (hi : 0 ≤ i ∧ i ≤ ql_ q - 6) (hR : rR_ m) (kk : ∀ m2, rR_ m2 → pw_V q 200 (some .boolean) tL_law Q (1473, [some (.ref 1000), some (.ref 0), some (.ref 47), some (.int (ei_ i))], [], m2)) : pw_V q 200 (some .boolean) tL_law Q (760, [some (.ref 1000), some (.ref 0), some (.ref 47), some (.int (ei_ i))], [], m) := by
  have hqn : ql_ q = (q.1 : Int) := rfl
  refine pw_steps 5 (s' := (765, [some (.ref 1000), some (.ref 0), some (.ref 47), some (.int (ei_ (i)))], [.int ((ei_ (i)) + (ei_ (1))), .ref 1000, .ref 0], m)) rfl ?_
  refine pw_cv (congrArg (fun z_ : Int32 => ((765, [some (.ref 1000), some (.ref 0), some (.ref 47), some (.int (ei_ (i)))], [.int z_, .ref 1000, .ref 0], m) : am_S)) (ei_add rfl rfl)) ?_
  refine pw_ild rfl rfl (by omega) (fun x1 (hx1 : x1 = sc_ q (i + 1)) rx1 sx1 => ?_)
  refine pw_steps 4 (s' := (770, [some (.ref 1000), some (.ref 0), some (.ref 47), some (.int (ei_ (i)))], [.int ((ei_ (i)) + (ei_ (2))), .ref 1000, .int (ei_ (x1)), .ref 0], m)) rfl ?_
  refine pw_cv (congrArg (fun z_ : Int32 => ((770, [some (.ref 1000), some (.ref 0), some (.ref 47), some (.int (ei_ (i)))], [.int z_, .ref 1000, .int (ei_ (x1)), .ref 0], m) : am_S)) (ei_add rfl rfl)) ?_
  refine pw_ild rfl rfl (by omega) (fun x2 (hx2 : x2 = sc_ q (i + 2)) rx2 sx2 => ?_)
  refine pw_call (As := [.int (ei_ (x1)), .int (ei_ (x2))]) (st := []) (k := 0) rfl rfl rfl rfl rfl (Nat.le_of_ble_eq_true rfl) ?_
  refine pw_two (op_owe (d := 140) ⟨rx1, sx1⟩ ⟨rx2, sx2⟩ hR) (fun x3 mm4 rr5 hh6 => ?_)
  refine pw_steps 5 (s' := (779, [some (.ref 1000), some (.ref 0), some (.ref 47), some (.int (ei_ (i)))], [.int ((ei_ (i)) + (ei_ (1))), .ref 1000, .ref 47, .int (ei_ (x3))], mm4)) rfl ?_
  refine pw_cv (congrArg (fun z_ : Int32 => ((779, [some (.ref 1000), some (.ref 0), some (.ref 47), some (.int (ei_ (i)))], [.int z_, .ref 1000, .ref 47, .int (ei_ (x3))], mm4) : am_S)) (ei_add rfl rfl)) ?_
  refine pw_ildE (x := x1) rfl rfl (by omega) hx1 ?_
  refine pw_steps 4 (s' := (784, [some (.ref 1000), some (.ref 0), some (.ref 47), some (.int (ei_ (i)))], [.int ((ei_ (i)) + (ei_ (2))), .ref 1000, .int (ei_ (x1)), .ref 47, .int (ei_ (x3))], mm4)) rfl ?_
  refine pw_cv (congrArg (fun z_ : Int32 => ((784, [some (.ref 1000), some (.ref 0), some (.ref 47), some (.int (ei_ (i)))], [.int z_, .ref 1000, .int (ei_ (x1)), .ref 47, .int (ei_ (x3))], mm4) : am_S)) (ei_add rfl rfl)) ?_
  refine pw_ildE (x := x2) rfl rfl (by omega) hx2 ?_
  refine pw_call (As := [.int (ei_ (x1)), .int (ei_ (x2))]) (st := [.int (ei_ (x3))]) (k := 47) rfl rfl rfl rfl rfl (Nat.le_of_ble_eq_true rfl) ?_
  refine pw_mono hh6 (fun r_ mm7 hh_ => ?_)
  obtain ⟨e8, hR9⟩ := hh_
  subst e8
  refine pw_cmpT rfl rr5 rr5 (show x3 = x3 by omega) ?_
  exact kk mm7 hR9

set_option maxHeartbeats 4000000 in
set_option maxRecDepth 20000 in
theorem lc_debt {q : am_X} {m : am_M} {i : Int} {Q : Option Value → am_M → Prop} (hq : 0 ≤ ql_ q ∧ ql_ q ≤ 3072) (hi : 0 ≤ i ∧ i ≤ ql_ q - 6) (hR : rR_ m) (kk : ∀ m2, rR_ m2 → pw_V q 200 (some .boolean) tL_law Q (1473, [some (.ref 1000), some (.ref 0), some (.ref 47), some (.int (ei_ i))], [], m2)) : pw_V q 200 (some .boolean) tL_law Q (793, [some (.ref 1000), some (.ref 0), some (.ref 47), some (.int (ei_ i))], [], m) := by
  have hqn : ql_ q = (q.1 : Int) := rfl
  refine pw_steps 5 (s' := (798, [some (.ref 1000), some (.ref 0), some (.ref 47), some (.int (ei_ (i)))], [.int ((ei_ (i)) + (ei_ (1))), .ref 1000, .ref 0], m)) rfl ?_
  refine pw_cv (congrArg (fun z_ : Int32 => ((798, [some (.ref 1000), some (.ref 0), some (.ref 47), some (.int (ei_ (i)))], [.int z_, .ref 1000, .ref 0], m) : am_S)) (ei_add rfl rfl)) ?_
  refine pw_ild rfl rfl (by omega) (fun x1 (hx1 : x1 = sc_ q (i + 1)) rx1 sx1 => ?_)
  refine pw_call (As := [.int (ei_ (x1))]) (st := []) (k := 0) rfl rfl rfl rfl rfl (Nat.le_of_ble_eq_true rfl) ?_
  refine pw_two (op_debt (d := 140) ⟨rx1, sx1⟩ hR) (fun x2 mm3 rr4 hh5 => ?_)
  refine pw_steps 5 (s' := (807, [some (.ref 1000), some (.ref 0), some (.ref 47), some (.int (ei_ (i)))], [.int ((ei_ (i)) + (ei_ (1))), .ref 1000, .ref 47, .int (ei_ (x2))], mm3)) rfl ?_
  refine pw_cv (congrArg (fun z_ : Int32 => ((807, [some (.ref 1000), some (.ref 0), some (.ref 47), some (.int (ei_ (i)))], [.int z_, .ref 1000, .ref 47, .int (ei_ (x2))], mm3) : am_S)) (ei_add rfl rfl)) ?_
  refine pw_ildE (x := x1) rfl rfl (by omega) hx1 ?_
  refine pw_call (As := [.int (ei_ (x1))]) (st := [.int (ei_ (x2))]) (k := 47) rfl rfl rfl rfl rfl (Nat.le_of_ble_eq_true rfl) ?_
  refine pw_mono hh5 (fun r_ mm6 hh_ => ?_)
  obtain ⟨e7, hR8⟩ := hh_
  subst e7
  refine pw_cmpT rfl rr4 rr4 (show x2 = x2 by omega) ?_
  exact kk mm6 hR8

set_option maxHeartbeats 4000000 in
set_option maxRecDepth 20000 in
theorem lc_doors {q : am_X} {m : am_M} {i : Int} {Q : Option Value → am_M → Prop} (hq : 0 ≤ ql_ q ∧ ql_ q ≤ 3072) (hi : 0 ≤ i ∧ i ≤ ql_ q - 6) (hR : rR_ m) (kk : ∀ m2, rR_ m2 → pw_V q 200 (some .boolean) tL_law Q (1473, [some (.ref 1000), some (.ref 0), some (.ref 47), some (.int (ei_ i))], [], m2)) : pw_V q 200 (some .boolean) tL_law Q (816, [some (.ref 1000), some (.ref 0), some (.ref 47), some (.int (ei_ i))], [], m) := by
  have hqn : ql_ q = (q.1 : Int) := rfl
  refine pw_steps 5 (s' := (821, [some (.ref 1000), some (.ref 0), some (.ref 47), some (.int (ei_ (i)))], [.int ((ei_ (i)) + (ei_ (1))), .ref 1000, .ref 0], m)) rfl ?_
  refine pw_cv (congrArg (fun z_ : Int32 => ((821, [some (.ref 1000), some (.ref 0), some (.ref 47), some (.int (ei_ (i)))], [.int z_, .ref 1000, .ref 0], m) : am_S)) (ei_add rfl rfl)) ?_
  refine pw_ild rfl rfl (by omega) (fun x1 (hx1 : x1 = sc_ q (i + 1)) rx1 sx1 => ?_)
  refine pw_call (As := [.int (ei_ (x1))]) (st := []) (k := 0) rfl rfl rfl rfl rfl (Nat.le_of_ble_eq_true rfl) ?_
  refine pw_two (op_doors (d := 140) ⟨rx1, sx1⟩ hR) (fun x2 mm3 rr4 hh5 => ?_)
  refine pw_steps 5 (s' := (830, [some (.ref 1000), some (.ref 0), some (.ref 47), some (.int (ei_ (i)))], [.int ((ei_ (i)) + (ei_ (1))), .ref 1000, .ref 47, .int (ei_ (x2))], mm3)) rfl ?_
  refine pw_cv (congrArg (fun z_ : Int32 => ((830, [some (.ref 1000), some (.ref 0), some (.ref 47), some (.int (ei_ (i)))], [.int z_, .ref 1000, .ref 47, .int (ei_ (x2))], mm3) : am_S)) (ei_add rfl rfl)) ?_
  refine pw_ildE (x := x1) rfl rfl (by omega) hx1 ?_
  refine pw_call (As := [.int (ei_ (x1))]) (st := [.int (ei_ (x2))]) (k := 47) rfl rfl rfl rfl rfl (Nat.le_of_ble_eq_true rfl) ?_
  refine pw_mono hh5 (fun r_ mm6 hh_ => ?_)
  obtain ⟨e7, hR8⟩ := hh_
  subst e7
  refine pw_cmpT rfl rr4 rr4 (show x2 = x2 by omega) ?_
  exact kk mm6 hR8

set_option maxHeartbeats 4000000 in
set_option maxRecDepth 20000 in
theorem lc_judge {q : am_X} {m : am_M} {i : Int} {Q : Option Value → am_M → Prop} (hq : 0 ≤ ql_ q ∧ ql_ q ≤ 3072) (hi : 0 ≤ i ∧ i ≤ ql_ q - 6) (hR : rR_ m) (kk : ∀ m2, rR_ m2 → pw_V q 200 (some .boolean) tL_law Q (1473, [some (.ref 1000), some (.ref 0), some (.ref 47), some (.int (ei_ i))], [], m2)) : pw_V q 200 (some .boolean) tL_law Q (839, [some (.ref 1000), some (.ref 0), some (.ref 47), some (.int (ei_ i))], [], m) := by
  have hqn : ql_ q = (q.1 : Int) := rfl
  refine pw_steps 5 (s' := (844, [some (.ref 1000), some (.ref 0), some (.ref 47), some (.int (ei_ (i)))], [.int ((ei_ (i)) + (ei_ (1))), .ref 1000, .ref 0], m)) rfl ?_
  refine pw_cv (congrArg (fun z_ : Int32 => ((844, [some (.ref 1000), some (.ref 0), some (.ref 47), some (.int (ei_ (i)))], [.int z_, .ref 1000, .ref 0], m) : am_S)) (ei_add rfl rfl)) ?_
  refine pw_ild rfl rfl (by omega) (fun x1 (hx1 : x1 = sc_ q (i + 1)) rx1 sx1 => ?_)
  refine pw_call (As := [.int (ei_ (x1))]) (st := []) (k := 0) rfl rfl rfl rfl rfl (Nat.le_of_ble_eq_true rfl) ?_
  refine pw_two (op_judge (d := 140) ⟨rx1, sx1⟩ hR) (fun x2 mm3 rr4 hh5 => ?_)
  refine pw_steps 5 (s' := (853, [some (.ref 1000), some (.ref 0), some (.ref 47), some (.int (ei_ (i)))], [.int ((ei_ (i)) + (ei_ (1))), .ref 1000, .ref 47, .int (ei_ (x2))], mm3)) rfl ?_
  refine pw_cv (congrArg (fun z_ : Int32 => ((853, [some (.ref 1000), some (.ref 0), some (.ref 47), some (.int (ei_ (i)))], [.int z_, .ref 1000, .ref 47, .int (ei_ (x2))], mm3) : am_S)) (ei_add rfl rfl)) ?_
  refine pw_ildE (x := x1) rfl rfl (by omega) hx1 ?_
  refine pw_call (As := [.int (ei_ (x1))]) (st := [.int (ei_ (x2))]) (k := 47) rfl rfl rfl rfl rfl (Nat.le_of_ble_eq_true rfl) ?_
  refine pw_mono hh5 (fun r_ mm6 hh_ => ?_)
  obtain ⟨e7, hR8⟩ := hh_
  subst e7
  refine pw_cmpT rfl rr4 rr4 (show x2 = x2 by omega) ?_
  exact kk mm6 hR8

set_option maxHeartbeats 4000000 in
set_option maxRecDepth 20000 in
theorem lc_wore {q : am_X} {m : am_M} {i : Int} {Q : Option Value → am_M → Prop} (hq : 0 ≤ ql_ q ∧ ql_ q ≤ 3072) (hi : 0 ≤ i ∧ i ≤ ql_ q - 6) (hR : rR_ m) (kk : ∀ m2, rR_ m2 → pw_V q 200 (some .boolean) tL_law Q (1473, [some (.ref 1000), some (.ref 0), some (.ref 47), some (.int (ei_ i))], [], m2)) : pw_V q 200 (some .boolean) tL_law Q (862, [some (.ref 1000), some (.ref 0), some (.ref 47), some (.int (ei_ i))], [], m) := by
  have hqn : ql_ q = (q.1 : Int) := rfl
  refine pw_steps 5 (s' := (867, [some (.ref 1000), some (.ref 0), some (.ref 47), some (.int (ei_ (i)))], [.int ((ei_ (i)) + (ei_ (1))), .ref 1000, .ref 0], m)) rfl ?_
  refine pw_cv (congrArg (fun z_ : Int32 => ((867, [some (.ref 1000), some (.ref 0), some (.ref 47), some (.int (ei_ (i)))], [.int z_, .ref 1000, .ref 0], m) : am_S)) (ei_add rfl rfl)) ?_
  refine pw_ild rfl rfl (by omega) (fun x1 (hx1 : x1 = sc_ q (i + 1)) rx1 sx1 => ?_)
  refine pw_steps 4 (s' := (872, [some (.ref 1000), some (.ref 0), some (.ref 47), some (.int (ei_ (i)))], [.int ((ei_ (i)) + (ei_ (2))), .ref 1000, .int (ei_ (x1)), .ref 0], m)) rfl ?_
  refine pw_cv (congrArg (fun z_ : Int32 => ((872, [some (.ref 1000), some (.ref 0), some (.ref 47), some (.int (ei_ (i)))], [.int z_, .ref 1000, .int (ei_ (x1)), .ref 0], m) : am_S)) (ei_add rfl rfl)) ?_
  refine pw_ild rfl rfl (by omega) (fun x2 (hx2 : x2 = sc_ q (i + 2)) rx2 sx2 => ?_)
  refine pw_call (As := [.int (ei_ (x1)), .int (ei_ (x2))]) (st := []) (k := 0) rfl rfl rfl rfl rfl (Nat.le_of_ble_eq_true rfl) ?_
  refine pw_two (op_wore (d := 140) ⟨rx1, sx1⟩ ⟨rx2, sx2⟩ hR) (fun x3 mm4 rr5 hh6 => ?_)
  refine pw_steps 5 (s' := (881, [some (.ref 1000), some (.ref 0), some (.ref 47), some (.int (ei_ (i)))], [.int ((ei_ (i)) + (ei_ (1))), .ref 1000, .ref 47, .int (ei_ (x3))], mm4)) rfl ?_
  refine pw_cv (congrArg (fun z_ : Int32 => ((881, [some (.ref 1000), some (.ref 0), some (.ref 47), some (.int (ei_ (i)))], [.int z_, .ref 1000, .ref 47, .int (ei_ (x3))], mm4) : am_S)) (ei_add rfl rfl)) ?_
  refine pw_ildE (x := x1) rfl rfl (by omega) hx1 ?_
  refine pw_steps 4 (s' := (886, [some (.ref 1000), some (.ref 0), some (.ref 47), some (.int (ei_ (i)))], [.int ((ei_ (i)) + (ei_ (2))), .ref 1000, .int (ei_ (x1)), .ref 47, .int (ei_ (x3))], mm4)) rfl ?_
  refine pw_cv (congrArg (fun z_ : Int32 => ((886, [some (.ref 1000), some (.ref 0), some (.ref 47), some (.int (ei_ (i)))], [.int z_, .ref 1000, .int (ei_ (x1)), .ref 47, .int (ei_ (x3))], mm4) : am_S)) (ei_add rfl rfl)) ?_
  refine pw_ildE (x := x2) rfl rfl (by omega) hx2 ?_
  refine pw_call (As := [.int (ei_ (x1)), .int (ei_ (x2))]) (st := [.int (ei_ (x3))]) (k := 47) rfl rfl rfl rfl rfl (Nat.le_of_ble_eq_true rfl) ?_
  refine pw_mono hh6 (fun r_ mm7 hh_ => ?_)
  obtain ⟨e8, hR9⟩ := hh_
  subst e8
  refine pw_cmpT rfl rr5 rr5 (show x3 = x3 by omega) ?_
  exact kk mm7 hR9

set_option maxHeartbeats 4000000 in
set_option maxRecDepth 20000 in
theorem lc_drawn {q : am_X} {m : am_M} {i : Int} {Q : Option Value → am_M → Prop} (hq : 0 ≤ ql_ q ∧ ql_ q ≤ 3072) (hi : 0 ≤ i ∧ i ≤ ql_ q - 6) (hR : rR_ m) (kk : ∀ m2, rR_ m2 → pw_V q 200 (some .boolean) tL_law Q (1473, [some (.ref 1000), some (.ref 0), some (.ref 47), some (.int (ei_ i))], [], m2)) : pw_V q 200 (some .boolean) tL_law Q (895, [some (.ref 1000), some (.ref 0), some (.ref 47), some (.int (ei_ i))], [], m) := by
  have hqn : ql_ q = (q.1 : Int) := rfl
  refine pw_steps 5 (s' := (900, [some (.ref 1000), some (.ref 0), some (.ref 47), some (.int (ei_ (i)))], [.int ((ei_ (i)) + (ei_ (1))), .ref 1000, .ref 0], m)) rfl ?_
  refine pw_cv (congrArg (fun z_ : Int32 => ((900, [some (.ref 1000), some (.ref 0), some (.ref 47), some (.int (ei_ (i)))], [.int z_, .ref 1000, .ref 0], m) : am_S)) (ei_add rfl rfl)) ?_
  refine pw_ild rfl rfl (by omega) (fun x1 (hx1 : x1 = sc_ q (i + 1)) rx1 sx1 => ?_)
  refine pw_steps 4 (s' := (905, [some (.ref 1000), some (.ref 0), some (.ref 47), some (.int (ei_ (i)))], [.int ((ei_ (i)) + (ei_ (2))), .ref 1000, .int (ei_ (x1)), .ref 0], m)) rfl ?_
  refine pw_cv (congrArg (fun z_ : Int32 => ((905, [some (.ref 1000), some (.ref 0), some (.ref 47), some (.int (ei_ (i)))], [.int z_, .ref 1000, .int (ei_ (x1)), .ref 0], m) : am_S)) (ei_add rfl rfl)) ?_
  refine pw_ild rfl rfl (by omega) (fun x2 (hx2 : x2 = sc_ q (i + 2)) rx2 sx2 => ?_)
  refine pw_steps 4 (s' := (910, [some (.ref 1000), some (.ref 0), some (.ref 47), some (.int (ei_ (i)))], [.int ((ei_ (i)) + (ei_ (3))), .ref 1000, .int (ei_ (x2)), .int (ei_ (x1)), .ref 0], m)) rfl ?_
  refine pw_cv (congrArg (fun z_ : Int32 => ((910, [some (.ref 1000), some (.ref 0), some (.ref 47), some (.int (ei_ (i)))], [.int z_, .ref 1000, .int (ei_ (x2)), .int (ei_ (x1)), .ref 0], m) : am_S)) (ei_add rfl rfl)) ?_
  refine pw_ild rfl rfl (by omega) (fun x3 (hx3 : x3 = sc_ q (i + 3)) rx3 sx3 => ?_)
  refine pw_call (As := [.int (ei_ (x1)), .int (ei_ (x2)), .int (ei_ (x3))]) (st := []) (k := 0) rfl rfl rfl rfl rfl (Nat.le_of_ble_eq_true rfl) ?_
  refine pw_two (op_drawn (d := 140) ⟨rx1, sx1⟩ ⟨rx2, sx2⟩ ⟨rx3, sx3⟩ hR) (fun x4 mm5 rr6 hh7 => ?_)
  refine pw_steps 5 (s' := (919, [some (.ref 1000), some (.ref 0), some (.ref 47), some (.int (ei_ (i)))], [.int ((ei_ (i)) + (ei_ (1))), .ref 1000, .ref 47, .int (ei_ (x4))], mm5)) rfl ?_
  refine pw_cv (congrArg (fun z_ : Int32 => ((919, [some (.ref 1000), some (.ref 0), some (.ref 47), some (.int (ei_ (i)))], [.int z_, .ref 1000, .ref 47, .int (ei_ (x4))], mm5) : am_S)) (ei_add rfl rfl)) ?_
  refine pw_ildE (x := x1) rfl rfl (by omega) hx1 ?_
  refine pw_steps 4 (s' := (924, [some (.ref 1000), some (.ref 0), some (.ref 47), some (.int (ei_ (i)))], [.int ((ei_ (i)) + (ei_ (2))), .ref 1000, .int (ei_ (x1)), .ref 47, .int (ei_ (x4))], mm5)) rfl ?_
  refine pw_cv (congrArg (fun z_ : Int32 => ((924, [some (.ref 1000), some (.ref 0), some (.ref 47), some (.int (ei_ (i)))], [.int z_, .ref 1000, .int (ei_ (x1)), .ref 47, .int (ei_ (x4))], mm5) : am_S)) (ei_add rfl rfl)) ?_
  refine pw_ildE (x := x2) rfl rfl (by omega) hx2 ?_
  refine pw_steps 4 (s' := (929, [some (.ref 1000), some (.ref 0), some (.ref 47), some (.int (ei_ (i)))], [.int ((ei_ (i)) + (ei_ (3))), .ref 1000, .int (ei_ (x2)), .int (ei_ (x1)), .ref 47, .int (ei_ (x4))], mm5)) rfl ?_
  refine pw_cv (congrArg (fun z_ : Int32 => ((929, [some (.ref 1000), some (.ref 0), some (.ref 47), some (.int (ei_ (i)))], [.int z_, .ref 1000, .int (ei_ (x2)), .int (ei_ (x1)), .ref 47, .int (ei_ (x4))], mm5) : am_S)) (ei_add rfl rfl)) ?_
  refine pw_ildE (x := x3) rfl rfl (by omega) hx3 ?_
  refine pw_call (As := [.int (ei_ (x1)), .int (ei_ (x2)), .int (ei_ (x3))]) (st := [.int (ei_ (x4))]) (k := 47) rfl rfl rfl rfl rfl (Nat.le_of_ble_eq_true rfl) ?_
  refine pw_mono hh7 (fun r_ mm8 hh_ => ?_)
  obtain ⟨e9, hR10⟩ := hh_
  subst e9
  refine pw_cmpT rfl rr6 rr6 (show x4 = x4 by omega) ?_
  exact kk mm8 hR10

set_option maxHeartbeats 4000000 in
set_option maxRecDepth 20000 in
theorem lc_lend {q : am_X} {m : am_M} {i : Int} {Q : Option Value → am_M → Prop} (hq : 0 ≤ ql_ q ∧ ql_ q ≤ 3072) (hi : 0 ≤ i ∧ i ≤ ql_ q - 6) (hR : rR_ m) (kk : ∀ m2, rR_ m2 → pw_V q 200 (some .boolean) tL_law Q (1473, [some (.ref 1000), some (.ref 0), some (.ref 47), some (.int (ei_ i))], [], m2)) : pw_V q 200 (some .boolean) tL_law Q (938, [some (.ref 1000), some (.ref 0), some (.ref 47), some (.int (ei_ i))], [], m) := by
  have hqn : ql_ q = (q.1 : Int) := rfl
  refine pw_steps 5 (s' := (943, [some (.ref 1000), some (.ref 0), some (.ref 47), some (.int (ei_ (i)))], [.int ((ei_ (i)) + (ei_ (1))), .ref 1000, .ref 0], m)) rfl ?_
  refine pw_cv (congrArg (fun z_ : Int32 => ((943, [some (.ref 1000), some (.ref 0), some (.ref 47), some (.int (ei_ (i)))], [.int z_, .ref 1000, .ref 0], m) : am_S)) (ei_add rfl rfl)) ?_
  refine pw_ild rfl rfl (by omega) (fun x1 (hx1 : x1 = sc_ q (i + 1)) rx1 sx1 => ?_)
  refine pw_steps 4 (s' := (948, [some (.ref 1000), some (.ref 0), some (.ref 47), some (.int (ei_ (i)))], [.int ((ei_ (i)) + (ei_ (2))), .ref 1000, .int (ei_ (x1)), .ref 0], m)) rfl ?_
  refine pw_cv (congrArg (fun z_ : Int32 => ((948, [some (.ref 1000), some (.ref 0), some (.ref 47), some (.int (ei_ (i)))], [.int z_, .ref 1000, .int (ei_ (x1)), .ref 0], m) : am_S)) (ei_add rfl rfl)) ?_
  refine pw_ild rfl rfl (by omega) (fun x2 (hx2 : x2 = sc_ q (i + 2)) rx2 sx2 => ?_)
  refine pw_call (As := [.int (ei_ (x1)), .int (ei_ (x2))]) (st := []) (k := 0) rfl rfl rfl rfl rfl (Nat.le_of_ble_eq_true rfl) ?_
  refine pw_two (op_lend (d := 140) ⟨rx1, sx1⟩ ⟨rx2, sx2⟩ hR) (fun x3 mm4 rr5 hh6 => ?_)
  refine pw_steps 5 (s' := (957, [some (.ref 1000), some (.ref 0), some (.ref 47), some (.int (ei_ (i)))], [.int ((ei_ (i)) + (ei_ (1))), .ref 1000, .ref 47, .int (ei_ (x3))], mm4)) rfl ?_
  refine pw_cv (congrArg (fun z_ : Int32 => ((957, [some (.ref 1000), some (.ref 0), some (.ref 47), some (.int (ei_ (i)))], [.int z_, .ref 1000, .ref 47, .int (ei_ (x3))], mm4) : am_S)) (ei_add rfl rfl)) ?_
  refine pw_ildE (x := x1) rfl rfl (by omega) hx1 ?_
  refine pw_steps 4 (s' := (962, [some (.ref 1000), some (.ref 0), some (.ref 47), some (.int (ei_ (i)))], [.int ((ei_ (i)) + (ei_ (2))), .ref 1000, .int (ei_ (x1)), .ref 47, .int (ei_ (x3))], mm4)) rfl ?_
  refine pw_cv (congrArg (fun z_ : Int32 => ((962, [some (.ref 1000), some (.ref 0), some (.ref 47), some (.int (ei_ (i)))], [.int z_, .ref 1000, .int (ei_ (x1)), .ref 47, .int (ei_ (x3))], mm4) : am_S)) (ei_add rfl rfl)) ?_
  refine pw_ildE (x := x2) rfl rfl (by omega) hx2 ?_
  refine pw_call (As := [.int (ei_ (x1)), .int (ei_ (x2))]) (st := [.int (ei_ (x3))]) (k := 47) rfl rfl rfl rfl rfl (Nat.le_of_ble_eq_true rfl) ?_
  refine pw_mono hh6 (fun r_ mm7 hh_ => ?_)
  obtain ⟨e8, hR9⟩ := hh_
  subst e8
  refine pw_cmpT rfl rr5 rr5 (show x3 = x3 by omega) ?_
  exact kk mm7 hR9

set_option maxHeartbeats 4000000 in
set_option maxRecDepth 20000 in
theorem lc_pass {q : am_X} {m : am_M} {i : Int} {Q : Option Value → am_M → Prop} (hq : 0 ≤ ql_ q ∧ ql_ q ≤ 3072) (hi : 0 ≤ i ∧ i ≤ ql_ q - 6) (hR : rR_ m) (kk : ∀ m2, rR_ m2 → pw_V q 200 (some .boolean) tL_law Q (1473, [some (.ref 1000), some (.ref 0), some (.ref 47), some (.int (ei_ i))], [], m2)) : pw_V q 200 (some .boolean) tL_law Q (971, [some (.ref 1000), some (.ref 0), some (.ref 47), some (.int (ei_ i))], [], m) := by
  have hqn : ql_ q = (q.1 : Int) := rfl
  refine pw_steps 5 (s' := (976, [some (.ref 1000), some (.ref 0), some (.ref 47), some (.int (ei_ (i)))], [.int ((ei_ (i)) + (ei_ (1))), .ref 1000, .ref 0], m)) rfl ?_
  refine pw_cv (congrArg (fun z_ : Int32 => ((976, [some (.ref 1000), some (.ref 0), some (.ref 47), some (.int (ei_ (i)))], [.int z_, .ref 1000, .ref 0], m) : am_S)) (ei_add rfl rfl)) ?_
  refine pw_ild rfl rfl (by omega) (fun x1 (hx1 : x1 = sc_ q (i + 1)) rx1 sx1 => ?_)
  refine pw_call (As := [.int (ei_ (x1))]) (st := []) (k := 0) rfl rfl rfl rfl rfl (Nat.le_of_ble_eq_true rfl) ?_
  refine pw_two (op_pass (d := 140) ⟨rx1, sx1⟩ hR) (fun x2 mm3 rr4 hh5 => ?_)
  refine pw_steps 5 (s' := (985, [some (.ref 1000), some (.ref 0), some (.ref 47), some (.int (ei_ (i)))], [.int ((ei_ (i)) + (ei_ (1))), .ref 1000, .ref 47, .int (ei_ (x2))], mm3)) rfl ?_
  refine pw_cv (congrArg (fun z_ : Int32 => ((985, [some (.ref 1000), some (.ref 0), some (.ref 47), some (.int (ei_ (i)))], [.int z_, .ref 1000, .ref 47, .int (ei_ (x2))], mm3) : am_S)) (ei_add rfl rfl)) ?_
  refine pw_ildE (x := x1) rfl rfl (by omega) hx1 ?_
  refine pw_call (As := [.int (ei_ (x1))]) (st := [.int (ei_ (x2))]) (k := 47) rfl rfl rfl rfl rfl (Nat.le_of_ble_eq_true rfl) ?_
  refine pw_mono hh5 (fun r_ mm6 hh_ => ?_)
  obtain ⟨e7, hR8⟩ := hh_
  subst e7
  refine pw_cmpT rfl rr4 rr4 (show x2 = x2 by omega) ?_
  exact kk mm6 hR8

set_option maxHeartbeats 4000000 in
set_option maxRecDepth 20000 in
theorem lc_thaw {q : am_X} {m : am_M} {i : Int} {Q : Option Value → am_M → Prop} (hq : 0 ≤ ql_ q ∧ ql_ q ≤ 3072) (hi : 0 ≤ i ∧ i ≤ ql_ q - 6) (hR : rR_ m) (kk : ∀ m2, rR_ m2 → pw_V q 200 (some .boolean) tL_law Q (1473, [some (.ref 1000), some (.ref 0), some (.ref 47), some (.int (ei_ i))], [], m2)) : pw_V q 200 (some .boolean) tL_law Q (994, [some (.ref 1000), some (.ref 0), some (.ref 47), some (.int (ei_ i))], [], m) := by
  have hqn : ql_ q = (q.1 : Int) := rfl
  refine pw_steps 1 (s' := (995, [some (.ref 1000), some (.ref 0), some (.ref 47), some (.int (ei_ (i)))], [.ref 0], m)) rfl ?_
  refine pw_call (As := []) (st := []) (k := 0) rfl rfl rfl rfl rfl (Nat.le_of_ble_eq_true rfl) ?_
  refine pw_two (op_thaw (d := 140)  hR) (fun x1 mm2 rr3 hh4 => ?_)
  refine pw_steps 1 (s' := (999, [some (.ref 1000), some (.ref 0), some (.ref 47), some (.int (ei_ (i)))], [.ref 47, .int (ei_ (x1))], mm2)) rfl ?_
  refine pw_call (As := []) (st := [.int (ei_ (x1))]) (k := 47) rfl rfl rfl rfl rfl (Nat.le_of_ble_eq_true rfl) ?_
  refine pw_mono hh4 (fun r_ mm5 hh_ => ?_)
  obtain ⟨e6, hR7⟩ := hh_
  subst e6
  refine pw_cmpT rfl rr3 rr3 (show x1 = x1 by omega) ?_
  exact kk mm5 hR7

set_option maxHeartbeats 4000000 in
set_option maxRecDepth 20000 in
theorem lc_led {q : am_X} {m : am_M} {i : Int} {Q : Option Value → am_M → Prop} (hq : 0 ≤ ql_ q ∧ ql_ q ≤ 3072) (hi : 0 ≤ i ∧ i ≤ ql_ q - 6) (hR : rR_ m) (kk : ∀ m2, rR_ m2 → pw_V q 200 (some .boolean) tL_law Q (1473, [some (.ref 1000), some (.ref 0), some (.ref 47), some (.int (ei_ i))], [], m2)) : pw_V q 200 (some .boolean) tL_law Q (1007, [some (.ref 1000), some (.ref 0), some (.ref 47), some (.int (ei_ i))], [], m) := by
  have hqn : ql_ q = (q.1 : Int) := rfl
  refine pw_steps 5 (s' := (1012, [some (.ref 1000), some (.ref 0), some (.ref 47), some (.int (ei_ (i)))], [.int ((ei_ (i)) + (ei_ (1))), .ref 1000, .ref 0], m)) rfl ?_
  refine pw_cv (congrArg (fun z_ : Int32 => ((1012, [some (.ref 1000), some (.ref 0), some (.ref 47), some (.int (ei_ (i)))], [.int z_, .ref 1000, .ref 0], m) : am_S)) (ei_add rfl rfl)) ?_
  refine pw_ild rfl rfl (by omega) (fun x1 (hx1 : x1 = sc_ q (i + 1)) rx1 sx1 => ?_)
  refine pw_call (As := [.int (ei_ (x1))]) (st := []) (k := 0) rfl rfl rfl rfl rfl (Nat.le_of_ble_eq_true rfl) ?_
  refine pw_two (op_led (d := 140) ⟨rx1, sx1⟩ hR) (fun x2 mm3 rr4 hh5 => ?_)
  refine pw_steps 5 (s' := (1021, [some (.ref 1000), some (.ref 0), some (.ref 47), some (.int (ei_ (i)))], [.int ((ei_ (i)) + (ei_ (1))), .ref 1000, .ref 47, .int (ei_ (x2))], mm3)) rfl ?_
  refine pw_cv (congrArg (fun z_ : Int32 => ((1021, [some (.ref 1000), some (.ref 0), some (.ref 47), some (.int (ei_ (i)))], [.int z_, .ref 1000, .ref 47, .int (ei_ (x2))], mm3) : am_S)) (ei_add rfl rfl)) ?_
  refine pw_ildE (x := x1) rfl rfl (by omega) hx1 ?_
  refine pw_call (As := [.int (ei_ (x1))]) (st := [.int (ei_ (x2))]) (k := 47) rfl rfl rfl rfl rfl (Nat.le_of_ble_eq_true rfl) ?_
  refine pw_mono hh5 (fun r_ mm6 hh_ => ?_)
  obtain ⟨e7, hR8⟩ := hh_
  subst e7
  refine pw_cmpT rfl rr4 rr4 (show x2 = x2 by omega) ?_
  exact kk mm6 hR8

set_option maxHeartbeats 4000000 in
set_option maxRecDepth 20000 in
theorem lc_image {q : am_X} {m : am_M} {i : Int} {Q : Option Value → am_M → Prop} (hq : 0 ≤ ql_ q ∧ ql_ q ≤ 3072) (hi : 0 ≤ i ∧ i ≤ ql_ q - 6) (hR : rR_ m) (kk : ∀ m2, rR_ m2 → pw_V q 200 (some .boolean) tL_law Q (1473, [some (.ref 1000), some (.ref 0), some (.ref 47), some (.int (ei_ i))], [], m2)) : pw_V q 200 (some .boolean) tL_law Q (1030, [some (.ref 1000), some (.ref 0), some (.ref 47), some (.int (ei_ i))], [], m) := by
  have hqn : ql_ q = (q.1 : Int) := rfl
  refine pw_steps 1 (s' := (1031, [some (.ref 1000), some (.ref 0), some (.ref 47), some (.int (ei_ (i)))], [.ref 0], m)) rfl ?_
  refine pw_call (As := []) (st := []) (k := 0) rfl rfl rfl rfl rfl (Nat.le_of_ble_eq_true rfl) ?_
  refine pw_two (op_image (d := 140)  hR) (fun x1 mm2 rr3 hh4 => ?_)
  refine pw_steps 1 (s' := (1035, [some (.ref 1000), some (.ref 0), some (.ref 47), some (.int (ei_ (i)))], [.ref 47, .int (ei_ (x1))], mm2)) rfl ?_
  refine pw_call (As := []) (st := [.int (ei_ (x1))]) (k := 47) rfl rfl rfl rfl rfl (Nat.le_of_ble_eq_true rfl) ?_
  refine pw_mono hh4 (fun r_ mm5 hh_ => ?_)
  obtain ⟨e6, hR7⟩ := hh_
  subst e6
  refine pw_cmpT rfl rr3 rr3 (show x1 = x1 by omega) ?_
  exact kk mm5 hR7

set_option maxHeartbeats 4000000 in
set_option maxRecDepth 20000 in
theorem lc_back {q : am_X} {m : am_M} {i : Int} {Q : Option Value → am_M → Prop} (hq : 0 ≤ ql_ q ∧ ql_ q ≤ 3072) (hi : 0 ≤ i ∧ i ≤ ql_ q - 6) (hR : rR_ m) (kk : ∀ m2, rR_ m2 → pw_V q 200 (some .boolean) tL_law Q (1473, [some (.ref 1000), some (.ref 0), some (.ref 47), some (.int (ei_ i))], [], m2)) : pw_V q 200 (some .boolean) tL_law Q (1043, [some (.ref 1000), some (.ref 0), some (.ref 47), some (.int (ei_ i))], [], m) := by
  have hqn : ql_ q = (q.1 : Int) := rfl
  refine pw_steps 1 (s' := (1044, [some (.ref 1000), some (.ref 0), some (.ref 47), some (.int (ei_ (i)))], [.ref 0], m)) rfl ?_
  refine pw_call (As := []) (st := []) (k := 0) rfl rfl rfl rfl rfl (Nat.le_of_ble_eq_true rfl) ?_
  refine pw_two (op_back (d := 140)  hR) (fun x1 mm2 rr3 hh4 => ?_)
  refine pw_steps 1 (s' := (1048, [some (.ref 1000), some (.ref 0), some (.ref 47), some (.int (ei_ (i)))], [.ref 47, .int (ei_ (x1))], mm2)) rfl ?_
  refine pw_call (As := []) (st := [.int (ei_ (x1))]) (k := 47) rfl rfl rfl rfl rfl (Nat.le_of_ble_eq_true rfl) ?_
  refine pw_mono hh4 (fun r_ mm5 hh_ => ?_)
  obtain ⟨e6, hR7⟩ := hh_
  subst e6
  refine pw_cmpT rfl rr3 rr3 (show x1 = x1 by omega) ?_
  exact kk mm5 hR7

set_option maxHeartbeats 4000000 in
set_option maxRecDepth 20000 in
theorem lc_undo {q : am_X} {m : am_M} {i : Int} {Q : Option Value → am_M → Prop} (hq : 0 ≤ ql_ q ∧ ql_ q ≤ 3072) (hi : 0 ≤ i ∧ i ≤ ql_ q - 6) (hR : rR_ m) (kk : ∀ m2, rR_ m2 → pw_V q 200 (some .boolean) tL_law Q (1473, [some (.ref 1000), some (.ref 0), some (.ref 47), some (.int (ei_ i))], [], m2)) : pw_V q 200 (some .boolean) tL_law Q (1056, [some (.ref 1000), some (.ref 0), some (.ref 47), some (.int (ei_ i))], [], m) := by
  have hqn : ql_ q = (q.1 : Int) := rfl
  refine pw_steps 1 (s' := (1057, [some (.ref 1000), some (.ref 0), some (.ref 47), some (.int (ei_ (i)))], [.ref 0], m)) rfl ?_
  refine pw_call (As := []) (st := []) (k := 0) rfl rfl rfl rfl rfl (Nat.le_of_ble_eq_true rfl) ?_
  refine pw_two (op_undo (d := 140)  hR) (fun x1 mm2 rr3 hh4 => ?_)
  refine pw_steps 1 (s' := (1061, [some (.ref 1000), some (.ref 0), some (.ref 47), some (.int (ei_ (i)))], [.ref 47, .int (ei_ (x1))], mm2)) rfl ?_
  refine pw_call (As := []) (st := [.int (ei_ (x1))]) (k := 47) rfl rfl rfl rfl rfl (Nat.le_of_ble_eq_true rfl) ?_
  refine pw_mono hh4 (fun r_ mm5 hh_ => ?_)
  obtain ⟨e6, hR7⟩ := hh_
  subst e6
  refine pw_cmpT rfl rr3 rr3 (show x1 = x1 by omega) ?_
  exact kk mm5 hR7

set_option maxHeartbeats 4000000 in
set_option maxRecDepth 20000 in
theorem lc_redo {q : am_X} {m : am_M} {i : Int} {Q : Option Value → am_M → Prop} (hq : 0 ≤ ql_ q ∧ ql_ q ≤ 3072) (hi : 0 ≤ i ∧ i ≤ ql_ q - 6) (hR : rR_ m) (kk : ∀ m2, rR_ m2 → pw_V q 200 (some .boolean) tL_law Q (1473, [some (.ref 1000), some (.ref 0), some (.ref 47), some (.int (ei_ i))], [], m2)) : pw_V q 200 (some .boolean) tL_law Q (1069, [some (.ref 1000), some (.ref 0), some (.ref 47), some (.int (ei_ i))], [], m) := by
  have hqn : ql_ q = (q.1 : Int) := rfl
  refine pw_steps 1 (s' := (1070, [some (.ref 1000), some (.ref 0), some (.ref 47), some (.int (ei_ (i)))], [.ref 0], m)) rfl ?_
  refine pw_call (As := []) (st := []) (k := 0) rfl rfl rfl rfl rfl (Nat.le_of_ble_eq_true rfl) ?_
  refine pw_two (op_redo (d := 140)  hR) (fun x1 mm2 rr3 hh4 => ?_)
  refine pw_steps 1 (s' := (1074, [some (.ref 1000), some (.ref 0), some (.ref 47), some (.int (ei_ (i)))], [.ref 47, .int (ei_ (x1))], mm2)) rfl ?_
  refine pw_call (As := []) (st := [.int (ei_ (x1))]) (k := 47) rfl rfl rfl rfl rfl (Nat.le_of_ble_eq_true rfl) ?_
  refine pw_mono hh4 (fun r_ mm5 hh_ => ?_)
  obtain ⟨e6, hR7⟩ := hh_
  subst e6
  refine pw_cmpT rfl rr3 rr3 (show x1 = x1 by omega) ?_
  exact kk mm5 hR7

set_option maxHeartbeats 4000000 in
set_option maxRecDepth 20000 in
theorem lc_body {q : am_X} {m : am_M} {i : Int} {Q : Option Value → am_M → Prop} (hq : 0 ≤ ql_ q ∧ ql_ q ≤ 3072) (hi : 0 ≤ i ∧ i ≤ ql_ q - 6) (hR : rR_ m) (kk : ∀ m2, rR_ m2 → pw_V q 200 (some .boolean) tL_law Q (1473, [some (.ref 1000), some (.ref 0), some (.ref 47), some (.int (ei_ i))], [], m2)) : pw_V q 200 (some .boolean) tL_law Q (1082, [some (.ref 1000), some (.ref 0), some (.ref 47), some (.int (ei_ i))], [], m) := by
  have hqn : ql_ q = (q.1 : Int) := rfl
  refine pw_steps 5 (s' := (1087, [some (.ref 1000), some (.ref 0), some (.ref 47), some (.int (ei_ (i)))], [.int ((ei_ (i)) + (ei_ (1))), .ref 1000, .ref 0], m)) rfl ?_
  refine pw_cv (congrArg (fun z_ : Int32 => ((1087, [some (.ref 1000), some (.ref 0), some (.ref 47), some (.int (ei_ (i)))], [.int z_, .ref 1000, .ref 0], m) : am_S)) (ei_add rfl rfl)) ?_
  refine pw_ild rfl rfl (by omega) (fun x1 (hx1 : x1 = sc_ q (i + 1)) rx1 sx1 => ?_)
  refine pw_call (As := [.int (ei_ (x1))]) (st := []) (k := 0) rfl rfl rfl rfl rfl (Nat.le_of_ble_eq_true rfl) ?_
  refine pw_two (op_body (d := 140) ⟨rx1, sx1⟩ hR) (fun x2 mm3 rr4 hh5 => ?_)
  refine pw_steps 5 (s' := (1096, [some (.ref 1000), some (.ref 0), some (.ref 47), some (.int (ei_ (i)))], [.int ((ei_ (i)) + (ei_ (1))), .ref 1000, .ref 47, .int (ei_ (x2))], mm3)) rfl ?_
  refine pw_cv (congrArg (fun z_ : Int32 => ((1096, [some (.ref 1000), some (.ref 0), some (.ref 47), some (.int (ei_ (i)))], [.int z_, .ref 1000, .ref 47, .int (ei_ (x2))], mm3) : am_S)) (ei_add rfl rfl)) ?_
  refine pw_ildE (x := x1) rfl rfl (by omega) hx1 ?_
  refine pw_call (As := [.int (ei_ (x1))]) (st := [.int (ei_ (x2))]) (k := 47) rfl rfl rfl rfl rfl (Nat.le_of_ble_eq_true rfl) ?_
  refine pw_mono hh5 (fun r_ mm6 hh_ => ?_)
  obtain ⟨e7, hR8⟩ := hh_
  subst e7
  refine pw_cmpT rfl rr4 rr4 (show x2 = x2 by omega) ?_
  exact kk mm6 hR8

set_option maxHeartbeats 4000000 in
set_option maxRecDepth 20000 in
theorem lc_act {q : am_X} {m : am_M} {i : Int} {Q : Option Value → am_M → Prop} (hq : 0 ≤ ql_ q ∧ ql_ q ≤ 3072) (hi : 0 ≤ i ∧ i ≤ ql_ q - 6) (hR : rR_ m) (kk : ∀ m2, rR_ m2 → pw_V q 200 (some .boolean) tL_law Q (1473, [some (.ref 1000), some (.ref 0), some (.ref 47), some (.int (ei_ i))], [], m2)) : pw_V q 200 (some .boolean) tL_law Q (1105, [some (.ref 1000), some (.ref 0), some (.ref 47), some (.int (ei_ i))], [], m) := by
  have hqn : ql_ q = (q.1 : Int) := rfl
  refine pw_steps 5 (s' := (1110, [some (.ref 1000), some (.ref 0), some (.ref 47), some (.int (ei_ (i)))], [.int ((ei_ (i)) + (ei_ (1))), .ref 1000, .ref 0], m)) rfl ?_
  refine pw_cv (congrArg (fun z_ : Int32 => ((1110, [some (.ref 1000), some (.ref 0), some (.ref 47), some (.int (ei_ (i)))], [.int z_, .ref 1000, .ref 0], m) : am_S)) (ei_add rfl rfl)) ?_
  refine pw_ild rfl rfl (by omega) (fun x1 (hx1 : x1 = sc_ q (i + 1)) rx1 sx1 => ?_)
  refine pw_steps 4 (s' := (1115, [some (.ref 1000), some (.ref 0), some (.ref 47), some (.int (ei_ (i)))], [.int ((ei_ (i)) + (ei_ (2))), .ref 1000, .int (ei_ (x1)), .ref 0], m)) rfl ?_
  refine pw_cv (congrArg (fun z_ : Int32 => ((1115, [some (.ref 1000), some (.ref 0), some (.ref 47), some (.int (ei_ (i)))], [.int z_, .ref 1000, .int (ei_ (x1)), .ref 0], m) : am_S)) (ei_add rfl rfl)) ?_
  refine pw_ild rfl rfl (by omega) (fun x2 (hx2 : x2 = sc_ q (i + 2)) rx2 sx2 => ?_)
  refine pw_steps 4 (s' := (1120, [some (.ref 1000), some (.ref 0), some (.ref 47), some (.int (ei_ (i)))], [.int ((ei_ (i)) + (ei_ (3))), .ref 1000, .int (ei_ (x2)), .int (ei_ (x1)), .ref 0], m)) rfl ?_
  refine pw_cv (congrArg (fun z_ : Int32 => ((1120, [some (.ref 1000), some (.ref 0), some (.ref 47), some (.int (ei_ (i)))], [.int z_, .ref 1000, .int (ei_ (x2)), .int (ei_ (x1)), .ref 0], m) : am_S)) (ei_add rfl rfl)) ?_
  refine pw_ild rfl rfl (by omega) (fun x3 (hx3 : x3 = sc_ q (i + 3)) rx3 sx3 => ?_)
  refine pw_call (As := [.int (ei_ (x1)), .int (ei_ (x2)), .int (ei_ (x3))]) (st := []) (k := 0) rfl rfl rfl rfl rfl (Nat.le_of_ble_eq_true rfl) ?_
  refine pw_two (op_act (d := 140) ⟨rx1, sx1⟩ ⟨rx2, sx2⟩ ⟨rx3, sx3⟩ hR) (fun x4 mm5 rr6 hh7 => ?_)
  refine pw_steps 5 (s' := (1129, [some (.ref 1000), some (.ref 0), some (.ref 47), some (.int (ei_ (i)))], [.int ((ei_ (i)) + (ei_ (1))), .ref 1000, .ref 47, .int (ei_ (x4))], mm5)) rfl ?_
  refine pw_cv (congrArg (fun z_ : Int32 => ((1129, [some (.ref 1000), some (.ref 0), some (.ref 47), some (.int (ei_ (i)))], [.int z_, .ref 1000, .ref 47, .int (ei_ (x4))], mm5) : am_S)) (ei_add rfl rfl)) ?_
  refine pw_ildE (x := x1) rfl rfl (by omega) hx1 ?_
  refine pw_steps 4 (s' := (1134, [some (.ref 1000), some (.ref 0), some (.ref 47), some (.int (ei_ (i)))], [.int ((ei_ (i)) + (ei_ (2))), .ref 1000, .int (ei_ (x1)), .ref 47, .int (ei_ (x4))], mm5)) rfl ?_
  refine pw_cv (congrArg (fun z_ : Int32 => ((1134, [some (.ref 1000), some (.ref 0), some (.ref 47), some (.int (ei_ (i)))], [.int z_, .ref 1000, .int (ei_ (x1)), .ref 47, .int (ei_ (x4))], mm5) : am_S)) (ei_add rfl rfl)) ?_
  refine pw_ildE (x := x2) rfl rfl (by omega) hx2 ?_
  refine pw_steps 4 (s' := (1139, [some (.ref 1000), some (.ref 0), some (.ref 47), some (.int (ei_ (i)))], [.int ((ei_ (i)) + (ei_ (3))), .ref 1000, .int (ei_ (x2)), .int (ei_ (x1)), .ref 47, .int (ei_ (x4))], mm5)) rfl ?_
  refine pw_cv (congrArg (fun z_ : Int32 => ((1139, [some (.ref 1000), some (.ref 0), some (.ref 47), some (.int (ei_ (i)))], [.int z_, .ref 1000, .int (ei_ (x2)), .int (ei_ (x1)), .ref 47, .int (ei_ (x4))], mm5) : am_S)) (ei_add rfl rfl)) ?_
  refine pw_ildE (x := x3) rfl rfl (by omega) hx3 ?_
  refine pw_call (As := [.int (ei_ (x1)), .int (ei_ (x2)), .int (ei_ (x3))]) (st := [.int (ei_ (x4))]) (k := 47) rfl rfl rfl rfl rfl (Nat.le_of_ble_eq_true rfl) ?_
  refine pw_mono hh7 (fun r_ mm8 hh_ => ?_)
  obtain ⟨e9, hR10⟩ := hh_
  subst e9
  refine pw_cmpT rfl rr6 rr6 (show x4 = x4 by omega) ?_
  exact kk mm8 hR10

set_option maxHeartbeats 4000000 in
set_option maxRecDepth 20000 in
theorem lc_trace {q : am_X} {m : am_M} {i : Int} {Q : Option Value → am_M → Prop} (hq : 0 ≤ ql_ q ∧ ql_ q ≤ 3072) (hi : 0 ≤ i ∧ i ≤ ql_ q - 6) (hR : rR_ m) (kk : ∀ m2, rR_ m2 → pw_V q 200 (some .boolean) tL_law Q (1473, [some (.ref 1000), some (.ref 0), some (.ref 47), some (.int (ei_ i))], [], m2)) : pw_V q 200 (some .boolean) tL_law Q (1148, [some (.ref 1000), some (.ref 0), some (.ref 47), some (.int (ei_ i))], [], m) := by
  have hqn : ql_ q = (q.1 : Int) := rfl
  refine pw_steps 5 (s' := (1153, [some (.ref 1000), some (.ref 0), some (.ref 47), some (.int (ei_ (i)))], [.int ((ei_ (i)) + (ei_ (1))), .ref 1000, .ref 0], m)) rfl ?_
  refine pw_cv (congrArg (fun z_ : Int32 => ((1153, [some (.ref 1000), some (.ref 0), some (.ref 47), some (.int (ei_ (i)))], [.int z_, .ref 1000, .ref 0], m) : am_S)) (ei_add rfl rfl)) ?_
  refine pw_ild rfl rfl (by omega) (fun x1 (hx1 : x1 = sc_ q (i + 1)) rx1 sx1 => ?_)
  refine pw_call (As := [.int (ei_ (x1))]) (st := []) (k := 0) rfl rfl rfl rfl rfl (Nat.le_of_ble_eq_true rfl) ?_
  refine pw_two (op_trace (d := 140) ⟨rx1, sx1⟩ hR) (fun x2 mm3 rr4 hh5 => ?_)
  refine pw_steps 5 (s' := (1162, [some (.ref 1000), some (.ref 0), some (.ref 47), some (.int (ei_ (i)))], [.int ((ei_ (i)) + (ei_ (1))), .ref 1000, .ref 47, .int (ei_ (x2))], mm3)) rfl ?_
  refine pw_cv (congrArg (fun z_ : Int32 => ((1162, [some (.ref 1000), some (.ref 0), some (.ref 47), some (.int (ei_ (i)))], [.int z_, .ref 1000, .ref 47, .int (ei_ (x2))], mm3) : am_S)) (ei_add rfl rfl)) ?_
  refine pw_ildE (x := x1) rfl rfl (by omega) hx1 ?_
  refine pw_call (As := [.int (ei_ (x1))]) (st := [.int (ei_ (x2))]) (k := 47) rfl rfl rfl rfl rfl (Nat.le_of_ble_eq_true rfl) ?_
  refine pw_mono hh5 (fun r_ mm6 hh_ => ?_)
  obtain ⟨e7, hR8⟩ := hh_
  subst e7
  refine pw_cmpT rfl rr4 rr4 (show x2 = x2 by omega) ?_
  exact kk mm6 hR8

set_option maxHeartbeats 4000000 in
set_option maxRecDepth 20000 in
theorem lc_keep {q : am_X} {m : am_M} {i : Int} {Q : Option Value → am_M → Prop} (hq : 0 ≤ ql_ q ∧ ql_ q ≤ 3072) (hi : 0 ≤ i ∧ i ≤ ql_ q - 6) (hR : rR_ m) (kk : ∀ m2, rR_ m2 → pw_V q 200 (some .boolean) tL_law Q (1473, [some (.ref 1000), some (.ref 0), some (.ref 47), some (.int (ei_ i))], [], m2)) : pw_V q 200 (some .boolean) tL_law Q (1171, [some (.ref 1000), some (.ref 0), some (.ref 47), some (.int (ei_ i))], [], m) := by
  have hqn : ql_ q = (q.1 : Int) := rfl
  refine pw_steps 5 (s' := (1176, [some (.ref 1000), some (.ref 0), some (.ref 47), some (.int (ei_ (i)))], [.int ((ei_ (i)) + (ei_ (1))), .ref 1000, .ref 0], m)) rfl ?_
  refine pw_cv (congrArg (fun z_ : Int32 => ((1176, [some (.ref 1000), some (.ref 0), some (.ref 47), some (.int (ei_ (i)))], [.int z_, .ref 1000, .ref 0], m) : am_S)) (ei_add rfl rfl)) ?_
  refine pw_ild rfl rfl (by omega) (fun x1 (hx1 : x1 = sc_ q (i + 1)) rx1 sx1 => ?_)
  refine pw_steps 4 (s' := (1181, [some (.ref 1000), some (.ref 0), some (.ref 47), some (.int (ei_ (i)))], [.int ((ei_ (i)) + (ei_ (2))), .ref 1000, .int (ei_ (x1)), .ref 0], m)) rfl ?_
  refine pw_cv (congrArg (fun z_ : Int32 => ((1181, [some (.ref 1000), some (.ref 0), some (.ref 47), some (.int (ei_ (i)))], [.int z_, .ref 1000, .int (ei_ (x1)), .ref 0], m) : am_S)) (ei_add rfl rfl)) ?_
  refine pw_ild rfl rfl (by omega) (fun x2 (hx2 : x2 = sc_ q (i + 2)) rx2 sx2 => ?_)
  refine pw_call (As := [.int (ei_ (x1)), .int (ei_ (x2))]) (st := []) (k := 0) rfl rfl rfl rfl rfl (Nat.le_of_ble_eq_true rfl) ?_
  refine pw_two (op_keep (d := 140) ⟨rx1, sx1⟩ ⟨rx2, sx2⟩ hR) (fun x3 mm4 rr5 hh6 => ?_)
  refine pw_steps 5 (s' := (1190, [some (.ref 1000), some (.ref 0), some (.ref 47), some (.int (ei_ (i)))], [.int ((ei_ (i)) + (ei_ (1))), .ref 1000, .ref 47, .int (ei_ (x3))], mm4)) rfl ?_
  refine pw_cv (congrArg (fun z_ : Int32 => ((1190, [some (.ref 1000), some (.ref 0), some (.ref 47), some (.int (ei_ (i)))], [.int z_, .ref 1000, .ref 47, .int (ei_ (x3))], mm4) : am_S)) (ei_add rfl rfl)) ?_
  refine pw_ildE (x := x1) rfl rfl (by omega) hx1 ?_
  refine pw_steps 4 (s' := (1195, [some (.ref 1000), some (.ref 0), some (.ref 47), some (.int (ei_ (i)))], [.int ((ei_ (i)) + (ei_ (2))), .ref 1000, .int (ei_ (x1)), .ref 47, .int (ei_ (x3))], mm4)) rfl ?_
  refine pw_cv (congrArg (fun z_ : Int32 => ((1195, [some (.ref 1000), some (.ref 0), some (.ref 47), some (.int (ei_ (i)))], [.int z_, .ref 1000, .int (ei_ (x1)), .ref 47, .int (ei_ (x3))], mm4) : am_S)) (ei_add rfl rfl)) ?_
  refine pw_ildE (x := x2) rfl rfl (by omega) hx2 ?_
  refine pw_call (As := [.int (ei_ (x1)), .int (ei_ (x2))]) (st := [.int (ei_ (x3))]) (k := 47) rfl rfl rfl rfl rfl (Nat.le_of_ble_eq_true rfl) ?_
  refine pw_mono hh6 (fun r_ mm7 hh_ => ?_)
  obtain ⟨e8, hR9⟩ := hh_
  subst e8
  refine pw_cmpT rfl rr5 rr5 (show x3 = x3 by omega) ?_
  exact kk mm7 hR9

set_option maxHeartbeats 4000000 in
set_option maxRecDepth 20000 in
theorem lc_row {q : am_X} {m : am_M} {i : Int} {Q : Option Value → am_M → Prop} (hq : 0 ≤ ql_ q ∧ ql_ q ≤ 3072) (hi : 0 ≤ i ∧ i ≤ ql_ q - 6) (hR : rR_ m) (kk : ∀ m2, rR_ m2 → pw_V q 200 (some .boolean) tL_law Q (1473, [some (.ref 1000), some (.ref 0), some (.ref 47), some (.int (ei_ i))], [], m2)) : pw_V q 200 (some .boolean) tL_law Q (1204, [some (.ref 1000), some (.ref 0), some (.ref 47), some (.int (ei_ i))], [], m) := by
  have hqn : ql_ q = (q.1 : Int) := rfl
  refine pw_steps 5 (s' := (1209, [some (.ref 1000), some (.ref 0), some (.ref 47), some (.int (ei_ (i)))], [.int ((ei_ (i)) + (ei_ (1))), .ref 1000, .ref 0], m)) rfl ?_
  refine pw_cv (congrArg (fun z_ : Int32 => ((1209, [some (.ref 1000), some (.ref 0), some (.ref 47), some (.int (ei_ (i)))], [.int z_, .ref 1000, .ref 0], m) : am_S)) (ei_add rfl rfl)) ?_
  refine pw_ild rfl rfl (by omega) (fun x1 (hx1 : x1 = sc_ q (i + 1)) rx1 sx1 => ?_)
  refine pw_steps 4 (s' := (1214, [some (.ref 1000), some (.ref 0), some (.ref 47), some (.int (ei_ (i)))], [.int ((ei_ (i)) + (ei_ (2))), .ref 1000, .int (ei_ (x1)), .ref 0], m)) rfl ?_
  refine pw_cv (congrArg (fun z_ : Int32 => ((1214, [some (.ref 1000), some (.ref 0), some (.ref 47), some (.int (ei_ (i)))], [.int z_, .ref 1000, .int (ei_ (x1)), .ref 0], m) : am_S)) (ei_add rfl rfl)) ?_
  refine pw_ild rfl rfl (by omega) (fun x2 (hx2 : x2 = sc_ q (i + 2)) rx2 sx2 => ?_)
  refine pw_steps 4 (s' := (1219, [some (.ref 1000), some (.ref 0), some (.ref 47), some (.int (ei_ (i)))], [.int ((ei_ (i)) + (ei_ (3))), .ref 1000, .int (ei_ (x2)), .int (ei_ (x1)), .ref 0], m)) rfl ?_
  refine pw_cv (congrArg (fun z_ : Int32 => ((1219, [some (.ref 1000), some (.ref 0), some (.ref 47), some (.int (ei_ (i)))], [.int z_, .ref 1000, .int (ei_ (x2)), .int (ei_ (x1)), .ref 0], m) : am_S)) (ei_add rfl rfl)) ?_
  refine pw_ild rfl rfl (by omega) (fun x3 (hx3 : x3 = sc_ q (i + 3)) rx3 sx3 => ?_)
  refine pw_call (As := [.int (ei_ (x1)), .int (ei_ (x2)), .int (ei_ (x3))]) (st := []) (k := 0) rfl rfl rfl rfl rfl (Nat.le_of_ble_eq_true rfl) ?_
  refine pw_two (op_row (d := 140) ⟨rx1, sx1⟩ ⟨rx2, sx2⟩ ⟨rx3, sx3⟩ hR) (fun x4 mm5 rr6 hh7 => ?_)
  refine pw_steps 5 (s' := (1228, [some (.ref 1000), some (.ref 0), some (.ref 47), some (.int (ei_ (i)))], [.int ((ei_ (i)) + (ei_ (1))), .ref 1000, .ref 47, .int (ei_ (x4))], mm5)) rfl ?_
  refine pw_cv (congrArg (fun z_ : Int32 => ((1228, [some (.ref 1000), some (.ref 0), some (.ref 47), some (.int (ei_ (i)))], [.int z_, .ref 1000, .ref 47, .int (ei_ (x4))], mm5) : am_S)) (ei_add rfl rfl)) ?_
  refine pw_ildE (x := x1) rfl rfl (by omega) hx1 ?_
  refine pw_steps 4 (s' := (1233, [some (.ref 1000), some (.ref 0), some (.ref 47), some (.int (ei_ (i)))], [.int ((ei_ (i)) + (ei_ (2))), .ref 1000, .int (ei_ (x1)), .ref 47, .int (ei_ (x4))], mm5)) rfl ?_
  refine pw_cv (congrArg (fun z_ : Int32 => ((1233, [some (.ref 1000), some (.ref 0), some (.ref 47), some (.int (ei_ (i)))], [.int z_, .ref 1000, .int (ei_ (x1)), .ref 47, .int (ei_ (x4))], mm5) : am_S)) (ei_add rfl rfl)) ?_
  refine pw_ildE (x := x2) rfl rfl (by omega) hx2 ?_
  refine pw_steps 4 (s' := (1238, [some (.ref 1000), some (.ref 0), some (.ref 47), some (.int (ei_ (i)))], [.int ((ei_ (i)) + (ei_ (3))), .ref 1000, .int (ei_ (x2)), .int (ei_ (x1)), .ref 47, .int (ei_ (x4))], mm5)) rfl ?_
  refine pw_cv (congrArg (fun z_ : Int32 => ((1238, [some (.ref 1000), some (.ref 0), some (.ref 47), some (.int (ei_ (i)))], [.int z_, .ref 1000, .int (ei_ (x2)), .int (ei_ (x1)), .ref 47, .int (ei_ (x4))], mm5) : am_S)) (ei_add rfl rfl)) ?_
  refine pw_ildE (x := x3) rfl rfl (by omega) hx3 ?_
  refine pw_call (As := [.int (ei_ (x1)), .int (ei_ (x2)), .int (ei_ (x3))]) (st := [.int (ei_ (x4))]) (k := 47) rfl rfl rfl rfl rfl (Nat.le_of_ble_eq_true rfl) ?_
  refine pw_mono hh7 (fun r_ mm8 hh_ => ?_)
  obtain ⟨e9, hR10⟩ := hh_
  subst e9
  refine pw_cmpT rfl rr6 rr6 (show x4 = x4 by omega) ?_
  exact kk mm8 hR10

set_option maxHeartbeats 4000000 in
set_option maxRecDepth 20000 in
theorem lc_put {q : am_X} {m : am_M} {i : Int} {Q : Option Value → am_M → Prop} (hq : 0 ≤ ql_ q ∧ ql_ q ≤ 3072) (hi : 0 ≤ i ∧ i ≤ ql_ q - 6) (hR : rR_ m) (kk : ∀ m2, rR_ m2 → pw_V q 200 (some .boolean) tL_law Q (1473, [some (.ref 1000), some (.ref 0), some (.ref 47), some (.int (ei_ i))], [], m2)) : pw_V q 200 (some .boolean) tL_law Q (1247, [some (.ref 1000), some (.ref 0), some (.ref 47), some (.int (ei_ i))], [], m) := by
  have hqn : ql_ q = (q.1 : Int) := rfl
  refine pw_steps 5 (s' := (1252, [some (.ref 1000), some (.ref 0), some (.ref 47), some (.int (ei_ (i)))], [.int ((ei_ (i)) + (ei_ (1))), .ref 1000, .ref 0], m)) rfl ?_
  refine pw_cv (congrArg (fun z_ : Int32 => ((1252, [some (.ref 1000), some (.ref 0), some (.ref 47), some (.int (ei_ (i)))], [.int z_, .ref 1000, .ref 0], m) : am_S)) (ei_add rfl rfl)) ?_
  refine pw_ild rfl rfl (by omega) (fun x1 (hx1 : x1 = sc_ q (i + 1)) rx1 sx1 => ?_)
  refine pw_steps 4 (s' := (1257, [some (.ref 1000), some (.ref 0), some (.ref 47), some (.int (ei_ (i)))], [.int ((ei_ (i)) + (ei_ (2))), .ref 1000, .int (ei_ (x1)), .ref 0], m)) rfl ?_
  refine pw_cv (congrArg (fun z_ : Int32 => ((1257, [some (.ref 1000), some (.ref 0), some (.ref 47), some (.int (ei_ (i)))], [.int z_, .ref 1000, .int (ei_ (x1)), .ref 0], m) : am_S)) (ei_add rfl rfl)) ?_
  refine pw_ild rfl rfl (by omega) (fun x2 (hx2 : x2 = sc_ q (i + 2)) rx2 sx2 => ?_)
  refine pw_steps 4 (s' := (1262, [some (.ref 1000), some (.ref 0), some (.ref 47), some (.int (ei_ (i)))], [.int ((ei_ (i)) + (ei_ (3))), .ref 1000, .int (ei_ (x2)), .int (ei_ (x1)), .ref 0], m)) rfl ?_
  refine pw_cv (congrArg (fun z_ : Int32 => ((1262, [some (.ref 1000), some (.ref 0), some (.ref 47), some (.int (ei_ (i)))], [.int z_, .ref 1000, .int (ei_ (x2)), .int (ei_ (x1)), .ref 0], m) : am_S)) (ei_add rfl rfl)) ?_
  refine pw_ild rfl rfl (by omega) (fun x3 (hx3 : x3 = sc_ q (i + 3)) rx3 sx3 => ?_)
  refine pw_steps 7 (s' := (1271, [some (.ref 1000), some (.ref 0), some (.ref 47), some (.int (ei_ (i)))], [.int ((ei_ (i)) + (ei_ (4))), .ref 1000, .long (((ei_ (x3)).toInt64) <<< ((ei_ (32)).toInt64 &&& 63)), .int (ei_ (x2)), .int (ei_ (x1)), .ref 0], m)) rfl ?_
  refine pw_cv (congrArg (fun z_ : Int32 => ((1271, [some (.ref 1000), some (.ref 0), some (.ref 47), some (.int (ei_ (i)))], [.int z_, .ref 1000, .long (((ei_ (x3)).toInt64) <<< ((ei_ (32)).toInt64 &&& 63)), .int (ei_ (x2)), .int (ei_ (x1)), .ref 0], m) : am_S)) (ei_add rfl rfl)) ?_
  refine pw_cv (congrArg (fun z_ : Int64 => ((1271, [some (.ref 1000), some (.ref 0), some (.ref 47), some (.int (ei_ (i)))], [.int (ei_ ((i + 4))), .ref 1000, .long z_, .int (ei_ (x2)), .int (ei_ (x1)), .ref 0], m) : am_S)) (el_lsh (el_i2l ⟨rx3, sx3⟩ rfl) rfl)) ?_
  refine pw_ild rfl rfl (by omega) (fun x4 (hx4 : x4 = sc_ q (i + 4)) rx4 sx4 => ?_)
  refine pw_steps 4 (s' := (1278, [some (.ref 1000), some (.ref 0), some (.ref 47), some (.int (ei_ (i)))], [.long ((el_ ((lsh_ x3 32))) ||| (((ei_ (x4)).toInt64) &&& (el_ (4294967295)))), .int (ei_ (x2)), .int (ei_ (x1)), .ref 0], m)) rfl ?_
  refine pw_cv (congrArg (fun z_ : Int64 => ((1278, [some (.ref 1000), some (.ref 0), some (.ref 47), some (.int (ei_ (i)))], [.long z_, .int (ei_ (x2)), .int (ei_ (x1)), .ref 0], m) : am_S)) (el_lor rfl (el_lan (el_i2l ⟨rx4, sx4⟩ rfl) rfl))) ?_
  refine pw_call (As := [.int (ei_ (x1)), .int (ei_ (x2)), .long (el_ ((lor_ (lsh_ x3 32) (lan_ x4 4294967295))))]) (st := []) (k := 0) rfl rfl rfl rfl rfl (Nat.le_of_ble_eq_true rfl) ?_
  refine pw_two (op_put (d := 140) ⟨rx1, sx1⟩ ⟨rx2, sx2⟩ (lor_r _ _) hR) (fun x5 mm6 rr7 hh8 => ?_)
  refine pw_steps 5 (s' := (1286, [some (.ref 1000), some (.ref 0), some (.ref 47), some (.int (ei_ (i)))], [.int ((ei_ (i)) + (ei_ (1))), .ref 1000, .ref 47, .int (ei_ (x5))], mm6)) rfl ?_
  refine pw_cv (congrArg (fun z_ : Int32 => ((1286, [some (.ref 1000), some (.ref 0), some (.ref 47), some (.int (ei_ (i)))], [.int z_, .ref 1000, .ref 47, .int (ei_ (x5))], mm6) : am_S)) (ei_add rfl rfl)) ?_
  refine pw_ildE (x := x1) rfl rfl (by omega) hx1 ?_
  refine pw_steps 4 (s' := (1291, [some (.ref 1000), some (.ref 0), some (.ref 47), some (.int (ei_ (i)))], [.int ((ei_ (i)) + (ei_ (2))), .ref 1000, .int (ei_ (x1)), .ref 47, .int (ei_ (x5))], mm6)) rfl ?_
  refine pw_cv (congrArg (fun z_ : Int32 => ((1291, [some (.ref 1000), some (.ref 0), some (.ref 47), some (.int (ei_ (i)))], [.int z_, .ref 1000, .int (ei_ (x1)), .ref 47, .int (ei_ (x5))], mm6) : am_S)) (ei_add rfl rfl)) ?_
  refine pw_ildE (x := x2) rfl rfl (by omega) hx2 ?_
  refine pw_steps 4 (s' := (1296, [some (.ref 1000), some (.ref 0), some (.ref 47), some (.int (ei_ (i)))], [.int ((ei_ (i)) + (ei_ (3))), .ref 1000, .int (ei_ (x2)), .int (ei_ (x1)), .ref 47, .int (ei_ (x5))], mm6)) rfl ?_
  refine pw_cv (congrArg (fun z_ : Int32 => ((1296, [some (.ref 1000), some (.ref 0), some (.ref 47), some (.int (ei_ (i)))], [.int z_, .ref 1000, .int (ei_ (x2)), .int (ei_ (x1)), .ref 47, .int (ei_ (x5))], mm6) : am_S)) (ei_add rfl rfl)) ?_
  refine pw_ildE (x := x3) rfl rfl (by omega) hx3 ?_
  refine pw_steps 7 (s' := (1305, [some (.ref 1000), some (.ref 0), some (.ref 47), some (.int (ei_ (i)))], [.int ((ei_ (i)) + (ei_ (4))), .ref 1000, .long (((ei_ (x3)).toInt64) <<< ((ei_ (32)).toInt64 &&& 63)), .int (ei_ (x2)), .int (ei_ (x1)), .ref 47, .int (ei_ (x5))], mm6)) rfl ?_
  refine pw_cv (congrArg (fun z_ : Int32 => ((1305, [some (.ref 1000), some (.ref 0), some (.ref 47), some (.int (ei_ (i)))], [.int z_, .ref 1000, .long (((ei_ (x3)).toInt64) <<< ((ei_ (32)).toInt64 &&& 63)), .int (ei_ (x2)), .int (ei_ (x1)), .ref 47, .int (ei_ (x5))], mm6) : am_S)) (ei_add rfl rfl)) ?_
  refine pw_cv (congrArg (fun z_ : Int64 => ((1305, [some (.ref 1000), some (.ref 0), some (.ref 47), some (.int (ei_ (i)))], [.int (ei_ ((i + 4))), .ref 1000, .long z_, .int (ei_ (x2)), .int (ei_ (x1)), .ref 47, .int (ei_ (x5))], mm6) : am_S)) (el_lsh (el_i2l ⟨rx3, sx3⟩ rfl) rfl)) ?_
  refine pw_ildE (x := x4) rfl rfl (by omega) hx4 ?_
  refine pw_steps 4 (s' := (1312, [some (.ref 1000), some (.ref 0), some (.ref 47), some (.int (ei_ (i)))], [.long ((el_ ((lsh_ x3 32))) ||| (((ei_ (x4)).toInt64) &&& (el_ (4294967295)))), .int (ei_ (x2)), .int (ei_ (x1)), .ref 47, .int (ei_ (x5))], mm6)) rfl ?_
  refine pw_cv (congrArg (fun z_ : Int64 => ((1312, [some (.ref 1000), some (.ref 0), some (.ref 47), some (.int (ei_ (i)))], [.long z_, .int (ei_ (x2)), .int (ei_ (x1)), .ref 47, .int (ei_ (x5))], mm6) : am_S)) (el_lor rfl (el_lan (el_i2l ⟨rx4, sx4⟩ rfl) rfl))) ?_
  refine pw_call (As := [.int (ei_ (x1)), .int (ei_ (x2)), .long (el_ ((lor_ (lsh_ x3 32) (lan_ x4 4294967295))))]) (st := [.int (ei_ (x5))]) (k := 47) rfl rfl rfl rfl rfl (Nat.le_of_ble_eq_true rfl) ?_
  refine pw_mono hh8 (fun r_ mm9 hh_ => ?_)
  obtain ⟨e10, hR11⟩ := hh_
  subst e10
  refine pw_cmpT rfl rr7 rr7 (show x5 = x5 by omega) ?_
  exact kk mm9 hR11

set_option maxHeartbeats 4000000 in
set_option maxRecDepth 20000 in
theorem lc_element {q : am_X} {m : am_M} {i : Int} {Q : Option Value → am_M → Prop} (hq : 0 ≤ ql_ q ∧ ql_ q ≤ 3072) (hi : 0 ≤ i ∧ i ≤ ql_ q - 6) (hR : rR_ m) (kk : ∀ m2, rR_ m2 → pw_V q 200 (some .boolean) tL_law Q (1473, [some (.ref 1000), some (.ref 0), some (.ref 47), some (.int (ei_ i))], [], m2)) : pw_V q 200 (some .boolean) tL_law Q (1320, [some (.ref 1000), some (.ref 0), some (.ref 47), some (.int (ei_ i))], [], m) := by
  have hqn : ql_ q = (q.1 : Int) := rfl
  refine pw_steps 5 (s' := (1325, [some (.ref 1000), some (.ref 0), some (.ref 47), some (.int (ei_ (i)))], [.int ((ei_ (i)) + (ei_ (1))), .ref 1000, .ref 0], m)) rfl ?_
  refine pw_cv (congrArg (fun z_ : Int32 => ((1325, [some (.ref 1000), some (.ref 0), some (.ref 47), some (.int (ei_ (i)))], [.int z_, .ref 1000, .ref 0], m) : am_S)) (ei_add rfl rfl)) ?_
  refine pw_ild rfl rfl (by omega) (fun x1 (hx1 : x1 = sc_ q (i + 1)) rx1 sx1 => ?_)
  refine pw_steps 4 (s' := (1330, [some (.ref 1000), some (.ref 0), some (.ref 47), some (.int (ei_ (i)))], [.int ((ei_ (i)) + (ei_ (2))), .ref 1000, .int (ei_ (x1)), .ref 0], m)) rfl ?_
  refine pw_cv (congrArg (fun z_ : Int32 => ((1330, [some (.ref 1000), some (.ref 0), some (.ref 47), some (.int (ei_ (i)))], [.int z_, .ref 1000, .int (ei_ (x1)), .ref 0], m) : am_S)) (ei_add rfl rfl)) ?_
  refine pw_ild rfl rfl (by omega) (fun x2 (hx2 : x2 = sc_ q (i + 2)) rx2 sx2 => ?_)
  refine pw_call (As := [.int (ei_ (x1)), .int (ei_ (x2))]) (st := []) (k := 0) rfl rfl rfl rfl rfl (Nat.le_of_ble_eq_true rfl) ?_
  refine pw_twoL (op_element (d := 140) ⟨rx1, sx1⟩ ⟨rx2, sx2⟩ hR) (fun y3 mm4 rr5 hh6 => ?_)
  refine pw_steps 5 (s' := (1339, [some (.ref 1000), some (.ref 0), some (.ref 47), some (.int (ei_ (i)))], [.int ((ei_ (i)) + (ei_ (1))), .ref 1000, .ref 47, .long (el_ (y3))], mm4)) rfl ?_
  refine pw_cv (congrArg (fun z_ : Int32 => ((1339, [some (.ref 1000), some (.ref 0), some (.ref 47), some (.int (ei_ (i)))], [.int z_, .ref 1000, .ref 47, .long (el_ (y3))], mm4) : am_S)) (ei_add rfl rfl)) ?_
  refine pw_ildE (x := x1) rfl rfl (by omega) hx1 ?_
  refine pw_steps 4 (s' := (1344, [some (.ref 1000), some (.ref 0), some (.ref 47), some (.int (ei_ (i)))], [.int ((ei_ (i)) + (ei_ (2))), .ref 1000, .int (ei_ (x1)), .ref 47, .long (el_ (y3))], mm4)) rfl ?_
  refine pw_cv (congrArg (fun z_ : Int32 => ((1344, [some (.ref 1000), some (.ref 0), some (.ref 47), some (.int (ei_ (i)))], [.int z_, .ref 1000, .int (ei_ (x1)), .ref 47, .long (el_ (y3))], mm4) : am_S)) (ei_add rfl rfl)) ?_
  refine pw_ildE (x := x2) rfl rfl (by omega) hx2 ?_
  refine pw_call (As := [.int (ei_ (x1)), .int (ei_ (x2))]) (st := [.long (el_ (y3))]) (k := 47) rfl rfl rfl rfl rfl (Nat.le_of_ble_eq_true rfl) ?_
  refine pw_mono hh6 (fun r_ mm7 hh_ => ?_)
  obtain ⟨e8, hR9⟩ := hh_
  subst e8
  refine pw_lcmp rfl rfl rr5 rr5 (fun (h10 : y3 = y3) => ?_) (fun (h10 : ¬ (y3 = y3)) => ?_)
  · exact kk mm7 hR9
  · exact False.elim (by omega)

set_option maxHeartbeats 4000000 in
set_option maxRecDepth 20000 in
theorem lc_shift {q : am_X} {m : am_M} {i : Int} {Q : Option Value → am_M → Prop} (hq : 0 ≤ ql_ q ∧ ql_ q ≤ 3072) (hi : 0 ≤ i ∧ i ≤ ql_ q - 6) (hR : rR_ m) (kk : ∀ m2, rR_ m2 → pw_V q 200 (some .boolean) tL_law Q (1473, [some (.ref 1000), some (.ref 0), some (.ref 47), some (.int (ei_ i))], [], m2)) : pw_V q 200 (some .boolean) tL_law Q (1354, [some (.ref 1000), some (.ref 0), some (.ref 47), some (.int (ei_ i))], [], m) := by
  have hqn : ql_ q = (q.1 : Int) := rfl
  refine pw_steps 5 (s' := (1359, [some (.ref 1000), some (.ref 0), some (.ref 47), some (.int (ei_ (i)))], [.int ((ei_ (i)) + (ei_ (1))), .ref 1000, .ref 0], m)) rfl ?_
  refine pw_cv (congrArg (fun z_ : Int32 => ((1359, [some (.ref 1000), some (.ref 0), some (.ref 47), some (.int (ei_ (i)))], [.int z_, .ref 1000, .ref 0], m) : am_S)) (ei_add rfl rfl)) ?_
  refine pw_ild rfl rfl (by omega) (fun x1 (hx1 : x1 = sc_ q (i + 1)) rx1 sx1 => ?_)
  refine pw_steps 4 (s' := (1364, [some (.ref 1000), some (.ref 0), some (.ref 47), some (.int (ei_ (i)))], [.int ((ei_ (i)) + (ei_ (2))), .ref 1000, .int (ei_ (x1)), .ref 0], m)) rfl ?_
  refine pw_cv (congrArg (fun z_ : Int32 => ((1364, [some (.ref 1000), some (.ref 0), some (.ref 47), some (.int (ei_ (i)))], [.int z_, .ref 1000, .int (ei_ (x1)), .ref 0], m) : am_S)) (ei_add rfl rfl)) ?_
  refine pw_ild rfl rfl (by omega) (fun x2 (hx2 : x2 = sc_ q (i + 2)) rx2 sx2 => ?_)
  refine pw_steps 4 (s' := (1369, [some (.ref 1000), some (.ref 0), some (.ref 47), some (.int (ei_ (i)))], [.int ((ei_ (i)) + (ei_ (3))), .ref 1000, .int (ei_ (x2)), .int (ei_ (x1)), .ref 0], m)) rfl ?_
  refine pw_cv (congrArg (fun z_ : Int32 => ((1369, [some (.ref 1000), some (.ref 0), some (.ref 47), some (.int (ei_ (i)))], [.int z_, .ref 1000, .int (ei_ (x2)), .int (ei_ (x1)), .ref 0], m) : am_S)) (ei_add rfl rfl)) ?_
  refine pw_ild rfl rfl (by omega) (fun x3 (hx3 : x3 = sc_ q (i + 3)) rx3 sx3 => ?_)
  refine pw_steps 4 (s' := (1374, [some (.ref 1000), some (.ref 0), some (.ref 47), some (.int (ei_ (i)))], [.int ((ei_ (i)) + (ei_ (4))), .ref 1000, .int (ei_ (x3)), .int (ei_ (x2)), .int (ei_ (x1)), .ref 0], m)) rfl ?_
  refine pw_cv (congrArg (fun z_ : Int32 => ((1374, [some (.ref 1000), some (.ref 0), some (.ref 47), some (.int (ei_ (i)))], [.int z_, .ref 1000, .int (ei_ (x3)), .int (ei_ (x2)), .int (ei_ (x1)), .ref 0], m) : am_S)) (ei_add rfl rfl)) ?_
  refine pw_ild rfl rfl (by omega) (fun x4 (hx4 : x4 = sc_ q (i + 4)) rx4 sx4 => ?_)
  refine pw_steps 4 (s' := (1379, [some (.ref 1000), some (.ref 0), some (.ref 47), some (.int (ei_ (i)))], [.int ((ei_ (i)) + (ei_ (5))), .ref 1000, .int (ei_ (x4)), .int (ei_ (x3)), .int (ei_ (x2)), .int (ei_ (x1)), .ref 0], m)) rfl ?_
  refine pw_cv (congrArg (fun z_ : Int32 => ((1379, [some (.ref 1000), some (.ref 0), some (.ref 47), some (.int (ei_ (i)))], [.int z_, .ref 1000, .int (ei_ (x4)), .int (ei_ (x3)), .int (ei_ (x2)), .int (ei_ (x1)), .ref 0], m) : am_S)) (ei_add rfl rfl)) ?_
  refine pw_ild rfl rfl (by omega) (fun x5 (hx5 : x5 = sc_ q (i + 5)) rx5 sx5 => ?_)
  refine pw_call (As := [.int (ei_ (x1)), .int (ei_ (x2)), .int (ei_ (x3)), .int (ei_ (x4)), .int (ei_ (x5))]) (st := []) (k := 0) rfl rfl rfl rfl rfl (Nat.le_of_ble_eq_true rfl) ?_
  refine pw_two (op_shift (d := 140) ⟨rx1, sx1⟩ ⟨rx2, sx2⟩ ⟨rx3, sx3⟩ ⟨rx4, sx4⟩ ⟨rx5, sx5⟩ hR) (fun x6 mm7 rr8 hh9 => ?_)
  refine pw_steps 5 (s' := (1388, [some (.ref 1000), some (.ref 0), some (.ref 47), some (.int (ei_ (i)))], [.int ((ei_ (i)) + (ei_ (1))), .ref 1000, .ref 47, .int (ei_ (x6))], mm7)) rfl ?_
  refine pw_cv (congrArg (fun z_ : Int32 => ((1388, [some (.ref 1000), some (.ref 0), some (.ref 47), some (.int (ei_ (i)))], [.int z_, .ref 1000, .ref 47, .int (ei_ (x6))], mm7) : am_S)) (ei_add rfl rfl)) ?_
  refine pw_ildE (x := x1) rfl rfl (by omega) hx1 ?_
  refine pw_steps 4 (s' := (1393, [some (.ref 1000), some (.ref 0), some (.ref 47), some (.int (ei_ (i)))], [.int ((ei_ (i)) + (ei_ (2))), .ref 1000, .int (ei_ (x1)), .ref 47, .int (ei_ (x6))], mm7)) rfl ?_
  refine pw_cv (congrArg (fun z_ : Int32 => ((1393, [some (.ref 1000), some (.ref 0), some (.ref 47), some (.int (ei_ (i)))], [.int z_, .ref 1000, .int (ei_ (x1)), .ref 47, .int (ei_ (x6))], mm7) : am_S)) (ei_add rfl rfl)) ?_
  refine pw_ildE (x := x2) rfl rfl (by omega) hx2 ?_
  refine pw_steps 4 (s' := (1398, [some (.ref 1000), some (.ref 0), some (.ref 47), some (.int (ei_ (i)))], [.int ((ei_ (i)) + (ei_ (3))), .ref 1000, .int (ei_ (x2)), .int (ei_ (x1)), .ref 47, .int (ei_ (x6))], mm7)) rfl ?_
  refine pw_cv (congrArg (fun z_ : Int32 => ((1398, [some (.ref 1000), some (.ref 0), some (.ref 47), some (.int (ei_ (i)))], [.int z_, .ref 1000, .int (ei_ (x2)), .int (ei_ (x1)), .ref 47, .int (ei_ (x6))], mm7) : am_S)) (ei_add rfl rfl)) ?_
  refine pw_ildE (x := x3) rfl rfl (by omega) hx3 ?_
  refine pw_steps 4 (s' := (1403, [some (.ref 1000), some (.ref 0), some (.ref 47), some (.int (ei_ (i)))], [.int ((ei_ (i)) + (ei_ (4))), .ref 1000, .int (ei_ (x3)), .int (ei_ (x2)), .int (ei_ (x1)), .ref 47, .int (ei_ (x6))], mm7)) rfl ?_
  refine pw_cv (congrArg (fun z_ : Int32 => ((1403, [some (.ref 1000), some (.ref 0), some (.ref 47), some (.int (ei_ (i)))], [.int z_, .ref 1000, .int (ei_ (x3)), .int (ei_ (x2)), .int (ei_ (x1)), .ref 47, .int (ei_ (x6))], mm7) : am_S)) (ei_add rfl rfl)) ?_
  refine pw_ildE (x := x4) rfl rfl (by omega) hx4 ?_
  refine pw_steps 4 (s' := (1408, [some (.ref 1000), some (.ref 0), some (.ref 47), some (.int (ei_ (i)))], [.int ((ei_ (i)) + (ei_ (5))), .ref 1000, .int (ei_ (x4)), .int (ei_ (x3)), .int (ei_ (x2)), .int (ei_ (x1)), .ref 47, .int (ei_ (x6))], mm7)) rfl ?_
  refine pw_cv (congrArg (fun z_ : Int32 => ((1408, [some (.ref 1000), some (.ref 0), some (.ref 47), some (.int (ei_ (i)))], [.int z_, .ref 1000, .int (ei_ (x4)), .int (ei_ (x3)), .int (ei_ (x2)), .int (ei_ (x1)), .ref 47, .int (ei_ (x6))], mm7) : am_S)) (ei_add rfl rfl)) ?_
  refine pw_ildE (x := x5) rfl rfl (by omega) hx5 ?_
  refine pw_call (As := [.int (ei_ (x1)), .int (ei_ (x2)), .int (ei_ (x3)), .int (ei_ (x4)), .int (ei_ (x5))]) (st := [.int (ei_ (x6))]) (k := 47) rfl rfl rfl rfl rfl (Nat.le_of_ble_eq_true rfl) ?_
  refine pw_mono hh9 (fun r_ mm10 hh_ => ?_)
  obtain ⟨e11, hR12⟩ := hh_
  subst e11
  refine pw_cmpT rfl rr8 rr8 (show x6 = x6 by omega) ?_
  exact kk mm10 hR12

set_option maxHeartbeats 4000000 in
set_option maxRecDepth 20000 in
theorem lc_taken {q : am_X} {m : am_M} {i : Int} {Q : Option Value → am_M → Prop} (hq : 0 ≤ ql_ q ∧ ql_ q ≤ 3072) (hi : 0 ≤ i ∧ i ≤ ql_ q - 6) (hR : rR_ m) (kk : ∀ m2, rR_ m2 → pw_V q 200 (some .boolean) tL_law Q (1473, [some (.ref 1000), some (.ref 0), some (.ref 47), some (.int (ei_ i))], [], m2)) : pw_V q 200 (some .boolean) tL_law Q (1417, [some (.ref 1000), some (.ref 0), some (.ref 47), some (.int (ei_ i))], [], m) := by
  have hqn : ql_ q = (q.1 : Int) := rfl
  refine pw_steps 5 (s' := (1422, [some (.ref 1000), some (.ref 0), some (.ref 47), some (.int (ei_ (i)))], [.int ((ei_ (i)) + (ei_ (1))), .ref 1000, .ref 0], m)) rfl ?_
  refine pw_cv (congrArg (fun z_ : Int32 => ((1422, [some (.ref 1000), some (.ref 0), some (.ref 47), some (.int (ei_ (i)))], [.int z_, .ref 1000, .ref 0], m) : am_S)) (ei_add rfl rfl)) ?_
  refine pw_ild rfl rfl (by omega) (fun x1 (hx1 : x1 = sc_ q (i + 1)) rx1 sx1 => ?_)
  refine pw_steps 4 (s' := (1427, [some (.ref 1000), some (.ref 0), some (.ref 47), some (.int (ei_ (i)))], [.int ((ei_ (i)) + (ei_ (2))), .ref 1000, .int (ei_ (x1)), .ref 0], m)) rfl ?_
  refine pw_cv (congrArg (fun z_ : Int32 => ((1427, [some (.ref 1000), some (.ref 0), some (.ref 47), some (.int (ei_ (i)))], [.int z_, .ref 1000, .int (ei_ (x1)), .ref 0], m) : am_S)) (ei_add rfl rfl)) ?_
  refine pw_ild rfl rfl (by omega) (fun x2 (hx2 : x2 = sc_ q (i + 2)) rx2 sx2 => ?_)
  refine pw_call (As := [.int (ei_ (x1)), .int (ei_ (x2))]) (st := []) (k := 0) rfl rfl rfl rfl rfl (Nat.le_of_ble_eq_true rfl) ?_
  refine pw_two (op_taken (d := 140) ⟨rx1, sx1⟩ ⟨rx2, sx2⟩ hR) (fun x3 mm4 rr5 hh6 => ?_)
  refine pw_steps 5 (s' := (1436, [some (.ref 1000), some (.ref 0), some (.ref 47), some (.int (ei_ (i)))], [.int ((ei_ (i)) + (ei_ (1))), .ref 1000, .ref 47, .int (ei_ (x3))], mm4)) rfl ?_
  refine pw_cv (congrArg (fun z_ : Int32 => ((1436, [some (.ref 1000), some (.ref 0), some (.ref 47), some (.int (ei_ (i)))], [.int z_, .ref 1000, .ref 47, .int (ei_ (x3))], mm4) : am_S)) (ei_add rfl rfl)) ?_
  refine pw_ildE (x := x1) rfl rfl (by omega) hx1 ?_
  refine pw_steps 4 (s' := (1441, [some (.ref 1000), some (.ref 0), some (.ref 47), some (.int (ei_ (i)))], [.int ((ei_ (i)) + (ei_ (2))), .ref 1000, .int (ei_ (x1)), .ref 47, .int (ei_ (x3))], mm4)) rfl ?_
  refine pw_cv (congrArg (fun z_ : Int32 => ((1441, [some (.ref 1000), some (.ref 0), some (.ref 47), some (.int (ei_ (i)))], [.int z_, .ref 1000, .int (ei_ (x1)), .ref 47, .int (ei_ (x3))], mm4) : am_S)) (ei_add rfl rfl)) ?_
  refine pw_ildE (x := x2) rfl rfl (by omega) hx2 ?_
  refine pw_call (As := [.int (ei_ (x1)), .int (ei_ (x2))]) (st := [.int (ei_ (x3))]) (k := 47) rfl rfl rfl rfl rfl (Nat.le_of_ble_eq_true rfl) ?_
  refine pw_mono hh6 (fun r_ mm7 hh_ => ?_)
  obtain ⟨e8, hR9⟩ := hh_
  subst e8
  refine pw_cmpT rfl rr5 rr5 (show x3 = x3 by omega) ?_
  exact kk mm7 hR9

set_option maxHeartbeats 4000000 in
set_option maxRecDepth 20000 in
theorem lc_count {q : am_X} {m : am_M} {i : Int} {Q : Option Value → am_M → Prop} (hq : 0 ≤ ql_ q ∧ ql_ q ≤ 3072) (hi : 0 ≤ i ∧ i ≤ ql_ q - 6) (hR : rR_ m) (kk : ∀ m2, rR_ m2 → pw_V q 200 (some .boolean) tL_law Q (1473, [some (.ref 1000), some (.ref 0), some (.ref 47), some (.int (ei_ i))], [], m2)) : pw_V q 200 (some .boolean) tL_law Q (1450, [some (.ref 1000), some (.ref 0), some (.ref 47), some (.int (ei_ i))], [], m) := by
  have hqn : ql_ q = (q.1 : Int) := rfl
  refine pw_steps 5 (s' := (1455, [some (.ref 1000), some (.ref 0), some (.ref 47), some (.int (ei_ (i)))], [.int ((ei_ (i)) + (ei_ (1))), .ref 1000, .ref 0], m)) rfl ?_
  refine pw_cv (congrArg (fun z_ : Int32 => ((1455, [some (.ref 1000), some (.ref 0), some (.ref 47), some (.int (ei_ (i)))], [.int z_, .ref 1000, .ref 0], m) : am_S)) (ei_add rfl rfl)) ?_
  refine pw_ild rfl rfl (by omega) (fun x1 (hx1 : x1 = sc_ q (i + 1)) rx1 sx1 => ?_)
  refine pw_call (As := [.int (ei_ (x1))]) (st := []) (k := 0) rfl rfl rfl rfl rfl (Nat.le_of_ble_eq_true rfl) ?_
  refine pw_two (op_count (d := 140) ⟨rx1, sx1⟩ hR) (fun x2 mm3 rr4 hh5 => ?_)
  refine pw_steps 5 (s' := (1464, [some (.ref 1000), some (.ref 0), some (.ref 47), some (.int (ei_ (i)))], [.int ((ei_ (i)) + (ei_ (1))), .ref 1000, .ref 47, .int (ei_ (x2))], mm3)) rfl ?_
  refine pw_cv (congrArg (fun z_ : Int32 => ((1464, [some (.ref 1000), some (.ref 0), some (.ref 47), some (.int (ei_ (i)))], [.int z_, .ref 1000, .ref 47, .int (ei_ (x2))], mm3) : am_S)) (ei_add rfl rfl)) ?_
  refine pw_ildE (x := x1) rfl rfl (by omega) hx1 ?_
  refine pw_call (As := [.int (ei_ (x1))]) (st := [.int (ei_ (x2))]) (k := 47) rfl rfl rfl rfl rfl (Nat.le_of_ble_eq_true rfl) ?_
  refine pw_mono hh5 (fun r_ mm6 hh_ => ?_)
  obtain ⟨e7, hR8⟩ := hh_
  subst e7
  refine pw_cmpT rfl rr4 rr4 (show x2 = x2 by omega) ?_
  exact kk mm6 hR8

set_option maxHeartbeats 4000000 in
set_option maxRecDepth 20000 in
theorem law_loop {q : am_X} (hq : 0 ≤ ql_ q ∧ ql_ q ≤ 3072) : ∀ (n : Nat) (i : Int) (m : am_M), (ql_ q + 6 - i).toNat = n → (0 ≤ i ∧ i ≤ ql_ q) → rR_ m → pw_V q 200 (some .boolean) tL_law (fun r _ => r = some (.int 1)) (18, [some (.ref 1000), some (.ref 0), some (.ref 47), some (.int (ei_ i))], [], m) := by
  have hqn : ql_ q = (q.1 : Int) := rfl
  intro n
  induction n using Nat.strongRecOn with
  | _ n ih =>
      intro i m hn hi hR
      refine pw_steps 5 (s' := (24, [some (.ref 1000), some (.ref 0), some (.ref 47), some (.int (ei_ (i)))], [.int ((Int32.ofNat q.1) - (ei_ (6))), .int (ei_ (i))], m)) rfl ?_
      refine pw_cv (congrArg (fun z_ : Int32 => ((24, [some (.ref 1000), some (.ref 0), some (.ref 47), some (.int (ei_ (i)))], [.int z_, .int (ei_ (i))], m) : am_S)) (ei_sub (ei_ql q) rfl)) ?_
      refine pw_cmp rfl (by omega) (by omega) (fun (h1 : ((ql_ q) - 6) < i) => ?_) (fun (h1 : ¬ (((ql_ q) - 6) < i)) => ?_)
      · refine pw_steps 1 (s' := (1480, [some (.ref 1000), some (.ref 0), some (.ref 47), some (.int (ei_ (i)))], [.int (ei_ (1))], m)) rfl ?_
        refine pw_iret rfl rfl rfl ?_
        exact rfl
      · refine pw_steps 2 (s' := (29, [some (.ref 1000), some (.ref 0), some (.ref 47), some (.int (ei_ (i)))], [.int (ei_ (i)), .ref 1000], m)) rfl ?_
        refine pw_ild rfl rfl (by omega) (fun x2 (hx2 : x2 = sc_ q i) rx2 sx2 => ?_)
        refine pw_steps 2 (s' := (33, [some (.ref 1000), some (.ref 0), some (.ref 47), some (.int (ei_ (i)))], [.int (((ei_ (x2)) &&& (ei_ (63))))], m)) rfl ?_
        refine pw_cv (congrArg (fun z_ : Int32 => ((33, [some (.ref 1000), some (.ref 0), some (.ref 47), some (.int (ei_ (i)))], [.int z_], m) : am_S)) (ei_an rfl rfl)) ?_
        rcases (show (an_ x2 63) = 0 ∨ (an_ x2 63) = 1 ∨ (an_ x2 63) = 2 ∨ (an_ x2 63) = 3 ∨ (an_ x2 63) = 4 ∨ (an_ x2 63) = 5 ∨ (an_ x2 63) = 6 ∨ (an_ x2 63) = 7 ∨ (an_ x2 63) = 8 ∨ (an_ x2 63) = 9 ∨ (an_ x2 63) = 10 ∨ (an_ x2 63) = 11 ∨ (an_ x2 63) = 12 ∨ (an_ x2 63) = 13 ∨ (an_ x2 63) = 14 ∨ (an_ x2 63) = 15 ∨ (an_ x2 63) = 16 ∨ (an_ x2 63) = 17 ∨ (an_ x2 63) = 18 ∨ (an_ x2 63) = 19 ∨ (an_ x2 63) = 20 ∨ (an_ x2 63) = 21 ∨ (an_ x2 63) = 22 ∨ (an_ x2 63) = 23 ∨ (an_ x2 63) = 24 ∨ (an_ x2 63) = 25 ∨ (an_ x2 63) = 26 ∨ (an_ x2 63) = 27 ∨ (an_ x2 63) = 28 ∨ (an_ x2 63) = 29 ∨ (an_ x2 63) = 30 ∨ (an_ x2 63) = 31 ∨ (an_ x2 63) = 32 ∨ (an_ x2 63) = 33 ∨ (an_ x2 63) = 34 ∨ (an_ x2 63) = 35 ∨ (an_ x2 63) = 36 ∨ (an_ x2 63) = 37 ∨ (an_ x2 63) = 38 ∨ (an_ x2 63) = 39 ∨ (an_ x2 63) = 40 ∨ (an_ x2 63) = 41 ∨ (an_ x2 63) < 0 ∨ 41 < (an_ x2 63) by omega) with h3 | h3 | h3 | h3 | h3 | h3 | h3 | h3 | h3 | h3 | h3 | h3 | h3 | h3 | h3 | h3 | h3 | h3 | h3 | h3 | h3 | h3 | h3 | h3 | h3 | h3 | h3 | h3 | h3 | h3 | h3 | h3 | h3 | h3 | h3 | h3 | h3 | h3 | h3 | h3 | h3 | h3 | h3 | h3
        · refine pw_tab 0 216 rfl (an_r _ _) (by omega) (by omega) rfl ?_
          refine lc_person hq ⟨by omega, by omega⟩ hR (fun mm4 hR5 => ?_)
          refine pw_steps 2 (s' := (18, [some (.ref 1000), some (.ref 0), some (.ref 47), some (.int ((ei_ (i)) + (ei_ (6))))], [], mm4)) rfl ?_
          refine pw_cv (congrArg (fun z_ : Int32 => ((18, [some (.ref 1000), some (.ref 0), some (.ref 47), some (.int z_)], [], mm4) : am_S)) (ei_add rfl rfl)) ?_
          exact ih _ (by omega) (i + 6) mm4 rfl (by omega) hR5
        · refine pw_tab 1 249 rfl (an_r _ _) (by omega) (by omega) rfl ?_
          refine lc_people hq ⟨by omega, by omega⟩ hR (fun mm6 hR7 => ?_)
          refine pw_steps 2 (s' := (18, [some (.ref 1000), some (.ref 0), some (.ref 47), some (.int ((ei_ (i)) + (ei_ (6))))], [], mm6)) rfl ?_
          refine pw_cv (congrArg (fun z_ : Int32 => ((18, [some (.ref 1000), some (.ref 0), some (.ref 47), some (.int z_)], [], mm6) : am_S)) (ei_add rfl rfl)) ?_
          exact ih _ (by omega) (i + 6) mm6 rfl (by omega) hR7
        · refine pw_tab 2 292 rfl (an_r _ _) (by omega) (by omega) rfl ?_
          refine lc_mend hq ⟨by omega, by omega⟩ hR (fun mm8 hR9 => ?_)
          refine pw_steps 2 (s' := (18, [some (.ref 1000), some (.ref 0), some (.ref 47), some (.int ((ei_ (i)) + (ei_ (6))))], [], mm8)) rfl ?_
          refine pw_cv (congrArg (fun z_ : Int32 => ((18, [some (.ref 1000), some (.ref 0), some (.ref 47), some (.int z_)], [], mm8) : am_S)) (ei_add rfl rfl)) ?_
          exact ih _ (by omega) (i + 6) mm8 rfl (by omega) hR9
        · refine pw_tab 3 335 rfl (an_r _ _) (by omega) (by omega) rfl ?_
          refine lc_of hq ⟨by omega, by omega⟩ hR (fun mm10 hR11 => ?_)
          refine pw_steps 2 (s' := (18, [some (.ref 1000), some (.ref 0), some (.ref 47), some (.int ((ei_ (i)) + (ei_ (6))))], [], mm10)) rfl ?_
          refine pw_cv (congrArg (fun z_ : Int32 => ((18, [some (.ref 1000), some (.ref 0), some (.ref 47), some (.int z_)], [], mm10) : am_S)) (ei_add rfl rfl)) ?_
          exact ih _ (by omega) (i + 6) mm10 rfl (by omega) hR11
        · refine pw_tab 4 368 rfl (an_r _ _) (by omega) (by omega) rfl ?_
          refine lc_feed hq ⟨by omega, by omega⟩ hR (fun mm12 hR13 => ?_)
          refine pw_steps 2 (s' := (18, [some (.ref 1000), some (.ref 0), some (.ref 47), some (.int ((ei_ (i)) + (ei_ (6))))], [], mm12)) rfl ?_
          refine pw_cv (congrArg (fun z_ : Int32 => ((18, [some (.ref 1000), some (.ref 0), some (.ref 47), some (.int z_)], [], mm12) : am_S)) (ei_add rfl rfl)) ?_
          exact ih _ (by omega) (i + 6) mm12 rfl (by omega) hR13
        · refine pw_tab 5 391 rfl (an_r _ _) (by omega) (by omega) rfl ?_
          refine lc_law hq ⟨by omega, by omega⟩ hR (fun mm14 hR15 => ?_)
          refine pw_steps 2 (s' := (18, [some (.ref 1000), some (.ref 0), some (.ref 47), some (.int ((ei_ (i)) + (ei_ (6))))], [], mm14)) rfl ?_
          refine pw_cv (congrArg (fun z_ : Int32 => ((18, [some (.ref 1000), some (.ref 0), some (.ref 47), some (.int z_)], [], mm14) : am_S)) (ei_add rfl rfl)) ?_
          exact ih _ (by omega) (i + 6) mm14 rfl (by omega) hR15
        · refine pw_tab 6 404 rfl (an_r _ _) (by omega) (by omega) rfl ?_
          refine lc_burns hq ⟨by omega, by omega⟩ hR (fun mm16 hR17 => ?_)
          refine pw_steps 2 (s' := (18, [some (.ref 1000), some (.ref 0), some (.ref 47), some (.int ((ei_ (i)) + (ei_ (6))))], [], mm16)) rfl ?_
          refine pw_cv (congrArg (fun z_ : Int32 => ((18, [some (.ref 1000), some (.ref 0), some (.ref 47), some (.int z_)], [], mm16) : am_S)) (ei_add rfl rfl)) ?_
          exact ih _ (by omega) (i + 6) mm16 rfl (by omega) hR17
        · refine pw_tab 7 427 rfl (an_r _ _) (by omega) (by omega) rfl ?_
          refine lc_left hq ⟨by omega, by omega⟩ hR (fun mm18 hR19 => ?_)
          refine pw_steps 2 (s' := (18, [some (.ref 1000), some (.ref 0), some (.ref 47), some (.int ((ei_ (i)) + (ei_ (6))))], [], mm18)) rfl ?_
          refine pw_cv (congrArg (fun z_ : Int32 => ((18, [some (.ref 1000), some (.ref 0), some (.ref 47), some (.int z_)], [], mm18) : am_S)) (ei_add rfl rfl)) ?_
          exact ih _ (by omega) (i + 6) mm18 rfl (by omega) hR19
        · refine pw_tab 8 460 rfl (an_r _ _) (by omega) (by omega) rfl ?_
          refine lc_winter hq ⟨by omega, by omega⟩ hR (fun mm20 hR21 => ?_)
          refine pw_steps 2 (s' := (18, [some (.ref 1000), some (.ref 0), some (.ref 47), some (.int ((ei_ (i)) + (ei_ (6))))], [], mm20)) rfl ?_
          refine pw_cv (congrArg (fun z_ : Int32 => ((18, [some (.ref 1000), some (.ref 0), some (.ref 47), some (.int z_)], [], mm20) : am_S)) (ei_add rfl rfl)) ?_
          exact ih _ (by omega) (i + 6) mm20 rfl (by omega) hR21
        · refine pw_tab 9 493 rfl (an_r _ _) (by omega) (by omega) rfl ?_
          refine lc_when hq ⟨by omega, by omega⟩ hR (fun mm22 hR23 => ?_)
          refine pw_steps 2 (s' := (18, [some (.ref 1000), some (.ref 0), some (.ref 47), some (.int ((ei_ (i)) + (ei_ (6))))], [], mm22)) rfl ?_
          refine pw_cv (congrArg (fun z_ : Int32 => ((18, [some (.ref 1000), some (.ref 0), some (.ref 47), some (.int z_)], [], mm22) : am_S)) (ei_add rfl rfl)) ?_
          exact ih _ (by omega) (i + 6) mm22 rfl (by omega) hR23
        · refine pw_tab 10 526 rfl (an_r _ _) (by omega) (by omega) rfl ?_
          refine lc_last hq ⟨by omega, by omega⟩ hR (fun mm24 hR25 => ?_)
          refine pw_steps 2 (s' := (18, [some (.ref 1000), some (.ref 0), some (.ref 47), some (.int ((ei_ (i)) + (ei_ (6))))], [], mm24)) rfl ?_
          refine pw_cv (congrArg (fun z_ : Int32 => ((18, [some (.ref 1000), some (.ref 0), some (.ref 47), some (.int z_)], [], mm24) : am_S)) (ei_add rfl rfl)) ?_
          exact ih _ (by omega) (i + 6) mm24 rfl (by omega) hR25
        · refine pw_tab 11 539 rfl (an_r _ _) (by omega) (by omega) rfl ?_
          refine lc_give hq ⟨by omega, by omega⟩ hR (fun mm26 hR27 => ?_)
          refine pw_steps 2 (s' := (18, [some (.ref 1000), some (.ref 0), some (.ref 47), some (.int ((ei_ (i)) + (ei_ (6))))], [], mm26)) rfl ?_
          refine pw_cv (congrArg (fun z_ : Int32 => ((18, [some (.ref 1000), some (.ref 0), some (.ref 47), some (.int z_)], [], mm26) : am_S)) (ei_add rfl rfl)) ?_
          exact ih _ (by omega) (i + 6) mm26 rfl (by omega) hR27
        · refine pw_tab 12 582 rfl (an_r _ _) (by omega) (by omega) rfl ?_
          refine lc_allLast hq ⟨by omega, by omega⟩ hR (fun mm28 hR29 => ?_)
          refine pw_steps 2 (s' := (18, [some (.ref 1000), some (.ref 0), some (.ref 47), some (.int ((ei_ (i)) + (ei_ (6))))], [], mm28)) rfl ?_
          refine pw_cv (congrArg (fun z_ : Int32 => ((18, [some (.ref 1000), some (.ref 0), some (.ref 47), some (.int z_)], [], mm28) : am_S)) (ei_add rfl rfl)) ?_
          exact ih _ (by omega) (i + 6) mm28 rfl (by omega) hR29
        · refine pw_tab 13 615 rfl (an_r _ _) (by omega) (by omega) rfl ?_
          refine lc_fewest hq ⟨by omega, by omega⟩ hR (fun mm30 hR31 => ?_)
          refine pw_steps 2 (s' := (18, [some (.ref 1000), some (.ref 0), some (.ref 47), some (.int ((ei_ (i)) + (ei_ (6))))], [], mm30)) rfl ?_
          refine pw_cv (congrArg (fun z_ : Int32 => ((18, [some (.ref 1000), some (.ref 0), some (.ref 47), some (.int z_)], [], mm30) : am_S)) (ei_add rfl rfl)) ?_
          exact ih _ (by omega) (i + 6) mm30 rfl (by omega) hR31
        · refine pw_tab 14 638 rfl (an_r _ _) (by omega) (by omega) rfl ?_
          refine lc_thaws hq ⟨by omega, by omega⟩ hR (fun mm32 hR33 => ?_)
          refine pw_steps 2 (s' := (18, [some (.ref 1000), some (.ref 0), some (.ref 47), some (.int ((ei_ (i)) + (ei_ (6))))], [], mm32)) rfl ?_
          refine pw_cv (congrArg (fun z_ : Int32 => ((18, [some (.ref 1000), some (.ref 0), some (.ref 47), some (.int z_)], [], mm32) : am_S)) (ei_add rfl rfl)) ?_
          exact ih _ (by omega) (i + 6) mm32 rfl (by omega) hR33
        · refine pw_tab 15 661 rfl (an_r _ _) (by omega) (by omega) rfl ?_
          refine lc_ring hq ⟨by omega, by omega⟩ hR (fun mm34 hR35 => ?_)
          refine pw_steps 2 (s' := (18, [some (.ref 1000), some (.ref 0), some (.ref 47), some (.int ((ei_ (i)) + (ei_ (6))))], [], mm34)) rfl ?_
          refine pw_cv (congrArg (fun z_ : Int32 => ((18, [some (.ref 1000), some (.ref 0), some (.ref 47), some (.int z_)], [], mm34) : am_S)) (ei_add rfl rfl)) ?_
          exact ih _ (by omega) (i + 6) mm34 rfl (by omega) hR35
        · refine pw_tab 16 694 rfl (an_r _ _) (by omega) (by omega) rfl ?_
          refine lc_crowd hq ⟨by omega, by omega⟩ hR (fun mm36 hR37 => ?_)
          refine pw_steps 2 (s' := (18, [some (.ref 1000), some (.ref 0), some (.ref 47), some (.int ((ei_ (i)) + (ei_ (6))))], [], mm36)) rfl ?_
          refine pw_cv (congrArg (fun z_ : Int32 => ((18, [some (.ref 1000), some (.ref 0), some (.ref 47), some (.int z_)], [], mm36) : am_S)) (ei_add rfl rfl)) ?_
          exact ih _ (by omega) (i + 6) mm36 rfl (by omega) hR37
        · refine pw_tab 17 717 rfl (an_r _ _) (by omega) (by omega) rfl ?_
          refine lc_letter hq ⟨by omega, by omega⟩ hR (fun mm38 hR39 => ?_)
          refine pw_steps 2 (s' := (18, [some (.ref 1000), some (.ref 0), some (.ref 47), some (.int ((ei_ (i)) + (ei_ (6))))], [], mm38)) rfl ?_
          refine pw_cv (congrArg (fun z_ : Int32 => ((18, [some (.ref 1000), some (.ref 0), some (.ref 47), some (.int z_)], [], mm38) : am_S)) (ei_add rfl rfl)) ?_
          exact ih _ (by omega) (i + 6) mm38 rfl (by omega) hR39
        · refine pw_tab 18 760 rfl (an_r _ _) (by omega) (by omega) rfl ?_
          refine lc_owe hq ⟨by omega, by omega⟩ hR (fun mm40 hR41 => ?_)
          refine pw_steps 2 (s' := (18, [some (.ref 1000), some (.ref 0), some (.ref 47), some (.int ((ei_ (i)) + (ei_ (6))))], [], mm40)) rfl ?_
          refine pw_cv (congrArg (fun z_ : Int32 => ((18, [some (.ref 1000), some (.ref 0), some (.ref 47), some (.int z_)], [], mm40) : am_S)) (ei_add rfl rfl)) ?_
          exact ih _ (by omega) (i + 6) mm40 rfl (by omega) hR41
        · refine pw_tab 19 793 rfl (an_r _ _) (by omega) (by omega) rfl ?_
          refine lc_debt hq ⟨by omega, by omega⟩ hR (fun mm42 hR43 => ?_)
          refine pw_steps 2 (s' := (18, [some (.ref 1000), some (.ref 0), some (.ref 47), some (.int ((ei_ (i)) + (ei_ (6))))], [], mm42)) rfl ?_
          refine pw_cv (congrArg (fun z_ : Int32 => ((18, [some (.ref 1000), some (.ref 0), some (.ref 47), some (.int z_)], [], mm42) : am_S)) (ei_add rfl rfl)) ?_
          exact ih _ (by omega) (i + 6) mm42 rfl (by omega) hR43
        · refine pw_tab 20 816 rfl (an_r _ _) (by omega) (by omega) rfl ?_
          refine lc_doors hq ⟨by omega, by omega⟩ hR (fun mm44 hR45 => ?_)
          refine pw_steps 2 (s' := (18, [some (.ref 1000), some (.ref 0), some (.ref 47), some (.int ((ei_ (i)) + (ei_ (6))))], [], mm44)) rfl ?_
          refine pw_cv (congrArg (fun z_ : Int32 => ((18, [some (.ref 1000), some (.ref 0), some (.ref 47), some (.int z_)], [], mm44) : am_S)) (ei_add rfl rfl)) ?_
          exact ih _ (by omega) (i + 6) mm44 rfl (by omega) hR45
        · refine pw_tab 21 839 rfl (an_r _ _) (by omega) (by omega) rfl ?_
          refine lc_judge hq ⟨by omega, by omega⟩ hR (fun mm46 hR47 => ?_)
          refine pw_steps 2 (s' := (18, [some (.ref 1000), some (.ref 0), some (.ref 47), some (.int ((ei_ (i)) + (ei_ (6))))], [], mm46)) rfl ?_
          refine pw_cv (congrArg (fun z_ : Int32 => ((18, [some (.ref 1000), some (.ref 0), some (.ref 47), some (.int z_)], [], mm46) : am_S)) (ei_add rfl rfl)) ?_
          exact ih _ (by omega) (i + 6) mm46 rfl (by omega) hR47
        · refine pw_tab 22 862 rfl (an_r _ _) (by omega) (by omega) rfl ?_
          refine lc_wore hq ⟨by omega, by omega⟩ hR (fun mm48 hR49 => ?_)
          refine pw_steps 2 (s' := (18, [some (.ref 1000), some (.ref 0), some (.ref 47), some (.int ((ei_ (i)) + (ei_ (6))))], [], mm48)) rfl ?_
          refine pw_cv (congrArg (fun z_ : Int32 => ((18, [some (.ref 1000), some (.ref 0), some (.ref 47), some (.int z_)], [], mm48) : am_S)) (ei_add rfl rfl)) ?_
          exact ih _ (by omega) (i + 6) mm48 rfl (by omega) hR49
        · refine pw_tab 23 895 rfl (an_r _ _) (by omega) (by omega) rfl ?_
          refine lc_drawn hq ⟨by omega, by omega⟩ hR (fun mm50 hR51 => ?_)
          refine pw_steps 2 (s' := (18, [some (.ref 1000), some (.ref 0), some (.ref 47), some (.int ((ei_ (i)) + (ei_ (6))))], [], mm50)) rfl ?_
          refine pw_cv (congrArg (fun z_ : Int32 => ((18, [some (.ref 1000), some (.ref 0), some (.ref 47), some (.int z_)], [], mm50) : am_S)) (ei_add rfl rfl)) ?_
          exact ih _ (by omega) (i + 6) mm50 rfl (by omega) hR51
        · refine pw_tab 24 938 rfl (an_r _ _) (by omega) (by omega) rfl ?_
          refine lc_lend hq ⟨by omega, by omega⟩ hR (fun mm52 hR53 => ?_)
          refine pw_steps 2 (s' := (18, [some (.ref 1000), some (.ref 0), some (.ref 47), some (.int ((ei_ (i)) + (ei_ (6))))], [], mm52)) rfl ?_
          refine pw_cv (congrArg (fun z_ : Int32 => ((18, [some (.ref 1000), some (.ref 0), some (.ref 47), some (.int z_)], [], mm52) : am_S)) (ei_add rfl rfl)) ?_
          exact ih _ (by omega) (i + 6) mm52 rfl (by omega) hR53
        · refine pw_tab 25 971 rfl (an_r _ _) (by omega) (by omega) rfl ?_
          refine lc_pass hq ⟨by omega, by omega⟩ hR (fun mm54 hR55 => ?_)
          refine pw_steps 2 (s' := (18, [some (.ref 1000), some (.ref 0), some (.ref 47), some (.int ((ei_ (i)) + (ei_ (6))))], [], mm54)) rfl ?_
          refine pw_cv (congrArg (fun z_ : Int32 => ((18, [some (.ref 1000), some (.ref 0), some (.ref 47), some (.int z_)], [], mm54) : am_S)) (ei_add rfl rfl)) ?_
          exact ih _ (by omega) (i + 6) mm54 rfl (by omega) hR55
        · refine pw_tab 26 994 rfl (an_r _ _) (by omega) (by omega) rfl ?_
          refine lc_thaw hq ⟨by omega, by omega⟩ hR (fun mm56 hR57 => ?_)
          refine pw_steps 2 (s' := (18, [some (.ref 1000), some (.ref 0), some (.ref 47), some (.int ((ei_ (i)) + (ei_ (6))))], [], mm56)) rfl ?_
          refine pw_cv (congrArg (fun z_ : Int32 => ((18, [some (.ref 1000), some (.ref 0), some (.ref 47), some (.int z_)], [], mm56) : am_S)) (ei_add rfl rfl)) ?_
          exact ih _ (by omega) (i + 6) mm56 rfl (by omega) hR57
        · refine pw_tab 27 1007 rfl (an_r _ _) (by omega) (by omega) rfl ?_
          refine lc_led hq ⟨by omega, by omega⟩ hR (fun mm58 hR59 => ?_)
          refine pw_steps 2 (s' := (18, [some (.ref 1000), some (.ref 0), some (.ref 47), some (.int ((ei_ (i)) + (ei_ (6))))], [], mm58)) rfl ?_
          refine pw_cv (congrArg (fun z_ : Int32 => ((18, [some (.ref 1000), some (.ref 0), some (.ref 47), some (.int z_)], [], mm58) : am_S)) (ei_add rfl rfl)) ?_
          exact ih _ (by omega) (i + 6) mm58 rfl (by omega) hR59
        · refine pw_tab 28 1030 rfl (an_r _ _) (by omega) (by omega) rfl ?_
          refine lc_image hq ⟨by omega, by omega⟩ hR (fun mm60 hR61 => ?_)
          refine pw_steps 2 (s' := (18, [some (.ref 1000), some (.ref 0), some (.ref 47), some (.int ((ei_ (i)) + (ei_ (6))))], [], mm60)) rfl ?_
          refine pw_cv (congrArg (fun z_ : Int32 => ((18, [some (.ref 1000), some (.ref 0), some (.ref 47), some (.int z_)], [], mm60) : am_S)) (ei_add rfl rfl)) ?_
          exact ih _ (by omega) (i + 6) mm60 rfl (by omega) hR61
        · refine pw_tab 29 1043 rfl (an_r _ _) (by omega) (by omega) rfl ?_
          refine lc_back hq ⟨by omega, by omega⟩ hR (fun mm62 hR63 => ?_)
          refine pw_steps 2 (s' := (18, [some (.ref 1000), some (.ref 0), some (.ref 47), some (.int ((ei_ (i)) + (ei_ (6))))], [], mm62)) rfl ?_
          refine pw_cv (congrArg (fun z_ : Int32 => ((18, [some (.ref 1000), some (.ref 0), some (.ref 47), some (.int z_)], [], mm62) : am_S)) (ei_add rfl rfl)) ?_
          exact ih _ (by omega) (i + 6) mm62 rfl (by omega) hR63
        · refine pw_tab 30 1056 rfl (an_r _ _) (by omega) (by omega) rfl ?_
          refine lc_undo hq ⟨by omega, by omega⟩ hR (fun mm64 hR65 => ?_)
          refine pw_steps 2 (s' := (18, [some (.ref 1000), some (.ref 0), some (.ref 47), some (.int ((ei_ (i)) + (ei_ (6))))], [], mm64)) rfl ?_
          refine pw_cv (congrArg (fun z_ : Int32 => ((18, [some (.ref 1000), some (.ref 0), some (.ref 47), some (.int z_)], [], mm64) : am_S)) (ei_add rfl rfl)) ?_
          exact ih _ (by omega) (i + 6) mm64 rfl (by omega) hR65
        · refine pw_tab 31 1069 rfl (an_r _ _) (by omega) (by omega) rfl ?_
          refine lc_redo hq ⟨by omega, by omega⟩ hR (fun mm66 hR67 => ?_)
          refine pw_steps 2 (s' := (18, [some (.ref 1000), some (.ref 0), some (.ref 47), some (.int ((ei_ (i)) + (ei_ (6))))], [], mm66)) rfl ?_
          refine pw_cv (congrArg (fun z_ : Int32 => ((18, [some (.ref 1000), some (.ref 0), some (.ref 47), some (.int z_)], [], mm66) : am_S)) (ei_add rfl rfl)) ?_
          exact ih _ (by omega) (i + 6) mm66 rfl (by omega) hR67
        · refine pw_tab 32 1082 rfl (an_r _ _) (by omega) (by omega) rfl ?_
          refine lc_body hq ⟨by omega, by omega⟩ hR (fun mm68 hR69 => ?_)
          refine pw_steps 2 (s' := (18, [some (.ref 1000), some (.ref 0), some (.ref 47), some (.int ((ei_ (i)) + (ei_ (6))))], [], mm68)) rfl ?_
          refine pw_cv (congrArg (fun z_ : Int32 => ((18, [some (.ref 1000), some (.ref 0), some (.ref 47), some (.int z_)], [], mm68) : am_S)) (ei_add rfl rfl)) ?_
          exact ih _ (by omega) (i + 6) mm68 rfl (by omega) hR69
        · refine pw_tab 33 1105 rfl (an_r _ _) (by omega) (by omega) rfl ?_
          refine lc_act hq ⟨by omega, by omega⟩ hR (fun mm70 hR71 => ?_)
          refine pw_steps 2 (s' := (18, [some (.ref 1000), some (.ref 0), some (.ref 47), some (.int ((ei_ (i)) + (ei_ (6))))], [], mm70)) rfl ?_
          refine pw_cv (congrArg (fun z_ : Int32 => ((18, [some (.ref 1000), some (.ref 0), some (.ref 47), some (.int z_)], [], mm70) : am_S)) (ei_add rfl rfl)) ?_
          exact ih _ (by omega) (i + 6) mm70 rfl (by omega) hR71
        · refine pw_tab 34 1148 rfl (an_r _ _) (by omega) (by omega) rfl ?_
          refine lc_trace hq ⟨by omega, by omega⟩ hR (fun mm72 hR73 => ?_)
          refine pw_steps 2 (s' := (18, [some (.ref 1000), some (.ref 0), some (.ref 47), some (.int ((ei_ (i)) + (ei_ (6))))], [], mm72)) rfl ?_
          refine pw_cv (congrArg (fun z_ : Int32 => ((18, [some (.ref 1000), some (.ref 0), some (.ref 47), some (.int z_)], [], mm72) : am_S)) (ei_add rfl rfl)) ?_
          exact ih _ (by omega) (i + 6) mm72 rfl (by omega) hR73
        · refine pw_tab 35 1171 rfl (an_r _ _) (by omega) (by omega) rfl ?_
          refine lc_keep hq ⟨by omega, by omega⟩ hR (fun mm74 hR75 => ?_)
          refine pw_steps 2 (s' := (18, [some (.ref 1000), some (.ref 0), some (.ref 47), some (.int ((ei_ (i)) + (ei_ (6))))], [], mm74)) rfl ?_
          refine pw_cv (congrArg (fun z_ : Int32 => ((18, [some (.ref 1000), some (.ref 0), some (.ref 47), some (.int z_)], [], mm74) : am_S)) (ei_add rfl rfl)) ?_
          exact ih _ (by omega) (i + 6) mm74 rfl (by omega) hR75
        · refine pw_tab 36 1204 rfl (an_r _ _) (by omega) (by omega) rfl ?_
          refine lc_row hq ⟨by omega, by omega⟩ hR (fun mm76 hR77 => ?_)
          refine pw_steps 2 (s' := (18, [some (.ref 1000), some (.ref 0), some (.ref 47), some (.int ((ei_ (i)) + (ei_ (6))))], [], mm76)) rfl ?_
          refine pw_cv (congrArg (fun z_ : Int32 => ((18, [some (.ref 1000), some (.ref 0), some (.ref 47), some (.int z_)], [], mm76) : am_S)) (ei_add rfl rfl)) ?_
          exact ih _ (by omega) (i + 6) mm76 rfl (by omega) hR77
        · refine pw_tab 37 1247 rfl (an_r _ _) (by omega) (by omega) rfl ?_
          refine lc_put hq ⟨by omega, by omega⟩ hR (fun mm78 hR79 => ?_)
          refine pw_steps 2 (s' := (18, [some (.ref 1000), some (.ref 0), some (.ref 47), some (.int ((ei_ (i)) + (ei_ (6))))], [], mm78)) rfl ?_
          refine pw_cv (congrArg (fun z_ : Int32 => ((18, [some (.ref 1000), some (.ref 0), some (.ref 47), some (.int z_)], [], mm78) : am_S)) (ei_add rfl rfl)) ?_
          exact ih _ (by omega) (i + 6) mm78 rfl (by omega) hR79
        · refine pw_tab 38 1320 rfl (an_r _ _) (by omega) (by omega) rfl ?_
          refine lc_element hq ⟨by omega, by omega⟩ hR (fun mm80 hR81 => ?_)
          refine pw_steps 2 (s' := (18, [some (.ref 1000), some (.ref 0), some (.ref 47), some (.int ((ei_ (i)) + (ei_ (6))))], [], mm80)) rfl ?_
          refine pw_cv (congrArg (fun z_ : Int32 => ((18, [some (.ref 1000), some (.ref 0), some (.ref 47), some (.int z_)], [], mm80) : am_S)) (ei_add rfl rfl)) ?_
          exact ih _ (by omega) (i + 6) mm80 rfl (by omega) hR81
        · refine pw_tab 39 1354 rfl (an_r _ _) (by omega) (by omega) rfl ?_
          refine lc_shift hq ⟨by omega, by omega⟩ hR (fun mm82 hR83 => ?_)
          refine pw_steps 2 (s' := (18, [some (.ref 1000), some (.ref 0), some (.ref 47), some (.int ((ei_ (i)) + (ei_ (6))))], [], mm82)) rfl ?_
          refine pw_cv (congrArg (fun z_ : Int32 => ((18, [some (.ref 1000), some (.ref 0), some (.ref 47), some (.int z_)], [], mm82) : am_S)) (ei_add rfl rfl)) ?_
          exact ih _ (by omega) (i + 6) mm82 rfl (by omega) hR83
        · refine pw_tab 40 1417 rfl (an_r _ _) (by omega) (by omega) rfl ?_
          refine lc_taken hq ⟨by omega, by omega⟩ hR (fun mm84 hR85 => ?_)
          refine pw_steps 2 (s' := (18, [some (.ref 1000), some (.ref 0), some (.ref 47), some (.int ((ei_ (i)) + (ei_ (6))))], [], mm84)) rfl ?_
          refine pw_cv (congrArg (fun z_ : Int32 => ((18, [some (.ref 1000), some (.ref 0), some (.ref 47), some (.int z_)], [], mm84) : am_S)) (ei_add rfl rfl)) ?_
          exact ih _ (by omega) (i + 6) mm84 rfl (by omega) hR85
        · refine pw_tab 41 1450 rfl (an_r _ _) (by omega) (by omega) rfl ?_
          refine lc_count hq ⟨by omega, by omega⟩ hR (fun mm86 hR87 => ?_)
          refine pw_steps 2 (s' := (18, [some (.ref 1000), some (.ref 0), some (.ref 47), some (.int ((ei_ (i)) + (ei_ (6))))], [], mm86)) rfl ?_
          refine pw_cv (congrArg (fun z_ : Int32 => ((18, [some (.ref 1000), some (.ref 0), some (.ref 47), some (.int z_)], [], mm86) : am_S)) (ei_add rfl rfl)) ?_
          exact ih _ (by omega) (i + 6) mm86 rfl (by omega) hR87
        · refine pw_tabD rfl (an_r _ _) (by omega) ?_
          refine pw_steps 2 (s' := (18, [some (.ref 1000), some (.ref 0), some (.ref 47), some (.int ((ei_ (i)) + (ei_ (6))))], [], m)) rfl ?_
          refine pw_cv (congrArg (fun z_ : Int32 => ((18, [some (.ref 1000), some (.ref 0), some (.ref 47), some (.int z_)], [], m) : am_S)) (ei_add rfl rfl)) ?_
          exact ih _ (by omega) (i + 6) m rfl (by omega) hR
        · refine pw_tabD rfl (an_r _ _) (by omega) ?_
          refine pw_steps 2 (s' := (18, [some (.ref 1000), some (.ref 0), some (.ref 47), some (.int ((ei_ (i)) + (ei_ (6))))], [], m)) rfl ?_
          refine pw_cv (congrArg (fun z_ : Int32 => ((18, [some (.ref 1000), some (.ref 0), some (.ref 47), some (.int z_)], [], m) : am_S)) (ei_add rfl rfl)) ?_
          exact ih _ (by omega) (i + 6) m rfl (by omega) hR

