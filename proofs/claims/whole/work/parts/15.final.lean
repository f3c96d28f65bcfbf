theorem dLw_0 : decode code 0 = .ok (.new 7, 3) := by decide +kernel
theorem dLw_3 : decode code 3 = .ok (.dup, 1) := by decide +kernel
theorem dLw_4 : decode code 4 = .ok (.invokespecial 9, 3) := by decide +kernel
theorem dLw_7 : decode code 7 = .ok (.astore_n 1, 1) := by decide +kernel
theorem dLw_8 : decode code 8 = .ok (.new 10, 3) := by decide +kernel
theorem dLw_11 : decode code 11 = .ok (.dup, 1) := by decide +kernel
theorem dLw_12 : decode code 12 = .ok (.invokespecial 12, 3) := by decide +kernel
theorem dLw_15 : decode code 15 = .ok (.astore_n 2, 1) := by decide +kernel
theorem dLw_16 : decode code 16 = .ok (.iconst 0, 1) := by decide +kernel
theorem dLw_17 : decode code 17 = .ok (.istore_n 3, 1) := by decide +kernel
/-- what both objects hold when they are made -/
def am_m0 : am_M := (fun k => if k = 2 then (upd (fun _ => 0) (32 : Int32).toNatClampNeg 2) else (if k = 4 then (upd (upd (upd (upd (upd (upd (upd (upd (fun _ => 0) (0 : Int32).toNatClampNeg 0) (1 : Int32).toNatClampNeg 1) (2 : Int32).toNatClampNeg 2) (3 : Int32).toNatClampNeg 3) (4 : Int32).toNatClampNeg 4) (5 : Int32).toNatClampNeg 5) (6 : Int32).toNatClampNeg 6) (7 : Int32).toNatClampNeg 7) else (if k = 5 then (upd (upd (upd (upd (upd (upd (upd (upd (fun _ => 0) (0 : Int32).toNatClampNeg 100) (1 : Int32).toNatClampNeg 100) (2 : Int32).toNatClampNeg 100) (3 : Int32).toNatClampNeg 100) (4 : Int32).toNatClampNeg 100) (5 : Int32).toNatClampNeg 100) (6 : Int32).toNatClampNeg 100) (7 : Int32).toNatClampNeg 100) else (if k = 8 then (upd (upd (upd (upd (upd (upd (upd (upd (fun _ => 0) (0 : Int32).toNatClampNeg 0) (1 : Int32).toNatClampNeg 1) (2 : Int32).toNatClampNeg 2) (3 : Int32).toNatClampNeg 3) (4 : Int32).toNatClampNeg 4) (5 : Int32).toNatClampNeg 5) (6 : Int32).toNatClampNeg 6) (7 : Int32).toNatClampNeg 7) else (if k = 9 then (upd (upd (upd (upd (upd (upd (upd (upd (fun _ => 0) (0 : Int32).toNatClampNeg 100) (1 : Int32).toNatClampNeg 100) (2 : Int32).toNatClampNeg 100) (3 : Int32).toNatClampNeg 100) (4 : Int32).toNatClampNeg 100) (5 : Int32).toNatClampNeg 100) (6 : Int32).toNatClampNeg 100) (7 : Int32).toNatClampNeg 100) else (if k = 33 then (upd (fun _ => 0) 0 (-1)) else (if k = 35 then (upd (fun _ => 0) 0 (-1)) else (if k = 37 then (upd (fun _ => 0) 0 (-1)) else (if k = 39 then (upd (fun _ => 0) 0 (-1)) else (if k = 41 then (upd (fun _ => 0) 0 (-1)) else (if k = 43 then (upd (fun _ => 0) 0 (-1)) else (if k = 47 then (upd (fun _ => 0) 12 (-1)) else (if k = 48 then (upd (fun _ => 0) (32 : Int32).toNatClampNeg 2) else (if k = 68 then (upd (upd (upd (upd (upd (upd (fun _ => 0) (0 : Int32).toNatClampNeg (-1)) (1 : Int32).toNatClampNeg (-1)) (2 : Int32).toNatClampNeg (-1)) (3 : Int32).toNatClampNeg (-1)) (4 : Int32).toNatClampNeg (-1)) (5 : Int32).toNatClampNeg (-1)) else (fun _ => 0)))))))))))))), fun _ _ => 0)
/-- THE PURE GOAL: on every script the law's loop, from its head on, comes to 1 -/
def am_goal : Prop := ∀ q : am_X, q.1 ≤ 3072 → ∃ m' : am_M, am_E q 200 (some .boolean) tL_law (some (.int 1)) m' (18, [some (.ref 1000), some (.ref 0), some (.ref 47), some (.int 0)], [], am_m0)
set_option maxRecDepth 100000 in
set_option maxHeartbeats 16000000 in
theorem lw_final (hgoal : am_goal) (ok : ∀ (y : Nat) (I : am_Mi) (T : am_T), am_ms[y]? = some I → am_tb[y]? = some T → am_all (I, T) = true) (okm : ∀ (y : Nat) (I : am_Mi), am_ms[y]? = some I → am_mok I = true) (okL : am_Ck "NamesOnLoanLaw" code 4 tL_law) {p : Program} {e : Env} {s : State} {m : MethodId} {below : List Frame} {meth : Method} {c : Code} (l : Launch) {b L : Nat} {xs : Nat → Int32} (hL : L ≤ 3072) (C0 : lw_At p s m meth c b L xs) {dC : Nat → ClassId} {dI : Nat → Nat → Nat} {A : Nat → Prop} (hAe : A = am_A s.heap.size) {H : Heap} {locs : List Loc} {ls : Array Slot} {q1 q2 q3 q4 q5 q6 q7 q8 q9 q10 q11 q12 q13 q14 q15 q16 q17 q18 q19 q20 q21 q22 q23 q24 q25 q26 q27 q28 q29 q30 q31 q32 q33 q34 q35 q36 q37 q38 q39 q40 q41 q42 q43 q44 q45 q46 q47 q80 q81 q82 q83 q84 q85 q86 q87 q88 q89 q90 q91 q92 q93 q94 q95 q96 q97 q98 q99 q100 q101 q102 q103 q104 : Nat} {c48 c49 c50 c51 c52 c53 c54 c55 c56 c57 c58 c59 c60 c61 c62 c63 c64 c65 c66 c67 c68 c69 c70 c71 c72 c73 c74 c75 c76 c77 c78 c79 c105 c106 c107 c108 c109 c110 c111 c112 c113 c114 c115 c116 c117 c118 c119 c120 c121 c122 c123 c124 c125 c126 c127 c128 : ClassId} (hK : va_K (dC, dI) vwCl [(c48, .int), (c49, .int), (c50, .int), (c51, .int), (c52, .int), (c53, .int), (c54, .int), (c55, .int), (c56, .int), (c57, .int), (c58, .int), (c59, .int), (c60, .int), (c61, .int), (c62, .int), (c63, .int), (c64, .int), (c65, .int), (c66, .int), (c67, .int), (c68, .int), (c69, .int), (c70, .int), (c71, .object "NamesOnLoan$Shelf"), (c72, .long), (c73, .long), (c74, .long), (c75, .long), (c76, .long), (c77, .long), (c78, .int), (c79, .int), (c105, .int), (c106, .int), (c107, .int), (c108, .int), (c109, .int), (c110, .int), (c111, .int), (c112, .int), (c113, .int), (c114, .int), (c115, .int), (c116, .int), (c117, .boolean), (c118, .int), (c119, .int), (c120, .int), (c121, .int), (c122, .int), (c123, .int), (c124, .int), (c125, .int), (c126, .int), (c127, .long), (c128, .long)] s) (hP : va_P (dC, dI) vwCl [(q1, .inr (8, [.ref q2, .ref q4, .ref q8, .int 0, .ref q12, .ref q15, .ref q19, .ref q25, .ref q30, .ref q33, .ref q46, .ref q47])), (q2, .inr (3, [.ref q3, .int 0])), (q3, .inl (c48, 34, .inl (upd (fun _ => 0) (32 : Int32).toNatClampNeg 2))), (q4, .inr (2, [.ref q5, .ref q6, .ref q7, .int 0, .int 0, .int 0])), (q5, .inl (c49, 8, .inl (upd (upd (upd (upd (upd (upd (upd (upd (fun _ => 0) (0 : Int32).toNatClampNeg 0) (1 : Int32).toNatClampNeg 1) (2 : Int32).toNatClampNeg 2) (3 : Int32).toNatClampNeg 3) (4 : Int32).toNatClampNeg 4) (5 : Int32).toNatClampNeg 5) (6 : Int32).toNatClampNeg 6) (7 : Int32).toNatClampNeg 7))), (q6, .inl (c50, 8, .inl (upd (upd (upd (upd (upd (upd (upd (upd (fun _ => 0) (0 : Int32).toNatClampNeg 100) (1 : Int32).toNatClampNeg 100) (2 : Int32).toNatClampNeg 100) (3 : Int32).toNatClampNeg 100) (4 : Int32).toNatClampNeg 100) (5 : Int32).toNatClampNeg 100) (6 : Int32).toNatClampNeg 100) (7 : Int32).toNatClampNeg 100))), (q7, .inl (c51, 64, .inl (fun _ => 0))), (q8, .inr (2, [.ref q9, .ref q10, .ref q11, .int 0, .int 0, .int 0])), (q9, .inl (c52, 8, .inl (upd (upd (upd (upd (upd (upd (upd (upd (fun _ => 0) (0 : Int32).toNatClampNeg 0) (1 : Int32).toNatClampNeg 1) (2 : Int32).toNatClampNeg 2) (3 : Int32).toNatClampNeg 3) (4 : Int32).toNatClampNeg 4) (5 : Int32).toNatClampNeg 5) (6 : Int32).toNatClampNeg 6) (7 : Int32).toNatClampNeg 7))), (q10, .inl (c53, 8, .inl (upd (upd (upd (upd (upd (upd (upd (upd (fun _ => 0) (0 : Int32).toNatClampNeg 100) (1 : Int32).toNatClampNeg 100) (2 : Int32).toNatClampNeg 100) (3 : Int32).toNatClampNeg 100) (4 : Int32).toNatClampNeg 100) (5 : Int32).toNatClampNeg 100) (6 : Int32).toNatClampNeg 100) (7 : Int32).toNatClampNeg 100))), (q11, .inl (c54, 64, .inl (fun _ => 0))), (q12, .inr (6, [.ref q13, .int 0, .int 0, .ref q14, .int 0])), (q13, .inl (c55, 120, .inl (fun _ => 0))), (q14, .inl (c56, 128, .inl (fun _ => 0))), (q15, .inr (4, [.ref q16, .ref q17, .ref q18, .int 0])), (q16, .inl (c57, 128, .inl (fun _ => 0))), (q17, .inl (c58, 128, .inl (fun _ => 0))), (q18, .inl (c59, 6, .inl (fun _ => 0))), (q19, .inr (7, [.ref q20, .ref q21, .ref q22, .ref q23, .ref q24, .int 0])), (q20, .inl (c60, 5, .inl (fun _ => 0))), (q21, .inl (c61, 5, .inl (fun _ => 0))), (q22, .inl (c62, 5, .inl (fun _ => 0))), (q23, .inl (c63, 5, .inl (fun _ => 0))), (q24, .inl (c64, 125, .inl (fun _ => 0))), (q25, .inr (1, [.ref q26, .ref q27, .ref q28, .ref q29, .int 0, .int 0])), (q26, .inl (c65, 40, .inl (fun _ => 0))), (q27, .inl (c66, 40, .inl (fun _ => 0))), (q28, .inl (c67, 40, .inl (fun _ => 0))), (q29, .inl (c68, 40, .inl (fun _ => 0))), (q30, .inr (0, [.ref q31, .ref q32, .int 0, .int 0, .int 0])), (q31, .inl (c69, 50, .inl (fun _ => 0))), (q32, .inl (c70, 24, .inl (fun _ => 0))), (q33, .inl (c71, 6, .inr (.inr (.inr (.inr (va_up (va_up (va_up (va_up (va_up (va_up (fun _ => none) (0 : Int32).toNatClampNeg (some q34)) (1 : Int32).toNatClampNeg (some q36)) (2 : Int32).toNatClampNeg (some q38)) (3 : Int32).toNatClampNeg (some q40)) (4 : Int32).toNatClampNeg (some q42)) (5 : Int32).toNatClampNeg (some q44))))))), (q34, .inr (5, [.int (-1), .int 0, .int 0, .ref q35])), (q35, .inl (c72, 60, .inr (.inl (fun _ => 0)))), (q36, .inr (5, [.int (-1), .int 0, .int 0, .ref q37])), (q37, .inl (c73, 60, .inr (.inl (fun _ => 0)))), (q38, .inr (5, [.int (-1), .int 0, .int 0, .ref q39])), (q39, .inl (c74, 60, .inr (.inl (fun _ => 0)))), (q40, .inr (5, [.int (-1), .int 0, .int 0, .ref q41])), (q41, .inl (c75, 60, .inr (.inl (fun _ => 0)))), (q42, .inr (5, [.int (-1), .int 0, .int 0, .ref q43])), (q43, .inl (c76, 60, .inr (.inl (fun _ => 0)))), (q44, .inr (5, [.int (-1), .int 0, .int 0, .ref q45])), (q45, .inl (c77, 60, .inr (.inl (fun _ => 0)))), (q46, .inl (c78, 8, .inl (fun _ => 0))), (q47, .inl (c79, 80, .inl (fun _ => 0))), (q80, .inr (9, [.ref q81, .ref q82, .ref q83, .ref q84, .int 0, .int 0, .int 0, .ref q85, .ref q86, .ref q87, .int 0, .ref q88, .int (-1), .int 0, .int 0, .int 0, .int 0, .int 0, .ref q89, .ref q90, .ref q91, .ref q92, .int 0, .int 0, .ref q93, .ref q94, .int 0, .int 0, .int 0, .int 0, .int 0, .ref q95, .ref q96, .ref q97, .ref q98, .int 0, .ref q99, .ref q100, .int 0, .int 0, .int 0, .ref q101, .ref q102, .ref q103, .ref q104])), (q81, .inl (c105, 34, .inl (upd (fun _ => 0) (32 : Int32).toNatClampNeg 2))), (q82, .inl (c106, 40, .inl (fun _ => 0))), (q83, .inl (c107, 40, .inl (fun _ => 0))), (q84, .inl (c108, 40, .inl (fun _ => 0))), (q85, .inl (c109, 8, .inl (fun _ => 0))), (q86, .inl (c110, 8, .inl (fun _ => 0))), (q87, .inl (c111, 120, .inl (fun _ => 0))), (q88, .inl (c112, 120, .inl (fun _ => 0))), (q89, .inl (c113, 6, .inl (fun _ => 0))), (q90, .inl (c114, 8, .inl (fun _ => 0))), (q91, .inl (c115, 8, .inl (fun _ => 0))), (q92, .inl (c116, 8, .inl (fun _ => 0))), (q93, .inl (c117, 8, .inl (fun _ => 0))), (q94, .inl (c118, 64, .inl (fun _ => 0))), (q95, .inl (c119, 8, .inl (fun _ => 0))), (q96, .inl (c120, 8, .inl (fun _ => 0))), (q97, .inl (c121, 64, .inl (fun _ => 0))), (q98, .inl (c122, 3, .inl (fun _ => 0))), (q99, .inl (c123, 50, .inl (fun _ => 0))), (q100, .inl (c124, 24, .inl (fun _ => 0))), (q101, .inl (c125, 6, .inl (upd (upd (upd (upd (upd (upd (fun _ => 0) (0 : Int32).toNatClampNeg (-1)) (1 : Int32).toNatClampNeg (-1)) (2 : Int32).toNatClampNeg (-1)) (3 : Int32).toNatClampNeg (-1)) (4 : Int32).toNatClampNeg (-1)) (5 : Int32).toNatClampNeg (-1)))), (q102, .inl (c126, 6, .inl (fun _ => 0))), (q103, .inl (c127, 360, .inr (.inl (fun _ => 0)))), (q104, .inl (c128, 60, .inr (.inl (fun _ => 0))))] H) (hD : va_D A [(q1, .inr (8, [.ref q2, .ref q4, .ref q8, .int 0, .ref q12, .ref q15, .ref q19, .ref q25, .ref q30, .ref q33, .ref q46, .ref q47])), (q2, .inr (3, [.ref q3, .int 0])), (q3, .inl (c48, 34, .inl (upd (fun _ => 0) (32 : Int32).toNatClampNeg 2))), (q4, .inr (2, [.ref q5, .ref q6, .ref q7, .int 0, .int 0, .int 0])), (q5, .inl (c49, 8, .inl (upd (upd (upd (upd (upd (upd (upd (upd (fun _ => 0) (0 : Int32).toNatClampNeg 0) (1 : Int32).toNatClampNeg 1) (2 : Int32).toNatClampNeg 2) (3 : Int32).toNatClampNeg 3) (4 : Int32).toNatClampNeg 4) (5 : Int32).toNatClampNeg 5) (6 : Int32).toNatClampNeg 6) (7 : Int32).toNatClampNeg 7))), (q6, .inl (c50, 8, .inl (upd (upd (upd (upd (upd (upd (upd (upd (fun _ => 0) (0 : Int32).toNatClampNeg 100) (1 : Int32).toNatClampNeg 100) (2 : Int32).toNatClampNeg 100) (3 : Int32).toNatClampNeg 100) (4 : Int32).toNatClampNeg 100) (5 : Int32).toNatClampNeg 100) (6 : Int32).toNatClampNeg 100) (7 : Int32).toNatClampNeg 100))), (q7, .inl (c51, 64, .inl (fun _ => 0))), (q8, .inr (2, [.ref q9, .ref q10, .ref q11, .int 0, .int 0, .int 0])), (q9, .inl (c52, 8, .inl (upd (upd (upd (upd (upd (upd (upd (upd (fun _ => 0) (0 : Int32).toNatClampNeg 0) (1 : Int32).toNatClampNeg 1) (2 : Int32).toNatClampNeg 2) (3 : Int32).toNatClampNeg 3) (4 : Int32).toNatClampNeg 4) (5 : Int32).toNatClampNeg 5) (6 : Int32).toNatClampNeg 6) (7 : Int32).toNatClampNeg 7))), (q10, .inl (c53, 8, .inl (upd (upd (upd (upd (upd (upd (upd (upd (fun _ => 0) (0 : Int32).toNatClampNeg 100) (1 : Int32).toNatClampNeg 100) (2 : Int32).toNatClampNeg 100) (3 : Int32).toNatClampNeg 100) (4 : Int32).toNatClampNeg 100) (5 : Int32).toNatClampNeg 100) (6 : Int32).toNatClampNeg 100) (7 : Int32).toNatClampNeg 100))), (q11, .inl (c54, 64, .inl (fun _ => 0))), (q12, .inr (6, [.ref q13, .int 0, .int 0, .ref q14, .int 0])), (q13, .inl (c55, 120, .inl (fun _ => 0))), (q14, .inl (c56, 128, .inl (fun _ => 0))), (q15, .inr (4, [.ref q16, .ref q17, .ref q18, .int 0])), (q16, .inl (c57, 128, .inl (fun _ => 0))), (q17, .inl (c58, 128, .inl (fun _ => 0))), (q18, .inl (c59, 6, .inl (fun _ => 0))), (q19, .inr (7, [.ref q20, .ref q21, .ref q22, .ref q23, .ref q24, .int 0])), (q20, .inl (c60, 5, .inl (fun _ => 0))), (q21, .inl (c61, 5, .inl (fun _ => 0))), (q22, .inl (c62, 5, .inl (fun _ => 0))), (q23, .inl (c63, 5, .inl (fun _ => 0))), (q24, .inl (c64, 125, .inl (fun _ => 0))), (q25, .inr (1, [.ref q26, .ref q27, .ref q28, .ref q29, .int 0, .int 0])), (q26, .inl (c65, 40, .inl (fun _ => 0))), (q27, .inl (c66, 40, .inl (fun _ => 0))), (q28, .inl (c67, 40, .inl (fun _ => 0))), (q29, .inl (c68, 40, .inl (fun _ => 0))), (q30, .inr (0, [.ref q31, .ref q32, .int 0, .int 0, .int 0])), (q31, .inl (c69, 50, .inl (fun _ => 0))), (q32, .inl (c70, 24, .inl (fun _ => 0))), (q33, .inl (c71, 6, .inr (.inr (.inr (.inr (va_up (va_up (va_up (va_up (va_up (va_up (fun _ => none) (0 : Int32).toNatClampNeg (some q34)) (1 : Int32).toNatClampNeg (some q36)) (2 : Int32).toNatClampNeg (some q38)) (3 : Int32).toNatClampNeg (some q40)) (4 : Int32).toNatClampNeg (some q42)) (5 : Int32).toNatClampNeg (some q44))))))), (q34, .inr (5, [.int (-1), .int 0, .int 0, .ref q35])), (q35, .inl (c72, 60, .inr (.inl (fun _ => 0)))), (q36, .inr (5, [.int (-1), .int 0, .int 0, .ref q37])), (q37, .inl (c73, 60, .inr (.inl (fun _ => 0)))), (q38, .inr (5, [.int (-1), .int 0, .int 0, .ref q39])), (q39, .inl (c74, 60, .inr (.inl (fun _ => 0)))), (q40, .inr (5, [.int (-1), .int 0, .int 0, .ref q41])), (q41, .inl (c75, 60, .inr (.inl (fun _ => 0)))), (q42, .inr (5, [.int (-1), .int 0, .int 0, .ref q43])), (q43, .inl (c76, 60, .inr (.inl (fun _ => 0)))), (q44, .inr (5, [.int (-1), .int 0, .int 0, .ref q45])), (q45, .inl (c77, 60, .inr (.inl (fun _ => 0)))), (q46, .inl (c78, 8, .inl (fun _ => 0))), (q47, .inl (c79, 80, .inl (fun _ => 0))), (q80, .inr (9, [.ref q81, .ref q82, .ref q83, .ref q84, .int 0, .int 0, .int 0, .ref q85, .ref q86, .ref q87, .int 0, .ref q88, .int (-1), .int 0, .int 0, .int 0, .int 0, .int 0, .ref q89, .ref q90, .ref q91, .ref q92, .int 0, .int 0, .ref q93, .ref q94, .int 0, .int 0, .int 0, .int 0, .int 0, .ref q95, .ref q96, .ref q97, .ref q98, .int 0, .ref q99, .ref q100, .int 0, .int 0, .int 0, .ref q101, .ref q102, .ref q103, .ref q104])), (q81, .inl (c105, 34, .inl (upd (fun _ => 0) (32 : Int32).toNatClampNeg 2))), (q82, .inl (c106, 40, .inl (fun _ => 0))), (q83, .inl (c107, 40, .inl (fun _ => 0))), (q84, .inl (c108, 40, .inl (fun _ => 0))), (q85, .inl (c109, 8, .inl (fun _ => 0))), (q86, .inl (c110, 8, .inl (fun _ => 0))), (q87, .inl (c111, 120, .inl (fun _ => 0))), (q88, .inl (c112, 120, .inl (fun _ => 0))), (q89, .inl (c113, 6, .inl (fun _ => 0))), (q90, .inl (c114, 8, .inl (fun _ => 0))), (q91, .inl (c115, 8, .inl (fun _ => 0))), (q92, .inl (c116, 8, .inl (fun _ => 0))), (q93, .inl (c117, 8, .inl (fun _ => 0))), (q94, .inl (c118, 64, .inl (fun _ => 0))), (q95, .inl (c119, 8, .inl (fun _ => 0))), (q96, .inl (c120, 8, .inl (fun _ => 0))), (q97, .inl (c121, 64, .inl (fun _ => 0))), (q98, .inl (c122, 3, .inl (fun _ => 0))), (q99, .inl (c123, 50, .inl (fun _ => 0))), (q100, .inl (c124, 24, .inl (fun _ => 0))), (q101, .inl (c125, 6, .inl (upd (upd (upd (upd (upd (upd (fun _ => 0) (0 : Int32).toNatClampNeg (-1)) (1 : Int32).toNatClampNeg (-1)) (2 : Int32).toNatClampNeg (-1)) (3 : Int32).toNatClampNeg (-1)) (4 : Int32).toNatClampNeg (-1)) (5 : Int32).toNatClampNeg (-1)))), (q102, .inl (c126, 6, .inl (fun _ => 0))), (q103, .inl (c127, 360, .inr (.inl (fun _ => 0)))), (q104, .inl (c128, 60, .inr (.inl (fun _ => 0))))]) (hS : va_S A s.heap H locs) (hl : lv_has ls 4 [(3, .int 0), (2, .ref q80), (1, .ref q1), (0, .ref b)]) : W p l e room_1 s m #[Value.ref b] below meth c H locs 72 2759 (lw_Z below #[Value.ref b] s) (F0 m 18 ls []) := by
  obtain ⟨hx, hb, hr, hml, hown, hts0, hX, hbl, hlocks, hgv⟩ := id C0
  have hts : ∀ w ∈ lw_g, w.before #[Value.ref b] s = true := fun w hw => hts0 w (List.mem_filter.mp hw).1
  have hA' : ∀ a : Nat, a < s.heap.size → ¬ A a := fun a h h2 => by rw [hAe] at h2; exact Nat.not_le.mpr h h2
  have h9 : c48 = c49 := Option.some.inj (((hK.2 0 _ rfl).2 : s.vm.findClass _ = some c48).symm.trans ((hK.2 1 _ rfl).2 : s.vm.findClass _ = some c49))
  subst h9
  have h9 : c48 = c50 := Option.some.inj (((hK.2 0 _ rfl).2 : s.vm.findClass _ = some c48).symm.trans ((hK.2 2 _ rfl).2 : s.vm.findClass _ = some c50))
  subst h9
  have h9 : c48 = c51 := Option.some.inj (((hK.2 0 _ rfl).2 : s.vm.findClass _ = some c48).symm.trans ((hK.2 3 _ rfl).2 : s.vm.findClass _ = some c51))
  subst h9
  have h9 : c48 = c52 := Option.some.inj (((hK.2 0 _ rfl).2 : s.vm.findClass _ = some c48).symm.trans ((hK.2 4 _ rfl).2 : s.vm.findClass _ = some c52))
  subst h9
  have h9 : c48 = c53 := Option.some.inj (((hK.2 0 _ rfl).2 : s.vm.findClass _ = some c48).symm.trans ((hK.2 5 _ rfl).2 : s.vm.findClass _ = some c53))
  subst h9
  have h9 : c48 = c54 := Option.some.inj (((hK.2 0 _ rfl).2 : s.vm.findClass _ = some c48).symm.trans ((hK.2 6 _ rfl).2 : s.vm.findClass _ = some c54))
  subst h9
  have h9 : c48 = c55 := Option.some.inj (((hK.2 0 _ rfl).2 : s.vm.findClass _ = some c48).symm.trans ((hK.2 7 _ rfl).2 : s.vm.findClass _ = some c55))
  subst h9
  have h9 : c48 = c56 := Option.some.inj (((hK.2 0 _ rfl).2 : s.vm.findClass _ = some c48).symm.trans ((hK.2 8 _ rfl).2 : s.vm.findClass _ = some c56))
  subst h9
  have h9 : c48 = c57 := Option.some.inj (((hK.2 0 _ rfl).2 : s.vm.findClass _ = some c48).symm.trans ((hK.2 9 _ rfl).2 : s.vm.findClass _ = some c57))
  subst h9
  have h9 : c48 = c58 := Option.some.inj (((hK.2 0 _ rfl).2 : s.vm.findClass _ = some c48).symm.trans ((hK.2 10 _ rfl).2 : s.vm.findClass _ = some c58))
  subst h9
  have h9 : c48 = c59 := Option.some.inj (((hK.2 0 _ rfl).2 : s.vm.findClass _ = some c48).symm.trans ((hK.2 11 _ rfl).2 : s.vm.findClass _ = some c59))
  subst h9
  have h9 : c48 = c60 := Option.some.inj (((hK.2 0 _ rfl).2 : s.vm.findClass _ = some c48).symm.trans ((hK.2 12 _ rfl).2 : s.vm.findClass _ = some c60))
  subst h9
  have h9 : c48 = c61 := Option.some.inj (((hK.2 0 _ rfl).2 : s.vm.findClass _ = some c48).symm.trans ((hK.2 13 _ rfl).2 : s.vm.findClass _ = some c61))
  subst h9
  have h9 : c48 = c62 := Option.some.inj (((hK.2 0 _ rfl).2 : s.vm.findClass _ = some c48).symm.trans ((hK.2 14 _ rfl).2 : s.vm.findClass _ = some c62))
  subst h9
  have h9 : c48 = c63 := Option.some.inj (((hK.2 0 _ rfl).2 : s.vm.findClass _ = some c48).symm.trans ((hK.2 15 _ rfl).2 : s.vm.findClass _ = some c63))
  subst h9
  have h9 : c48 = c64 := Option.some.inj (((hK.2 0 _ rfl).2 : s.vm.findClass _ = some c48).symm.trans ((hK.2 16 _ rfl).2 : s.vm.findClass _ = some c64))
  subst h9
  have h9 : c48 = c65 := Option.some.inj (((hK.2 0 _ rfl).2 : s.vm.findClass _ = some c48).symm.trans ((hK.2 17 _ rfl).2 : s.vm.findClass _ = some c65))
  subst h9
  have h9 : c48 = c66 := Option.some.inj (((hK.2 0 _ rfl).2 : s.vm.findClass _ = some c48).symm.trans ((hK.2 18 _ rfl).2 : s.vm.findClass _ = some c66))
  subst h9
  have h9 : c48 = c67 := Option.some.inj (((hK.2 0 _ rfl).2 : s.vm.findClass _ = some c48).symm.trans ((hK.2 19 _ rfl).2 : s.vm.findClass _ = some c67))
  subst h9
  have h9 : c48 = c68 := Option.some.inj (((hK.2 0 _ rfl).2 : s.vm.findClass _ = some c48).symm.trans ((hK.2 20 _ rfl).2 : s.vm.findClass _ = some c68))
  subst h9
  have h9 : c48 = c69 := Option.some.inj (((hK.2 0 _ rfl).2 : s.vm.findClass _ = some c48).symm.trans ((hK.2 21 _ rfl).2 : s.vm.findClass _ = some c69))
  subst h9
  have h9 : c48 = c70 := Option.some.inj (((hK.2 0 _ rfl).2 : s.vm.findClass _ = some c48).symm.trans ((hK.2 22 _ rfl).2 : s.vm.findClass _ = some c70))
  subst h9
  have h9 : c48 = c78 := Option.some.inj (((hK.2 0 _ rfl).2 : s.vm.findClass _ = some c48).symm.trans ((hK.2 30 _ rfl).2 : s.vm.findClass _ = some c78))
  subst h9
  have h9 : c48 = c79 := Option.some.inj (((hK.2 0 _ rfl).2 : s.vm.findClass _ = some c48).symm.trans ((hK.2 31 _ rfl).2 : s.vm.findClass _ = some c79))
  subst h9
  have h9 : c48 = c105 := Option.some.inj (((hK.2 0 _ rfl).2 : s.vm.findClass _ = some c48).symm.trans ((hK.2 32 _ rfl).2 : s.vm.findClass _ = some c105))
  subst h9
  have h9 : c48 = c106 := Option.some.inj (((hK.2 0 _ rfl).2 : s.vm.findClass _ = some c48).symm.trans ((hK.2 33 _ rfl).2 : s.vm.findClass _ = some c106))
  subst h9
  have h9 : c48 = c107 := Option.some.inj (((hK.2 0 _ rfl).2 : s.vm.findClass _ = some c48).symm.trans ((hK.2 34 _ rfl).2 : s.vm.findClass _ = some c107))
  subst h9
  have h9 : c48 = c108 := Option.some.inj (((hK.2 0 _ rfl).2 : s.vm.findClass _ = some c48).symm.trans ((hK.2 35 _ rfl).2 : s.vm.findClass _ = some c108))
  subst h9
  have h9 : c48 = c109 := Option.some.inj (((hK.2 0 _ rfl).2 : s.vm.findClass _ = some c48).symm.trans ((hK.2 36 _ rfl).2 : s.vm.findClass _ = some c109))
  subst h9
  have h9 : c48 = c110 := Option.some.inj (((hK.2 0 _ rfl).2 : s.vm.findClass _ = some c48).symm.trans ((hK.2 37 _ rfl).2 : s.vm.findClass _ = some c110))
  subst h9
  have h9 : c48 = c111 := Option.some.inj (((hK.2 0 _ rfl).2 : s.vm.findClass _ = some c48).symm.trans ((hK.2 38 _ rfl).2 : s.vm.findClass _ = some c111))
  subst h9
  have h9 : c48 = c112 := Option.some.inj (((hK.2 0 _ rfl).2 : s.vm.findClass _ = some c48).symm.trans ((hK.2 39 _ rfl).2 : s.vm.findClass _ = some c112))
  subst h9
  have h9 : c48 = c113 := Option.some.inj (((hK.2 0 _ rfl).2 : s.vm.findClass _ = some c48).symm.trans ((hK.2 40 _ rfl).2 : s.vm.findClass _ = some c113))
  subst h9
  have h9 : c48 = c114 := Option.some.inj (((hK.2 0 _ rfl).2 : s.vm.findClass _ = some c48).symm.trans ((hK.2 41 _ rfl).2 : s.vm.findClass _ = some c114))
  subst h9
  have h9 : c48 = c115 := Option.some.inj (((hK.2 0 _ rfl).2 : s.vm.findClass _ = some c48).symm.trans ((hK.2 42 _ rfl).2 : s.vm.findClass _ = some c115))
  subst h9
  have h9 : c48 = c116 := Option.some.inj (((hK.2 0 _ rfl).2 : s.vm.findClass _ = some c48).symm.trans ((hK.2 43 _ rfl).2 : s.vm.findClass _ = some c116))
  subst h9
  have h9 : c48 = c118 := Option.some.inj (((hK.2 0 _ rfl).2 : s.vm.findClass _ = some c48).symm.trans ((hK.2 45 _ rfl).2 : s.vm.findClass _ = some c118))
  subst h9
  have h9 : c48 = c119 := Option.some.inj (((hK.2 0 _ rfl).2 : s.vm.findClass _ = some c48).symm.trans ((hK.2 46 _ rfl).2 : s.vm.findClass _ = some c119))
  subst h9
  have h9 : c48 = c120 := Option.some.inj (((hK.2 0 _ rfl).2 : s.vm.findClass _ = some c48).symm.trans ((hK.2 47 _ rfl).2 : s.vm.findClass _ = some c120))
  subst h9
  have h9 : c48 = c121 := Option.some.inj (((hK.2 0 _ rfl).2 : s.vm.findClass _ = some c48).symm.trans ((hK.2 48 _ rfl).2 : s.vm.findClass _ = some c121))
  subst h9
  have h9 : c48 = c122 := Option.some.inj (((hK.2 0 _ rfl).2 : s.vm.findClass _ = some c48).symm.trans ((hK.2 49 _ rfl).2 : s.vm.findClass _ = some c122))
  subst h9
  have h9 : c48 = c123 := Option.some.inj (((hK.2 0 _ rfl).2 : s.vm.findClass _ = some c48).symm.trans ((hK.2 50 _ rfl).2 : s.vm.findClass _ = some c123))
  subst h9
  have h9 : c48 = c124 := Option.some.inj (((hK.2 0 _ rfl).2 : s.vm.findClass _ = some c48).symm.trans ((hK.2 51 _ rfl).2 : s.vm.findClass _ = some c124))
  subst h9
  have h9 : c48 = c125 := Option.some.inj (((hK.2 0 _ rfl).2 : s.vm.findClass _ = some c48).symm.trans ((hK.2 52 _ rfl).2 : s.vm.findClass _ = some c125))
  subst h9
  have h9 : c48 = c126 := Option.some.inj (((hK.2 0 _ rfl).2 : s.vm.findClass _ = some c48).symm.trans ((hK.2 53 _ rfl).2 : s.vm.findClass _ = some c126))
  subst h9
  have h9 : c72 = c73 := Option.some.inj (((hK.2 24 _ rfl).2 : s.vm.findClass _ = some c72).symm.trans ((hK.2 25 _ rfl).2 : s.vm.findClass _ = some c73))
  subst h9
  have h9 : c72 = c74 := Option.some.inj (((hK.2 24 _ rfl).2 : s.vm.findClass _ = some c72).symm.trans ((hK.2 26 _ rfl).2 : s.vm.findClass _ = some c74))
  subst h9
  have h9 : c72 = c75 := Option.some.inj (((hK.2 24 _ rfl).2 : s.vm.findClass _ = some c72).symm.trans ((hK.2 27 _ rfl).2 : s.vm.findClass _ = some c75))
  subst h9
  have h9 : c72 = c76 := Option.some.inj (((hK.2 24 _ rfl).2 : s.vm.findClass _ = some c72).symm.trans ((hK.2 28 _ rfl).2 : s.vm.findClass _ = some c76))
  subst h9
  have h9 : c72 = c77 := Option.some.inj (((hK.2 24 _ rfl).2 : s.vm.findClass _ = some c72).symm.trans ((hK.2 29 _ rfl).2 : s.vm.findClass _ = some c77))
  subst h9
  have h9 : c72 = c127 := Option.some.inj (((hK.2 24 _ rfl).2 : s.vm.findClass _ = some c72).symm.trans ((hK.2 54 _ rfl).2 : s.vm.findClass _ = some c127))
  subst h9
  have h9 : c72 = c128 := Option.some.inj (((hK.2 24 _ rfl).2 : s.vm.findClass _ = some c72).symm.trans ((hK.2 55 _ rfl).2 : s.vm.findClass _ = some c128))
  subst h9
  have hK4 := hK.sub (tys' := [(c48, .int), (c117, .boolean), (c72, .long), (c71, .object "NamesOnLoan$Shelf")]) [0, 44, 24, 23] rfl
  obtain ⟨t0, hz0, hT0⟩ := st_0 (A := A) hts0 hgv hA'
  obtain ⟨t1, hz1, hT1⟩ := st_1 (A := A) hts0 hgv hA'
  obtain ⟨t2, hz2, hT2⟩ := st_2 (A := A) hts0 hgv hA'
  obtain ⟨t3, hz3, hT3⟩ := st_3 (A := A) hts0 hgv hA'
  obtain ⟨g, hg⟩ : ∃ g : am_G, g = (fun k => if k = 1000 then b else if k = 1001 then t0 else if k = 1002 then t1 else if k = 1003 then t2 else if k = 1004 then t3 else ([q1, q2, q3, q4, q5, q6, q7, q8, q9, q10, q11, q12, q13, q14, q15, q16, q17, q18, q19, q20, q21, q22, q23, q24, q25, q26, q27, q28, q29, q30, q31, q32, q33, q34, q35, q36, q37, q38, q39, q40, q41, q42, q43, q44, q45, q46, q47, q80, q81, q82, q83, q84, q85, q86, q87, q88, q89, q90, q91, q92, q93, q94, q95, q96, q97, q98, q99, q100, q101, q102, q103, q104] : List Nat).getD k 0, (dC, dI), (c48, c117, c72, c71)) := ⟨_, rfl⟩
  have hup : (va_up (va_up (va_up (va_up (va_up (va_up (fun _ => none) (0 : Int32).toNatClampNeg (some q34)) (1 : Int32).toNatClampNeg (some q36)) (2 : Int32).toNatClampNeg (some q38)) (3 : Int32).toNatClampNeg (some q40)) (4 : Int32).toNatClampNeg (some q42)) (5 : Int32).toNatClampNeg (some q44)) = (fun j => (([33, 35, 37, 39, 41, 43] : List Nat)[j]?).map g.1) := by
    rw [hg]
    funext j
    match j with
    | 0 => rfl
    | 1 => rfl
    | 2 => rfl
    | 3 => rfl
    | 4 => rfl
    | 5 => rfl
    | n + 6 =>
      have e : ∀ i : Nat, i < 6 → ¬ (n + 6 = i) := fun i h => by omega
      simp only [va_up]
      rw [if_neg (e _ (by decide)), if_neg (e _ (by decide)), if_neg (e _ (by decide)), if_neg (e _ (by decide)), if_neg (e _ (by decide)), if_neg (e _ (by decide))]
      rfl
  rw [hup] at hP hD
  have e0 : am_ws g am_m0 = [(q1, .inr (8, [.ref q2, .ref q4, .ref q8, .int 0, .ref q12, .ref q15, .ref q19, .ref q25, .ref q30, .ref q33, .ref q46, .ref q47])), (q2, .inr (3, [.ref q3, .int 0])), (q3, .inl (c48, 34, .inl (upd (fun _ => 0) (32 : Int32).toNatClampNeg 2))), (q4, .inr (2, [.ref q5, .ref q6, .ref q7, .int 0, .int 0, .int 0])), (q5, .inl (c48, 8, .inl (upd (upd (upd (upd (upd (upd (upd (upd (fun _ => 0) (0 : Int32).toNatClampNeg 0) (1 : Int32).toNatClampNeg 1) (2 : Int32).toNatClampNeg 2) (3 : Int32).toNatClampNeg 3) (4 : Int32).toNatClampNeg 4) (5 : Int32).toNatClampNeg 5) (6 : Int32).toNatClampNeg 6) (7 : Int32).toNatClampNeg 7))), (q6, .inl (c48, 8, .inl (upd (upd (upd (upd (upd (upd (upd (upd (fun _ => 0) (0 : Int32).toNatClampNeg 100) (1 : Int32).toNatClampNeg 100) (2 : Int32).toNatClampNeg 100) (3 : Int32).toNatClampNeg 100) (4 : Int32).toNatClampNeg 100) (5 : Int32).toNatClampNeg 100) (6 : Int32).toNatClampNeg 100) (7 : Int32).toNatClampNeg 100))), (q7, .inl (c48, 64, .inl (fun _ => 0))), (q8, .inr (2, [.ref q9, .ref q10, .ref q11, .int 0, .int 0, .int 0])), (q9, .inl (c48, 8, .inl (upd (upd (upd (upd (upd (upd (upd (upd (fun _ => 0) (0 : Int32).toNatClampNeg 0) (1 : Int32).toNatClampNeg 1) (2 : Int32).toNatClampNeg 2) (3 : Int32).toNatClampNeg 3) (4 : Int32).toNatClampNeg 4) (5 : Int32).toNatClampNeg 5) (6 : Int32).toNatClampNeg 6) (7 : Int32).toNatClampNeg 7))), (q10, .inl (c48, 8, .inl (upd (upd (upd (upd (upd (upd (upd (upd (fun _ => 0) (0 : Int32).toNatClampNeg 100) (1 : Int32).toNatClampNeg 100) (2 : Int32).toNatClampNeg 100) (3 : Int32).toNatClampNeg 100) (4 : Int32).toNatClampNeg 100) (5 : Int32).toNatClampNeg 100) (6 : Int32).toNatClampNeg 100) (7 : Int32).toNatClampNeg 100))), (q11, .inl (c48, 64, .inl (fun _ => 0))), (q12, .inr (6, [.ref q13, .int 0, .int 0, .ref q14, .int 0])), (q13, .inl (c48, 120, .inl (fun _ => 0))), (q14, .inl (c48, 128, .inl (fun _ => 0))), (q15, .inr (4, [.ref q16, .ref q17, .ref q18, .int 0])), (q16, .inl (c48, 128, .inl (fun _ => 0))), (q17, .inl (c48, 128, .inl (fun _ => 0))), (q18, .inl (c48, 6, .inl (fun _ => 0))), (q19, .inr (7, [.ref q20, .ref q21, .ref q22, .ref q23, .ref q24, .int 0])), (q20, .inl (c48, 5, .inl (fun _ => 0))), (q21, .inl (c48, 5, .inl (fun _ => 0))), (q22, .inl (c48, 5, .inl (fun _ => 0))), (q23, .inl (c48, 5, .inl (fun _ => 0))), (q24, .inl (c48, 125, .inl (fun _ => 0))), (q25, .inr (1, [.ref q26, .ref q27, .ref q28, .ref q29, .int 0, .int 0])), (q26, .inl (c48, 40, .inl (fun _ => 0))), (q27, .inl (c48, 40, .inl (fun _ => 0))), (q28, .inl (c48, 40, .inl (fun _ => 0))), (q29, .inl (c48, 40, .inl (fun _ => 0))), (q30, .inr (0, [.ref q31, .ref q32, .int 0, .int 0, .int 0])), (q31, .inl (c48, 50, .inl (fun _ => 0))), (q32, .inl (c48, 24, .inl (fun _ => 0))), (q33, .inl (c71, 6, .inr (.inr (.inr (.inr (fun j => (([33, 35, 37, 39, 41, 43] : List Nat)[j]?).map g.1)))))), (q34, .inr (5, [.int (-1), .int 0, .int 0, .ref q35])), (q35, .inl (c72, 60, .inr (.inl (fun _ => 0)))), (q36, .inr (5, [.int (-1), .int 0, .int 0, .ref q37])), (q37, .inl (c72, 60, .inr (.inl (fun _ => 0)))), (q38, .inr (5, [.int (-1), .int 0, .int 0, .ref q39])), (q39, .inl (c72, 60, .inr (.inl (fun _ => 0)))), (q40, .inr (5, [.int (-1), .int 0, .int 0, .ref q41])), (q41, .inl (c72, 60, .inr (.inl (fun _ => 0)))), (q42, .inr (5, [.int (-1), .int 0, .int 0, .ref q43])), (q43, .inl (c72, 60, .inr (.inl (fun _ => 0)))), (q44, .inr (5, [.int (-1), .int 0, .int 0, .ref q45])), (q45, .inl (c72, 60, .inr (.inl (fun _ => 0)))), (q46, .inl (c48, 8, .inl (fun _ => 0))), (q47, .inl (c48, 80, .inl (fun _ => 0))), (q80, .inr (9, [.ref q81, .ref q82, .ref q83, .ref q84, .int 0, .int 0, .int 0, .ref q85, .ref q86, .ref q87, .int 0, .ref q88, .int (-1), .int 0, .int 0, .int 0, .int 0, .int 0, .ref q89, .ref q90, .ref q91, .ref q92, .int 0, .int 0, .ref q93, .ref q94, .int 0, .int 0, .int 0, .int 0, .int 0, .ref q95, .ref q96, .ref q97, .ref q98, .int 0, .ref q99, .ref q100, .int 0, .int 0, .int 0, .ref q101, .ref q102, .ref q103, .ref q104])), (q81, .inl (c48, 34, .inl (upd (fun _ => 0) (32 : Int32).toNatClampNeg 2))), (q82, .inl (c48, 40, .inl (fun _ => 0))), (q83, .inl (c48, 40, .inl (fun _ => 0))), (q84, .inl (c48, 40, .inl (fun _ => 0))), (q85, .inl (c48, 8, .inl (fun _ => 0))), (q86, .inl (c48, 8, .inl (fun _ => 0))), (q87, .inl (c48, 120, .inl (fun _ => 0))), (q88, .inl (c48, 120, .inl (fun _ => 0))), (q89, .inl (c48, 6, .inl (fun _ => 0))), (q90, .inl (c48, 8, .inl (fun _ => 0))), (q91, .inl (c48, 8, .inl (fun _ => 0))), (q92, .inl (c48, 8, .inl (fun _ => 0))), (q93, .inl (c117, 8, .inl (fun _ => 0))), (q94, .inl (c48, 64, .inl (fun _ => 0))), (q95, .inl (c48, 8, .inl (fun _ => 0))), (q96, .inl (c48, 8, .inl (fun _ => 0))), (q97, .inl (c48, 64, .inl (fun _ => 0))), (q98, .inl (c48, 3, .inl (fun _ => 0))), (q99, .inl (c48, 50, .inl (fun _ => 0))), (q100, .inl (c48, 24, .inl (fun _ => 0))), (q101, .inl (c48, 6, .inl (upd (upd (upd (upd (upd (upd (fun _ => 0) (0 : Int32).toNatClampNeg (-1)) (1 : Int32).toNatClampNeg (-1)) (2 : Int32).toNatClampNeg (-1)) (3 : Int32).toNatClampNeg (-1)) (4 : Int32).toNatClampNeg (-1)) (5 : Int32).toNatClampNeg (-1)))), (q102, .inl (c48, 6, .inl (fun _ => 0))), (q103, .inl (c72, 360, .inr (.inl (fun _ => 0)))), (q104, .inl (c72, 60, .inr (.inl (fun _ => 0))))] := by
    rw [hg]
    rfl
  have hg1 : g.2.1 = (dC, dI) := by rw [hg]
  rw [← e0] at hP hD
  have hP : va_P g.2.1 vwCl (am_ws g am_m0) H := by rw [hg1]; exact hP
  have hAd : am_Ad s.heap.size g := by
    have key : ∀ i, i < 72 → ∃ x : va_E, (am_ws g am_m0)[i]? = some (g.1 i, x) := by
      intro i hi
      have : am_sk[i]? = some (am_sk[i]'hi) := List.getElem?_eq_getElem hi
      exact ⟨_, am_ws_at g am_m0 this⟩
    refine ⟨fun i j hi hj e => ?_, fun i hi => ?_⟩
    · obtain ⟨x, hx⟩ := key i hi
      obtain ⟨y, hy⟩ := key j hj
      exact hD.1 i j _ _ hx hy e
    · obtain ⟨x, hx⟩ := key i hi
      have := hD.2 i _ hx
      rw [hAe] at this
      exact this
  have hT : va_T .int b L (fun j => .int (xs j)) A s s.heap := by
    obtain ⟨scr, h1, h2, h3, h4, h5⟩ := hX
    exact ⟨scr, h1, h2, h3, Nat.le_of_eq h4.symm, by rw [h4], h5, hA' b hbl⟩
  have hWd : am_Wd s.heap.size g (L, xs) s := by
    unfold am_Wd
    rw [← hAe]
    refine ⟨?_, ?_, ?_, Nat.le_refl _⟩
    · rw [hg1]
      have : am_tys g = [(c48, .int), (c117, .boolean), (c72, .long), (c71, .object "NamesOnLoan$Shelf")] := by rw [hg]; rfl
      rw [this]
      exact hK4
    · intro r x hr
      unfold am_ro at hr
      by_cases h0 : r = 1000
      · subst h0; rw [if_pos rfl] at hr; cases hr; rw [show g.1 1000 = b by rw [hg]; rfl]; exact hT
      rw [if_neg h0] at hr
      by_cases h1 : r = 1001
      · subst h1; rw [if_pos rfl] at hr; cases hr; rw [show g.1 1001 = t0 by rw [hg]; rfl]; exact hT0
      rw [if_neg h1] at hr
      by_cases h2 : r = 1002
      · subst h2; rw [if_pos rfl] at hr; cases hr; rw [show g.1 1002 = t1 by rw [hg]; rfl]; exact hT1
      rw [if_neg h2] at hr
      by_cases h3 : r = 1003
      · subst h3; rw [if_pos rfl] at hr; cases hr; rw [show g.1 1003 = t2 by rw [hg]; rfl]; exact hT2
      rw [if_neg h3] at hr
      by_cases h4 : r = 1004
      · subst h4; rw [if_pos rfl] at hr; cases hr; rw [show g.1 1004 = t3 by rw [hg]; rfl]; exact hT3
      rw [if_neg h4] at hr
      cases hr
    · intro i cc hi hcc
      match i, hi, hcc with
      | 1, _, hcc => cases hcc; rw [show g.1 (1000 + 1) = t0 by rw [hg]; rfl]; exact hz0
      | 2, _, hcc => cases hcc; rw [show g.1 (1000 + 2) = t1 by rw [hg]; rfl]; exact hz1
      | 3, _, hcc => cases hcc; rw [show g.1 (1000 + 3) = t2 by rw [hg]; rfl]; exact hz2
      | 4, _, hcc => cases hcc; rw [show g.1 (1000 + 4) = t3 by rw [hg]; rfl]; exact hz3
      | n + 5, _, hcc => cases hcc
  have X : am_Cx p room_1 s m #[Value.ref b] c 72 2759 "NamesOnLoanLaw" code 4 s.heap.size g (L, xs) := ⟨hx, hb, hml, hown, hts, hWd, hAd, ⟨Nat.le_of_ble_eq_true rfl, Nat.le_of_ble_eq_true rfl⟩, Nat.le_of_ble_eq_true rfl, Nat.le_of_ble_eq_true rfl⟩
  have hRm : am_Rm room_1 (am_room 200) := ⟨rfl, rfl, Nat.le_of_ble_eq_true rfl, Nat.le_of_ble_eq_true rfl⟩
  obtain ⟨m', n, hn⟩ := hgoal (L, xs) hL
  have hRt : am_Rt p l e room_1 s m #[Value.ref b] below meth c 72 2759 (lw_Z below #[Value.ref b] s) code s.heap.size g (some .boolean) (some (.int 1)) m' := by
    intro H' locs' ls' pc' hP' hS'
    refine ⟨fun v hr1 _ hd => ?_, fun v hr1 _ hd => (by cases hr1), fun hr1 _ hd => (by cases hr1)⟩
    cases hr1
    refine va_forget (fun q hq => hS'.2.2 q hq) ?_
    refine W.widen (k := 600000) (n := 7302250) (Nat.le_of_ble_eq_true rfl) (Nat.le_of_ble_eq_true rfl) ?_
    exact lw_ret hx hb hr hlocks hd
  rw [hAe] at hS
  have hlL : am_L g.1 ls 4 [some (.ref 1000), some (.ref 0), some (.ref 47), some (.int 0)] := by
    refine ⟨hl.1, hl.2.1, fun i v hi => ?_⟩
    match i, hi with
    | 0, hi => cases hi; show ls[0]? = some (.val (.ref (g.1 1000))); rw [show g.1 1000 = b by rw [hg]; rfl]; exact lv_at hl 3 rfl
    | 1, hi => cases hi; show ls[1]? = some (.val (.ref (g.1 0))); rw [show g.1 0 = q1 by rw [hg]; rfl]; exact lv_at hl 2 rfl
    | 2, hi => cases hi; show ls[2]? = some (.val (.ref (g.1 47))); rw [show g.1 47 = q80 by rw [hg]; rfl]; exact lv_at hl 1 rfl
    | 3, hi => cases hi; exact lv_at hl 0 rfl
    | i + 4, hi => cases hi
  exact am_ev_sound okm X hRm (am_sound l s.heap.size g (L, xs) hAd ok okm 200) okL hRt n _ hn H locs ls hP hS hlL
