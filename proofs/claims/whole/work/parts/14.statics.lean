/-! THE CLAIM OUT OF ONE WALK OF THE LAW'S BODY. Your part is whole_start (and what it stands on); all else here is the same for every law, but numbers. -/
def R_law : String := "NamesOnLoanLaw"
def lw_P (b : Addr) (xs : List Int32) (args : Array Value) (s : State) : Prop := args = #[.ref b] ∧ s.IntsAt b xs ∧ xs.length ≤ 3072 ∧ (Jvm.Cond.and given_1 narrow_1).before args s = true
def lw_Q (_ : Array Value) (s : State) (o : Outcome) (t : State) : Prop := o = .returned (some (.int 1)) ∧ Framed s o t [] 600000 7302250
def lw_Z (below : List Frame) (a : Array Value) (s : State) : State → Prop := fun t => ∃ o, t.status = .running ∧ Ended t below o ∧ lw_Q a s o t
/-- the law's own end, with 1 on the stack, nothing written that was there before, its room as the claim has it -/
theorem lw_ret {p : Program} {l : Launch} {e : Env} {s : State} {m : MethodId} {below : List Frame} {meth : Method} {c : Code} {b : Nat} (hx : p.tables.exec = Jvm.exec) (hb : c.code = code) (hr : meth.sig.returnType = ret) (hlocks : meth.locks = false) {pc : Nat} {H : Heap} {ls : Array Slot} (hdg : decode code pc = .ok (.ireturn, 1)) : W p l e room_1 s m #[Value.ref b] below meth c H [] 600000 7302250 (lw_Z below #[Value.ref b] s) (F0 m pc ls [.int 1]) := by
  intro T hT X
  obtain ⟨fs, hret, hrun, hended, hW, hframe⟩ := X.leave (v := some (.int 1)) (hlocks := hlocks) (fun h => by rw [hr] at h; cases h)
  have hmeth' : T.vm.method? m = some meth := X.method'
  refine ⟨T.setFrames fs, ?_, .returned (some (.int 1)), hrun, hended, rfl, ⟨_, rfl⟩, hW, hframe⟩
  jvm_step X.here [X.here.top, hx, hb, hdg, hmeth', hr, ret, narrow_b1]
  (try refine ⟨rfl, ?_⟩); (try refine ⟨rfl, ?_⟩)
  first | (intro acts; rw [hret _ acts rfl rfl rfl]) | rw [hret _ _ rfl rfl rfl]
  exact Steps.refl _
/-- what holds at the law's entry: the machine, the code, the tables' words (any of lw_tbl by 'hts w (by decide +kernel)'), the script of L ints xs at the cell b, what the Statement gives of the start (any of its parts by flat_of_before) -/
def lw_At (p : Program) (s : State) (m : MethodId) (meth : Method) (c : Code) (b L : Nat) (xs : Nat → Int32) : Prop :=
  p.tables.exec = Jvm.exec ∧ c.code = code ∧ meth.sig.returnType = ret ∧ c.maxLocals = 4 ∧ s.vm.findClass R_law = some m.cls ∧ (∀ w ∈ lw_tbl, w.before #[Value.ref b] s = true) ∧ va_X b L xs s s.heap ∧ b < s.heap.size ∧ meth.locks = false ∧ (Jvm.Cond.and given_1 narrow_1).before #[Value.ref b] s = true
def RXL : String := "NamesOnLoanLaw"
set_option maxRecDepth 20000 in
set_option maxHeartbeats 4000000 in
theorem st_0 {s : State} {b : Nat} {A : Nat → Prop} (hts : ∀ w ∈ lw_tbl, w.before #[Value.ref b] s = true) (hgv : (Jvm.Cond.and given_1 narrow_1).before #[Value.ref b] s = true) (hA : ∀ a : Nat, a < s.heap.size → ¬ A a) : ∃ t : Nat, va_Z "NamesOnLoan$Folk" "LOWEST" "[I" (.ref t) A s s.heap ∧ va_T .int t 6 (fun j => .int (am_low j)) A s s.heap := by
  have hs := flat_of_before _ hgv
  have harr : (Cond.arrayOf (Term.static "NamesOnLoan$Folk" "LOWEST" "[I") .int).before #[Value.ref b] s = true := hs _ (by decide +kernel)
  have hlen := va_eqt (hs (Cond.eq (.length (Term.static "NamesOnLoan$Folk" "LOWEST" "[I")) (.int 6)) (by decide +kernel))
  have e0 := va_eqt (hs (Cond.eq (.elem (Term.static "NamesOnLoan$Folk" "LOWEST" "[I") (.int 0)) (.int 1)) (by decide +kernel))
  have e1 := va_eqt (hs (Cond.eq (.elem (Term.static "NamesOnLoan$Folk" "LOWEST" "[I") (.int 1)) (.int 0)) (by decide +kernel))
  have e2 := va_eqt (hs (Cond.eq (.elem (Term.static "NamesOnLoan$Folk" "LOWEST" "[I") (.int 2)) (.int 1)) (by decide +kernel))
  have e3 := va_eqt (hs (Cond.eq (.elem (Term.static "NamesOnLoan$Folk" "LOWEST" "[I") (.int 3)) (.int 0)) (by decide +kernel))
  have e4 := va_eqt (hs (Cond.eq (.elem (Term.static "NamesOnLoan$Folk" "LOWEST" "[I") (.int 4)) (.int 0)) (by decide +kernel))
  have e5 := va_eqt (hs (Cond.eq (.elem (Term.static "NamesOnLoan$Folk" "LOWEST" "[I") (.int 5)) (.int 0)) (by decide +kernel))
  have hel : ∀ j : Nat, j < 6 → (Term.elem (Term.static "NamesOnLoan$Folk" "LOWEST" "[I") (.int (Int32.ofNat j))).eval #[Value.ref b] s none [] s = some (.int (am_low j)) := by
    intro j hj
    rcases (show j = 0 ∨ j = 1 ∨ j = 2 ∨ j = 3 ∨ j = 4 ∨ j = 5 by omega) with rfl | rfl | rfl | rfl | rfl | rfl
    · exact e0
    · exact e1
    · exact e2
    · exact e3
    · exact e4
    · exact e5
  obtain ⟨t, ht, hT⟩ := va_Tof (A := A) (by decide) harr hlen hel hA
  exact ⟨t, va_Zref (hts (.laysStatic "NamesOnLoan$Folk" "LOWEST" "[I") (List.mem_of_getElem? (i := 321) (by decide +kernel))) (hts (.initialized "NamesOnLoan$Folk") (List.mem_of_getElem? (i := 83) (by decide +kernel))) ht hA, hT⟩
set_option maxRecDepth 20000 in
set_option maxHeartbeats 4000000 in
theorem st_1 {s : State} {b : Nat} {A : Nat → Prop} (hts : ∀ w ∈ lw_tbl, w.before #[Value.ref b] s = true) (hgv : (Jvm.Cond.and given_1 narrow_1).before #[Value.ref b] s = true) (hA : ∀ a : Nat, a < s.heap.size → ¬ A a) : ∃ t : Nat, va_Z "NamesOnLoan$Folk" "HIGHEST" "[I" (.ref t) A s s.heap ∧ va_T .int t 6 (fun j => .int (am_high j)) A s s.heap := by
  have hs := flat_of_before _ hgv
  have harr : (Cond.arrayOf (Term.static "NamesOnLoan$Folk" "HIGHEST" "[I") .int).before #[Value.ref b] s = true := hs _ (by decide +kernel)
  have hlen := va_eqt (hs (Cond.eq (.length (Term.static "NamesOnLoan$Folk" "HIGHEST" "[I")) (.int 6)) (by decide +kernel))
  have e0 := va_eqt (hs (Cond.eq (.elem (Term.static "NamesOnLoan$Folk" "HIGHEST" "[I") (.int 0)) (.int 9)) (by decide +kernel))
  have e1 := va_eqt (hs (Cond.eq (.elem (Term.static "NamesOnLoan$Folk" "HIGHEST" "[I") (.int 1)) (.int 9)) (by decide +kernel))
  have e2 := va_eqt (hs (Cond.eq (.elem (Term.static "NamesOnLoan$Folk" "HIGHEST" "[I") (.int 2)) (.int 9)) (by decide +kernel))
  have e3 := va_eqt (hs (Cond.eq (.elem (Term.static "NamesOnLoan$Folk" "HIGHEST" "[I") (.int 3)) (.int 1)) (by decide +kernel))
  have e4 := va_eqt (hs (Cond.eq (.elem (Term.static "NamesOnLoan$Folk" "HIGHEST" "[I") (.int 4)) (.int 9)) (by decide +kernel))
  have e5 := va_eqt (hs (Cond.eq (.elem (Term.static "NamesOnLoan$Folk" "HIGHEST" "[I") (.int 5)) (.int 9)) (by decide +kernel))
  have hel : ∀ j : Nat, j < 6 → (Term.elem (Term.static "NamesOnLoan$Folk" "HIGHEST" "[I") (.int (Int32.ofNat j))).eval #[Value.ref b] s none [] s = some (.int (am_high j)) := by
    intro j hj
    rcases (show j = 0 ∨ j = 1 ∨ j = 2 ∨ j = 3 ∨ j = 4 ∨ j = 5 by omega) with rfl | rfl | rfl | rfl | rfl | rfl
    · exact e0
    · exact e1
    · exact e2
    · exact e3
    · exact e4
    · exact e5
  obtain ⟨t, ht, hT⟩ := va_Tof (A := A) (by decide) harr hlen hel hA
  exact ⟨t, va_Zref (hts (.laysStatic "NamesOnLoan$Folk" "HIGHEST" "[I") (List.mem_of_getElem? (i := 323) (by decide +kernel))) (hts (.initialized "NamesOnLoan$Folk") (List.mem_of_getElem? (i := 83) (by decide +kernel))) ht hA, hT⟩
set_option maxRecDepth 20000 in
set_option maxHeartbeats 4000000 in
theorem st_2 {s : State} {b : Nat} {A : Nat → Prop} (hts : ∀ w ∈ lw_tbl, w.before #[Value.ref b] s = true) (hgv : (Jvm.Cond.and given_1 narrow_1).before #[Value.ref b] s = true) (hA : ∀ a : Nat, a < s.heap.size → ¬ A a) : ∃ t : Nat, va_Z "NamesOnLoan$Acts" "ABOVE" "[I" (.ref t) A s s.heap ∧ va_T .int t 8 (fun j => .int (am_above j)) A s s.heap := by
  have hs := flat_of_before _ hgv
  have harr : (Cond.arrayOf (Term.static "NamesOnLoan$Acts" "ABOVE" "[I") .int).before #[Value.ref b] s = true := hs _ (by decide +kernel)
  have hlen := va_eqt (hs (Cond.eq (.length (Term.static "NamesOnLoan$Acts" "ABOVE" "[I")) (.int 8)) (by decide +kernel))
  have e0 := va_eqt (hs (Cond.eq (.elem (Term.static "NamesOnLoan$Acts" "ABOVE" "[I") (.int 0)) (.int (-1))) (by decide +kernel))
  have e1 := va_eqt (hs (Cond.eq (.elem (Term.static "NamesOnLoan$Acts" "ABOVE" "[I") (.int 1)) (.int 0)) (by decide +kernel))
  have e2 := va_eqt (hs (Cond.eq (.elem (Term.static "NamesOnLoan$Acts" "ABOVE" "[I") (.int 2)) (.int 0)) (by decide +kernel))
  have e3 := va_eqt (hs (Cond.eq (.elem (Term.static "NamesOnLoan$Acts" "ABOVE" "[I") (.int 3)) (.int 2)) (by decide +kernel))
  have e4 := va_eqt (hs (Cond.eq (.elem (Term.static "NamesOnLoan$Acts" "ABOVE" "[I") (.int 4)) (.int 1)) (by decide +kernel))
  have e5 := va_eqt (hs (Cond.eq (.elem (Term.static "NamesOnLoan$Acts" "ABOVE" "[I") (.int 5)) (.int 3)) (by decide +kernel))
  have e6 := va_eqt (hs (Cond.eq (.elem (Term.static "NamesOnLoan$Acts" "ABOVE" "[I") (.int 6)) (.int 0)) (by decide +kernel))
  have e7 := va_eqt (hs (Cond.eq (.elem (Term.static "NamesOnLoan$Acts" "ABOVE" "[I") (.int 7)) (.int 4)) (by decide +kernel))
  have hel : ∀ j : Nat, j < 8 → (Term.elem (Term.static "NamesOnLoan$Acts" "ABOVE" "[I") (.int (Int32.ofNat j))).eval #[Value.ref b] s none [] s = some (.int (am_above j)) := by
    intro j hj
    rcases (show j = 0 ∨ j = 1 ∨ j = 2 ∨ j = 3 ∨ j = 4 ∨ j = 5 ∨ j = 6 ∨ j = 7 by omega) with rfl | rfl | rfl | rfl | rfl | rfl | rfl | rfl
    · exact e0
    · exact e1
    · exact e2
    · exact e3
    · exact e4
    · exact e5
    · exact e6
    · exact e7
  obtain ⟨t, ht, hT⟩ := va_Tof (A := A) (by decide) harr hlen hel hA
  exact ⟨t, va_Zref (hts (.laysStatic "NamesOnLoan$Acts" "ABOVE" "[I") (List.mem_of_getElem? (i := 902) (by decide +kernel))) (hts (.initialized "NamesOnLoan$Acts") (List.mem_of_getElem? (i := 89) (by decide +kernel))) ht hA, hT⟩
set_option maxRecDepth 20000 in
set_option maxHeartbeats 4000000 in
theorem st_3 {s : State} {b : Nat} {A : Nat → Prop} (hts : ∀ w ∈ lw_tbl, w.before #[Value.ref b] s = true) (hgv : (Jvm.Cond.and given_1 narrow_1).before #[Value.ref b] s = true) (hA : ∀ a : Nat, a < s.heap.size → ¬ A a) : ∃ t : Nat, va_Z "NamesOnLoan$Acts" "BODIES" "[I" (.ref t) A s s.heap ∧ va_T .int t 32 (fun j => .int (am_bodies j)) A s s.heap := by
  have hs := flat_of_before _ hgv
  have harr : (Cond.arrayOf (Term.static "NamesOnLoan$Acts" "BODIES" "[I") .int).before #[Value.ref b] s = true := hs _ (by decide +kernel)
  have hlen := va_eqt (hs (Cond.eq (.length (Term.static "NamesOnLoan$Acts" "BODIES" "[I")) (.int 32)) (by decide +kernel))
  have e0 := va_eqt (hs (Cond.eq (.elem (Term.static "NamesOnLoan$Acts" "BODIES" "[I") (.int 0)) (.int 1)) (by decide +kernel))
  have e1 := va_eqt (hs (Cond.eq (.elem (Term.static "NamesOnLoan$Acts" "BODIES" "[I") (.int 1)) (.int 10)) (by decide +kernel))
  have e2 := va_eqt (hs (Cond.eq (.elem (Term.static "NamesOnLoan$Acts" "BODIES" "[I") (.int 2)) (.int 11)) (by decide +kernel))
  have e3 := va_eqt (hs (Cond.eq (.elem (Term.static "NamesOnLoan$Acts" "BODIES" "[I") (.int 3)) (.int 2)) (by decide +kernel))
  have e4 := va_eqt (hs (Cond.eq (.elem (Term.static "NamesOnLoan$Acts" "BODIES" "[I") (.int 4)) (.int 20)) (by decide +kernel))
  have e5 := va_eqt (hs (Cond.eq (.elem (Term.static "NamesOnLoan$Acts" "BODIES" "[I") (.int 5)) (.int 0)) (by decide +kernel))
  have e6 := va_eqt (hs (Cond.eq (.elem (Term.static "NamesOnLoan$Acts" "BODIES" "[I") (.int 6)) (.int 0)) (by decide +kernel))
  have e7 := va_eqt (hs (Cond.eq (.elem (Term.static "NamesOnLoan$Acts" "BODIES" "[I") (.int 7)) (.int 0)) (by decide +kernel))
  have e8 := va_eqt (hs (Cond.eq (.elem (Term.static "NamesOnLoan$Acts" "BODIES" "[I") (.int 8)) (.int 0)) (by decide +kernel))
  have e9 := va_eqt (hs (Cond.eq (.elem (Term.static "NamesOnLoan$Acts" "BODIES" "[I") (.int 9)) (.int 30)) (by decide +kernel))
  have e10 := va_eqt (hs (Cond.eq (.elem (Term.static "NamesOnLoan$Acts" "BODIES" "[I") (.int 10)) (.int 0)) (by decide +kernel))
  have e11 := va_eqt (hs (Cond.eq (.elem (Term.static "NamesOnLoan$Acts" "BODIES" "[I") (.int 11)) (.int 0)) (by decide +kernel))
  have e12 := va_eqt (hs (Cond.eq (.elem (Term.static "NamesOnLoan$Acts" "BODIES" "[I") (.int 12)) (.int 0)) (by decide +kernel))
  have e13 := va_eqt (hs (Cond.eq (.elem (Term.static "NamesOnLoan$Acts" "BODIES" "[I") (.int 13)) (.int 41)) (by decide +kernel))
  have e14 := va_eqt (hs (Cond.eq (.elem (Term.static "NamesOnLoan$Acts" "BODIES" "[I") (.int 14)) (.int 40)) (by decide +kernel))
  have e15 := va_eqt (hs (Cond.eq (.elem (Term.static "NamesOnLoan$Acts" "BODIES" "[I") (.int 15)) (.int 0)) (by decide +kernel))
  have e16 := va_eqt (hs (Cond.eq (.elem (Term.static "NamesOnLoan$Acts" "BODIES" "[I") (.int 16)) (.int 0)) (by decide +kernel))
  have e17 := va_eqt (hs (Cond.eq (.elem (Term.static "NamesOnLoan$Acts" "BODIES" "[I") (.int 17)) (.int 0)) (by decide +kernel))
  have e18 := va_eqt (hs (Cond.eq (.elem (Term.static "NamesOnLoan$Acts" "BODIES" "[I") (.int 18)) (.int 50)) (by decide +kernel))
  have e19 := va_eqt (hs (Cond.eq (.elem (Term.static "NamesOnLoan$Acts" "BODIES" "[I") (.int 19)) (.int 0)) (by decide +kernel))
  have e20 := va_eqt (hs (Cond.eq (.elem (Term.static "NamesOnLoan$Acts" "BODIES" "[I") (.int 20)) (.int 0)) (by decide +kernel))
  have e21 := va_eqt (hs (Cond.eq (.elem (Term.static "NamesOnLoan$Acts" "BODIES" "[I") (.int 21)) (.int 0)) (by decide +kernel))
  have e22 := va_eqt (hs (Cond.eq (.elem (Term.static "NamesOnLoan$Acts" "BODIES" "[I") (.int 22)) (.int 0)) (by decide +kernel))
  have e23 := va_eqt (hs (Cond.eq (.elem (Term.static "NamesOnLoan$Acts" "BODIES" "[I") (.int 23)) (.int 60)) (by decide +kernel))
  have e24 := va_eqt (hs (Cond.eq (.elem (Term.static "NamesOnLoan$Acts" "BODIES" "[I") (.int 24)) (.int 70)) (by decide +kernel))
  have e25 := va_eqt (hs (Cond.eq (.elem (Term.static "NamesOnLoan$Acts" "BODIES" "[I") (.int 25)) (.int 0)) (by decide +kernel))
  have e26 := va_eqt (hs (Cond.eq (.elem (Term.static "NamesOnLoan$Acts" "BODIES" "[I") (.int 26)) (.int 0)) (by decide +kernel))
  have e27 := va_eqt (hs (Cond.eq (.elem (Term.static "NamesOnLoan$Acts" "BODIES" "[I") (.int 27)) (.int 0)) (by decide +kernel))
  have e28 := va_eqt (hs (Cond.eq (.elem (Term.static "NamesOnLoan$Acts" "BODIES" "[I") (.int 28)) (.int 0)) (by decide +kernel))
  have e29 := va_eqt (hs (Cond.eq (.elem (Term.static "NamesOnLoan$Acts" "BODIES" "[I") (.int 29)) (.int 80)) (by decide +kernel))
  have e30 := va_eqt (hs (Cond.eq (.elem (Term.static "NamesOnLoan$Acts" "BODIES" "[I") (.int 30)) (.int 0)) (by decide +kernel))
  have e31 := va_eqt (hs (Cond.eq (.elem (Term.static "NamesOnLoan$Acts" "BODIES" "[I") (.int 31)) (.int 81)) (by decide +kernel))
  have hel : ∀ j : Nat, j < 32 → (Term.elem (Term.static "NamesOnLoan$Acts" "BODIES" "[I") (.int (Int32.ofNat j))).eval #[Value.ref b] s none [] s = some (.int (am_bodies j)) := by
    intro j hj
    rcases (show j = 0 ∨ j = 1 ∨ j = 2 ∨ j = 3 ∨ j = 4 ∨ j = 5 ∨ j = 6 ∨ j = 7 ∨ j = 8 ∨ j = 9 ∨ j = 10 ∨ j = 11 ∨ j = 12 ∨ j = 13 ∨ j = 14 ∨ j = 15 ∨ j = 16 ∨ j = 17 ∨ j = 18 ∨ j = 19 ∨ j = 20 ∨ j = 21 ∨ j = 22 ∨ j = 23 ∨ j = 24 ∨ j = 25 ∨ j = 26 ∨ j = 27 ∨ j = 28 ∨ j = 29 ∨ j = 30 ∨ j = 31 by omega) with rfl | rfl | rfl | rfl | rfl | rfl | rfl | rfl | rfl | rfl | rfl | rfl | rfl | rfl | rfl | rfl | rfl | rfl | rfl | rfl | rfl | rfl | rfl | rfl | rfl | rfl | rfl | rfl | rfl | rfl | rfl | rfl
    · exact e0
    · exact e1
    · exact e2
    · exact e3
    · exact e4
    · exact e5
    · exact e6
    · exact e7
    · exact e8
    · exact e9
    · exact e10
    · exact e11
    · exact e12
    · exact e13
    · exact e14
    · exact e15
    · exact e16
    · exact e17
    · exact e18
    · exact e19
    · exact e20
    · exact e21
    · exact e22
    · exact e23
    · exact e24
    · exact e25
    · exact e26
    · exact e27
    · exact e28
    · exact e29
    · exact e30
    · exact e31
  obtain ⟨t, ht, hT⟩ := va_Tof (A := A) (by decide) harr hlen hel hA
  exact ⟨t, va_Zref (hts (.laysStatic "NamesOnLoan$Acts" "BODIES" "[I") (List.mem_of_getElem? (i := 900) (by decide +kernel))) (hts (.initialized "NamesOnLoan$Acts") (List.mem_of_getElem? (i := 89) (by decide +kernel))) ht hA, hT⟩
