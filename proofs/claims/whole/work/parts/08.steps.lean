section AmSound
variable {p : Program} {l : Launch} {e : Env} {R : Room} {s : State} {mid : MethodId} {args : Array Value} {below : List Frame} {meth : Method} {c : Code} {cells slots : Nat} {Q : State → Prop}
variable {own : String} {bytes : ByteArray} {maxL base : Nat} {g : am_G} {q : am_X}
/-- what a frame's walk rests on -/
def am_Cx (p : Program) (R : Room) (s : State) (mid : MethodId) (args : Array Value) (c : Code) (cells slots : Nat) (own : String) (bytes : ByteArray) (maxL base : Nat) (g : am_G) (q : am_X) : Prop :=
  p.tables.exec = Jvm.exec ∧ c.code = bytes ∧ c.maxLocals = maxL ∧ s.vm.findClass own = some mid.cls ∧ (∀ w ∈ lw_g, w.before args s = true) ∧ am_Wd base g q s ∧ am_Ad base g ∧ (1 ≤ R.frames ∧ 60 ≤ R.locals) ∧ cells ≤ R.cells ∧ slots ≤ R.slots
theorem am_wd_in {pl : Nat} {w : Jvm.Cond} (h : am_wd pl w = true) : w ∈ lw_g := by
  unfold am_wd at h
  rw [Bool.and_eq_true] at h
  exact List.mem_filter.mpr ⟨List.mem_of_getElem? (of_decide_eq_true h.1), h.2⟩
theorem am_jmp_eq {pc t : Nat} {off : Int} (h : am_jmp pc off t = true) : (pc : Int) + off = (t : Int) := of_decide_eq_true h
theorem am_ldk_eq {xs : List Nat} {i len k maxL : Nat} (h : am_ldk xs i len k maxL = true) : xs = [i] ∧ len = k ∧ i < maxL := of_decide_eq_true h
/-- what stays said behind a step -/
abbrev am_K (p : Program) (l : Launch) (e : Env) (R : Room) (s : State) (mid : MethodId) (args : Array Value) (below : List Frame) (meth : Method) (c : Code) (cells slots : Nat) (Q : State → Prop) (maxL base : Nat) (g : am_G) (s' : am_S) : Prop :=
  ∀ (H' : Heap) (locs' : List Loc) (ls' : Array Slot), va_P g.2.1 vwCl (am_ws g s'.2.2.2) H' → va_S (am_A base) s.heap H' locs' → am_L g.1 ls' maxL s'.2.1 → W p l e R s mid args below meth c H' locs' cells slots Q (F0 mid s'.1 ls' (s'.2.2.1.map (am_tr g.1)))
variable {H : Heap} {locs : List Loc} {ls : Array Slot} {pc : Nat} {L : List (Option Value)} {S : List Value} {m : am_M} {s' : am_S}
theorem am_s_put {i k : Nat} {v : Value} {st : List Value} (h : am_put i k v pc L m st = some s') (hP : va_P g.2.1 vwCl (am_ws g m) H) (hS : va_S (am_A base) s.heap H locs) (K : am_K p l e R s mid args below meth c cells slots Q maxL base g s') : ∀ ls' : Array Slot, lv_has ls' maxL ((i, am_tr g.1 v) :: (am_lv g.1 L).filter (fun q => !(q.1 == i) && !(q.1 + 1 == i && q.2.category == 2))) → W p l e R s mid args below meth c H locs cells slots Q (F0 mid (pc + k) ls' (st.map (am_tr g.1))) := by
  intro ls' hl
  unfold am_put at h
  cases ht : am_two L[i - 1]? with
  | true => rw [ht] at h; cases h
  | false =>
    rw [ht] at h
    cases h
    exact K H locs ls' hP hS (am_L.put ht hl)
theorem am_s_bin {f : Int32 → Int32 → Int32} (h : am_bin f pc L S m = some s') (hP : va_P g.2.1 vwCl (am_ws g m) H) (hS : va_S (am_A base) s.heap H locs) (hl : am_L g.1 ls maxL L) (K : am_K p l e R s mid args below meth c cells slots Q maxL base g s')
    (row : ∀ (x y : Int32) (rest : List Value), W p l e R s mid args below meth c H locs cells slots Q (F0 mid (pc + 1) ls (.int (f x y) :: rest)) → W p l e R s mid args below meth c H locs cells slots Q (F0 mid pc ls (.int y :: .int x :: rest))) : W p l e R s mid args below meth c H locs cells slots Q (F0 mid pc ls (S.map (am_tr g.1))) := by
  unfold am_bin at h
  split at h
  · cases h
    exact row _ _ _ (K H locs ls hP hS hl)
  · cases h
theorem am_s_un {f : Int32 → Int32} (h : am_un f pc L S m = some s') (hP : va_P g.2.1 vwCl (am_ws g m) H) (hS : va_S (am_A base) s.heap H locs) (hl : am_L g.1 ls maxL L) (K : am_K p l e R s mid args below meth c cells slots Q maxL base g s')
    (row : ∀ (x : Int32) (rest : List Value), W p l e R s mid args below meth c H locs cells slots Q (F0 mid (pc + 1) ls (.int (f x) :: rest)) → W p l e R s mid args below meth c H locs cells slots Q (F0 mid pc ls (.int x :: rest))) : W p l e R s mid args below meth c H locs cells slots Q (F0 mid pc ls (S.map (am_tr g.1))) := by
  unfold am_un at h
  split at h
  · cases h
    exact row _ _ (K H locs ls hP hS hl)
  · cases h
theorem am_s_binl {f : Int64 → Int64 → Int64} (h : am_binl f pc L S m = some s') (hP : va_P g.2.1 vwCl (am_ws g m) H) (hS : va_S (am_A base) s.heap H locs) (hl : am_L g.1 ls maxL L) (K : am_K p l e R s mid args below meth c cells slots Q maxL base g s')
    (row : ∀ (x y : Int64) (rest : List Value), W p l e R s mid args below meth c H locs cells slots Q (F0 mid (pc + 1) ls (.long (f x y) :: rest)) → W p l e R s mid args below meth c H locs cells slots Q (F0 mid pc ls (.long y :: .long x :: rest))) : W p l e R s mid args below meth c H locs cells slots Q (F0 mid pc ls (S.map (am_tr g.1))) := by
  unfold am_binl at h
  split at h
  · cases h
    exact row _ _ _ (K H locs ls hP hS hl)
  · cases h
theorem am_s_push {k : Nat} {v : Value} (h : am_push k v pc L S m = some s') (hP : va_P g.2.1 vwCl (am_ws g m) H) (hS : va_S (am_A base) s.heap H locs) (hl : am_L g.1 ls maxL L) (K : am_K p l e R s mid args below meth c cells slots Q maxL base g s') : W p l e R s mid args below meth c H locs cells slots Q (F0 mid (pc + k) ls (am_tr g.1 v :: S.map (am_tr g.1))) := by
  cases h
  exact K H locs ls hP hS hl
theorem am_s_ldi {xs : List Nat} {i len k : Nat} (h : am_ldi xs k pc L S m = some s') (hk : am_ldk xs i len k maxL = true) (hP : va_P g.2.1 vwCl (am_ws g m) H) (hS : va_S (am_A base) s.heap H locs) (hl : am_L g.1 ls maxL L) (K : am_K p l e R s mid args below meth c cells slots Q maxL base g s')
    (row : ∀ (x : Int32), ls[i]? = some (.val (.int x)) → W p l e R s mid args below meth c H locs cells slots Q (F0 mid (pc + k) ls (.int x :: S.map (am_tr g.1))) → W p l e R s mid args below meth c H locs cells slots Q (F0 mid pc ls (S.map (am_tr g.1)))) : W p l e R s mid args below meth c H locs cells slots Q (F0 mid pc ls (S.map (am_tr g.1))) := by
  obtain ⟨rfl, -, -⟩ := am_ldk_eq hk
  unfold am_ldi at h
  split at h
  · rename_i x hx
    exact row x (hl.2.2 i _ hx) (am_s_push h hP hS hl K)
  · cases h
theorem am_s_ldl {xs : List Nat} {i len k : Nat} (h : am_ldl xs k pc L S m = some s') (hk : am_ldk xs i len k maxL = true) (hP : va_P g.2.1 vwCl (am_ws g m) H) (hS : va_S (am_A base) s.heap H locs) (hl : am_L g.1 ls maxL L) (K : am_K p l e R s mid args below meth c cells slots Q maxL base g s')
    (row : ∀ (x : Int64), ls[i]? = some (.val (.long x)) → W p l e R s mid args below meth c H locs cells slots Q (F0 mid (pc + k) ls (.long x :: S.map (am_tr g.1))) → W p l e R s mid args below meth c H locs cells slots Q (F0 mid pc ls (S.map (am_tr g.1)))) : W p l e R s mid args below meth c H locs cells slots Q (F0 mid pc ls (S.map (am_tr g.1))) := by
  obtain ⟨rfl, -, -⟩ := am_ldk_eq hk
  unfold am_ldl at h
  split at h
  · rename_i x hx
    exact row x (hl.2.2 i _ hx) (am_s_push h hP hS hl K)
  · cases h
theorem am_s_lda {xs : List Nat} {i len k : Nat} (h : am_lda xs k pc L S m = some s') (hk : am_ldk xs i len k maxL = true) (hP : va_P g.2.1 vwCl (am_ws g m) H) (hS : va_S (am_A base) s.heap H locs) (hl : am_L g.1 ls maxL L) (K : am_K p l e R s mid args below meth c cells slots Q maxL base g s')
    (row : ∀ (x : Nat), ls[i]? = some (.val (.ref x)) → W p l e R s mid args below meth c H locs cells slots Q (F0 mid (pc + k) ls (.ref x :: S.map (am_tr g.1))) → W p l e R s mid args below meth c H locs cells slots Q (F0 mid pc ls (S.map (am_tr g.1))))
    (rowN : ls[i]? = some (.val .null) → W p l e R s mid args below meth c H locs cells slots Q (F0 mid (pc + k) ls (.null :: S.map (am_tr g.1))) → W p l e R s mid args below meth c H locs cells slots Q (F0 mid pc ls (S.map (am_tr g.1)))) : W p l e R s mid args below meth c H locs cells slots Q (F0 mid pc ls (S.map (am_tr g.1))) := by
  obtain ⟨rfl, -, -⟩ := am_ldk_eq hk
  unfold am_lda at h
  split at h
  · rename_i x hx
    exact row _ (hl.2.2 i _ hx) (am_s_push h hP hS hl K)
  · rename_i hx
    exact rowN (hl.2.2 i _ hx) (am_s_push h hP hS hl K)
  · cases h
theorem am_s_fld {k ci j : Nat} {o : Option Nat} (h : am_fld k ci j = some o) : ∃ fl, am_sk[k]? = some (.inl (ci, fl)) ∧ fl[j]? = some o := by
  unfold am_fld at h
  split at h
  · rename_i x hx
    obtain ⟨a, fl⟩ := x
    split at h
    · rename_i he
      subst he
      exact ⟨fl, hx, h⟩
    · cases h
  · cases h
theorem am_fs_at {ad : Nat → Nat} {m : am_M} {k j : Nat} {fl : List (Option Nat)} {o : Option Nat} (h : fl[j]? = some o) : (am_fs ad m k fl)[j]? = some (am_fv ad m k j o) := by
  rw [am_fs_get, h]
  rfl
theorem am_fs_set {ad : Nat → Nat} {m : am_M} {k j : Nat} {fl : List (Option Nat)} {x : Int32} (h : fl[j]? = some none) : (am_fs ad m k fl).set j (.int x) = am_fs ad (am_ui m.1 k j x, m.2) k fl := by
  apply List.ext_getElem?
  intro i
  rw [List.getElem?_set]
  have hj : j < fl.length := (List.getElem?_eq_some_iff.mp h).1
  rw [am_fs_get, am_fs_get, am_fs_len]
  by_cases hi : j = i
  · subst hi
    rw [if_pos rfl, if_pos hj, h]
    show some (Value.int x) = some (Value.int (am_ui m.1 k j x k j))
    simp [am_ui, upd]
  · rw [if_neg hi]
    cases fl[i]? with
    | none => rfl
    | some o =>
      cases o with
      | some r => rfl
      | none =>
        show some (Value.int (m.1 k i)) = some (Value.int (am_ui m.1 k j x k i))
        simp [am_ui, upd, show ¬ i = j from fun h => hi h.symm]
theorem am_ui_off {m : am_M} {k j : Nat} {x : Int32} : ∀ i, i ≠ k → (am_ui m.1 k j x, m.2).1 i = m.1 i ∧ (am_ui m.1 k j x, m.2).2 i = m.2 i := fun i hi => ⟨by simp [am_ui, hi], rfl⟩
theorem am_ws_setf (g : am_G) (m : am_M) {k ci j : Nat} {fl : List (Option Nat)} (x : Int32) (h : am_sk[k]? = some (.inl (ci, fl))) (hj : fl[j]? = some none) : (am_ws g m).set k (g.1 k, .inr (ci, (am_fs g.1 m k fl).set j (.int x))) = am_ws g (am_ui m.1 k j x, m.2) := by
  have e := am_ws_set g (m := m) (m1 := (am_ui m.1 k j x, m.2)) (k := k) (c := .inl (ci, fl)) h am_ui_off
  rw [show am_cell g (am_ui m.1 k j x, m.2) k (.inl (ci, fl)) = .inr (ci, am_fs g.1 (am_ui m.1 k j x, m.2) k fl) from rfl] at e
  rw [am_fs_set hj]
  exact e
/-- the classes' tables -/
theorem am_cls {ci : Nat} {C : String} {T : u_T} {N : Nat} (h : vwCl[ci]? = some (C, T, N)) : (∀ w ∈ u_ws C T N, w ∈ lw_g) ∧ (∀ a, a < N → ∀ b, b < N → a ≠ b → (T a).2.1 ≠ (T b).2.1) ∧ ∃ ty0 : Nat → FieldType, ∀ k, k < N → parseFieldDescriptor (T k).2.2.1 = some (ty0 k) := by
  match ci, h with
  | 0, h => cases h; exact ⟨by decide +kernel, nmX0, tyX0, tyX0_ok⟩
  | 1, h => cases h; exact ⟨by decide +kernel, nmX1, tyX1, tyX1_ok⟩
  | 2, h => cases h; exact ⟨by decide +kernel, nmX2, tyX2, tyX2_ok⟩
  | 3, h => cases h; exact ⟨by decide +kernel, nmX3, tyX3, tyX3_ok⟩
  | 4, h => cases h; exact ⟨by decide +kernel, nmX4, tyX4, tyX4_ok⟩
  | 5, h => cases h; exact ⟨by decide +kernel, nmX5, tyX5, tyX5_ok⟩
  | 6, h => cases h; exact ⟨by decide +kernel, nmX6, tyX6, tyX6_ok⟩
  | 7, h => cases h; exact ⟨by decide +kernel, nmX7, tyX7, tyX7_ok⟩
  | 8, h => cases h; exact ⟨by decide +kernel, nmX8, tyX8, tyX8_ok⟩
  | 9, h => cases h; exact ⟨by decide +kernel, nmX9, tyX9, tyX9_ok⟩
  | n + 10, h => cases h
theorem am_typ_eq {t k n : Nat} (h : am_typ t k = some n) : am_sk[k]? = some (.inr (.inl (t, n))) := by
  unfold am_typ at h
  split at h
  · rename_i x hx
    obtain ⟨a, b⟩ := x
    split at h
    · rename_i he
      cases h
      subst he
      exact hx
    · cases h
  · cases h
theorem am_mm_tbl : ((lw_g.contains (.static Lib.Math.max.name)) && (lw_g.contains (.initialized "java/lang/Math")) && (lw_g.contains (.code Lib.Math.max.name Lib.Math.max.code 2 (some .int))) && (lw_g.contains (.static Lib.Math.min.name)) && (lw_g.contains (.code Lib.Math.min.name Lib.Math.min.code 2 (some .int)))) = true := by decide +kernel
end AmSound
