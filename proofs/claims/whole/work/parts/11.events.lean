section AmEv
variable {p : Program} {l : Launch} {e : Env} {R : Room} {s : State} {mid : MethodId} {args : Array Value} {below : List Frame} {meth : Method} {c : Code} {cells slots : Nat} {Q : State → Prop}
variable {own : String} {bytes : ByteArray} {maxL base : Nat} {g : am_G} {q : am_X}
variable {H : Heap} {locs : List Loc} {ls : Array Slot} {pc : Nat} {L : List (Option Value)} {S : List Value} {m : am_M}
/-- a method's start and end in the machine's words -/
def am_Pc (base : Nat) (g : am_G) (q : am_X) (as : List Value) (m : am_M) : Array Value → State → Prop := va_Pc (as.map (am_tr g.1)) (fun U => va_P g.2.1 vwCl (am_ws g m) U.heap ∧ am_Wd base g q U)
def am_Qc (base : Nat) (g : am_G) (r : Option Value) (m : am_M) : Array Value → State → Outcome → State → Prop := match r with
  | some (.int x) => va_Qi (fun (y : Int32) (_ : Unit) => y = x) (fun _ t => va_P g.2.1 vwCl (am_ws g m) t.heap) (am_A base)
  | some (.long x) => va_Ql (fun (y : Int64) (_ : Unit) => y = x) (fun _ t => va_P g.2.1 vwCl (am_ws g m) t.heap) (am_A base)
  | none => va_Qv (fun (_ : Unit) => True) (fun _ t => va_P g.2.1 vwCl (am_ws g m) t.heap) (am_A base)
  | _ => fun _ _ _ _ => False
theorem am_blind (base : Nat) (g : am_G) (q : am_X) (as : List Value) (m : am_M) : FrameBlind (am_Pc base g q as m) := by
  intro a U fr mk h
  obtain ⟨h1, h2, h3⟩ := h
  exact ⟨h1, h2, am_Wd.moved (u := U) (U := U.calling fr mk a) h3 (Vm.Alike.refl U.vm) (Nat.le_refl _) (fun _ _ _ => rfl)⟩
theorem am_pre (hWd : am_Wd base g q s) (hP : va_P g.2.1 vwCl (am_ws g m) H) (hS : va_S (am_A base) s.heap H locs) (as : List Value) : ∀ U : State, U.heap = H → s.WarmedH U.vm → am_Pc base g q as m ((as.map (am_tr g.1)).toArray) U := by
  intro U hU hW
  refine ⟨rfl, by rw [hU]; exact hP, am_Wd.moved hWd hW.alike (by rw [hU]; exact hS.1) (fun a h1 h2 => by rw [hU]; exact hS.2.1 a h1 h2)⟩
theorem am_good_all : lw_g.all goodWord = true := List.all_eq_true.mpr (fun w h => (List.mem_filter.mp h).2)
theorem am_good {ws : List Jvm.Cond} (h : ∀ w ∈ ws, w ∈ lw_g) : GoodIn lw_g ws := fun w hw => ⟨h w hw, good_of_word (List.all_eq_true.mp am_good_all w (h w hw))⟩
/-- behind a call -/
theorem am_back {st : List Value} {a : Array Value} {st0 : List Value} {r1 : Option Value} {m1 : am_M} (hr : va_Run p l e R s mid args below meth c H locs cells slots 0 0 (F0 mid pc ls st0) (st.map (am_tr g.1)) (am_Qc base g r1 m1 a) (am_A base)) (hS : va_S (am_A base) s.heap H locs) (hl : am_L g.1 ls maxL L)
    (K : am_K p l e R s mid args below meth c cells slots Q maxL base g (pc + 3, L, r1.toList ++ st, m1)) : W p l e R s mid args below meth c H locs cells slots Q (F0 mid pc ls st0) := by
  unfold am_Qc at hr
  split at hr
  · refine va_calli hr hS (fun _ _ h => h) (fun _ h => h) (fun r u t H1 locs1 ht hvm hp hB hz hk hS1 => ?_)
    subst hp
    rw [ht] at hB
    exact K H1 locs1 ls hB hS1 hl
  · refine va_calll hr hS (fun _ _ h => h) (fun _ h => h) (fun r u t H1 locs1 ht hvm hp hB hz hk hS1 => ?_)
    subst hp
    rw [ht] at hB
    exact K H1 locs1 ls hB hS1 hl
  · refine va_callv hr hS (fun _ _ h => h) (fun _ h => h) (fun u t H1 locs1 ht hvm hp hB hz hk hS1 => ?_)
    rw [ht] at hB
    exact K H1 locs1 ls hB hS1 hl
  · intro T hT Y
    obtain ⟨v, st₀, t, T', L', h0, X', hL, e1, e2, hf, hst⟩ := hr T hT Y
    exact hf.elim
/-- what a call rests on: the callees' contracts -/
def am_Cs (l : Launch) (base : Nat) (g : am_G) (q : am_X) (rm : Room) (C : Nat → List Value → am_M → Option Value → am_M → Prop) : Prop :=
  ∀ (y : Nat) (as : List Value) (m : am_M) (r : Option Value) (m1 : am_M), C y as m r m1 → ∀ I : am_Mi, am_ms[y]? = some I → Met l I.1 (.code I.1 I.2.1 I.2.2.1 I.2.2.2.1 :: lw_g) rm (am_Pc base g q as m) (am_Qc base g r m1) 0 0 (am_A base)
def am_Rm (R rm : Room) : Prop := rm.cells = 0 ∧ rm.slots = 0 ∧ rm.frames + 1 ≤ R.frames ∧ 39 + rm.locals ≤ R.locals
theorem am_ms_ok {y : Nat} {I : am_Mi} (ok : ∀ (y : Nat) (I : am_Mi), am_ms[y]? = some I → am_mok I = true) (h : am_ms[y]? = some I) : am_mok I = true := ok y I h
theorem am_s_inv {own : String} {idx : Nat} {xs : List Nat} {rm : Room} {C : Nat → List Value → am_M → Option Value → am_M → Prop} {Kp : am_S → Prop} (ok : ∀ (y : Nat) (I : am_Mi), am_ms[y]? = some I → am_mok I = true) (X : am_Cx p R s mid args c cells slots own bytes maxL base g q) (hRm : am_Rm R rm) (hC : am_Cs l base g q rm C) (hd : decode bytes pc = .ok (.invokevirtual idx, 3)) (hc : am_chkv own idx xs = true) (h : am_einv C xs pc L S m Kp) (hP : va_P g.2.1 vwCl (am_ws g m) H) (hS : va_S (am_A base) s.heap H locs) (hl : am_L g.1 ls maxL L) (K : ∀ s', Kp s' → am_K p l e R s mid args below meth c cells slots Q maxL base g s') : W p l e R s mid args below meth c H locs cells slots Q (F0 mid pc ls (S.map (am_tr g.1))) := by
  obtain ⟨hx, hb, hml, hown, hts, hWd, hAd, hR, hcs, hss⟩ := X
  unfold am_chkv at hc
  split at hc
  case h_2 => cases hc
  rename_i I hI
  simp only [Bool.and_eq_true, decide_eq_true_eq] at hc
  obtain ⟨⟨⟨h1, h2⟩, h3⟩, h4⟩ := hc
  have hmok := ok _ I hI
  unfold am_mok at hmok
  rw [if_neg (by omega)] at hmok
  simp only [Bool.and_eq_true, decide_eq_true_eq] at hmok
  obtain ⟨⟨⟨⟨w0, hmx⟩, hpl⟩, hnm⟩, ⟨w1, w2⟩, w3⟩ := hmok
  unfold am_einv at h
  split at h
  case h_2 => exact h.elim
  rename_i k st hdrop
  obtain ⟨⟨o, ho, hoc⟩, htk, hcat, r1, m1, hrun, hKp⟩ := h
  have hM := hC _ _ _ _ _ hrun I hI
  obtain ⟨ci, fl⟩ := o
  simp only at hoc
  subst hoc
  cases hvw : vwCl[xs.getD 2 0]? with
  | none => rw [hvw] at h3; cases h3
  | some qc =>
    rw [hvw] at h3
    simp only [Option.map_some, Option.some.injEq] at h3
    have hrecv := va_recv (s := s) hWd.1 hP hvw (am_ws_at g m ho)
    rw [h3] at hrecv
    have hSs : S.map (am_tr g.1) = (((S.take (xs.getD 1 0)).reverse).map (am_tr g.1)).reverse ++ .ref (g.1 k) :: st.map (am_tr g.1) := by
      conv => lhs; rw [← List.take_append_drop (xs.getD 1 0) S, hdrop]
      simp [am_tr]
    have hgd : GoodIn lw_g (wsV own idx I.1.cls I.1 (.code I.1 I.2.1 I.2.2.1 I.2.2.2.1 :: lw_g)) := am_good (by
      intro w hw
      simp only [wsV, List.mem_append, List.mem_cons, List.not_mem_nil, or_false] at hw
      rcases hw with (rfl | rfl | rfl | rfl) | rfl | hw
      · exact am_wd_in h4
      · exact am_wd_in w1
      · exact am_wd_in w2
      · exact am_wd_in w3
      · exact am_wd_in w0
      · exact hw)
    refine am_back (a := (Value.ref (g.1 k) :: ((S.take (xs.getD 1 0)).reverse).map (am_tr g.1)).toArray) (st := st) (va_runV (As := ((S.take (xs.getD 1 0)).reverse).map (am_tr g.1)) (rest := st.map (am_tr g.1)) ⟨hx, hb, hml, hown, hts⟩ hM (cwV I.2.2.2.2.2.1 hts hgd rfl hRm.1 hRm.2.1 ⟨rfl, hnm⟩ ⟨hRm.2.2.1, by have := hRm.2.2.2; omega⟩) ⟨am_blind _ _ _ _ _, hrecv, am_pre hWd hP hS (.ref k :: (S.take (xs.getD 1 0)).reverse)⟩ rfl (by rw [List.length_map, List.length_reverse, htk, h1]) hl.1 hSs (lv_room (by rw [am_tr_cs]; exact hcat)) hd ⟨hcs, hss⟩) hS hl (K _ hKp)
theorem am_s_invS {own : String} {idx : Nat} {xs : List Nat} {rm : Room} {C : Nat → List Value → am_M → Option Value → am_M → Prop} {Kp : am_S → Prop} (ok : ∀ (y : Nat) (I : am_Mi), am_ms[y]? = some I → am_mok I = true) (X : am_Cx p R s mid args c cells slots own bytes maxL base g q) (hRm : am_Rm R rm) (hC : am_Cs l base g q rm C) (hd : decode bytes pc = .ok (.invokestatic idx, 3)) (hc : am_chks own idx xs = true) (hy : ¬ (xs.headD 0 = 9999 ∨ xs.headD 0 = 9998 ∨ xs.headD 0 = 9997)) (h : am_einvS C xs pc L S m Kp) (hP : va_P g.2.1 vwCl (am_ws g m) H) (hS : va_S (am_A base) s.heap H locs) (hl : am_L g.1 ls maxL L) (K : ∀ s', Kp s' → am_K p l e R s mid args below meth c cells slots Q maxL base g s') : W p l e R s mid args below meth c H locs cells slots Q (F0 mid pc ls (S.map (am_tr g.1))) := by
  obtain ⟨hx, hb, hml, hown, hts, hWd, hAd, hR, hcs, hss⟩ := X
  unfold am_chks at hc
  rw [if_neg (by omega), if_neg (by omega), if_neg (by omega)] at hc
  split at hc
  case h_2 => cases hc
  rename_i I hI
  simp only [Bool.and_eq_true, decide_eq_true_eq] at hc
  obtain ⟨⟨h1, h2⟩, h4⟩ := hc
  have hmok := ok _ I hI
  unfold am_mok at hmok
  rw [if_pos h2] at hmok
  simp only [Bool.and_eq_true, decide_eq_true_eq] at hmok
  obtain ⟨⟨⟨⟨w0, hmx⟩, hpl⟩, hnm⟩, w1, w3⟩ := hmok
  obtain ⟨htk, hcat, r1, m1, hrun, hKp⟩ := h
  have hM := hC _ _ _ _ _ hrun I hI
  have hSs : S.map (am_tr g.1) = (((S.take (xs.getD 1 0)).reverse).map (am_tr g.1)).reverse ++ (S.drop (xs.getD 1 0)).map (am_tr g.1) := by
    conv => lhs; rw [← List.take_append_drop (xs.getD 1 0) S]
    simp
  have hgd : GoodIn lw_g (va_wsS own idx I.1 (.code I.1 I.2.1 I.2.2.1 I.2.2.2.1 :: lw_g)) := am_good (by
    intro w hw
    simp only [va_wsS, List.mem_append, List.mem_cons, List.not_mem_nil, or_false] at hw
    rcases hw with (rfl | rfl | rfl) | rfl | hw
    · exact am_wd_in h4
    · exact am_wd_in w1
    · exact am_wd_in w3
    · exact am_wd_in w0
    · exact hw)
  refine am_back (a := (((S.take (xs.getD 1 0)).reverse).map (am_tr g.1)).toArray) (st := S.drop (xs.getD 1 0)) (va_runS (As := ((S.take (xs.getD 1 0)).reverse).map (am_tr g.1)) (rest := (S.drop (xs.getD 1 0)).map (am_tr g.1)) ⟨hx, hb, hml, hown, hts⟩ hM (va_cwS I.2.2.2.2.2.1 hts hgd rfl hRm.1 hRm.2.1 hnm ⟨hRm.2.2.1, by have := hRm.2.2.2; omega⟩) ⟨am_blind _ _ _ _ _, am_pre hWd hP hS ((S.take (xs.getD 1 0)).reverse)⟩ rfl (by rw [List.length_map, List.length_reverse, htk, h1]) hl.1 hSs (lv_room (by rw [am_tr_cs]; exact hcat)) hd ⟨hcs, hss⟩) hS hl (K _ hKp)
end AmEv
