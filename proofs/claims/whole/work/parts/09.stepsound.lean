section AmStep
variable {p : Program} {l : Launch} {e : Env} {R : Room} {s : State} {mid : MethodId} {args : Array Value} {below : List Frame} {meth : Method} {c : Code} {cells slots : Nat} {Q : State → Prop}
variable {own : String} {bytes : ByteArray} {maxL base : Nat} {g : am_G} {q : am_X}
variable {H : Heap} {locs : List Loc} {ls : Array Slot} {pc : Nat} {L : List (Option Value)} {S : List Value} {m : am_M} {s' : am_S}
theorem am_s_get {own : String} {idx : Nat} {xs : List Nat} (X : am_Cx p R s mid args c cells slots own bytes maxL base g q) (hd : decode bytes pc = .ok (.getfield idx, 3)) (hc : am_chkf own idx xs = true) (h : am_get xs pc L S m = some s') (hP : va_P g.2.1 vwCl (am_ws g m) H) (hS : va_S (am_A base) s.heap H locs) (hl : am_L g.1 ls maxL L) (K : am_K p l e R s mid args below meth c cells slots Q maxL base g s') : W p l e R s mid args below meth c H locs cells slots Q (F0 mid pc ls (S.map (am_tr g.1))) := by
  obtain ⟨hx, hb, hml, hown, hts, hWd, hAd, hR, hcs, hss⟩ := X
  unfold am_chkf at hc
  split at hc
  case h_2 => cases hc
  rename_i C hC
  obtain ⟨C, T, N⟩ := C
  rw [Bool.and_eq_true] at hc
  have hj := of_decide_eq_true hc.1
  have hw := am_wd_in hc.2
  unfold am_get at h
  split at h
  case h_2 => cases h
  rename_i k st
  have key : ∀ o, am_fld k (xs.headD 0) (xs.getD 1 0) = some o → W p l e R s mid args below meth c H locs cells slots Q (F0 mid (pc + 3) ls (am_fv g.1 m k (xs.getD 1 0) o :: st.map (am_tr g.1))) → W p l e R s mid args below meth c H locs cells slots Q (F0 mid pc ls ((Value.ref k :: st).map (am_tr g.1))) := by
    intro o ho kk
    obtain ⟨fl, hfl, hof⟩ := am_s_fld ho
    exact va_get hx hb hts (am_cls hC).1 hown hWd.1 hP k (am_ws_at g m hfl) hC (xs.getD 1 0) hj (hts _ hw) (fun _ h9 => h9) (am_fs_at hof) hd kk
  split at h
  · rename_i r hr
    cases h
    exact key _ hr (K H locs ls hP hS hl)
  · rename_i hr
    cases h
    exact key _ hr (K H locs ls hP hS hl)
  · cases h
theorem am_s_set {own : String} {idx : Nat} {xs : List Nat} (X : am_Cx p R s mid args c cells slots own bytes maxL base g q) (hd : decode bytes pc = .ok (.putfield idx, 3)) (hc : am_chkf own idx xs = true) (hp : am_chkp xs = true) (h : am_set xs pc L S m = some s') (hP : va_P g.2.1 vwCl (am_ws g m) H) (hS : va_S (am_A base) s.heap H locs) (hl : am_L g.1 ls maxL L) (K : am_K p l e R s mid args below meth c cells slots Q maxL base g s') : W p l e R s mid args below meth c H locs cells slots Q (F0 mid pc ls (S.map (am_tr g.1))) := by
  obtain ⟨hx, hb, hml, hown, hts, hWd, hAd, hR, hcs, hss⟩ := X
  unfold am_chkf at hc
  split at hc
  case h_2 => cases hc
  rename_i C hC
  obtain ⟨C, T, N⟩ := C
  rw [Bool.and_eq_true] at hc
  have hj := of_decide_eq_true hc.1
  have hw := am_wd_in hc.2
  unfold am_chkp at hp
  rw [hC] at hp
  simp only [Bool.and_eq_true, decide_eq_true_eq] at hp
  obtain ⟨hfin, hds⟩ := hp
  unfold am_set at h
  split at h
  case h_2 => cases h
  rename_i x k st
  split at h
  case h_2 => cases h
  rename_i hr
  obtain ⟨fl, hfl, hof⟩ := am_s_fld hr
  split at h
  case isFalse => cases h
  rename_i hcond
  cases h
  obtain ⟨hin, hnm, ty0, hty⟩ := am_cls hC
  have hlen : xs.getD 1 0 < (am_fs g.1 m k fl).length := by
    rw [am_fs_len]; exact (List.getElem?_eq_some_iff.mp hof).1
  have fin : ∀ (ty : FieldType), parseFieldDescriptor (T (xs.getD 1 0)).2.2.1 = some ty → narrow ty (.int x) = .int x → fits ty (.int x) = true → W p l e R s mid args below meth c H locs cells slots Q (F0 mid pc ls ((Value.int x :: Value.ref k :: st).map (am_tr g.1))) := by
    intro ty hd1 hn hfit
    refine va_put hx hb hts hin ty0 hty hnm hown hWd.1 hP (am_D hAd m) hS k (am_ws_at g m hfl) hC (xs.getD 1 0) hj (hts _ hw) (fun _ h9 => h9) hfin hd1 hn hfit hlen hd (fun H1 locs1 hP1 _ hS1 => ?_)
    have hP1 : va_P g.2.1 vwCl ((am_ws g m).set k (g.1 k, .inr (xs.headD 0, (am_fs g.1 m k fl).set (xs.getD 1 0) (.int x)))) H1 := hP1
    rw [am_ws_setf g m x hfl hof] at hP1
    exact K H1 locs1 ls hP1 hS1 hl
  by_cases h0 : xs.getD 3 0 = 0
  · rw [if_pos h0] at hds
    exact fin .int (by rw [hds]; decide) rfl rfl
  · rw [if_neg h0] at hds
    rcases hcond with h1 | h1 | h1
    · exact absurd h1 h0
    · subst h1
      exact fin .boolean (by rw [hds]; decide) (by decide) (by decide)
    · subst h1
      exact fin .boolean (by rw [hds]; decide) (by decide) (by decide)
theorem am_s_alen {own : String} (X : am_Cx p R s mid args c cells slots own bytes maxL base g q) (hd : decode bytes pc = .ok (.arraylength, 1)) (h : am_alen q pc L S m = some s') (hP : va_P g.2.1 vwCl (am_ws g m) H) (hS : va_S (am_A base) s.heap H locs) (hl : am_L g.1 ls maxL L) (K : am_K p l e R s mid args below meth c cells slots Q maxL base g s') : W p l e R s mid args below meth c H locs cells slots Q (F0 mid pc ls (S.map (am_tr g.1))) := by
  obtain ⟨hx, hb, hml, hown, hts, hWd, hAd, hR, hcs, hss⟩ := X
  unfold am_alen at h
  split at h
  case h_2 => cases h
  rename_i k st
  split at h
  case h_2 => cases h
  rename_i n hn
  cases h
  have kk := K H locs ls hP hS hl
  unfold am_len at hn
  split at hn
  · rename_i t n' hk
    cases hn
    have hw := am_ws_at g m hk
    by_cases h0 : t = 0
    · subst h0
      exact va_alen hx hb hWd.1 hP k 0 hw (ty := .int) rfl rfl hd kk
    · by_cases h1 : t = 1
      · subst h1
        exact va_alen hx hb hWd.1 hP k 1 hw (ty := .boolean) rfl rfl hd kk
      · have hw2 : (am_ws g m)[k]? = some (g.1 k, .inl (g.2.2.2.2.1, n, .inr (.inl (m.2 k)))) := by
          rw [hw]; simp [am_cell, h0, h1]
        exact va_alen hx hb hWd.1 hP k 2 hw2 (ty := .long) rfl rfl hd kk
  · rename_i al hk
    cases hn
    exact va_alen hx hb hWd.1 hP k 3 (am_ws_at g m hk) (ty := .object "NamesOnLoan$Shelf") rfl rfl hd kk
  · cases hn
  · rename_i hk
    cases hr : am_ro q k with
    | none => rw [hr] at hn; cases hn
    | some x =>
      rw [hr] at hn
      cases hn
      exact va_tlen hx hb (hWd.2.1 k x hr) hS rfl hd kk
theorem am_s_mm {own : String} {idx : Nat} {xs : List Nat} (X : am_Cx p R s mid args c cells slots own bytes maxL base g q) (hd : decode bytes pc = .ok (.invokestatic idx, 3)) (hc : am_chks own idx xs = true) (h : (if xs.headD 0 = 9998 then am_mm (fun x y => if x < y then y else x) pc L S m else if xs.headD 0 = 9997 then am_mm (fun x y => if y < x then y else x) pc L S m else none) = some s') (hP : va_P g.2.1 vwCl (am_ws g m) H) (hS : va_S (am_A base) s.heap H locs) (hl : am_L g.1 ls maxL L) (K : am_K p l e R s mid args below meth c cells slots Q maxL base g s') : W p l e R s mid args below meth c H locs cells slots Q (F0 mid pc ls (S.map (am_tr g.1))) := by
  obtain ⟨hx, hb, hml, hown, hts, hWd, hAd, hR, hcs, hss⟩ := X
  have ht := am_mm_tbl
  simp only [Bool.and_eq_true, List.contains_iff_mem] at ht
  obtain ⟨⟨⟨⟨t1, t2⟩, t3⟩, t4⟩, t5⟩ := ht
  have hsz : c.maxLocals = ls.size := by rw [hml, hl.1]
  split at h
  · rename_i h0
    unfold am_chks at hc
    rw [if_neg (by omega), if_pos h0] at hc
    have hw := am_wd_in hc
    unfold am_mm at h
    split at h
    case h_2 => cases h
    rename_i y x st
    split at h
    case isFalse => cases h
    rename_i hst
    cases h
    have hlo : ((st.map (am_tr g.1)).map fun v => v.category).sum + 13 ≤ R.locals := by rw [am_tr_cs]; omega
    exact va_mmax hx hb hsz hown (hts _ hw) (hts _ t1) (hts _ t2) (hts _ t3) hR.1 hlo hcs hss hd (K H locs ls hP hS hl)
  · rename_i h0
    split at h
    case isFalse => cases h
    rename_i h1
    unfold am_chks at hc
    rw [if_neg (by omega), if_neg h0, if_pos h1] at hc
    have hw := am_wd_in hc
    unfold am_mm at h
    split at h
    case h_2 => cases h
    rename_i y x st
    split at h
    case isFalse => cases h
    rename_i hst
    cases h
    have hlo : ((st.map (am_tr g.1)).map fun v => v.category).sum + 13 ≤ R.locals := by rw [am_tr_cs]; omega
    exact va_mmin hx hb hsz hown (hts _ hw) (hts _ t4) (hts _ t2) (hts _ t5) hR.1 hlo hcs hss hd (K H locs ls hP hS hl)
theorem am_s_dup {v : Value} (h : am_cat1 v = true) : (am_tr g.1 v).category = 1 := by cases v <;> first | rfl | cases h
end AmStep
