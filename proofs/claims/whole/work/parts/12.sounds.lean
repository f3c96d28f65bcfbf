section AmEv2
variable {p : Program} {l : Launch} {e : Env} {R : Room} {s : State} {mid : MethodId} {args : Array Value} {below : List Frame} {meth : Method} {c : Code} {cells slots : Nat} {Q : State → Prop}
variable {own : String} {bytes : ByteArray} {maxL base : Nat} {g : am_G} {q : am_X}
variable {H : Heap} {locs : List Loc} {ls : Array Slot} {pc : Nat} {L : List (Option Value)} {S : List Value} {m : am_M}
theorem am_s_lk {pc : Nat} {x : Int} : ∀ (ps : List (Int × Int)) (ts : List Nat) (d t : Nat) (dd : Int), (pc : Int) + dd = (d : Int) → ts.map (fun t : Nat => (t : Int)) = ps.map (fun o => (pc : Int) + o.2) → am_lk ps ts d x = some t → (pc : Int) + Op.lookupswitch.offset ps dd x = (t : Int) := by
  intro ps
  induction ps with
  | nil =>
    intro ts d t dd h1 h2 h3
    cases h3
    exact h1
  | cons a ps ih =>
    intro ts d t dd h1 h2 h3
    cases ts with
    | nil => cases h3
    | cons t' ts =>
      simp only [List.map_cons, List.cons.injEq] at h2
      obtain ⟨a1, a2⟩ := a
      simp only [am_lk] at h3
      rw [Op.lookupswitch.offset_cons]
      split at h3
      · rename_i hx
        cases h3
        rw [if_pos hx.symm]
        exact h2.1.symm
      · rename_i hx
        rw [if_neg (fun h => hx h.symm)]
        exact ih ts d t dd h1 h2.2 h3
/-- what a return rests on -/
def am_Rt (p : Program) (l : Launch) (e : Env) (R : Room) (s : State) (mid : MethodId) (args : Array Value) (below : List Frame) (meth : Method) (c : Code) (cells slots : Nat) (Q : State → Prop) (bytes : ByteArray) (base : Nat) (g : am_G) (rt : Option FieldType) (r : Option Value) (m' : am_M) : Prop :=
  ∀ (H' : Heap) (locs' : List Loc) (ls' : Array Slot) (pc' : Nat), va_P g.2.1 vwCl (am_ws g m') H' → va_S (am_A base) s.heap H' locs' →
    (∀ v : Int32, r = some (.int v) → (∃ ty, rt = some ty ∧ narrow ty (.int v) = .int v) → decode bytes pc' = .ok (.ireturn, 1) → W p l e R s mid args below meth c H' locs' cells slots Q (F0 mid pc' ls' [.int v])) ∧
    (∀ v : Int64, r = some (.long v) → rt = some .long → decode bytes pc' = .ok (.lreturn, 1) → W p l e R s mid args below meth c H' locs' cells slots Q (F0 mid pc' ls' [.long v])) ∧
    (r = none → rt = none → decode bytes pc' = .ok (.return_, 1) → W p l e R s mid args below meth c H' locs' cells slots Q (F0 mid pc' ls' []))
theorem am_ri_off {m : am_M} {k : Nat} {f : Nat → Int32} : ∀ i, i ≠ k → (am_ri m.1 k f, m.2).1 i = m.1 i ∧ (am_ri m.1 k f, m.2).2 i = m.2 i := fun i hi => ⟨by simp [am_ri, hi], rfl⟩
theorem am_rl_off {m : am_M} {k : Nat} {f : Nat → Int64} : ∀ i, i ≠ k → (m.1, am_rl m.2 k f).1 i = m.1 i ∧ (m.1, am_rl m.2 k f).2 i = m.2 i := fun i hi => ⟨rfl, by simp [am_rl, hi]⟩
theorem am_ws_rowi (g : am_G) (m : am_M) {k n : Nat} (f : Nat → Int32) (h : am_sk[k]? = some (.inr (.inl (0, n)))) : (am_ws g m).set k (g.1 k, .inl (g.2.2.1, n, .inl f)) = am_ws g (am_ri m.1 k f, m.2) := by
  have e := am_ws_set g (m := m) (m1 := (am_ri m.1 k f, m.2)) (k := k) h am_ri_off
  rw [show am_cell g (am_ri m.1 k f, m.2) k (.inr (.inl (0, n))) = .inl (g.2.2.1, n, .inl f) by simp [am_cell, am_ri]] at e
  exact e
theorem am_ws_rowz (g : am_G) (m : am_M) {k n : Nat} (f : Nat → Int32) (h : am_sk[k]? = some (.inr (.inl (1, n)))) : (am_ws g m).set k (g.1 k, .inl (g.2.2.2.1, n, .inl f)) = am_ws g (am_ri m.1 k f, m.2) := by
  have e := am_ws_set g (m := m) (m1 := (am_ri m.1 k f, m.2)) (k := k) h am_ri_off
  rw [show am_cell g (am_ri m.1 k f, m.2) k (.inr (.inl (1, n))) = .inl (g.2.2.2.1, n, .inl f) by simp [am_cell, am_ri]] at e
  exact e
theorem am_ws_rowl (g : am_G) (m : am_M) {k n : Nat} (f : Nat → Int64) (h : am_sk[k]? = some (.inr (.inl (2, n)))) : (am_ws g m).set k (g.1 k, .inl (g.2.2.2.2.1, n, .inr (.inl f))) = am_ws g (m.1, am_rl m.2 k f) := by
  have e := am_ws_set g (m := m) (m1 := (m.1, am_rl m.2 k f)) (k := k) h am_rl_off
  rw [show am_cell g (m.1, am_rl m.2 k f) k (.inr (.inl (2, n))) = .inl (g.2.2.2.2.1, n, .inr (.inl f)) by simp [am_cell, am_rl]] at e
  exact e
theorem am_ui_ri (f : Nat → Nat → Int32) (k j : Nat) (x : Int32) : am_ui f k j x = am_ri f k (upd (f k) j x) := rfl
theorem am_ul_rl (f : Nat → Nat → Int64) (k j : Nat) (x : Int64) : am_ul f k j x = am_rl f k (vp_updL (f k) j x) := rfl
theorem am_at_i (g : am_G) (m : am_M) {k n : Nat} (h : am_sk[k]? = some (.inr (.inl (0, n)))) : (am_ws g m)[k]? = some (g.1 k, .inl (g.2.2.1, n, .inl (m.1 k))) := am_ws_at g m h
theorem am_at_z (g : am_G) (m : am_M) {k n : Nat} (h : am_sk[k]? = some (.inr (.inl (1, n)))) : (am_ws g m)[k]? = some (g.1 k, .inl (g.2.2.2.1, n, .inl (m.1 k))) := am_ws_at g m h
theorem am_at_l (g : am_G) (m : am_M) {k n : Nat} (h : am_sk[k]? = some (.inr (.inl (2, n)))) : (am_ws g m)[k]? = some (g.1 k, .inl (g.2.2.2.2.1, n, .inr (.inl (m.2 k)))) := am_ws_at g m h
theorem am_cpy_w : ((lw_g.contains (.native arraycopyName)) && (lw_g.contains (.static arraycopyName)) && (lw_g.contains (.initialized "java/lang/System"))) = true := by decide +kernel
set_option maxHeartbeats 8000000 in
set_option maxRecDepth 20000 in
theorem am_one_sound {ei : am_I} {rm : Room} {C : Nat → List Value → am_M → Option Value → am_M → Prop} {rt : Option FieldType} {r : Option Value} {m' : am_M} {Kp : am_S → Prop} (ok : ∀ (y : Nat) (I : am_Mi), am_ms[y]? = some I → am_mok I = true) (X : am_Cx p R s mid args c cells slots own bytes maxL base g q) (hRm : am_Rm R rm) (hC : am_Cs l base g q rm C) (hck : am_chk own bytes maxL pc ei = true) (h : am_one q C rt r m' ei pc L S m Kp) (hP : va_P g.2.1 vwCl (am_ws g m) H) (hS : va_S (am_A base) s.heap H locs) (hl : am_L g.1 ls maxL L)
    (hRt : am_Rt p l e R s mid args below meth c cells slots Q bytes base g rt r m') (K : ∀ s', Kp s' → am_K p l e R s mid args below meth c cells slots Q maxL base g s') : W p l e R s mid args below meth c H locs cells slots Q (F0 mid pc ls (S.map (am_tr g.1))) := by
  have dflt : (match am_step q ei pc L S m with
    | some s' => Kp s'
    | none => False) → W p l e R s mid args below meth c H locs cells slots Q (F0 mid pc ls (S.map (am_tr g.1))) := by
    intro h
    cases hs : am_step q ei pc L S m with
    | none => rw [hs] at h; exact h.elim
    | some s' => rw [hs] at h; exact am_step_sound X hck hs hP hS hl (K s' h)
  obtain ⟨ins, len, xs, v⟩ := ei
  have X0 := X
  obtain ⟨hx, hb, hml, hown, hts, hWd, hAd, hR, hcs, hss⟩ := X
  have hck0 := hck
  unfold am_chk at hck
  rw [Bool.and_eq_true] at hck
  replace hck := And.intro (of_decide_eq_true hck.1) hck.2
  obtain ⟨hd, hck⟩ := hck
  simp only at hd
  cases ins <;> (try (exact dflt h)) <;> simp only [am_one] at h <;> simp only [am_chk2, Bool.and_eq_true, decide_eq_true_eq] at hck
  case ifCond cc off =>
    obtain ⟨rfl, hj⟩ := hck
    unfold am_eif at h
    split at h
    case h_2 => exact h.elim
    have k1 := fun hz => K _ (h.1 hz) H locs ls hP hS hl
    have k2 := fun hz => K _ (h.2 hz) H locs ls hP hS hl
    cases cc
    · exact lv_if_eq hx hb hd (am_jmp_eq hj) k1 k2
    · exact lv_if_ne hx hb hd (am_jmp_eq hj) k1 (fun hz => k2 (fun h9 => h9 hz))
    · exact lv_if_lt hx hb hd (am_jmp_eq hj) k1 k2
    · exact lv_if_ge hx hb hd (am_jmp_eq hj) k1 k2
    · exact lv_if_gt hx hb hd (am_jmp_eq hj) k1 k2
    · exact lv_if_le hx hb hd (am_jmp_eq hj) k1 k2
  case if_icmp cc off =>
    obtain ⟨rfl, hj⟩ := hck
    unfold am_ecmp at h
    split at h
    case h_2 => exact h.elim
    have k1 := fun hz => K _ (h.1 hz) H locs ls hP hS hl
    have k2 := fun hz => K _ (h.2 hz) H locs ls hP hS hl
    cases cc
    · exact lv_icmp_eq hx hb hd (am_jmp_eq hj) k1 k2
    · exact lv_icmp_ne hx hb hd (am_jmp_eq hj) k1 (fun hz => k2 (fun h9 => h9 hz))
    · exact lv_icmp_lt hx hb hd (am_jmp_eq hj) k1 k2
    · exact lv_icmp_ge hx hb hd (am_jmp_eq hj) k1 k2
    · exact lv_icmp_gt hx hb hd (am_jmp_eq hj) k1 k2
    · exact lv_icmp_le hx hb hd (am_jmp_eq hj) k1 k2
  case idiv =>
    subst hck
    unfold am_ediv at h
    split at h
    case h_2 => exact h.elim
    exact lv_idiv hx hb hd h.1 (K _ h.2 H locs ls hP hS hl)
  case irem =>
    subst hck
    unfold am_ediv at h
    split at h
    case h_2 => exact h.elim
    exact lv_irem hx hb hd h.1 (K _ h.2 H locs ls hP hS hl)
  case iaload =>
    subst hck
    unfold am_eild at h
    split at h
    case h_2 => exact h.elim
    rename_i i k st
    split at h
    case h_2 => exact h.elim
    rename_i x hx1
    unfold am_arr at hx1
    split at hx1
    · rename_i n hk
      cases hx1
      exact va_iald hx hb hWd.1 hP k 0 (am_at_i g m hk) rfl h.1 hd (K _ h.2 H locs ls hP hS hl)
    · cases hx1
    · exact va_ti hx hb (hWd.2.1 k x hx1) hS h.1 rfl hd (K _ h.2 H locs ls hP hS hl)
  case baload =>
    subst hck
    unfold am_ebld at h
    split at h
    case h_2 => exact h.elim
    rename_i i k st
    split at h
    case h_2 => exact h.elim
    rename_i n hk
    exact va_zald hx hb hWd.1 hP k 1 (am_at_z g m (am_typ_eq hk)) rfl h.1 hd (K _ h.2 H locs ls hP hS hl)
  case laload =>
    subst hck
    unfold am_elld at h
    split at h
    case h_2 => exact h.elim
    rename_i i k st
    split at h
    case h_2 => exact h.elim
    rename_i n hk
    exact va_lald hx hb hWd.1 hP k 2 (am_at_l g m (am_typ_eq hk)) rfl h.1 hd (K _ h.2 H locs ls hP hS hl)
  case aaload =>
    subst hck
    unfold am_eald at h
    split at h
    case h_2 => exact h.elim
    rename_i i k st
    split at h
    case h_2 => exact h.elim
    rename_i al hk
    obtain ⟨hin, h⟩ := h
    split at h
    case h_2 => exact h.elim
    rename_i r0 hr0
    refine va_aldq (C := "NamesOnLoan$Shelf") hx hb hWd.1 hP k 3 (am_ws_at g m hk) rfl hin hd ?_
    simp only [hr0, Option.map_some]
    exact K _ h H locs ls hP hS hl
  case iastore =>
    subst hck
    unfold am_eist at h
    split at h
    case h_2 => exact h.elim
    rename_i x i k st
    split at h
    case h_2 => exact h.elim
    rename_i n hk
    have hk := am_typ_eq hk
    refine va_iast hx hb hWd.1 hP (am_D hAd m) hS k 0 (am_at_i g m hk) rfl h.1 hd (fun H1 locs1 hP1 _ hS1 => ?_)
    rw [am_ws_rowi g m _ hk] at hP1
    exact K _ h.2 H1 locs1 ls hP1 hS1 hl
  case bastore =>
    subst hck
    unfold am_ebst at h
    split at h
    case h_2 => exact h.elim
    rename_i x i k st
    split at h
    case h_2 => exact h.elim
    rename_i n hk
    have hk := am_typ_eq hk
    refine va_zast hx hb hWd.1 hP (am_D hAd m) hS k 1 (am_at_z g m hk) rfl h.1 hd (fun H1 locs1 hP1 _ hS1 => ?_)
    rw [am_ws_rowz g m _ hk] at hP1
    exact K _ h.2 H1 locs1 ls hP1 hS1 hl
  case lastore =>
    subst hck
    unfold am_elst at h
    split at h
    case h_2 => exact h.elim
    rename_i x i k st
    split at h
    case h_2 => exact h.elim
    rename_i n hk
    have hk := am_typ_eq hk
    refine va_last hx hb hWd.1 hP (am_D hAd m) hS k 2 (am_at_l g m hk) rfl h.1 hd (fun H1 locs1 hP1 _ hS1 => ?_)
    rw [am_ws_rowl g m _ hk] at hP1
    exact K _ h.2 H1 locs1 ls hP1 hS1 hl
  case tableswitch dd lo hi offs =>
    obtain ⟨hj, hts2⟩ := hck
    unfold am_etab at h
    split at h
    case h_2 => exact h.elim
    rename_i x st
    by_cases hc : x.toInt < lo ∨ hi < x.toInt
    · exact lv_tableOut hx hb hd hc (am_jmp_eq hj) (K _ (h.1 hc) H locs ls hP hS hl)
    · obtain ⟨t, ht, hk⟩ := h.2 hc
      have h3 : ((xs.drop 1).map (fun t : Nat => (t : Int)))[(x.toInt - lo).toNat]? = some (t : Int) := by rw [List.getElem?_map, ht]; rfl
      rw [hts2, List.getElem?_map] at h3
      cases ho : offs.toList[(x.toInt - lo).toNat]? with
      | none => rw [ho] at h3; cases h3
      | some off =>
        rw [ho] at h3
        simp only [Option.map_some, Option.some.injEq] at h3
        exact lv_tableIn hx hb hd (fun h => hc (Or.inl h)) (fun h => hc (Or.inr h)) (by rw [← Array.getElem?_toList]; exact ho) h3 (K _ hk H locs ls hP hS hl)
  case lookupswitch dd ps =>
    obtain ⟨⟨hj, hts2⟩, hps⟩ := hck
    unfold am_elook at h
    split at h
    case h_2 => exact h.elim
    rename_i x st
    obtain ⟨t, ht, hk⟩ := h
    exact lv_lookup hx hb hd hps rfl (am_s_lk _ _ _ _ _ (am_jmp_eq hj) hts2 ht) (K _ hk H locs ls hP hS hl)
  case invokevirtual idx =>
    obtain ⟨rfl, hc⟩ := hck
    exact am_s_inv ok X0 hRm hC hd hc h hP hS hl K
  case invokestatic idx =>
    obtain ⟨rfl, hc⟩ := hck
    by_cases h9 : xs.headD 0 = 9999
    · rw [if_pos h9] at h
      unfold am_chks at hc
      rw [if_pos h9] at hc
      have hw := am_wd_in hc
      have ht := am_cpy_w
      simp only [Bool.and_eq_true, List.contains_iff_mem] at ht
      obtain ⟨⟨t1, t2⟩, t3⟩ := ht
      unfold am_ecpy at h
      split at h
      case h_2 => exact h.elim
      rename_i n dp b sp a st
      obtain ⟨hcat, n1, n2, n3, h⟩ := h
      have hlo : ((st.map (am_tr g.1)).map fun v => v.category).sum + (nativeFrameWords "java/lang/System" "arraycopy" 5 + 11) ≤ R.locals := by
        rw [am_tr_cs]
        have : nativeFrameWords "java/lang/System" "arraycopy" 5 + 11 ≤ 40 := by decide
        omega
      have hsz : c.maxLocals = ls.size := by rw [hml, hl.1]
      rcases h with ⟨na, nb, ha, hb2, l1, l2, hk⟩ | ⟨na, nb, ha, hb2, l1, l2, hk⟩
      · have ha := am_typ_eq ha
        have hb2 := am_typ_eq hb2
        refine va_copyi hx hb hsz hown (hts _ hw) (hts _ t1) (hts _ t2) (hts _ t3) hWd.1 hP (am_D hAd m) hS a b 0 0 (am_at_i g m ha) (am_at_i g m hb2) rfl rfl rfl n1 n2 n3 l1 l2 (fun _ _ => rfl) hR.1 hlo hd (fun H1 locs1 hP1 _ hS1 => ?_)
        rw [am_ws_rowi g m _ hb2] at hP1
        exact K _ hk H1 locs1 ls hP1 hS1 hl
      · have ha := am_typ_eq ha
        have hb2 := am_typ_eq hb2
        refine va_copyl hx hb hsz hown (hts _ hw) (hts _ t1) (hts _ t2) (hts _ t3) hWd.1 hP (am_D hAd m) hS a b 2 2 (am_at_l g m ha) (am_at_l g m hb2) rfl rfl rfl n1 n2 n3 l1 l2 (fun _ _ => rfl) hR.1 hlo hd (fun H1 locs1 hP1 _ hS1 => ?_)
        rw [am_ws_rowl g m _ hb2] at hP1
        exact K _ hk H1 locs1 ls hP1 hS1 hl
    · rw [if_neg h9] at h
      by_cases h8 : xs.headD 0 = 9998 ∨ xs.headD 0 = 9997
      · rw [if_pos h8] at h
        exact dflt h
      · rw [if_neg h8] at h
        exact am_s_invS ok X0 hRm hC hd hc (by omega) h hP hS hl K
  case ireturn =>
    subst hck
    unfold am_iret at h
    split at h
    case h_2 => exact h.elim
    obtain ⟨h1, h2, h3⟩ := h
    subst h2
    exact (hRt H locs ls pc hP hS).1 _ h1 h3 hd
  case lreturn =>
    subst hck
    unfold am_lret at h
    split at h
    case h_2 => exact h.elim
    obtain ⟨h1, h2, h3⟩ := h
    subst h2
    exact (hRt H locs ls pc hP hS).2.1 _ h1 h3 hd
  case return_ =>
    subst hck
    unfold am_vret at h
    split at h
    case h_2 => exact h.elim
    obtain ⟨h1, h2, h3⟩ := h
    subst h2
    exact (hRt H locs ls pc hP hS).2.2 h1 h3 hd
end AmEv2
