section AmMet
variable {p : Program} {l : Launch} {e : Env} {R : Room} {s : State} {mid : MethodId} {args : Array Value} {below : List Frame} {meth : Method} {c : Code} {cells slots : Nat} {Q : State → Prop}
variable {own : String} {bytes : ByteArray} {maxL base : Nat} {g : am_G} {q : am_X}
theorem am_chkR_at {own : String} {bytes : ByteArray} {maxL : Nat} {x : am_I} : ∀ (r : List (Option am_I)) (pc i : Nat), am_chkR own bytes maxL pc r = true → r[i]? = some (some x) → am_chk own bytes maxL (pc + i) x = true := by
  intro r
  induction r with
  | nil => intro pc i _ h; cases h
  | cons o r ih =>
    intro pc i h hi
    simp only [am_chkR, Bool.and_eq_true] at h
    cases i with
    | zero =>
      cases hi
      exact h.1
    | succ i =>
      have := ih (pc + 1) i h.2 hi
      rwa [show pc + 1 + i = pc + (i + 1) by omega] at this
theorem am_chkT_at {own : String} {bytes : ByteArray} {maxL : Nat} {row : List (Option am_I)} : ∀ (T : am_T) (pc j : Nat), am_chkT own bytes maxL pc T = true → T[j]? = some row → am_chkR own bytes maxL (pc + 32 * j) row = true := by
  intro T
  induction T with
  | nil => intro pc j _ h; cases h
  | cons r T ih =>
    intro pc j h hj
    simp only [am_chkT, Bool.and_eq_true] at h
    cases j with
    | zero => cases hj; exact h.1.1
    | succ j =>
      have := ih (pc + 32) j h.2 hj
      rwa [show pc + 32 + 32 * j = pc + 32 * (j + 1) by omega] at this
/-- every instruction of a table that is checked -/
def am_Ck (own : String) (bytes : ByteArray) (maxL : Nat) (T : am_T) : Prop := ∀ (pc : Nat) (x : am_I), am_at T pc = some x → am_chk own bytes maxL pc x = true
theorem am_Ck_of {T : am_T} (h : am_chkT own bytes maxL 0 T = true) : am_Ck own bytes maxL T := by
  intro pc x hx
  unfold am_at at hx
  cases hr : T[pc / 32]? with
  | none => rw [hr] at hx; simp at hx
  | some row =>
    rw [hr] at hx
    simp only [Option.getD_some] at hx
    cases ho : row[pc % 32]? with
    | none => rw [ho] at hx; cases hx
    | some o =>
      rw [ho] at hx
      simp only [Option.getD_some] at hx
      subst hx
      have h1 := am_chkT_at T 0 (pc / 32) h hr
      have h2 := am_chkR_at row _ (pc % 32) h1 ho
      rwa [show 0 + 32 * (pc / 32) + pc % 32 = pc by omega] at h2
theorem am_ev_sound {rm : Room} {C : Nat → List Value → am_M → Option Value → am_M → Prop} {rt : Option FieldType} {r : Option Value} {m' : am_M} {T : am_T} (ok : ∀ (y : Nat) (I : am_Mi), am_ms[y]? = some I → am_mok I = true) (X : am_Cx p R s mid args c cells slots own bytes maxL base g q) (hRm : am_Rm R rm) (hC : am_Cs l base g q rm C) (hck : am_Ck own bytes maxL T) (hRt : am_Rt p l e R s mid args below meth c cells slots Q bytes base g rt r m') : ∀ (n : Nat) (s' : am_S), am_ev q C rt T r m' n s' → am_K p l e R s mid args below meth c cells slots Q maxL base g s' := by
  intro n
  induction n with
  | zero => intro s' h; exact h.elim
  | succ n ih =>
    intro s' h
    obtain ⟨pc, L, S, m⟩ := s'
    intro H locs ls hP hS hl
    simp only [am_ev] at h
    split at h
    case h_2 => exact h.elim
    rename_i x hx
    exact am_one_sound ok X hRm hC (hck pc x hx) h hP hS hl hRt (fun s' hs' => ih s' hs')
def am_room (d : Nat) : Room := { frames := d, cells := 0, slots := 0, locals := 60 * d }
theorem am_lg (ad : Nat → Nat) (as : List Value) : lg_sl (as.map (am_tr ad)) = (as.flatMap (fun v => if v.category = 2 then [some v, none] else [some v])).map (fun o => match o with
  | some v => .val (am_tr ad v)
  | none => .second) := by
  induction as with
  | nil => rfl
  | cons a as ih =>
    simp only [lg_sl, List.map_cons, List.flatMap_cons, List.map_append] at ih ⊢
    rw [ih, am_tr_cat]
    by_cases h : a.category = 2
    · simp [h]
    · simp [h]
theorem am_entry {ad : Nat → Nat} {as : List Value} {n : Nat} (h : (lg_sl (as.map (am_tr ad))).length ≤ n) : am_L ad ((lg_sl (as.map (am_tr ad)) ++ List.replicate (n - (lg_sl (as.map (am_tr ad))).length) Slot.unset).toArray) n (am_ent n as) := by
  have hl := lv_entry (as.map (am_tr ad)) h
  refine ⟨hl.1, hl.2.1, fun i v hi => ?_⟩
  unfold am_ent at hi
  rw [am_lg]
  simp only at hi
  rw [List.getElem?_append] at hi
  split at hi
  · rename_i hlt
    rw [List.getElem?_toArray, List.getElem?_append_left (by simpa using hlt), List.getElem?_map, hi]
    rfl
  · rw [List.getElem?_replicate] at hi
    split at hi <;> cases hi
set_option maxHeartbeats 4000000 in
theorem am_sound (l : Launch) (base : Nat) (g : am_G) (q : am_X) (hAd : am_Ad base g) (ok : ∀ (y : Nat) (I : am_Mi) (T : am_T), am_ms[y]? = some I → am_tb[y]? = some T → am_all (I, T) = true) (okm : ∀ (y : Nat) (I : am_Mi), am_ms[y]? = some I → am_mok I = true) : ∀ d : Nat, am_Cs l base g q (am_room d) (am_run q d) := by
  intro d
  induction d with
  | zero => intro y as m r m1 h; exact h.elim
  | succ d ih =>
    intro y as m r m1 h I hI
    have h : (match am_ms[y]?, am_tb[y]? with
      | some I, some T => (am_ent I.2.2.1 as).length = I.2.2.1 ∧ ∃ n, am_ev q (am_run q d) I.2.2.2.1 T r m1 n (0, am_ent I.2.2.1 as, [], m)
      | _, _ => False) := h
    rw [hI] at h
    cases hT : am_tb[y]? with
    | none => rw [hT] at h; exact h.elim
    | some T =>
      rw [hT] at h
      obtain ⟨hln, n, hn⟩ := h
      have hall := ok y I T hI hT
      unfold am_all at hall
      rw [Bool.and_eq_true] at hall
      obtain ⟨hmok, hchk⟩ := hall
      have hmk := hmok
      unfold am_mok at hmk
      simp only [Bool.and_eq_true, decide_eq_true_eq] at hmk
      obtain ⟨⟨⟨⟨w0, hmx⟩, hpl⟩, hnm⟩, -⟩ := hmk
      refine Met.ofW (cc := I.2.1) (maxL := I.2.2.1) (ret := I.2.2.2.1) hpl rfl ?_
      intro p e s mid args below meth c s₁ B hml hv
      obtain ⟨rfl, hP, hWd⟩ := hv
      have hts : ∀ w ∈ lw_g, w.before ((as.map (am_tr g.1)).toArray) s = true := fun w hw => atoms_spec (ws := .code I.1 I.2.1 I.2.2.1 I.2.2.2.1 :: lw_g) B.pre w (List.mem_cons_of_mem _ hw)
      have hown : s.vm.findClass I.1.cls = some mid.cls := findClass_of_methodNamed B.named
      have hlocks := B.notSynchronized
      have X : am_Cx p (am_room (d + 1)) s mid ((as.map (am_tr g.1)).toArray) c 0 0 I.1.cls I.2.1 I.2.2.1 base g q := ⟨B.exec, B.bytes, hml, hown, hts, hWd, hAd, ⟨by show 1 ≤ d + 1; omega, by show 60 ≤ 60 * (d + 1); omega⟩, Nat.le_refl _, Nat.le_refl _⟩
      have hRm : am_Rm (am_room (d + 1)) (am_room d) := ⟨rfl, rfl, Nat.le_refl _, by show 39 + 60 * d ≤ 60 * (d + 1); omega⟩
      have hRt : am_Rt p l e (am_room (d + 1)) s mid ((as.map (am_tr g.1)).toArray) below meth c 0 0 (MQ below (am_Qc base g r m1) ((as.map (am_tr g.1)).toArray) s 0 0 (am_A base)) I.2.1 base g I.2.2.2.1 r m1 := by
        intro H' locs' ls' pc' hP' hS'
        have hq : ∀ t : State, t.heap = H' → va_P g.2.1 vwCl (am_ws g m1) t.heap := fun t ht => by rw [ht]; exact hP'
        refine ⟨fun v hr hty hd => ?_, fun v hr hty hd => ?_, fun hr hty hd => ?_⟩
        · obtain ⟨ty, hty, hnr⟩ := hty
          rw [hr]
          exact W.zret B.exec B.bytes (B.returns.trans hty) hnr (fun t ht hW => ⟨⟨v, (), rfl, rfl, hq t ht⟩, hS'.F ht⟩) hS'.2.2 hd
        · rw [hr]
          exact W.lret B.exec B.bytes (B.returns.trans hty) (fun t ht hW => ⟨⟨v, (), rfl, rfl, hq t ht⟩, hS'.F ht⟩) hS'.2.2 hd
        · rw [hr]
          exact W.vret B.exec B.bytes (B.returns.trans hty) (fun t ht hW => ⟨⟨(), rfl, trivial, hq t ht⟩, hS'.F ht⟩) hS'.2.2 hd
      have hlen : (lg_sl (as.map (am_tr g.1))).length ≤ I.2.2.1 := by
        rw [am_lg, List.length_map]
        unfold am_ent at hln
        simp only [List.length_append, List.length_replicate] at hln
        omega
      rw [lg_entry_eq]
      exact am_ev_sound okm X hRm ih (am_Ck_of hchk) hRt n _ hn s.heap [] _ hP va_S.rf (am_entry hlen)
end AmMet
