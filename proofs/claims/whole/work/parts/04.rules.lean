/-! ===== RULES of the abstract machine, goal first ===== -/
def am_E (q : am_X) (d : Nat) (rt : Option FieldType) (T : am_T) (r : Option Value) (m' : am_M) (s : am_S) : Prop := ∃ n, am_ev q (am_run q d) rt T r m' n s
def am_st1 (q : am_X) (T : am_T) (pc : Nat) (l : List (Option Value)) (S : List Value) (m : am_M) : Option am_S := (am_at T pc).bind (fun e => am_step q e pc l S m)
def am_nst (q : am_X) (T : am_T) : Nat → am_S → Option am_S
  | 0, s => some s
  | n + 1, (pc, l, S, m) => (am_st1 q T pc l S m).bind (am_nst q T n)
set_option maxHeartbeats 4000000 in
theorem am_one_step {q : am_X} {C : Nat → List Value → am_M → Option Value → am_M → Prop} {rt : Option FieldType} {r : Option Value} {m' : am_M} {e : am_I} {pc : Nat} {l : List (Option Value)} {S : List Value} {m : am_M} {s' : am_S} {K : am_S → Prop} (h : am_step q e pc l S m = some s') (k : K s') : am_one q C rt r m' e pc l S m K := by
  obtain ⟨ins, len, xs, v⟩ := e
  cases ins <;> first | (simp only [am_step] at h; cases h; done) | (simp only [am_one, h]; exact k) | skip
  have h' := h
  simp only [am_step] at h'
  simp only [am_one]
  by_cases h1 : xs.headD 0 = 9998
  · rw [if_neg (by omega), if_pos (Or.inl h1), h]; exact k
  · rw [if_neg h1] at h'
    by_cases h2 : xs.headD 0 = 9997
    · rw [if_neg (by omega), if_pos (Or.inr h2), h]; exact k
    · rw [if_neg h2] at h'; cases h'
theorem am_nst_ev {q : am_X} {C : Nat → List Value → am_M → Option Value → am_M → Prop} {rt : Option FieldType} {T : am_T} {r : Option Value} {m' : am_M} : ∀ (n : Nat) (s s' : am_S) (k : Nat), am_nst q T n s = some s' → am_ev q C rt T r m' k s' → am_ev q C rt T r m' (k + n) s := by
  intro n
  induction n with
  | zero => intro s s' k h hk; cases h; exact hk
  | succ n ih =>
    intro s s' k h hk
    obtain ⟨pc, l, S, m⟩ := s
    show am_ev q C rt T r m' ((k + n) + 1) (pc, l, S, m)
    simp only [am_nst, am_st1] at h
    simp only [am_ev]
    cases ha : am_at T pc with
    | none => rw [ha] at h; cases h
    | some e =>
      rw [ha] at h
      simp only [Option.bind_some] at h ⊢
      cases hs : am_step q e pc l S m with
      | none => rw [hs] at h; cases h
      | some s1 =>
        rw [hs] at h
        exact am_one_step hs (ih s1 s' k h hk)
section AmRules
variable {q : am_X} {d : Nat} {rt : Option FieldType} {T : am_T} {r : Option Value} {m' m : am_M} {pc : Nat} {l : List (Option Value)} {st : List Value} {len : Nat} {cv : Int32} {xs : List Nat}
theorem am_steps (n : Nat) {s s' : am_S} (h : am_nst q T n s = some s') (k : am_E q d rt T r m' s') : am_E q d rt T r m' s := by
  obtain ⟨n', hn⟩ := k
  exact ⟨n' + n, am_nst_ev n s s' n' h hn⟩
theorem am_byone {e : am_I} {S : List Value} (ha : am_at T pc = some e) (h : ∃ n, am_one q (am_run q d) rt r m' e pc l S m (am_ev q (am_run q d) rt T r m' n)) : am_E q d rt T r m' (pc, l, S, m) := by
  obtain ⟨n, hn⟩ := h
  refine ⟨n + 1, ?_⟩
  simp only [am_ev, ha]
  exact hn
theorem am_rif {c : ClassFile.Cond} {off : Int} {x : Int32} (ha : am_at T pc = some (.ifCond c off, len, xs, cv)) (h1 : am_cz c x → am_E q d rt T r m' (xs.headD 0, l, st, m)) (h2 : ¬ am_cz c x → am_E q d rt T r m' (pc + 3, l, st, m)) : am_E q d rt T r m' (pc, l, .int x :: st, m) := by
  refine am_byone ha ?_
  by_cases hc : am_cz c x
  · obtain ⟨n, hn⟩ := h1 hc
    exact ⟨n, fun _ => hn, fun h => absurd hc h⟩
  · obtain ⟨n, hn⟩ := h2 hc
    exact ⟨n, fun h => absurd h hc, fun _ => hn⟩
theorem am_rcmp {c : ClassFile.Cond} {off : Int} {x y : Int32} (ha : am_at T pc = some (.if_icmp c off, len, xs, cv)) (h1 : am_cc c x y → am_E q d rt T r m' (xs.headD 0, l, st, m)) (h2 : ¬ am_cc c x y → am_E q d rt T r m' (pc + 3, l, st, m)) : am_E q d rt T r m' (pc, l, .int y :: .int x :: st, m) := by
  refine am_byone ha ?_
  by_cases hc : am_cc c x y
  · obtain ⟨n, hn⟩ := h1 hc
    exact ⟨n, fun _ => hn, fun h => absurd hc h⟩
  · obtain ⟨n, hn⟩ := h2 hc
    exact ⟨n, fun h => absurd h hc, fun _ => hn⟩
theorem am_rdiv {x y : Int32} (ha : am_at T pc = some (.idiv, len, xs, cv)) (h : ¬ y = 0) (k : am_E q d rt T r m' (pc + 1, l, .int (x / y) :: st, m)) : am_E q d rt T r m' (pc, l, .int y :: .int x :: st, m) := by
  obtain ⟨n, hn⟩ := k
  exact am_byone ha ⟨n, h, hn⟩
theorem am_rrem {x y : Int32} (ha : am_at T pc = some (.irem, len, xs, cv)) (h : ¬ y = 0) (k : am_E q d rt T r m' (pc + 1, l, .int (x - x / y * y) :: st, m)) : am_E q d rt T r m' (pc, l, .int y :: .int x :: st, m) := by
  obtain ⟨n, hn⟩ := k
  exact am_byone ha ⟨n, h, hn⟩
theorem am_rild {i : Int32} {k N : Nat} {f : Nat → Int32} (ha : am_at T pc = some (.iaload, len, xs, cv)) (hk : am_arr q m k = some (N, f)) (hi : vp_in i N) (kk : am_E q d rt T r m' (pc + 1, l, .int (f i.toNatClampNeg) :: st, m)) : am_E q d rt T r m' (pc, l, .int i :: .ref k :: st, m) := by
  obtain ⟨n, hn⟩ := kk
  refine am_byone ha ⟨n, ?_⟩
  simp only [am_one, am_eild, hk]
  exact ⟨hi, hn⟩
theorem am_rbld {i : Int32} {k N : Nat} (ha : am_at T pc = some (.baload, len, xs, cv)) (hk : am_typ 1 k = some N) (hi : vp_in i N) (kk : am_E q d rt T r m' (pc + 1, l, .int (m.1 k i.toNatClampNeg) :: st, m)) : am_E q d rt T r m' (pc, l, .int i :: .ref k :: st, m) := by
  obtain ⟨n, hn⟩ := kk
  refine am_byone ha ⟨n, ?_⟩
  simp only [am_one, am_ebld, hk]
  exact ⟨hi, hn⟩
theorem am_rlld {i : Int32} {k N : Nat} (ha : am_at T pc = some (.laload, len, xs, cv)) (hk : am_typ 2 k = some N) (hi : vp_in i N) (kk : am_E q d rt T r m' (pc + 1, l, .long (m.2 k i.toNatClampNeg) :: st, m)) : am_E q d rt T r m' (pc, l, .int i :: .ref k :: st, m) := by
  obtain ⟨n, hn⟩ := kk
  refine am_byone ha ⟨n, ?_⟩
  simp only [am_one, am_elld, hk]
  exact ⟨hi, hn⟩
theorem am_rald {i : Int32} {k a : Nat} {al : List Nat} (ha : am_at T pc = some (.aaload, len, xs, cv)) (hk : am_sk[k]? = some (.inr (.inr al))) (hi : vp_in i al.length) (hr : al[i.toNatClampNeg]? = some a) (kk : am_E q d rt T r m' (pc + 1, l, .ref a :: st, m)) : am_E q d rt T r m' (pc, l, .int i :: .ref k :: st, m) := by
  obtain ⟨n, hn⟩ := kk
  refine am_byone ha ⟨n, ?_⟩
  simp only [am_one, am_eald, hk, hr]
  exact ⟨hi, hn⟩
theorem am_rist {i x : Int32} {k N : Nat} (ha : am_at T pc = some (.iastore, len, xs, cv)) (hk : am_typ 0 k = some N) (hi : vp_in i N) (kk : am_E q d rt T r m' (pc + 1, l, st, (am_ui m.1 k i.toNatClampNeg x, m.2))) : am_E q d rt T r m' (pc, l, .int x :: .int i :: .ref k :: st, m) := by
  obtain ⟨n, hn⟩ := kk
  refine am_byone ha ⟨n, ?_⟩
  simp only [am_one, am_eist, hk]
  exact ⟨hi, hn⟩
theorem am_rbst {i x : Int32} {k N : Nat} (ha : am_at T pc = some (.bastore, len, xs, cv)) (hk : am_typ 1 k = some N) (hi : vp_in i N) (kk : am_E q d rt T r m' (pc + 1, l, st, (am_ui m.1 k i.toNatClampNeg (vp_nar .boolean x), m.2))) : am_E q d rt T r m' (pc, l, .int x :: .int i :: .ref k :: st, m) := by
  obtain ⟨n, hn⟩ := kk
  refine am_byone ha ⟨n, ?_⟩
  simp only [am_one, am_ebst, hk]
  exact ⟨hi, hn⟩
theorem am_rlst {i : Int32} {x : Int64} {k N : Nat} (ha : am_at T pc = some (.lastore, len, xs, cv)) (hk : am_typ 2 k = some N) (hi : vp_in i N) (kk : am_E q d rt T r m' (pc + 1, l, st, (m.1, am_ul m.2 k i.toNatClampNeg x))) : am_E q d rt T r m' (pc, l, .long x :: .int i :: .ref k :: st, m) := by
  obtain ⟨n, hn⟩ := kk
  refine am_byone ha ⟨n, ?_⟩
  simp only [am_one, am_elst, hk]
  exact ⟨hi, hn⟩
theorem am_rtab {x : Int32} {dd lo hi : Int} {offs : Array Int} (ha : am_at T pc = some (.tableswitch dd lo hi offs, len, xs, cv)) (h1 : (x.toInt < lo ∨ hi < x.toInt) → am_E q d rt T r m' (xs.headD 0, l, st, m)) (h2 : ¬ (x.toInt < lo ∨ hi < x.toInt) → ∃ t, (xs.drop 1)[(x.toInt - lo).toNat]? = some t ∧ am_E q d rt T r m' (t, l, st, m)) : am_E q d rt T r m' (pc, l, .int x :: st, m) := by
  refine am_byone ha ?_
  by_cases hc : x.toInt < lo ∨ hi < x.toInt
  · obtain ⟨n, hn⟩ := h1 hc
    exact ⟨n, fun _ => hn, fun h => absurd hc h⟩
  · obtain ⟨t, ht, n, hn⟩ := h2 hc
    exact ⟨n, fun h => absurd h hc, fun _ => ⟨t, ht, hn⟩⟩
theorem am_rlook {x : Int32} {dd : Int} {ps : Array (Int × Int)} {t : Nat} (ha : am_at T pc = some (.lookupswitch dd ps, len, xs, cv)) (ht : am_lk ps.toList (xs.drop 1) (xs.headD 0) x.toInt = some t) (k : am_E q d rt T r m' (t, l, st, m)) : am_E q d rt T r m' (pc, l, .int x :: st, m) := by
  obtain ⟨n, hn⟩ := k
  exact am_byone ha ⟨n, t, ht, hn⟩
theorem am_rcall {idx y np k ci pl : Nat} {st0 As : List Value} {o : Nat × List (Option Nat)} {r1 : Option Value} {m1 : am_M} (ha : am_at T pc = some (.invokevirtual idx, len, [y, np, ci, pl], cv)) (hst : st0 = As.reverse ++ .ref k :: st) (hn : As.length = np) (hk : am_sk[k]? = some (.inl o)) (ho : o.1 = ci) (hc : am_cs st ≤ 8) (hr : am_run q d y (.ref k :: As) m r1 m1) (kk : am_E q d rt T r m' (pc + 3, l, r1.toList ++ st, m1)) : am_E q d rt T r m' (pc, l, st0, m) := by
  obtain ⟨n, hnn⟩ := kk
  refine am_byone ha ⟨n, ?_⟩
  subst hst
  have h1 : (As.reverse ++ Value.ref k :: st).drop np = .ref k :: st := by rw [List.drop_append_of_le_length (by simp [hn])]; simp [← hn]
  have h2 : (As.reverse ++ Value.ref k :: st).take np = As.reverse := List.take_left' (by simp [hn])
  simp only [am_one, am_einv, List.getD_cons_succ, List.getD_cons_zero, List.headD_cons, h1, h2, List.reverse_reverse, List.length_reverse]
  exact ⟨⟨o, hk, ho⟩, hn, hc, r1, m1, hr, hnn⟩
theorem am_rcallS {idx y np pl : Nat} {st0 As : List Value} {r1 : Option Value} {m1 : am_M} (ha : am_at T pc = some (.invokestatic idx, len, [y, np, pl], cv)) (hy : y < 9000) (hst : st0 = As.reverse ++ st) (hn : As.length = np) (hc : am_cs st ≤ 8) (hr : am_run q d y As m r1 m1) (kk : am_E q d rt T r m' (pc + 3, l, r1.toList ++ st, m1)) : am_E q d rt T r m' (pc, l, st0, m) := by
  obtain ⟨n, hnn⟩ := kk
  refine am_byone ha ⟨n, ?_⟩
  subst hst
  have h1 : (As.reverse ++ st).drop np = st := by rw [List.drop_append_of_le_length (by simp [hn])]; simp [← hn]
  have h2 : (As.reverse ++ st).take np = As.reverse := List.take_left' (by simp [hn])
  simp only [am_one, List.headD_cons, show ¬ y = 9999 by omega, show ¬ (y = 9998 ∨ y = 9997) by omega, if_false, am_einvS, List.getD_cons_succ, List.getD_cons_zero, h1, h2, List.reverse_reverse, List.length_reverse]
  exact ⟨hn, hc, r1, m1, hr, hnn⟩
theorem am_rcpy {idx pl a b na nb : Nat} {sp dp n : Int32} (ha : am_at T pc = some (.invokestatic idx, len, [9999, pl], cv)) (hc : am_cs st ≤ 8) (h1 : ¬ sp < 0) (h2 : ¬ dp < 0) (h3 : ¬ n < 0) (ta : am_typ 0 a = some na) (tb : am_typ 0 b = some nb) (h4 : sp.toNatClampNeg + n.toNatClampNeg ≤ na) (h5 : dp.toNatClampNeg + n.toNatClampNeg ≤ nb) (kk : am_E q d rt T r m' (pc + 3, l, st, (am_ri m.1 b (va_cpy (m.1 a) (m.1 b) sp.toNatClampNeg dp.toNatClampNeg n.toNatClampNeg), m.2))) : am_E q d rt T r m' (pc, l, .int n :: .int dp :: .ref b :: .int sp :: .ref a :: st, m) := by
  obtain ⟨n', hnn⟩ := kk
  refine am_byone ha ⟨n', ?_⟩
  simp only [am_one, List.headD_cons, if_true, am_ecpy]
  exact ⟨hc, h1, h2, h3, Or.inl ⟨na, nb, ta, tb, h4, h5, hnn⟩⟩
theorem am_rcpyL {idx pl a b na nb : Nat} {sp dp n : Int32} (ha : am_at T pc = some (.invokestatic idx, len, [9999, pl], cv)) (hc : am_cs st ≤ 8) (h1 : ¬ sp < 0) (h2 : ¬ dp < 0) (h3 : ¬ n < 0) (ta : am_typ 2 a = some na) (tb : am_typ 2 b = some nb) (h4 : sp.toNatClampNeg + n.toNatClampNeg ≤ na) (h5 : dp.toNatClampNeg + n.toNatClampNeg ≤ nb) (kk : am_E q d rt T r m' (pc + 3, l, st, (m.1, am_rl m.2 b (va_cpy (m.2 a) (m.2 b) sp.toNatClampNeg dp.toNatClampNeg n.toNatClampNeg)))) : am_E q d rt T r m' (pc, l, .int n :: .int dp :: .ref b :: .int sp :: .ref a :: st, m) := by
  obtain ⟨n', hnn⟩ := kk
  refine am_byone ha ⟨n', ?_⟩
  simp only [am_one, List.headD_cons, if_true, am_ecpy]
  exact ⟨hc, h1, h2, h3, Or.inr ⟨na, nb, ta, tb, h4, h5, hnn⟩⟩
theorem am_riret {v : Int32} {ty : FieldType} (ha : am_at T pc = some (.ireturn, len, xs, cv)) (hr : r = some (.int v)) (hm : m' = m) (ht : rt = some ty) (hn : narrow ty (.int v) = .int v) : am_E q d rt T r m' (pc, l, [.int v], m) := am_byone ha ⟨0, hr, hm, ty, ht, hn⟩
theorem am_rlret {v : Int64} (ha : am_at T pc = some (.lreturn, len, xs, cv)) (hr : r = some (.long v)) (hm : m' = m) (ht : rt = some .long) : am_E q d rt T r m' (pc, l, [.long v], m) := am_byone ha ⟨0, hr, hm, ht⟩
theorem am_rvret (ha : am_at T pc = some (.return_, len, xs, cv)) (hr : r = none) (hm : m' = m) (ht : rt = none) : am_E q d rt T r m' (pc, l, [], m) := am_byone ha ⟨0, hr, hm, ht⟩
/-- a counting loop whose states are known -/
theorem am_for (st : Nat → am_S) (N : Nat) (b : ∀ k, k < N → am_E q d rt T r m' (st (k + 1)) → am_E q d rt T r m' (st k)) (h : am_E q d rt T r m' (st N)) : am_E q d rt T r m' (st 0) := by
  have : ∀ j, j ≤ N → am_E q d rt T r m' (st (N - j)) := by
    intro j
    induction j with
    | zero => intro _; exact h
    | succ j ih =>
      intro hj
      refine b (N - (j + 1)) (by omega) ?_
      rw [show N - (j + 1) + 1 = N - j by omega]
      exact ih (by omega)
  have := this N (Nat.le_refl N)
  rwa [Nat.sub_self] at this
end AmRules
theorem am_intro {q : am_X} {d y : Nat} {args : List Value} {m : am_M} {r : Option Value} {m' : am_M} {I : am_Mi} {T : am_T} (hI : am_ms[y]? = some I) (hT : am_tb[y]? = some T) (hn : (am_ent I.2.2.1 args).length = I.2.2.1) (h : am_E q d I.2.2.2.1 T r m' (0, am_ent I.2.2.1 args, [], m)) : am_run q (d + 1) y args m r m' := by
  show (match am_ms[y]?, am_tb[y]? with
    | some I, some T => (am_ent I.2.2.1 args).length = I.2.2.1 ∧ ∃ n, am_ev q (am_run q d) I.2.2.2.1 T r m' n (0, am_ent I.2.2.1 args, [], m)
    | _, _ => False)
  rw [hI, hT]
  exact ⟨hn, h⟩
