section AmAll
variable {p : Program} {l : Launch} {e : Env} {R : Room} {s : State} {mid : MethodId} {args : Array Value} {below : List Frame} {meth : Method} {c : Code} {cells slots : Nat} {Q : State → Prop}
variable {own : String} {bytes : ByteArray} {maxL base : Nat} {g : am_G} {q : am_X}
variable {H : Heap} {locs : List Loc} {ls : Array Slot} {pc : Nat} {L : List (Option Value)} {S : List Value} {m : am_M} {s' : am_S}
set_option maxHeartbeats 8000000 in
set_option maxRecDepth 20000 in
theorem am_step_sound {ei : am_I} (X : am_Cx p R s mid args c cells slots own bytes maxL base g q) (hck : am_chk own bytes maxL pc ei = true) (h : am_step q ei pc L S m = some s') (hP : va_P g.2.1 vwCl (am_ws g m) H) (hS : va_S (am_A base) s.heap H locs) (hl : am_L g.1 ls maxL L) (K : am_K p l e R s mid args below meth c cells slots Q maxL base g s') : W p l e R s mid args below meth c H locs cells slots Q (F0 mid pc ls (S.map (am_tr g.1))) := by
  obtain ⟨ins, len, xs, v⟩ := ei
  have X0 := X
  obtain ⟨hx, hb, hml, hown, hts, hWd, hAd, hR, hcs, hss⟩ := X
  unfold am_chk at hck
  rw [Bool.and_eq_true] at hck
  obtain ⟨hd, hck⟩ := hck
  have hd := of_decide_eq_true hd
  simp only at hd
  cases ins <;> (try (simp only [am_step] at h; cases h; done)) <;> simp only [am_step] at h <;> simp only [am_chk2, Bool.and_eq_true, decide_eq_true_eq] at hck
  case iconst n =>
    obtain ⟨rfl, rfl⟩ := hck
    exact lv_iconst hx hb hd rfl (am_s_push h hP hS hl K)
  case bipush n =>
    obtain ⟨rfl, rfl⟩ := hck
    exact lv_bipush hx hb hd rfl (am_s_push h hP hS hl K)
  case sipush n =>
    obtain ⟨rfl, rfl⟩ := hck
    exact lv_sipush hx hb hd rfl (am_s_push h hP hS hl K)
  case ldc n =>
    obtain ⟨rfl, hw⟩ := hck
    exact lv_ldc hx hb hown (hts _ (am_wd_in hw)) hd (am_s_push h hP hS hl K)
  case ldc_w n =>
    obtain ⟨rfl, hw⟩ := hck
    exact lv_ldcw hx hb hown (hts _ (am_wd_in hw)) hd (am_s_push h hP hS hl K)
  case ldc2_w n =>
    obtain ⟨rfl, hw⟩ := hck
    exact lv_ldc2 hx hb hown (hts _ (am_wd_in hw)) hd (am_s_push h hP hS hl K)
  case lconst n =>
    obtain ⟨rfl, rfl⟩ := hck
    exact lv_lconst hx hb hd rfl (am_s_push h hP hS hl K)
  case aconst_null =>
    subst hck
    exact lv_null hx hb hd (am_s_push h hP hS hl K)
  case iload n =>
    have e2 := (am_ldk_eq hck).2.1
    subst e2
    exact am_s_ldi h hck hP hS hl K (fun x hi kk => lv_iload hx hb hd hi kk)
  case iload_n n =>
    have e2 := (am_ldk_eq hck).2.1
    subst e2
    exact am_s_ldi h hck hP hS hl K (fun x hi kk => lv_iload_n hx hb hd rfl hi kk)
  case lload n =>
    have e2 := (am_ldk_eq hck).2.1
    subst e2
    exact am_s_ldl h hck hP hS hl K (fun x hi kk => lv_lload hx hb hd hi kk)
  case lload_n n =>
    have e2 := (am_ldk_eq hck).2.1
    subst e2
    exact am_s_ldl h hck hP hS hl K (fun x hi kk => lv_lload_n hx hb hd rfl hi kk)
  case aload n =>
    have e2 := (am_ldk_eq hck).2.1
    subst e2
    exact am_s_lda h hck hP hS hl K (fun x hi kk => lv_aload hx hb hd hi kk) (fun hi kk => lv_aloadN hx hb hd hi kk)
  case aload_n n =>
    have e2 := (am_ldk_eq hck).2.1
    subst e2
    exact am_s_lda h hck hP hS hl K (fun x hi kk => lv_aload_n hx hb hd rfl hi kk) (fun hi kk => lv_aload_nN hx hb hd rfl hi kk)
  case istore n =>
    obtain ⟨rfl, rfl, hn⟩ := am_ldk_eq hck
    unfold am_sti at h
    split at h
    · exact lv_istore hx hb hd hl.has hn rfl (am_s_put h hP hS K)
    · cases h
  case istore_n n =>
    obtain ⟨rfl, rfl, hn⟩ := am_ldk_eq hck
    unfold am_sti at h
    split at h
    · exact lv_istore_n hx hb hd rfl hl.has hn rfl (am_s_put h hP hS K)
    · cases h
  case astore n =>
    obtain ⟨rfl, rfl, hn⟩ := am_ldk_eq hck
    unfold am_sta at h
    split at h
    · exact lv_astore hx hb hd hl.has hn rfl (am_s_put h hP hS K)
    · cases h
  case astore_n n =>
    obtain ⟨rfl, rfl, hn⟩ := am_ldk_eq hck
    unfold am_sta at h
    split at h
    · exact lv_astore_n hx hb hd rfl hl.has hn rfl (am_s_put h hP hS K)
    · cases h
  case iinc n k =>
    obtain ⟨hck, rfl⟩ := hck
    obtain ⟨rfl, rfl, hn⟩ := am_ldk_eq hck
    unfold am_inc at h
    split at h
    · rename_i x hx1
      obtain ⟨j, hj⟩ := List.getElem?_of_mem (am_lv_mem (ad := g.1) hx1)
      exact lv_iinc hx hb hd hl.has hj rfl hn rfl (am_s_put h hP hS K)
    · cases h
  case iadd => subst hck; exact am_s_bin h hP hS hl K (fun x y rest kk => lv_iadd hx hb hd kk)
  case isub => subst hck; exact am_s_bin h hP hS hl K (fun x y rest kk => lv_isub hx hb hd kk)
  case imul => subst hck; exact am_s_bin h hP hS hl K (fun x y rest kk => lv_imul hx hb hd kk)
  case iand => subst hck; exact am_s_bin h hP hS hl K (fun x y rest kk => lv_iand hx hb hd kk)
  case ior => subst hck; exact am_s_bin h hP hS hl K (fun x y rest kk => lv_ior hx hb hd kk)
  case ixor => subst hck; exact am_s_bin h hP hS hl K (fun x y rest kk => lv_ixor hx hb hd kk)
  case ishl => subst hck; exact am_s_bin h hP hS hl K (fun x y rest kk => lv_ishl hx hb hd kk)
  case iushr => subst hck; exact am_s_bin h hP hS hl K (fun x y rest kk => lv_iushr hx hb hd rfl kk)
  case ineg => subst hck; exact am_s_un h hP hS hl K (fun x rest kk => lv_ineg hx hb hd kk)
  case i2b => subst hck; exact am_s_un h hP hS hl K (fun x rest kk => lv_i2b hx hb hd rfl kk)
  case i2s => subst hck; exact am_s_un h hP hS hl K (fun x rest kk => lv_i2s hx hb hd rfl kk)
  case land => subst hck; exact am_s_binl h hP hS hl K (fun x y rest kk => lv_land hx hb hd kk)
  case lor => subst hck; exact am_s_binl h hP hS hl K (fun x y rest kk => lv_lor hx hb hd kk)
  case i2l =>
    subst hck
    unfold am_i2l at h
    split at h
    · cases h; exact lv_i2l hx hb hd rfl (K H locs ls hP hS hl)
    · cases h
  case l2i =>
    subst hck
    unfold am_l2i at h
    split at h
    · cases h; exact lv_l2i hx hb hd rfl (K H locs ls hP hS hl)
    · cases h
  case lshl =>
    subst hck
    unfold am_shl at h
    split at h
    · cases h; exact lv_lshl hx hb hd rfl (K H locs ls hP hS hl)
    · cases h
  case lcmp =>
    subst hck
    unfold am_lcmp at h
    split at h
    · cases h; exact W.lcmp hx hb hd (K H locs ls hP hS hl)
    · cases h
  case dup =>
    subst hck
    unfold am_dup at h
    split at h
    · split at h
      · rename_i hc1
        cases h; exact lv_dup hx hb hd (am_s_dup hc1) (K H locs ls hP hS hl)
      · cases h
    · cases h
  case pop =>
    subst hck
    unfold am_pop at h
    split at h
    · split at h
      · rename_i hc1
        cases h; exact lv_pop hx hb hd (am_s_dup (g := g) hc1) (K H locs ls hP hS hl)
      · cases h
    · cases h
  case dup2 =>
    subst hck
    unfold am_dup2 at h
    split at h
    · split at h
      · rename_i hc1
        rw [Bool.and_eq_true] at hc1
        cases h; exact lv_dup2_11 hx hb hd (am_s_dup hc1.1) (am_s_dup hc1.2) (K H locs ls hP hS hl)
      · cases h
    · cases h
  case goto off =>
    obtain ⟨rfl, hj⟩ := hck
    cases h
    exact lv_goto hx hb hd (am_jmp_eq hj) (K H locs ls hP hS hl)
  case ifnonnull off =>
    obtain ⟨rfl, hj⟩ := hck
    unfold am_nonnull at h
    split at h
    · cases h; exact lv_ifnonnull hx hb hd (am_jmp_eq hj) (K H locs ls hP hS hl)
    · cases h; exact lv_ifnonnullN hx hb hd (K H locs ls hP hS hl)
    · cases h
  case getfield idx =>
    obtain ⟨rfl, hc⟩ := hck
    exact am_s_get X0 hd hc h hP hS hl K
  case putfield idx =>
    obtain ⟨⟨rfl, hc⟩, hp⟩ := hck
    exact am_s_set X0 hd hc hp h hP hS hl K
  case getstatic idx =>
    obtain ⟨rfl, hc⟩ := hck
    unfold am_chkst at hc
    simp only [Bool.and_eq_true, decide_eq_true_eq] at hc
    obtain ⟨⟨h1, h2⟩, hc⟩ := hc
    split at hc
    case h_2 => cases hc
    rename_i cc hcc
    have hz := hWd.2.2.1 _ cc (by omega) hcc
    rw [show 1000 + (xs.headD 0 - 1000) = xs.headD 0 by omega] at hz
    exact va_gets hx hb hz hS hown (hts _ (am_wd_in hc)) (fun _ h9 => h9) hd (am_s_push h hP hS hl K)
  case arraylength =>
    subst hck
    exact am_s_alen X0 hd h hP hS hl K
  case invokestatic idx =>
    obtain ⟨rfl, hc⟩ := hck
    exact am_s_mm X0 hd hc h hP hS hl K
end AmAll
