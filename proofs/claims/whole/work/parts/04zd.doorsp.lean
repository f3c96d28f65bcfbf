
theorem gn_0 {m : am_M} {n a b : Int} (h : vi_ m 4 a = vi_ m 4 b) : gn_ m n a b = 0 := by unfold gn_; rw [h]; omega
def tz_ (m : am_M) (n : Int) : Int := su_ (fun j => lw_w m n j (vi_ m 4 j)) (vi_ m 1 1).toNat
theorem tz_b {m : am_M} (hp : rP_ m) (hd : rD_ m) {n : Int} (hn : 0 ≤ n) : 0 ≤ tz_ m n ∧ tz_ m n ≤ 8000 := by
  have h := su_b (f := fun j => lw_w m n j (vi_ m 4 j)) (M := 999) (vi_ m 1 1).toNat (fun j a b => lw_b m hd ⟨a, by have := hp.1; omega⟩ hn)
  have := hp.1
  unfold tz_
  omega
theorem ex_52 {m0 m1 : am_M} {a b p q : Int} (hp : rP_ m0) (hd : rD_ m0) (hs : sm_ pSc m0 m1) (ha : 0 ≤ a) (hb : 0 ≤ b) (rq : -2147483648 ≤ q ∧ q < 2147483648) (rp : -2147483648 ≤ p ∧ p < 2147483648) : ∀ j, 0 ≤ j → vi_ (wi_ (wi_ m1 52 a q) 52 b p) 52 j = if j = b then p else if j = a then q else vi_ m0 52 j := by
  intro j h
  rw [vi_up rp hb h, vi_up rq ha h, sm_f hs (k := 52) (fun _ => rfl)]
theorem ex_cn {m0 m1 : am_M} {a b p q w : Int} (hp : rP_ m0) (hd : rD_ m0) (hs : sm_ pSc m0 m1) (ha : 0 ≤ a ∧ a < vi_ m0 1 1) (hb : 0 ≤ b ∧ b < vi_ m0 1 1) (hab : a ≠ b) (hpp : p = vi_ m0 52 a) (hq : q = vi_ m0 52 b) (hw : 0 ≤ w ∧ w < vi_ m0 1 1) : cn_ (vi_ (wi_ (wi_ m1 52 a q) 52 b p) 52) w (vi_ m0 1 1).toNat = cn_ (vi_ m0 4) w 8 := by
  have r1 := vi_r m0 52 a
  have r2 := vi_r m0 52 b
  have e := ex_52 (m1 := m1) (a := a) (b := b) (p := p) (q := q) hp hd hs ha.1 hb.1 (by omega) (by omega)
  have c1 := cn_set2 (f := vi_ m0 52) (g := fun j => if j = a then q else vi_ m0 52 j) (a := a) (q := q) (w := w) ha.1 (fun j _ => rfl) (vi_ m0 1 1).toNat
  have c2 := cn_set2 (f := fun j => if j = a then q else vi_ m0 52 j) (g := vi_ (wi_ (wi_ m1 52 a q) 52 b p) 52) (a := b) (q := p) (w := w) hb.1 e (vi_ m0 1 1).toNat
  rw [if_pos (by omega)] at c1 c2
  have e3 : (if b = a then q else vi_ m0 52 b) = q := by rw [if_neg (fun h => hab h.symm), hq]
  rw [e3] at c2
  rw [c2, c1, ← cn_mc hp hd hw, ← hpp]
  omega
theorem ex_lf {m0 m1 : am_M} {a b p q n : Int} (hp : rP_ m0) (hd : rD_ m0) (hs : sm_ pSc m0 m1) (ha : 0 ≤ a ∧ a < vi_ m0 1 1) (hb : 0 ≤ b ∧ b < vi_ m0 1 1) (hab : a ≠ b) (hpp : p = vi_ m0 52 a) (hq : q = vi_ m0 52 b) (j : Int) (hj : 0 ≤ j ∧ j < vi_ m0 1 1) : lf_ (vi_ (wi_ (wi_ m1 52 a q) 52 b p) 53 j) (bn_ (wi_ (wi_ m1 52 a q) 52 b p) j (vi_ (wi_ (wi_ m1 52 a q) 52 b p) 2 32)) n = lw_w m0 n j (if j = b then vi_ m0 4 a else if j = a then vi_ m0 4 b else vi_ m0 4 j) := by
  have hP := hp.1
  have r1 := vi_r m0 52 a
  have r2 := vi_r m0 52 b
  have f : ∀ {c : Nat}, c ≠ 52 → (∀ j, pSc c j = false) → vi_ (wi_ (wi_ m1 52 a q) 52 b p) c = vi_ m0 c := fun e1 e2 => (vi_nef e1).trans ((vi_nef e1).trans (sm_f hs e2))
  have e := ex_52 (m1 := m1) (a := a) (b := b) (p := p) (q := q) hp hd hs ha.1 hb.1 (by omega) (by omega) j hj.1
  have wa := (hd.2.2.1 a ha.1 ha.2).1
  have wb := (hd.2.2.1 b hb.1 hb.2).1
  have wj := (hd.2.2.1 j hj.1 hj.2).1
  have w1 := mW_of hp hd a ha.1 ha.2
  have w2 := mW_of hp hd b hb.1 hb.2
  have w3 := mW_of hp hd j hj.1 hj.2
  have e' : vi_ (wi_ (wi_ m1 52 a q) 52 b p) 52 j = if j = b then vi_ m0 4 a else if j = a then vi_ m0 4 b else vi_ m0 4 j := by
    rw [e, hpp, hq, wa, wb, wj]
  have hr : 0 ≤ vi_ (wi_ (wi_ m1 52 a q) 52 b p) 52 j ∧ vi_ (wi_ (wi_ m1 52 a q) 52 b p) 52 j < vi_ m0 1 1 := by
    rw [e', ← wa, ← wb, ← wj]
    by_cases c1 : j = b
    · rw [if_pos c1]; omega
    · rw [if_neg c1]
      by_cases c2 : j = a
      · rw [if_pos c2]; omega
      · rw [if_neg c2]; omega
  have e53 := f (c := 53) (by decide) (fun _ => rfl)
  have e2 := f (c := 2) (by decide) (fun _ => rfl)
  have e1 := f (c := 1) (by decide) (fun _ => rfl)
  have e14 := f (c := 14) (by decide) (fun _ => rfl)
  have e15 := f (c := 15) (by decide) (fun _ => rfl)
  unfold bn_ lw_w
  rw [rt_cg (m := m0) (by rw [e14]) e15 e2, e53, e2, e1, ex_cn hp hd hs ha hb hab hpp hq hr, e', (hd.2.2.1 j hj.1 hj.2).2]
theorem ex_su {m0 : am_M} {a b n : Int} (ha : 0 ≤ a ∧ a < vi_ m0 1 1) (hb : 0 ≤ b ∧ b < vi_ m0 1 1) (hab : a ≠ b) : su_ (fun j => lw_w m0 n j (if j = b then vi_ m0 4 a else if j = a then vi_ m0 4 b else vi_ m0 4 j)) (vi_ m0 1 1).toNat = tz_ m0 n + gn_ m0 n a b := by
  have s1 := su_set (f := fun j => lw_w m0 n j (vi_ m0 4 j)) (g := fun j => lw_w m0 n j (if j = a then vi_ m0 4 b else vi_ m0 4 j)) (a := a) ha.1 (fun j _ h => by rw [if_neg h]) (vi_ m0 1 1).toNat
  have s2 := su_set (f := fun j => lw_w m0 n j (if j = a then vi_ m0 4 b else vi_ m0 4 j)) (g := fun j => lw_w m0 n j (if j = b then vi_ m0 4 a else if j = a then vi_ m0 4 b else vi_ m0 4 j)) (a := b) hb.1 (fun j _ h => by rw [if_neg h]) (vi_ m0 1 1).toNat
  rw [if_pos (by omega)] at s1 s2
  rw [if_pos rfl] at s1 s2
  rw [if_neg (fun h => hab h.symm)] at s2
  rw [s2, s1]
  unfold tz_ gn_
  omega
theorem sm_re2 {m0 m1 m7 : am_M} {a b p q : Int} (hs : sm_ pSc m0 m1) (g : sm_ pGo (wi_ (wi_ m1 52 a q) 52 b p) m7) (hp : p = vi_ m0 52 a) (hq : q = vi_ m0 52 b) (ha : 0 ≤ a) (hb : 0 ≤ b) : sm_ pSc m0 (wi_ (wi_ m7 52 a p) 52 b q) := by
  refine ⟨fun k j e => ?_, g.2.trans hs.2⟩
  have e1 := hs.1 k j e
  have e2 := g.1 k j (pGo_Sc k j e)
  simp only [wi_, am_ui] at e2 ⊢
  by_cases c : k = 52
  · subst c
    rw [if_pos rfl] at e2 ⊢
    simp only [if_true, upd] at e2 ⊢
    by_cases c3 : j = b.toNat
    · rw [if_pos c3, hq, c3]
      exact ei_toInt _
    · rw [if_neg c3]
      rw [if_neg c3] at e2
      by_cases c2 : j = a.toNat
      · rw [if_pos c2, hp, c2]
        exact ei_toInt _
      · rw [if_neg c2]
        rw [if_neg c2] at e2
        exact e2.trans e1
  · rw [if_neg c] at e2 ⊢
    rw [if_neg c] at e2 ⊢
    exact e2.trans e1

