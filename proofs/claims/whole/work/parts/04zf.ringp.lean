
/-! ===== ring: pure ===== -/
theorem pg_h : ∀ n : Nat, ∀ g : Nat → Int, (∀ i, i ≤ n → 0 ≤ g i ∧ g i < (n : Int)) → ∃ i j, i < j ∧ j ≤ n ∧ g i = g j := by
  intro n
  induction n with
  | zero => intro g h; have := h 0 (Nat.le_refl _); omega
  | succ n ih =>
    intro g h
    by_cases c : ∃ i, i ≤ n ∧ g i = g (n + 1)
    · obtain ⟨i, h1, h2⟩ := c
      exact ⟨i, n + 1, by omega, Nat.le_refl _, h2⟩
    · have c' : ∀ i, i ≤ n → g i ≠ g (n + 1) := fun i h1 h2 => c ⟨i, h1, h2⟩
      obtain ⟨i, j, h1, h2, h3⟩ := ih (fun i => if g i = (n : Int) then g (n + 1) else g i) (fun i h1 => by
        have a1 := h i (by omega)
        have a2 := h (n + 1) (Nat.le_refl _)
        have a3 := c' i h1
        by_cases e : g i = (n : Int)
        · rw [if_pos e]; omega
        · rw [if_neg e]; omega)
      refine ⟨i, j, h1, by omega, ?_⟩
      have b1 := c' i (by omega)
      have b2 := c' j h2
      by_cases e : g i = (n : Int)
      · rw [if_pos e] at h3
        by_cases e2 : g j = (n : Int)
        · omega
        · rw [if_neg e2] at h3; omega
      · rw [if_neg e] at h3
        by_cases e2 : g j = (n : Int)
        · rw [if_pos e2] at h3; omega
        · rw [if_neg e2] at h3; exact h3
theorem wk_a (f : Int → Int) (x : Int) (a : Nat) : ∀ b : Nat, wk_ f x (a + b) = wk_ f (wk_ f x a) b := by
  intro b
  induction b with
  | zero => rfl
  | succ b ih => show f (wk_ f x (a + b)) = f (wk_ f (wk_ f x a) b); rw [ih]
theorem wk_r {f : Int → Int} {x p : Int} (hf : ∀ j, 0 ≤ j → j < p → 0 ≤ f j ∧ f j < p) (hx : 0 ≤ x ∧ x < p) : ∀ n : Nat, 0 ≤ wk_ f x n ∧ wk_ f x n < p := by
  intro n
  induction n with
  | zero => exact hx
  | succ n ih => exact hf _ ih.1 ih.2
theorem wk_cy {f : Int → Int} {x : Int} {p : Nat} (hf : ∀ j, 0 ≤ j → j < (p : Int) → 0 ≤ f j ∧ f j < (p : Int)) (hx : 0 ≤ x ∧ x < (p : Int)) (n : Nat) (hn : p ≤ n) : ∃ l, 1 ≤ l ∧ l ≤ p ∧ wk_ f (wk_ f x n) l = wk_ f x n := by
  obtain ⟨i, j, h1, h2, h3⟩ := pg_h p (fun i => wk_ f x i) (fun i _ => wk_r hf hx i)
  refine ⟨j - i, by omega, by omega, ?_⟩
  rw [← wk_a, show n + (j - i) = j + (n - i) by omega, wk_a, ← h3, ← wk_a, show i + (n - i) = n by omega]
def rg_ (f : Int → Int) (s o n v : Int) : Prop := 1 ≤ n ∧ wk_ f s n.toNat = s ∧ (∀ i : Nat, 1 ≤ i → (i : Int) < n → wk_ f s i ≠ s) ∧ (v = 0 ∨ v = 1) ∧ (v = 1 ↔ ∃ i : Nat, (i : Int) < n ∧ wk_ f s i = o)
theorem wk_m {f : Int → Int} {s : Int} {n : Nat} (h : wk_ f s n = s) : ∀ k : Nat, wk_ f s (k * n) = s := by
  intro k
  induction k with
  | zero => rw [Nat.zero_mul]; rfl
  | succ k ih => rw [Nat.succ_mul, wk_a, ih, h]
theorem wk_mod {f : Int → Int} {s : Int} {n : Nat} (h : wk_ f s n = s) (i : Nat) : wk_ f s i = wk_ f s (i % n) := by
  have e := Nat.div_add_mod i n
  conv => lhs; rw [← e]
  rw [wk_a, Nat.mul_comm, wk_m h]
theorem rg_le {f : Int → Int} {s t o n v n2 v2 : Int} (h1 : rg_ f s o n v) (h2 : rg_ f t o n2 v2) (d : Nat) (hd : t = wk_ f s d) : n2 ≤ n ∧ (v2 = 1 → v = 1) := by
  obtain ⟨a1, a2, a3, a4, a5⟩ := h1
  obtain ⟨b1, b2, b3, b4, b5⟩ := h2
  have e : wk_ f t n.toNat = t := by rw [hd, ← wk_a, Nat.add_comm, wk_a, a2]
  constructor
  · by_cases c : n2 ≤ n
    · exact c
    · exact absurd e (b3 n.toNat (by omega) (by omega))
  · intro h
    obtain ⟨i, c1, c2⟩ := b5.1 h
    refine a5.2 ⟨(d + i) % n.toNat, ?_, ?_⟩
    · have := Nat.mod_lt (d + i) (show 0 < n.toNat by omega); omega
    · rw [← wk_mod a2, wk_a, ← hd]; exact c2
theorem rg_eq {f : Int → Int} {s t o n v n2 v2 : Int} (h1 : rg_ f s o n v) (h2 : rg_ f t o n2 v2) (d : Nat) (hd : t = wk_ f s d) : n2 = n ∧ v2 = v := by
  have g1 := rg_le h1 h2 d hd
  have hs : s = wk_ f t ((d + 1) * n.toNat - d) := by
    have := h1.1
    have hle : d ≤ (d + 1) * n.toNat := by
      have := Nat.le_mul_of_pos_right (d + 1) (show 0 < n.toNat by omega)
      omega
    rw [hd, ← wk_a, show d + ((d + 1) * n.toNat - d) = (d + 1) * n.toNat by omega, wk_m h1.2.1]
  have g2 := rg_le h2 h1 _ hs
  refine ⟨by omega, ?_⟩
  rcases h1.2.2.2.1 with e | e <;> rcases h2.2.2.2.1 with e2 | e2
  · omega
  · have := g1.2 e2; omega
  · have := g2.2 e; omega
  · omega

