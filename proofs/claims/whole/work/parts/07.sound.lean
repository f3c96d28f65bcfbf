/-! ===== SOUNDNESS: the abstract machine's runs are the machine's ===== -/
abbrev am_G : Type := (Nat → Nat) × va_G × (ClassId × ClassId × ClassId × ClassId)
def am_tr (ad : Nat → Nat) (v : Value) : Value := match v with
  | .ref k => .ref (ad k)
  | v => v
theorem am_tr_cat (ad : Nat → Nat) (v : Value) : (am_tr ad v).category = v.category := by cases v <;> rfl
theorem am_tr_cs (ad : Nat → Nat) (st : List Value) : ((st.map (am_tr ad)).map fun v => v.category).sum = am_cs st := by
  unfold am_cs
  rw [List.map_map]
  congr 1
  exact List.map_congr_left (fun v _ => am_tr_cat ad v)
def am_fv (ad : Nat → Nat) (m : am_M) (k j : Nat) (o : Option Nat) : Value := match o with
  | some r => .ref (ad r)
  | none => .int (m.1 k j)
def am_fsF (ad : Nat → Nat) (m : am_M) (k : Nat) : Nat → List (Option Nat) → List Value
  | _, [] => []
  | j, o :: fl => am_fv ad m k j o :: am_fsF ad m k (j + 1) fl
theorem am_fsF_get {ad : Nat → Nat} {m : am_M} {k : Nat} : ∀ (fl : List (Option Nat)) (j i : Nat), (am_fsF ad m k j fl)[i]? = (fl[i]?).map (am_fv ad m k (j + i)) := by
  intro fl
  induction fl with
  | nil => intro j i; rfl
  | cons o fl ih =>
    intro j i
    cases i with
    | zero => rfl
    | succ i =>
      have := ih (j + 1) i
      rw [show j + 1 + i = j + (i + 1) by omega] at this
      exact this
def am_fs (ad : Nat → Nat) (m : am_M) (k : Nat) (fl : List (Option Nat)) : List Value := am_fsF ad m k 0 fl
theorem am_fs_get {ad : Nat → Nat} {m : am_M} {k : Nat} (fl : List (Option Nat)) (i : Nat) : (am_fs ad m k fl)[i]? = (fl[i]?).map (am_fv ad m k i) := by
  have := am_fsF_get (ad := ad) (m := m) (k := k) fl 0 i
  rw [Nat.zero_add] at this
  exact this
theorem am_fs_len {ad : Nat → Nat} {m : am_M} {k : Nat} (fl : List (Option Nat)) : (am_fs ad m k fl).length = fl.length := by
  have : ∀ (fl : List (Option Nat)) (j : Nat), (am_fsF ad m k j fl).length = fl.length := by
    intro fl
    induction fl with
    | nil => intro j; rfl
    | cons o fl ih => intro j; show _ + 1 = _ + 1; rw [ih]
  exact this fl 0
def am_cell (g : am_G) (m : am_M) (k : Nat) (c : am_C) : va_E := match c with
  | .inl o => .inr (o.1, am_fs g.1 m k o.2)
  | .inr (.inl x) => if x.1 = 0 then .inl (g.2.2.1, x.2, .inl (m.1 k)) else if x.1 = 1 then .inl (g.2.2.2.1, x.2, .inl (m.1 k)) else .inl (g.2.2.2.2.1, x.2, .inr (.inl (m.2 k)))
  | .inr (.inr al) => .inl (g.2.2.2.2.2, al.length, .inr (.inr (.inr (.inr (fun j => (al[j]?).map g.1)))))
def am_wsF (g : am_G) (m : am_M) : Nat → List am_C → va_W
  | _, [] => []
  | k, c :: cs => (g.1 k, am_cell g m k c) :: am_wsF g m (k + 1) cs
theorem am_wsF_get {g : am_G} {m : am_M} : ∀ (cs : List am_C) (k i : Nat), (am_wsF g m k cs)[i]? = (cs[i]?).map (fun c => (g.1 (k + i), am_cell g m (k + i) c)) := by
  intro cs
  induction cs with
  | nil => intro k i; rfl
  | cons c cs ih =>
    intro k i
    cases i with
    | zero => rfl
    | succ i =>
      have := ih (k + 1) i
      rw [show k + 1 + i = k + (i + 1) by omega] at this
      exact this
def am_ws (g : am_G) (m : am_M) : va_W := am_wsF g m 0 am_sk
theorem am_ws_get {g : am_G} {m : am_M} (i : Nat) : (am_ws g m)[i]? = (am_sk[i]?).map (fun c => (g.1 i, am_cell g m i c)) := by
  have := am_wsF_get (g := g) (m := m) am_sk 0 i
  simp only [Nat.zero_add] at this
  exact this
def am_tys (g : am_G) : List (ClassId × FieldType) := [(g.2.2.1, .int), (g.2.2.2.1, .boolean), (g.2.2.2.2.1, .long), (g.2.2.2.2.2, .object "NamesOnLoan$Shelf")]
theorem am_ws_at (g : am_G) (m : am_M) {k : Nat} {c : am_C} (h : am_sk[k]? = some c) : (am_ws g m)[k]? = some (g.1 k, am_cell g m k c) := by
  rw [am_ws_get, h]
  rfl
theorem am_cell_eq (g : am_G) {m m1 : am_M} {k : Nat} (c : am_C) (h1 : m1.1 k = m.1 k) (h2 : m1.2 k = m.2 k) : am_cell g m1 k c = am_cell g m k c := by
  have hf : ∀ (fl : List (Option Nat)), am_fs g.1 m1 k fl = am_fs g.1 m k fl := by
    intro fl
    apply List.ext_getElem?
    intro i
    rw [am_fs_get, am_fs_get]
    congr 1
    funext o
    unfold am_fv
    rw [h1]
  unfold am_cell
  cases c with
  | inl o => simp only [hf]
  | inr x => cases x with
    | inl y => simp only [h1, h2]
    | inr y => rfl
theorem am_ws_set (g : am_G) {m m1 : am_M} {k : Nat} {c : am_C} (h : am_sk[k]? = some c) (ho : ∀ i, i ≠ k → m1.1 i = m.1 i ∧ m1.2 i = m.2 i) : (am_ws g m).set k (g.1 k, am_cell g m1 k c) = am_ws g m1 := by
  apply List.ext_getElem?
  intro i
  rw [List.getElem?_set]
  by_cases hi : k = i
  · subst hi
    rw [if_pos rfl, am_ws_at g m1 h, if_pos]
    have := am_ws_at g m h
    exact (List.getElem?_eq_some_iff.mp this).1
  · rw [if_neg hi]
    rw [am_ws_get, am_ws_get]
    cases hc : am_sk[i]? with
    | none => rfl
    | some ci =>
      show some (g.1 i, am_cell g m i ci) = some (g.1 i, am_cell g m1 i ci)
      rw [am_cell_eq g ci (ho i (Ne.symm hi)).1 (ho i (Ne.symm hi)).2]
def am_A (base : Nat) : Nat → Prop := fun a => base ≤ a
/-- what every state of a run bears: the classes, and the arrays that are only read -/
def am_Wd (base : Nat) (g : am_G) (q : am_X) (U : State) : Prop := va_K g.2.1 vwCl (am_tys g) U ∧ (∀ (r : Nat) (x : am_X), am_ro q r = some x → va_T .int (g.1 r) x.1 (fun j => .int (x.2 j)) (am_A base) U U.heap) ∧ (∀ (i : Nat) (c : String × String), 1 ≤ i → am_sts[i]? = some c → va_Z c.1 c.2 "[I" (.ref (g.1 (1000 + i))) (am_A base) U U.heap) ∧ base ≤ U.heap.size
def am_Ad (base : Nat) (g : am_G) : Prop := (∀ i j, i < 72 → j < 72 → g.1 i = g.1 j → i = j) ∧ ∀ i, i < 72 → base ≤ g.1 i
theorem am_sk_lt {k : Nat} {c : am_C} (h : am_sk[k]? = some c) : k < 72 := (List.getElem?_eq_some_iff.mp h).1
theorem am_ws_len (g : am_G) (m : am_M) {i : Nat} {p : Nat × va_E} (h : (am_ws g m)[i]? = some p) : i < 72 := by
  rw [am_ws_get] at h
  cases hc : am_sk[i]? with
  | none => rw [hc] at h; cases h
  | some c => exact am_sk_lt hc
theorem am_D {base : Nat} {g : am_G} (h : am_Ad base g) (m : am_M) : va_D (am_A base) (am_ws g m) := by
  have key : ∀ (i : Nat) (p : Nat × va_E), (am_ws g m)[i]? = some p → p.1 = g.1 i ∧ i < 72 := by
    intro i p hp
    have hi : i < 72 := am_ws_len g m hp
    rw [am_ws_get] at hp
    cases hc : am_sk[i]? with
    | none => rw [hc] at hp; cases hp
    | some ci => rw [hc] at hp; cases hp; exact ⟨rfl, hi⟩
  refine ⟨fun i j p q hp hq e => ?_, fun k q hq => ?_⟩
  · obtain ⟨e1, h1⟩ := key i p hp
    obtain ⟨e2, h2⟩ := key j q hq
    exact h.1 i j h1 h2 (by rw [← e1, ← e2, e])
  · obtain ⟨e1, h1⟩ := key k q hq
    rw [e1]
    exact h.2 k h1
theorem am_Wd.moved {base : Nat} {g : am_G} {q : am_X} {u U : State} (h : am_Wd base g q u) (hvm : u.vm.Alike U.vm) (hz : u.heap.size ≤ U.heap.size) (hf : ∀ a : Nat, a < u.heap.size → ¬ am_A base a → U.heap[a]? = u.heap[a]?) : am_Wd base g q U :=
  ⟨va_K.moved hvm h.1, fun r x hx => ((h.2.1 r x hx).kept hf).moved hvm, fun i c hi hc => ((h.2.2.1 i c hi hc).kept hf).moved hvm, Nat.le_trans h.2.2.2 hz⟩
def am_L (ad : Nat → Nat) (ls : Array Slot) (nL : Nat) (l : List (Option Value)) : Prop := ls.size = nL ∧ lv_wf ls ∧ ∀ (i : Nat) (v : Value), l[i]? = some (some v) → ls[i]? = some (.val (am_tr ad v))
/-- the listed values of positional locals -/
def am_lv (ad : Nat → Nat) (l : List (Option Value)) : List (Nat × Value) := (l.zipIdx).filterMap (fun o => o.1.map (fun v => (o.2, am_tr ad v)))
theorem am_lv_mem {ad : Nat → Nat} {l : List (Option Value)} {i : Nat} {v : Value} (h : l[i]? = some (some v)) : (i, am_tr ad v) ∈ am_lv ad l := by
  unfold am_lv
  refine List.mem_filterMap.mpr ⟨(some v, i), ?_, rfl⟩
  exact List.mem_zipIdx_iff_getElem?.mpr h
theorem am_L.has {ad : Nat → Nat} {ls : Array Slot} {nL : Nat} {l : List (Option Value)} (h : am_L ad ls nL l) : lv_has ls nL (am_lv ad l) := by
  refine ⟨h.1, h.2.1, fun q hq => ?_⟩
  unfold am_lv at hq
  obtain ⟨⟨o, i⟩, ho, he⟩ := List.mem_filterMap.mp hq
  cases o with
  | none => cases he
  | some v =>
    cases he
    exact h.2.2 i v (List.mem_zipIdx_iff_getElem?.mp ho)
theorem am_L.put {ad : Nat → Nat} {ls' : Array Slot} {nL i : Nat} {l : List (Option Value)} {w : Value} (ht : am_two l[i - 1]? = false) (h : lv_has ls' nL ((i, am_tr ad w) :: (am_lv ad l).filter (fun q => !(q.1 == i) && !(q.1 + 1 == i && q.2.category == 2)))) : am_L ad ls' nL (l.set i (some w)) := by
  refine ⟨h.1, h.2.1, fun j v hj => ?_⟩
  rw [List.getElem?_set] at hj
  by_cases hji : i = j
  · subst hji
    rw [if_pos rfl] at hj
    split at hj
    · cases hj
      exact h.2.2 (i, am_tr ad w) List.mem_cons_self
    · cases hj
  · rw [if_neg hji] at hj
    refine h.2.2 (j, am_tr ad v) (List.mem_cons_of_mem _ (List.mem_filter.mpr ⟨am_lv_mem hj, ?_⟩))
    have h1 : (j == i) = false := by simp; omega
    by_cases h2 : j + 1 = i
    · have : i - 1 = j := by omega
      rw [this, hj] at ht
      cases v <;> simp_all [am_two, am_tr, Value.category]
    · have h2' : (j + 1 == i) = false := by simp; omega
      simp [h1, h2']
