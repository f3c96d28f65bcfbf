/-! ===== THE ABSTRACT MACHINE: one method's frame over the memory am_M; references are numbers of cells of am_sk, from 1000 on arrays that are only read ===== -/
abbrev am_I : Type := Instr × Nat × List Nat × Int32
abbrev am_T : Type := List (List (Option am_I))
abbrev am_S : Type := Nat × List (Option Value) × List Value × am_M
abbrev am_X : Type := Nat × (Nat → Int32)
/-- the instruction at a place: rows of 32 bytes -/
def am_at (T : am_T) (pc : Nat) : Option am_I := (((T[pc / 32]?).getD [])[pc % 32]?).getD none
def am_ui (f : Nat → Nat → Int32) (k j : Nat) (v : Int32) : Nat → Nat → Int32 := fun a => if a = k then upd (f k) j v else f a
def am_ri (f : Nat → Nat → Int32) (k : Nat) (g : Nat → Int32) : Nat → Nat → Int32 := fun a => if a = k then g else f a
def am_ul (f : Nat → Nat → Int64) (k j : Nat) (v : Int64) : Nat → Nat → Int64 := fun a => if a = k then vp_updL (f k) j v else f a
def am_rl (f : Nat → Nat → Int64) (k : Nat) (g : Nat → Int64) : Nat → Nat → Int64 := fun a => if a = k then g else f a
/-- arrays that are only read: the script, and the class's four tables -/
def am_low : Nat → Int32 := fun j => ([1, 0, 1, 0, 0, 0] : List Int32).getD j 0
def am_high : Nat → Int32 := fun j => ([9, 9, 9, 1, 9, 9] : List Int32).getD j 0
def am_above : Nat → Int32 := fun j => ([-1, 0, 0, 2, 1, 3, 0, 4] : List Int32).getD j 0
def am_bodies : Nat → Int32 := fun j => ([1, 10, 11, 2, 20, 0, 0, 0, 0, 30, 0, 0, 0, 41, 40, 0, 0, 0, 50, 0, 0, 0, 0, 60, 70, 0, 0, 0, 0, 80, 0, 81] : List Int32).getD j 0
def am_ro (q : am_X) (k : Nat) : Option am_X := if k = 1000 then some q else if k = 1001 then some (6, am_low) else if k = 1002 then some (6, am_high) else if k = 1003 then some (8, am_above) else if k = 1004 then some (32, am_bodies) else none
/-- how an int array reads: its length and contents -/
def am_arr (q : am_X) (m : am_M) (k : Nat) : Option am_X := match am_sk[k]? with
  | some (.inr (.inl (0, n))) => some (n, m.1 k)
  | some _ => none
  | none => am_ro q k
def am_len (q : am_X) (k : Nat) : Option Nat := match am_sk[k]? with
  | some (.inr (.inl (_, n))) => some n
  | some (.inr (.inr l)) => some l.length
  | some (.inl _) => none
  | none => (am_ro q k).map (fun x => x.1)
def am_two (o : Option (Option Value)) : Bool := match o with
  | some (some (.long _)) => true
  | some (some (.double _)) => true
  | _ => false
def am_push (k : Nat) (v : Value) (pc : Nat) (l : List (Option Value)) (S : List Value) (m : am_M) : Option am_S := some (pc + k, l, v :: S, m)
def am_ldi (xs : List Nat) (k : Nat) (pc : Nat) (l : List (Option Value)) (S : List Value) (m : am_M) : Option am_S := match l[xs.headD 0]? with
  | some (some (.int x)) => am_push k (.int x) pc l S m
  | _ => none
def am_ldl (xs : List Nat) (k : Nat) (pc : Nat) (l : List (Option Value)) (S : List Value) (m : am_M) : Option am_S := match l[xs.headD 0]? with
  | some (some (.long x)) => am_push k (.long x) pc l S m
  | _ => none
def am_lda (xs : List Nat) (k : Nat) (pc : Nat) (l : List (Option Value)) (S : List Value) (m : am_M) : Option am_S := match l[xs.headD 0]? with
  | some (some (.ref x)) => am_push k (.ref x) pc l S m
  | some (some .null) => am_push k .null pc l S m
  | _ => none
def am_put (i k : Nat) (v : Value) (pc : Nat) (l : List (Option Value)) (m : am_M) (st : List Value) : Option am_S := if am_two l[i - 1]? then none else some (pc + k, l.set i (some v), st, m)
def am_sti (xs : List Nat) (k : Nat) (pc : Nat) (l : List (Option Value)) (S : List Value) (m : am_M) : Option am_S := match S with
  | .int x :: st => am_put (xs.headD 0) k (.int x) pc l m st
  | _ => none
def am_sta (xs : List Nat) (k : Nat) (pc : Nat) (l : List (Option Value)) (S : List Value) (m : am_M) : Option am_S := match S with
  | .ref x :: st => am_put (xs.headD 0) k (.ref x) pc l m st
  | _ => none
def am_inc (xs : List Nat) (v : Int32) (pc : Nat) (l : List (Option Value)) (S : List Value) (m : am_M) : Option am_S := match l[xs.headD 0]? with
  | some (some (.int x)) => am_put (xs.headD 0) 3 (.int (x + v)) pc l m S
  | _ => none
def am_bin (f : Int32 → Int32 → Int32) (pc : Nat) (l : List (Option Value)) (S : List Value) (m : am_M) : Option am_S := match S with
  | .int y :: .int x :: st => some (pc + 1, l, .int (f x y) :: st, m)
  | _ => none
def am_un (f : Int32 → Int32) (pc : Nat) (l : List (Option Value)) (S : List Value) (m : am_M) : Option am_S := match S with
  | .int x :: st => some (pc + 1, l, .int (f x) :: st, m)
  | _ => none
def am_binl (f : Int64 → Int64 → Int64) (pc : Nat) (l : List (Option Value)) (S : List Value) (m : am_M) : Option am_S := match S with
  | .long y :: .long x :: st => some (pc + 1, l, .long (f x y) :: st, m)
  | _ => none
def am_shl (pc : Nat) (l : List (Option Value)) (S : List Value) (m : am_M) : Option am_S := match S with
  | .int y :: .long x :: st => some (pc + 1, l, .long (x <<< (y.toInt64 &&& 63)) :: st, m)
  | _ => none
def am_lcmp (pc : Nat) (l : List (Option Value)) (S : List Value) (m : am_M) : Option am_S := match S with
  | .long y :: .long x :: st => some (pc + 1, l, .int (lg_cmp x y) :: st, m)
  | _ => none
def am_i2l (pc : Nat) (l : List (Option Value)) (S : List Value) (m : am_M) : Option am_S := match S with
  | .int x :: st => some (pc + 1, l, .long x.toInt64 :: st, m)
  | _ => none
def am_l2i (pc : Nat) (l : List (Option Value)) (S : List Value) (m : am_M) : Option am_S := match S with
  | .long x :: st => some (pc + 1, l, .int x.toInt32 :: st, m)
  | _ => none
def am_cat1 (v : Value) : Bool := match v with
  | .long _ => false
  | .double _ => false
  | _ => true
def am_dup (pc : Nat) (l : List (Option Value)) (S : List Value) (m : am_M) : Option am_S := match S with
  | v :: st => if am_cat1 v then some (pc + 1, l, v :: v :: st, m) else none
  | _ => none
def am_pop (pc : Nat) (l : List (Option Value)) (S : List Value) (m : am_M) : Option am_S := match S with
  | v :: st => if am_cat1 v then some (pc + 1, l, st, m) else none
  | _ => none
def am_dup2 (pc : Nat) (l : List (Option Value)) (S : List Value) (m : am_M) : Option am_S := match S with
  | v :: w :: st => if am_cat1 v && am_cat1 w then some (pc + 1, l, v :: w :: v :: w :: st, m) else none
  | _ => none
def am_fld (k ci j : Nat) : Option (Option Nat) := match am_sk[k]? with
  | some (.inl o) => if o.1 = ci then o.2[j]? else none
  | _ => none
def am_get (xs : List Nat) (pc : Nat) (l : List (Option Value)) (S : List Value) (m : am_M) : Option am_S := match S with
  | .ref k :: st => (match am_fld k (xs.headD 0) (xs.getD 1 0) with
    | some (some r) => some (pc + 3, l, .ref r :: st, m)
    | some none => some (pc + 3, l, .int (m.1 k (xs.getD 1 0)) :: st, m)
    | none => none)
  | _ => none
def am_set (xs : List Nat) (pc : Nat) (l : List (Option Value)) (S : List Value) (m : am_M) : Option am_S := match S with
  | .int x :: .ref k :: st => (match am_fld k (xs.headD 0) (xs.getD 1 0) with
    | some none => if xs.getD 3 0 = 0 ∨ x = 0 ∨ x = 1 then some (pc + 3, l, st, (am_ui m.1 k (xs.getD 1 0) x, m.2)) else none
    | _ => none)
  | _ => none
def am_alen (q : am_X) (pc : Nat) (l : List (Option Value)) (S : List Value) (m : am_M) : Option am_S := match S with
  | .ref k :: st => (match am_len q k with
    | some n => some (pc + 1, l, .int (Int32.ofNat n) :: st, m)
    | none => none)
  | _ => none
def am_nonnull (xs : List Nat) (pc : Nat) (l : List (Option Value)) (S : List Value) (m : am_M) : Option am_S := match S with
  | .ref _ :: st => some (xs.headD 0, l, st, m)
  | .null :: st => some (pc + 3, l, st, m)
  | _ => none
def am_cs (st : List Value) : Nat := (st.map fun v => v.category).sum
def am_mm (f : Int32 → Int32 → Int32) (pc : Nat) (l : List (Option Value)) (S : List Value) (m : am_M) : Option am_S := match S with
  | .int y :: .int x :: st => if am_cs st ≤ 8 then some (pc + 3, l, .int (f x y) :: st, m) else none
  | _ => none
/-- the steps that ask nothing -/
def am_step (q : am_X) (e : am_I) (pc : Nat) (l : List (Option Value)) (S : List Value) (m : am_M) : Option am_S := match e.1 with
  | .iconst _ => am_push 1 (.int e.2.2.2) pc l S m
  | .bipush _ => am_push 2 (.int e.2.2.2) pc l S m
  | .sipush _ => am_push 3 (.int e.2.2.2) pc l S m
  | .ldc _ => am_push 2 (.int e.2.2.2) pc l S m
  | .ldc_w _ => am_push 3 (.int e.2.2.2) pc l S m
  | .ldc2_w _ => am_push 3 (.long (Int64.ofNat (e.2.2.1.getD 1 0))) pc l S m
  | .lconst _ => am_push 1 (.long (Int64.ofNat (e.2.2.1.headD 0))) pc l S m
  | .aconst_null => am_push 1 .null pc l S m
  | .iload _ => am_ldi e.2.2.1 2 pc l S m
  | .iload_n _ => am_ldi e.2.2.1 1 pc l S m
  | .lload _ => am_ldl e.2.2.1 2 pc l S m
  | .lload_n _ => am_ldl e.2.2.1 1 pc l S m
  | .aload _ => am_lda e.2.2.1 2 pc l S m
  | .aload_n _ => am_lda e.2.2.1 1 pc l S m
  | .istore _ => am_sti e.2.2.1 2 pc l S m
  | .istore_n _ => am_sti e.2.2.1 1 pc l S m
  | .astore _ => am_sta e.2.2.1 2 pc l S m
  | .astore_n _ => am_sta e.2.2.1 1 pc l S m
  | .iinc _ _ => am_inc e.2.2.1 e.2.2.2 pc l S m
  | .iadd => am_bin (fun x y => x + y) pc l S m
  | .isub => am_bin (fun x y => x - y) pc l S m
  | .imul => am_bin (fun x y => x * y) pc l S m
  | .iand => am_bin (fun x y => x &&& y) pc l S m
  | .ior => am_bin (fun x y => x ||| y) pc l S m
  | .ixor => am_bin (fun x y => x ^^^ y) pc l S m
  | .ishl => am_bin (fun x y => x <<< (y &&& 31)) pc l S m
  | .iushr => am_bin (fun x y => (x.toUInt32 >>> (y.toUInt32 &&& Int32.toUInt32 31)).toInt32) pc l S m
  | .ineg => am_un (fun x => -x) pc l S m
  | .i2b => am_un (fun x => x.toInt8.toInt32) pc l S m
  | .i2s => am_un (fun x => x.toInt16.toInt32) pc l S m
  | .i2l => am_i2l pc l S m
  | .l2i => am_l2i pc l S m
  | .land => am_binl (fun x y => x &&& y) pc l S m
  | .lor => am_binl (fun x y => x ||| y) pc l S m
  | .lshl => am_shl pc l S m
  | .lcmp => am_lcmp pc l S m
  | .dup => am_dup pc l S m
  | .dup2 => am_dup2 pc l S m
  | .pop => am_pop pc l S m
  | .goto _ => some (e.2.2.1.headD 0, l, S, m)
  | .ifnonnull _ => am_nonnull e.2.2.1 pc l S m
  | .getfield _ => am_get e.2.2.1 pc l S m
  | .putfield _ => am_set e.2.2.1 pc l S m
  | .getstatic _ => am_push 3 (.ref (e.2.2.1.headD 0)) pc l S m
  | .arraylength => am_alen q pc l S m
  | .invokestatic _ => if e.2.2.1.headD 0 = 9998 then am_mm (fun x y => if x < y then y else x) pc l S m else if e.2.2.1.headD 0 = 9997 then am_mm (fun x y => if y < x then y else x) pc l S m else none
  | _ => none
/-! events: they ask something, or part -/
def am_cz (c : ClassFile.Cond) (x : Int32) : Prop := match c with
  | .eq => x = 0
  | .ne => ¬ x = 0
  | .lt => x < 0
  | .ge => 0 ≤ x
  | .gt => 0 < x
  | .le => x ≤ 0
def am_cc (c : ClassFile.Cond) (x y : Int32) : Prop := match c with
  | .eq => x = y
  | .ne => ¬ x = y
  | .lt => x < y
  | .ge => y ≤ x
  | .gt => y < x
  | .le => x ≤ y
def am_eif (c : ClassFile.Cond) (xs : List Nat) (pc : Nat) (l : List (Option Value)) (S : List Value) (m : am_M) (K : am_S → Prop) : Prop := match S with
  | .int x :: st => (am_cz c x → K (xs.headD 0, l, st, m)) ∧ (¬ am_cz c x → K (pc + 3, l, st, m))
  | _ => False
def am_ecmp (c : ClassFile.Cond) (xs : List Nat) (pc : Nat) (l : List (Option Value)) (S : List Value) (m : am_M) (K : am_S → Prop) : Prop := match S with
  | .int y :: .int x :: st => (am_cc c x y → K (xs.headD 0, l, st, m)) ∧ (¬ am_cc c x y → K (pc + 3, l, st, m))
  | _ => False
def am_ediv (f : Int32 → Int32 → Int32) (pc : Nat) (l : List (Option Value)) (S : List Value) (m : am_M) (K : am_S → Prop) : Prop := match S with
  | .int y :: .int x :: st => (¬ y = 0) ∧ K (pc + 1, l, .int (f x y) :: st, m)
  | _ => False
def am_eild (q : am_X) (pc : Nat) (l : List (Option Value)) (S : List Value) (m : am_M) (K : am_S → Prop) : Prop := match S with
  | .int i :: .ref k :: st => (match am_arr q m k with
    | some x => vp_in i x.1 ∧ K (pc + 1, l, .int (x.2 i.toNatClampNeg) :: st, m)
    | none => False)
  | _ => False
def am_typ (t k : Nat) : Option Nat := match am_sk[k]? with
  | some (.inr (.inl x)) => if x.1 = t then some x.2 else none
  | _ => none
def am_ebld (pc : Nat) (l : List (Option Value)) (S : List Value) (m : am_M) (K : am_S → Prop) : Prop := match S with
  | .int i :: .ref k :: st => (match am_typ 1 k with
    | some n => vp_in i n ∧ K (pc + 1, l, .int (m.1 k i.toNatClampNeg) :: st, m)
    | none => False)
  | _ => False
def am_elld (pc : Nat) (l : List (Option Value)) (S : List Value) (m : am_M) (K : am_S → Prop) : Prop := match S with
  | .int i :: .ref k :: st => (match am_typ 2 k with
    | some n => vp_in i n ∧ K (pc + 1, l, .long (m.2 k i.toNatClampNeg) :: st, m)
    | none => False)
  | _ => False
def am_eald (pc : Nat) (l : List (Option Value)) (S : List Value) (m : am_M) (K : am_S → Prop) : Prop := match S with
  | .int i :: .ref k :: st => (match am_sk[k]? with
    | some (.inr (.inr al)) => vp_in i al.length ∧ (match al[i.toNatClampNeg]? with
      | some r => K (pc + 1, l, .ref r :: st, m)
      | none => False)
    | _ => False)
  | _ => False
def am_eist (pc : Nat) (l : List (Option Value)) (S : List Value) (m : am_M) (K : am_S → Prop) : Prop := match S with
  | .int x :: .int i :: .ref k :: st => (match am_typ 0 k with
    | some n => vp_in i n ∧ K (pc + 1, l, st, (am_ui m.1 k i.toNatClampNeg x, m.2))
    | none => False)
  | _ => False
def am_ebst (pc : Nat) (l : List (Option Value)) (S : List Value) (m : am_M) (K : am_S → Prop) : Prop := match S with
  | .int x :: .int i :: .ref k :: st => (match am_typ 1 k with
    | some n => vp_in i n ∧ K (pc + 1, l, st, (am_ui m.1 k i.toNatClampNeg (vp_nar .boolean x), m.2))
    | none => False)
  | _ => False
def am_elst (pc : Nat) (l : List (Option Value)) (S : List Value) (m : am_M) (K : am_S → Prop) : Prop := match S with
  | .long x :: .int i :: .ref k :: st => (match am_typ 2 k with
    | some n => vp_in i n ∧ K (pc + 1, l, st, (m.1, am_ul m.2 k i.toNatClampNeg x))
    | none => False)
  | _ => False
def am_etab (lo hi : Int) (xs : List Nat) (pc : Nat) (l : List (Option Value)) (S : List Value) (m : am_M) (K : am_S → Prop) : Prop := match S with
  | .int x :: st => ((x.toInt < lo ∨ hi < x.toInt) → K (xs.headD 0, l, st, m)) ∧ (¬ (x.toInt < lo ∨ hi < x.toInt) → ∃ t, (xs.drop 1)[(x.toInt - lo).toNat]? = some t ∧ K (t, l, st, m))
  | _ => False
def am_lk : List (Int × Int) → List Nat → Nat → Int → Option Nat
  | [], _, d, _ => some d
  | a :: ps, t :: ts, d, x => if x = a.1 then some t else am_lk ps ts d x
  | _ :: _, [], _, _ => none
def am_elook (ps : List (Int × Int)) (xs : List Nat) (pc : Nat) (l : List (Option Value)) (S : List Value) (m : am_M) (K : am_S → Prop) : Prop := match S with
  | .int x :: st => ∃ t, am_lk ps (xs.drop 1) (xs.headD 0) x.toInt = some t ∧ K (t, l, st, m)
  | _ => False
/-- a call: the callee's number, its parameters, (of an object) the class's number -/
def am_einv (C : Nat → List Value → am_M → Option Value → am_M → Prop) (xs : List Nat) (pc : Nat) (l : List (Option Value)) (S : List Value) (m : am_M) (K : am_S → Prop) : Prop := match S.drop (xs.getD 1 0) with
  | .ref k :: st => (∃ o, am_sk[k]? = some (.inl o) ∧ o.1 = xs.getD 2 0) ∧ (S.take (xs.getD 1 0)).length = xs.getD 1 0 ∧ am_cs st ≤ 8 ∧ ∃ r m1, C (xs.headD 0) (.ref k :: (S.take (xs.getD 1 0)).reverse) m r m1 ∧ K (pc + 3, l, r.toList ++ st, m1)
  | _ => False
def am_einvS (C : Nat → List Value → am_M → Option Value → am_M → Prop) (xs : List Nat) (pc : Nat) (l : List (Option Value)) (S : List Value) (m : am_M) (K : am_S → Prop) : Prop :=
  (S.take (xs.getD 1 0)).length = xs.getD 1 0 ∧ am_cs (S.drop (xs.getD 1 0)) ≤ 8 ∧ ∃ r m1, C (xs.headD 0) ((S.take (xs.getD 1 0)).reverse) m r m1 ∧ K (pc + 3, l, r.toList ++ S.drop (xs.getD 1 0), m1)
def am_ecpy (pc : Nat) (l : List (Option Value)) (S : List Value) (m : am_M) (K : am_S → Prop) : Prop := match S with
  | .int n :: .int dp :: .ref b :: .int sp :: .ref a :: st => am_cs st ≤ 8 ∧ (¬ sp < 0) ∧ (¬ dp < 0) ∧ (¬ n < 0) ∧
    ((∃ na nb, am_typ 0 a = some na ∧ am_typ 0 b = some nb ∧ sp.toNatClampNeg + n.toNatClampNeg ≤ na ∧ dp.toNatClampNeg + n.toNatClampNeg ≤ nb ∧ K (pc + 3, l, st, (am_ri m.1 b (va_cpy (m.1 a) (m.1 b) sp.toNatClampNeg dp.toNatClampNeg n.toNatClampNeg), m.2))) ∨
     (∃ na nb, am_typ 2 a = some na ∧ am_typ 2 b = some nb ∧ sp.toNatClampNeg + n.toNatClampNeg ≤ na ∧ dp.toNatClampNeg + n.toNatClampNeg ≤ nb ∧ K (pc + 3, l, st, (m.1, am_rl m.2 b (va_cpy (m.2 a) (m.2 b) sp.toNatClampNeg dp.toNatClampNeg n.toNatClampNeg)))))
  | _ => False
def am_iret (rt : Option FieldType) (r : Option Value) (m' : am_M) (pc : Nat) (l : List (Option Value)) (S : List Value) (m : am_M) : Prop := match S with
  | [.int v] => r = some (.int v) ∧ m' = m ∧ ∃ ty, rt = some ty ∧ narrow ty (.int v) = .int v
  | _ => False
def am_lret (rt : Option FieldType) (r : Option Value) (m' : am_M) (pc : Nat) (l : List (Option Value)) (S : List Value) (m : am_M) : Prop := match S with
  | [.long v] => r = some (.long v) ∧ m' = m ∧ rt = some .long
  | _ => False
def am_vret (rt : Option FieldType) (r : Option Value) (m' : am_M) (pc : Nat) (l : List (Option Value)) (S : List Value) (m : am_M) : Prop := match S with
  | [] => r = none ∧ m' = m ∧ rt = none
  | _ => False
/-- one instruction, goal first -/
def am_one (q : am_X) (C : Nat → List Value → am_M → Option Value → am_M → Prop) (rt : Option FieldType) (r : Option Value) (m' : am_M) (e : am_I) (pc : Nat) (l : List (Option Value)) (S : List Value) (m : am_M) (K : am_S → Prop) : Prop := match e.1 with
  | .ifCond c _ => am_eif c e.2.2.1 pc l S m K
  | .if_icmp c _ => am_ecmp c e.2.2.1 pc l S m K
  | .idiv => am_ediv (fun x y => x / y) pc l S m K
  | .irem => am_ediv (fun x y => x - x / y * y) pc l S m K
  | .iaload => am_eild q pc l S m K
  | .baload => am_ebld pc l S m K
  | .laload => am_elld pc l S m K
  | .aaload => am_eald pc l S m K
  | .iastore => am_eist pc l S m K
  | .bastore => am_ebst pc l S m K
  | .lastore => am_elst pc l S m K
  | .tableswitch _ lo hi _ => am_etab lo hi e.2.2.1 pc l S m K
  | .lookupswitch _ ps => am_elook ps.toList e.2.2.1 pc l S m K
  | .invokevirtual _ => am_einv C e.2.2.1 pc l S m K
  | .invokestatic _ => if e.2.2.1.headD 0 = 9999 then am_ecpy pc l S m K else if e.2.2.1.headD 0 = 9998 ∨ e.2.2.1.headD 0 = 9997 then (match am_step q e pc l S m with
    | some s' => K s'
    | none => False) else am_einvS C e.2.2.1 pc l S m K
  | .ireturn => am_iret rt r m' pc l S m
  | .lreturn => am_lret rt r m' pc l S m
  | .return_ => am_vret rt r m' pc l S m
  | _ => (match am_step q e pc l S m with
    | some s' => K s'
    | none => False)
def am_ev (q : am_X) (C : Nat → List Value → am_M → Option Value → am_M → Prop) (rt : Option FieldType) (T : am_T) (r : Option Value) (m' : am_M) : Nat → am_S → Prop
  | 0, _ => False
  | n + 1, (pc, l, S, m) => match am_at T pc with
    | some e => am_one q C rt r m' e pc l S m (am_ev q C rt T r m' n)
    | none => False
def am_ent (maxL : Nat) (args : List Value) : List (Option Value) :=
  let l := args.flatMap (fun v => if v.category = 2 then [some v, none] else [some v])
  l ++ List.replicate (maxL - l.length) none
