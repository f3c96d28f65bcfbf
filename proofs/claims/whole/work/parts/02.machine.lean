/-! ===== THE ABSTRACT MACHINE: one method's frame over the memory am_M; references are numbers of cells of am_sk, from 1000 on arrays that are only read ===== -/
abbrev am_I : Type := Instr × Nat × List Nat × Int32
abbrev am_T : Type := List (List (Option am_I))
abbrev am_S : Type := Nat × List (Option Value) × List Value × am_M
abbrev am_X : Type := Nat × (Nat → Int32)
/-- the instruction at a place: rows of 32 bytes -/
def am_at (T : am_T) (pc : Nat) : Option am_I := (((T[pc / 32]?).getD [])[pc % 32]?).getD none
def am_ui (f : Nat → Nat → Int32) (k j : Nat) (v : Int32) : Nat → Nat → Int32 := fun a => if a = k then upd (f k) j v else f a
def am_ri (f : Nat → Nat → Int32) (k : Nat) (g : Nat → Int32) : Nat → Nat → Int32 := fun a => if a = k then g else f a
def am_ul (f : Nat → Nat → Int64) (k j : Nat) (v : Int64) : Nat → Nat → Int64 := fun a => if a = k then vp_updL (f k) j v else f a
def am_rl (f : Nat → Nat → Int64) (k : Nat) (g : Nat → Int64) : Nat → Nat → Int64 := fun a => if a = k then g else f a
/-- arrays that are only read: the script, and the class's four tables -/
def am_low : Nat → Int32 := fun j => ([1, 0, 1, 0, 0, 0] : List Int32).getD j 0
def am_high : Nat → Int32 := fun j => ([9, 9, 9, 1, 9, 9] : List Int32).getD j 0
def am_above : Nat → Int32 := fun j => ([-1, 0, 0, 2, 1, 3, 0, 4] : List Int32).getD j 0
def am_bodies : Nat → Int32 := fun j => ([1, 10, 11, 2, 20, 0, 0, 0, 0, 30, 0, 0, 0, 41, 40, 0, 0, 0, 50, 0, 0, 0, 0, 60, 70, 0, 0, 0, 0, 80, 0, 81] : List Int32).getD j 0
def am_ro (q : am_X) (k : Nat) : Option am_X := if k = 1000 then some q else if k = 1001 then some (6, am_low) else if k = 1002 then some (6, am_high) else if k = 1003 then some (8, am_above) else if k = 1004 then some (32, am_bodies) else none
/-- how an int array reads: its length and contents -/
def am_arr (q : am_X) (m : am_M) (k : Nat) : Option am_X := match am_sk[k]? with
  | some (.inr (.inl (0, n))) => some (n, m.1 k)
  | some _ => none
  | none => am_ro q k
def am_len (q : am_X) (k : Nat) : Option Nat := match am_sk[k]? with
  | some (.inr (.inl (_, n))) => some n
  | some (.inr (.inr l)) => some l.length
  | some (.inl _) => none
  | none => (am_ro q k).map (fun x => x.1)
def am_two (o : Option (Option Value)) : Bool := match o with
  | some (some (.long _)) => true
  | some (some (.double _)) => true
  | _ => false
def am_push (k : Nat) (v : Value) (s : am_S) : Option am_S := some (s.1 + k, s.2.1, v :: s.2.2.1, s.2.2.2)
def am_ldi (xs : List Nat) (k : Nat) (s : am_S) : Option am_S := match s.2.1[xs.headD 0]? with
  | some (some (.int x)) => am_push k (.int x) s
  | _ => none
def am_ldl (xs : List Nat) (k : Nat) (s : am_S) : Option am_S := match s.2.1[xs.headD 0]? with
  | some (some (.long x)) => am_push k (.long x) s
  | _ => none
def am_lda (xs : List Nat) (k : Nat) (s : am_S) : Option am_S := match s.2.1[xs.headD 0]? with
  | some (some (.ref x)) => am_push k (.ref x) s
  | some (some .null) => am_push k .null s
  | _ => none
def am_put (i k : Nat) (v : Value) (s : am_S) (st : List Value) : Option am_S := if am_two s.2.1[i - 1]? then none else some (s.1 + k, s.2.1.set i (some v), st, s.2.2.2)
def am_sti (xs : List Nat) (k : Nat) (s : am_S) : Option am_S := match s.2.2.1 with
  | .int x :: st => am_put (xs.headD 0) k (.int x) s st
  | _ => none
def am_sta (xs : List Nat) (k : Nat) (s : am_S) : Option am_S := match s.2.2.1 with
  | .ref x :: st => am_put (xs.headD 0) k (.ref x) s st
  | _ => none
def am_inc (xs : List Nat) (v : Int32) (s : am_S) : Option am_S := match s.2.1[xs.headD 0]? with
  | some (some (.int x)) => am_put (xs.headD 0) 3 (.int (x + v)) s s.2.2.1
  | _ => none
def am_bin (f : Int32 → Int32 → Int32) (s : am_S) : Option am_S := match s.2.2.1 with
  | .int y :: .int x :: st => some (s.1 + 1, s.2.1, .int (f x y) :: st, s.2.2.2)
  | _ => none
def am_un (f : Int32 → Int32) (s : am_S) : Option am_S := match s.2.2.1 with
  | .int x :: st => some (s.1 + 1, s.2.1, .int (f x) :: st, s.2.2.2)
  | _ => none
def am_binl (f : Int64 → Int64 → Int64) (s : am_S) : Option am_S := match s.2.2.1 with
  | .long y :: .long x :: st => some (s.1 + 1, s.2.1, .long (f x y) :: st, s.2.2.2)
  | _ => none
def am_shl (s : am_S) : Option am_S := match s.2.2.1 with
  | .int y :: .long x :: st => some (s.1 + 1, s.2.1, .long (x <<< (y.toInt64 &&& 63)) :: st, s.2.2.2)
  | _ => none
def am_lcmp (s : am_S) : Option am_S := match s.2.2.1 with
  | .long y :: .long x :: st => some (s.1 + 1, s.2.1, .int (lg_cmp x y) :: st, s.2.2.2)
  | _ => none
def am_i2l (s : am_S) : Option am_S := match s.2.2.1 with
  | .int x :: st => some (s.1 + 1, s.2.1, .long x.toInt64 :: st, s.2.2.2)
  | _ => none
def am_l2i (s : am_S) : Option am_S := match s.2.2.1 with
  | .long x :: st => some (s.1 + 1, s.2.1, .int x.toInt32 :: st, s.2.2.2)
  | _ => none
def am_cat1 (v : Value) : Bool := match v with
  | .long _ => false
  | .double _ => false
  | _ => true
def am_dup (s : am_S) : Option am_S := match s.2.2.1 with
  | v :: st => if am_cat1 v then some (s.1 + 1, s.2.1, v :: v :: st, s.2.2.2) else none
  | _ => none
def am_pop (s : am_S) : Option am_S := match s.2.2.1 with
  | v :: st => if am_cat1 v then some (s.1 + 1, s.2.1, st, s.2.2.2) else none
  | _ => none
def am_dup2 (s : am_S) : Option am_S := match s.2.2.1 with
  | v :: w :: st => if am_cat1 v && am_cat1 w then some (s.1 + 1, s.2.1, v :: w :: v :: w :: st, s.2.2.2) else none
  | _ => none
def am_fld (k ci j : Nat) : Option (Option Nat) := match am_sk[k]? with
  | some (.inl o) => if o.1 = ci then o.2[j]? else none
  | _ => none
def am_get (xs : List Nat) (s : am_S) : Option am_S := match s.2.2.1 with
  | .ref k :: st => (match am_fld k (xs.headD 0) (xs.getD 1 0) with
    | some (some r) => some (s.1 + 3, s.2.1, .ref r :: st, s.2.2.2)
    | some none => some (s.1 + 3, s.2.1, .int (s.2.2.2.1 k (xs.getD 1 0)) :: st, s.2.2.2)
    | none => none)
  | _ => none
def am_set (xs : List Nat) (s : am_S) : Option am_S := match s.2.2.1 with
  | .int x :: .ref k :: st => (match am_fld k (xs.headD 0) (xs.getD 1 0) with
    | some none => if xs.getD 3 0 = 0 ∨ x = 0 ∨ x = 1 then some (s.1 + 3, s.2.1, st, (am_ui s.2.2.2.1 k (xs.getD 1 0) x, s.2.2.2.2)) else none
    | _ => none)
  | _ => none
def am_alen (q : am_X) (s : am_S) : Option am_S := match s.2.2.1 with
  | .ref k :: st => (match am_len q k with
    | some n => some (s.1 + 1, s.2.1, .int (Int32.ofNat n) :: st, s.2.2.2)
    | none => none)
  | _ => none
def am_nonnull (xs : List Nat) (s : am_S) : Option am_S := match s.2.2.1 with
  | .ref _ :: st => some (xs.headD 0, s.2.1, st, s.2.2.2)
  | .null :: st => some (s.1 + 3, s.2.1, st, s.2.2.2)
  | _ => none
/-- the steps that ask nothing -/
def am_step (q : am_X) (e : am_I) (s : am_S) : Option am_S := match e.1 with
  | .iconst _ => am_push 1 (.int e.2.2.2) s
  | .bipush _ => am_push 2 (.int e.2.2.2) s
  | .sipush _ => am_push 3 (.int e.2.2.2) s
  | .ldc _ => am_push 2 (.int e.2.2.2) s
  | .ldc_w _ => am_push 3 (.int e.2.2.2) s
  | .ldc2_w _ => am_push 3 (.long (Int64.ofNat (e.2.2.1.getD 1 0))) s
  | .lconst _ => am_push 1 (.long (Int64.ofNat (e.2.2.1.headD 0))) s
  | .aconst_null => am_push 1 .null s
  | .iload _ => am_ldi e.2.2.1 2 s
  | .iload_n _ => am_ldi e.2.2.1 1 s
  | .lload _ => am_ldl e.2.2.1 2 s
  | .lload_n _ => am_ldl e.2.2.1 1 s
  | .aload _ => am_lda e.2.2.1 2 s
  | .aload_n _ => am_lda e.2.2.1 1 s
  | .istore _ => am_sti e.2.2.1 2 s
  | .istore_n _ => am_sti e.2.2.1 1 s
  | .astore _ => am_sta e.2.2.1 2 s
  | .astore_n _ => am_sta e.2.2.1 1 s
  | .iinc _ _ => am_inc e.2.2.1 e.2.2.2 s
  | .iadd => am_bin (fun x y => x + y) s
  | .isub => am_bin (fun x y => x - y) s
  | .imul => am_bin (fun x y => x * y) s
  | .iand => am_bin (fun x y => x &&& y) s
  | .ior => am_bin (fun x y => x ||| y) s
  | .ixor => am_bin (fun x y => x ^^^ y) s
  | .ishl => am_bin (fun x y => x <<< (y &&& 31)) s
  | .iushr => am_bin (fun x y => (x.toUInt32 >>> (y.toUInt32 &&& Int32.toUInt32 31)).toInt32) s
  | .ineg => am_un (fun x => -x) s
  | .i2b => am_un (fun x => x.toInt8.toInt32) s
  | .i2s => am_un (fun x => x.toInt16.toInt32) s
  | .i2l => am_i2l s
  | .l2i => am_l2i s
  | .land => am_binl (fun x y => x &&& y) s
  | .lor => am_binl (fun x y => x ||| y) s
  | .lshl => am_shl s
  | .lcmp => am_lcmp s
  | .dup => am_dup s
  | .dup2 => am_dup2 s
  | .pop => am_pop s
  | .goto _ => some (e.2.2.1.headD 0, s.2.1, s.2.2.1, s.2.2.2)
  | .ifnonnull _ => am_nonnull e.2.2.1 s
  | .getfield _ => am_get e.2.2.1 s
  | .putfield _ => am_set e.2.2.1 s
  | .getstatic _ => am_push 3 (.ref (e.2.2.1.headD 0)) s
  | .arraylength => am_alen q s
  | _ => none
/-! events: they ask something, or part -/
def am_cz (c : ClassFile.Cond) (x : Int32) : Prop := match c with
  | .eq => x = 0
  | .ne => ¬ x = 0
  | .lt => x < 0
  | .ge => 0 ≤ x
  | .gt => 0 < x
  | .le => x ≤ 0
def am_cc (c : ClassFile.Cond) (x y : Int32) : Prop := match c with
  | .eq => x = y
  | .ne => ¬ x = y
  | .lt => x < y
  | .ge => y ≤ x
  | .gt => y < x
  | .le => x ≤ y
def am_eif (c : ClassFile.Cond) (xs : List Nat) (s : am_S) (K : am_S → Prop) : Prop := match s.2.2.1 with
  | .int x :: st => (am_cz c x → K (xs.headD 0, s.2.1, st, s.2.2.2)) ∧ (¬ am_cz c x → K (s.1 + 3, s.2.1, st, s.2.2.2))
  | _ => False
def am_ecmp (c : ClassFile.Cond) (xs : List Nat) (s : am_S) (K : am_S → Prop) : Prop := match s.2.2.1 with
  | .int y :: .int x :: st => (am_cc c x y → K (xs.headD 0, s.2.1, st, s.2.2.2)) ∧ (¬ am_cc c x y → K (s.1 + 3, s.2.1, st, s.2.2.2))
  | _ => False
def am_ediv (f : Int32 → Int32 → Int32) (s : am_S) (K : am_S → Prop) : Prop := match s.2.2.1 with
  | .int y :: .int x :: st => (¬ y = 0) ∧ K (s.1 + 1, s.2.1, .int (f x y) :: st, s.2.2.2)
  | _ => False
def am_eild (q : am_X) (s : am_S) (K : am_S → Prop) : Prop := match s.2.2.1 with
  | .int i :: .ref k :: st => (match am_arr q s.2.2.2 k with
    | some x => vp_in i x.1 ∧ K (s.1 + 1, s.2.1, .int (x.2 i.toNatClampNeg) :: st, s.2.2.2)
    | none => False)
  | _ => False
def am_typ (t k : Nat) : Option Nat := match am_sk[k]? with
  | some (.inr (.inl x)) => if x.1 = t then some x.2 else none
  | _ => none
def am_ebld (s : am_S) (K : am_S → Prop) : Prop := match s.2.2.1 with
  | .int i :: .ref k :: st => (match am_typ 1 k with
    | some n => vp_in i n ∧ K (s.1 + 1, s.2.1, .int (s.2.2.2.1 k i.toNatClampNeg) :: st, s.2.2.2)
    | none => False)
  | _ => False
def am_elld (s : am_S) (K : am_S → Prop) : Prop := match s.2.2.1 with
  | .int i :: .ref k :: st => (match am_typ 2 k with
    | some n => vp_in i n ∧ K (s.1 + 1, s.2.1, .long (s.2.2.2.2 k i.toNatClampNeg) :: st, s.2.2.2)
    | none => False)
  | _ => False
def am_eald (s : am_S) (K : am_S → Prop) : Prop := match s.2.2.1 with
  | .int i :: .ref k :: st => (match am_sk[k]? with
    | some (.inr (.inr l)) => vp_in i l.length ∧ (match l[i.toNatClampNeg]? with
      | some r => K (s.1 + 1, s.2.1, .ref r :: st, s.2.2.2)
      | none => False)
    | _ => False)
  | _ => False
def am_eist (s : am_S) (K : am_S → Prop) : Prop := match s.2.2.1 with
  | .int x :: .int i :: .ref k :: st => (match am_typ 0 k with
    | some n => vp_in i n ∧ K (s.1 + 1, s.2.1, st, (am_ui s.2.2.2.1 k i.toNatClampNeg x, s.2.2.2.2))
    | none => False)
  | _ => False
def am_ebst (s : am_S) (K : am_S → Prop) : Prop := match s.2.2.1 with
  | .int x :: .int i :: .ref k :: st => (match am_typ 1 k with
    | some n => vp_in i n ∧ K (s.1 + 1, s.2.1, st, (am_ui s.2.2.2.1 k i.toNatClampNeg (vp_nar .boolean x), s.2.2.2.2))
    | none => False)
  | _ => False
def am_elst (s : am_S) (K : am_S → Prop) : Prop := match s.2.2.1 with
  | .long x :: .int i :: .ref k :: st => (match am_typ 2 k with
    | some n => vp_in i n ∧ K (s.1 + 1, s.2.1, st, (s.2.2.2.1, am_ul s.2.2.2.2 k i.toNatClampNeg x))
    | none => False)
  | _ => False
def am_etab (lo hi : Int) (xs : List Nat) (s : am_S) (K : am_S → Prop) : Prop := match s.2.2.1 with
  | .int x :: st => ((x.toInt < lo ∨ hi < x.toInt) → K (xs.headD 0, s.2.1, st, s.2.2.2)) ∧ (¬ (x.toInt < lo ∨ hi < x.toInt) → ∃ t, (xs.drop 1)[(x.toInt - lo).toNat]? = some t ∧ K (t, s.2.1, st, s.2.2.2))
  | _ => False
def am_lk : List (Int × Int) → List Nat → Nat → Int → Option Nat
  | [], _, d, _ => some d
  | a :: ps, t :: ts, d, x => if x = a.1 then some t else am_lk ps ts d x
  | _ :: _, [], _, _ => none
def am_elook (ps : List (Int × Int)) (xs : List Nat) (s : am_S) (K : am_S → Prop) : Prop := match s.2.2.1 with
  | .int x :: st => ∃ t, am_lk ps (xs.drop 1) (xs.headD 0) x.toInt = some t ∧ K (t, s.2.1, st, s.2.2.2)
  | _ => False
def am_cs (st : List Value) : Nat := (st.map fun v => v.category).sum
/-- a call: the callee's number, its parameters, (of an object) the class's number -/
def am_einv (C : Nat → List Value → am_M → Option Value → am_M → Prop) (xs : List Nat) (s : am_S) (K : am_S → Prop) : Prop := match s.2.2.1.drop (xs.getD 1 0) with
  | .ref k :: st => (∃ o, am_sk[k]? = some (.inl o) ∧ o.1 = xs.getD 2 0) ∧ (s.2.2.1.take (xs.getD 1 0)).length = xs.getD 1 0 ∧ am_cs st ≤ 8 ∧ ∃ r m, C (xs.headD 0) (.ref k :: (s.2.2.1.take (xs.getD 1 0)).reverse) s.2.2.2 r m ∧ K (s.1 + 3, s.2.1, r.toList ++ st, m)
  | _ => False
def am_einvS (C : Nat → List Value → am_M → Option Value → am_M → Prop) (xs : List Nat) (s : am_S) (K : am_S → Prop) : Prop :=
  (s.2.2.1.take (xs.getD 1 0)).length = xs.getD 1 0 ∧ am_cs (s.2.2.1.drop (xs.getD 1 0)) ≤ 8 ∧ ∃ r m, C (xs.headD 0) ((s.2.2.1.take (xs.getD 1 0)).reverse) s.2.2.2 r m ∧ K (s.1 + 3, s.2.1, r.toList ++ s.2.2.1.drop (xs.getD 1 0), m)
def am_ecpy (s : am_S) (K : am_S → Prop) : Prop := match s.2.2.1 with
  | .int n :: .int dp :: .ref b :: .int sp :: .ref a :: st => am_cs st ≤ 8 ∧ (¬ sp < 0) ∧ (¬ dp < 0) ∧ (¬ n < 0) ∧
    ((∃ na nb, am_typ 0 a = some na ∧ am_typ 0 b = some nb ∧ sp.toNatClampNeg + n.toNatClampNeg ≤ na ∧ dp.toNatClampNeg + n.toNatClampNeg ≤ nb ∧ K (s.1 + 3, s.2.1, st, (am_ri s.2.2.2.1 b (va_cpy (s.2.2.2.1 a) (s.2.2.2.1 b) sp.toNatClampNeg dp.toNatClampNeg n.toNatClampNeg), s.2.2.2.2))) ∨
     (∃ na nb, am_typ 2 a = some na ∧ am_typ 2 b = some nb ∧ sp.toNatClampNeg + n.toNatClampNeg ≤ na ∧ dp.toNatClampNeg + n.toNatClampNeg ≤ nb ∧ K (s.1 + 3, s.2.1, st, (s.2.2.2.1, am_rl s.2.2.2.2 b (va_cpy (s.2.2.2.2 a) (s.2.2.2.2 b) sp.toNatClampNeg dp.toNatClampNeg n.toNatClampNeg)))))
  | _ => False
def am_iret (rt : Option FieldType) (r : Option Value) (m' : am_M) (s : am_S) : Prop := match s.2.2.1 with
  | [.int v] => r = some (.int v) ∧ m' = s.2.2.2 ∧ ∃ ty, rt = some ty ∧ narrow ty (.int v) = .int v
  | _ => False
def am_lret (r : Option Value) (m' : am_M) (s : am_S) : Prop := match s.2.2.1 with
  | [.long v] => r = some (.long v) ∧ m' = s.2.2.2
  | _ => False
def am_vret (r : Option Value) (m' : am_M) (s : am_S) : Prop := match s.2.2.1 with
  | [] => r = none ∧ m' = s.2.2.2
  | _ => False
/-- one instruction, goal first -/
def am_one (q : am_X) (C : Nat → List Value → am_M → Option Value → am_M → Prop) (rt : Option FieldType) (r : Option Value) (m' : am_M) (e : am_I) (s : am_S) (K : am_S → Prop) : Prop := match e.1 with
  | .ifCond c _ => am_eif c e.2.2.1 s K
  | .if_icmp c _ => am_ecmp c e.2.2.1 s K
  | .idiv => am_ediv (fun x y => x / y) s K
  | .irem => am_ediv (fun x y => x - x / y * y) s K
  | .iaload => am_eild q s K
  | .baload => am_ebld s K
  | .laload => am_elld s K
  | .aaload => am_eald s K
  | .iastore => am_eist s K
  | .bastore => am_ebst s K
  | .lastore => am_elst s K
  | .tableswitch _ lo hi _ => am_etab lo hi e.2.2.1 s K
  | .lookupswitch _ ps => am_elook ps.toList e.2.2.1 s K
  | .invokevirtual _ => am_einv C e.2.2.1 s K
  | .invokestatic _ => if e.2.2.1.headD 0 = 9999 then am_ecpy s K else am_einvS C e.2.2.1 s K
  | .ireturn => am_iret rt r m' s
  | .lreturn => am_lret r m' s
  | .return_ => am_vret r m' s
  | _ => (match am_step q e s with
    | some s' => K s'
    | none => False)
def am_ev (q : am_X) (C : Nat → List Value → am_M → Option Value → am_M → Prop) (rt : Option FieldType) (T : am_T) (r : Option Value) (m' : am_M) : Nat → am_S → Prop
  | 0, _ => False
  | n + 1, s => match am_at T s.1 with
    | some e => am_one q C rt r m' e s (am_ev q C rt T r m' n)
    | none => False
def am_ent (maxL : Nat) (args : List Value) : List (Option Value) :=
  let l := args.flatMap (fun v => if v.category = 2 then [some v, none] else [some v])
  l ++ List.replicate (maxL - l.length) none
