/-! ===== the tables are as the Statement has them: decided by the kernel, a row a method ===== -/
/-- the words that stay true behind every step -/
def lw_g : List Jvm.Cond := lw_tbl.filter goodWord
def am_wd (p : Nat) (w : Jvm.Cond) : Bool := decide (lw_tbl[p]? = some w) && goodWord w
def am_jmp (pc : Nat) (off : Int) (t : Nat) : Bool := decide ((pc : Int) + off = (t : Int))
def am_ldk (xs : List Nat) (i len k maxL : Nat) : Bool := decide (xs = [i] ∧ len = k ∧ i < maxL)
def am_chkf (own : String) (idx : Nat) (xs : List Nat) : Bool := match vwCl[xs.headD 0]? with
  | some c => decide (xs.getD 1 0 < c.2.2) && am_wd (xs.getD 2 0) (.fieldLink own idx (c.2.1 (xs.getD 1 0)).1 (c.2.1 (xs.getD 1 0)).2.1 (c.2.1 (xs.getD 1 0)).2.2.1)
  | none => false
def am_chkp (xs : List Nat) : Bool := match vwCl[xs.headD 0]? with
  | some c => decide ((c.2.1 (xs.getD 1 0)).2.2.2 = false) && decide ((c.2.1 (xs.getD 1 0)).2.2.1 = (if xs.getD 3 0 = 0 then "I" else "Z"))
  | none => false
def am_chkv (own : String) (idx : Nat) (xs : List Nat) : Bool := match am_ms[xs.headD 0]? with
  | some I => decide (xs.getD 1 0 = I.2.2.2.2.2.1) && decide (I.2.2.2.2.1 = 1) && decide ((vwCl[xs.getD 2 0]?).map (fun c => c.1) = some I.1.cls) && am_wd (xs.getD 3 0) (.methodLink own idx I.1)
  | none => false
def am_chks (own : String) (idx : Nat) (xs : List Nat) : Bool := if xs.headD 0 = 9999 then am_wd (xs.getD 1 0) (.methodLink own idx arraycopyName) else if xs.headD 0 = 9998 then am_wd (xs.getD 1 0) (.methodLink own idx Lib.Math.max.name) else if xs.headD 0 = 9997 then am_wd (xs.getD 1 0) (.methodLink own idx Lib.Math.min.name) else match am_ms[xs.headD 0]? with
  | some I => decide (xs.getD 1 0 = I.2.2.2.2.2.1) && decide (I.2.2.2.2.1 = 0) && am_wd (xs.getD 2 0) (.methodLink own idx I.1)
  | none => false
def am_chkst (own : String) (idx : Nat) (xs : List Nat) : Bool := decide (1001 ≤ xs.headD 0 ∧ xs.headD 0 ≤ 1004) && match am_sts[xs.headD 0 - 1000]? with
  | some c => am_wd (xs.getD 1 0) (.fieldLink own idx c.1 c.2 "[I")
  | none => false
def am_chk2 (own : String) (maxL pc : Nat) (e : am_I) : Bool := match e.1 with
  | .iconst n => decide (e.2.1 = 1 ∧ Int32.ofInt n = e.2.2.2)
  | .bipush n => decide (e.2.1 = 2 ∧ (Int8.ofInt n).toInt32 = e.2.2.2)
  | .sipush n => decide (e.2.1 = 3 ∧ (Int16.ofInt n).toInt32 = e.2.2.2)
  | .ldc idx => decide (e.2.1 = 2) && am_wd (e.2.2.1.headD 0) (.constant own idx e.2.2.2)
  | .ldc_w idx => decide (e.2.1 = 3) && am_wd (e.2.2.1.headD 0) (.constant own idx e.2.2.2)
  | .ldc2_w idx => decide (e.2.1 = 3) && am_wd (e.2.2.1.headD 0) (.constantLong own idx (Int64.ofNat (e.2.2.1.getD 1 0)))
  | .lconst n => decide (e.2.1 = 1 ∧ e.2.2.1 = [(n : Nat)])
  | .iload i => am_ldk e.2.2.1 i e.2.1 2 maxL
  | .iload_n i => am_ldk e.2.2.1 i e.2.1 1 maxL
  | .lload i => am_ldk e.2.2.1 i e.2.1 2 maxL
  | .lload_n i => am_ldk e.2.2.1 i e.2.1 1 maxL
  | .aload i => am_ldk e.2.2.1 i e.2.1 2 maxL
  | .aload_n i => am_ldk e.2.2.1 i e.2.1 1 maxL
  | .istore i => am_ldk e.2.2.1 i e.2.1 2 maxL
  | .istore_n i => am_ldk e.2.2.1 i e.2.1 1 maxL
  | .astore i => am_ldk e.2.2.1 i e.2.1 2 maxL
  | .astore_n i => am_ldk e.2.2.1 i e.2.1 1 maxL
  | .iinc i n => am_ldk e.2.2.1 i e.2.1 3 maxL && decide (Int32.ofInt n = e.2.2.2)
  | .ifCond _ off => decide (e.2.1 = 3) && am_jmp pc off (e.2.2.1.headD 0)
  | .if_icmp _ off => decide (e.2.1 = 3) && am_jmp pc off (e.2.2.1.headD 0)
  | .goto off => decide (e.2.1 = 3) && am_jmp pc off (e.2.2.1.headD 0)
  | .ifnonnull off => decide (e.2.1 = 3) && am_jmp pc off (e.2.2.1.headD 0)
  | .tableswitch dd lo hi offs => am_jmp pc dd (e.2.2.1.headD 0) && decide ((e.2.2.1.drop 1).map (fun t : Nat => (t : Int)) = offs.toList.map (fun o => (pc : Int) + o))
  | .lookupswitch dd ps => am_jmp pc dd (e.2.2.1.headD 0) && decide ((e.2.2.1.drop 1).map (fun t : Nat => (t : Int)) = ps.toList.map (fun o => (pc : Int) + o.2)) && (ps.toList.zip (ps.toList.drop 1)).all (fun (a, next) => a.1 < next.1)
  | .getfield idx => decide (e.2.1 = 3) && am_chkf own idx e.2.2.1
  | .putfield idx => decide (e.2.1 = 3) && am_chkf own idx e.2.2.1 && am_chkp e.2.2.1
  | .getstatic idx => decide (e.2.1 = 3) && am_chkst own idx e.2.2.1
  | .invokevirtual idx => decide (e.2.1 = 3) && am_chkv own idx e.2.2.1
  | .invokestatic idx => decide (e.2.1 = 3) && am_chks own idx e.2.2.1
  | _ => decide (e.2.1 = 1)
def am_chk (own : String) (bytes : ByteArray) (maxL pc : Nat) (e : am_I) : Bool := decide (decode bytes pc = .ok (e.1, e.2.1)) && am_chk2 own maxL pc e
def am_chkR (own : String) (bytes : ByteArray) (maxL : Nat) : Nat → List (Option am_I) → Bool
  | _, [] => true
  | pc, o :: r => (match o with
    | some e => am_chk own bytes maxL pc e
    | none => true) && am_chkR own bytes maxL (pc + 1) r
def am_chkT (own : String) (bytes : ByteArray) (maxL : Nat) : Nat → am_T → Bool
  | _, [] => true
  | pc, r :: T => am_chkR own bytes maxL pc r && decide (r.length ≤ 32) && am_chkT own bytes maxL (pc + 32) T
/-- a method's words -/
def am_mok (I : am_Mi) : Bool :=
  am_wd (I.2.2.2.2.2.2.headD 0) (.code I.1 I.2.1 I.2.2.1 I.2.2.2.1) && decide (I.2.2.1 ≤ 20) && plainName I.1.cls && decide (I.1.cls ≠ "java/lang/invoke/MethodHandle" ∧ I.1.cls ≠ "java/lang/invoke/VarHandle" ∧ (parseMethodDescriptor I.1.desc).map (fun d => d.parameters.length) = some I.2.2.2.2.2.1) &&
  (if I.2.2.2.2.1 = 0 then am_wd (I.2.2.2.2.2.2.getD 1 0) (.static I.1) && am_wd (I.2.2.2.2.2.2.getD 2 0) (.initialized I.1.cls)
   else am_wd (I.2.2.2.2.2.2.getD 1 0) (.instanceMethod I.1) && am_wd (I.2.2.2.2.2.2.getD 2 0) (.selects I.1.cls I.1 I.1) && am_wd (I.2.2.2.2.2.2.getD 3 0) (.initialized I.1.cls))
def am_all (p : am_Mi × am_T) : Bool := am_mok p.1 && am_chkT p.1.1.cls p.1.2.1 p.1.2.2.1 0 p.2
