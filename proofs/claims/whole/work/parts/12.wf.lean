/-! WHAT A ROW OF A METHOD MUST BE: looked through by the kernel, method by method -/
def ilen : ClassFile.Instr → Nat
  | .iload _ => 2
  | .lload _ => 2
  | .aload _ => 2
  | .istore _ => 2
  | .lstore _ => 2
  | .astore _ => 2
  | .bipush _ => 2
  | .ldc _ => 2
  | .newarray _ => 2
  | .sipush _ => 3
  | .ldc_w _ => 3
  | .ldc2_w _ => 3
  | .iinc _ _ => 3
  | .ifCond _ _ => 3
  | .if_icmp _ _ => 3
  | .goto _ => 3
  | .getfield _ => 3
  | .putfield _ => 3
  | .invokevirtual _ => 3
  | .invokestatic _ => 3
  | .invokespecial _ => 3
  | .new _ => 3
  | .multianewarray _ _ => 4
  | _ => 1
/-- the row behind begins at q -/
def nxb (cs : List aE) (q : Nat) : Bool := match cs with
  | [] => false
  | e :: _ => e.1 == q
/-- a jump's row begins where it says -/
def tgb (M : aM) (a : Nat) (q : Int) : Bool := match M.1.drop a with
  | [] => false
  | e :: _ => decide (q = (e.1 : Int))
def retK (t : Option FieldType) : Nat := match t with
  | none => 0
  | some .long => 2
  | some _ => 1
/-- what a row says of the method that it calls -/
def calb (i : aI) (M : aM) (b rc : Nat) : Bool := decide (b % 4 = retK i.2.2.2.1) && decide ((parseMethodDescriptor i.1.desc).map (fun d => d.parameters.length + rc) = some (b / 4 % 16)) && decide (b / 8192 % 256 = M.2.2.2.1) && decide (b / 2097152 = M.2.2.2.2) && decide (i.2.2.1 ≤ 60)
/-- what a row's numbers must be, by its instruction: oc the owner, ini whether in a constructor -/
noncomputable def opb (oc : Nat) (ini : Bool) (M : aM) (pc : Nat) (ins : ClassFile.Instr) (a b : Nat) (cs : List aE) : Bool := match ins with
  | .iconst n => decide (Int32.ofInt n = nI a) && nxb cs (pc + 1)
  | .bipush n => decide ((Int8.ofInt n).toInt32 = nI a) && nxb cs (pc + 2)
  | .sipush n => decide ((Int16.ofInt n).toInt32 = nI a) && nxb cs (pc + 3)
  | .ldc ix => (if b = 1 then conT.contains (oc, ix, a) else strT.contains (oc, ix, a)) && nxb cs (pc + 2)
  | .ldc_w ix => (if b = 1 then conT.contains (oc, ix, a) else strT.contains (oc, ix, a)) && nxb cs (pc + 3)
  | .ldc2_w ix => conLT.contains (oc, ix, a) && nxb cs (pc + 3)
  | .lconst n => decide (Int64.ofNat n.val = lN a) && nxb cs (pc + 1)
  | .iload i => decide (i = a) && nxb cs (pc + 2)
  | .lload i => decide (i = a) && nxb cs (pc + 2)
  | .aload i => decide (i = a) && nxb cs (pc + 2)
  | .iload_n i => decide (i.val = a) && nxb cs (pc + 1)
  | .lload_n i => decide (i.val = a) && nxb cs (pc + 1)
  | .aload_n i => decide (i.val = a) && nxb cs (pc + 1)
  | .istore i => decide (i = a) && decide (a < M.2.1) && nxb cs (pc + 2)
  | .astore i => decide (i = a) && decide (a < M.2.1) && nxb cs (pc + 2)
  | .lstore i => decide (i = a) && decide (a + 1 < M.2.1) && nxb cs (pc + 2)
  | .istore_n i => decide (i.val = a) && decide (a < M.2.1) && nxb cs (pc + 1)
  | .astore_n i => decide (i.val = a) && decide (a < M.2.1) && nxb cs (pc + 1)
  | .lstore_n i => decide (i.val = a) && decide (a + 1 < M.2.1) && nxb cs (pc + 1)
  | .iinc i n => decide (i = a) && decide (a < M.2.1) && (if b < 2147483648 then decide (Int32.ofInt n = nI b) else decide (Int32.ofInt n = -nI (4294967296 - b))) && nxb cs (pc + 3)
  | .ifCond _ off => tgb M a ((pc : Int) + off) && nxb cs (pc + 3)
  | .if_icmp _ off => tgb M a ((pc : Int) + off) && nxb cs (pc + 3)
  | .goto off => tgb M a ((pc : Int) + off)
  | .getfield ix => fldT.contains (oc, ix, b / 2, a) && decide (b / 2 < 10) && decide (a < cN (b / 2)) && (iFl (b / 2) a == decide (b % 2 = 1)) && nxb cs (pc + 3)
  | .putfield ix => fldT.contains (oc, ix, b / 2, a) && decide (b / 2 < 10) && decide (a < cN (b / 2)) && (iFl (b / 2) a == decide (b % 2 = 1)) && (!(cT (b / 2) a).2.2.2 || (ini && decide (b / 2 = oc) && decide (b % 2 = 0))) && nxb cs (pc + 3)
  | .ireturn => true
  | .lreturn => true
  | .return_ => true
  | .invokestatic ix => (if a = 1003 then acpT.contains (oc, ix) else decide (a < 302) && callT.contains (oc, ix, a) && (inf a).2.2.2.2.2.1 && calb (inf a) (aP a) b 0) && nxb cs (pc + 3)
  | .invokevirtual ix => (if a = 1001 then decide (b = 1285 ∧ ((oc = 6 ∧ ix = 58) ∨ (oc = 9 ∧ ix = 122))) else if a = 1002 then decide (b = 1289 ∧ ((oc = 6 ∧ ix = 64) ∨ (oc = 9 ∧ ix = 127))) else decide (a < 302) && callT.contains (oc, ix, a) && selJ.contains a && !(inf a).2.2.2.2.2.1 && calb (inf a) (aP a) b 1 && decide (b / 64 % 64 = (inf a).2.2.2.2.1) && decide ((inf a).2.2.2.2.1 < 10)) && nxb cs (pc + 3)
  | .invokespecial ix => (if a = 1000 then objT.contains (oc, ix) else if a = 1999 then true else decide (a < 302) && (callT.contains (oc, ix, a) || nestT.contains (oc, ix, a)) && !(inf a).2.2.2.2.2.1 && decide ((inf a).1.name = "<init>") && decide ((inf a).2.2.2.1 = none) && calb (inf a) (aP a) b 1 && decide (b / 64 % 64 = (inf a).2.2.2.2.1) && decide ((inf a).2.2.2.2.1 < 10)) && nxb cs (pc + 3)
  | .new ix => if 1000 ≤ b then (match cs with
    | (q1, _, .dup, _, _) :: (q2, _, .ldc_w is, a2, _) :: (q3, _, .invokespecial ic, _, _) :: (q4, _, .athrow, _, _) :: _ => decide (q1 = pc + 3 ∧ q2 = pc + 4 ∧ q3 = pc + 7 ∧ q4 = pc + 10) && decide ((b = 1001 ∧ oc = 8 ∧ ix = 378 ∧ is = 380 ∧ ic = 382 ∧ a2 = 17) ∨ (b = 1002 ∧ oc = 8 ∧ ix = 371 ∧ is = 373 ∧ ic = 375 ∧ a2 = 16))
    | _ => false) else newT.contains (oc, ix, a) && decide (a < 10) && decide (b = cN a) && nxb cs (pc + 3)
  | .newarray t => (decide (t = .int ∧ a = 10) || decide (t = .long ∧ a = 11)) && nxb cs (pc + 2)
  | .multianewarray ix n => decide (oc = 3 ∧ ix = 11 ∧ n = 2) && nxb cs (pc + 4)
  | .tableswitch _ _ _ _ => true
  | .athrow => true
  | _ => nxb cs (pc + 1)
def swb (cc : ByteArray) (M : aM) (pc : Nat) (d lo hi : Int) (offs : Array Int) : Bool := (match decode cc pc with
    | .ok (.tableswitch d' lo' hi' offs', _) => decide (d' = d) && decide (lo' = lo) && decide (hi' = hi) && decide (offs' = offs)
    | _ => false) && decide (0 ≤ lo) && decide (hi = lo + offs.size - 1) && ((d :: offs.toList).all (fun o => decide (0 ≤ (pc : Int) + o) && (match dropTo (aTarg pc o) M.1 with
    | [] => false
    | e :: _ => e.1 == aTarg pc o)))
noncomputable def wfb (cc : ByteArray) (oc : Nat) (ini : Bool) (M : aM) : List aE → Bool
  | [] => true
  | (pc, cut, ins, a, b) :: cs => (match ins with
      | .tableswitch d lo hi offs => swb cc M pc d lo hi offs
      | i => decide (decode cc pc = .ok (i, ilen i))) && opb oc ini M pc ins a b cs && wfb cc oc ini M cs
