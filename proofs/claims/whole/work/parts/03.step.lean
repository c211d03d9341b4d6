/-- the plan: the kind of a thing (0 Book, 1 Land, 2 Law, 3 Past, 4 Scene, 5 Steps, 6 Tape, 7 Ways, 8 RoadHolidays, 9 RoadHolidaysModel, 10 int[], 11 long[], 12 int[][], 20 String) -/
def KK (o : Nat) : Nat := if 1000000 ≤ o then (if o = 1000000 then 10 else if o < 2000000 then 99 else if o < 2000018 then 20 else 99) else if o < 101 then if o < 18 then if o < 4 then if o < 2 then if o < 1 then 8 else 6 else if o < 3 then 10 else 5 else if o < 9 then if o < 8 then 10 else 4 else if o < 17 then 10 else 4 else if o < 44 then if o < 27 then if o < 26 then 10 else 3 else if o < 28 then 12 else 10 else if o < 97 then if o < 45 then 12 else 10 else if o < 98 then 7 else if o < 100 then 10 else 1 else if o < 125 then if o < 115 then if o < 108 then if o < 107 then 10 else 1 else if o < 114 then 10 else 2 else if o < 120 then if o < 119 then 10 else 2 else if o < 124 then 10 else 0 else if o < 133 then if o < 129 then if o < 128 then 10 else 0 else if o < 132 then 10 else 9 else if o < 157 then if o < 156 then 10 else 11 else if o < 158 then 10 else if o < 159 then 11 else 99
/-- how long an array is -/
def LL (o : Nat) : Nat := if o < 118 then if o < 27 then if o < 11 then if o < 4 then if o < 2 then 0 else if o < 3 then 600 else 0 else if o < 8 then if o < 7 then 150 else 6 else if o < 9 then 0 else 12 else if o < 18 then if o < 16 then 5 else if o < 17 then 51 else 0 else if o < 25 then if o < 20 then 12 else 5 else if o < 26 then 51 else 0 else if o < 101 then if o < 97 then if o < 28 then 16 else if o < 96 then 51 else 3 else if o < 99 then if o < 98 then 0 else 12 else if o < 100 then 7 else 0 else if o < 108 then if o < 105 then 12 else if o < 107 then 5 else 0 else if o < 114 then if o < 112 then 12 else 5 else if o < 115 then 0 else 150 else if o < 136 then if o < 128 then if o < 123 then if o < 119 then 8 else if o < 120 then 0 else 150 else if o < 125 then if o < 124 then 8 else 0 else if o < 127 then 6 else 7 else if o < 132 then if o < 129 then 0 else if o < 131 then 6 else 7 else if o < 134 then if o < 133 then 0 else 2 else if o < 135 then 600 else 48 else if o < 149 then if o < 139 then if o < 137 then 10 else if o < 138 then 48 else 10 else if o < 145 then if o < 144 then 150 else 8 else if o < 147 then 150 else 51 else if o < 156 then if o < 150 then 816 else if o < 154 then 12 else 7 else if o < 158 then if o < 157 then 14 else 2604 else if o < 159 then 1 else 0
def iL (b : Bool) : Nat := match b with
  | false => 100
  | true => 107
def iW (b : Bool) : Nat := match b with
  | false => 114
  | true => 119
def iB (b : Bool) : Nat := match b with
  | false => 124
  | true => 128
def iS (b : Bool) : Nat := match b with
  | false => 8
  | true => 17
def RXm (k : Nat) : Option Nat := if k < 28 then if k < 14 then if k < 10 then if k < 2 then if k < 1 then none else some 133 else if k < 9 then none else some 134 else if k < 12 then if k < 11 then some 135 else some 136 else if k < 13 then some 137 else some 138 else if k < 23 then if k < 21 then if k < 20 then none else some 139 else if k < 22 then some 140 else some 141 else if k < 25 then if k < 24 then some 142 else some 143 else if k < 27 then none else some 144 else if k < 41 then if k < 37 then if k < 30 then if k < 29 then some 145 else some 146 else if k < 36 then none else some 147 else if k < 39 then if k < 38 then some 148 else some 149 else if k < 40 then some 150 else some 151 else if k < 45 then if k < 43 then if k < 42 then some 152 else none else if k < 44 then some 153 else some 154 else if k < 47 then if k < 46 then some 155 else some 156 else if k < 48 then none else if k < 49 then some 157 else none
def RXx (w : Bool × Bool × Bool) (k : Nat) : Option Nat := if k < 6 then if k < 3 then if k < 1 then some 1 else if k < 2 then some 3 else some 8 else if k < 4 then some 17 else if k < 5 then some 26 else some 97 else if k < 9 then if k < 7 then some (iL w.1) else if k < 8 then some (iL (!w.1)) else some (iW w.2.1) else if k < 11 then if k < 10 then some (iW (!w.2.1)) else some (iB w.2.2) else if k < 12 then some (iB (!w.2.2)) else none
def nAr (c : Nat) : Nat := if c < 4 then if c < 2 then if c < 1 then 3 else 6 else if c < 3 then 4 else 3 else if c < 6 then if c < 5 then 8 else 4 else if c < 7 then 1 else if c < 8 then 2 else 0
/-- what the fields of references hold, once all is made; w: which of the twos is in use -/
def RX (w : Bool × Bool × Bool) (o k : Nat) : Option Nat := if o = 132 then RXm k else if o = 0 then RXx w k else if o = 26 then (if k = 0 then some 27 else if k = 1 then some 44 else if k = 2 then some 96 else none) else if o = 27 then (if k < 16 then some (28 + k) else none) else if o = 44 then (if k < 51 then some (45 + k) else none) else if k < nAr (KK o) then some (o + 1 + k) else none
def mkS (w : Bool × Bool × Bool) (I : Nat → Nat → Int32) (J : Nat → Nat → Int64) : aSt := (159, I, J, RX w)
/-- how many fields a kind has; which are ints -/
def nFl (c : Nat) : Nat := if c < 5 then if c < 2 then if c < 1 then 6 else 9 else if c < 3 then 5 else if c < 4 then 5 else 11 else if c < 8 then if c < 6 then 8 else if c < 7 then 8 else 5 else if c < 9 then 16 else if c < 10 then 50 else 0
def iFl (c k : Nat) : Bool := if c < 5 then if c < 2 then if c < 1 then (if k < 3 then false else true) else (if k < 6 then false else true) else if c < 3 then (if k < 4 then false else true) else if c < 4 then (if k < 3 then false else true) else (if k < 8 then false else true) else if c < 7 then if c < 6 then (if k < 4 then false else true) else (if k < 1 then false else true) else if c < 8 then (if k < 2 then false else true) else if c < 9 then (if k < 12 then false else true) else (if k < 27 then if k < 9 then if k < 1 then true else if k < 2 then false else true else if k < 20 then if k < 14 then false else true else if k < 25 then false else true else if k < 43 then if k < 36 then if k < 30 then false else true else if k < 42 then false else true else if k < 48 then if k < 47 then false else true else if k < 49 then false else true)
def aStrT : List (List Nat) := [[116, 111, 119, 110], [114, 111, 97, 100], [99, 97, 114, 116, 101, 114], [108, 101, 97, 115, 116], [109, 111, 115, 116], [108, 101, 110, 103, 116, 104], [116, 105, 114, 101, 100], [108, 111, 97, 100], [109, 97, 110, 121], [104, 111, 117, 114], [100, 97, 121], [119, 101, 101, 107], [115, 101, 116], [116, 117, 114, 110], [111, 102, 102], [97, 103, 97, 105, 110], [97, 110, 32, 97, 114, 103, 117, 109, 101, 110, 116, 32, 105, 115, 32, 110, 111, 110, 101, 32, 115, 117, 99, 104], [116, 104, 101, 114, 101, 32, 105, 115, 32, 110, 111, 110, 101, 32, 115, 117, 99, 104]]
/-- String constants: their signs -/
def aStr (k : Nat) : List Nat := aStrT.getD k []
def aPrim (j : Nat) (args : List Value) (st : aSt) : aRes := if j = 1001 then (match args with
    | [.ref o] => if KK o = 20 then rI (nI (aStr (o - 2000000)).length) st else none
    | _ => none) else if j = 1002 then (match args with
    | [.ref o, .int i] => if KK o = 20 then (if i < 0 ∨ (aStr (o - 2000000)).length ≤ i.toNatClampNeg then none else rI (nI ((aStr (o - 2000000)).getD i.toNatClampNeg 0)) st) else none
    | _ => none) else none
/-- behind a call that makes nothing and sets no reference -/
def kp (st st1 : aSt) : aSt := (st.1, st1.2.1, st1.2.2.1, st.2.2.2)
def kpb (b : Nat) (st st1 : aSt) : aSt := if b / 4096 % 2 = 0 then kp st st1 else st1
/-- a call of method j with n values (ret 0: no answer, 1: an int, 2: a long) -/
def aInv (C : Nat → List Value → aSt → aRes) (g : aK) (h : Nat × Nat → Nat → aSt → aRes) (B : Nat × Nat) (j b : Nat) (cs : List aE) (ls : aL) (stk : List Value) (cn : Nat × Nat) (st : aSt) : aRes :=
  if ((stk.drop (b / 4 % 16)).map fun v => v.category).sum ≤ 8 ∧ b / 4 % 16 ≤ stk.length then
    (if cn.1 + b / 8192 % 256 ≤ B.1 ∧ cn.2 + b / 2097152 ≤ B.2 then
      (if b % 4 = 0 then cV (C j (stk.take (b / 4 % 16)).reverse st) (fun st1 => g cs ls (stk.drop (b / 4 % 16)) (cn.1 + b / 8192 % 256, cn.2 + b / 2097152) (kpb b st st1)) (fun e st1 => h (cn.1 + b / 8192 % 256, cn.2 + b / 2097152) e (kpb b st st1))
       else if b % 4 = 1 then cI (C j (stk.take (b / 4 % 16)).reverse st) (fun r st1 => g cs ls (.int r :: stk.drop (b / 4 % 16)) (cn.1 + b / 8192 % 256, cn.2 + b / 2097152) (kpb b st st1)) (fun e st1 => h (cn.1 + b / 8192 % 256, cn.2 + b / 2097152) e (kpb b st st1))
       else cJ (C j (stk.take (b / 4 % 16)).reverse st) (fun r st1 => g cs ls (.long r :: stk.drop (b / 4 % 16)) (cn.1 + b / 8192 % 256, cn.2 + b / 2097152) (kpb b st st1)) (fun e st1 => h (cn.1 + b / 8192 % 256, cn.2 + b / 2097152) e (kpb b st st1)))
     else none) else none
/-- the receiver of a call of n values -/
def aRec (stk : List Value) (n c : Nat) (x : aRes) : aRes := match stk.drop (n - 1) with
  | .ref o :: _ => if KK o = c then x else none
  | _ => none
/-- a copy of ints -/
def aCopy (g : aK) (cs : List aE) (ls : aL) (stk : List Value) (cn : Nat × Nat) (st : aSt) : aRes := match stk with
  | .int n :: .int dp :: .ref d :: .int sp :: .ref s :: r => if KK s = 10 ∧ KK d = 10 ∧ s < 1000000 ∧ d < 1000000 ∧ ¬ sp < 0 ∧ ¬ dp < 0 ∧ ¬ n < 0 ∧ sp.toNatClampNeg + n.toNatClampNeg ≤ LL s ∧ dp.toNatClampNeg + n.toNatClampNeg ≤ LL d ∧ (r.map fun v => v.category).sum ≤ 8 then g cs ls r cn (setRow st d (va_cpy (gI st s) (gI st d) sp.toNatClampNeg dp.toNatClampNeg n.toNatClampNeg)) else none
  | _ => none
def am_step (X : Nat × (Nat → Int32)) (C : Nat → List Value → aSt → aRes) (M : aM) (g : aK) (e : aE) (cs : List aE) (ls : aL) (stk : List Value) (cn : Nat × Nat) (st : aSt) : aRes :=
  match e with
  | (pc, _, ins, a, b) => match ins with
  | .iconst _ => g cs ls (.int (nI a) :: stk) cn st
  | .bipush _ => g cs ls (.int (nI a) :: stk) cn st
  | .sipush _ => g cs ls (.int (nI a) :: stk) cn st
  | .ldc _ => if b = 1 then g cs ls (.int (nI a) :: stk) cn st else g cs ls (.ref (2000000 + a) :: stk) cn st
  | .ldc_w _ => if b = 1 then g cs ls (.int (nI a) :: stk) cn st else g cs ls (.ref (2000000 + a) :: stk) cn st
  | .ldc2_w _ => g cs ls (.long (lN a) :: stk) cn st
  | .lconst _ => g cs ls (.long (lN a) :: stk) cn st
  | .iload _ => (match ls[a]? with
    | some (some (.int x)) => g cs ls (.int x :: stk) cn st
    | _ => none)
  | .iload_n _ => (match ls[a]? with
    | some (some (.int x)) => g cs ls (.int x :: stk) cn st
    | _ => none)
  | .lload _ => (match ls[a]? with
    | some (some (.long x)) => g cs ls (.long x :: stk) cn st
    | _ => none)
  | .lload_n _ => (match ls[a]? with
    | some (some (.long x)) => g cs ls (.long x :: stk) cn st
    | _ => none)
  | .aload _ => (match ls[a]? with
    | some (some (.ref x)) => g cs ls (.ref x :: stk) cn st
    | _ => none)
  | .aload_n _ => (match ls[a]? with
    | some (some (.ref x)) => g cs ls (.ref x :: stk) cn st
    | _ => none)
  | .istore _ => (match stk with
    | .int x :: r => g cs (lst ls a (.int x)) r cn st
    | _ => none)
  | .istore_n _ => (match stk with
    | .int x :: r => g cs (lst ls a (.int x)) r cn st
    | _ => none)
  | .lstore _ => (match stk with
    | .long x :: r => g cs (lst2 ls a (.long x)) r cn st
    | _ => none)
  | .lstore_n _ => (match stk with
    | .long x :: r => g cs (lst2 ls a (.long x)) r cn st
    | _ => none)
  | .astore _ => (match stk with
    | .ref x :: r => g cs (lst ls a (.ref x)) r cn st
    | _ => none)
  | .astore_n _ => (match stk with
    | .ref x :: r => g cs (lst ls a (.ref x)) r cn st
    | _ => none)
  | .iinc _ _ => (match ls[a]? with
    | some (some (.int x)) => if b < 2147483648 then g cs (lst ls a (.int (x + nI b))) stk cn st else g cs (lst ls a (.int (x - nI (4294967296 - b)))) stk cn st
    | _ => none)
  | .pop => (match stk with
    | .int _ :: r => g cs ls r cn st
    | _ => none)
  | .dup => (match stk with
    | .int x :: r => g cs ls (.int x :: .int x :: r) cn st
    | .ref x :: r => g cs ls (.ref x :: .ref x :: r) cn st
    | _ => none)
  | .dup2 => (match stk with
    | .int x :: .ref o :: r => g cs ls (.int x :: .ref o :: .int x :: .ref o :: r) cn st
    | _ => none)
  | .iadd => (match stk with
    | .int y :: .int x :: r => g cs ls (.int (x + y) :: r) cn st
    | _ => none)
  | .isub => (match stk with
    | .int y :: .int x :: r => g cs ls (.int (x - y) :: r) cn st
    | _ => none)
  | .imul => (match stk with
    | .int y :: .int x :: r => g cs ls (.int (x * y) :: r) cn st
    | _ => none)
  | .idiv => (match stk with
    | .int y :: .int x :: r => if y = 0 then none else g cs ls (.int (x / y) :: r) cn st
    | _ => none)
  | .irem => (match stk with
    | .int y :: .int x :: r => if y = 0 then none else g cs ls (.int (x - x / y * y) :: r) cn st
    | _ => none)
  | .ishl => (match stk with
    | .int y :: .int x :: r => g cs ls (.int (x <<< (y &&& 31)) :: r) cn st
    | _ => none)
  | .ishr => (match stk with
    | .int y :: .int x :: r => g cs ls (.int (x >>> (y &&& 31)) :: r) cn st
    | _ => none)
  | .iushr => (match stk with
    | .int y :: .int x :: r => g cs ls (.int (x.toUInt32 >>> (y.toUInt32 &&& Int32.toUInt32 31)).toInt32 :: r) cn st
    | _ => none)
  | .iand => (match stk with
    | .int y :: .int x :: r => g cs ls (.int (x &&& y) :: r) cn st
    | _ => none)
  | .ior => (match stk with
    | .int y :: .int x :: r => g cs ls (.int (x ||| y) :: r) cn st
    | _ => none)
  | .ixor => (match stk with
    | .int y :: .int x :: r => g cs ls (.int (x ^^^ y) :: r) cn st
    | _ => none)
  | .ladd => (match stk with
    | .long y :: .long x :: r => g cs ls (.long (x + y) :: r) cn st
    | _ => none)
  | .lmul => (match stk with
    | .long y :: .long x :: r => g cs ls (.long (x * y) :: r) cn st
    | _ => none)
  | .ldiv => (match stk with
    | .long y :: .long x :: r => if y = 0 then none else g cs ls (.long (x / y) :: r) cn st
    | _ => none)
  | .lrem => (match stk with
    | .long y :: .long x :: r => if y = 0 then none else g cs ls (.long (x - x / y * y) :: r) cn st
    | _ => none)
  | .i2l => (match stk with
    | .int x :: r => g cs ls (.long x.toInt64 :: r) cn st
    | _ => none)
  | .lcmp => (match stk with
    | .long y :: .long x :: r => g cs ls (.int (lg_cmp x y) :: r) cn st
    | _ => none)
  | .ifCond c _ => (match stk with
    | .int x :: r => (match c with
      | .eq => if x = 0 then g (M.1.drop a) ls r cn st else g cs ls r cn st
      | .ne => if x = 0 then g cs ls r cn st else g (M.1.drop a) ls r cn st
      | .lt => if x < 0 then g (M.1.drop a) ls r cn st else g cs ls r cn st
      | .ge => if x < 0 then g cs ls r cn st else g (M.1.drop a) ls r cn st
      | .gt => if 0 < x then g (M.1.drop a) ls r cn st else g cs ls r cn st
      | .le => if 0 < x then g cs ls r cn st else g (M.1.drop a) ls r cn st)
    | _ => none)
  | .if_icmp c _ => (match stk with
    | .int y :: .int x :: r => (match c with
      | .eq => if x = y then g (M.1.drop a) ls r cn st else g cs ls r cn st
      | .ne => if x = y then g cs ls r cn st else g (M.1.drop a) ls r cn st
      | .lt => if x < y then g (M.1.drop a) ls r cn st else g cs ls r cn st
      | .ge => if x < y then g cs ls r cn st else g (M.1.drop a) ls r cn st
      | .gt => if y < x then g (M.1.drop a) ls r cn st else g cs ls r cn st
      | .le => if y < x then g cs ls r cn st else g (M.1.drop a) ls r cn st)
    | _ => none)
  | .goto _ => g (M.1.drop a) ls stk cn st
  | .tableswitch d lo _ offs => (match stk with
    | .int x :: r => if 0 ≤ lo then swg (fun t => g (dropTo t M.1) ls r cn st) x lo.toNat (offs.toList.map (aTarg pc)) (aTarg pc d) else none
    | _ => none)
  | .ireturn => (match stk with
    | [.int x] => if b = 1 then (match bok x with
      | true => rI x st
      | false => none) else rI x st
    | _ => none)
  | .lreturn => (match stk with
    | [.long x] => rJ x st
    | _ => none)
  | .return_ => (match stk with
    | [] => rV st
    | _ => none)
  | .getfield _ => (match stk with
    | .ref o :: r => if KK o = b / 2 then (if b % 2 = 1 then g cs ls (.int (gI st o a) :: r) cn st else cR (gR st o a) (fun q => g cs ls (.ref q :: r) cn st)) else none
    | _ => none)
  | .putfield _ => (match stk with
    | .int x :: .ref o :: r => if KK o = b / 2 ∧ b % 2 = 1 then g cs ls r cn (setI st o a x) else none
    | .ref x :: .ref o :: r => if KK o = b / 2 ∧ b % 2 = 0 ∧ x < 1000000 then g cs ls r cn (setR st o a (some x)) else none
    | _ => none)
  | .iaload => (match stk with
    | .int i :: .ref o :: r => if o = 1000000 then (if i < 0 ∨ X.1 ≤ i.toNatClampNeg then none else g cs ls (.int (X.2 i.toNatClampNeg) :: r) cn st) else if KK o = 10 then (if i < 0 ∨ LL o ≤ i.toNatClampNeg then none else g cs ls (.int (gI st o i.toNatClampNeg) :: r) cn st) else none
    | _ => none)
  | .laload => (match stk with
    | .int i :: .ref o :: r => if KK o = 11 then (if i < 0 ∨ LL o ≤ i.toNatClampNeg then none else g cs ls (.long (gJ st o i.toNatClampNeg) :: r) cn st) else none
    | _ => none)
  | .aaload => (match stk with
    | .int i :: .ref o :: r => if KK o = 12 then (if i < 0 ∨ LL o ≤ i.toNatClampNeg then none else cR (gR st o i.toNatClampNeg) (fun q => g cs ls (.ref q :: r) cn st)) else none
    | _ => none)
  | .iastore => (match stk with
    | .int x :: .int i :: .ref o :: r => if KK o = 10 ∧ o < 1000000 then (if i < 0 ∨ LL o ≤ i.toNatClampNeg then none else g cs ls r cn (setI st o i.toNatClampNeg x)) else none
    | _ => none)
  | .lastore => (match stk with
    | .long x :: .int i :: .ref o :: r => if KK o = 11 then (if i < 0 ∨ LL o ≤ i.toNatClampNeg then none else g cs ls r cn (setJ st o i.toNatClampNeg x)) else none
    | _ => none)
  | .arraylength => (match stk with
    | .ref o :: r => if o = 1000000 then g cs ls (.int (nI X.1) :: r) cn st else if KK o = 10 then g cs ls (.int (nI (LL o)) :: r) cn st else none
    | _ => none)
  | .invokestatic _ => if a = 1003 then aCopy g cs ls stk cn st else aInv C g (fun cn e st => aHnd g M.1 pc ls cn M.2.2.1 e st) M.2.2.2 a b cs ls stk cn st
  | .invokevirtual _ => aRec stk (b / 4 % 16) (b / 64 % 64) (aInv C g (fun cn e st => aHnd g M.1 pc ls cn M.2.2.1 e st) M.2.2.2 a b cs ls stk cn st)
  | .invokespecial _ => if a = 1000 then (match stk with
    | [.ref _] => g cs ls [] cn st
    | _ => none) else aRec stk (b / 4 % 16) (b / 64 % 64) (aInv C g (fun cn e st => aHnd g M.1 pc ls cn M.2.2.1 e st) M.2.2.2 a b cs ls stk cn st)
  | .new _ => if 1000 ≤ b then (if cn.1 + 1 ≤ M.2.2.2.1 ∧ cn.2 + 6 ≤ M.2.2.2.2 ∧ stk = [] ∧ M.2.2.1 = [] then rX (b - 1000) st else none)
    else if cn.1 + 1 ≤ M.2.2.2.1 ∧ cn.2 + b ≤ M.2.2.2.2 ∧ KK (gN st) = a ∧ gN st + 1 < 1000000 then g cs ls (.ref (gN st) :: stk) (cn.1 + 1, cn.2 + b) (mkNew st) else none
  | .newarray _ => (match stk with
    | .int n :: r => if ¬ n < 0 ∧ n.toNatClampNeg = LL (gN st) ∧ cn.1 + 1 ≤ M.2.2.2.1 ∧ cn.2 + LL (gN st) ≤ M.2.2.2.2 ∧ KK (gN st) = a ∧ gN st + 1 < 1000000 then g cs ls (.ref (gN st) :: r) (cn.1 + 1, cn.2 + LL (gN st)) (mkNew st) else none
    | _ => none)
  | .multianewarray _ _ => (match stk with
    | .int k :: .int n :: r => if ¬ n < 0 ∧ ¬ k < 0 ∧ n.toNatClampNeg = LL (gN st) ∧ cn.1 + (1 + LL (gN st)) ≤ M.2.2.2.1 ∧ cn.2 + (LL (gN st) + LL (gN st) * LL (gN st + 1)) ≤ M.2.2.2.2 ∧ KK (gN st) = 12 ∧ gN st + LL (gN st) < 1000000 ∧ k.toNatClampNeg = LL (gN st + 1) ∧ (List.range (LL (gN st))).all (fun i => KK (gN st + 1 + i) == 10 && LL (gN st + 1 + i) == LL (gN st + 1)) = true then g cs ls (.ref (gN st) :: r) (cn.1 + 1 + LL (gN st), cn.2 + LL (gN st) + LL (gN st) * LL (gN st + 1)) (mkRows st (LL (gN st))) else none
    | _ => none)
  | _ => none
def am_in (X : Nat × (Nat → Int32)) (C : Nat → List Value → aSt → aRes) (M : aM) (back : aK) : Nat → aK
  | 0 => fun _ _ _ _ _ => none
  | k + 1 => fun cs ls stk cn st => match cs with
    | [] => none
    | e :: cs' => am_step X C M (nxt back (am_in X C M back k)) e cs' ls stk cn st
def am_run (X : Nat × (Nat → Int32)) (C : Nat → List Value → aSt → aRes) (M : aM) : Nat → aK
  | 0 => fun _ _ _ _ _ => none
  | n + 1 => am_in X C M (am_run X C M n) 400
/-- no value of two places but a long -/
def noD : Value → Bool
  | .double _ => false
  | _ => true
def am_call (X : Nat × (Nat → Int32)) (P : Nat → aM) : Nat → Nat → List Value → aSt → aRes
  | 0, _, _, _ => none
  | d + 1, j, args, st => if j < 1000 then (if (args.map fun v => v.category).sum ≤ (P j).2.1 ∧ args.all noD = true then am_run X (am_call X P d) (P j) 10000000 (P j).1 (aIn args (P j).2.1) [] (0, 0) st else none) else aPrim j args st
