/-! THE SMALL MACHINE. Things are known by numbers (ids): objects and arrays in the order in which they are made; 1000000 the script; 2000000 + k the k-th String constant. -/
abbrev aSt : Type := Nat × (Nat → Nat → Int32) × (Nat → Nat → Int64) × (Nat → Nat → Option Nat)
abbrev aE : Type := Nat × Option (List Bool) × ClassFile.Instr × Nat × Nat
abbrev aRes : Type := Option ((Option Value ⊕ Nat) × aSt)
abbrev aL : Type := List (Option Value)
abbrev aK : Type := List aE → aL → List Value → Nat × Nat → aSt → aRes
/-- a method: its rows, its locals, its handlers (from, to, the handler's row, the kind), what it makes at most -/
abbrev aM : Type := List aE × Nat × List (Nat × Nat × Nat × Nat) × (Nat × Nat)
def gN (st : aSt) : Nat := st.1
def gI (st : aSt) : Nat → Nat → Int32 := st.2.1
def gJ (st : aSt) : Nat → Nat → Int64 := st.2.2.1
def gR (st : aSt) : Nat → Nat → Option Nat := st.2.2.2
def uI (I : Nat → Nat → Int32) (o k : Nat) (v : Int32) : Nat → Nat → Int32 := va_up I o (upd (I o) k v)
def uJ (J : Nat → Nat → Int64) (o k : Nat) (v : Int64) : Nat → Nat → Int64 := va_up J o (vp_updL (J o) k v)
def uR (R : Nat → Nat → Option Nat) (o k : Nat) (v : Option Nat) : Nat → Nat → Option Nat := va_up R o (va_up (R o) k v)
def setI (st : aSt) (o k : Nat) (v : Int32) : aSt := (st.1, uI st.2.1 o k v, st.2.2.1, st.2.2.2)
def setRow (st : aSt) (o : Nat) (f : Nat → Int32) : aSt := (st.1, va_up st.2.1 o f, st.2.2.1, st.2.2.2)
def setJ (st : aSt) (o k : Nat) (v : Int64) : aSt := (st.1, st.2.1, uJ st.2.2.1 o k v, st.2.2.2)
def setR (st : aSt) (o k : Nat) (v : Option Nat) : aSt := (st.1, st.2.1, st.2.2.1, uR st.2.2.2 o k v)
/-- a new thing, all in it 0 -/
def mkNew (st : aSt) : aSt := (st.1 + 1, va_up st.2.1 st.1 (fun _ => 0), va_up st.2.2.1 st.1 (fun _ => 0), va_up st.2.2.2 st.1 (fun _ => none))
/-- a new array of n new rows -/
def mkRows (st : aSt) (n : Nat) : aSt := (st.1 + 1 + n, (fun o => if st.1 ≤ o ∧ o ≤ st.1 + n then (fun _ => 0) else st.2.1 o), (fun o => if st.1 ≤ o ∧ o ≤ st.1 + n then (fun _ => 0) else st.2.2.1 o), (fun o => if o = st.1 then (fun i => if i < n then some (st.1 + 1 + i) else none) else if st.1 ≤ o ∧ o ≤ st.1 + n then (fun _ => none) else st.2.2.2 o))
def rI (r : Int32) (st : aSt) : aRes := some (.inl (some (.int r)), st)
def rJ (r : Int64) (st : aSt) : aRes := some (.inl (some (.long r)), st)
def rV (st : aSt) : aRes := some (.inl none, st)
def rX (e : Nat) (st : aSt) : aRes := some (.inr e, st)
def cI (x : aRes) (f : Int32 → aSt → aRes) (h : Nat → aSt → aRes) : aRes := match x with
  | some (.inl (some (.int r)), st) => f r st
  | some (.inr e, st) => h e st
  | _ => none
def cJ (x : aRes) (f : Int64 → aSt → aRes) (h : Nat → aSt → aRes) : aRes := match x with
  | some (.inl (some (.long r)), st) => f r st
  | some (.inr e, st) => h e st
  | _ => none
def cV (x : aRes) (f : aSt → aRes) (h : Nat → aSt → aRes) : aRes := match x with
  | some (.inl none, st) => f st
  | some (.inr e, st) => h e st
  | _ => none
def cR (x : Option Nat) (f : Nat → aRes) : aRes := match x with
  | some r => f r
  | none => none
def noL (a : Option Value) : Option Value := match a with
  | some (.long _) => none
  | some (.double _) => none
  | x => x
/-- a value of two places that stands just ahead is lost -/
def lclr : aL → Nat → aL
  | a :: l, 1 => noL a :: l
  | a :: l, i + 2 => a :: lclr l (i + 1)
  | l, _ => l
/-- a local is written -/
def lst (l : aL) (i : Nat) (v : Value) : aL := (lclr l i).set i (some v)
/-- a local of two places -/
def lst2 (l : aL) (i : Nat) (v : Value) : aL := ((lclr l i).set i (some v)).set (i + 1) none
/-- a local is forgotten -/
def lno : aL → Nat → aL
  | _ :: l, 0 => none :: l
  | a :: l, i + 1 => a :: lno l i
  | [], _ => []
def bsel (b : Bool) (x : Option Value) : Option Value := match b with
  | true => x
  | false => none
def aMask : List Bool → aL → aL
  | b :: m, x :: l => bsel b x :: aMask m l
  | [], _ => []
  | _ :: _, [] => []
def aIn : List Value → Nat → aL
  | [], n => List.replicate n none
  | .long v :: l, n => some (.long v) :: none :: aIn l (n - 2)
  | v :: l, n => some v :: aIn l (n - 1)
def nxt (back f : aK) : aK := fun cs ls stk cn st => match cs with
  | (_, some msk, _, _, _) :: _ => back cs (aMask msk ls) stk cn st
  | _ => f cs ls stk cn st
def swg (f : Nat → aRes) (x : Int32) : Nat → List Nat → Nat → aRes
  | _, [], d => f d
  | k, t :: ts, d => if x = nI k then f t else swg f x (k + 1) ts d
def dropTo (p : Nat) : List aE → List aE
  | [] => []
  | e :: l => if e.1 = p then e :: l else dropTo p l
def bok (r : Int32) : Bool := decide (r = nI 0) || decide (r = nI 1)
def aHnd (g : aK) (code : List aE) (pc : Nat) (ls : aL) (cn : Nat × Nat) : List (Nat × Nat × Nat × Nat) → Nat → aSt → aRes
  | [], e, st => rX e st
  | (f, t, i, k) :: hs, e, st => if f ≤ pc ∧ pc < t then (if e = k then (match code.drop i with
      | (_, _, _, a, _) :: cs => g cs (lno (lclr ls a) a) [] cn st
      | [] => none) else aHnd g code pc ls cn hs e st) else aHnd g code pc ls cn hs e st
def aTarg (pc : Nat) (off : Int) : Nat := ((pc : Int) + off).toNat
