/-! WHAT IS ASKED, as numbers: a row s holds the scene as the reference has it: 0 days off, 12 tired, 24 to, 29 from, 34 on, 39 gone, 44 load, 49 came, 50 the hour; a row rd the roads, four numbers each -/
abbrev dayOf (h : Int) : Int := h / 8 % 7
abbrev rst (s : Int → Int) (r : Int) : Prop := s r = dayOf (s 50)
def pu (s : Int → Int) (k v : Int) : Int → Int := fun j => if j = k then v else s j
def sumZ (f : Int → Int) : Nat → Int
  | 0 => 0
  | n + 1 => sumZ f n + f n
def onB (nC : Int) (s : Int → Int) (r : Int) : Nat := bits (fun c => decide (s (34 + c) = r)) nC.toNat
def travB (nC : Int) (s : Int → Int) : Nat := bits (fun c => decide (¬ s (34 + c) = -1)) nC.toNat
def inB (nC : Int) (s : Int → Int) (t : Int) : Nat := bits (fun c => decide (s (34 + c) = -1 ∧ s (24 + c) = t)) nC.toNat
def fromB (nR : Int) (rd : Int → Int) (t : Int) : Nat := bits (fun r => decide (rd (4 * r) = t ∨ rd (4 * r + 1) = t)) nR.toNat
def restB (nR : Int) (s : Int → Int) (d : Int) : Nat := bits (fun r => decide (s r = d)) nR.toNat
def goB (nR : Int) (s : Int → Int) (d : Int) : Nat := bits (fun r => decide (¬ s r = d)) nR.toNat
def loadOn (nC : Int) (s : Int → Int) (r : Int) : Int := sumZ (fun c => if s (34 + c) = r then s (44 + c) else 0) nC.toNat
def manyOn (nC : Int) (s : Int → Int) (r : Int) : Int := sumZ (fun c => if s (34 + c) = r then 1 else 0) nC.toNat
def tiredAll (nR : Int) (s : Int → Int) : Int := sumZ (fun r => s (12 + r)) nR.toNat
/-- the law: codes 0 a number, 1 a given one, 2 + , 3 -, 4 *, 5 /, 6 least, 7 most, 8 % -/
def op2 (k : Int) (a b : Int32) : Int32 := if k = 2 then a + b else if k = 3 then a - b else if k = 4 then a * b else if k = 5 then (if b = 0 then 0 else a / b) else if k = 8 then (if b = 0 then 0 else a - a / b * b) else if k = 6 then (if a < b then a else b) else (if a < b then b else a)
def evS (f : Int → Int) : List (Int × Int) → List Int32 → List Int32
  | [], st => st
  | (k, v) :: cd, st => evS f cd (if k = 0 then zI v :: st else if k = 1 then zI (f v) :: st else match st with
    | b :: a :: st' => op2 k a b :: st'
    | st' => st')
/-- how deep the stack is; one value at the end -/
def okc : List (Int × Int) → Nat → Prop
  | [], t => t = 1
  | (k, v) :: cd, t => (k = 0 ∧ okc cd (t + 1)) ∨ (k = 1 ∧ 0 ≤ v ∧ v < 8 ∧ okc cd (t + 1)) ∨ (2 ≤ k ∧ k ≤ 8 ∧ 2 ≤ t ∧ okc cd (t - 1))
def clampP (v : Int) : Int := if v < 0 then 0 else if 9 < v then 9 else v
theorem clampP_r (v : Int) : 0 ≤ clampP v ∧ clampP v ≤ 9 := by unfold clampP; split; omega; split; omega; omega
def hd32 : List Int32 → Int
  | [] => 0
  | a :: _ => a.toInt
def paceZ (cd : List (Int × Int)) (f : Int → Int) : Int := if cd = [] then 2 else clampP (hd32 (evS f cd []))
theorem paceZ_r (cd : List (Int × Int)) (f : Int → Int) : 0 ≤ paceZ cd f ∧ paceZ cd f ≤ 9 := by
  unfold paceZ
  split
  · omega
  · exact clampP_r _
def fc (a0 a1 a2 a3 a4 a5 a6 a7 : Int) : Int → Int := fun k => if k = 0 then a0 else if k = 1 then a1 else if k = 2 then a2 else if k = 3 then a3 else if k = 4 then a4 else if k = 5 then a5 else if k = 6 then a6 else a7
def onPace (cd : List (Int × Int)) (rd : Int → Int) (nC : Int) (s : Int → Int) (r : Int) : Int := paceZ cd (fc (rd (4 * r + 2)) (s (12 + r)) (loadOn nC s r) (manyOn nC s r) (s 50 % 8) (dayOf (s 50)) (s 50 / 56) r)
def pBy (cd : List (Int × Int)) (rd : Int → Int) (nC : Int) (s : Int → Int) (r : Int) : Int := if rst s r then 0 else onPace cd rd nC s r
def plainZ (cd : List (Int × Int)) (rd : Int → Int) (r : Int) : Int := paceZ cd (fc (rd (4 * r + 2)) 0 0 0 0 0 0 r)
theorem pBy_r (cd : List (Int × Int)) (rd : Int → Int) (nC : Int) (s : Int → Int) (r : Int) : 0 ≤ pBy cd rd nC s r ∧ pBy cd rd nC s r ≤ 9 := by
  unfold pBy
  split
  · omega
  · exact paceZ_r _ _
abbrev goesF (rd : Int → Int) (r t : Int) : Prop := rd (4 * r) = t ∨ rd (4 * r + 1) = t
def othF (rd : Int → Int) (r t : Int) : Int := if rd (4 * r) = t then rd (4 * r + 1) else rd (4 * r)
/-- setting out, turning round, a load, a day off -/
abbrev canSet (rd : Int → Int) (s : Int → Int) (c r : Int) : Prop := s (34 + c) = -1 ∧ goesF rd r (s (24 + c))
def setF (rd : Int → Int) (s : Int → Int) (c r : Int) : Int → Int := fun k => if k = 39 + c then 0 else if k = 34 + c then r else if k = 24 + c then othF rd r (s (24 + c)) else if k = 29 + c then s (24 + c) else s k
def turnF (rd : Int → Int) (s : Int → Int) (c : Int) : Int → Int := fun k => if k = 39 + c then rd (4 * s (34 + c) + 2) - s (39 + c) else if k = 29 + c then s (24 + c) else if k = 24 + c then s (29 + c) else s k
/-- a carter comes to a town in this hour -/
abbrev comes (cd : List (Int × Int)) (rd : Int → Int) (nC : Int) (s : Int → Int) (c : Int) : Prop := ¬ s (34 + c) = -1 ∧ ¬ rst s (s (34 + c)) ∧ rd (4 * s (34 + c) + 2) ≤ s (39 + c) + pBy cd rd nC s (s (34 + c))
def cameN (cd : List (Int × Int)) (rd : Int → Int) (nC : Int) (s : Int → Int) : Nat → Int := sumZ (fun c => if comes cd rd nC s c then 1 else 0)
/-- an hour goes by -/
def hourF (cd : List (Int × Int)) (rd : Int → Int) (nR nC : Int) (s : Int → Int) : Int → Int := fun k =>
  if k = 50 then s 50 + 1
  else if k = 49 then s 49 + cameN cd rd nC s nC.toNat
  else if 12 ≤ k ∧ k < 12 + nR then (if rst s (k - 12) then 0 else s k + (if onB nC s (k - 12) = 0 then 0 else 1))
  else if 34 ≤ k ∧ k < 34 + nC then (if comes cd rd nC s (k - 34) then -1 else s k)
  else if 39 ≤ k ∧ k < 39 + nC then (if comes cd rd nC s (k - 39) then 0 else if ¬ s (34 + (k - 39)) = -1 ∧ ¬ rst s (s (34 + (k - 39))) then s k + pBy cd rd nC s (s (34 + (k - 39))) else s k)
  else s k
/-- a step: what it does, whether it could be done -/
def canDo (rd : Int → Int) (s : Int → Int) (k a b : Int) : Bool := if k = 0 then decide (canSet rd s a b) else if k = 1 then decide (¬ s (34 + a) = -1) else if k = 4 then decide (s 50 < 5600) else if k = 2 then decide (¬ s (44 + a) = b) else decide (¬ s a = b)
def doF (cd : List (Int × Int)) (rd : Int → Int) (nR nC : Int) (s : Int → Int) (k a b : Int) : Int → Int := if k = 0 then setF rd s a b else if k = 1 then turnF rd s a else if k = 4 then hourF cd rd nR nC s else if k = 2 then pu s (44 + a) b else pu s a b
/-- the places of a scene that count -/
def Vd (nR nC k : Int) : Prop := (0 ≤ k ∧ k < nR) ∨ (12 ≤ k ∧ k < 12 + nR) ∨ (24 ≤ k ∧ k < 24 + nC) ∨ (29 ≤ k ∧ k < 29 + nC) ∨ (34 ≤ k ∧ k < 34 + nC) ∨ (39 ≤ k ∧ k < 39 + nC) ∨ (44 ≤ k ∧ k < 44 + nC) ∨ k = 49 ∨ k = 50
/-- what always holds of a scene and of the roads -/
def Rd (nR : Int) (rd : Int → Int) : Prop := ∀ r, 0 ≤ r → r < nR → 0 ≤ rd (4 * r) ∧ rd (4 * r) < 7 ∧ 0 ≤ rd (4 * r + 1) ∧ rd (4 * r + 1) < 7 ∧ 0 ≤ rd (4 * r + 2) ∧ rd (4 * r + 2) ≤ 40
def Sc (nR nC : Int) (s : Int → Int) : Prop := (∀ r, 0 ≤ r → r < nR → 0 ≤ s r ∧ s r < 7 ∧ 0 ≤ s (12 + r) ∧ s (12 + r) ≤ s 50) ∧ (∀ c, 0 ≤ c → c < nC → 0 ≤ s (24 + c) ∧ s (24 + c) < 7 ∧ 0 ≤ s (29 + c) ∧ s (29 + c) < 7 ∧ -1 ≤ s (34 + c) ∧ s (34 + c) < nR ∧ -100 ≤ s (39 + c) ∧ s (39 + c) ≤ 100 ∧ 0 ≤ s (44 + c) ∧ s (44 + c) < 100) ∧ 0 ≤ s 50 ∧ s 50 ≤ 8000 ∧ 0 ≤ s 49 ∧ s 49 ≤ 5 * s 50
