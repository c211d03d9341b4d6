/-! FOUR EQUATIONS, piece by piece -/
noncomputable def aq (X : Nat × (Nat → Int32)) (d n : Nat) (M : aM) (k i : Nat) (ls : aL) (stk : List Value) (st : aSt) : aRes := am_in X (am_call X aP d) M (am_run X (am_call X aP d) M n) k (M.1.drop i) ls stk (0, 0) st
theorem aq_aR {X : Nat × (Nat → Int32)} {d n i : Nat} {M : aM} {ls : aL} {st : aSt} : aR X d M (n + 1) i ls (0, 0) st = aq X d n M 400 i ls [] st := rfl
theorem ite_else {α : Type} {c : Prop} [Decidable c] {a b b' : α} (h : b = b') : (if c then a else b) = (if c then a else b') := by rw [h]
theorem ite_both {α : Type} {c : Prop} [Decidable c] {a a' b b' : α} (h : a = a') (h2 : b = b') : (if c then a else b) = (if c then a' else b') := by rw [h, h2]
theorem cI_both {x : aRes} {f f' : Int32 → aSt → aRes} {h : Nat → aSt → aRes} (hf : ∀ r s, f r s = f' r s) : cI x f h = cI x f' h := by rw [show f = f' from funext fun r => funext fun s => hf r s]
set_option maxRecDepth 100000 in
set_option maxHeartbeats 200000 in
theorem f_valueNow_4sssn {X : Nat × (Nat → Int32)} {d n k : Nat} {w : Bool × Bool × Bool} {I : Nat → Nat → Int32} {J : Nat → Nat → Int64} {v1 : Int32} {v2 : Int32} : aq X d n m_X10_valueNow (k + 4) 4 [some (.ref 132), some (.int v1), some (.int v2), none] [] (mkS w I J) = if v2 < (I 132 26) then aq X d n m_X10_valueNow k 8 [some (.ref 132), some (.int v1), some (.int v2), none] [] (mkS w I J) else aq X d n m_X10_valueNow k 57 [some (.ref 132), some (.int v1), some (.int v2), none] [] (mkS w I J) := rfl
set_option maxRecDepth 100000 in
set_option maxHeartbeats 200000 in
theorem f_valueNow_8sssn {X : Nat × (Nat → Int32)} {d n k : Nat} {w : Bool × Bool × Bool} {I : Nat → Nat → Int32} {J : Nat → Nat → Int64} {v1 : Int32} {v2 : Int32} : aq X d n m_X10_valueNow (k + 4) 8 [some (.ref 132), some (.int v1), some (.int v2), none] [] (mkS w I J) = if v2 < 0 ∨ 150 ≤ v2.toNatClampNeg then none else aq X d n m_X10_valueNow k 12 [some (.ref 132), some (.int v1), some (.int v2), none] [.int (I 141 v2.toNatClampNeg)] (mkS w I J) := rfl
set_option maxRecDepth 100000 in
set_option maxHeartbeats 200000 in
theorem f_valueNow_12sssn {X : Nat × (Nat → Int32)} {d n k : Nat} {w : Bool × Bool × Bool} {I : Nat → Nat → Int32} {J : Nat → Nat → Int64} {v1 : Int32} {v2 : Int32} {v3 : Int32} : aq X d n m_X10_valueNow (k + 4) 12 [some (.ref 132), some (.int v1), some (.int v2), none] [.int v3] (mkS w I J) = if (nI 1) < v3 then aq X d n m_X10_valueNow k 36 [some (.ref 132), some (.int v1), some (.int v2), some (.int v3)] [] (mkS w I J) else aq X d n m_X10_valueNow k 16 [some (.ref 132), some (.int v1), some (.int v2), some (.int v3)] [] (mkS w I J) := rfl
set_option maxRecDepth 100000 in
set_option maxHeartbeats 200000 in
theorem f_valueNow_36ssss {X : Nat × (Nat → Int32)} {d n k : Nat} {w : Bool × Bool × Bool} {I : Nat → Nat → Int32} {J : Nat → Nat → Int64} {v1 : Int32} {v2 : Int32} {v3 : Int32} : aq X d n m_X10_valueNow (k + 13) 36 [some (.ref 132), some (.int v1), some (.int v2), some (.int v3)] [] (mkS w I J) = if ((v1 - nI 1) - (nI 1)) < 0 ∨ 150 ≤ ((v1 - nI 1) - (nI 1)).toNatClampNeg then none else aq X d n m_X10_valueNow k 49 [some (.ref 132), some (.int (v1 - nI 1)), some (.int v2), some (.int v3)] [.int (I 143 ((v1 - nI 1) - (nI 1)).toNatClampNeg), .int v3, .int ((v1 - nI 1) - (nI 1)), .ref 143] (mkS w I J) := rfl
set_option maxRecDepth 100000 in
set_option maxHeartbeats 200000 in
theorem f_valueNow_49ssss {X : Nat × (Nat → Int32)} {d n k : Nat} {w : Bool × Bool × Bool} {I : Nat → Nat → Int32} {J : Nat → Nat → Int64} {v1 : Int32} {v2 : Int32} {v3 : Int32} {v4 : Int32} {v5 : Int32} {v6 : Int32} : aq X d n m_X10_valueNow (k + 4) 49 [some (.ref 132), some (.int v1), some (.int v2), some (.int v3)] [.int v6, .int v5, .int v4, .ref 143] (mkS w I J) = if v1 < 0 ∨ 150 ≤ v1.toNatClampNeg then none else aq X d n m_X10_valueNow k 53 [some (.ref 132), some (.int v1), some (.int v2), some (.int v3)] [.int (I 143 v1.toNatClampNeg), .int v6, .int v5, .int v4, .ref 143] (mkS w I J) := rfl
set_option maxRecDepth 100000 in
set_option maxHeartbeats 200000 in
theorem f_valueNow_53ssss {X : Nat × (Nat → Int32)} {d n k : Nat} {w : Bool × Bool × Bool} {I : Nat → Nat → Int32} {J : Nat → Nat → Int64} {v1 : Int32} {v2 : Int32} {v3 : Int32} {v4 : Int32} {v5 : Int32} {v6 : Int32} {v7 : Int32} : aq X d n m_X10_valueNow (k + 1) 53 [some (.ref 132), some (.int v1), some (.int v2), some (.int v3)] [.int v7, .int v6, .int v5, .int v4, .ref 143] (mkS w I J) = cI (am_call X aP d 189 [.int v5, .int v6, .int v7] (mkS w I J)) (fun r1 s1 => aq X d n m_X10_valueNow k 54 [some (.ref 132), some (.int v1), some (.int v2), some (.int v3)] [.int r1, .int v4, .ref 143] (mkS w (gI s1) (gJ s1))) (fun e s1 => rX e (mkS w (gI s1) (gJ s1))) := rfl
set_option maxRecDepth 100000 in
set_option maxHeartbeats 200000 in
theorem f_valueNow_54ssss {X : Nat × (Nat → Int32)} {d n k : Nat} {w : Bool × Bool × Bool} {I : Nat → Nat → Int32} {J : Nat → Nat → Int64} {v1 : Int32} {v2 : Int32} {v3 : Int32} {v4 : Int32} {v5 : Int32} : aq X d n m_X10_valueNow (k + 1) 54 [some (.ref 132), some (.int v1), some (.int v2), some (.int v3)] [.int v5, .int v4, .ref 143] (mkS w I J) = if v4 < 0 ∨ 150 ≤ v4.toNatClampNeg then none else aq X d n m_X10_valueNow k 55 [some (.ref 132), some (.int v1), some (.int v2), some (.int v3)] [] (mkS w (uI I 143 v4.toNatClampNeg v5) J) := rfl
set_option maxRecDepth 100000 in
set_option maxHeartbeats 200000 in
theorem f_valueNow_55ssss {X : Nat × (Nat → Int32)} {d n k : Nat} {w : Bool × Bool × Bool} {I : Nat → Nat → Int32} {J : Nat → Nat → Int64} {v1 : Int32} {v2 : Int32} {v3 : Int32} : aq X d n m_X10_valueNow (k + 2) 55 [some (.ref 132), some (.int v1), some (.int v2), some (.int v3)] [] (mkS w I J) = aR X d m_X10_valueNow n 4 [some (.ref 132), some (.int v1), some (.int (v2 + nI 1)), none] (0, 0) (mkS w I J) := rfl
set_option maxRecDepth 100000 in
set_option maxHeartbeats 200000 in
theorem f_valueNow_16ssss {X : Nat × (Nat → Int32)} {d n k : Nat} {w : Bool × Bool × Bool} {I : Nat → Nat → Int32} {J : Nat → Nat → Int64} {v1 : Int32} {v2 : Int32} {v3 : Int32} : aq X d n m_X10_valueNow (k + 5) 16 [some (.ref 132), some (.int v1), some (.int v2), some (.int v3)] [] (mkS w I J) = if v3 = 0 then aq X d n m_X10_valueNow k 21 [some (.ref 132), some (.int v1), some (.int v2), some (.int v3)] [.int v1, .ref 143] (mkS w I J) else aq X d n m_X10_valueNow k 26 [some (.ref 132), some (.int v1), some (.int v2), some (.int v3)] [.int v1, .ref 143] (mkS w I J) := rfl
set_option maxRecDepth 100000 in
set_option maxHeartbeats 200000 in
theorem f_valueNow_21ssss {X : Nat × (Nat → Int32)} {d n k : Nat} {w : Bool × Bool × Bool} {I : Nat → Nat → Int32} {J : Nat → Nat → Int64} {v1 : Int32} {v2 : Int32} {v3 : Int32} {v4 : Int32} : aq X d n m_X10_valueNow (k + 4) 21 [some (.ref 132), some (.int v1), some (.int v2), some (.int v3)] [.int v4, .ref 143] (mkS w I J) = if v2 < 0 ∨ 150 ≤ v2.toNatClampNeg then none else aq X d n m_X10_valueNow k 25 [some (.ref 132), some (.int v1), some (.int v2), some (.int v3)] [.int (I 142 v2.toNatClampNeg), .int v4, .ref 143] (mkS w I J) := rfl
set_option maxRecDepth 100000 in
set_option maxHeartbeats 200000 in
theorem f_valueNow_25ssss {X : Nat × (Nat → Int32)} {d n k : Nat} {w : Bool × Bool × Bool} {I : Nat → Nat → Int32} {J : Nat → Nat → Int64} {v1 : Int32} {v2 : Int32} {v3 : Int32} {v4 : Int32} {v5 : Int32} : aq X d n m_X10_valueNow (k + 2) 25 [some (.ref 132), some (.int v1), some (.int v2), some (.int v3)] [.int v5, .int v4, .ref 143] (mkS w I J) = if v4 < 0 ∨ 150 ≤ v4.toNatClampNeg then none else aq X d n m_X10_valueNow k 34 [some (.ref 132), some (.int v1), some (.int v2), some (.int v3)] [] (mkS w (uI I 143 v4.toNatClampNeg v5) J) := rfl
set_option maxRecDepth 100000 in
set_option maxHeartbeats 200000 in
theorem f_valueNow_34ssss {X : Nat × (Nat → Int32)} {d n k : Nat} {w : Bool × Bool × Bool} {I : Nat → Nat → Int32} {J : Nat → Nat → Int64} {v1 : Int32} {v2 : Int32} {v3 : Int32} : aq X d n m_X10_valueNow (k + 4) 34 [some (.ref 132), some (.int v1), some (.int v2), some (.int v3)] [] (mkS w I J) = aR X d m_X10_valueNow n 4 [some (.ref 132), some (.int (v1 + nI 1)), some (.int (v2 + nI 1)), none] (0, 0) (mkS w I J) := rfl
set_option maxRecDepth 100000 in
set_option maxHeartbeats 200000 in
theorem f_valueNow_26ssss {X : Nat × (Nat → Int32)} {d n k : Nat} {w : Bool × Bool × Bool} {I : Nat → Nat → Int32} {J : Nat → Nat → Int64} {v1 : Int32} {v2 : Int32} {v3 : Int32} {v4 : Int32} : aq X d n m_X10_valueNow (k + 6) 26 [some (.ref 132), some (.int v1), some (.int v2), some (.int v3)] [.int v4, .ref 143] (mkS w I J) = if v2 < 0 ∨ 150 ≤ v2.toNatClampNeg then none else aq X d n m_X10_valueNow k 32 [some (.ref 132), some (.int v1), some (.int v2), some (.int v3)] [.int (I 142 v2.toNatClampNeg), .ref 144, .int v4, .ref 143] (mkS w I J) := rfl
set_option maxRecDepth 100000 in
set_option maxHeartbeats 200000 in
theorem f_valueNow_32ssss {X : Nat × (Nat → Int32)} {d n k : Nat} {w : Bool × Bool × Bool} {I : Nat → Nat → Int32} {J : Nat → Nat → Int64} {v1 : Int32} {v2 : Int32} {v3 : Int32} {v4 : Int32} {v5 : Int32} : aq X d n m_X10_valueNow (k + 1) 32 [some (.ref 132), some (.int v1), some (.int v2), some (.int v3)] [.int v5, .ref 144, .int v4, .ref 143] (mkS w I J) = if v5 < 0 ∨ 8 ≤ v5.toNatClampNeg then none else aq X d n m_X10_valueNow k 33 [some (.ref 132), some (.int v1), some (.int v2), some (.int v3)] [.int (I 144 v5.toNatClampNeg), .int v4, .ref 143] (mkS w I J) := rfl
set_option maxRecDepth 100000 in
set_option maxHeartbeats 200000 in
theorem f_valueNow_33ssss {X : Nat × (Nat → Int32)} {d n k : Nat} {w : Bool × Bool × Bool} {I : Nat → Nat → Int32} {J : Nat → Nat → Int64} {v1 : Int32} {v2 : Int32} {v3 : Int32} {v4 : Int32} {v5 : Int32} : aq X d n m_X10_valueNow (k + 1) 33 [some (.ref 132), some (.int v1), some (.int v2), some (.int v3)] [.int v5, .int v4, .ref 143] (mkS w I J) = if v4 < 0 ∨ 150 ≤ v4.toNatClampNeg then none else aq X d n m_X10_valueNow k 34 [some (.ref 132), some (.int v1), some (.int v2), some (.int v3)] [] (mkS w (uI I 143 v4.toNatClampNeg v5) J) := rfl
set_option maxRecDepth 100000 in
set_option maxHeartbeats 200000 in
theorem f_valueNow_57sssn {X : Nat × (Nat → Int32)} {d n k : Nat} {w : Bool × Bool × Bool} {I : Nat → Nat → Int32} {J : Nat → Nat → Int64} {v1 : Int32} {v2 : Int32} : aq X d n m_X10_valueNow (k + 4) 57 [some (.ref 132), some (.int v1), some (.int v2), none] [] (mkS w I J) = if (nI 0) < 0 ∨ 150 ≤ (nI 0).toNatClampNeg then none else aq X d n m_X10_valueNow k 61 [some (.ref 132), some (.int v1), some (.int v2), none] [.int (I 143 (nI 0).toNatClampNeg)] (mkS w I J) := rfl
set_option maxRecDepth 100000 in
set_option maxHeartbeats 200000 in
theorem f_valueNow_61sssn {X : Nat × (Nat → Int32)} {d n k : Nat} {w : Bool × Bool × Bool} {I : Nat → Nat → Int32} {J : Nat → Nat → Int64} {v1 : Int32} {v2 : Int32} {v3 : Int32} : aq X d n m_X10_valueNow (k + 1) 61 [some (.ref 132), some (.int v1), some (.int v2), none] [.int v3] (mkS w I J) = rI v3 (mkS w I J) := rfl
set_option maxRecDepth 100000 in
theorem e_X10_valueNow_4 (X : Nat × (Nat → Int32)) (d n : Nat) (w : Bool × Bool × Bool) (I : Nat → Nat → Int32) (J : Nat → Nat → Int64) (x1 : Int32) (x2 : Int32) : aR X d m_X10_valueNow (n + 1) 4 [some (.ref 132), some (.int x1), some (.int x2), none] (0, 0) (mkS w I J) =
  if x2 < (I 132 26) then (if x2 < 0 ∨ 150 ≤ x2.toNatClampNeg then none else if (nI 1) < (I 141 x2.toNatClampNeg) then (if ((x1 - nI 1) - (nI 1)) < 0 ∨ 150 ≤ ((x1 - nI 1) - (nI 1)).toNatClampNeg then none else if (x1 - nI 1) < 0 ∨ 150 ≤ (x1 - nI 1).toNatClampNeg then none else cI (am_call X aP d 189 [.int (I 141 x2.toNatClampNeg), .int (I 143 ((x1 - nI 1) - (nI 1)).toNatClampNeg), .int (I 143 (x1 - nI 1).toNatClampNeg)] (mkS w I J)) (fun r2 s1 => if ((x1 - nI 1) - (nI 1)) < 0 ∨ 150 ≤ ((x1 - nI 1) - (nI 1)).toNatClampNeg then none else aR X d m_X10_valueNow n 4 [some (.ref 132), some (.int (x1 - nI 1)), some (.int (x2 + nI 1)), none] (0, 0) (mkS w (uI (gI s1) 143 ((x1 - nI 1) - (nI 1)).toNatClampNeg r2) (gJ s1))) (fun e9 s1 => rX e9 (mkS w (gI s1) (gJ s1)))) else if (I 141 x2.toNatClampNeg) = 0 then (if x2 < 0 ∨ 150 ≤ x2.toNatClampNeg then none else if x1 < 0 ∨ 150 ≤ x1.toNatClampNeg then none else aR X d m_X10_valueNow n 4 [some (.ref 132), some (.int (x1 + nI 1)), some (.int (x2 + nI 1)), none] (0, 0) (mkS w (uI I 143 x1.toNatClampNeg (I 142 x2.toNatClampNeg)) J)) else if x2 < 0 ∨ 150 ≤ x2.toNatClampNeg then none else if (I 142 x2.toNatClampNeg) < 0 ∨ 8 ≤ (I 142 x2.toNatClampNeg).toNatClampNeg then none else if x1 < 0 ∨ 150 ≤ x1.toNatClampNeg then none else aR X d m_X10_valueNow n 4 [some (.ref 132), some (.int (x1 + nI 1)), some (.int (x2 + nI 1)), none] (0, 0) (mkS w (uI I 143 x1.toNatClampNeg (I 144 (I 142 x2.toNatClampNeg).toNatClampNeg)) J)) else if (nI 0) < 0 ∨ 150 ≤ (nI 0).toNatClampNeg then none else rI (I 143 (nI 0).toNatClampNeg) (mkS w I J) := by
  rw [aq_aR]
  rw [f_valueNow_4sssn]
  refine ite_both ?_ ?_
  · rw [f_valueNow_8sssn]
    refine ite_else ?_
    rw [f_valueNow_12sssn]
    refine ite_both ?_ ?_
    · rw [f_valueNow_36ssss]
      refine ite_else ?_
      rw [f_valueNow_49ssss]
      refine ite_else ?_
      rw [f_valueNow_53ssss]
      refine cI_both (fun r s => ?_)
      rw [f_valueNow_54ssss]
      refine ite_else ?_
      rw [f_valueNow_55ssss]
    · rw [f_valueNow_16ssss]
      refine ite_both ?_ ?_
      · rw [f_valueNow_21ssss]
        refine ite_else ?_
        rw [f_valueNow_25ssss]
        refine ite_else ?_
        rw [f_valueNow_34ssss]
      · rw [f_valueNow_26ssss]
        refine ite_else ?_
        rw [f_valueNow_32ssss]
        refine ite_else ?_
        rw [f_valueNow_33ssss]
        refine ite_else ?_
        rw [f_valueNow_34ssss]
  · rw [f_valueNow_57sssn]
    refine ite_else ?_
    rw [f_valueNow_61sssn]
set_option maxRecDepth 100000 in
set_option maxHeartbeats 200000 in
theorem f_pace_4sss {X : Nat × (Nat → Int32)} {d n k : Nat} {w : Bool × Bool × Bool} {I : Nat → Nat → Int32} {J : Nat → Nat → Int64} {bw : Bool} {v1 : Int32} {v2 : Int32} : aq X d n m_X3_pace (k + 4) 4 [some (.ref (iW bw)), some (.int v1), some (.int v2)] [] (mkS w I J) = if v2 < (I (iW bw) 4) then aq X d n m_X3_pace k 8 [some (.ref (iW bw)), some (.int v1), some (.int v2)] [] (mkS w I J) else aR X d m_X3_pace n 72 [some (.ref (iW bw)), none, none] (0, 0) (mkS w I J) := by cases bw <;> rfl
set_option maxRecDepth 100000 in
set_option maxHeartbeats 200000 in
theorem f_pace_8sss {X : Nat × (Nat → Int32)} {d n k : Nat} {w : Bool × Bool × Bool} {I : Nat → Nat → Int32} {J : Nat → Nat → Int64} {bw : Bool} {v1 : Int32} {v2 : Int32} : aq X d n m_X3_pace (k + 3) 8 [some (.ref (iW bw)), some (.int v1), some (.int v2)] [] (mkS w I J) = if v1 < (nI 150) then aq X d n m_X3_pace k 11 [some (.ref (iW bw)), some (.int v1), some (.int v2)] [] (mkS w I J) else aR X d m_X3_pace n 72 [some (.ref (iW bw)), none, none] (0, 0) (mkS w I J) := by cases bw <;> rfl
set_option maxRecDepth 100000 in
set_option maxHeartbeats 200000 in
theorem f_pace_11sss {X : Nat × (Nat → Int32)} {d n k : Nat} {w : Bool × Bool × Bool} {I : Nat → Nat → Int32} {J : Nat → Nat → Int64} {bw : Bool} {v1 : Int32} {v2 : Int32} : aq X d n m_X3_pace (k + 4) 11 [some (.ref (iW bw)), some (.int v1), some (.int v2)] [] (mkS w I J) = if v2 < 0 ∨ LL ((iW bw) + 1) ≤ v2.toNatClampNeg then none else aq X d n m_X3_pace k 15 [some (.ref (iW bw)), some (.int v1), some (.int v2)] [.int (I ((iW bw) + 1) v2.toNatClampNeg)] (mkS w I J) := by cases bw <;> rfl
set_option maxRecDepth 100000 in
set_option maxHeartbeats 200000 in
theorem f_pace_15sss {X : Nat × (Nat → Int32)} {d n k : Nat} {w : Bool × Bool × Bool} {I : Nat → Nat → Int32} {J : Nat → Nat → Int64} {bw : Bool} {v1 : Int32} {v2 : Int32} {v3 : Int32} : aq X d n m_X3_pace (k + 1) 15 [some (.ref (iW bw)), some (.int v1), some (.int v2)] [.int v3] (mkS w I J) = if v3 = 0 then aq X d n m_X3_pace k 16 [some (.ref (iW bw)), some (.int v1), some (.int v2)] [] (mkS w I J) else aq X d n m_X3_pace k 26 [some (.ref (iW bw)), some (.int v1), some (.int v2)] [] (mkS w I J) := by cases bw <;> rfl
set_option maxRecDepth 100000 in
set_option maxHeartbeats 200000 in
theorem f_pace_16sss {X : Nat × (Nat → Int32)} {d n k : Nat} {w : Bool × Bool × Bool} {I : Nat → Nat → Int32} {J : Nat → Nat → Int64} {bw : Bool} {v1 : Int32} {v2 : Int32} : aq X d n m_X3_pace (k + 7) 16 [some (.ref (iW bw)), some (.int v1), some (.int v2)] [] (mkS w I J) = if v2 < 0 ∨ LL ((iW bw) + 2) ≤ v2.toNatClampNeg then none else aq X d n m_X3_pace k 23 [some (.ref (iW bw)), some (.int v1), some (.int v2)] [.int (I ((iW bw) + 2) v2.toNatClampNeg), .int v1, .ref ((iW bw) + 3)] (mkS w I J) := by cases bw <;> rfl
set_option maxRecDepth 100000 in
set_option maxHeartbeats 200000 in
theorem f_pace_23sss {X : Nat × (Nat → Int32)} {d n k : Nat} {w : Bool × Bool × Bool} {I : Nat → Nat → Int32} {J : Nat → Nat → Int64} {bw : Bool} {v1 : Int32} {v2 : Int32} {v3 : Int32} {v4 : Int32} : aq X d n m_X3_pace (k + 1) 23 [some (.ref (iW bw)), some (.int v1), some (.int v2)] [.int v4, .int v3, .ref ((iW bw) + 3)] (mkS w I J) = if v3 < 0 ∨ LL ((iW bw) + 3) ≤ v3.toNatClampNeg then none else aq X d n m_X3_pace k 24 [some (.ref (iW bw)), some (.int v1), some (.int v2)] [] (mkS w (uI I ((iW bw) + 3) v3.toNatClampNeg v4) J) := by cases bw <;> rfl
set_option maxRecDepth 100000 in
set_option maxHeartbeats 200000 in
theorem f_pace_24sss {X : Nat × (Nat → Int32)} {d n k : Nat} {w : Bool × Bool × Bool} {I : Nat → Nat → Int32} {J : Nat → Nat → Int64} {bw : Bool} {v1 : Int32} {v2 : Int32} : aq X d n m_X3_pace (k + 4) 24 [some (.ref (iW bw)), some (.int v1), some (.int v2)] [] (mkS w I J) = aR X d m_X3_pace n 4 [some (.ref (iW bw)), some (.int (v1 + nI 1)), some (.int (v2 + nI 1))] (0, 0) (mkS w I J) := by cases bw <;> rfl
set_option maxRecDepth 100000 in
set_option maxHeartbeats 200000 in
theorem f_pace_26sss {X : Nat × (Nat → Int32)} {d n k : Nat} {w : Bool × Bool × Bool} {I : Nat → Nat → Int32} {J : Nat → Nat → Int64} {bw : Bool} {v1 : Int32} {v2 : Int32} : aq X d n m_X3_pace (k + 4) 26 [some (.ref (iW bw)), some (.int v1), some (.int v2)] [] (mkS w I J) = if v2 < 0 ∨ LL ((iW bw) + 1) ≤ v2.toNatClampNeg then none else aq X d n m_X3_pace k 30 [some (.ref (iW bw)), some (.int v1), some (.int v2)] [.int (I ((iW bw) + 1) v2.toNatClampNeg)] (mkS w I J) := by cases bw <;> rfl
set_option maxRecDepth 100000 in
set_option maxHeartbeats 200000 in
theorem f_pace_30sss {X : Nat × (Nat → Int32)} {d n k : Nat} {w : Bool × Bool × Bool} {I : Nat → Nat → Int32} {J : Nat → Nat → Int64} {bw : Bool} {v1 : Int32} {v2 : Int32} {v3 : Int32} : aq X d n m_X3_pace (k + 2) 30 [some (.ref (iW bw)), some (.int v1), some (.int v2)] [.int v3] (mkS w I J) = if v3 = (nI 1) then aq X d n m_X3_pace k 32 [some (.ref (iW bw)), some (.int v1), some (.int v2)] [] (mkS w I J) else aq X d n m_X3_pace k 45 [some (.ref (iW bw)), some (.int v1), some (.int v2)] [] (mkS w I J) := by cases bw <;> rfl
set_option maxRecDepth 100000 in
set_option maxHeartbeats 200000 in
theorem f_pace_32sss {X : Nat × (Nat → Int32)} {d n k : Nat} {w : Bool × Bool × Bool} {I : Nat → Nat → Int32} {J : Nat → Nat → Int64} {bw : Bool} {v1 : Int32} {v2 : Int32} : aq X d n m_X3_pace (k + 9) 32 [some (.ref (iW bw)), some (.int v1), some (.int v2)] [] (mkS w I J) = if v2 < 0 ∨ LL ((iW bw) + 2) ≤ v2.toNatClampNeg then none else aq X d n m_X3_pace k 41 [some (.ref (iW bw)), some (.int v1), some (.int v2)] [.int (I ((iW bw) + 2) v2.toNatClampNeg), .ref ((iW bw) + 4), .int v1, .ref ((iW bw) + 3)] (mkS w I J) := by cases bw <;> rfl
set_option maxRecDepth 100000 in
set_option maxHeartbeats 200000 in
theorem f_pace_41sss {X : Nat × (Nat → Int32)} {d n k : Nat} {w : Bool × Bool × Bool} {I : Nat → Nat → Int32} {J : Nat → Nat → Int64} {bw : Bool} {v1 : Int32} {v2 : Int32} {v3 : Int32} {v4 : Int32} : aq X d n m_X3_pace (k + 1) 41 [some (.ref (iW bw)), some (.int v1), some (.int v2)] [.int v4, .ref ((iW bw) + 4), .int v3, .ref ((iW bw) + 3)] (mkS w I J) = if v4 < 0 ∨ LL ((iW bw) + 4) ≤ v4.toNatClampNeg then none else aq X d n m_X3_pace k 42 [some (.ref (iW bw)), some (.int v1), some (.int v2)] [.int (I ((iW bw) + 4) v4.toNatClampNeg), .int v3, .ref ((iW bw) + 3)] (mkS w I J) := by cases bw <;> rfl
set_option maxRecDepth 100000 in
set_option maxHeartbeats 200000 in
theorem f_pace_42sss {X : Nat × (Nat → Int32)} {d n k : Nat} {w : Bool × Bool × Bool} {I : Nat → Nat → Int32} {J : Nat → Nat → Int64} {bw : Bool} {v1 : Int32} {v2 : Int32} {v3 : Int32} {v4 : Int32} : aq X d n m_X3_pace (k + 1) 42 [some (.ref (iW bw)), some (.int v1), some (.int v2)] [.int v4, .int v3, .ref ((iW bw) + 3)] (mkS w I J) = if v3 < 0 ∨ LL ((iW bw) + 3) ≤ v3.toNatClampNeg then none else aq X d n m_X3_pace k 43 [some (.ref (iW bw)), some (.int v1), some (.int v2)] [] (mkS w (uI I ((iW bw) + 3) v3.toNatClampNeg v4) J) := by cases bw <;> rfl
set_option maxRecDepth 100000 in
set_option maxHeartbeats 200000 in
theorem f_pace_43sss {X : Nat × (Nat → Int32)} {d n k : Nat} {w : Bool × Bool × Bool} {I : Nat → Nat → Int32} {J : Nat → Nat → Int64} {bw : Bool} {v1 : Int32} {v2 : Int32} : aq X d n m_X3_pace (k + 4) 43 [some (.ref (iW bw)), some (.int v1), some (.int v2)] [] (mkS w I J) = aR X d m_X3_pace n 4 [some (.ref (iW bw)), some (.int (v1 + nI 1)), some (.int (v2 + nI 1))] (0, 0) (mkS w I J) := by cases bw <;> rfl
set_option maxRecDepth 100000 in
set_option maxHeartbeats 200000 in
theorem f_pace_45sss {X : Nat × (Nat → Int32)} {d n k : Nat} {w : Bool × Bool × Bool} {I : Nat → Nat → Int32} {J : Nat → Nat → Int64} {bw : Bool} {v1 : Int32} {v2 : Int32} : aq X d n m_X3_pace (k + 3) 45 [some (.ref (iW bw)), some (.int v1), some (.int v2)] [] (mkS w I J) = if v1 < (nI 2) then aq X d n m_X3_pace k 70 [some (.ref (iW bw)), some (.int v1), some (.int v2)] [] (mkS w I J) else aq X d n m_X3_pace k 48 [some (.ref (iW bw)), some (.int v1), some (.int v2)] [] (mkS w I J) := by cases bw <;> rfl
set_option maxRecDepth 100000 in
set_option maxHeartbeats 200000 in
theorem f_pace_70sss {X : Nat × (Nat → Int32)} {d n k : Nat} {w : Bool × Bool × Bool} {I : Nat → Nat → Int32} {J : Nat → Nat → Int64} {bw : Bool} {v1 : Int32} {v2 : Int32} : aq X d n m_X3_pace (k + 2) 70 [some (.ref (iW bw)), some (.int v1), some (.int v2)] [] (mkS w I J) = aR X d m_X3_pace n 4 [some (.ref (iW bw)), some (.int v1), some (.int (v2 + nI 1))] (0, 0) (mkS w I J) := by cases bw <;> rfl
set_option maxRecDepth 100000 in
set_option maxHeartbeats 200000 in
theorem f_pace_48sss {X : Nat × (Nat → Int32)} {d n k : Nat} {w : Bool × Bool × Bool} {I : Nat → Nat → Int32} {J : Nat → Nat → Int64} {bw : Bool} {v1 : Int32} {v2 : Int32} : aq X d n m_X3_pace (k + 10) 48 [some (.ref (iW bw)), some (.int v1), some (.int v2)] [] (mkS w I J) = if v2 < 0 ∨ LL ((iW bw) + 1) ≤ v2.toNatClampNeg then none else aq X d n m_X3_pace k 58 [some (.ref (iW bw)), some (.int (v1 - nI 1)), some (.int v2)] [.int (I ((iW bw) + 1) v2.toNatClampNeg), .int ((v1 - nI 1) - (nI 1)), .ref ((iW bw) + 3)] (mkS w I J) := by cases bw <;> rfl
set_option maxRecDepth 100000 in
set_option maxHeartbeats 200000 in
theorem f_pace_58sss {X : Nat × (Nat → Int32)} {d n k : Nat} {w : Bool × Bool × Bool} {I : Nat → Nat → Int32} {J : Nat → Nat → Int64} {bw : Bool} {v1 : Int32} {v2 : Int32} {v3 : Int32} {v4 : Int32} : aq X d n m_X3_pace (k + 6) 58 [some (.ref (iW bw)), some (.int v1), some (.int v2)] [.int v4, .int v3, .ref ((iW bw) + 3)] (mkS w I J) = if (v1 - (nI 1)) < 0 ∨ LL ((iW bw) + 3) ≤ (v1 - (nI 1)).toNatClampNeg then none else aq X d n m_X3_pace k 64 [some (.ref (iW bw)), some (.int v1), some (.int v2)] [.int (I ((iW bw) + 3) (v1 - (nI 1)).toNatClampNeg), .int v4, .int v3, .ref ((iW bw) + 3)] (mkS w I J) := by cases bw <;> rfl
set_option maxRecDepth 100000 in
set_option maxHeartbeats 200000 in
theorem f_pace_64sss {X : Nat × (Nat → Int32)} {d n k : Nat} {w : Bool × Bool × Bool} {I : Nat → Nat → Int32} {J : Nat → Nat → Int64} {bw : Bool} {v1 : Int32} {v2 : Int32} {v3 : Int32} {v4 : Int32} {v5 : Int32} : aq X d n m_X3_pace (k + 4) 64 [some (.ref (iW bw)), some (.int v1), some (.int v2)] [.int v5, .int v4, .int v3, .ref ((iW bw) + 3)] (mkS w I J) = if v1 < 0 ∨ LL ((iW bw) + 3) ≤ v1.toNatClampNeg then none else aq X d n m_X3_pace k 68 [some (.ref (iW bw)), some (.int v1), some (.int v2)] [.int (I ((iW bw) + 3) v1.toNatClampNeg), .int v5, .int v4, .int v3, .ref ((iW bw) + 3)] (mkS w I J) := by cases bw <;> rfl
set_option maxRecDepth 100000 in
set_option maxHeartbeats 200000 in
theorem f_pace_68sss {X : Nat × (Nat → Int32)} {d n k : Nat} {w : Bool × Bool × Bool} {I : Nat → Nat → Int32} {J : Nat → Nat → Int64} {bw : Bool} {v1 : Int32} {v2 : Int32} {v3 : Int32} {v4 : Int32} {v5 : Int32} {v6 : Int32} : aq X d n m_X3_pace (k + 1) 68 [some (.ref (iW bw)), some (.int v1), some (.int v2)] [.int v6, .int v5, .int v4, .int v3, .ref ((iW bw) + 3)] (mkS w I J) = cI (am_call X aP d 38 [.int v4, .int v5, .int v6] (mkS w I J)) (fun r1 s1 => aq X d n m_X3_pace k 69 [some (.ref (iW bw)), some (.int v1), some (.int v2)] [.int r1, .int v3, .ref ((iW bw) + 3)] (mkS w (gI s1) (gJ s1))) (fun e s1 => rX e (mkS w (gI s1) (gJ s1))) := by cases bw <;> rfl
set_option maxRecDepth 100000 in
set_option maxHeartbeats 200000 in
theorem f_pace_69sss {X : Nat × (Nat → Int32)} {d n k : Nat} {w : Bool × Bool × Bool} {I : Nat → Nat → Int32} {J : Nat → Nat → Int64} {bw : Bool} {v1 : Int32} {v2 : Int32} {v3 : Int32} {v4 : Int32} : aq X d n m_X3_pace (k + 1) 69 [some (.ref (iW bw)), some (.int v1), some (.int v2)] [.int v4, .int v3, .ref ((iW bw) + 3)] (mkS w I J) = if v3 < 0 ∨ LL ((iW bw) + 3) ≤ v3.toNatClampNeg then none else aq X d n m_X3_pace k 70 [some (.ref (iW bw)), some (.int v1), some (.int v2)] [] (mkS w (uI I ((iW bw) + 3) v3.toNatClampNeg v4) J) := by cases bw <;> rfl
set_option maxRecDepth 100000 in
theorem e_X3_pace_4 (X : Nat × (Nat → Int32)) (d n : Nat) (w : Bool × Bool × Bool) (I : Nat → Nat → Int32) (J : Nat → Nat → Int64) (bw : Bool) (x1 : Int32) (x2 : Int32) : aR X d m_X3_pace (n + 1) 4 [some (.ref (iW bw)), some (.int x1), some (.int x2)] (0, 0) (mkS w I J) =
  if x2 < (I (iW bw) 4) then (if x1 < (nI 150) then (if x2 < 0 ∨ LL ((iW bw) + 1) ≤ x2.toNatClampNeg then none else if (I ((iW bw) + 1) x2.toNatClampNeg) = 0 then (if x2 < 0 ∨ LL ((iW bw) + 2) ≤ x2.toNatClampNeg then none else if x1 < 0 ∨ LL ((iW bw) + 3) ≤ x1.toNatClampNeg then none else aR X d m_X3_pace n 4 [some (.ref (iW bw)), some (.int (x1 + nI 1)), some (.int (x2 + nI 1))] (0, 0) (mkS w (uI I ((iW bw) + 3) x1.toNatClampNeg (I ((iW bw) + 2) x2.toNatClampNeg)) J)) else if x2 < 0 ∨ LL ((iW bw) + 1) ≤ x2.toNatClampNeg then none else if (I ((iW bw) + 1) x2.toNatClampNeg) = (nI 1) then (if x2 < 0 ∨ LL ((iW bw) + 2) ≤ x2.toNatClampNeg then none else if (I ((iW bw) + 2) x2.toNatClampNeg) < 0 ∨ LL ((iW bw) + 4) ≤ (I ((iW bw) + 2) x2.toNatClampNeg).toNatClampNeg then none else if x1 < 0 ∨ LL ((iW bw) + 3) ≤ x1.toNatClampNeg then none else aR X d m_X3_pace n 4 [some (.ref (iW bw)), some (.int (x1 + nI 1)), some (.int (x2 + nI 1))] (0, 0) (mkS w (uI I ((iW bw) + 3) x1.toNatClampNeg (I ((iW bw) + 4) (I ((iW bw) + 2) x2.toNatClampNeg).toNatClampNeg)) J)) else if x1 < (nI 2) then (aR X d m_X3_pace n 4 [some (.ref (iW bw)), some (.int x1), some (.int (x2 + nI 1))] (0, 0) (mkS w I J)) else if x2 < 0 ∨ LL ((iW bw) + 1) ≤ x2.toNatClampNeg then none else if ((x1 - nI 1) - (nI 1)) < 0 ∨ LL ((iW bw) + 3) ≤ ((x1 - nI 1) - (nI 1)).toNatClampNeg then none else if (x1 - nI 1) < 0 ∨ LL ((iW bw) + 3) ≤ (x1 - nI 1).toNatClampNeg then none else cI (am_call X aP d 38 [.int (I ((iW bw) + 1) x2.toNatClampNeg), .int (I ((iW bw) + 3) ((x1 - nI 1) - (nI 1)).toNatClampNeg), .int (I ((iW bw) + 3) (x1 - nI 1).toNatClampNeg)] (mkS w I J)) (fun r2 s1 => if ((x1 - nI 1) - (nI 1)) < 0 ∨ LL ((iW bw) + 3) ≤ ((x1 - nI 1) - (nI 1)).toNatClampNeg then none else aR X d m_X3_pace n 4 [some (.ref (iW bw)), some (.int (x1 - nI 1)), some (.int (x2 + nI 1))] (0, 0) (mkS w (uI (gI s1) ((iW bw) + 3) ((x1 - nI 1) - (nI 1)).toNatClampNeg r2) (gJ s1))) (fun e9 s1 => rX e9 (mkS w (gI s1) (gJ s1)))) else aR X d m_X3_pace n 72 [some (.ref (iW bw)), none, none] (0, 0) (mkS w I J)) else aR X d m_X3_pace n 72 [some (.ref (iW bw)), none, none] (0, 0) (mkS w I J) := by
  rw [aq_aR]
  rw [f_pace_4sss]
  refine ite_both ?_ ?_
  · rw [f_pace_8sss]
    refine ite_both ?_ ?_
    · rw [f_pace_11sss]
      refine ite_else ?_
      rw [f_pace_15sss]
      refine ite_both ?_ ?_
      · rw [f_pace_16sss]
        refine ite_else ?_
        rw [f_pace_23sss]
        refine ite_else ?_
        rw [f_pace_24sss]
      · rw [f_pace_26sss]
        refine ite_else ?_
        rw [f_pace_30sss]
        refine ite_both ?_ ?_
        · rw [f_pace_32sss]
          refine ite_else ?_
          rw [f_pace_41sss]
          refine ite_else ?_
          rw [f_pace_42sss]
          refine ite_else ?_
          rw [f_pace_43sss]
        · rw [f_pace_45sss]
          refine ite_both ?_ ?_
          · rw [f_pace_70sss]
          · rw [f_pace_48sss]
            refine ite_else ?_
            rw [f_pace_58sss]
            refine ite_else ?_
            rw [f_pace_64sss]
            refine ite_else ?_
            rw [f_pace_68sss]
            refine cI_both (fun r s => ?_)
            rw [f_pace_69sss]
            refine ite_else ?_
            rw [f_pace_70sss]
    · rfl
  · rfl
set_option maxRecDepth 100000 in
set_option maxHeartbeats 200000 in
theorem f_isTurned_0ssn {X : Nat × (Nat → Int32)} {d n k : Nat} {w : Bool × Bool × Bool} {I : Nat → Nat → Int32} {J : Nat → Nat → Int64} {v1 : Int32} : aq X d n m_X10_isTurned (k + 6) 0 [some (.ref 132), some (.int v1), none] [] (mkS w I J) = if ((nI 34) + v1) < 0 ∨ 51 ≤ ((nI 34) + v1).toNatClampNeg then none else aq X d n m_X10_isTurned k 6 [some (.ref 132), some (.int v1), none] [.int (I 148 ((nI 34) + v1).toNatClampNeg)] (mkS w I J) := rfl
set_option maxRecDepth 100000 in
set_option maxHeartbeats 200000 in
theorem f_isTurned_6ssn {X : Nat × (Nat → Int32)} {d n k : Nat} {w : Bool × Bool × Bool} {I : Nat → Nat → Int32} {J : Nat → Nat → Int64} {v1 : Int32} {v2 : Int32} : aq X d n m_X10_isTurned (k + 2) 6 [some (.ref 132), some (.int v1), none] [.int v2] (mkS w I J) = if v2 = (nI 4294967295) then aq X d n m_X10_isTurned k 8 [some (.ref 132), some (.int v1), none] [] (mkS w I J) else aq X d n m_X10_isTurned k 10 [some (.ref 132), some (.int v1), none] [] (mkS w I J) := rfl
set_option maxRecDepth 100000 in
set_option maxHeartbeats 200000 in
theorem f_isTurned_8ssn {X : Nat × (Nat → Int32)} {d n k : Nat} {w : Bool × Bool × Bool} {I : Nat → Nat → Int32} {J : Nat → Nat → Int64} {v1 : Int32} : aq X d n m_X10_isTurned (k + 2) 8 [some (.ref 132), some (.int v1), none] [] (mkS w I J) = rI (nI 0) (mkS w I J) := rfl
set_option maxRecDepth 100000 in
set_option maxHeartbeats 200000 in
theorem f_isTurned_10ssn {X : Nat × (Nat → Int32)} {d n k : Nat} {w : Bool × Bool × Bool} {I : Nat → Nat → Int32} {J : Nat → Nat → Int64} {v1 : Int32} : aq X d n m_X10_isTurned (k + 6) 10 [some (.ref 132), some (.int v1), none] [] (mkS w I J) = if ((nI 24) + v1) < 0 ∨ 51 ≤ ((nI 24) + v1).toNatClampNeg then none else aq X d n m_X10_isTurned k 16 [some (.ref 132), some (.int v1), none] [.int (I 148 ((nI 24) + v1).toNatClampNeg)] (mkS w I J) := rfl
set_option maxRecDepth 100000 in
set_option maxHeartbeats 200000 in
theorem f_isTurned_16ssn {X : Nat × (Nat → Int32)} {d n k : Nat} {w : Bool × Bool × Bool} {I : Nat → Nat → Int32} {J : Nat → Nat → Int64} {v1 : Int32} {v2 : Int32} : aq X d n m_X10_isTurned (k + 12) 16 [some (.ref 132), some (.int v1), none] [.int v2] (mkS w I J) = if ((nI 29) + v1) < 0 ∨ 51 ≤ ((nI 29) + v1).toNatClampNeg then none else aq X d n m_X10_isTurned k 28 [some (.ref 132), some (.int v1), some (.int v2)] [.int (I 148 ((nI 29) + v1).toNatClampNeg), .int ((nI 24) + v1), .ref 148] (mkS w I J) := rfl
set_option maxRecDepth 100000 in
set_option maxHeartbeats 200000 in
theorem f_isTurned_28sss {X : Nat × (Nat → Int32)} {d n k : Nat} {w : Bool × Bool × Bool} {I : Nat → Nat → Int32} {J : Nat → Nat → Int64} {v1 : Int32} {v2 : Int32} {v3 : Int32} {v4 : Int32} : aq X d n m_X10_isTurned (k + 1) 28 [some (.ref 132), some (.int v1), some (.int v2)] [.int v4, .int v3, .ref 148] (mkS w I J) = if v3 < 0 ∨ 51 ≤ v3.toNatClampNeg then none else aq X d n m_X10_isTurned k 29 [some (.ref 132), some (.int v1), some (.int v2)] [] (mkS w (uI I 148 v3.toNatClampNeg v4) J) := rfl
set_option maxRecDepth 100000 in
set_option maxHeartbeats 200000 in
theorem f_isTurned_29sss {X : Nat × (Nat → Int32)} {d n k : Nat} {w : Bool × Bool × Bool} {I : Nat → Nat → Int32} {J : Nat → Nat → Int64} {v1 : Int32} {v2 : Int32} : aq X d n m_X10_isTurned (k + 7) 29 [some (.ref 132), some (.int v1), some (.int v2)] [] (mkS w I J) = if ((nI 29) + v1) < 0 ∨ 51 ≤ ((nI 29) + v1).toNatClampNeg then none else aq X d n m_X10_isTurned k 36 [some (.ref 132), some (.int v1), some (.int v2)] [] (mkS w (uI I 148 ((nI 29) + v1).toNatClampNeg v2) J) := rfl
set_option maxRecDepth 100000 in
set_option maxHeartbeats 200000 in
theorem f_isTurned_36sss {X : Nat × (Nat → Int32)} {d n k : Nat} {w : Bool × Bool × Bool} {I : Nat → Nat → Int32} {J : Nat → Nat → Int64} {v1 : Int32} {v2 : Int32} : aq X d n m_X10_isTurned (k + 14) 36 [some (.ref 132), some (.int v1), some (.int v2)] [] (mkS w I J) = if ((nI 34) + v1) < 0 ∨ 51 ≤ ((nI 34) + v1).toNatClampNeg then none else aq X d n m_X10_isTurned k 50 [some (.ref 132), some (.int v1), some (.int v2)] [.int (I 148 ((nI 34) + v1).toNatClampNeg), .int (nI 4), .ref 137, .int ((nI 39) + v1), .ref 148] (mkS w I J) := rfl
set_option maxRecDepth 100000 in
set_option maxHeartbeats 200000 in
theorem f_isTurned_50sss {X : Nat × (Nat → Int32)} {d n k : Nat} {w : Bool × Bool × Bool} {I : Nat → Nat → Int32} {J : Nat → Nat → Int64} {v1 : Int32} {v2 : Int32} {v3 : Int32} {v4 : Int32} {v5 : Int32} : aq X d n m_X10_isTurned (k + 4) 50 [some (.ref 132), some (.int v1), some (.int v2)] [.int v5, .int v4, .ref 137, .int v3, .ref 148] (mkS w I J) = if ((v4 * v5) + (nI 2)) < 0 ∨ 48 ≤ ((v4 * v5) + (nI 2)).toNatClampNeg then none else aq X d n m_X10_isTurned k 54 [some (.ref 132), some (.int v1), some (.int v2)] [.int (I 137 ((v4 * v5) + (nI 2)).toNatClampNeg), .int v3, .ref 148] (mkS w I J) := rfl
set_option maxRecDepth 100000 in
set_option maxHeartbeats 200000 in
theorem f_isTurned_54sss {X : Nat × (Nat → Int32)} {d n k : Nat} {w : Bool × Bool × Bool} {I : Nat → Nat → Int32} {J : Nat → Nat → Int64} {v1 : Int32} {v2 : Int32} {v3 : Int32} {v4 : Int32} : aq X d n m_X10_isTurned (k + 6) 54 [some (.ref 132), some (.int v1), some (.int v2)] [.int v4, .int v3, .ref 148] (mkS w I J) = if ((nI 39) + v1) < 0 ∨ 51 ≤ ((nI 39) + v1).toNatClampNeg then none else aq X d n m_X10_isTurned k 60 [some (.ref 132), some (.int v1), some (.int v2)] [.int (I 148 ((nI 39) + v1).toNatClampNeg), .int v4, .int v3, .ref 148] (mkS w I J) := rfl
set_option maxRecDepth 100000 in
set_option maxHeartbeats 200000 in
theorem f_isTurned_60sss {X : Nat × (Nat → Int32)} {d n k : Nat} {w : Bool × Bool × Bool} {I : Nat → Nat → Int32} {J : Nat → Nat → Int64} {v1 : Int32} {v2 : Int32} {v3 : Int32} {v4 : Int32} {v5 : Int32} : aq X d n m_X10_isTurned (k + 2) 60 [some (.ref 132), some (.int v1), some (.int v2)] [.int v5, .int v4, .int v3, .ref 148] (mkS w I J) = if v3 < 0 ∨ 51 ≤ v3.toNatClampNeg then none else aq X d n m_X10_isTurned k 62 [some (.ref 132), some (.int v1), some (.int v2)] [] (mkS w (uI I 148 v3.toNatClampNeg (v4 - v5)) J) := rfl
set_option maxRecDepth 100000 in
set_option maxHeartbeats 200000 in
theorem f_isTurned_62sss {X : Nat × (Nat → Int32)} {d n k : Nat} {w : Bool × Bool × Bool} {I : Nat → Nat → Int32} {J : Nat → Nat → Int64} {v1 : Int32} {v2 : Int32} : aq X d n m_X10_isTurned (k + 2) 62 [some (.ref 132), some (.int v1), some (.int v2)] [] (mkS w I J) = rI (nI 1) (mkS w I J) := rfl
set_option maxRecDepth 100000 in
theorem e_X10_isTurned_0 (X : Nat × (Nat → Int32)) (d n : Nat) (w : Bool × Bool × Bool) (I : Nat → Nat → Int32) (J : Nat → Nat → Int64) (x1 : Int32) : aR X d m_X10_isTurned (n + 1) 0 [some (.ref 132), some (.int x1), none] (0, 0) (mkS w I J) =
  if ((nI 34) + x1) < 0 ∨ 51 ≤ ((nI 34) + x1).toNatClampNeg then none else if (I 148 ((nI 34) + x1).toNatClampNeg) = (nI 4294967295) then (rI (nI 0) (mkS w I J)) else if ((nI 24) + x1) < 0 ∨ 51 ≤ ((nI 24) + x1).toNatClampNeg then none else if ((nI 29) + x1) < 0 ∨ 51 ≤ ((nI 29) + x1).toNatClampNeg then none else if ((nI 24) + x1) < 0 ∨ 51 ≤ ((nI 24) + x1).toNatClampNeg then none else if ((nI 29) + x1) < 0 ∨ 51 ≤ ((nI 29) + x1).toNatClampNeg then none else if ((nI 34) + x1) < 0 ∨ 51 ≤ ((nI 34) + x1).toNatClampNeg then none else if (((nI 4) * ((uI (uI I 148 ((nI 24) + x1).toNatClampNeg (I 148 ((nI 29) + x1).toNatClampNeg)) 148 ((nI 29) + x1).toNatClampNeg (I 148 ((nI 24) + x1).toNatClampNeg)) 148 ((nI 34) + x1).toNatClampNeg)) + (nI 2)) < 0 ∨ 48 ≤ (((nI 4) * ((uI (uI I 148 ((nI 24) + x1).toNatClampNeg (I 148 ((nI 29) + x1).toNatClampNeg)) 148 ((nI 29) + x1).toNatClampNeg (I 148 ((nI 24) + x1).toNatClampNeg)) 148 ((nI 34) + x1).toNatClampNeg)) + (nI 2)).toNatClampNeg then none else if ((nI 39) + x1) < 0 ∨ 51 ≤ ((nI 39) + x1).toNatClampNeg then none else if ((nI 39) + x1) < 0 ∨ 51 ≤ ((nI 39) + x1).toNatClampNeg then none else rI (nI 1) (mkS w (uI (uI (uI I 148 ((nI 24) + x1).toNatClampNeg (I 148 ((nI 29) + x1).toNatClampNeg)) 148 ((nI 29) + x1).toNatClampNeg (I 148 ((nI 24) + x1).toNatClampNeg)) 148 ((nI 39) + x1).toNatClampNeg (((uI (uI I 148 ((nI 24) + x1).toNatClampNeg (I 148 ((nI 29) + x1).toNatClampNeg)) 148 ((nI 29) + x1).toNatClampNeg (I 148 ((nI 24) + x1).toNatClampNeg)) 137 (((nI 4) * ((uI (uI I 148 ((nI 24) + x1).toNatClampNeg (I 148 ((nI 29) + x1).toNatClampNeg)) 148 ((nI 29) + x1).toNatClampNeg (I 148 ((nI 24) + x1).toNatClampNeg)) 148 ((nI 34) + x1).toNatClampNeg)) + (nI 2)).toNatClampNeg) - ((uI (uI I 148 ((nI 24) + x1).toNatClampNeg (I 148 ((nI 29) + x1).toNatClampNeg)) 148 ((nI 29) + x1).toNatClampNeg (I 148 ((nI 24) + x1).toNatClampNeg)) 148 ((nI 39) + x1).toNatClampNeg))) J) := by
  rw [aq_aR]
  rw [f_isTurned_0ssn]
  refine ite_else ?_
  rw [f_isTurned_6ssn]
  refine ite_both ?_ ?_
  · rw [f_isTurned_8ssn]
  · rw [f_isTurned_10ssn]
    refine ite_else ?_
    rw [f_isTurned_16ssn]
    refine ite_else ?_
    rw [f_isTurned_28sss]
    refine ite_else ?_
    rw [f_isTurned_29sss]
    refine ite_else ?_
    rw [f_isTurned_36sss]
    refine ite_else ?_
    rw [f_isTurned_50sss]
    refine ite_else ?_
    rw [f_isTurned_54sss]
    refine ite_else ?_
    rw [f_isTurned_60sss]
    refine ite_else ?_
    rw [f_isTurned_62sss]
set_option maxRecDepth 100000 in
set_option maxHeartbeats 200000 in
theorem f_turnRound_0sssn {X : Nat × (Nat → Int32)} {d n k : Nat} {w : Bool × Bool × Bool} {I : Nat → Nat → Int32} {J : Nat → Nat → Int64} {bl : Bool} {bs : Bool} {v1 : Int32} : aq X d n m_X5_turnRound (k + 4) 0 [some (.ref (iS bs)), some (.ref (iL bl)), some (.int v1), none] [] (mkS w I J) = if v1 < 0 ∨ LL ((iS bs) + 5) ≤ v1.toNatClampNeg then none else aq X d n m_X5_turnRound k 4 [some (.ref (iS bs)), some (.ref (iL bl)), some (.int v1), none] [.int (I ((iS bs) + 5) v1.toNatClampNeg)] (mkS w I J) := by cases bl <;> cases bs <;> rfl
set_option maxRecDepth 100000 in
set_option maxHeartbeats 200000 in
theorem f_turnRound_4sssn {X : Nat × (Nat → Int32)} {d n k : Nat} {w : Bool × Bool × Bool} {I : Nat → Nat → Int32} {J : Nat → Nat → Int64} {bl : Bool} {bs : Bool} {v1 : Int32} {v2 : Int32} : aq X d n m_X5_turnRound (k + 2) 4 [some (.ref (iS bs)), some (.ref (iL bl)), some (.int v1), none] [.int v2] (mkS w I J) = if v2 = (nI 4294967295) then aq X d n m_X5_turnRound k 6 [some (.ref (iS bs)), some (.ref (iL bl)), some (.int v1), none] [] (mkS w I J) else aq X d n m_X5_turnRound k 8 [some (.ref (iS bs)), some (.ref (iL bl)), some (.int v1), none] [] (mkS w I J) := by cases bl <;> cases bs <;> rfl
set_option maxRecDepth 100000 in
set_option maxHeartbeats 200000 in
theorem f_turnRound_6sssn {X : Nat × (Nat → Int32)} {d n k : Nat} {w : Bool × Bool × Bool} {I : Nat → Nat → Int32} {J : Nat → Nat → Int64} {bl : Bool} {bs : Bool} {v1 : Int32} : aq X d n m_X5_turnRound (k + 2) 6 [some (.ref (iS bs)), some (.ref (iL bl)), some (.int v1), none] [] (mkS w I J) = rI (nI 0) (mkS w I J) := by cases bl <;> cases bs <;> rfl
set_option maxRecDepth 100000 in
set_option maxHeartbeats 200000 in
theorem f_turnRound_8sssn {X : Nat × (Nat → Int32)} {d n k : Nat} {w : Bool × Bool × Bool} {I : Nat → Nat → Int32} {J : Nat → Nat → Int64} {bl : Bool} {bs : Bool} {v1 : Int32} : aq X d n m_X5_turnRound (k + 9) 8 [some (.ref (iS bs)), some (.ref (iL bl)), some (.int v1), none] [] (mkS w I J) = if v1 < 0 ∨ LL ((iS bs) + 5) ≤ v1.toNatClampNeg then none else aq X d n m_X5_turnRound k 17 [some (.ref (iS bs)), some (.ref (iL bl)), some (.int v1), none] [.int (I ((iS bs) + 5) v1.toNatClampNeg), .ref ((iL bl) + 3), .int v1, .ref ((iS bs) + 6)] (mkS w I J) := by cases bl <;> cases bs <;> rfl
set_option maxRecDepth 100000 in
set_option maxHeartbeats 200000 in
theorem f_turnRound_17sssn {X : Nat × (Nat → Int32)} {d n k : Nat} {w : Bool × Bool × Bool} {I : Nat → Nat → Int32} {J : Nat → Nat → Int64} {bl : Bool} {bs : Bool} {v1 : Int32} {v2 : Int32} {v3 : Int32} : aq X d n m_X5_turnRound (k + 1) 17 [some (.ref (iS bs)), some (.ref (iL bl)), some (.int v1), none] [.int v3, .ref ((iL bl) + 3), .int v2, .ref ((iS bs) + 6)] (mkS w I J) = if v3 < 0 ∨ LL ((iL bl) + 3) ≤ v3.toNatClampNeg then none else aq X d n m_X5_turnRound k 18 [some (.ref (iS bs)), some (.ref (iL bl)), some (.int v1), none] [.int (I ((iL bl) + 3) v3.toNatClampNeg), .int v2, .ref ((iS bs) + 6)] (mkS w I J) := by cases bl <;> cases bs <;> rfl
set_option maxRecDepth 100000 in
set_option maxHeartbeats 200000 in
theorem f_turnRound_18sssn {X : Nat × (Nat → Int32)} {d n k : Nat} {w : Bool × Bool × Bool} {I : Nat → Nat → Int32} {J : Nat → Nat → Int64} {bl : Bool} {bs : Bool} {v1 : Int32} {v2 : Int32} {v3 : Int32} : aq X d n m_X5_turnRound (k + 4) 18 [some (.ref (iS bs)), some (.ref (iL bl)), some (.int v1), none] [.int v3, .int v2, .ref ((iS bs) + 6)] (mkS w I J) = if v1 < 0 ∨ LL ((iS bs) + 6) ≤ v1.toNatClampNeg then none else aq X d n m_X5_turnRound k 22 [some (.ref (iS bs)), some (.ref (iL bl)), some (.int v1), none] [.int (I ((iS bs) + 6) v1.toNatClampNeg), .int v3, .int v2, .ref ((iS bs) + 6)] (mkS w I J) := by cases bl <;> cases bs <;> rfl
set_option maxRecDepth 100000 in
set_option maxHeartbeats 200000 in
theorem f_turnRound_22sssn {X : Nat × (Nat → Int32)} {d n k : Nat} {w : Bool × Bool × Bool} {I : Nat → Nat → Int32} {J : Nat → Nat → Int64} {bl : Bool} {bs : Bool} {v1 : Int32} {v2 : Int32} {v3 : Int32} {v4 : Int32} : aq X d n m_X5_turnRound (k + 2) 22 [some (.ref (iS bs)), some (.ref (iL bl)), some (.int v1), none] [.int v4, .int v3, .int v2, .ref ((iS bs) + 6)] (mkS w I J) = if v2 < 0 ∨ LL ((iS bs) + 6) ≤ v2.toNatClampNeg then none else aq X d n m_X5_turnRound k 24 [some (.ref (iS bs)), some (.ref (iL bl)), some (.int v1), none] [] (mkS w (uI I ((iS bs) + 6) v2.toNatClampNeg (v3 - v4)) J) := by cases bl <;> cases bs <;> rfl
set_option maxRecDepth 100000 in
set_option maxHeartbeats 200000 in
theorem f_turnRound_24sssn {X : Nat × (Nat → Int32)} {d n k : Nat} {w : Bool × Bool × Bool} {I : Nat → Nat → Int32} {J : Nat → Nat → Int64} {bl : Bool} {bs : Bool} {v1 : Int32} : aq X d n m_X5_turnRound (k + 4) 24 [some (.ref (iS bs)), some (.ref (iL bl)), some (.int v1), none] [] (mkS w I J) = if v1 < 0 ∨ LL ((iS bs) + 4) ≤ v1.toNatClampNeg then none else aq X d n m_X5_turnRound k 28 [some (.ref (iS bs)), some (.ref (iL bl)), some (.int v1), none] [.int (I ((iS bs) + 4) v1.toNatClampNeg)] (mkS w I J) := by cases bl <;> cases bs <;> rfl
set_option maxRecDepth 100000 in
set_option maxHeartbeats 200000 in
theorem f_turnRound_28sssn {X : Nat × (Nat → Int32)} {d n k : Nat} {w : Bool × Bool × Bool} {I : Nat → Nat → Int32} {J : Nat → Nat → Int64} {bl : Bool} {bs : Bool} {v1 : Int32} {v2 : Int32} : aq X d n m_X5_turnRound (k + 8) 28 [some (.ref (iS bs)), some (.ref (iL bl)), some (.int v1), none] [.int v2] (mkS w I J) = if v1 < 0 ∨ LL ((iS bs) + 3) ≤ v1.toNatClampNeg then none else aq X d n m_X5_turnRound k 36 [some (.ref (iS bs)), some (.ref (iL bl)), some (.int v1), some (.int v2)] [.int (I ((iS bs) + 3) v1.toNatClampNeg), .int v1, .ref ((iS bs) + 4)] (mkS w I J) := by cases bl <;> cases bs <;> rfl
set_option maxRecDepth 100000 in
set_option maxHeartbeats 200000 in
theorem f_turnRound_36ssss {X : Nat × (Nat → Int32)} {d n k : Nat} {w : Bool × Bool × Bool} {I : Nat → Nat → Int32} {J : Nat → Nat → Int64} {bl : Bool} {bs : Bool} {v1 : Int32} {v2 : Int32} {v3 : Int32} {v4 : Int32} : aq X d n m_X5_turnRound (k + 1) 36 [some (.ref (iS bs)), some (.ref (iL bl)), some (.int v1), some (.int v2)] [.int v4, .int v3, .ref ((iS bs) + 4)] (mkS w I J) = if v3 < 0 ∨ LL ((iS bs) + 4) ≤ v3.toNatClampNeg then none else aq X d n m_X5_turnRound k 37 [some (.ref (iS bs)), some (.ref (iL bl)), some (.int v1), some (.int v2)] [] (mkS w (uI I ((iS bs) + 4) v3.toNatClampNeg v4) J) := by cases bl <;> cases bs <;> rfl
set_option maxRecDepth 100000 in
set_option maxHeartbeats 200000 in
theorem f_turnRound_37ssss {X : Nat × (Nat → Int32)} {d n k : Nat} {w : Bool × Bool × Bool} {I : Nat → Nat → Int32} {J : Nat → Nat → Int64} {bl : Bool} {bs : Bool} {v1 : Int32} {v2 : Int32} : aq X d n m_X5_turnRound (k + 5) 37 [some (.ref (iS bs)), some (.ref (iL bl)), some (.int v1), some (.int v2)] [] (mkS w I J) = if v1 < 0 ∨ LL ((iS bs) + 3) ≤ v1.toNatClampNeg then none else aq X d n m_X5_turnRound k 42 [some (.ref (iS bs)), some (.ref (iL bl)), some (.int v1), some (.int v2)] [] (mkS w (uI I ((iS bs) + 3) v1.toNatClampNeg v2) J) := by cases bl <;> cases bs <;> rfl
set_option maxRecDepth 100000 in
set_option maxHeartbeats 200000 in
theorem f_turnRound_42ssss {X : Nat × (Nat → Int32)} {d n k : Nat} {w : Bool × Bool × Bool} {I : Nat → Nat → Int32} {J : Nat → Nat → Int64} {bl : Bool} {bs : Bool} {v1 : Int32} {v2 : Int32} : aq X d n m_X5_turnRound (k + 2) 42 [some (.ref (iS bs)), some (.ref (iL bl)), some (.int v1), some (.int v2)] [] (mkS w I J) = rI (nI 1) (mkS w I J) := by cases bl <;> cases bs <;> rfl
set_option maxRecDepth 100000 in
theorem e_X5_turnRound_0 (X : Nat × (Nat → Int32)) (d n : Nat) (w : Bool × Bool × Bool) (I : Nat → Nat → Int32) (J : Nat → Nat → Int64) (bl : Bool) (bs : Bool) (x2 : Int32) : aR X d m_X5_turnRound (n + 1) 0 [some (.ref (iS bs)), some (.ref (iL bl)), some (.int x2), none] (0, 0) (mkS w I J) =
  if x2 < 0 ∨ LL ((iS bs) + 5) ≤ x2.toNatClampNeg then none else if (I ((iS bs) + 5) x2.toNatClampNeg) = (nI 4294967295) then (rI (nI 0) (mkS w I J)) else if x2 < 0 ∨ LL ((iS bs) + 5) ≤ x2.toNatClampNeg then none else if (I ((iS bs) + 5) x2.toNatClampNeg) < 0 ∨ LL ((iL bl) + 3) ≤ (I ((iS bs) + 5) x2.toNatClampNeg).toNatClampNeg then none else if x2 < 0 ∨ LL ((iS bs) + 6) ≤ x2.toNatClampNeg then none else if x2 < 0 ∨ LL ((iS bs) + 6) ≤ x2.toNatClampNeg then none else if x2 < 0 ∨ LL ((iS bs) + 4) ≤ x2.toNatClampNeg then none else if x2 < 0 ∨ LL ((iS bs) + 3) ≤ x2.toNatClampNeg then none else if x2 < 0 ∨ LL ((iS bs) + 4) ≤ x2.toNatClampNeg then none else if x2 < 0 ∨ LL ((iS bs) + 3) ≤ x2.toNatClampNeg then none else rI (nI 1) (mkS w (uI (uI (uI I ((iS bs) + 6) x2.toNatClampNeg ((I ((iL bl) + 3) (I ((iS bs) + 5) x2.toNatClampNeg).toNatClampNeg) - (I ((iS bs) + 6) x2.toNatClampNeg))) ((iS bs) + 4) x2.toNatClampNeg ((uI I ((iS bs) + 6) x2.toNatClampNeg ((I ((iL bl) + 3) (I ((iS bs) + 5) x2.toNatClampNeg).toNatClampNeg) - (I ((iS bs) + 6) x2.toNatClampNeg))) ((iS bs) + 3) x2.toNatClampNeg)) ((iS bs) + 3) x2.toNatClampNeg ((uI I ((iS bs) + 6) x2.toNatClampNeg ((I ((iL bl) + 3) (I ((iS bs) + 5) x2.toNatClampNeg).toNatClampNeg) - (I ((iS bs) + 6) x2.toNatClampNeg))) ((iS bs) + 4) x2.toNatClampNeg)) J) := by
  rw [aq_aR]
  rw [f_turnRound_0sssn]
  refine ite_else ?_
  rw [f_turnRound_4sssn]
  refine ite_both ?_ ?_
  · rw [f_turnRound_6sssn]
  · rw [f_turnRound_8sssn]
    refine ite_else ?_
    rw [f_turnRound_17sssn]
    refine ite_else ?_
    rw [f_turnRound_18sssn]
    refine ite_else ?_
    rw [f_turnRound_22sssn]
    refine ite_else ?_
    rw [f_turnRound_24sssn]
    refine ite_else ?_
    rw [f_turnRound_28sssn]
    refine ite_else ?_
    rw [f_turnRound_36ssss]
    refine ite_else ?_
    rw [f_turnRound_37ssss]
    refine ite_else ?_
    rw [f_turnRound_42ssss]
